def P_X5_readSigns (m0 : Mnt) (sh : Nat → Nat) (rr : Nat → Ras) (r : Nat) (ww : Nat → Row) (so : Nat) (pl : Pal) (qo : Qoi) (pn : Pnm) (bm : Bmp) (tg : Tga) (px : Pcx) (fa : A) (hb : aH) (n : Nat) (res : Out (Ras × Src) Unit) : Option Value → aH → Nat → Prop := fun r1 h2 n2 => ∃ (a : Unit) (s : (Ras × Src)), res = fok a s ∧ r1 = none ∧ h2 = HC m0 sh (va_up rr r s.1) ww so s.2 pl qo pn bm tg px fa hb ∧ n = n2
def X_X5_readSigns (m0 : Mnt) (sh : Nat → Nat) (rr : Nat → Ras) (r : Nat) (ww : Nat → Row) (so : Nat) (pl : Pal) (qo : Qoi) (pn : Pnm) (bm : Bmp) (tg : Tga) (px : Pcx) (fa : A) (hb : aH) (n : Nat) (res : Out (Ras × Src) Unit) : String → aH → Nat → Prop := fun E h2 n2 => ∃ s : (Ras × Src), res = fex E s ∧ h2 = HC m0 sh (va_up rr r s.1) ww so s.2 pl qo pn bm tg px fa hb ∧ n = n2
abbrev Q_X5_readSigns_11 (m0 : Mnt) (sh : Nat → Nat) (rr : Nat → Ras) (r : Nat) (ww : Nat → Row) (so : Nat) (pl : Pal) (qo : Qoi) (pn : Pnm) (bm : Bmp) (tg : Tga) (px : Pcx) (fa : A) (hb : aH) (n : Nat) (k : Int32 → Int32 → Ras → Src → Out (Ras × Src) Unit) : Prop := ∀ (v2 : Int32) (v3 : Int32) (x : Ras) (sc : Src) (res : Out (Ras × Src) Unit), k v2 v3 x sc = res → res ≠ fno → AW (fun _ _ => True) mX5_readSigns (rmD 5 1 6) 0 0 (P_X5_readSigns m0 sh rr r ww so pl qo pn bm tg px fa hb n res) (X_X5_readSigns m0 sh rr r ww so pl qo pn bm tg px fa hb n res) 0 0 11 [(0, .ref 16), (1, .ref r), (2, .int v2), (3, .int v3)] [] (HC m0 sh (va_up rr r x) ww so sc pl qo pn bm tg px fa hb) n
abbrev Q_X5_readSigns_53 (m0 : Mnt) (sh : Nat → Nat) (rr : Nat → Ras) (r : Nat) (ww : Nat → Row) (so : Nat) (pl : Pal) (qo : Qoi) (pn : Pnm) (bm : Bmp) (tg : Tga) (px : Pcx) (fa : A) (hb : aH) (n : Nat) (k : Int32 → Int32 → Int32 → Ras → Src → Out (Ras × Src) Unit) : Prop := ∀ (v2 : Int32) (v3 : Int32) (v5 : Int32) (x : Ras) (sc : Src) (res : Out (Ras × Src) Unit), k v2 v3 v5 x sc = res → res ≠ fno → AW (fun _ _ => True) mX5_readSigns (rmD 5 1 6) 0 0 (P_X5_readSigns m0 sh rr r ww so pl qo pn bm tg px fa hb n res) (X_X5_readSigns m0 sh rr r ww so pl qo pn bm tg px fa hb n res) 0 0 53 [(0, .ref 16), (1, .ref r), (2, .int v2), (3, .int v3), (5, .int v5)] [] (HC m0 sh (va_up rr r x) ww so sc pl qo pn bm tg px fa hb) n
abbrev Q_X5_readSigns_69 (m0 : Mnt) (sh : Nat → Nat) (rr : Nat → Ras) (r : Nat) (ww : Nat → Row) (so : Nat) (pl : Pal) (qo : Qoi) (pn : Pnm) (bm : Bmp) (tg : Tga) (px : Pcx) (fa : A) (hb : aH) (n : Nat) (k : Int32 → Int32 → Int32 → Int32 → Ras → Src → Out (Ras × Src) Unit) : Prop := ∀ (v2 : Int32) (v3 : Int32) (t0 : Int32) (t1 : Int32) (x : Ras) (sc : Src) (res : Out (Ras × Src) Unit), k v2 v3 t0 t1 x sc = res → res ≠ fno → AW (fun _ _ => True) mX5_readSigns (rmD 5 1 6) 0 0 (P_X5_readSigns m0 sh rr r ww so pl qo pn bm tg px fa hb n res) (X_X5_readSigns m0 sh rr r ww so pl qo pn bm tg px fa hb n res) 0 0 69 [(0, .ref 16), (1, .ref r), (2, .int v2), (3, .int v3)] [.int t0, .int t1, .ref r] (HC m0 sh (va_up rr r x) ww so sc pl qo pn bm tg px fa hb) n
def F_X5_readSigns_69 (sb : A) (k11 : Int32 → Int32 → Ras → Src → Out (Ras × Src) Unit) (v2 : Int32) (v3 : Int32) (t0 : Int32) (t1 : Int32) (x : Ras) (sc : Src) : Out (Ras × Src) Unit := fon (F_X7_set t1 t0 x) (fun z69 s69 => k11 v2 (v3 + 1) s69 sc) (fun _ _ => fno)
set_option maxHeartbeats 1000000 in
set_option maxRecDepth 100000 in
theorem b_X5_readSigns_69 (m0 : Mnt) (sh : Nat → Nat) (rr : Nat → Ras) (r : Nat) (ww : Nat → Row) (so : Nat) (pl : Pal) (qo : Qoi) (pn : Pnm) (bm : Bmp) (tg : Tga) (px : Pcx) (fa : A) (hb : aH) (n : Nat) (hr : isR r) (hso : isW so) (k11 : Int32 → Int32 → Ras → Src → Out (Ras × Src) Unit) (hk11 : Q_X5_readSigns_11 m0 sh rr r ww so pl qo pn bm tg px fa hb n k11) : Q_X5_readSigns_69 m0 sh rr r ww so pl qo pn bm tg px fa hb n (F_X5_readSigns_69 (y_b (ww so)) k11) := by
  intro v2 v3 t0 t1 x sc res hE hF
  unfold F_X5_readSigns_69 at hE
  refine aw_callV dX5_readSigns_69 (at_ras hr) cvX5_108 rfl (kF_X7_set m0 sh rr r x ww so sc pl qo pn bm tg px fa hb _ hr t1 t0 (fon_ne hE hF)) rfl (Nat.le_of_ble_eq_true rfl) (by decide) (by decide) (by decide) (by decide) (fun _ _ _ hf => False.elim hf) (fun r69 h69 n69 hp69 => ?_)
  obtain ⟨z69, s69, e69, rfl, rfl, rfl⟩ := hp69
  replace hE := fon_ok e69 hE
  refine aw_iinc (v := (v3 + 1)) (lv2 := [(3, _), (0, _), (1, _), (2, _)]) dX5_readSigns_72 rfl (incE (by decide)) (by decide) rfl ?_
  refine aw_goto (tgt := 11) dX5_readSigns_75 (by decide) ?_
  exact aw_lv _ (List.forall_mem_cons.mpr ⟨rfl, (List.forall_mem_cons.mpr ⟨rfl, (List.forall_mem_cons.mpr ⟨rfl, (List.forall_mem_cons.mpr ⟨rfl, fun _ h => absurd h List.not_mem_nil⟩)⟩)⟩)⟩) (hk11 v2 (v3 + 1) s69 sc _ hE hF)
def F_X5_readSigns_53 (sb : A) (k11 : Int32 → Int32 → Ras → Src → Out (Ras × Src) Unit) (v2 : Int32) (v3 : Int32) (v5 : Int32) (x : Ras) (sc : Src) : Out (Ras × Src) Unit := if v5 = 49 then (F_X5_readSigns_69 sb k11 v2 v3 (255 : Int32) v3 x sc) else (F_X5_readSigns_69 sb k11 v2 v3 (-1 : Int32) v3 x sc)
set_option maxHeartbeats 1000000 in
set_option maxRecDepth 100000 in
theorem b_X5_readSigns_53 (m0 : Mnt) (sh : Nat → Nat) (rr : Nat → Ras) (r : Nat) (ww : Nat → Row) (so : Nat) (pl : Pal) (qo : Qoi) (pn : Pnm) (bm : Bmp) (tg : Tga) (px : Pcx) (fa : A) (hb : aH) (n : Nat) (hr : isR r) (hso : isW so) (k11 : Int32 → Int32 → Ras → Src → Out (Ras × Src) Unit) (hk11 : Q_X5_readSigns_11 m0 sh rr r ww so pl qo pn bm tg px fa hb n k11) : Q_X5_readSigns_53 m0 sh rr r ww so pl qo pn bm tg px fa hb n (F_X5_readSigns_53 (y_b (ww so)) k11) := by
  intro v2 v3 v5 x sc res hE hF
  unfold F_X5_readSigns_53 at hE
  refine aw_aload_n dX5_readSigns_53 rfl ?_
  refine aw_iload_n dX5_readSigns_54 rfl ?_
  refine aw_iload dX5_readSigns_55 rfl ?_
  refine aw_bipush (v := 49) dX5_readSigns_57 (by decide) ?_
  refine aw_icmp_ne (tgt := 68) dX5_readSigns_59 (by decide) (fun c59 => ?_) (fun c59 => ?_)
  · replace hE := fif hE c59
    refine aw_iconst (v := (-1)) dX5_readSigns_68 (by decide) ?_
    exact aw_lv _ (List.forall_mem_cons.mpr ⟨rfl, (List.forall_mem_cons.mpr ⟨rfl, (List.forall_mem_cons.mpr ⟨rfl, (List.forall_mem_cons.mpr ⟨rfl, fun _ h => absurd h List.not_mem_nil⟩)⟩)⟩)⟩) (b_X5_readSigns_69 m0 sh rr r ww so pl qo pn bm tg px fa hb n hr hso k11 hk11 v2 v3 (-1 : Int32) v3 x sc _ hE hF)
  · replace hE := fit hE c59
    refine aw_sipush (v := 255) dX5_readSigns_62 (by decide) ?_
    refine aw_goto (tgt := 69) dX5_readSigns_65 (by decide) ?_
    exact aw_lv _ (List.forall_mem_cons.mpr ⟨rfl, (List.forall_mem_cons.mpr ⟨rfl, (List.forall_mem_cons.mpr ⟨rfl, (List.forall_mem_cons.mpr ⟨rfl, fun _ h => absurd h List.not_mem_nil⟩)⟩)⟩)⟩) (b_X5_readSigns_69 m0 sh rr r ww so pl qo pn bm tg px fa hb n hr hso k11 hk11 v2 v3 (255 : Int32) v3 x sc _ hE hF)
def F_X5_readSigns_11 (sb : A) (k11 : Int32 → Int32 → Ras → Src → Out (Ras × Src) Unit) (v2 : Int32) (v3 : Int32) (x : Ras) (sc : Src) : Out (Ras × Src) Unit := if v2 ≤ v3 then (fok () (x, sc)) else (fon (F_X5_passBlanks sc sb) (fun z17 s17 => fon (F_X8_next s17 sb) (fun z27 s27 => if z27 = 48 then (F_X5_readSigns_53 sb k11 v2 v3 z27 x s27) else (if z27 = 49 then (F_X5_readSigns_53 sb k11 v2 v3 z27 x s27) else (fon (F_X8_refuse 2 (sc_pos s17) s27) (fun _ _ => fno) (fun E s50 => fex E (x, s50))))) (fun E s27 => fex E (x, s27))) (fun _ _ => fno))
set_option maxHeartbeats 1000000 in
set_option maxRecDepth 100000 in
theorem b_X5_readSigns_11 (m0 : Mnt) (sh : Nat → Nat) (rr : Nat → Ras) (r : Nat) (ww : Nat → Row) (so : Nat) (pl : Pal) (qo : Qoi) (pn : Pnm) (bm : Bmp) (tg : Tga) (px : Pcx) (fa : A) (hb : aH) (n : Nat) (hr : isR r) (hso : isW so) (k11 : Int32 → Int32 → Ras → Src → Out (Ras × Src) Unit) (hk11 : Q_X5_readSigns_11 m0 sh rr r ww so pl qo pn bm tg px fa hb n k11) : Q_X5_readSigns_11 m0 sh rr r ww so pl qo pn bm tg px fa hb n (F_X5_readSigns_11 (y_b (ww so)) k11) := by
  intro v2 v3 x sc res hE hF
  unfold F_X5_readSigns_11 at hE
  refine aw_iload_n dX5_readSigns_11 rfl ?_
  refine aw_iload_n dX5_readSigns_12 rfl ?_
  refine aw_icmp_ge (tgt := 78) dX5_readSigns_13 (by decide) (fun c13 => ?_) (fun c13 => ?_)
  · replace hE := fit hE c13
    exact aw_vret dX5_readSigns_78 rfl (Nat.zero_le _) (Nat.zero_le _) (Nat.zero_le _) (Nat.zero_le _) ⟨_, _, hE.symm, rfl, rfl, rfl⟩
  · replace hE := fif hE c13
    refine aw_aload_n dX5_readSigns_16 rfl ?_
    refine aw_callS dX5_readSigns_17  csX5_62 rfl (kF_X5_passBlanks m0 sh (va_up rr r x) ww so sc pl qo pn bm tg px fa hb _ hso  (fon_ne hE hF)) rfl (Nat.le_of_ble_eq_true rfl) (by decide) (by decide) (by decide) (by decide) (fun _ _ _ hf => False.elim hf) (fun r17 h17 n17 hp17 => ?_)
    obtain ⟨z17, s17, e17, rfl, rfl, rfl⟩ := hp17
    replace hE := fon_ok e17 hE
    refine aw_aload_n dX5_readSigns_20 rfl ?_
    refine aw_getf (v := .int (sc_pos s17)) dX5_readSigns_21 flX5_47_7 at_src rfl ?_
    refine aw_istore (lv2 := [(4, _), (0, _), (1, _), (2, _), (3, _)]) dX5_readSigns_24 (by decide) rfl ?_
    refine aw_aload_n dX5_readSigns_26 rfl ?_
    refine aw_callV dX5_readSigns_27 at_src cvX5_68 rfl (kF_X8_next m0 sh (va_up rr r x) ww so s17 pl qo pn bm tg px fa hb _ hso  (fon_ne hE hF)) rfl (Nat.le_of_ble_eq_true rfl) (by decide) (by decide) (by decide) (by decide) (fun E h2 n2 hx => aw_out rfl (by decide) (by decide) (by obtain ⟨s27, e27, rfl, rfl⟩ := hx; exact ⟨_, (fon_ex e27 hE).symm, rfl, rfl⟩)) (fun r27 h27 n27 hp27 => ?_)
    obtain ⟨z27, s27, e27, rfl, rfl, rfl⟩ := hp27
    replace hE := fon_ok e27 hE
    refine aw_istore (lv2 := [(5, _), (4, _), (0, _), (1, _), (2, _), (3, _)]) dX5_readSigns_30 (by decide) rfl ?_
    refine aw_iload dX5_readSigns_32 rfl ?_
    refine aw_bipush (v := 48) dX5_readSigns_34 (by decide) ?_
    refine aw_icmp_eq (tgt := 53) dX5_readSigns_36 (by decide) (fun c36 => ?_) (fun c36 => ?_)
    · replace hE := fit hE c36
      exact aw_lv _ (List.forall_mem_cons.mpr ⟨rfl, (List.forall_mem_cons.mpr ⟨rfl, (List.forall_mem_cons.mpr ⟨rfl, (List.forall_mem_cons.mpr ⟨rfl, (List.forall_mem_cons.mpr ⟨rfl, fun _ h => absurd h List.not_mem_nil⟩)⟩)⟩)⟩)⟩) (b_X5_readSigns_53 m0 sh rr r ww so pl qo pn bm tg px fa hb n hr hso k11 hk11 v2 v3 z27 x s27 _ hE hF)
    · replace hE := fif hE c36
      refine aw_iload dX5_readSigns_39 rfl ?_
      refine aw_bipush (v := 49) dX5_readSigns_41 (by decide) ?_
      refine aw_icmp_eq (tgt := 53) dX5_readSigns_43 (by decide) (fun c43 => ?_) (fun c43 => ?_)
      · replace hE := fit hE c43
        exact aw_lv _ (List.forall_mem_cons.mpr ⟨rfl, (List.forall_mem_cons.mpr ⟨rfl, (List.forall_mem_cons.mpr ⟨rfl, (List.forall_mem_cons.mpr ⟨rfl, (List.forall_mem_cons.mpr ⟨rfl, fun _ h => absurd h List.not_mem_nil⟩)⟩)⟩)⟩)⟩) (b_X5_readSigns_53 m0 sh rr r ww so pl qo pn bm tg px fa hb n hr hso k11 hk11 v2 v3 z27 x s27 _ hE hF)
      · replace hE := fif hE c43
        refine aw_aload_n dX5_readSigns_46 rfl ?_
        refine aw_iconst (v := 2) dX5_readSigns_47 (by decide) ?_
        refine aw_iload dX5_readSigns_48 rfl ?_
        refine aw_callV dX5_readSigns_50 at_src cvX5_72 rfl (kF_X8_refuse m0 sh (va_up rr r x) ww so s27 pl qo pn bm tg px fa hb _  2 (sc_pos s17) (fon_ne hE hF)) rfl (Nat.le_of_ble_eq_true rfl) (by decide) (by decide) (by decide) (by decide) (fun E h2 n2 hx => aw_out rfl (by decide) (by decide) (by obtain ⟨s50, e50, rfl, rfl⟩ := hx; exact ⟨_, (fon_ex e50 hE).symm, rfl, rfl⟩)) (fun r50 h50 n50 hp50 => ?_)
        obtain ⟨z50, s50, e50, rfl, rfl, rfl⟩ := hp50
        exact (hF (fon_ok e50 hE).symm).elim
def F_X5_readSigns (x : Ras) (sc : Src) (sb : A) : Out (Ras × Src) Unit := fon (F_X5_passGap sc sb) (fun z1 s1 => fon (F_X7_count x) (fun z5 s5 => lp (fun _ _ _ _ => fno) (F_X5_readSigns_11 sb) FU z5 (0 : Int32) x s1) (fun _ _ => fno)) (fun E s1 => fex E (x, s1))
set_option maxHeartbeats 1000000 in
set_option maxRecDepth 100000 in
theorem kF_X5_readSigns (m0 : Mnt) (sh : Nat → Nat) (rr : Nat → Ras) (r : Nat) (x : Ras) (ww : Nat → Row) (so : Nat) (sc : Src) (pl : Pal) (qo : Qoi) (pn : Pnm) (bm : Bmp) (tg : Tga) (px : Pcx) (fa : A) (hb : aH) (n : Nat) (hr : isR r) (hso : isW so)  (hF : F_X5_readSigns x sc (y_b (ww so)) ≠ fno) : AM mX5_readSigns 5 [.ref 16, .ref r] (HC m0 sh (va_up rr r x) ww so sc pl qo pn bm tg px fa hb) n 1 6 0 0 (P_X5_readSigns m0 sh rr r ww so pl qo pn bm tg px fa hb n (F_X5_readSigns x sc (y_b (ww so)))) (X_X5_readSigns m0 sh rr r ww so pl qo pn bm tg px fa hb n (F_X5_readSigns x sc (y_b (ww so)))) := by
  generalize hE : F_X5_readSigns x sc (y_b (ww so)) = res at hF ⊢
  refine aw_of (by decide +kernel) rfl (Nat.le_of_ble_eq_true rfl) ?_
  unfold F_X5_readSigns at hE
  refine aw_aload_n dX5_readSigns_0 rfl ?_
  refine aw_callS dX5_readSigns_1  csX5_32 rfl (kF_X5_passGap m0 sh (va_up rr r x) ww so sc pl qo pn bm tg px fa hb _ hso  (fon_ne hE hF)) rfl (Nat.le_of_ble_eq_true rfl) (by decide) (by decide) (by decide) (by decide) (fun E h2 n2 hx => aw_out rfl (by decide) (by decide) (by obtain ⟨s1, e1, rfl, rfl⟩ := hx; exact ⟨_, (fon_ex e1 hE).symm, rfl, rfl⟩)) (fun r1 h1 n1 hp1 => ?_)
  obtain ⟨z1, s1, e1, rfl, rfl, rfl⟩ := hp1
  replace hE := fon_ok e1 hE
  refine aw_aload_n dX5_readSigns_4 rfl ?_
  refine aw_callV dX5_readSigns_5 (at_ras hr) cvX5_103 rfl (kF_X7_count m0 sh rr r x ww so s1 pl qo pn bm tg px fa hb _ hr  (fon_ne hE hF)) rfl (Nat.le_of_ble_eq_true rfl) (by decide) (by decide) (by decide) (by decide) (fun _ _ _ hf => False.elim hf) (fun r5 h5 n5 hp5 => ?_)
  obtain ⟨z5, s5, e5, rfl, rfl, rfl⟩ := hp5
  replace hE := fon_ok e5 hE
  refine aw_istore_n (lv2 := [(2, _), (0, _), (1, _)]) dX5_readSigns_8 (by decide) rfl ?_
  refine aw_iconst (v := 0) dX5_readSigns_9 (by decide) ?_
  refine aw_istore_n (lv2 := [(3, _), (2, _), (0, _), (1, _)]) dX5_readSigns_10 (by decide) rfl ?_
  exact aw_lv _ (List.forall_mem_cons.mpr ⟨rfl, (List.forall_mem_cons.mpr ⟨rfl, (List.forall_mem_cons.mpr ⟨rfl, (List.forall_mem_cons.mpr ⟨rfl, fun _ h => absurd h List.not_mem_nil⟩)⟩)⟩)⟩) (lp_ind (Q_X5_readSigns_11 m0 sh rr r ww so pl qo pn bm tg px fa hb n) (fun _ _ _ _ res hq hF => (hF hq.symm).elim) (fun k hk => b_X5_readSigns_11 m0 sh rr r ww so pl qo pn bm tg px fa hb n hr hso  k hk) FU z5 (0 : Int32) x s1 _ hE hF)
def P_X5_readSample (m0 : Mnt) (sh : Nat → Nat) (rr : Nat → Ras) (ww : Nat → Row) (so : Nat) (pl : Pal) (qo : Qoi) (bm : Bmp) (tg : Tga) (px : Pcx) (fa : A) (hb : aH) (n : Nat) (res : Out (Src × Pnm) Int32) : Option Value → aH → Nat → Prop := fun r1 h2 n2 => ∃ (a : Int32) (s : (Src × Pnm)), res = fok a s ∧ r1 = some (.int a) ∧ h2 = HC m0 sh rr ww so s.1 pl qo s.2 bm tg px fa hb ∧ n = n2
def X_X5_readSample (m0 : Mnt) (sh : Nat → Nat) (rr : Nat → Ras) (ww : Nat → Row) (so : Nat) (pl : Pal) (qo : Qoi) (bm : Bmp) (tg : Tga) (px : Pcx) (fa : A) (hb : aH) (n : Nat) (res : Out (Src × Pnm) Int32) : String → aH → Nat → Prop := fun E h2 n2 => ∃ s : (Src × Pnm), res = fex E s ∧ h2 = HC m0 sh rr ww so s.1 pl qo s.2 bm tg px fa hb ∧ n = n2
abbrev Q_X5_readSample_56 (m0 : Mnt) (sh : Nat → Nat) (rr : Nat → Ras) (ww : Nat → Row) (so : Nat) (pl : Pal) (qo : Qoi) (bm : Bmp) (tg : Tga) (px : Pcx) (fa : A) (hb : aH) (n : Nat) (k : Int32 → Int32 → Src → Pnm → Out (Src × Pnm) Int32) : Prop := ∀ (v2 : Int32) (v3 : Int32) (sc : Src) (pn : Pnm) (res : Out (Src × Pnm) Int32), k v2 v3 sc pn = res → res ≠ fno → AW (fun _ _ => True) mX5_readSample (rmD 5 1 6) 0 0 (P_X5_readSample m0 sh rr ww so pl qo bm tg px fa hb n res) (X_X5_readSample m0 sh rr ww so pl qo bm tg px fa hb n res) 0 0 56 [(0, .ref 23), (1, .ref 16), (2, .int v2), (3, .int v3)] [] (HC m0 sh rr ww so sc pl qo pn bm tg px fa hb) n
def F_X5_readSample_56 (sb : A)  (v2 : Int32) (v3 : Int32) (sc : Src) (pn : Pnm) : Out (Src × Pnm) Int32 := if v2 ≤ (pn_f2 pn) then (if 1 ≤ (pn_f2 pn) then (if ¬ (2 * (pn_f2 pn)) = 0 then (fok ((((510 * v2) + (pn_f2 pn)) / (2 * (pn_f2 pn))) : Int32) (sc, pn)) else fno) else (fok (0 : Int32) (sc, pn))) else (fon (F_X8_refuse 6 v3 sc) (fun _ _ => fno) (fun E s68 => fex E (s68, pn)))
set_option maxHeartbeats 1000000 in
set_option maxRecDepth 100000 in
theorem b_X5_readSample_56 (m0 : Mnt) (sh : Nat → Nat) (rr : Nat → Ras) (ww : Nat → Row) (so : Nat) (pl : Pal) (qo : Qoi) (bm : Bmp) (tg : Tga) (px : Pcx) (fa : A) (hb : aH) (n : Nat) (hso : isW so)  : Q_X5_readSample_56 m0 sh rr ww so pl qo bm tg px fa hb n (F_X5_readSample_56 (y_b (ww so))) := by
  intro v2 v3 sc pn res hE hF
  unfold F_X5_readSample_56 at hE
  refine aw_iload_n dX5_readSample_56 rfl ?_
  refine aw_aload_n dX5_readSample_57 rfl ?_
  refine aw_getf (v := .int (pn_f2 pn)) dX5_readSample_58 flX5_25_4 at_pnm rfl ?_
  refine aw_icmp_le (tgt := 71) dX5_readSample_61 (by decide) (fun c61 => ?_) (fun c61 => ?_)
  · replace hE := fit hE c61
    refine aw_aload_n dX5_readSample_71 rfl ?_
    refine aw_getf (v := .int (pn_f2 pn)) dX5_readSample_72 flX5_25_4 at_pnm rfl ?_
    refine aw_iconst (v := 1) dX5_readSample_75 (by decide) ?_
    refine aw_icmp_ge (tgt := 83) dX5_readSample_76 (by decide) (fun c76 => ?_) (fun c76 => ?_)
    · replace hE := fit hE c76
      refine aw_sipush (v := 510) dX5_readSample_83 (by decide) ?_
      refine aw_iload_n dX5_readSample_86 rfl ?_
      refine aw_imul dX5_readSample_87 ?_
      refine aw_aload_n dX5_readSample_88 rfl ?_
      refine aw_getf (v := .int (pn_f2 pn)) dX5_readSample_89 flX5_25_4 at_pnm rfl ?_
      refine aw_iadd dX5_readSample_92 ?_
      refine aw_iconst (v := 2) dX5_readSample_93 (by decide) ?_
      refine aw_aload_n dX5_readSample_94 rfl ?_
      refine aw_getf (v := .int (pn_f2 pn)) dX5_readSample_95 flX5_25_4 at_pnm rfl ?_
      refine aw_imul dX5_readSample_98 ?_
      obtain ⟨g99, hE⟩ := fgd hE hF
      refine aw_idiv dX5_readSample_99 g99 ?_
      exact aw_iret dX5_readSample_100 rfl (Nat.zero_le _) (Nat.zero_le _) (Nat.zero_le _) (Nat.zero_le _) ⟨_, _, hE.symm, rfl, rfl, rfl⟩
    · replace hE := fif hE c76
      refine aw_iconst (v := 0) dX5_readSample_79 (by decide) ?_
      refine aw_goto (tgt := 100) dX5_readSample_80 (by decide) ?_
      exact aw_iret dX5_readSample_100 rfl (Nat.zero_le _) (Nat.zero_le _) (Nat.zero_le _) (Nat.zero_le _) ⟨_, _, hE.symm, rfl, rfl, rfl⟩
  · replace hE := fif hE c61
    refine aw_aload_n dX5_readSample_64 rfl ?_
    refine aw_bipush (v := 6) dX5_readSample_65 (by decide) ?_
    refine aw_iload_n dX5_readSample_67 rfl ?_
    refine aw_callV dX5_readSample_68 at_src cvX5_72 rfl (kF_X8_refuse m0 sh rr ww so sc pl qo pn bm tg px fa hb _  6 v3 (fon_ne hE hF)) rfl (Nat.le_of_ble_eq_true rfl) (by decide) (by decide) (by decide) (by decide) (fun E h2 n2 hx => aw_out rfl (by decide) (by decide) (by obtain ⟨s68, e68, rfl, rfl⟩ := hx; exact ⟨_, (fon_ex e68 hE).symm, rfl, rfl⟩)) (fun r68 h68 n68 hp68 => ?_)
    obtain ⟨z68, s68, e68, rfl, rfl, rfl⟩ := hp68
    exact (hF (fon_ok e68 hE).symm).elim
def F_X5_readSample (sc : Src) (sb : A) (pn : Pnm) : Out (Src × Pnm) Int32 := if 3 < (pn_f1 pn) then (fon (F_X8_next sc sb) (fun z32 s32 => if (pn_f2 pn) ≤ 255 then (F_X5_readSample_56 sb z32 (sc_pos sc) s32 pn) else (fon (F_X8_next s32 sb) (fun z51 s51 => F_X5_readSample_56 sb ((z32 <<< ((8 : Int32) &&& 31)) ||| z51) (sc_pos sc) s51 pn) (fun E s51 => fex E (s51, pn)))) (fun E s32 => fex E (s32, pn))) else (fon (F_X5_passGap sc sb) (fun z9 s9 => fon (F_X5_readNumber s9 sb pn) (fun z14 s14 => F_X5_readSample_56 sb z14 (pn_np s14.2) s14.1 s14.2) (fun E s14 => fex E (s14.1, s14.2))) (fun E s9 => fex E (s9, pn)))
set_option maxHeartbeats 1000000 in
set_option maxRecDepth 100000 in
theorem kF_X5_readSample (m0 : Mnt) (sh : Nat → Nat) (rr : Nat → Ras) (ww : Nat → Row) (so : Nat) (sc : Src) (pl : Pal) (qo : Qoi) (pn : Pnm) (bm : Bmp) (tg : Tga) (px : Pcx) (fa : A) (hb : aH) (n : Nat) (hso : isW so)  (hF : F_X5_readSample sc (y_b (ww so)) pn ≠ fno) : AM mX5_readSample 5 [.ref 23, .ref 16] (HC m0 sh rr ww so sc pl qo pn bm tg px fa hb) n 1 6 0 0 (P_X5_readSample m0 sh rr ww so pl qo bm tg px fa hb n (F_X5_readSample sc (y_b (ww so)) pn)) (X_X5_readSample m0 sh rr ww so pl qo bm tg px fa hb n (F_X5_readSample sc (y_b (ww so)) pn)) := by
  generalize hE : F_X5_readSample sc (y_b (ww so)) pn = res at hF ⊢
  refine aw_of (by decide +kernel) rfl (Nat.le_of_ble_eq_true rfl) ?_
  unfold F_X5_readSample at hE
  refine aw_aload_n dX5_readSample_0 rfl ?_
  refine aw_getf (v := .int (pn_f1 pn)) dX5_readSample_1 flX5_29_4 at_pnm rfl ?_
  refine aw_iconst (v := 3) dX5_readSample_4 (by decide) ?_
  refine aw_icmp_gt (tgt := 26) dX5_readSample_5 (by decide) (fun c5 => ?_) (fun c5 => ?_)
  · replace hE := fit hE c5
    refine aw_aload_n dX5_readSample_26 rfl ?_
    refine aw_getf (v := .int (sc_pos sc)) dX5_readSample_27 flX5_47_7 at_src rfl ?_
    refine aw_istore_n (lv2 := [(3, _), (0, _), (1, _)]) dX5_readSample_30 (by decide) rfl ?_
    refine aw_aload_n dX5_readSample_31 rfl ?_
    refine aw_callV dX5_readSample_32 at_src cvX5_68 rfl (kF_X8_next m0 sh rr ww so sc pl qo pn bm tg px fa hb _ hso  (fon_ne hE hF)) rfl (Nat.le_of_ble_eq_true rfl) (by decide) (by decide) (by decide) (by decide) (fun E h2 n2 hx => aw_out rfl (by decide) (by decide) (by obtain ⟨s32, e32, rfl, rfl⟩ := hx; exact ⟨_, (fon_ex e32 hE).symm, rfl, rfl⟩)) (fun r32 h32 n32 hp32 => ?_)
    obtain ⟨z32, s32, e32, rfl, rfl, rfl⟩ := hp32
    replace hE := fon_ok e32 hE
    refine aw_istore_n (lv2 := [(2, _), (3, _), (0, _), (1, _)]) dX5_readSample_35 (by decide) rfl ?_
    refine aw_aload_n dX5_readSample_36 rfl ?_
    refine aw_getf (v := .int (pn_f2 pn)) dX5_readSample_37 flX5_25_4 at_pnm rfl ?_
    refine aw_sipush (v := 255) dX5_readSample_40 (by decide) ?_
    refine aw_icmp_le (tgt := 56) dX5_readSample_43 (by decide) (fun c43 => ?_) (fun c43 => ?_)
    · replace hE := fit hE c43
      exact aw_lv _ (List.forall_mem_cons.mpr ⟨rfl, (List.forall_mem_cons.mpr ⟨rfl, (List.forall_mem_cons.mpr ⟨rfl, (List.forall_mem_cons.mpr ⟨rfl, fun _ h => absurd h List.not_mem_nil⟩)⟩)⟩)⟩) (b_X5_readSample_56 m0 sh rr ww so pl qo bm tg px fa hb n hso  z32 (sc_pos sc) s32 pn _ hE hF)
    · replace hE := fif hE c43
      refine aw_iload_n dX5_readSample_46 rfl ?_
      refine aw_bipush (v := 8) dX5_readSample_47 (by decide) ?_
      refine aw_ishl dX5_readSample_49 ?_
      refine aw_aload_n dX5_readSample_50 rfl ?_
      refine aw_callV dX5_readSample_51 at_src cvX5_68 rfl (kF_X8_next m0 sh rr ww so s32 pl qo pn bm tg px fa hb _ hso  (fon_ne hE hF)) rfl (Nat.le_of_ble_eq_true rfl) (by decide) (by decide) (by decide) (by decide) (fun E h2 n2 hx => aw_out rfl (by decide) (by decide) (by obtain ⟨s51, e51, rfl, rfl⟩ := hx; exact ⟨_, (fon_ex e51 hE).symm, rfl, rfl⟩)) (fun r51 h51 n51 hp51 => ?_)
      obtain ⟨z51, s51, e51, rfl, rfl, rfl⟩ := hp51
      replace hE := fon_ok e51 hE
      refine aw_ior dX5_readSample_54 ?_
      refine aw_istore_n (lv2 := [(2, _), (3, _), (0, _), (1, _)]) dX5_readSample_55 (by decide) rfl ?_
      exact aw_lv _ (List.forall_mem_cons.mpr ⟨rfl, (List.forall_mem_cons.mpr ⟨rfl, (List.forall_mem_cons.mpr ⟨rfl, (List.forall_mem_cons.mpr ⟨rfl, fun _ h => absurd h List.not_mem_nil⟩)⟩)⟩)⟩) (b_X5_readSample_56 m0 sh rr ww so pl qo bm tg px fa hb n hso  ((z32 <<< ((8 : Int32) &&& 31)) ||| z51) (sc_pos sc) s51 pn _ hE hF)
  · replace hE := fif hE c5
    refine aw_aload_n dX5_readSample_8 rfl ?_
    refine aw_callS dX5_readSample_9  csX5_32 rfl (kF_X5_passGap m0 sh rr ww so sc pl qo pn bm tg px fa hb _ hso  (fon_ne hE hF)) rfl (Nat.le_of_ble_eq_true rfl) (by decide) (by decide) (by decide) (by decide) (fun E h2 n2 hx => aw_out rfl (by decide) (by decide) (by obtain ⟨s9, e9, rfl, rfl⟩ := hx; exact ⟨_, (fon_ex e9 hE).symm, rfl, rfl⟩)) (fun r9 h9 n9 hp9 => ?_)
    obtain ⟨z9, s9, e9, rfl, rfl, rfl⟩ := hp9
    replace hE := fon_ok e9 hE
    refine aw_aload_n dX5_readSample_12 rfl ?_
    refine aw_aload_n dX5_readSample_13 rfl ?_
    refine aw_callV dX5_readSample_14 at_pnm cvX5_35 rfl (kF_X5_readNumber m0 sh rr ww so s9 pl qo pn bm tg px fa hb _ hso  (fon_ne hE hF)) rfl (Nat.le_of_ble_eq_true rfl) (by decide) (by decide) (by decide) (by decide) (fun E h2 n2 hx => aw_out rfl (by decide) (by decide) (by obtain ⟨s14, e14, rfl, rfl⟩ := hx; exact ⟨_, (fon_ex e14 hE).symm, rfl, rfl⟩)) (fun r14 h14 n14 hp14 => ?_)
    obtain ⟨z14, s14, e14, rfl, rfl, rfl⟩ := hp14
    replace hE := fon_ok e14 hE
    refine aw_istore_n (lv2 := [(2, _), (0, _), (1, _)]) dX5_readSample_17 (by decide) rfl ?_
    refine aw_aload_n dX5_readSample_18 rfl ?_
    refine aw_getf (v := .int (pn_np s14.2)) dX5_readSample_19 flX5_77_4 at_pnm rfl ?_
    refine aw_istore_n (lv2 := [(3, _), (2, _), (0, _), (1, _)]) dX5_readSample_22 (by decide) rfl ?_
    refine aw_goto (tgt := 56) dX5_readSample_23 (by decide) ?_
    exact aw_lv _ (List.forall_mem_cons.mpr ⟨rfl, (List.forall_mem_cons.mpr ⟨rfl, (List.forall_mem_cons.mpr ⟨rfl, (List.forall_mem_cons.mpr ⟨rfl, fun _ h => absurd h List.not_mem_nil⟩)⟩)⟩)⟩) (b_X5_readSample_56 m0 sh rr ww so pl qo bm tg px fa hb n hso  z14 (pn_np s14.2) s14.1 s14.2 _ hE hF)
def P_X6_readSide (m0 : Mnt) (sh : Nat → Nat) (rr : Nat → Ras) (ww : Nat → Row) (so : Nat) (pl : Pal) (qo : Qoi) (pn : Pnm) (bm : Bmp) (tg : Tga) (px : Pcx) (fa : A) (hb : aH) (n : Nat) (res : Out Src Int64) : Option Value → aH → Nat → Prop := fun r1 h2 n2 => ∃ (a : Int64) (s : Src), res = fok a s ∧ r1 = some (.long a) ∧ h2 = HC m0 sh rr ww so s pl qo pn bm tg px fa hb ∧ n = n2
def X_X6_readSide (m0 : Mnt) (sh : Nat → Nat) (rr : Nat → Ras) (ww : Nat → Row) (so : Nat) (pl : Pal) (qo : Qoi) (pn : Pnm) (bm : Bmp) (tg : Tga) (px : Pcx) (fa : A) (hb : aH) (n : Nat) (res : Out Src Int64) : String → aH → Nat → Prop := fun E h2 n2 => ∃ s : Src, res = fex E s ∧ h2 = HC m0 sh rr ww so s pl qo pn bm tg px fa hb ∧ n = n2
def F_X6_readSide (sc : Src) (sb : A) : Out Src Int64 := fon (F_X8_high4 sc sb) (fun z6 s6 => if (lg_cmp ((z6).toInt64 &&& 4294967295) 0) = 0 then (fon (F_X8_refuse 2 (sc_pos sc) s6) (fun _ _ => fno) (fun E s24 => fex E s24)) else (fok (((z6).toInt64 &&& 4294967295) : Int64) s6)) (fun E s6 => fex E s6)
set_option maxHeartbeats 1000000 in
set_option maxRecDepth 100000 in
theorem kF_X6_readSide (m0 : Mnt) (sh : Nat → Nat) (rr : Nat → Ras) (ww : Nat → Row) (so : Nat) (sc : Src) (pl : Pal) (qo : Qoi) (pn : Pnm) (bm : Bmp) (tg : Tga) (px : Pcx) (fa : A) (hb : aH) (n : Nat) (hso : isW so)  (hF : F_X6_readSide sc (y_b (ww so)) ≠ fno) : AM mX6_readSide 5 [.ref 16] (HC m0 sh rr ww so sc pl qo pn bm tg px fa hb) n 1 6 0 0 (P_X6_readSide m0 sh rr ww so pl qo pn bm tg px fa hb n (F_X6_readSide sc (y_b (ww so)))) (X_X6_readSide m0 sh rr ww so pl qo pn bm tg px fa hb n (F_X6_readSide sc (y_b (ww so)))) := by
  generalize hE : F_X6_readSide sc (y_b (ww so)) = res at hF ⊢
  refine aw_of (by decide +kernel) rfl (Nat.le_of_ble_eq_true rfl) ?_
  unfold F_X6_readSide at hE
  refine aw_aload_n dX6_readSide_0 rfl ?_
  refine aw_getf (v := .int (sc_pos sc)) dX6_readSide_1 flX6_25_7 at_src rfl ?_
  refine aw_istore_n (lv2 := [(1, _), (0, _)]) dX6_readSide_4 (by decide) rfl ?_
  refine aw_aload_n dX6_readSide_5 rfl ?_
  refine aw_callV dX6_readSide_6 at_src cvX6_53 rfl (kF_X8_high4 m0 sh rr ww so sc pl qo pn bm tg px fa hb _ hso  (fon_ne hE hF)) rfl (Nat.le_of_ble_eq_true rfl) (by decide) (by decide) (by decide) (by decide) (fun E h2 n2 hx => aw_out rfl (by decide) (by decide) (by obtain ⟨s6, e6, rfl, rfl⟩ := hx; exact ⟨_, (fon_ex e6 hE).symm, rfl, rfl⟩)) (fun r6 h6 n6 hp6 => ?_)
  obtain ⟨z6, s6, e6, rfl, rfl, rfl⟩ := hp6
  replace hE := fon_ok e6 hE
  refine aw_i2l dX6_readSide_9 ?_
  refine aw_ldc2 dX6_readSide_10 kcX6_57 ?_
  refine aw_land dX6_readSide_13 ?_
  refine aw_lstore_n (lv2 := [(2, _), (1, _), (0, _)]) dX6_readSide_14 (by decide) rfl ?_
  refine aw_lload_n dX6_readSide_15 rfl ?_
  refine aw_lconst (v := 0) dX6_readSide_16 (by decide) ?_
  refine aw_lcmp dX6_readSide_17 ?_
  refine aw_if_ne (tgt := 27) dX6_readSide_18 (by decide) (fun c18 => ?_) (fun c18 => ?_)
  · replace hE := fif hE c18
    refine aw_lload_n dX6_readSide_27 rfl ?_
    exact aw_lret dX6_readSide_28 rfl (Nat.zero_le _) (Nat.zero_le _) (Nat.zero_le _) (Nat.zero_le _) ⟨_, _, hE.symm, rfl, rfl, rfl⟩
  · replace hE := fit hE c18
    refine aw_aload_n dX6_readSide_21 rfl ?_
    refine aw_iconst (v := 2) dX6_readSide_22 (by decide) ?_
    refine aw_iload_n dX6_readSide_23 rfl ?_
    refine aw_callV dX6_readSide_24 at_src cvX6_59 rfl (kF_X8_refuse m0 sh rr ww so s6 pl qo pn bm tg px fa hb _  2 (sc_pos sc) (fon_ne hE hF)) rfl (Nat.le_of_ble_eq_true rfl) (by decide) (by decide) (by decide) (by decide) (fun E h2 n2 hx => aw_out rfl (by decide) (by decide) (by obtain ⟨s24, e24, rfl, rfl⟩ := hx; exact ⟨_, (fon_ex e24 hE).symm, rfl, rfl⟩)) (fun r24 h24 n24 hp24 => ?_)
    obtain ⟨z24, s24, e24, rfl, rfl, rfl⟩ := hp24
    exact (hF (fon_ok e24 hE).symm).elim
def P_X6_readPixel (m0 : Mnt) (sh : Nat → Nat) (rr : Nat → Ras) (ww : Nat → Row) (so : Nat) (pl : Pal) (qo : Qoi) (pn : Pnm) (bm : Bmp) (tg : Tga) (px : Pcx) (fa : A) (hb : aH) (n : Nat) (res : Out Src Int32) : Option Value → aH → Nat → Prop := fun r1 h2 n2 => ∃ (a : Int32) (s : Src), res = fok a s ∧ r1 = some (.int a) ∧ h2 = HC m0 sh rr ww so s pl qo pn bm tg px fa hb ∧ n = n2
def X_X6_readPixel (m0 : Mnt) (sh : Nat → Nat) (rr : Nat → Ras) (ww : Nat → Row) (so : Nat) (pl : Pal) (qo : Qoi) (pn : Pnm) (bm : Bmp) (tg : Tga) (px : Pcx) (fa : A) (hb : aH) (n : Nat) (res : Out Src Int32) : String → aH → Nat → Prop := fun E h2 n2 => ∃ s : Src, res = fex E s ∧ h2 = HC m0 sh rr ww so s pl qo pn bm tg px fa hb ∧ n = n2
abbrev Q_X6_readPixel_149 (m0 : Mnt) (sh : Nat → Nat) (rr : Nat → Ras) (ww : Nat → Row) (so : Nat) (pl : Pal) (qo : Qoi) (pn : Pnm) (bm : Bmp) (tg : Tga) (px : Pcx) (fa : A) (hb : aH) (n : Nat) (k : Int32 → Int32 → Int32 → Int32 → Src → Out Src Int32) : Prop := ∀ (t0 : Int32) (t1 : Int32) (t2 : Int32) (t3 : Int32) (sc : Src) (res : Out Src Int32), k t0 t1 t2 t3 sc = res → res ≠ fno → AW (fun _ _ => True) mX6_readPixel (rmD 4 1 6) 0 0 (P_X6_readPixel m0 sh rr ww so pl qo pn bm tg px fa hb n res) (X_X6_readPixel m0 sh rr ww so pl qo pn bm tg px fa hb n res) 0 0 149 [] [.int t0, .int t1, .int t2, .int t3] (HC m0 sh rr ww so sc pl qo pn bm tg px fa hb) n
def F_X6_readPixel_149 (sb : A) (qo : Qoi)  (t0 : Int32) (t1 : Int32) (t2 : Int32) (t3 : Int32) (sc : Src) : Out Src Int32 := fok ((F_X10_pixelOf t3 t2 t1 t0) : Int32) sc
set_option maxHeartbeats 1000000 in
set_option maxRecDepth 100000 in
theorem b_X6_readPixel_149 (m0 : Mnt) (sh : Nat → Nat) (rr : Nat → Ras) (ww : Nat → Row) (so : Nat) (pl : Pal) (qo : Qoi) (pn : Pnm) (bm : Bmp) (tg : Tga) (px : Pcx) (fa : A) (hb : aH) (n : Nat) (hso : isW so)  : Q_X6_readPixel_149 m0 sh rr ww so pl qo pn bm tg px fa hb n (F_X6_readPixel_149 (y_b (ww so)) qo) := by
  intro t0 t1 t2 t3 sc res hE hF
  unfold F_X6_readPixel_149 at hE
  refine aw_callSN dX6_readPixel_149  csX6_95 rfl (kF_X10_pixelOf _ _ t3 t2 t1 t0) rfl (Nat.le_of_ble_eq_true rfl) (by decide) (by decide) (by decide) (by decide)  (fun r149 h149 n149 hp149 => ?_)
  obtain ⟨rfl, rfl, rfl⟩ := hp149
  exact aw_iret dX6_readPixel_152 rfl (Nat.zero_le _) (Nat.zero_le _) (Nat.zero_le _) (Nat.zero_le _) ⟨_, _, hE.symm, rfl, rfl, rfl⟩
def F_X6_readPixel (a2 : Int32) (sc : Src) (sb : A) (qo : Qoi) : Out Src Int32 := if 64 ≤ a2 then (if 128 ≤ a2 then (if 192 ≤ a2 then (if 254 ≤ a2 then (fon (F_X8_next sc sb) (fun z107 s107 => fon (F_X8_next s107 sb) (fun z112 s112 => fon (F_X8_next s112 sb) (fun z118 s118 => if a2 = 255 then (fon (F_X8_next s118 sb) (fun z136 s136 => F_X6_readPixel_149 sb qo z136 z118 z112 z107 s136) (fun E s136 => fex E s136)) else (F_X6_readPixel_149 sb qo (F_X10_alphaOf (qo_last qo)) z118 z112 z107 s118)) (fun E s118 => fex E s118)) (fun E s112 => fex E s112)) (fun E s107 => fex E s107)) else (fok ((qo_last qo) : Int32) sc)) else (fon (F_X8_next sc sb) (fun z55 s55 => fon (F_X6_moved ((((a2 &&& 63) - 32) + (z55 >>> ((4 : Int32) &&& 31))) - 8) ((a2 &&& 63) - 32) ((((a2 &&& 63) - 32) + (z55 &&& 15)) - 8) qo) (fun z90 s90 => fok (z90 : Int32) s55) (fun _ _ => fno)) (fun E s55 => fex E s55))) else (fon (F_X6_moved (((a2 >>> ((4 : Int32) &&& 31)) &&& 3) - 2) (((a2 >>> ((2 : Int32) &&& 31)) &&& 3) - 2) ((a2 &&& 3) - 2) qo) (fun z43 s43 => fok (z43 : Int32) sc) (fun _ _ => fno))) else (if inb (a2 &&& 63) 64 then (fok (((qo_pl qo) (Int32.toNatClampNeg (a2 &&& 63))) : Int32) sc) else fno)
set_option maxHeartbeats 1000000 in
set_option maxRecDepth 100000 in
theorem kF_X6_readPixel (m0 : Mnt) (sh : Nat → Nat) (rr : Nat → Ras) (ww : Nat → Row) (so : Nat) (sc : Src) (pl : Pal) (qo : Qoi) (pn : Pnm) (bm : Bmp) (tg : Tga) (px : Pcx) (fa : A) (hb : aH) (n : Nat) (hso : isW so) (a2 : Int32) (hF : F_X6_readPixel a2 sc (y_b (ww so)) qo ≠ fno) : AM mX6_readPixel 4 [.ref 21, .ref 16, .int a2] (HC m0 sh rr ww so sc pl qo pn bm tg px fa hb) n 1 6 0 0 (P_X6_readPixel m0 sh rr ww so pl qo pn bm tg px fa hb n (F_X6_readPixel a2 sc (y_b (ww so)) qo)) (X_X6_readPixel m0 sh rr ww so pl qo pn bm tg px fa hb n (F_X6_readPixel a2 sc (y_b (ww so)) qo)) := by
  generalize hE : F_X6_readPixel a2 sc (y_b (ww so)) qo = res at hF ⊢
  refine aw_of (by decide +kernel) rfl (Nat.le_of_ble_eq_true rfl) ?_
  unfold F_X6_readPixel at hE
  refine aw_iload_n dX6_readPixel_0 rfl ?_
  refine aw_bipush (v := 64) dX6_readPixel_1 (by decide) ?_
  refine aw_icmp_ge (tgt := 16) dX6_readPixel_3 (by decide) (fun c3 => ?_) (fun c3 => ?_)
  · replace hE := fit hE c3
    refine aw_iload_n dX6_readPixel_16 rfl ?_
    refine aw_sipush (v := 128) dX6_readPixel_17 (by decide) ?_
    refine aw_icmp_ge (tgt := 47) dX6_readPixel_20 (by decide) (fun c20 => ?_) (fun c20 => ?_)
    · replace hE := fit hE c20
      refine aw_iload_n dX6_readPixel_47 rfl ?_
      refine aw_sipush (v := 192) dX6_readPixel_48 (by decide) ?_
      refine aw_icmp_ge (tgt := 94) dX6_readPixel_51 (by decide) (fun c51 => ?_) (fun c51 => ?_)
      · replace hE := fit hE c51
        refine aw_iload_n dX6_readPixel_94 rfl ?_
        refine aw_sipush (v := 254) dX6_readPixel_95 (by decide) ?_
        refine aw_icmp_ge (tgt := 106) dX6_readPixel_98 (by decide) (fun c98 => ?_) (fun c98 => ?_)
        · replace hE := fit hE c98
          refine aw_aload_n dX6_readPixel_106 rfl ?_
          refine aw_callV dX6_readPixel_107 at_src cvX6_63 rfl (kF_X8_next m0 sh rr ww so sc pl qo pn bm tg px fa hb _ hso  (fon_ne hE hF)) rfl (Nat.le_of_ble_eq_true rfl) (by decide) (by decide) (by decide) (by decide) (fun E h2 n2 hx => aw_out rfl (by decide) (by decide) (by obtain ⟨s107, e107, rfl, rfl⟩ := hx; exact ⟨_, (fon_ex e107 hE).symm, rfl, rfl⟩)) (fun r107 h107 n107 hp107 => ?_)
          obtain ⟨z107, s107, e107, rfl, rfl, rfl⟩ := hp107
          replace hE := fon_ok e107 hE
          refine aw_istore_n (lv2 := [(3, _), (0, _), (1, _), (2, _)]) dX6_readPixel_110 (by decide) rfl ?_
          refine aw_aload_n dX6_readPixel_111 rfl ?_
          refine aw_callV dX6_readPixel_112 at_src cvX6_63 rfl (kF_X8_next m0 sh rr ww so s107 pl qo pn bm tg px fa hb _ hso  (fon_ne hE hF)) rfl (Nat.le_of_ble_eq_true rfl) (by decide) (by decide) (by decide) (by decide) (fun E h2 n2 hx => aw_out rfl (by decide) (by decide) (by obtain ⟨s112, e112, rfl, rfl⟩ := hx; exact ⟨_, (fon_ex e112 hE).symm, rfl, rfl⟩)) (fun r112 h112 n112 hp112 => ?_)
          obtain ⟨z112, s112, e112, rfl, rfl, rfl⟩ := hp112
          replace hE := fon_ok e112 hE
          refine aw_istore (lv2 := [(4, _), (3, _), (0, _), (1, _), (2, _)]) dX6_readPixel_115 (by decide) rfl ?_
          refine aw_aload_n dX6_readPixel_117 rfl ?_
          refine aw_callV dX6_readPixel_118 at_src cvX6_63 rfl (kF_X8_next m0 sh rr ww so s112 pl qo pn bm tg px fa hb _ hso  (fon_ne hE hF)) rfl (Nat.le_of_ble_eq_true rfl) (by decide) (by decide) (by decide) (by decide) (fun E h2 n2 hx => aw_out rfl (by decide) (by decide) (by obtain ⟨s118, e118, rfl, rfl⟩ := hx; exact ⟨_, (fon_ex e118 hE).symm, rfl, rfl⟩)) (fun r118 h118 n118 hp118 => ?_)
          obtain ⟨z118, s118, e118, rfl, rfl, rfl⟩ := hp118
          replace hE := fon_ok e118 hE
          refine aw_istore (lv2 := [(5, _), (4, _), (3, _), (0, _), (1, _), (2, _)]) dX6_readPixel_121 (by decide) rfl ?_
          refine aw_iload_n dX6_readPixel_123 rfl ?_
          refine aw_iload dX6_readPixel_124 rfl ?_
          refine aw_iload dX6_readPixel_126 rfl ?_
          refine aw_iload_n dX6_readPixel_128 rfl ?_
          refine aw_sipush (v := 255) dX6_readPixel_129 (by decide) ?_
          refine aw_icmp_ne (tgt := 142) dX6_readPixel_132 (by decide) (fun c132 => ?_) (fun c132 => ?_)
          · replace hE := fif hE c132
            refine aw_aload_n dX6_readPixel_142 rfl ?_
            refine aw_getf (v := .int (qo_last qo)) dX6_readPixel_143 flX6_78_5 at_qoi rfl ?_
            refine aw_callSN dX6_readPixel_146  csX6_91 rfl (kF_X10_alphaOf _ _ (qo_last qo)) rfl (Nat.le_of_ble_eq_true rfl) (by decide) (by decide) (by decide) (by decide)  (fun r146 h146 n146 hp146 => ?_)
            obtain ⟨rfl, rfl, rfl⟩ := hp146
            exact aw_lv _ (fun _ h => absurd h List.not_mem_nil) (b_X6_readPixel_149 m0 sh rr ww so pl qo pn bm tg px fa hb n hso  (F_X10_alphaOf (qo_last qo)) z118 z112 z107 s118 _ hE hF)
          · replace hE := fit hE c132
            refine aw_aload_n dX6_readPixel_135 rfl ?_
            refine aw_callV dX6_readPixel_136 at_src cvX6_63 rfl (kF_X8_next m0 sh rr ww so s118 pl qo pn bm tg px fa hb _ hso  (fon_ne hE hF)) rfl (Nat.le_of_ble_eq_true rfl) (by decide) (by decide) (by decide) (by decide) (fun E h2 n2 hx => aw_out rfl (by decide) (by decide) (by obtain ⟨s136, e136, rfl, rfl⟩ := hx; exact ⟨_, (fon_ex e136 hE).symm, rfl, rfl⟩)) (fun r136 h136 n136 hp136 => ?_)
            obtain ⟨z136, s136, e136, rfl, rfl, rfl⟩ := hp136
            replace hE := fon_ok e136 hE
            refine aw_goto (tgt := 149) dX6_readPixel_139 (by decide) ?_
            exact aw_lv _ (fun _ h => absurd h List.not_mem_nil) (b_X6_readPixel_149 m0 sh rr ww so pl qo pn bm tg px fa hb n hso  z136 z118 z112 z107 s136 _ hE hF)
        · replace hE := fif hE c98
          refine aw_aload_n dX6_readPixel_101 rfl ?_
          refine aw_getf (v := .int (qo_last qo)) dX6_readPixel_102 flX6_78_5 at_qoi rfl ?_
          exact aw_iret dX6_readPixel_105 rfl (Nat.zero_le _) (Nat.zero_le _) (Nat.zero_le _) (Nat.zero_le _) ⟨_, _, hE.symm, rfl, rfl, rfl⟩
      · replace hE := fif hE c51
        refine aw_aload_n dX6_readPixel_54 rfl ?_
        refine aw_callV dX6_readPixel_55 at_src cvX6_63 rfl (kF_X8_next m0 sh rr ww so sc pl qo pn bm tg px fa hb _ hso  (fon_ne hE hF)) rfl (Nat.le_of_ble_eq_true rfl) (by decide) (by decide) (by decide) (by decide) (fun E h2 n2 hx => aw_out rfl (by decide) (by decide) (by obtain ⟨s55, e55, rfl, rfl⟩ := hx; exact ⟨_, (fon_ex e55 hE).symm, rfl, rfl⟩)) (fun r55 h55 n55 hp55 => ?_)
        obtain ⟨z55, s55, e55, rfl, rfl, rfl⟩ := hp55
        replace hE := fon_ok e55 hE
        refine aw_istore_n (lv2 := [(3, _), (0, _), (1, _), (2, _)]) dX6_readPixel_58 (by decide) rfl ?_
        refine aw_iload_n dX6_readPixel_59 rfl ?_
        refine aw_bipush (v := 63) dX6_readPixel_60 (by decide) ?_
        refine aw_iand dX6_readPixel_62 ?_
        refine aw_bipush (v := 32) dX6_readPixel_63 (by decide) ?_
        refine aw_isub dX6_readPixel_65 ?_
        refine aw_istore (lv2 := [(4, _), (3, _), (0, _), (1, _), (2, _)]) dX6_readPixel_66 (by decide) rfl ?_
        refine aw_aload_n dX6_readPixel_68 rfl ?_
        refine aw_iload dX6_readPixel_69 rfl ?_
        refine aw_iload_n dX6_readPixel_71 rfl ?_
        refine aw_iconst (v := 4) dX6_readPixel_72 (by decide) ?_
        refine aw_ishr dX6_readPixel_73 ?_
        refine aw_iadd dX6_readPixel_74 ?_
        refine aw_bipush (v := 8) dX6_readPixel_75 (by decide) ?_
        refine aw_isub dX6_readPixel_77 ?_
        refine aw_iload dX6_readPixel_78 rfl ?_
        refine aw_iload dX6_readPixel_80 rfl ?_
        refine aw_iload_n dX6_readPixel_82 rfl ?_
        refine aw_bipush (v := 15) dX6_readPixel_83 (by decide) ?_
        refine aw_iand dX6_readPixel_85 ?_
        refine aw_iadd dX6_readPixel_86 ?_
        refine aw_bipush (v := 8) dX6_readPixel_87 (by decide) ?_
        refine aw_isub dX6_readPixel_89 ?_
        refine aw_callV dX6_readPixel_90 at_qoi cvX6_87 rfl (kF_X6_moved m0 sh rr ww so s55 pl qo pn bm tg px fa hb _  ((((a2 &&& 63) - 32) + (z55 >>> ((4 : Int32) &&& 31))) - 8) ((a2 &&& 63) - 32) ((((a2 &&& 63) - 32) + (z55 &&& 15)) - 8) (fon_ne hE hF)) rfl (Nat.le_of_ble_eq_true rfl) (by decide) (by decide) (by decide) (by decide) (fun _ _ _ hf => False.elim hf) (fun r90 h90 n90 hp90 => ?_)
        obtain ⟨z90, s90, e90, rfl, rfl, rfl⟩ := hp90
        replace hE := fon_ok e90 hE
        exact aw_iret dX6_readPixel_93 rfl (Nat.zero_le _) (Nat.zero_le _) (Nat.zero_le _) (Nat.zero_le _) ⟨_, _, hE.symm, rfl, rfl, rfl⟩
    · replace hE := fif hE c20
      refine aw_aload_n dX6_readPixel_23 rfl ?_
      refine aw_iload_n dX6_readPixel_24 rfl ?_
      refine aw_iconst (v := 4) dX6_readPixel_25 (by decide) ?_
      refine aw_ishr dX6_readPixel_26 ?_
      refine aw_iconst (v := 3) dX6_readPixel_27 (by decide) ?_
      refine aw_iand dX6_readPixel_28 ?_
      refine aw_iconst (v := 2) dX6_readPixel_29 (by decide) ?_
      refine aw_isub dX6_readPixel_30 ?_
      refine aw_iload_n dX6_readPixel_31 rfl ?_
      refine aw_iconst (v := 2) dX6_readPixel_32 (by decide) ?_
      refine aw_ishr dX6_readPixel_33 ?_
      refine aw_iconst (v := 3) dX6_readPixel_34 (by decide) ?_
      refine aw_iand dX6_readPixel_35 ?_
      refine aw_iconst (v := 2) dX6_readPixel_36 (by decide) ?_
      refine aw_isub dX6_readPixel_37 ?_
      refine aw_iload_n dX6_readPixel_38 rfl ?_
      refine aw_iconst (v := 3) dX6_readPixel_39 (by decide) ?_
      refine aw_iand dX6_readPixel_40 ?_
      refine aw_iconst (v := 2) dX6_readPixel_41 (by decide) ?_
      refine aw_isub dX6_readPixel_42 ?_
      refine aw_callV dX6_readPixel_43 at_qoi cvX6_87 rfl (kF_X6_moved m0 sh rr ww so sc pl qo pn bm tg px fa hb _  (((a2 >>> ((4 : Int32) &&& 31)) &&& 3) - 2) (((a2 >>> ((2 : Int32) &&& 31)) &&& 3) - 2) ((a2 &&& 3) - 2) (fon_ne hE hF)) rfl (Nat.le_of_ble_eq_true rfl) (by decide) (by decide) (by decide) (by decide) (fun _ _ _ hf => False.elim hf) (fun r43 h43 n43 hp43 => ?_)
      obtain ⟨z43, s43, e43, rfl, rfl, rfl⟩ := hp43
      replace hE := fon_ok e43 hE
      exact aw_iret dX6_readPixel_46 rfl (Nat.zero_le _) (Nat.zero_le _) (Nat.zero_le _) (Nat.zero_le _) ⟨_, _, hE.symm, rfl, rfl, rfl⟩
  · replace hE := fif hE c3
    refine aw_aload_n dX6_readPixel_6 rfl ?_
    refine aw_getf (v := .ref 22) dX6_readPixel_7 flX6_9_5 at_qoi rfl ?_
    refine aw_iload_n dX6_readPixel_10 rfl ?_
    refine aw_bipush (v := 63) dX6_readPixel_11 (by decide) ?_
    refine aw_iand dX6_readPixel_13 ?_
    obtain ⟨g14, hE⟩ := fgd hE hF
    refine aw_iald (f := (qo_pl qo)) dX6_readPixel_14 at_qoipl (vp_in_iff.mpr g14) ?_
    exact aw_iret dX6_readPixel_15 rfl (Nat.zero_le _) (Nat.zero_le _) (Nat.zero_le _) (Nat.zero_le _) ⟨_, _, hE.symm, rfl, rfl, rfl⟩
def P_X9_readSize (m0 : Mnt) (sh : Nat → Nat) (rr : Nat → Ras) (r : Nat) (ww : Nat → Row) (so : Nat) (pl : Pal) (qo : Qoi) (pn : Pnm) (bm : Bmp) (tg : Tga) (px : Pcx) (fa : A) (hb : aH) (n : Nat) (res : Out (Ras × Src) Unit) : Option Value → aH → Nat → Prop := fun r1 h2 n2 => ∃ (a : Unit) (s : (Ras × Src)), res = fok a s ∧ r1 = none ∧ h2 = HC m0 sh (va_up rr r s.1) ww so s.2 pl qo pn bm tg px fa hb ∧ n = n2
def X_X9_readSize (m0 : Mnt) (sh : Nat → Nat) (rr : Nat → Ras) (r : Nat) (ww : Nat → Row) (so : Nat) (pl : Pal) (qo : Qoi) (pn : Pnm) (bm : Bmp) (tg : Tga) (px : Pcx) (fa : A) (hb : aH) (n : Nat) (res : Out (Ras × Src) Unit) : String → aH → Nat → Prop := fun E h2 n2 => ∃ s : (Ras × Src), res = fex E s ∧ h2 = HC m0 sh (va_up rr r s.1) ww so s.2 pl qo pn bm tg px fa hb ∧ n = n2
def F_X9_readSize (x : Ras) (sc : Src) (sb : A) : Out (Ras × Src) Unit := fon (F_X9_readSide sc sb) (fun z1 s1 => fon (F_X9_readSide s1 sb) (fun z11 s11 => fon (F_X8_lay ((z1).toInt64) ((z11).toInt64) (sc_pos s1) x s11) (fun z24 s24 => fok () (s24.1, s24.2)) (fun E s24 => fex E (s24.1, s24.2))) (fun E s11 => fex E (x, s11))) (fun E s1 => fex E (x, s1))
set_option maxHeartbeats 1000000 in
set_option maxRecDepth 100000 in
theorem kF_X9_readSize (m0 : Mnt) (sh : Nat → Nat) (rr : Nat → Ras) (r : Nat) (x : Ras) (ww : Nat → Row) (so : Nat) (sc : Src) (pl : Pal) (qo : Qoi) (pn : Pnm) (bm : Bmp) (tg : Tga) (px : Pcx) (fa : A) (hb : aH) (n : Nat) (hr : isR r) (hso : isW so)  (hF : F_X9_readSize x sc (y_b (ww so)) ≠ fno) : AM mX9_readSize 6 [.ref 16, .ref r] (HC m0 sh (va_up rr r x) ww so sc pl qo pn bm tg px fa hb) n 1 6 0 0 (P_X9_readSize m0 sh rr r ww so pl qo pn bm tg px fa hb n (F_X9_readSize x sc (y_b (ww so)))) (X_X9_readSize m0 sh rr r ww so pl qo pn bm tg px fa hb n (F_X9_readSize x sc (y_b (ww so)))) := by
  generalize hE : F_X9_readSize x sc (y_b (ww so)) = res at hF ⊢
  refine aw_of (by decide +kernel) rfl (Nat.le_of_ble_eq_true rfl) ?_
  unfold F_X9_readSize at hE
  refine aw_aload_n dX9_readSize_0 rfl ?_
  refine aw_callS dX9_readSize_1  csX9_100 rfl (kF_X9_readSide m0 sh (va_up rr r x) ww so sc pl qo pn bm tg px fa hb _ hso  (fon_ne hE hF)) rfl (Nat.le_of_ble_eq_true rfl) (by decide) (by decide) (by decide) (by decide) (fun E h2 n2 hx => aw_out rfl (by decide) (by decide) (by obtain ⟨s1, e1, rfl, rfl⟩ := hx; exact ⟨_, (fon_ex e1 hE).symm, rfl, rfl⟩)) (fun r1 h1 n1 hp1 => ?_)
  obtain ⟨z1, s1, e1, rfl, rfl, rfl⟩ := hp1
  replace hE := fon_ok e1 hE
  refine aw_istore_n (lv2 := [(2, _), (0, _), (1, _)]) dX9_readSize_4 (by decide) rfl ?_
  refine aw_aload_n dX9_readSize_5 rfl ?_
  refine aw_getf (v := .int (sc_pos s1)) dX9_readSize_6 flX9_74_7 at_src rfl ?_
  refine aw_istore_n (lv2 := [(3, _), (2, _), (0, _), (1, _)]) dX9_readSize_9 (by decide) rfl ?_
  refine aw_aload_n dX9_readSize_10 rfl ?_
  refine aw_callS dX9_readSize_11  csX9_100 rfl (kF_X9_readSide m0 sh (va_up rr r x) ww so s1 pl qo pn bm tg px fa hb _ hso  (fon_ne hE hF)) rfl (Nat.le_of_ble_eq_true rfl) (by decide) (by decide) (by decide) (by decide) (fun E h2 n2 hx => aw_out rfl (by decide) (by decide) (by obtain ⟨s11, e11, rfl, rfl⟩ := hx; exact ⟨_, (fon_ex e11 hE).symm, rfl, rfl⟩)) (fun r11 h11 n11 hp11 => ?_)
  obtain ⟨z11, s11, e11, rfl, rfl, rfl⟩ := hp11
  replace hE := fon_ok e11 hE
  refine aw_istore (lv2 := [(4, _), (3, _), (2, _), (0, _), (1, _)]) dX9_readSize_14 (by decide) rfl ?_
  refine aw_aload_n dX9_readSize_16 rfl ?_
  refine aw_aload_n dX9_readSize_17 rfl ?_
  refine aw_iload_n dX9_readSize_18 rfl ?_
  refine aw_i2l dX9_readSize_19 ?_
  refine aw_iload dX9_readSize_20 rfl ?_
  refine aw_i2l dX9_readSize_22 ?_
  refine aw_iload_n dX9_readSize_23 rfl ?_
  refine aw_callV dX9_readSize_24 at_src cvX9_104 rfl (kF_X8_lay m0 sh rr r x ww so s11 pl qo pn bm tg px fa hb _ hr ((z1).toInt64) ((z11).toInt64) (sc_pos s1) (fon_ne hE hF)) rfl (Nat.le_of_ble_eq_true rfl) (by decide) (by decide) (by decide) (by decide) (fun E h2 n2 hx => aw_out rfl (by decide) (by decide) (by obtain ⟨s24, e24, rfl, rfl⟩ := hx; exact ⟨_, (fon_ex e24 hE).symm, rfl, rfl⟩)) (fun r24 h24 n24 hp24 => ?_)
  obtain ⟨z24, s24, e24, rfl, rfl, rfl⟩ := hp24
  replace hE := fon_ok e24 hE
  exact aw_vret dX9_readSize_27 rfl (Nat.zero_le _) (Nat.zero_le _) (Nat.zero_le _) (Nat.zero_le _) ⟨_, _, hE.symm, rfl, rfl, rfl⟩
