def P_X9_packetSize (m0 : Mnt) (sh : Nat → Nat) (rr : Nat → Ras) (r : Nat) (x : Ras) (ww : Nat → Row) (so : Nat) (sc : Src) (pl : Pal) (qo : Qoi) (pn : Pnm) (bm : Bmp) (tg : Tga) (px : Pcx) (fa : A) (hb : aH) (n : Nat) (res : Out Unit Int32) : Option Value → aH → Nat → Prop := fun r1 h2 n2 => ∃ (a : Int32) (s : Unit), res = fok a s ∧ r1 = some (.int a) ∧ h2 = HC m0 sh (va_up rr r x) ww so sc pl qo pn bm tg px fa hb ∧ n = n2
abbrev Q_X9_packetSize_17 (m0 : Mnt) (sh : Nat → Nat) (rr : Nat → Ras) (r : Nat) (x : Ras) (ww : Nat → Row) (so : Nat) (sc : Src) (pl : Pal) (qo : Qoi) (pn : Pnm) (bm : Bmp) (tg : Tga) (px : Pcx) (fa : A) (hb : aH) (n : Nat) (k : Int32 → Int32 → Int32 → Int32 → Int32 → Out Unit Int32) : Prop := ∀ (v1 : Int32) (v2 : Int32) (v3 : Int32) (v4 : Int32) (v5 : Int32) (res : Out Unit Int32), k v1 v2 v3 v4 v5 = res → res ≠ fno → AW (fun _ _ => True) mX9_packetSize (rmD 3 0 0) 0 0 (P_X9_packetSize m0 sh rr r x ww so sc pl qo pn bm tg px fa hb n res) (fun _ _ _ => False) 0 0 17 [(0, .ref r), (1, .int v1), (2, .int v2), (3, .int v3), (4, .int v4), (5, .int v5)] [] (HC m0 sh (va_up rr r x) ww so sc pl qo pn bm tg px fa hb) n
abbrev Q_X9_packetSize_57 (m0 : Mnt) (sh : Nat → Nat) (rr : Nat → Ras) (r : Nat) (x : Ras) (ww : Nat → Row) (so : Nat) (sc : Src) (pl : Pal) (qo : Qoi) (pn : Pnm) (bm : Bmp) (tg : Tga) (px : Pcx) (fa : A) (hb : aH) (n : Nat) (k : Int32 → Out Unit Int32) : Prop := ∀ (v5 : Int32) (res : Out Unit Int32), k v5 = res → res ≠ fno → AW (fun _ _ => True) mX9_packetSize (rmD 3 0 0) 0 0 (P_X9_packetSize m0 sh rr r x ww so sc pl qo pn bm tg px fa hb n res) (fun _ _ _ => False) 0 0 57 [(5, .int v5)] [] (HC m0 sh (va_up rr r x) ww so sc pl qo pn bm tg px fa hb) n
abbrev Q_X9_packetSize_60 (m0 : Mnt) (sh : Nat → Nat) (rr : Nat → Ras) (r : Nat) (x : Ras) (ww : Nat → Row) (so : Nat) (sc : Src) (pl : Pal) (qo : Qoi) (pn : Pnm) (bm : Bmp) (tg : Tga) (px : Pcx) (fa : A) (hb : aH) (n : Nat) (k : Int32 → Int32 → Int32 → Int32 → Int32 → Out Unit Int32) : Prop := ∀ (v1 : Int32) (v2 : Int32) (v3 : Int32) (v4 : Int32) (v5 : Int32) (res : Out Unit Int32), k v1 v2 v3 v4 v5 = res → res ≠ fno → AW (fun _ _ => True) mX9_packetSize (rmD 3 0 0) 0 0 (P_X9_packetSize m0 sh rr r x ww so sc pl qo pn bm tg px fa hb n res) (fun _ _ _ => False) 0 0 60 [(0, .ref r), (1, .int v1), (2, .int v2), (3, .int v3), (4, .int v4), (5, .int v5)] [] (HC m0 sh (va_up rr r x) ww so sc pl qo pn bm tg px fa hb) n
def F_X9_packetSize_60 (x : Ras) (k17 : Int32 → Int32 → Int32 → Int32 → Int32 → Out Unit Int32) (v1 : Int32) (v2 : Int32) (v3 : Int32) (v4 : Int32) (v5 : Int32) : Out Unit Int32 := k17 v1 v2 v3 v4 (v5 + 1)
set_option maxHeartbeats 1000000 in
set_option maxRecDepth 100000 in
theorem b_X9_packetSize_60 (m0 : Mnt) (sh : Nat → Nat) (rr : Nat → Ras) (r : Nat) (x : Ras) (ww : Nat → Row) (so : Nat) (sc : Src) (pl : Pal) (qo : Qoi) (pn : Pnm) (bm : Bmp) (tg : Tga) (px : Pcx) (fa : A) (hb : aH) (n : Nat) (hr : isR r) (k17 : Int32 → Int32 → Int32 → Int32 → Int32 → Out Unit Int32) (hk17 : Q_X9_packetSize_17 m0 sh rr r x ww so sc pl qo pn bm tg px fa hb n k17) : Q_X9_packetSize_60 m0 sh rr r x ww so sc pl qo pn bm tg px fa hb n (F_X9_packetSize_60 x k17) := by
  intro v1 v2 v3 v4 v5 res hE hF
  unfold F_X9_packetSize_60 at hE
  refine aw_iinc (v := (v5 + 1)) (lv2 := [(5, _), (0, _), (1, _), (2, _), (3, _), (4, _)]) dX9_packetSize_60 rfl (incE (by decide)) (by decide) rfl ?_
  refine aw_goto (tgt := 17) dX9_packetSize_63 (by decide) ?_
  exact aw_lv _ (List.forall_mem_cons.mpr ⟨rfl, (List.forall_mem_cons.mpr ⟨rfl, (List.forall_mem_cons.mpr ⟨rfl, (List.forall_mem_cons.mpr ⟨rfl, (List.forall_mem_cons.mpr ⟨rfl, (List.forall_mem_cons.mpr ⟨rfl, fun _ h => absurd h List.not_mem_nil⟩)⟩)⟩)⟩)⟩)⟩) (hk17 v1 v2 v3 v4 (v5 + 1) _ hE hF)
def F_X9_packetSize_57 (x : Ras)  (v5 : Int32) : Out Unit Int32 := fok (v5 : Int32) ()
set_option maxHeartbeats 1000000 in
set_option maxRecDepth 100000 in
theorem b_X9_packetSize_57 (m0 : Mnt) (sh : Nat → Nat) (rr : Nat → Ras) (r : Nat) (x : Ras) (ww : Nat → Row) (so : Nat) (sc : Src) (pl : Pal) (qo : Qoi) (pn : Pnm) (bm : Bmp) (tg : Tga) (px : Pcx) (fa : A) (hb : aH) (n : Nat) (hr : isR r)  : Q_X9_packetSize_57 m0 sh rr r x ww so sc pl qo pn bm tg px fa hb n (F_X9_packetSize_57 x) := by
  intro v5 res hE hF
  unfold F_X9_packetSize_57 at hE
  refine aw_iload dX9_packetSize_57 rfl ?_
  exact aw_iret dX9_packetSize_59 rfl (Nat.zero_le _) (Nat.zero_le _) (Nat.zero_le _) (Nat.zero_le _) ⟨_, _, hE.symm, rfl, rfl, rfl⟩
def F_X9_packetSize_17 (x : Ras) (k17 : Int32 → Int32 → Int32 → Int32 → Int32 → Out Unit Int32) (v1 : Int32) (v2 : Int32) (v3 : Int32) (v4 : Int32) (v5 : Int32) : Out Unit Int32 := if v4 ≤ v5 then (fok (v4 : Int32) ()) else (if v3 = 0 then (fon (F_X9_isLikeNext v1 (v2 + v5) x) (fun z51 s51 => if z51 = 0 then (F_X9_packetSize_60 x k17 v1 v2 v3 v4 v5) else (F_X9_packetSize_57 x v5)) (fun _ _ => fno)) else (fon (F_X9_isLikeNext v1 ((v2 + v5) - 1) x) (fun z36 s36 => if z36 = 0 then (F_X9_packetSize_57 x v5) else (F_X9_packetSize_60 x k17 v1 v2 v3 v4 v5)) (fun _ _ => fno)))
set_option maxHeartbeats 1000000 in
set_option maxRecDepth 100000 in
theorem b_X9_packetSize_17 (m0 : Mnt) (sh : Nat → Nat) (rr : Nat → Ras) (r : Nat) (x : Ras) (ww : Nat → Row) (so : Nat) (sc : Src) (pl : Pal) (qo : Qoi) (pn : Pnm) (bm : Bmp) (tg : Tga) (px : Pcx) (fa : A) (hb : aH) (n : Nat) (hr : isR r) (k17 : Int32 → Int32 → Int32 → Int32 → Int32 → Out Unit Int32) (hk17 : Q_X9_packetSize_17 m0 sh rr r x ww so sc pl qo pn bm tg px fa hb n k17) : Q_X9_packetSize_17 m0 sh rr r x ww so sc pl qo pn bm tg px fa hb n (F_X9_packetSize_17 x k17) := by
  intro v1 v2 v3 v4 v5 res hE hF
  unfold F_X9_packetSize_17 at hE
  refine aw_iload dX9_packetSize_17 rfl ?_
  refine aw_iload dX9_packetSize_19 rfl ?_
  refine aw_icmp_ge (tgt := 66) dX9_packetSize_21 (by decide) (fun c21 => ?_) (fun c21 => ?_)
  · replace hE := fit hE c21
    refine aw_iload dX9_packetSize_66 rfl ?_
    exact aw_iret dX9_packetSize_68 rfl (Nat.zero_le _) (Nat.zero_le _) (Nat.zero_le _) (Nat.zero_le _) ⟨_, _, hE.symm, rfl, rfl, rfl⟩
  · replace hE := fif hE c21
    refine aw_iload_n dX9_packetSize_24 rfl ?_
    refine aw_if_eq (tgt := 45) dX9_packetSize_25 (by decide) (fun c25 => ?_) (fun c25 => ?_)
    · replace hE := fit hE c25
      refine aw_aload_n dX9_packetSize_45 rfl ?_
      refine aw_iload_n dX9_packetSize_46 rfl ?_
      refine aw_iload_n dX9_packetSize_47 rfl ?_
      refine aw_iload dX9_packetSize_48 rfl ?_
      refine aw_iadd dX9_packetSize_50 ?_
      refine aw_callS dX9_packetSize_51  csX9_231 rfl (kF_X9_isLikeNext m0 sh rr r x ww so sc pl qo pn bm tg px fa hb _ hr v1 (v2 + v5) (fon_ne hE hF)) rfl (Nat.le_of_ble_eq_true rfl) (by decide) (by decide) (by decide) (by decide) (fun _ _ _ hf => False.elim hf) (fun r51 h51 n51 hp51 => ?_)
      obtain ⟨z51, s51, e51, rfl, rfl, rfl⟩ := hp51
      replace hE := fon_ok e51 hE
      refine aw_if_eq (tgt := 60) dX9_packetSize_54 (by decide) (fun c54 => ?_) (fun c54 => ?_)
      · replace hE := fit hE c54
        exact aw_lv _ (List.forall_mem_cons.mpr ⟨rfl, (List.forall_mem_cons.mpr ⟨rfl, (List.forall_mem_cons.mpr ⟨rfl, (List.forall_mem_cons.mpr ⟨rfl, (List.forall_mem_cons.mpr ⟨rfl, (List.forall_mem_cons.mpr ⟨rfl, fun _ h => absurd h List.not_mem_nil⟩)⟩)⟩)⟩)⟩)⟩) (b_X9_packetSize_60 m0 sh rr r x ww so sc pl qo pn bm tg px fa hb n hr k17 hk17 v1 v2 v3 v4 v5 _ hE hF)
      · replace hE := fif hE c54
        exact aw_lv _ (List.forall_mem_cons.mpr ⟨rfl, fun _ h => absurd h List.not_mem_nil⟩) (b_X9_packetSize_57 m0 sh rr r x ww so sc pl qo pn bm tg px fa hb n hr  v5 _ hE hF)
    · replace hE := fif hE c25
      refine aw_aload_n dX9_packetSize_28 rfl ?_
      refine aw_iload_n dX9_packetSize_29 rfl ?_
      refine aw_iload_n dX9_packetSize_30 rfl ?_
      refine aw_iload dX9_packetSize_31 rfl ?_
      refine aw_iadd dX9_packetSize_33 ?_
      refine aw_iconst (v := 1) dX9_packetSize_34 (by decide) ?_
      refine aw_isub dX9_packetSize_35 ?_
      refine aw_callS dX9_packetSize_36  csX9_231 rfl (kF_X9_isLikeNext m0 sh rr r x ww so sc pl qo pn bm tg px fa hb _ hr v1 ((v2 + v5) - 1) (fon_ne hE hF)) rfl (Nat.le_of_ble_eq_true rfl) (by decide) (by decide) (by decide) (by decide) (fun _ _ _ hf => False.elim hf) (fun r36 h36 n36 hp36 => ?_)
      obtain ⟨z36, s36, e36, rfl, rfl, rfl⟩ := hp36
      replace hE := fon_ok e36 hE
      refine aw_if_ne (tgt := 60) dX9_packetSize_39 (by decide) (fun c39 => ?_) (fun c39 => ?_)
      · replace hE := fif hE c39
        exact aw_lv _ (List.forall_mem_cons.mpr ⟨rfl, (List.forall_mem_cons.mpr ⟨rfl, (List.forall_mem_cons.mpr ⟨rfl, (List.forall_mem_cons.mpr ⟨rfl, (List.forall_mem_cons.mpr ⟨rfl, (List.forall_mem_cons.mpr ⟨rfl, fun _ h => absurd h List.not_mem_nil⟩)⟩)⟩)⟩)⟩)⟩) (b_X9_packetSize_60 m0 sh rr r x ww so sc pl qo pn bm tg px fa hb n hr k17 hk17 v1 v2 v3 v4 v5 _ hE hF)
      · replace hE := fit hE c39
        refine aw_goto (tgt := 57) dX9_packetSize_42 (by decide) ?_
        exact aw_lv _ (List.forall_mem_cons.mpr ⟨rfl, fun _ h => absurd h List.not_mem_nil⟩) (b_X9_packetSize_57 m0 sh rr r x ww so sc pl qo pn bm tg px fa hb n hr  v5 _ hE hF)
def F_X9_packetSize (a1 : Int32) (a2 : Int32) (a3 : Int32) (x : Ras) : Out Unit Int32 := lp (fun _ _ _ _ _ => fno) (F_X9_packetSize_17 x) FU a1 a2 a3 (iMin 128 ((x_w x) - a2)) (1 : Int32)
set_option maxHeartbeats 1000000 in
set_option maxRecDepth 100000 in
theorem kF_X9_packetSize (m0 : Mnt) (sh : Nat → Nat) (rr : Nat → Ras) (r : Nat) (x : Ras) (ww : Nat → Row) (so : Nat) (sc : Src) (pl : Pal) (qo : Qoi) (pn : Pnm) (bm : Bmp) (tg : Tga) (px : Pcx) (fa : A) (hb : aH) (n : Nat) (hr : isR r) (a1 : Int32) (a2 : Int32) (a3 : Int32) (hF : F_X9_packetSize a1 a2 a3 x ≠ fno) : AM mX9_packetSize 3 [.ref r, .int a1, .int a2, .int a3] (HC m0 sh (va_up rr r x) ww so sc pl qo pn bm tg px fa hb) n 0 0 0 0 (P_X9_packetSize m0 sh rr r x ww so sc pl qo pn bm tg px fa hb n (F_X9_packetSize a1 a2 a3 x)) (fun _ _ _ => False) := by
  generalize hE : F_X9_packetSize a1 a2 a3 x = res at hF ⊢
  refine aw_of (by decide +kernel) rfl (Nat.le_of_ble_eq_true rfl) ?_
  unfold F_X9_packetSize at hE
  refine aw_sipush (v := 128) dX9_packetSize_0 (by decide) ?_
  refine aw_aload_n dX9_packetSize_3 rfl ?_
  refine aw_getf (v := .int (x_w x)) dX9_packetSize_4 flX9_126_6 (at_ras hr) rfl ?_
  refine aw_iload_n dX9_packetSize_7 rfl ?_
  refine aw_isub dX9_packetSize_8 ?_
  refine aw_mmin dX9_packetSize_9 csX9_239.1.1 csX9_239.2 csX9_239.1.2.1 csX9_239.1.2.2.1 (by decide) (Nat.le_of_ble_eq_true rfl) (Nat.zero_le _) (Nat.zero_le _) ?_
  refine aw_istore (lv2 := [(4, _), (0, _), (1, _), (2, _), (3, _)]) dX9_packetSize_12 (by decide) rfl ?_
  refine aw_iconst (v := 1) dX9_packetSize_14 (by decide) ?_
  refine aw_istore (lv2 := [(5, _), (4, _), (0, _), (1, _), (2, _), (3, _)]) dX9_packetSize_15 (by decide) rfl ?_
  exact aw_lv _ (List.forall_mem_cons.mpr ⟨rfl, (List.forall_mem_cons.mpr ⟨rfl, (List.forall_mem_cons.mpr ⟨rfl, (List.forall_mem_cons.mpr ⟨rfl, (List.forall_mem_cons.mpr ⟨rfl, (List.forall_mem_cons.mpr ⟨rfl, fun _ h => absurd h List.not_mem_nil⟩)⟩)⟩)⟩)⟩)⟩) (lp_ind (Q_X9_packetSize_17 m0 sh rr r x ww so sc pl qo pn bm tg px fa hb n) (fun _ _ _ _ _ res hq hF => (hF hq.symm).elim) (fun k hk => b_X9_packetSize_17 m0 sh rr r x ww so sc pl qo pn bm tg px fa hb n hr  k hk) FU a1 a2 a3 (iMin 128 ((x_w x) - a2)) (1 : Int32) _ hE hF)
def P_X9_writePixels (m0 : Mnt) (sh : Nat → Nat) (rr : Nat → Ras) (r : Nat) (x : Ras) (ww : Nat → Row) (o : Nat) (so : Nat) (sc : Src) (pl : Pal) (qo : Qoi) (pn : Pnm) (bm : Bmp) (tg : Tga) (px : Pcx) (fa : A) (hb : aH) (n : Nat) (res : Out Row Unit) : Option Value → aH → Nat → Prop := fun r1 h2 n2 => ∃ (a : Unit) (s : Row), res = fok a s ∧ r1 = none ∧ h2 = HC m0 sh (va_up rr r x) (va_up ww o s) so sc pl qo pn bm tg px fa hb ∧ n = n2
abbrev Q_X9_writePixels_3 (m0 : Mnt) (sh : Nat → Nat) (rr : Nat → Ras) (r : Nat) (x : Ras) (ww : Nat → Row) (o : Nat) (so : Nat) (sc : Src) (pl : Pal) (qo : Qoi) (pn : Pnm) (bm : Bmp) (tg : Tga) (px : Pcx) (fa : A) (hb : aH) (n : Nat) (k : Int32 → Int32 → Int32 → Int32 → Int32 → Row → Out Row Unit) : Prop := ∀ (v2 : Int32) (v3 : Int32) (v4 : Int32) (v5 : Int32) (v7 : Int32) (y : Row) (res : Out Row Unit), k v2 v3 v4 v5 v7 y = res → res ≠ fno → AW (fun _ _ => True) mX9_writePixels (rmD 3 0 0) 0 0 (P_X9_writePixels m0 sh rr r x ww o so sc pl qo pn bm tg px fa hb n res) (fun _ _ _ => False) 0 0 3 [(0, .ref 26), (1, .ref r), (2, .int v2), (3, .int v3), (4, .int v4), (5, .int v5), (6, .ref o), (7, .int v7)] [] (HC m0 sh (va_up rr r x) (va_up ww o y) so sc pl qo pn bm tg px fa hb) n
abbrev Q_X9_writePixels_70 (m0 : Mnt) (sh : Nat → Nat) (rr : Nat → Ras) (r : Nat) (x : Ras) (ww : Nat → Row) (o : Nat) (so : Nat) (sc : Src) (pl : Pal) (qo : Qoi) (pn : Pnm) (bm : Bmp) (tg : Tga) (px : Pcx) (fa : A) (hb : aH) (n : Nat) (k : Int32 → Int32 → Int32 → Int32 → Int32 → Row → Out Row Unit) : Prop := ∀ (v2 : Int32) (v3 : Int32) (v4 : Int32) (v5 : Int32) (v7 : Int32) (y : Row) (res : Out Row Unit), k v2 v3 v4 v5 v7 y = res → res ≠ fno → AW (fun _ _ => True) mX9_writePixels (rmD 3 0 0) 0 0 (P_X9_writePixels m0 sh rr r x ww o so sc pl qo pn bm tg px fa hb n res) (fun _ _ _ => False) 0 0 70 [(0, .ref 26), (1, .ref r), (2, .int v2), (3, .int v3), (4, .int v4), (5, .int v5), (6, .ref o), (7, .int v7)] [] (HC m0 sh (va_up rr r x) (va_up ww o y) so sc pl qo pn bm tg px fa hb) n
def F_X9_writePixels_70 (x : Ras) (pl : Pal) (k3 : Int32 → Int32 → Int32 → Int32 → Int32 → Row → Out Row Unit) (v2 : Int32) (v3 : Int32) (v4 : Int32) (v5 : Int32) (v7 : Int32) (y : Row) : Out Row Unit := k3 v2 v3 v4 v5 (v7 + 1) y
set_option maxHeartbeats 1000000 in
set_option maxRecDepth 100000 in
theorem b_X9_writePixels_70 (m0 : Mnt) (sh : Nat → Nat) (rr : Nat → Ras) (r : Nat) (x : Ras) (ww : Nat → Row) (o : Nat) (so : Nat) (sc : Src) (pl : Pal) (qo : Qoi) (pn : Pnm) (bm : Bmp) (tg : Tga) (px : Pcx) (fa : A) (hb : aH) (n : Nat) (hr : isR r) (ho : isW o) (k3 : Int32 → Int32 → Int32 → Int32 → Int32 → Row → Out Row Unit) (hk3 : Q_X9_writePixels_3 m0 sh rr r x ww o so sc pl qo pn bm tg px fa hb n k3) : Q_X9_writePixels_70 m0 sh rr r x ww o so sc pl qo pn bm tg px fa hb n (F_X9_writePixels_70 x pl k3) := by
  intro v2 v3 v4 v5 v7 y res hE hF
  unfold F_X9_writePixels_70 at hE
  refine aw_iinc (v := (v7 + 1)) (lv2 := [(7, _), (0, _), (1, _), (2, _), (3, _), (4, _), (5, _), (6, _)]) dX9_writePixels_70 rfl (incE (by decide)) (by decide) rfl ?_
  refine aw_goto (tgt := 3) dX9_writePixels_73 (by decide) ?_
  exact aw_lv _ (List.forall_mem_cons.mpr ⟨rfl, (List.forall_mem_cons.mpr ⟨rfl, (List.forall_mem_cons.mpr ⟨rfl, (List.forall_mem_cons.mpr ⟨rfl, (List.forall_mem_cons.mpr ⟨rfl, (List.forall_mem_cons.mpr ⟨rfl, (List.forall_mem_cons.mpr ⟨rfl, (List.forall_mem_cons.mpr ⟨rfl, fun _ h => absurd h List.not_mem_nil⟩)⟩)⟩)⟩)⟩)⟩)⟩)⟩) (hk3 v2 v3 v4 v5 (v7 + 1) y _ hE hF)
def F_X9_writePixels_3 (x : Ras) (pl : Pal) (k3 : Int32 → Int32 → Int32 → Int32 → Int32 → Row → Out Row Unit) (v2 : Int32) (v3 : Int32) (v4 : Int32) (v5 : Int32) (v7 : Int32) (y : Row) : Out Row Unit := if v3 ≤ v7 then (fok () y) else (fon (F_X7_get (v2 + v7) x) (fun z14 s14 => if v4 = 1 then (fon (F_X3_numberOf z14 pl) (fun z33 s33 => fon (F_X1_add z33 y) (fun z36 s36 => F_X9_writePixels_70 x pl k3 v2 v3 v4 v5 v7 s36) (fun _ _ => fno)) (fun _ _ => fno)) else (if v4 = 3 then (fon (F_X1_add (F_X10_redOf z14) y) (fun z55 s55 => F_X9_writePixels_70 x pl k3 v2 v3 v4 v5 v7 s55) (fun _ _ => fno)) else (fon (F_X9_writeColour z14 v5 y) (fun z67 s67 => F_X9_writePixels_70 x pl k3 v2 v3 v4 v5 v7 s67) (fun _ _ => fno)))) (fun _ _ => fno))
set_option maxHeartbeats 1000000 in
set_option maxRecDepth 100000 in
theorem b_X9_writePixels_3 (m0 : Mnt) (sh : Nat → Nat) (rr : Nat → Ras) (r : Nat) (x : Ras) (ww : Nat → Row) (o : Nat) (so : Nat) (sc : Src) (pl : Pal) (qo : Qoi) (pn : Pnm) (bm : Bmp) (tg : Tga) (px : Pcx) (fa : A) (hb : aH) (n : Nat) (hr : isR r) (ho : isW o) (k3 : Int32 → Int32 → Int32 → Int32 → Int32 → Row → Out Row Unit) (hk3 : Q_X9_writePixels_3 m0 sh rr r x ww o so sc pl qo pn bm tg px fa hb n k3) : Q_X9_writePixels_3 m0 sh rr r x ww o so sc pl qo pn bm tg px fa hb n (F_X9_writePixels_3 x pl k3) := by
  intro v2 v3 v4 v5 v7 y res hE hF
  unfold F_X9_writePixels_3 at hE
  refine aw_iload dX9_writePixels_3 rfl ?_
  refine aw_iload_n dX9_writePixels_5 rfl ?_
  refine aw_icmp_ge (tgt := 76) dX9_writePixels_6 (by decide) (fun c6 => ?_) (fun c6 => ?_)
  · replace hE := fit hE c6
    exact aw_vret dX9_writePixels_76 rfl (Nat.zero_le _) (Nat.zero_le _) (Nat.zero_le _) (Nat.zero_le _) ⟨_, _, hE.symm, rfl, rfl, rfl⟩
  · replace hE := fif hE c6
    refine aw_aload_n dX9_writePixels_9 rfl ?_
    refine aw_iload_n dX9_writePixels_10 rfl ?_
    refine aw_iload dX9_writePixels_11 rfl ?_
    refine aw_iadd dX9_writePixels_13 ?_
    refine aw_callV dX9_writePixels_14 (at_ras hr) cvX9_227 rfl (kF_X7_get m0 sh rr r x (va_up ww o y) so sc pl qo pn bm tg px fa hb _ hr (v2 + v7) (fon_ne hE hF)) rfl (Nat.le_of_ble_eq_true rfl) (by decide) (by decide) (by decide) (by decide) (fun _ _ _ hf => False.elim hf) (fun r14 h14 n14 hp14 => ?_)
    obtain ⟨z14, s14, e14, rfl, rfl, rfl⟩ := hp14
    replace hE := fon_ok e14 hE
    refine aw_istore (lv2 := [(8, _), (0, _), (1, _), (2, _), (3, _), (4, _), (5, _), (6, _), (7, _)]) dX9_writePixels_17 (by decide) rfl ?_
    refine aw_iload dX9_writePixels_19 rfl ?_
    refine aw_iconst (v := 1) dX9_writePixels_21 (by decide) ?_
    refine aw_icmp_ne (tgt := 42) dX9_writePixels_22 (by decide) (fun c22 => ?_) (fun c22 => ?_)
    · replace hE := fif hE c22
      refine aw_iload dX9_writePixels_42 rfl ?_
      refine aw_iconst (v := 3) dX9_writePixels_44 (by decide) ?_
      refine aw_icmp_ne (tgt := 61) dX9_writePixels_45 (by decide) (fun c45 => ?_) (fun c45 => ?_)
      · replace hE := fif hE c45
        refine aw_iload dX9_writePixels_61 rfl ?_
        refine aw_iload dX9_writePixels_63 rfl ?_
        refine aw_aload dX9_writePixels_65 rfl ?_
        refine aw_callS dX9_writePixels_67  csX9_203 rfl (kF_X9_writeColour m0 sh (va_up rr r x) ww o y so sc pl qo pn bm tg px fa hb _ ho z14 v5 (fon_ne hE hF)) rfl (Nat.le_of_ble_eq_true rfl) (by decide) (by decide) (by decide) (by decide) (fun _ _ _ hf => False.elim hf) (fun r67 h67 n67 hp67 => ?_)
        obtain ⟨z67, s67, e67, rfl, rfl, rfl⟩ := hp67
        replace hE := fon_ok e67 hE
        exact aw_lv _ (List.forall_mem_cons.mpr ⟨rfl, (List.forall_mem_cons.mpr ⟨rfl, (List.forall_mem_cons.mpr ⟨rfl, (List.forall_mem_cons.mpr ⟨rfl, (List.forall_mem_cons.mpr ⟨rfl, (List.forall_mem_cons.mpr ⟨rfl, (List.forall_mem_cons.mpr ⟨rfl, (List.forall_mem_cons.mpr ⟨rfl, fun _ h => absurd h List.not_mem_nil⟩)⟩)⟩)⟩)⟩)⟩)⟩)⟩) (b_X9_writePixels_70 m0 sh rr r x ww o so sc pl qo pn bm tg px fa hb n hr ho k3 hk3 v2 v3 v4 v5 v7 s67 _ hE hF)
      · replace hE := fit hE c45
        refine aw_aload dX9_writePixels_48 rfl ?_
        refine aw_iload dX9_writePixels_50 rfl ?_
        refine aw_callSN dX9_writePixels_52  csX9_221 rfl (kF_X10_redOf _ _ z14) rfl (Nat.le_of_ble_eq_true rfl) (by decide) (by decide) (by decide) (by decide)  (fun r52 h52 n52 hp52 => ?_)
        obtain ⟨rfl, rfl, rfl⟩ := hp52
        refine aw_callV dX9_writePixels_55 (at_row ho) cvX9_189 rfl (kF_X1_add m0 sh (va_up rr r x) ww o y so sc pl qo pn bm tg px fa hb _ ho (F_X10_redOf z14) (fon_ne hE hF)) rfl (Nat.le_of_ble_eq_true rfl) (by decide) (by decide) (by decide) (by decide) (fun _ _ _ hf => False.elim hf) (fun r55 h55 n55 hp55 => ?_)
        obtain ⟨z55, s55, e55, rfl, rfl, rfl⟩ := hp55
        replace hE := fon_ok e55 hE
        refine aw_goto (tgt := 70) dX9_writePixels_58 (by decide) ?_
        exact aw_lv _ (List.forall_mem_cons.mpr ⟨rfl, (List.forall_mem_cons.mpr ⟨rfl, (List.forall_mem_cons.mpr ⟨rfl, (List.forall_mem_cons.mpr ⟨rfl, (List.forall_mem_cons.mpr ⟨rfl, (List.forall_mem_cons.mpr ⟨rfl, (List.forall_mem_cons.mpr ⟨rfl, (List.forall_mem_cons.mpr ⟨rfl, fun _ h => absurd h List.not_mem_nil⟩)⟩)⟩)⟩)⟩)⟩)⟩)⟩) (b_X9_writePixels_70 m0 sh rr r x ww o so sc pl qo pn bm tg px fa hb n hr ho k3 hk3 v2 v3 v4 v5 v7 s55 _ hE hF)
    · replace hE := fit hE c22
      refine aw_aload dX9_writePixels_25 rfl ?_
      refine aw_aload_n dX9_writePixels_27 rfl ?_
      refine aw_getf (v := .ref 17) dX9_writePixels_28 flX9_15_8 at_tga rfl ?_
      refine aw_iload dX9_writePixels_31 rfl ?_
      refine aw_callV dX9_writePixels_33 at_pal cvX9_228 rfl (kF_X3_numberOf m0 sh (va_up rr r x) (va_up ww o y) so sc pl qo pn bm tg px fa hb _  z14 (fon_ne hE hF)) rfl (Nat.le_of_ble_eq_true rfl) (by decide) (by decide) (by decide) (by decide) (fun _ _ _ hf => False.elim hf) (fun r33 h33 n33 hp33 => ?_)
      obtain ⟨z33, s33, e33, rfl, rfl, rfl⟩ := hp33
      replace hE := fon_ok e33 hE
      refine aw_callV dX9_writePixels_36 (at_row ho) cvX9_189 rfl (kF_X1_add m0 sh (va_up rr r x) ww o y so sc pl qo pn bm tg px fa hb _ ho z33 (fon_ne hE hF)) rfl (Nat.le_of_ble_eq_true rfl) (by decide) (by decide) (by decide) (by decide) (fun _ _ _ hf => False.elim hf) (fun r36 h36 n36 hp36 => ?_)
      obtain ⟨z36, s36, e36, rfl, rfl, rfl⟩ := hp36
      replace hE := fon_ok e36 hE
      refine aw_goto (tgt := 70) dX9_writePixels_39 (by decide) ?_
      exact aw_lv _ (List.forall_mem_cons.mpr ⟨rfl, (List.forall_mem_cons.mpr ⟨rfl, (List.forall_mem_cons.mpr ⟨rfl, (List.forall_mem_cons.mpr ⟨rfl, (List.forall_mem_cons.mpr ⟨rfl, (List.forall_mem_cons.mpr ⟨rfl, (List.forall_mem_cons.mpr ⟨rfl, (List.forall_mem_cons.mpr ⟨rfl, fun _ h => absurd h List.not_mem_nil⟩)⟩)⟩)⟩)⟩)⟩)⟩)⟩) (b_X9_writePixels_70 m0 sh rr r x ww o so sc pl qo pn bm tg px fa hb n hr ho k3 hk3 v2 v3 v4 v5 v7 s36 _ hE hF)
def F_X9_writePixels (a2 : Int32) (a3 : Int32) (a4 : Int32) (a5 : Int32) (x : Ras) (y : Row) (pl : Pal) : Out Row Unit := lp (fun _ _ _ _ _ _ => fno) (F_X9_writePixels_3 x pl) FU a2 a3 a4 a5 (0 : Int32) y
set_option maxHeartbeats 1000000 in
set_option maxRecDepth 100000 in
theorem kF_X9_writePixels (m0 : Mnt) (sh : Nat → Nat) (rr : Nat → Ras) (r : Nat) (x : Ras) (ww : Nat → Row) (o : Nat) (y : Row) (so : Nat) (sc : Src) (pl : Pal) (qo : Qoi) (pn : Pnm) (bm : Bmp) (tg : Tga) (px : Pcx) (fa : A) (hb : aH) (n : Nat) (hr : isR r) (ho : isW o) (a2 : Int32) (a3 : Int32) (a4 : Int32) (a5 : Int32) (hF : F_X9_writePixels a2 a3 a4 a5 x y pl ≠ fno) : AM mX9_writePixels 3 [.ref 26, .ref r, .int a2, .int a3, .int a4, .int a5, .ref o] (HC m0 sh (va_up rr r x) (va_up ww o y) so sc pl qo pn bm tg px fa hb) n 0 0 0 0 (P_X9_writePixels m0 sh rr r x ww o so sc pl qo pn bm tg px fa hb n (F_X9_writePixels a2 a3 a4 a5 x y pl)) (fun _ _ _ => False) := by
  generalize hE : F_X9_writePixels a2 a3 a4 a5 x y pl = res at hF ⊢
  refine aw_of (by decide +kernel) rfl (Nat.le_of_ble_eq_true rfl) ?_
  unfold F_X9_writePixels at hE
  refine aw_iconst (v := 0) dX9_writePixels_0 (by decide) ?_
  refine aw_istore (lv2 := [(7, _), (0, _), (1, _), (2, _), (3, _), (4, _), (5, _), (6, _)]) dX9_writePixels_1 (by decide) rfl ?_
  exact aw_lv _ (List.forall_mem_cons.mpr ⟨rfl, (List.forall_mem_cons.mpr ⟨rfl, (List.forall_mem_cons.mpr ⟨rfl, (List.forall_mem_cons.mpr ⟨rfl, (List.forall_mem_cons.mpr ⟨rfl, (List.forall_mem_cons.mpr ⟨rfl, (List.forall_mem_cons.mpr ⟨rfl, (List.forall_mem_cons.mpr ⟨rfl, fun _ h => absurd h List.not_mem_nil⟩)⟩)⟩)⟩)⟩)⟩)⟩)⟩) (lp_ind (Q_X9_writePixels_3 m0 sh rr r x ww o so sc pl qo pn bm tg px fa hb n) (fun _ _ _ _ _ _ res hq hF => (hF hq.symm).elim) (fun k hk => b_X9_writePixels_3 m0 sh rr r x ww o so sc pl qo pn bm tg px fa hb n hr ho  k hk) FU a2 a3 a4 a5 (0 : Int32) y _ hE hF)
def P_X1_at (m0 : Mnt) (sh : Nat → Nat) (rr : Nat → Ras) (ww : Nat → Row) (o : Nat) (y : Row) (so : Nat) (sc : Src) (pl : Pal) (qo : Qoi) (pn : Pnm) (bm : Bmp) (tg : Tga) (px : Pcx) (fa : A) (hb : aH) (n : Nat) (res : Out Unit Int32) : Option Value → aH → Nat → Prop := fun r1 h2 n2 => ∃ (a : Int32) (s : Unit), res = fok a s ∧ r1 = some (.int a) ∧ h2 = HC m0 sh rr (va_up ww o y) so sc pl qo pn bm tg px fa hb ∧ n = n2
abbrev Q_X1_at_25 (m0 : Mnt) (sh : Nat → Nat) (rr : Nat → Ras) (ww : Nat → Row) (o : Nat) (y : Row) (so : Nat) (sc : Src) (pl : Pal) (qo : Qoi) (pn : Pnm) (bm : Bmp) (tg : Tga) (px : Pcx) (fa : A) (hb : aH) (n : Nat) (k : Out Unit Int32) : Prop := ∀  (res : Out Unit Int32), k  = res → res ≠ fno → AW (fun _ _ => True) mX1_at (rmD 1 0 0) 0 0 (P_X1_at m0 sh rr ww o y so sc pl qo pn bm tg px fa hb n res) (fun _ _ _ => False) 0 0 25 [] [] (HC m0 sh rr (va_up ww o y) so sc pl qo pn bm tg px fa hb) n
def F_X1_at_25 (y : Row)   : Out Unit Int32 := fok ((-1) : Int32) ()
set_option maxHeartbeats 1000000 in
set_option maxRecDepth 100000 in
theorem b_X1_at_25 (m0 : Mnt) (sh : Nat → Nat) (rr : Nat → Ras) (ww : Nat → Row) (o : Nat) (y : Row) (so : Nat) (sc : Src) (pl : Pal) (qo : Qoi) (pn : Pnm) (bm : Bmp) (tg : Tga) (px : Pcx) (fa : A) (hb : aH) (n : Nat) (ho : isW o)  : Q_X1_at_25 m0 sh rr ww o y so sc pl qo pn bm tg px fa hb n (F_X1_at_25 y) := by
  intro res hE hF
  unfold F_X1_at_25 at hE
  refine aw_iconst (v := (-1)) dX1_at_25 (by decide) ?_
  exact aw_iret dX1_at_26 rfl (Nat.zero_le _) (Nat.zero_le _) (Nat.zero_le _) (Nat.zero_le _) ⟨_, _, hE.symm, rfl, rfl, rfl⟩
def F_X1_at (a1 : Int32) (y : Row) : Out Unit Int32 := if a1 < 0 then (F_X1_at_25 y ) else (if (y_n y) ≤ a1 then (F_X1_at_25 y ) else (if inb a1 65536 then (fok ((((y_b y) (Int32.toNatClampNeg a1)) &&& 255) : Int32) ()) else fno))
set_option maxHeartbeats 1000000 in
set_option maxRecDepth 100000 in
theorem kF_X1_at (m0 : Mnt) (sh : Nat → Nat) (rr : Nat → Ras) (ww : Nat → Row) (o : Nat) (y : Row) (so : Nat) (sc : Src) (pl : Pal) (qo : Qoi) (pn : Pnm) (bm : Bmp) (tg : Tga) (px : Pcx) (fa : A) (hb : aH) (n : Nat) (ho : isW o) (a1 : Int32) (hF : F_X1_at a1 y ≠ fno) : AM mX1_at 1 [.ref o, .int a1] (HC m0 sh rr (va_up ww o y) so sc pl qo pn bm tg px fa hb) n 0 0 0 0 (P_X1_at m0 sh rr ww o y so sc pl qo pn bm tg px fa hb n (F_X1_at a1 y)) (fun _ _ _ => False) := by
  generalize hE : F_X1_at a1 y = res at hF ⊢
  refine aw_of (by decide +kernel) rfl (Nat.le_of_ble_eq_true rfl) ?_
  unfold F_X1_at at hE
  refine aw_iload_n dX1_at_0 rfl ?_
  refine aw_if_lt (tgt := 25) dX1_at_1 (by decide) (fun c1 => ?_) (fun c1 => ?_)
  · replace hE := fit hE c1
    exact aw_lv _ (fun _ h => absurd h List.not_mem_nil) (b_X1_at_25 m0 sh rr ww o y so sc pl qo pn bm tg px fa hb n ho   _ hE hF)
  · replace hE := fif hE c1
    refine aw_iload_n dX1_at_4 rfl ?_
    refine aw_aload_n dX1_at_5 rfl ?_
    refine aw_getf (v := .int (y_n y)) dX1_at_6 flX1_16_1 (at_row ho) rfl ?_
    refine aw_icmp_ge (tgt := 25) dX1_at_9 (by decide) (fun c9 => ?_) (fun c9 => ?_)
    · replace hE := fit hE c9
      exact aw_lv _ (fun _ h => absurd h List.not_mem_nil) (b_X1_at_25 m0 sh rr ww o y so sc pl qo pn bm tg px fa hb n ho   _ hE hF)
    · replace hE := fif hE c9
      refine aw_aload_n dX1_at_12 rfl ?_
      refine aw_getf (v := .ref (o + 1)) dX1_at_13 flX1_10_1 (at_row ho) rfl ?_
      refine aw_iload_n dX1_at_16 rfl ?_
      obtain ⟨g17, hE⟩ := fgd hE hF
      refine aw_bald (f := (y_b y)) dX1_at_17 (at_cells ho) (vp_in_iff.mpr g17) ?_
      refine aw_sipush (v := 255) dX1_at_18 (by decide) ?_
      refine aw_iand dX1_at_21 ?_
      refine aw_goto (tgt := 26) dX1_at_22 (by decide) ?_
      exact aw_iret dX1_at_26 rfl (Nat.zero_le _) (Nat.zero_le _) (Nat.zero_le _) (Nat.zero_le _) ⟨_, _, hE.symm, rfl, rfl, rfl⟩
def F_X10_isTooLarge (a0 : Int64) (a2 : Int64) : Int32 := if 0 < (lg_cmp a0 4096) then ((1 : Int32)) else (if 0 < (lg_cmp a2 4096) then ((1 : Int32)) else (if (lg_cmp (a0 * a2) 4096) ≤ 0 then ((0 : Int32)) else ((1 : Int32))))
set_option maxRecDepth 100000 in
theorem kF_X10_isTooLarge (h : aH) (n : Nat) (a0 : Int64) (a2 : Int64) : AM mX10_isTooLarge 1 [.long a0, .long a2] h n 0 0 0 0 (isV (.int (F_X10_isTooLarge a0 a2)) h n) noX := by
  generalize hE : F_X10_isTooLarge a0 a2 = res
  refine aw_of (by decide +kernel) rfl (Nat.le_of_ble_eq_true rfl) ?_
  unfold F_X10_isTooLarge at hE
  refine aw_lload_n dX10_isTooLarge_0 rfl ?_
  refine aw_ldc2 dX10_isTooLarge_1 kcX10_228 ?_
  refine aw_lcmp dX10_isTooLarge_4 ?_
  refine aw_if_gt (tgt := 26) dX10_isTooLarge_5 (by decide) (fun c5 => ?_) (fun c5 => ?_)
  · replace hE := fit hE c5
    refine aw_iconst (v := 1) dX10_isTooLarge_26 (by decide) ?_
    refine aw_goto (tgt := 31) dX10_isTooLarge_27 (by decide) ?_
    exact aw_zret dX10_isTooLarge_31 rfl (narB (by decide)) (Nat.zero_le _) (Nat.zero_le _) (Nat.zero_le _) (Nat.zero_le _) ⟨by subst hE; rfl, rfl, rfl⟩
  · replace hE := fif hE c5
    refine aw_lload_n dX10_isTooLarge_8 rfl ?_
    refine aw_ldc2 dX10_isTooLarge_9 kcX10_228 ?_
    refine aw_lcmp dX10_isTooLarge_12 ?_
    refine aw_if_gt (tgt := 26) dX10_isTooLarge_13 (by decide) (fun c13 => ?_) (fun c13 => ?_)
    · replace hE := fit hE c13
      refine aw_iconst (v := 1) dX10_isTooLarge_26 (by decide) ?_
      refine aw_goto (tgt := 31) dX10_isTooLarge_27 (by decide) ?_
      exact aw_zret dX10_isTooLarge_31 rfl (narB (by decide)) (Nat.zero_le _) (Nat.zero_le _) (Nat.zero_le _) (Nat.zero_le _) ⟨by subst hE; rfl, rfl, rfl⟩
    · replace hE := fif hE c13
      refine aw_lload_n dX10_isTooLarge_16 rfl ?_
      refine aw_lload_n dX10_isTooLarge_17 rfl ?_
      refine aw_lmul dX10_isTooLarge_18 ?_
      refine aw_ldc2 dX10_isTooLarge_19 kcX10_228 ?_
      refine aw_lcmp dX10_isTooLarge_22 ?_
      refine aw_if_le (tgt := 30) dX10_isTooLarge_23 (by decide) (fun c23 => ?_) (fun c23 => ?_)
      · replace hE := fit hE c23
        refine aw_iconst (v := 0) dX10_isTooLarge_30 (by decide) ?_
        exact aw_zret dX10_isTooLarge_31 rfl (narB (by decide)) (Nat.zero_le _) (Nat.zero_le _) (Nat.zero_le _) (Nat.zero_le _) ⟨by subst hE; rfl, rfl, rfl⟩
      · replace hE := fif hE c23
        refine aw_iconst (v := 1) dX10_isTooLarge_26 (by decide) ?_
        refine aw_goto (tgt := 31) dX10_isTooLarge_27 (by decide) ?_
        exact aw_zret dX10_isTooLarge_31 rfl (narB (by decide)) (Nat.zero_le _) (Nat.zero_le _) (Nat.zero_le _) (Nat.zero_le _) ⟨by subst hE; rfl, rfl, rfl⟩
def P_X7_set (m0 : Mnt) (sh : Nat → Nat) (rr : Nat → Ras) (r : Nat) (ww : Nat → Row) (so : Nat) (sc : Src) (pl : Pal) (qo : Qoi) (pn : Pnm) (bm : Bmp) (tg : Tga) (px : Pcx) (fa : A) (hb : aH) (n : Nat) (res : Out Ras Unit) : Option Value → aH → Nat → Prop := fun r1 h2 n2 => ∃ (a : Unit) (s : Ras), res = fok a s ∧ r1 = none ∧ h2 = HC m0 sh (va_up rr r s) ww so sc pl qo pn bm tg px fa hb ∧ n = n2
def F_X7_set (a1 : Int32) (a2 : Int32) (x : Ras) : Out Ras Unit := if a1 < 0 then (fok () x) else (if 4096 ≤ a1 then (fok () x) else (if inb a1 4096 then (fok () ((x_w x), (x_g x), (upd (x_p x) (Int32.toNatClampNeg a1) a2))) else fno))
set_option maxHeartbeats 1000000 in
set_option maxRecDepth 100000 in
theorem kF_X7_set (m0 : Mnt) (sh : Nat → Nat) (rr : Nat → Ras) (r : Nat) (x : Ras) (ww : Nat → Row) (so : Nat) (sc : Src) (pl : Pal) (qo : Qoi) (pn : Pnm) (bm : Bmp) (tg : Tga) (px : Pcx) (fa : A) (hb : aH) (n : Nat) (hr : isR r) (a1 : Int32) (a2 : Int32) (hF : F_X7_set a1 a2 x ≠ fno) : AM mX7_set 1 [.ref r, .int a1, .int a2] (HC m0 sh (va_up rr r x) ww so sc pl qo pn bm tg px fa hb) n 0 0 0 0 (P_X7_set m0 sh rr r ww so sc pl qo pn bm tg px fa hb n (F_X7_set a1 a2 x)) (fun _ _ _ => False) := by
  generalize hE : F_X7_set a1 a2 x = res at hF ⊢
  refine aw_of (by decide +kernel) rfl (Nat.le_of_ble_eq_true rfl) ?_
  unfold F_X7_set at hE
  refine aw_iload_n dX7_set_0 rfl ?_
  refine aw_if_lt (tgt := 18) dX7_set_1 (by decide) (fun c1 => ?_) (fun c1 => ?_)
  · replace hE := fit hE c1
    exact aw_vret dX7_set_18 rfl (Nat.zero_le _) (Nat.zero_le _) (Nat.zero_le _) (Nat.zero_le _) ⟨_, _, hE.symm, rfl, rfl, rfl⟩
  · replace hE := fif hE c1
    refine aw_iload_n dX7_set_4 rfl ?_
    refine aw_sipush (v := 4096) dX7_set_5 (by decide) ?_
    refine aw_icmp_ge (tgt := 18) dX7_set_8 (by decide) (fun c8 => ?_) (fun c8 => ?_)
    · replace hE := fit hE c8
      exact aw_vret dX7_set_18 rfl (Nat.zero_le _) (Nat.zero_le _) (Nat.zero_le _) (Nat.zero_le _) ⟨_, _, hE.symm, rfl, rfl, rfl⟩
    · replace hE := fif hE c8
      refine aw_aload_n dX7_set_11 rfl ?_
      refine aw_getf (v := .ref (r + 1)) dX7_set_12 flX7_9_6 (at_ras hr) rfl ?_
      refine aw_iload_n dX7_set_15 rfl ?_
      refine aw_iload_n dX7_set_16 rfl ?_
      obtain ⟨g17, hE⟩ := fgd hE hF
      refine aw_iast (f := (x_p x)) dX7_set_17 (at_pix hr) (vp_in_iff.mpr g17) ?_
      refine aw_eqh (h2 := HC m0 sh (va_up rr r ((x_w x), (x_g x), (upd (x_p x) (Int32.toNatClampNeg a1) a2))) ww so sc pl qo pn bm tg px fa hb) (up_pix hr) ?_
      exact aw_vret dX7_set_18 rfl (Nat.zero_le _) (Nat.zero_le _) (Nat.zero_le _) (Nat.zero_le _) ⟨_, _, hE.symm, rfl, rfl, rfl⟩
def P_X8_next (m0 : Mnt) (sh : Nat → Nat) (rr : Nat → Ras) (ww : Nat → Row) (so : Nat) (pl : Pal) (qo : Qoi) (pn : Pnm) (bm : Bmp) (tg : Tga) (px : Pcx) (fa : A) (hb : aH) (n : Nat) (res : Out Src Int32) : Option Value → aH → Nat → Prop := fun r1 h2 n2 => ∃ (a : Int32) (s : Src), res = fok a s ∧ r1 = some (.int a) ∧ h2 = HC m0 sh rr ww so s pl qo pn bm tg px fa hb ∧ n = n2
def X_X8_next (m0 : Mnt) (sh : Nat → Nat) (rr : Nat → Ras) (ww : Nat → Row) (so : Nat) (pl : Pal) (qo : Qoi) (pn : Pnm) (bm : Bmp) (tg : Tga) (px : Pcx) (fa : A) (hb : aH) (n : Nat) (res : Out Src Int32) : String → aH → Nat → Prop := fun E h2 n2 => ∃ s : Src, res = fex E s ∧ h2 = HC m0 sh rr ww so s pl qo pn bm tg px fa hb ∧ n = n2
abbrev Q_X8_next_18 (m0 : Mnt) (sh : Nat → Nat) (rr : Nat → Ras) (ww : Nat → Row) (so : Nat) (pl : Pal) (qo : Qoi) (pn : Pnm) (bm : Bmp) (tg : Tga) (px : Pcx) (fa : A) (hb : aH) (n : Nat) (k : Src → Out Src Int32) : Prop := ∀ (sc : Src) (res : Out Src Int32), k sc = res → res ≠ fno → AW (fun _ _ => True) mX8_next (rmD 3 1 6) 0 0 (P_X8_next m0 sh rr ww so pl qo pn bm tg px fa hb n res) (X_X8_next m0 sh rr ww so pl qo pn bm tg px fa hb n res) 0 0 18 [(0, .ref 16)] [] (HC m0 sh rr ww so sc pl qo pn bm tg px fa hb) n
def F_X8_next_18 (sb : A)  (sc : Src) : Out Src Int32 := fex "java/lang/IllegalStateException" ((sc_size sc), (sc_pos sc), 1, (sc_size sc))
set_option maxHeartbeats 1000000 in
set_option maxRecDepth 100000 in
theorem b_X8_next_18 (m0 : Mnt) (sh : Nat → Nat) (rr : Nat → Ras) (ww : Nat → Row) (so : Nat) (pl : Pal) (qo : Qoi) (pn : Pnm) (bm : Bmp) (tg : Tga) (px : Pcx) (fa : A) (hb : aH) (n : Nat) (hso : isW so)  : Q_X8_next_18 m0 sh rr ww so pl qo pn bm tg px fa hb n (F_X8_next_18 (y_b (ww so))) := by
  intro sc res hE hF
  unfold F_X8_next_18 at hE
  refine aw_aload_n dX8_next_18 rfl ?_
  refine aw_iconst (v := 1) dX8_next_19 (by decide) ?_
  refine aw_putf dX8_next_20 ptX8_28_7 at_src (Nat.le_of_ble_eq_true rfl) ⟨rfl, rfl⟩ ?_
  refine aw_eqh (h2 := HC m0 sh rr ww so ((sc_size sc), (sc_pos sc), 1, (sc_fp sc)) pl qo pn bm tg px fa hb) up_src ?_
  refine aw_aload_n dX8_next_23 rfl ?_
  refine aw_aload_n dX8_next_24 rfl ?_
  refine aw_getf (v := .int (sc_size sc)) dX8_next_25 flX8_22_7 at_src rfl ?_
  refine aw_putf dX8_next_28 ptX8_31_7 at_src (Nat.le_of_ble_eq_true rfl) ⟨rfl, rfl⟩ ?_
  refine aw_eqh (h2 := HC m0 sh rr ww so ((sc_size sc), (sc_pos sc), 1, (sc_size sc)) pl qo pn bm tg px fa hb) up_src ?_
  exact aw_throw dX8_next_31 dX8_next_34 dX8_next_35 dX8_next_37 dX8_next_40 thX8_34_41_38 rfl (by decide) (Nat.le_of_ble_eq_true rfl) (by decide) (by decide) ⟨_, hE.symm, rfl, rfl⟩
def F_X8_next (sc : Src) (sb : A) : Out Src Int32 := if (sc_pos sc) < 0 then (F_X8_next_18 sb sc) else (if (sc_pos sc) < (sc_size sc) then (if inb (sc_pos sc) 65536 then (fok (((sb (Int32.toNatClampNeg (sc_pos sc))) &&& 255) : Int32) ((sc_size sc), ((sc_pos sc) + 1), (sc_ft sc), (sc_fp sc))) else fno) else (F_X8_next_18 sb sc))
set_option maxHeartbeats 1000000 in
set_option maxRecDepth 100000 in
theorem kF_X8_next (m0 : Mnt) (sh : Nat → Nat) (rr : Nat → Ras) (ww : Nat → Row) (so : Nat) (sc : Src) (pl : Pal) (qo : Qoi) (pn : Pnm) (bm : Bmp) (tg : Tga) (px : Pcx) (fa : A) (hb : aH) (n : Nat) (hso : isW so)  (hF : F_X8_next sc (y_b (ww so)) ≠ fno) : AM mX8_next 3 [.ref 16] (HC m0 sh rr ww so sc pl qo pn bm tg px fa hb) n 1 6 0 0 (P_X8_next m0 sh rr ww so pl qo pn bm tg px fa hb n (F_X8_next sc (y_b (ww so)))) (X_X8_next m0 sh rr ww so pl qo pn bm tg px fa hb n (F_X8_next sc (y_b (ww so)))) := by
  generalize hE : F_X8_next sc (y_b (ww so)) = res at hF ⊢
  refine aw_of (by decide +kernel) rfl (Nat.le_of_ble_eq_true rfl) ?_
  unfold F_X8_next at hE
  refine aw_aload_n dX8_next_0 rfl ?_
  refine aw_getf (v := .int (sc_pos sc)) dX8_next_1 flX8_25_7 at_src rfl ?_
  refine aw_if_lt (tgt := 18) dX8_next_4 (by decide) (fun c4 => ?_) (fun c4 => ?_)
  · replace hE := fit hE c4
    exact aw_lv _ (List.forall_mem_cons.mpr ⟨rfl, fun _ h => absurd h List.not_mem_nil⟩) (b_X8_next_18 m0 sh rr ww so pl qo pn bm tg px fa hb n hso  sc _ hE hF)
  · replace hE := fif hE c4
    refine aw_aload_n dX8_next_7 rfl ?_
    refine aw_getf (v := .int (sc_pos sc)) dX8_next_8 flX8_25_7 at_src rfl ?_
    refine aw_aload_n dX8_next_11 rfl ?_
    refine aw_getf (v := .int (sc_size sc)) dX8_next_12 flX8_22_7 at_src rfl ?_
    refine aw_icmp_lt (tgt := 41) dX8_next_15 (by decide) (fun c15 => ?_) (fun c15 => ?_)
    · replace hE := fit hE c15
      refine aw_aload_n dX8_next_41 rfl ?_
      refine aw_getf (v := .ref (so + 1)) dX8_next_42 flX8_15_7 at_src rfl ?_
      refine aw_aload_n dX8_next_45 rfl ?_
      refine aw_getf (v := .int (sc_pos sc)) dX8_next_46 flX8_25_7 at_src rfl ?_
      obtain ⟨g49, hE⟩ := fgd hE hF
      refine aw_bald (f := (y_b (ww so))) dX8_next_49 (at_scells hso) (vp_in_iff.mpr g49) ?_
      refine aw_sipush (v := 255) dX8_next_50 (by decide) ?_
      refine aw_iand dX8_next_53 ?_
      refine aw_istore_n (lv2 := [(1, _), (0, _)]) dX8_next_54 (by decide) rfl ?_
      refine aw_aload_n dX8_next_55 rfl ?_
      refine aw_dup dX8_next_56 rfl ?_
      refine aw_getf (v := .int (sc_pos sc)) dX8_next_57 flX8_25_7 at_src rfl ?_
      refine aw_iconst (v := 1) dX8_next_60 (by decide) ?_
      refine aw_iadd dX8_next_61 ?_
      refine aw_putf dX8_next_62 ptX8_25_7 at_src (Nat.le_of_ble_eq_true rfl) ⟨rfl, rfl⟩ ?_
      refine aw_eqh (h2 := HC m0 sh rr ww so ((sc_size sc), ((sc_pos sc) + 1), (sc_ft sc), (sc_fp sc)) pl qo pn bm tg px fa hb) up_src ?_
      refine aw_iload_n dX8_next_65 rfl ?_
      exact aw_iret dX8_next_66 rfl (Nat.zero_le _) (Nat.zero_le _) (Nat.zero_le _) (Nat.zero_le _) ⟨_, _, hE.symm, rfl, rfl, rfl⟩
    · replace hE := fif hE c15
      exact aw_lv _ (List.forall_mem_cons.mpr ⟨rfl, fun _ h => absurd h List.not_mem_nil⟩) (b_X8_next_18 m0 sh rr ww so pl qo pn bm tg px fa hb n hso  sc _ hE hF)
def P_X8_refuse (m0 : Mnt) (sh : Nat → Nat) (rr : Nat → Ras) (ww : Nat → Row) (so : Nat) (pl : Pal) (qo : Qoi) (pn : Pnm) (bm : Bmp) (tg : Tga) (px : Pcx) (fa : A) (hb : aH) (n : Nat) (res : Out Src Unit) : Option Value → aH → Nat → Prop := fun r1 h2 n2 => ∃ (a : Unit) (s : Src), res = fok a s ∧ r1 = none ∧ h2 = HC m0 sh rr ww so s pl qo pn bm tg px fa hb ∧ n = n2
def X_X8_refuse (m0 : Mnt) (sh : Nat → Nat) (rr : Nat → Ras) (ww : Nat → Row) (so : Nat) (pl : Pal) (qo : Qoi) (pn : Pnm) (bm : Bmp) (tg : Tga) (px : Pcx) (fa : A) (hb : aH) (n : Nat) (res : Out Src Unit) : String → aH → Nat → Prop := fun E h2 n2 => ∃ s : Src, res = fex E s ∧ h2 = HC m0 sh rr ww so s pl qo pn bm tg px fa hb ∧ n = n2
def F_X8_refuse (a1 : Int32) (a2 : Int32) (sc : Src) : Out Src Unit := fex "java/lang/IllegalStateException" ((sc_size sc), (sc_pos sc), a1, a2)
set_option maxHeartbeats 1000000 in
set_option maxRecDepth 100000 in
theorem kF_X8_refuse (m0 : Mnt) (sh : Nat → Nat) (rr : Nat → Ras) (ww : Nat → Row) (so : Nat) (sc : Src) (pl : Pal) (qo : Qoi) (pn : Pnm) (bm : Bmp) (tg : Tga) (px : Pcx) (fa : A) (hb : aH) (n : Nat)  (a1 : Int32) (a2 : Int32) (hF : F_X8_refuse a1 a2 sc ≠ fno) : AM mX8_refuse 3 [.ref 16, .int a1, .int a2] (HC m0 sh rr ww so sc pl qo pn bm tg px fa hb) n 1 6 0 0 (P_X8_refuse m0 sh rr ww so pl qo pn bm tg px fa hb n (F_X8_refuse a1 a2 sc)) (X_X8_refuse m0 sh rr ww so pl qo pn bm tg px fa hb n (F_X8_refuse a1 a2 sc)) := by
  generalize hE : F_X8_refuse a1 a2 sc = res at hF ⊢
  refine aw_of (by decide +kernel) rfl (Nat.le_of_ble_eq_true rfl) ?_
  unfold F_X8_refuse at hE
  refine aw_aload_n dX8_refuse_0 rfl ?_
  refine aw_iload_n dX8_refuse_1 rfl ?_
  refine aw_putf dX8_refuse_2 ptX8_28_7 at_src (Nat.le_of_ble_eq_true rfl) ⟨rfl, rfl⟩ ?_
  refine aw_eqh (h2 := HC m0 sh rr ww so ((sc_size sc), (sc_pos sc), a1, (sc_fp sc)) pl qo pn bm tg px fa hb) up_src ?_
  refine aw_aload_n dX8_refuse_5 rfl ?_
  refine aw_iload_n dX8_refuse_6 rfl ?_
  refine aw_putf dX8_refuse_7 ptX8_31_7 at_src (Nat.le_of_ble_eq_true rfl) ⟨rfl, rfl⟩ ?_
  refine aw_eqh (h2 := HC m0 sh rr ww so ((sc_size sc), (sc_pos sc), a1, a2) pl qo pn bm tg px fa hb) up_src ?_
  exact aw_throw dX8_refuse_10 dX8_refuse_13 dX8_refuse_14 dX8_refuse_16 dX8_refuse_19 thX8_34_36_38 rfl (by decide) (Nat.le_of_ble_eq_true rfl) (by decide) (by decide) ⟨_, hE.symm, rfl, rfl⟩
def P_X8_low2 (m0 : Mnt) (sh : Nat → Nat) (rr : Nat → Ras) (ww : Nat → Row) (so : Nat) (pl : Pal) (qo : Qoi) (pn : Pnm) (bm : Bmp) (tg : Tga) (px : Pcx) (fa : A) (hb : aH) (n : Nat) (res : Out Src Int32) : Option Value → aH → Nat → Prop := fun r1 h2 n2 => ∃ (a : Int32) (s : Src), res = fok a s ∧ r1 = some (.int a) ∧ h2 = HC m0 sh rr ww so s pl qo pn bm tg px fa hb ∧ n = n2
def X_X8_low2 (m0 : Mnt) (sh : Nat → Nat) (rr : Nat → Ras) (ww : Nat → Row) (so : Nat) (pl : Pal) (qo : Qoi) (pn : Pnm) (bm : Bmp) (tg : Tga) (px : Pcx) (fa : A) (hb : aH) (n : Nat) (res : Out Src Int32) : String → aH → Nat → Prop := fun E h2 n2 => ∃ s : Src, res = fex E s ∧ h2 = HC m0 sh rr ww so s pl qo pn bm tg px fa hb ∧ n = n2
def F_X8_low2 (sc : Src) (sb : A) : Out Src Int32 := fon (F_X8_next sc sb) (fun z1 s1 => fon (F_X8_next s1 sb) (fun z6 s6 => fok (((z6 <<< ((8 : Int32) &&& 31)) ||| z1) : Int32) s6) (fun E s6 => fex E s6)) (fun E s1 => fex E s1)
set_option maxHeartbeats 1000000 in
set_option maxRecDepth 100000 in
theorem kF_X8_low2 (m0 : Mnt) (sh : Nat → Nat) (rr : Nat → Ras) (ww : Nat → Row) (so : Nat) (sc : Src) (pl : Pal) (qo : Qoi) (pn : Pnm) (bm : Bmp) (tg : Tga) (px : Pcx) (fa : A) (hb : aH) (n : Nat) (hso : isW so)  (hF : F_X8_low2 sc (y_b (ww so)) ≠ fno) : AM mX8_low2 4 [.ref 16] (HC m0 sh rr ww so sc pl qo pn bm tg px fa hb) n 1 6 0 0 (P_X8_low2 m0 sh rr ww so pl qo pn bm tg px fa hb n (F_X8_low2 sc (y_b (ww so)))) (X_X8_low2 m0 sh rr ww so pl qo pn bm tg px fa hb n (F_X8_low2 sc (y_b (ww so)))) := by
  generalize hE : F_X8_low2 sc (y_b (ww so)) = res at hF ⊢
  refine aw_of (by decide +kernel) rfl (Nat.le_of_ble_eq_true rfl) ?_
  unfold F_X8_low2 at hE
  refine aw_aload_n dX8_low2_0 rfl ?_
  refine aw_callV dX8_low2_1 at_src cvX8_43 rfl (kF_X8_next m0 sh rr ww so sc pl qo pn bm tg px fa hb _ hso  (fon_ne hE hF)) rfl (Nat.le_of_ble_eq_true rfl) (by decide) (by decide) (by decide) (by decide) (fun E h2 n2 hx => aw_out rfl (by decide) (by decide) (by obtain ⟨s1, e1, rfl, rfl⟩ := hx; exact ⟨_, (fon_ex e1 hE).symm, rfl, rfl⟩)) (fun r1 h1 n1 hp1 => ?_)
  obtain ⟨z1, s1, e1, rfl, rfl, rfl⟩ := hp1
  replace hE := fon_ok e1 hE
  refine aw_istore_n (lv2 := [(1, _), (0, _)]) dX8_low2_4 (by decide) rfl ?_
  refine aw_aload_n dX8_low2_5 rfl ?_
  refine aw_callV dX8_low2_6 at_src cvX8_43 rfl (kF_X8_next m0 sh rr ww so s1 pl qo pn bm tg px fa hb _ hso  (fon_ne hE hF)) rfl (Nat.le_of_ble_eq_true rfl) (by decide) (by decide) (by decide) (by decide) (fun E h2 n2 hx => aw_out rfl (by decide) (by decide) (by obtain ⟨s6, e6, rfl, rfl⟩ := hx; exact ⟨_, (fon_ex e6 hE).symm, rfl, rfl⟩)) (fun r6 h6 n6 hp6 => ?_)
  obtain ⟨z6, s6, e6, rfl, rfl, rfl⟩ := hp6
  replace hE := fon_ok e6 hE
  refine aw_bipush (v := 8) dX8_low2_9 (by decide) ?_
  refine aw_ishl dX8_low2_11 ?_
  refine aw_iload_n dX8_low2_12 rfl ?_
  refine aw_ior dX8_low2_13 ?_
  exact aw_iret dX8_low2_14 rfl (Nat.zero_le _) (Nat.zero_le _) (Nat.zero_le _) (Nat.zero_le _) ⟨_, _, hE.symm, rfl, rfl, rfl⟩
def P_X8_lay (m0 : Mnt) (sh : Nat → Nat) (rr : Nat → Ras) (r : Nat) (ww : Nat → Row) (so : Nat) (pl : Pal) (qo : Qoi) (pn : Pnm) (bm : Bmp) (tg : Tga) (px : Pcx) (fa : A) (hb : aH) (n : Nat) (res : Out (Ras × Src) Unit) : Option Value → aH → Nat → Prop := fun r1 h2 n2 => ∃ (a : Unit) (s : (Ras × Src)), res = fok a s ∧ r1 = none ∧ h2 = HC m0 sh (va_up rr r s.1) ww so s.2 pl qo pn bm tg px fa hb ∧ n = n2
def X_X8_lay (m0 : Mnt) (sh : Nat → Nat) (rr : Nat → Ras) (r : Nat) (ww : Nat → Row) (so : Nat) (pl : Pal) (qo : Qoi) (pn : Pnm) (bm : Bmp) (tg : Tga) (px : Pcx) (fa : A) (hb : aH) (n : Nat) (res : Out (Ras × Src) Unit) : String → aH → Nat → Prop := fun E h2 n2 => ∃ s : (Ras × Src), res = fex E s ∧ h2 = HC m0 sh (va_up rr r s.1) ww so s.2 pl qo pn bm tg px fa hb ∧ n = n2
def F_X8_lay (a2 : Int64) (a4 : Int64) (a6 : Int32) (x : Ras) (sc : Src) : Out (Ras × Src) Unit := if (F_X10_isTooLarge a2 a4) = 0 then (fok () (((a2).toInt32, (a4).toInt32, (x_p x)), sc)) else (fon (F_X8_refuse 3 a6 sc) (fun _ _ => fno) (fun E s13 => fex E (x, s13)))
set_option maxHeartbeats 1000000 in
set_option maxRecDepth 100000 in
theorem kF_X8_lay (m0 : Mnt) (sh : Nat → Nat) (rr : Nat → Ras) (r : Nat) (x : Ras) (ww : Nat → Row) (so : Nat) (sc : Src) (pl : Pal) (qo : Qoi) (pn : Pnm) (bm : Bmp) (tg : Tga) (px : Pcx) (fa : A) (hb : aH) (n : Nat) (hr : isR r) (a2 : Int64) (a4 : Int64) (a6 : Int32) (hF : F_X8_lay a2 a4 a6 x sc ≠ fno) : AM mX8_lay 4 [.ref 16, .ref r, .long a2, .long a4, .int a6] (HC m0 sh (va_up rr r x) ww so sc pl qo pn bm tg px fa hb) n 1 6 0 0 (P_X8_lay m0 sh rr r ww so pl qo pn bm tg px fa hb n (F_X8_lay a2 a4 a6 x sc)) (X_X8_lay m0 sh rr r ww so pl qo pn bm tg px fa hb n (F_X8_lay a2 a4 a6 x sc)) := by
  generalize hE : F_X8_lay a2 a4 a6 x sc = res at hF ⊢
  refine aw_of (by decide +kernel) rfl (Nat.le_of_ble_eq_true rfl) ?_
  unfold F_X8_lay at hE
  refine aw_lload_n dX8_lay_0 rfl ?_
  refine aw_lload dX8_lay_1 rfl ?_
  refine aw_callSN dX8_lay_3  csX8_57 rfl (kF_X10_isTooLarge _ _ a2 a4) rfl (Nat.le_of_ble_eq_true rfl) (by decide) (by decide) (by decide) (by decide)  (fun r3 h3 n3 hp3 => ?_)
  obtain ⟨rfl, rfl, rfl⟩ := hp3
  refine aw_if_eq (tgt := 16) dX8_lay_6 (by decide) (fun c6 => ?_) (fun c6 => ?_)
  · replace hE := fit hE c6
    refine aw_aload_n dX8_lay_16 rfl ?_
    refine aw_lload_n dX8_lay_17 rfl ?_
    refine aw_l2i dX8_lay_18 ?_
    refine aw_putf dX8_lay_19 ptX8_61_6 (at_ras hr) (Nat.le_of_ble_eq_true rfl) ⟨rfl, rfl⟩ ?_
    refine aw_eqh (h2 := HC m0 sh (va_up rr r ((a2).toInt32, (x_g x), (x_p x))) ww so sc pl qo pn bm tg px fa hb) (up_ras hr) ?_
    refine aw_aload_n dX8_lay_22 rfl ?_
    refine aw_lload dX8_lay_23 rfl ?_
    refine aw_l2i dX8_lay_25 ?_
    refine aw_putf dX8_lay_26 ptX8_66_6 (at_ras hr) (Nat.le_of_ble_eq_true rfl) ⟨rfl, rfl⟩ ?_
    refine aw_eqh (h2 := HC m0 sh (va_up rr r ((a2).toInt32, (a4).toInt32, (x_p x))) ww so sc pl qo pn bm tg px fa hb) (up_ras hr) ?_
    exact aw_vret dX8_lay_29 rfl (Nat.zero_le _) (Nat.zero_le _) (Nat.zero_le _) (Nat.zero_le _) ⟨_, _, hE.symm, rfl, rfl, rfl⟩
  · replace hE := fif hE c6
    refine aw_aload_n dX8_lay_9 rfl ?_
    refine aw_iconst (v := 3) dX8_lay_10 (by decide) ?_
    refine aw_iload dX8_lay_11 rfl ?_
    refine aw_callV dX8_lay_13 at_src cvX8_50 rfl (kF_X8_refuse m0 sh (va_up rr r x) ww so sc pl qo pn bm tg px fa hb _  3 a6 (fon_ne hE hF)) rfl (Nat.le_of_ble_eq_true rfl) (by decide) (by decide) (by decide) (by decide) (fun E h2 n2 hx => aw_out rfl (by decide) (by decide) (by obtain ⟨s13, e13, rfl, rfl⟩ := hx; exact ⟨_, (fon_ex e13 hE).symm, rfl, rfl⟩)) (fun r13 h13 n13 hp13 => ?_)
    obtain ⟨z13, s13, e13, rfl, rfl, rfl⟩ := hp13
    exact (hF (fon_ok e13 hE).symm).elim
def P_X8_pass (m0 : Mnt) (sh : Nat → Nat) (rr : Nat → Ras) (ww : Nat → Row) (so : Nat) (pl : Pal) (qo : Qoi) (pn : Pnm) (bm : Bmp) (tg : Tga) (px : Pcx) (fa : A) (hb : aH) (n : Nat) (res : Out Src Unit) : Option Value → aH → Nat → Prop := fun r1 h2 n2 => ∃ (a : Unit) (s : Src), res = fok a s ∧ r1 = none ∧ h2 = HC m0 sh rr ww so s pl qo pn bm tg px fa hb ∧ n = n2
def X_X8_pass (m0 : Mnt) (sh : Nat → Nat) (rr : Nat → Ras) (ww : Nat → Row) (so : Nat) (pl : Pal) (qo : Qoi) (pn : Pnm) (bm : Bmp) (tg : Tga) (px : Pcx) (fa : A) (hb : aH) (n : Nat) (res : Out Src Unit) : String → aH → Nat → Prop := fun E h2 n2 => ∃ s : Src, res = fex E s ∧ h2 = HC m0 sh rr ww so s pl qo pn bm tg px fa hb ∧ n = n2
abbrev Q_X8_pass_2 (m0 : Mnt) (sh : Nat → Nat) (rr : Nat → Ras) (ww : Nat → Row) (so : Nat) (pl : Pal) (qo : Qoi) (pn : Pnm) (bm : Bmp) (tg : Tga) (px : Pcx) (fa : A) (hb : aH) (n : Nat) (k : Int32 → Int32 → Src → Out Src Unit) : Prop := ∀ (v1 : Int32) (v2 : Int32) (sc : Src) (res : Out Src Unit), k v1 v2 sc = res → res ≠ fno → AW (fun _ _ => True) mX8_pass (rmD 4 1 6) 0 0 (P_X8_pass m0 sh rr ww so pl qo pn bm tg px fa hb n res) (X_X8_pass m0 sh rr ww so pl qo pn bm tg px fa hb n res) 0 0 2 [(0, .ref 16), (1, .int v1), (2, .int v2)] [] (HC m0 sh rr ww so sc pl qo pn bm tg px fa hb) n
def F_X8_pass_2 (sb : A) (k2 : Int32 → Int32 → Src → Out Src Unit) (v1 : Int32) (v2 : Int32) (sc : Src) : Out Src Unit := if v1 ≤ v2 then (fok () sc) else (fon (F_X8_next sc sb) (fun z8 s8 => k2 v1 (v2 + 1) s8) (fun E s8 => fex E s8))
set_option maxHeartbeats 1000000 in
set_option maxRecDepth 100000 in
theorem b_X8_pass_2 (m0 : Mnt) (sh : Nat → Nat) (rr : Nat → Ras) (ww : Nat → Row) (so : Nat) (pl : Pal) (qo : Qoi) (pn : Pnm) (bm : Bmp) (tg : Tga) (px : Pcx) (fa : A) (hb : aH) (n : Nat) (hso : isW so) (k2 : Int32 → Int32 → Src → Out Src Unit) (hk2 : Q_X8_pass_2 m0 sh rr ww so pl qo pn bm tg px fa hb n k2) : Q_X8_pass_2 m0 sh rr ww so pl qo pn bm tg px fa hb n (F_X8_pass_2 (y_b (ww so)) k2) := by
  intro v1 v2 sc res hE hF
  unfold F_X8_pass_2 at hE
  refine aw_iload_n dX8_pass_2 rfl ?_
  refine aw_iload_n dX8_pass_3 rfl ?_
  refine aw_icmp_ge (tgt := 18) dX8_pass_4 (by decide) (fun c4 => ?_) (fun c4 => ?_)
  · replace hE := fit hE c4
    exact aw_vret dX8_pass_18 rfl (Nat.zero_le _) (Nat.zero_le _) (Nat.zero_le _) (Nat.zero_le _) ⟨_, _, hE.symm, rfl, rfl, rfl⟩
  · replace hE := fif hE c4
    refine aw_aload_n dX8_pass_7 rfl ?_
    refine aw_callV dX8_pass_8 at_src cvX8_43 rfl (kF_X8_next m0 sh rr ww so sc pl qo pn bm tg px fa hb _ hso  (fon_ne hE hF)) rfl (Nat.le_of_ble_eq_true rfl) (by decide) (by decide) (by decide) (by decide) (fun E h2 n2 hx => aw_out rfl (by decide) (by decide) (by obtain ⟨s8, e8, rfl, rfl⟩ := hx; exact ⟨_, (fon_ex e8 hE).symm, rfl, rfl⟩)) (fun r8 h8 n8 hp8 => ?_)
    obtain ⟨z8, s8, e8, rfl, rfl, rfl⟩ := hp8
    replace hE := fon_ok e8 hE
    refine aw_pop dX8_pass_11 rfl ?_
    refine aw_iinc (v := (v2 + 1)) (lv2 := [(2, _), (0, _), (1, _)]) dX8_pass_12 rfl (incE (by decide)) (by decide) rfl ?_
    refine aw_goto (tgt := 2) dX8_pass_15 (by decide) ?_
    exact aw_lv _ (List.forall_mem_cons.mpr ⟨rfl, (List.forall_mem_cons.mpr ⟨rfl, (List.forall_mem_cons.mpr ⟨rfl, fun _ h => absurd h List.not_mem_nil⟩)⟩)⟩) (hk2 v1 (v2 + 1) s8 _ hE hF)
def F_X8_pass (a1 : Int32) (sc : Src) (sb : A) : Out Src Unit := lp (fun _ _ _ => fno) (F_X8_pass_2 sb) FU a1 (0 : Int32) sc
set_option maxHeartbeats 1000000 in
set_option maxRecDepth 100000 in
theorem kF_X8_pass (m0 : Mnt) (sh : Nat → Nat) (rr : Nat → Ras) (ww : Nat → Row) (so : Nat) (sc : Src) (pl : Pal) (qo : Qoi) (pn : Pnm) (bm : Bmp) (tg : Tga) (px : Pcx) (fa : A) (hb : aH) (n : Nat) (hso : isW so) (a1 : Int32) (hF : F_X8_pass a1 sc (y_b (ww so)) ≠ fno) : AM mX8_pass 4 [.ref 16, .int a1] (HC m0 sh rr ww so sc pl qo pn bm tg px fa hb) n 1 6 0 0 (P_X8_pass m0 sh rr ww so pl qo pn bm tg px fa hb n (F_X8_pass a1 sc (y_b (ww so)))) (X_X8_pass m0 sh rr ww so pl qo pn bm tg px fa hb n (F_X8_pass a1 sc (y_b (ww so)))) := by
  generalize hE : F_X8_pass a1 sc (y_b (ww so)) = res at hF ⊢
  refine aw_of (by decide +kernel) rfl (Nat.le_of_ble_eq_true rfl) ?_
  unfold F_X8_pass at hE
  refine aw_iconst (v := 0) dX8_pass_0 (by decide) ?_
  refine aw_istore_n (lv2 := [(2, _), (0, _), (1, _)]) dX8_pass_1 (by decide) rfl ?_
  exact aw_lv _ (List.forall_mem_cons.mpr ⟨rfl, (List.forall_mem_cons.mpr ⟨rfl, (List.forall_mem_cons.mpr ⟨rfl, fun _ h => absurd h List.not_mem_nil⟩)⟩)⟩) (lp_ind (Q_X8_pass_2 m0 sh rr ww so pl qo pn bm tg px fa hb n) (fun _ _ _ res hq hF => (hF hq.symm).elim) (fun k hk => b_X8_pass_2 m0 sh rr ww so pl qo pn bm tg px fa hb n hso  k hk) FU a1 (0 : Int32) sc _ hE hF)
