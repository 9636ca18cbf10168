def P_X5_writeBits (m0 : Mnt) (sh : Nat → Nat) (rr : Nat → Ras) (r : Nat) (x : Ras) (ww : Nat → Row) (o : Nat) (so : Nat) (sc : Src) (pl : Pal) (qo : Qoi) (pn : Pnm) (bm : Bmp) (tg : Tga) (px : Pcx) (fa : A) (hb : aH) (n : Nat) (res : Out Row Unit) : Option Value → aH → Nat → Prop := fun r1 h2 n2 => ∃ (a : Unit) (s : Row), res = fok a s ∧ r1 = none ∧ h2 = HC m0 sh (va_up rr r x) (va_up ww o s) so sc pl qo pn bm tg px fa hb ∧ n = n2
abbrev Q_X5_writeBits_4 (m0 : Mnt) (sh : Nat → Nat) (rr : Nat → Ras) (r : Nat) (x : Ras) (ww : Nat → Row) (o : Nat) (so : Nat) (sc : Src) (pl : Pal) (qo : Qoi) (pn : Pnm) (bm : Bmp) (tg : Tga) (px : Pcx) (fa : A) (hb : aH) (n : Nat) (k : Int32 → Int32 → Row → Out Row Unit) : Prop := ∀ (v2 : Int32) (v3 : Int32) (y : Row) (res : Out Row Unit), k v2 v3 y = res → res ≠ fno → AW (fun _ _ => True) mX5_writeBits (rmD 2 0 0) 0 0 (P_X5_writeBits m0 sh rr r x ww o so sc pl qo pn bm tg px fa hb n res) (fun _ _ _ => False) 0 0 4 [(0, .ref r), (1, .ref o), (2, .int v2), (3, .int v3)] [] (HC m0 sh (va_up rr r x) (va_up ww o y) so sc pl qo pn bm tg px fa hb) n
abbrev Q_X5_writeBits_18 (m0 : Mnt) (sh : Nat → Nat) (rr : Nat → Ras) (r : Nat) (x : Ras) (ww : Nat → Row) (o : Nat) (so : Nat) (sc : Src) (pl : Pal) (qo : Qoi) (pn : Pnm) (bm : Bmp) (tg : Tga) (px : Pcx) (fa : A) (hb : aH) (n : Nat) (k : Int32 → Int32 → Int32 → Int32 → Row → Out Row Unit) : Prop := ∀ (v2 : Int32) (v3 : Int32) (v4 : Int32) (v5 : Int32) (y : Row) (res : Out Row Unit), k v2 v3 v4 v5 y = res → res ≠ fno → AW (fun _ _ => True) mX5_writeBits (rmD 2 0 0) 0 0 (P_X5_writeBits m0 sh rr r x ww o so sc pl qo pn bm tg px fa hb n res) (fun _ _ _ => False) 0 0 18 [(0, .ref r), (1, .ref o), (2, .int v2), (3, .int v3), (4, .int v4), (5, .int v5)] [] (HC m0 sh (va_up rr r x) (va_up ww o y) so sc pl qo pn bm tg px fa hb) n
abbrev Q_X5_writeBits_52 (m0 : Mnt) (sh : Nat → Nat) (rr : Nat → Ras) (r : Nat) (x : Ras) (ww : Nat → Row) (o : Nat) (so : Nat) (sc : Src) (pl : Pal) (qo : Qoi) (pn : Pnm) (bm : Bmp) (tg : Tga) (px : Pcx) (fa : A) (hb : aH) (n : Nat) (k : Int32 → Int32 → Int32 → Int32 → Row → Out Row Unit) : Prop := ∀ (v2 : Int32) (v3 : Int32) (v4 : Int32) (v5 : Int32) (y : Row) (res : Out Row Unit), k v2 v3 v4 v5 y = res → res ≠ fno → AW (fun _ _ => True) mX5_writeBits (rmD 2 0 0) 0 0 (P_X5_writeBits m0 sh rr r x ww o so sc pl qo pn bm tg px fa hb n res) (fun _ _ _ => False) 0 0 52 [(0, .ref r), (1, .ref o), (2, .int v2), (3, .int v3), (4, .int v4), (5, .int v5)] [] (HC m0 sh (va_up rr r x) (va_up ww o y) so sc pl qo pn bm tg px fa hb) n
abbrev Q_X5_writeBits_76 (m0 : Mnt) (sh : Nat → Nat) (rr : Nat → Ras) (r : Nat) (x : Ras) (ww : Nat → Row) (o : Nat) (so : Nat) (sc : Src) (pl : Pal) (qo : Qoi) (pn : Pnm) (bm : Bmp) (tg : Tga) (px : Pcx) (fa : A) (hb : aH) (n : Nat) (k : Int32 → Int32 → Int32 → Int32 → Row → Out Row Unit) : Prop := ∀ (v2 : Int32) (v3 : Int32) (v4 : Int32) (v5 : Int32) (y : Row) (res : Out Row Unit), k v2 v3 v4 v5 y = res → res ≠ fno → AW (fun _ _ => True) mX5_writeBits (rmD 2 0 0) 0 0 (P_X5_writeBits m0 sh rr r x ww o so sc pl qo pn bm tg px fa hb n res) (fun _ _ _ => False) 0 0 76 [(0, .ref r), (1, .ref o), (2, .int v2), (3, .int v3), (4, .int v4), (5, .int v5)] [] (HC m0 sh (va_up rr r x) (va_up ww o y) so sc pl qo pn bm tg px fa hb) n
abbrev Q_X5_writeBits_85 (m0 : Mnt) (sh : Nat → Nat) (rr : Nat → Ras) (r : Nat) (x : Ras) (ww : Nat → Row) (o : Nat) (so : Nat) (sc : Src) (pl : Pal) (qo : Qoi) (pn : Pnm) (bm : Bmp) (tg : Tga) (px : Pcx) (fa : A) (hb : aH) (n : Nat) (k : Int32 → Int32 → Int32 → Int32 → Row → Out Row Unit) : Prop := ∀ (v2 : Int32) (v3 : Int32) (v4 : Int32) (v5 : Int32) (y : Row) (res : Out Row Unit), k v2 v3 v4 v5 y = res → res ≠ fno → AW (fun _ _ => True) mX5_writeBits (rmD 2 0 0) 0 0 (P_X5_writeBits m0 sh rr r x ww o so sc pl qo pn bm tg px fa hb n res) (fun _ _ _ => False) 0 0 85 [(0, .ref r), (1, .ref o), (2, .int v2), (3, .int v3), (4, .int v4), (5, .int v5)] [] (HC m0 sh (va_up rr r x) (va_up ww o y) so sc pl qo pn bm tg px fa hb) n
def F_X5_writeBits_85 (x : Ras) (k4 : Int32 → Int32 → Row → Out Row Unit) (k18 : Int32 → Int32 → Int32 → Int32 → Row → Out Row Unit) (v2 : Int32) (v3 : Int32) (v4 : Int32) (v5 : Int32) (y : Row) : Out Row Unit := k18 v2 v3 v4 (v5 + 1) y
set_option maxHeartbeats 1000000 in
set_option maxRecDepth 100000 in
theorem b_X5_writeBits_85 (m0 : Mnt) (sh : Nat → Nat) (rr : Nat → Ras) (r : Nat) (x : Ras) (ww : Nat → Row) (o : Nat) (so : Nat) (sc : Src) (pl : Pal) (qo : Qoi) (pn : Pnm) (bm : Bmp) (tg : Tga) (px : Pcx) (fa : A) (hb : aH) (n : Nat) (hr : isR r) (ho : isW o) (k4 : Int32 → Int32 → Row → Out Row Unit) (hk4 : Q_X5_writeBits_4 m0 sh rr r x ww o so sc pl qo pn bm tg px fa hb n k4) (k18 : Int32 → Int32 → Int32 → Int32 → Row → Out Row Unit) (hk18 : Q_X5_writeBits_18 m0 sh rr r x ww o so sc pl qo pn bm tg px fa hb n k18) : Q_X5_writeBits_85 m0 sh rr r x ww o so sc pl qo pn bm tg px fa hb n (F_X5_writeBits_85 x k4 k18) := by
  intro v2 v3 v4 v5 y res hE hF
  unfold F_X5_writeBits_85 at hE
  refine aw_iinc (v := (v5 + 1)) (lv2 := [(5, _), (0, _), (1, _), (2, _), (3, _), (4, _)]) dX5_writeBits_85 rfl (incE (by decide)) (by decide) rfl ?_
  refine aw_goto (tgt := 18) dX5_writeBits_88 (by decide) ?_
  exact aw_lv _ (List.forall_mem_cons.mpr ⟨rfl, (List.forall_mem_cons.mpr ⟨rfl, (List.forall_mem_cons.mpr ⟨rfl, (List.forall_mem_cons.mpr ⟨rfl, (List.forall_mem_cons.mpr ⟨rfl, (List.forall_mem_cons.mpr ⟨rfl, fun _ h => absurd h List.not_mem_nil⟩)⟩)⟩)⟩)⟩)⟩) (hk18 v2 v3 v4 (v5 + 1) y _ hE hF)
def F_X5_writeBits_76 (x : Ras) (k4 : Int32 → Int32 → Row → Out Row Unit) (k18 : Int32 → Int32 → Int32 → Int32 → Row → Out Row Unit) (v2 : Int32) (v3 : Int32) (v4 : Int32) (v5 : Int32) (y : Row) : Out Row Unit := fon (F_X1_add v4 y) (fun z79 s79 => F_X5_writeBits_85 x k4 k18 v2 v3 (0 : Int32) v5 s79) (fun _ _ => fno)
set_option maxHeartbeats 1000000 in
set_option maxRecDepth 100000 in
theorem b_X5_writeBits_76 (m0 : Mnt) (sh : Nat → Nat) (rr : Nat → Ras) (r : Nat) (x : Ras) (ww : Nat → Row) (o : Nat) (so : Nat) (sc : Src) (pl : Pal) (qo : Qoi) (pn : Pnm) (bm : Bmp) (tg : Tga) (px : Pcx) (fa : A) (hb : aH) (n : Nat) (hr : isR r) (ho : isW o) (k4 : Int32 → Int32 → Row → Out Row Unit) (hk4 : Q_X5_writeBits_4 m0 sh rr r x ww o so sc pl qo pn bm tg px fa hb n k4) (k18 : Int32 → Int32 → Int32 → Int32 → Row → Out Row Unit) (hk18 : Q_X5_writeBits_18 m0 sh rr r x ww o so sc pl qo pn bm tg px fa hb n k18) : Q_X5_writeBits_76 m0 sh rr r x ww o so sc pl qo pn bm tg px fa hb n (F_X5_writeBits_76 x k4 k18) := by
  intro v2 v3 v4 v5 y res hE hF
  unfold F_X5_writeBits_76 at hE
  refine aw_aload_n dX5_writeBits_76 rfl ?_
  refine aw_iload dX5_writeBits_77 rfl ?_
  refine aw_callV dX5_writeBits_79 (at_row ho) cvX5_124 rfl (kF_X1_add m0 sh (va_up rr r x) ww o y so sc pl qo pn bm tg px fa hb _ ho v4 (fon_ne hE hF)) rfl (Nat.le_of_ble_eq_true rfl) (by decide) (by decide) (by decide) (by decide) (fun _ _ _ hf => False.elim hf) (fun r79 h79 n79 hp79 => ?_)
  obtain ⟨z79, s79, e79, rfl, rfl, rfl⟩ := hp79
  replace hE := fon_ok e79 hE
  refine aw_iconst (v := 0) dX5_writeBits_82 (by decide) ?_
  refine aw_istore (lv2 := [(4, _), (0, _), (1, _), (2, _), (3, _), (5, _)]) dX5_writeBits_83 (by decide) rfl ?_
  exact aw_lv _ (List.forall_mem_cons.mpr ⟨rfl, (List.forall_mem_cons.mpr ⟨rfl, (List.forall_mem_cons.mpr ⟨rfl, (List.forall_mem_cons.mpr ⟨rfl, (List.forall_mem_cons.mpr ⟨rfl, (List.forall_mem_cons.mpr ⟨rfl, fun _ h => absurd h List.not_mem_nil⟩)⟩)⟩)⟩)⟩)⟩) (b_X5_writeBits_85 m0 sh rr r x ww o so sc pl qo pn bm tg px fa hb n hr ho k4 hk4 k18 hk18 v2 v3 (0 : Int32) v5 s79 _ hE hF)
def F_X5_writeBits_52 (x : Ras) (k4 : Int32 → Int32 → Row → Out Row Unit) (k18 : Int32 → Int32 → Int32 → Int32 → Row → Out Row Unit) (v2 : Int32) (v3 : Int32) (v4 : Int32) (v5 : Int32) (y : Row) : Out Row Unit := if (v5 &&& 7) = 7 then (F_X5_writeBits_76 x k4 k18 (v2 + 1) v3 v4 v5 y) else (if v5 = ((x_w x) - 1) then (F_X5_writeBits_76 x k4 k18 (v2 + 1) v3 v4 v5 y) else (F_X5_writeBits_85 x k4 k18 (v2 + 1) v3 v4 v5 y))
set_option maxHeartbeats 1000000 in
set_option maxRecDepth 100000 in
theorem b_X5_writeBits_52 (m0 : Mnt) (sh : Nat → Nat) (rr : Nat → Ras) (r : Nat) (x : Ras) (ww : Nat → Row) (o : Nat) (so : Nat) (sc : Src) (pl : Pal) (qo : Qoi) (pn : Pnm) (bm : Bmp) (tg : Tga) (px : Pcx) (fa : A) (hb : aH) (n : Nat) (hr : isR r) (ho : isW o) (k4 : Int32 → Int32 → Row → Out Row Unit) (hk4 : Q_X5_writeBits_4 m0 sh rr r x ww o so sc pl qo pn bm tg px fa hb n k4) (k18 : Int32 → Int32 → Int32 → Int32 → Row → Out Row Unit) (hk18 : Q_X5_writeBits_18 m0 sh rr r x ww o so sc pl qo pn bm tg px fa hb n k18) : Q_X5_writeBits_52 m0 sh rr r x ww o so sc pl qo pn bm tg px fa hb n (F_X5_writeBits_52 x k4 k18) := by
  intro v2 v3 v4 v5 y res hE hF
  unfold F_X5_writeBits_52 at hE
  refine aw_iinc (v := (v2 + 1)) (lv2 := [(2, _), (0, _), (1, _), (3, _), (4, _), (5, _)]) dX5_writeBits_52 rfl (incE (by decide)) (by decide) rfl ?_
  refine aw_iload dX5_writeBits_55 rfl ?_
  refine aw_bipush (v := 7) dX5_writeBits_57 (by decide) ?_
  refine aw_iand dX5_writeBits_59 ?_
  refine aw_bipush (v := 7) dX5_writeBits_60 (by decide) ?_
  refine aw_icmp_eq (tgt := 76) dX5_writeBits_62 (by decide) (fun c62 => ?_) (fun c62 => ?_)
  · replace hE := fit hE c62
    exact aw_lv _ (List.forall_mem_cons.mpr ⟨rfl, (List.forall_mem_cons.mpr ⟨rfl, (List.forall_mem_cons.mpr ⟨rfl, (List.forall_mem_cons.mpr ⟨rfl, (List.forall_mem_cons.mpr ⟨rfl, (List.forall_mem_cons.mpr ⟨rfl, fun _ h => absurd h List.not_mem_nil⟩)⟩)⟩)⟩)⟩)⟩) (b_X5_writeBits_76 m0 sh rr r x ww o so sc pl qo pn bm tg px fa hb n hr ho k4 hk4 k18 hk18 (v2 + 1) v3 v4 v5 y _ hE hF)
  · replace hE := fif hE c62
    refine aw_iload dX5_writeBits_65 rfl ?_
    refine aw_aload_n dX5_writeBits_67 rfl ?_
    refine aw_getf (v := .int (x_w x)) dX5_writeBits_68 flX5_114_6 (at_ras hr) rfl ?_
    refine aw_iconst (v := 1) dX5_writeBits_71 (by decide) ?_
    refine aw_isub dX5_writeBits_72 ?_
    refine aw_icmp_ne (tgt := 85) dX5_writeBits_73 (by decide) (fun c73 => ?_) (fun c73 => ?_)
    · replace hE := fif hE c73
      exact aw_lv _ (List.forall_mem_cons.mpr ⟨rfl, (List.forall_mem_cons.mpr ⟨rfl, (List.forall_mem_cons.mpr ⟨rfl, (List.forall_mem_cons.mpr ⟨rfl, (List.forall_mem_cons.mpr ⟨rfl, (List.forall_mem_cons.mpr ⟨rfl, fun _ h => absurd h List.not_mem_nil⟩)⟩)⟩)⟩)⟩)⟩) (b_X5_writeBits_85 m0 sh rr r x ww o so sc pl qo pn bm tg px fa hb n hr ho k4 hk4 k18 hk18 (v2 + 1) v3 v4 v5 y _ hE hF)
    · replace hE := fit hE c73
      exact aw_lv _ (List.forall_mem_cons.mpr ⟨rfl, (List.forall_mem_cons.mpr ⟨rfl, (List.forall_mem_cons.mpr ⟨rfl, (List.forall_mem_cons.mpr ⟨rfl, (List.forall_mem_cons.mpr ⟨rfl, (List.forall_mem_cons.mpr ⟨rfl, fun _ h => absurd h List.not_mem_nil⟩)⟩)⟩)⟩)⟩)⟩) (b_X5_writeBits_76 m0 sh rr r x ww o so sc pl qo pn bm tg px fa hb n hr ho k4 hk4 k18 hk18 (v2 + 1) v3 v4 v5 y _ hE hF)
def F_X5_writeBits_18 (x : Ras) (k4 : Int32 → Int32 → Row → Out Row Unit) (k18 : Int32 → Int32 → Int32 → Int32 → Row → Out Row Unit) (v2 : Int32) (v3 : Int32) (v4 : Int32) (v5 : Int32) (y : Row) : Out Row Unit := if (x_w x) ≤ v5 then (k4 v2 (v3 + 1) y) else (fon (F_X7_get v2 x) (fun z29 s29 => if z29 = 255 then (F_X5_writeBits_52 x k4 k18 v2 v3 (v4 ||| (128 >>> ((v5 &&& 7) &&& 31))) v5 y) else (F_X5_writeBits_52 x k4 k18 v2 v3 v4 v5 y)) (fun _ _ => fno))
set_option maxHeartbeats 1000000 in
set_option maxRecDepth 100000 in
theorem b_X5_writeBits_18 (m0 : Mnt) (sh : Nat → Nat) (rr : Nat → Ras) (r : Nat) (x : Ras) (ww : Nat → Row) (o : Nat) (so : Nat) (sc : Src) (pl : Pal) (qo : Qoi) (pn : Pnm) (bm : Bmp) (tg : Tga) (px : Pcx) (fa : A) (hb : aH) (n : Nat) (hr : isR r) (ho : isW o) (k4 : Int32 → Int32 → Row → Out Row Unit) (hk4 : Q_X5_writeBits_4 m0 sh rr r x ww o so sc pl qo pn bm tg px fa hb n k4) (k18 : Int32 → Int32 → Int32 → Int32 → Row → Out Row Unit) (hk18 : Q_X5_writeBits_18 m0 sh rr r x ww o so sc pl qo pn bm tg px fa hb n k18) : Q_X5_writeBits_18 m0 sh rr r x ww o so sc pl qo pn bm tg px fa hb n (F_X5_writeBits_18 x k4 k18) := by
  intro v2 v3 v4 v5 y res hE hF
  unfold F_X5_writeBits_18 at hE
  refine aw_iload dX5_writeBits_18 rfl ?_
  refine aw_aload_n dX5_writeBits_20 rfl ?_
  refine aw_getf (v := .int (x_w x)) dX5_writeBits_21 flX5_114_6 (at_ras hr) rfl ?_
  refine aw_icmp_ge (tgt := 91) dX5_writeBits_24 (by decide) (fun c24 => ?_) (fun c24 => ?_)
  · replace hE := fit hE c24
    refine aw_iinc (v := (v3 + 1)) (lv2 := [(3, _), (0, _), (1, _), (2, _), (4, _), (5, _)]) dX5_writeBits_91 rfl (incE (by decide)) (by decide) rfl ?_
    refine aw_goto (tgt := 4) dX5_writeBits_94 (by decide) ?_
    exact aw_lv _ (List.forall_mem_cons.mpr ⟨rfl, (List.forall_mem_cons.mpr ⟨rfl, (List.forall_mem_cons.mpr ⟨rfl, (List.forall_mem_cons.mpr ⟨rfl, fun _ h => absurd h List.not_mem_nil⟩)⟩)⟩)⟩) (hk4 v2 (v3 + 1) y _ hE hF)
  · replace hE := fif hE c24
    refine aw_aload_n dX5_writeBits_27 rfl ?_
    refine aw_iload_n dX5_writeBits_28 rfl ?_
    refine aw_callV dX5_writeBits_29 (at_ras hr) cvX5_143 rfl (kF_X7_get m0 sh rr r x (va_up ww o y) so sc pl qo pn bm tg px fa hb _ hr v2 (fon_ne hE hF)) rfl (Nat.le_of_ble_eq_true rfl) (by decide) (by decide) (by decide) (by decide) (fun _ _ _ hf => False.elim hf) (fun r29 h29 n29 hp29 => ?_)
    obtain ⟨z29, s29, e29, rfl, rfl, rfl⟩ := hp29
    replace hE := fon_ok e29 hE
    refine aw_sipush (v := 255) dX5_writeBits_32 (by decide) ?_
    refine aw_icmp_ne (tgt := 52) dX5_writeBits_35 (by decide) (fun c35 => ?_) (fun c35 => ?_)
    · replace hE := fif hE c35
      exact aw_lv _ (List.forall_mem_cons.mpr ⟨rfl, (List.forall_mem_cons.mpr ⟨rfl, (List.forall_mem_cons.mpr ⟨rfl, (List.forall_mem_cons.mpr ⟨rfl, (List.forall_mem_cons.mpr ⟨rfl, (List.forall_mem_cons.mpr ⟨rfl, fun _ h => absurd h List.not_mem_nil⟩)⟩)⟩)⟩)⟩)⟩) (b_X5_writeBits_52 m0 sh rr r x ww o so sc pl qo pn bm tg px fa hb n hr ho k4 hk4 k18 hk18 v2 v3 v4 v5 y _ hE hF)
    · replace hE := fit hE c35
      refine aw_iload dX5_writeBits_38 rfl ?_
      refine aw_sipush (v := 128) dX5_writeBits_40 (by decide) ?_
      refine aw_iload dX5_writeBits_43 rfl ?_
      refine aw_bipush (v := 7) dX5_writeBits_45 (by decide) ?_
      refine aw_iand dX5_writeBits_47 ?_
      refine aw_ishr dX5_writeBits_48 ?_
      refine aw_ior dX5_writeBits_49 ?_
      refine aw_istore (lv2 := [(4, _), (0, _), (1, _), (2, _), (3, _), (5, _)]) dX5_writeBits_50 (by decide) rfl ?_
      exact aw_lv _ (List.forall_mem_cons.mpr ⟨rfl, (List.forall_mem_cons.mpr ⟨rfl, (List.forall_mem_cons.mpr ⟨rfl, (List.forall_mem_cons.mpr ⟨rfl, (List.forall_mem_cons.mpr ⟨rfl, (List.forall_mem_cons.mpr ⟨rfl, fun _ h => absurd h List.not_mem_nil⟩)⟩)⟩)⟩)⟩)⟩) (b_X5_writeBits_52 m0 sh rr r x ww o so sc pl qo pn bm tg px fa hb n hr ho k4 hk4 k18 hk18 v2 v3 (v4 ||| (128 >>> ((v5 &&& 7) &&& 31))) v5 y _ hE hF)
def F_X5_writeBits_4 (x : Ras) (k4 : Int32 → Int32 → Row → Out Row Unit) (v2 : Int32) (v3 : Int32) (y : Row) : Out Row Unit := if (x_g x) ≤ v3 then (fok () y) else (lp (fun _ _ _ _ _ => fno) (F_X5_writeBits_18 x k4) FU v2 v3 (0 : Int32) (0 : Int32) y)
set_option maxHeartbeats 1000000 in
set_option maxRecDepth 100000 in
theorem b_X5_writeBits_4 (m0 : Mnt) (sh : Nat → Nat) (rr : Nat → Ras) (r : Nat) (x : Ras) (ww : Nat → Row) (o : Nat) (so : Nat) (sc : Src) (pl : Pal) (qo : Qoi) (pn : Pnm) (bm : Bmp) (tg : Tga) (px : Pcx) (fa : A) (hb : aH) (n : Nat) (hr : isR r) (ho : isW o) (k4 : Int32 → Int32 → Row → Out Row Unit) (hk4 : Q_X5_writeBits_4 m0 sh rr r x ww o so sc pl qo pn bm tg px fa hb n k4) : Q_X5_writeBits_4 m0 sh rr r x ww o so sc pl qo pn bm tg px fa hb n (F_X5_writeBits_4 x k4) := by
  intro v2 v3 y res hE hF
  unfold F_X5_writeBits_4 at hE
  refine aw_iload_n dX5_writeBits_4 rfl ?_
  refine aw_aload_n dX5_writeBits_5 rfl ?_
  refine aw_getf (v := .int (x_g x)) dX5_writeBits_6 flX5_111_6 (at_ras hr) rfl ?_
  refine aw_icmp_ge (tgt := 97) dX5_writeBits_9 (by decide) (fun c9 => ?_) (fun c9 => ?_)
  · replace hE := fit hE c9
    exact aw_vret dX5_writeBits_97 rfl (Nat.zero_le _) (Nat.zero_le _) (Nat.zero_le _) (Nat.zero_le _) ⟨_, _, hE.symm, rfl, rfl, rfl⟩
  · replace hE := fif hE c9
    refine aw_iconst (v := 0) dX5_writeBits_12 (by decide) ?_
    refine aw_istore (lv2 := [(4, _), (0, _), (1, _), (2, _), (3, _)]) dX5_writeBits_13 (by decide) rfl ?_
    refine aw_iconst (v := 0) dX5_writeBits_15 (by decide) ?_
    refine aw_istore (lv2 := [(5, _), (4, _), (0, _), (1, _), (2, _), (3, _)]) dX5_writeBits_16 (by decide) rfl ?_
    exact aw_lv _ (List.forall_mem_cons.mpr ⟨rfl, (List.forall_mem_cons.mpr ⟨rfl, (List.forall_mem_cons.mpr ⟨rfl, (List.forall_mem_cons.mpr ⟨rfl, (List.forall_mem_cons.mpr ⟨rfl, (List.forall_mem_cons.mpr ⟨rfl, fun _ h => absurd h List.not_mem_nil⟩)⟩)⟩)⟩)⟩)⟩) (lp_ind (Q_X5_writeBits_18 m0 sh rr r x ww o so sc pl qo pn bm tg px fa hb n) (fun _ _ _ _ _ res hq hF => (hF hq.symm).elim) (fun k hk => b_X5_writeBits_18 m0 sh rr r x ww o so sc pl qo pn bm tg px fa hb n hr ho k4 hk4 k hk) FU v2 v3 (0 : Int32) (0 : Int32) y _ hE hF)
def F_X5_writeBits (x : Ras) (y : Row) : Out Row Unit := lp (fun _ _ _ => fno) (F_X5_writeBits_4 x) FU (0 : Int32) (0 : Int32) y
set_option maxHeartbeats 1000000 in
set_option maxRecDepth 100000 in
theorem kF_X5_writeBits (m0 : Mnt) (sh : Nat → Nat) (rr : Nat → Ras) (r : Nat) (x : Ras) (ww : Nat → Row) (o : Nat) (y : Row) (so : Nat) (sc : Src) (pl : Pal) (qo : Qoi) (pn : Pnm) (bm : Bmp) (tg : Tga) (px : Pcx) (fa : A) (hb : aH) (n : Nat) (hr : isR r) (ho : isW o)  (hF : F_X5_writeBits x y ≠ fno) : AM mX5_writeBits 2 [.ref r, .ref o] (HC m0 sh (va_up rr r x) (va_up ww o y) so sc pl qo pn bm tg px fa hb) n 0 0 0 0 (P_X5_writeBits m0 sh rr r x ww o so sc pl qo pn bm tg px fa hb n (F_X5_writeBits x y)) (fun _ _ _ => False) := by
  generalize hE : F_X5_writeBits x y = res at hF ⊢
  refine aw_of (by decide +kernel) rfl (Nat.le_of_ble_eq_true rfl) ?_
  unfold F_X5_writeBits at hE
  refine aw_iconst (v := 0) dX5_writeBits_0 (by decide) ?_
  refine aw_istore_n (lv2 := [(2, _), (0, _), (1, _)]) dX5_writeBits_1 (by decide) rfl ?_
  refine aw_iconst (v := 0) dX5_writeBits_2 (by decide) ?_
  refine aw_istore_n (lv2 := [(3, _), (2, _), (0, _), (1, _)]) dX5_writeBits_3 (by decide) rfl ?_
  exact aw_lv _ (List.forall_mem_cons.mpr ⟨rfl, (List.forall_mem_cons.mpr ⟨rfl, (List.forall_mem_cons.mpr ⟨rfl, (List.forall_mem_cons.mpr ⟨rfl, fun _ h => absurd h List.not_mem_nil⟩)⟩)⟩)⟩) (lp_ind (Q_X5_writeBits_4 m0 sh rr r x ww o so sc pl qo pn bm tg px fa hb n) (fun _ _ _ res hq hF => (hF hq.symm).elim) (fun k hk => b_X5_writeBits_4 m0 sh rr r x ww o so sc pl qo pn bm tg px fa hb n hr ho  k hk) FU (0 : Int32) (0 : Int32) y _ hE hF)
def P_X5_writeNumbers (m0 : Mnt) (sh : Nat → Nat) (rr : Nat → Ras) (ww : Nat → Row) (o : Nat) (so : Nat) (sc : Src) (pl : Pal) (qo : Qoi) (pn : Pnm) (bm : Bmp) (tg : Tga) (px : Pcx) (fa : A) (hb : aH) (n : Nat) (res : Out Row Unit) : Option Value → aH → Nat → Prop := fun r1 h2 n2 => ∃ (a : Unit) (s : Row), res = fok a s ∧ r1 = none ∧ h2 = HC m0 sh rr (va_up ww o s) so sc pl qo pn bm tg px fa hb ∧ n = n2
abbrev Q_X5_writeNumbers_40 (m0 : Mnt) (sh : Nat → Nat) (rr : Nat → Ras) (ww : Nat → Row) (o : Nat) (so : Nat) (sc : Src) (pl : Pal) (qo : Qoi) (pn : Pnm) (bm : Bmp) (tg : Tga) (px : Pcx) (fa : A) (hb : aH) (n : Nat) (k : Row → Out Row Unit) : Prop := ∀ (y : Row) (res : Out Row Unit), k y = res → res ≠ fno → AW (fun _ _ => True) mX5_writeNumbers (rmD 3 0 0) 0 0 (P_X5_writeNumbers m0 sh rr ww o so sc pl qo pn bm tg px fa hb n res) (fun _ _ _ => False) 0 0 40 [(2, .ref o)] [] (HC m0 sh rr (va_up ww o y) so sc pl qo pn bm tg px fa hb) n
def F_X5_writeNumbers_40   (y : Row) : Out Row Unit := fon (F_X1_add 10 y) (fun z43 s43 => fok () s43) (fun _ _ => fno)
set_option maxHeartbeats 1000000 in
set_option maxRecDepth 100000 in
theorem b_X5_writeNumbers_40 (m0 : Mnt) (sh : Nat → Nat) (rr : Nat → Ras) (ww : Nat → Row) (o : Nat) (so : Nat) (sc : Src) (pl : Pal) (qo : Qoi) (pn : Pnm) (bm : Bmp) (tg : Tga) (px : Pcx) (fa : A) (hb : aH) (n : Nat) (ho : isW o)  : Q_X5_writeNumbers_40 m0 sh rr ww o so sc pl qo pn bm tg px fa hb n (F_X5_writeNumbers_40 ) := by
  intro y res hE hF
  unfold F_X5_writeNumbers_40 at hE
  refine aw_aload_n dX5_writeNumbers_40 rfl ?_
  refine aw_bipush (v := 10) dX5_writeNumbers_41 (by decide) ?_
  refine aw_callV dX5_writeNumbers_43 (at_row ho) cvX5_124 rfl (kF_X1_add m0 sh rr ww o y so sc pl qo pn bm tg px fa hb _ ho 10 (fon_ne hE hF)) rfl (Nat.le_of_ble_eq_true rfl) (by decide) (by decide) (by decide) (by decide) (fun _ _ _ hf => False.elim hf) (fun r43 h43 n43 hp43 => ?_)
  obtain ⟨z43, s43, e43, rfl, rfl, rfl⟩ := hp43
  replace hE := fon_ok e43 hE
  exact aw_vret dX5_writeNumbers_46 rfl (Nat.zero_le _) (Nat.zero_le _) (Nat.zero_le _) (Nat.zero_le _) ⟨_, _, hE.symm, rfl, rfl, rfl⟩
def F_X5_writeNumbers (a0 : Int32) (a1 : Int32) (y : Row) : Out Row Unit := fon (F_X1_addDecimal (F_X10_redOf a0) y) (fun z5 s5 => if a1 = 0 then (F_X5_writeNumbers_40  s5) else (fon (F_X1_add 32 s5) (fun z15 s15 => fon (F_X1_addDecimal (F_X10_greenOf a0) s15) (fun z23 s23 => fon (F_X1_add 32 s23) (fun z29 s29 => fon (F_X1_addDecimal (F_X10_blueOf a0) s29) (fun z37 s37 => F_X5_writeNumbers_40  s37) (fun _ _ => fno)) (fun _ _ => fno)) (fun _ _ => fno)) (fun _ _ => fno))) (fun _ _ => fno)
set_option maxHeartbeats 1000000 in
set_option maxRecDepth 100000 in
theorem kF_X5_writeNumbers (m0 : Mnt) (sh : Nat → Nat) (rr : Nat → Ras) (ww : Nat → Row) (o : Nat) (y : Row) (so : Nat) (sc : Src) (pl : Pal) (qo : Qoi) (pn : Pnm) (bm : Bmp) (tg : Tga) (px : Pcx) (fa : A) (hb : aH) (n : Nat) (ho : isW o) (a0 : Int32) (a1 : Int32) (hF : F_X5_writeNumbers a0 a1 y ≠ fno) : AM mX5_writeNumbers 3 [.int a0, .int a1, .ref o] (HC m0 sh rr (va_up ww o y) so sc pl qo pn bm tg px fa hb) n 0 0 0 0 (P_X5_writeNumbers m0 sh rr ww o so sc pl qo pn bm tg px fa hb n (F_X5_writeNumbers a0 a1 y)) (fun _ _ _ => False) := by
  generalize hE : F_X5_writeNumbers a0 a1 y = res at hF ⊢
  refine aw_of (by decide +kernel) rfl (Nat.le_of_ble_eq_true rfl) ?_
  unfold F_X5_writeNumbers at hE
  refine aw_aload_n dX5_writeNumbers_0 rfl ?_
  refine aw_iload_n dX5_writeNumbers_1 rfl ?_
  refine aw_callSN dX5_writeNumbers_2  csX5_154 rfl (kF_X10_redOf _ _ a0) rfl (Nat.le_of_ble_eq_true rfl) (by decide) (by decide) (by decide) (by decide)  (fun r2 h2 n2 hp2 => ?_)
  obtain ⟨rfl, rfl, rfl⟩ := hp2
  refine aw_callV dX5_writeNumbers_5 (at_row ho) cvX5_129 rfl (kF_X1_addDecimal m0 sh rr ww o y so sc pl qo pn bm tg px fa hb _ ho (F_X10_redOf a0) (fon_ne hE hF)) rfl (Nat.le_of_ble_eq_true rfl) (by decide) (by decide) (by decide) (by decide) (fun _ _ _ hf => False.elim hf) (fun r5 h5 n5 hp5 => ?_)
  obtain ⟨z5, s5, e5, rfl, rfl, rfl⟩ := hp5
  replace hE := fon_ok e5 hE
  refine aw_iload_n dX5_writeNumbers_8 rfl ?_
  refine aw_if_eq (tgt := 40) dX5_writeNumbers_9 (by decide) (fun c9 => ?_) (fun c9 => ?_)
  · replace hE := fit hE c9
    exact aw_lv _ (List.forall_mem_cons.mpr ⟨rfl, fun _ h => absurd h List.not_mem_nil⟩) (b_X5_writeNumbers_40 m0 sh rr ww o so sc pl qo pn bm tg px fa hb n ho  s5 _ hE hF)
  · replace hE := fif hE c9
    refine aw_aload_n dX5_writeNumbers_12 rfl ?_
    refine aw_bipush (v := 32) dX5_writeNumbers_13 (by decide) ?_
    refine aw_callV dX5_writeNumbers_15 (at_row ho) cvX5_124 rfl (kF_X1_add m0 sh rr ww o s5 so sc pl qo pn bm tg px fa hb _ ho 32 (fon_ne hE hF)) rfl (Nat.le_of_ble_eq_true rfl) (by decide) (by decide) (by decide) (by decide) (fun _ _ _ hf => False.elim hf) (fun r15 h15 n15 hp15 => ?_)
    obtain ⟨z15, s15, e15, rfl, rfl, rfl⟩ := hp15
    replace hE := fon_ok e15 hE
    refine aw_aload_n dX5_writeNumbers_18 rfl ?_
    refine aw_iload_n dX5_writeNumbers_19 rfl ?_
    refine aw_callSN dX5_writeNumbers_20  csX5_157 rfl (kF_X10_greenOf _ _ a0) rfl (Nat.le_of_ble_eq_true rfl) (by decide) (by decide) (by decide) (by decide)  (fun r20 h20 n20 hp20 => ?_)
    obtain ⟨rfl, rfl, rfl⟩ := hp20
    refine aw_callV dX5_writeNumbers_23 (at_row ho) cvX5_129 rfl (kF_X1_addDecimal m0 sh rr ww o s15 so sc pl qo pn bm tg px fa hb _ ho (F_X10_greenOf a0) (fon_ne hE hF)) rfl (Nat.le_of_ble_eq_true rfl) (by decide) (by decide) (by decide) (by decide) (fun _ _ _ hf => False.elim hf) (fun r23 h23 n23 hp23 => ?_)
    obtain ⟨z23, s23, e23, rfl, rfl, rfl⟩ := hp23
    replace hE := fon_ok e23 hE
    refine aw_aload_n dX5_writeNumbers_26 rfl ?_
    refine aw_bipush (v := 32) dX5_writeNumbers_27 (by decide) ?_
    refine aw_callV dX5_writeNumbers_29 (at_row ho) cvX5_124 rfl (kF_X1_add m0 sh rr ww o s23 so sc pl qo pn bm tg px fa hb _ ho 32 (fon_ne hE hF)) rfl (Nat.le_of_ble_eq_true rfl) (by decide) (by decide) (by decide) (by decide) (fun _ _ _ hf => False.elim hf) (fun r29 h29 n29 hp29 => ?_)
    obtain ⟨z29, s29, e29, rfl, rfl, rfl⟩ := hp29
    replace hE := fon_ok e29 hE
    refine aw_aload_n dX5_writeNumbers_32 rfl ?_
    refine aw_iload_n dX5_writeNumbers_33 rfl ?_
    refine aw_callSN dX5_writeNumbers_34  csX5_160 rfl (kF_X10_blueOf _ _ a0) rfl (Nat.le_of_ble_eq_true rfl) (by decide) (by decide) (by decide) (by decide)  (fun r34 h34 n34 hp34 => ?_)
    obtain ⟨rfl, rfl, rfl⟩ := hp34
    refine aw_callV dX5_writeNumbers_37 (at_row ho) cvX5_129 rfl (kF_X1_addDecimal m0 sh rr ww o s29 so sc pl qo pn bm tg px fa hb _ ho (F_X10_blueOf a0) (fon_ne hE hF)) rfl (Nat.le_of_ble_eq_true rfl) (by decide) (by decide) (by decide) (by decide) (fun _ _ _ hf => False.elim hf) (fun r37 h37 n37 hp37 => ?_)
    obtain ⟨z37, s37, e37, rfl, rfl, rfl⟩ := hp37
    replace hE := fon_ok e37 hE
    exact aw_lv _ (List.forall_mem_cons.mpr ⟨rfl, fun _ h => absurd h List.not_mem_nil⟩) (b_X5_writeNumbers_40 m0 sh rr ww o so sc pl qo pn bm tg px fa hb n ho  s37 _ hE hF)
def P_X5_writeBytes (m0 : Mnt) (sh : Nat → Nat) (rr : Nat → Ras) (ww : Nat → Row) (o : Nat) (so : Nat) (sc : Src) (pl : Pal) (qo : Qoi) (pn : Pnm) (bm : Bmp) (tg : Tga) (px : Pcx) (fa : A) (hb : aH) (n : Nat) (res : Out Row Unit) : Option Value → aH → Nat → Prop := fun r1 h2 n2 => ∃ (a : Unit) (s : Row), res = fok a s ∧ r1 = none ∧ h2 = HC m0 sh rr (va_up ww o s) so sc pl qo pn bm tg px fa hb ∧ n = n2
def F_X5_writeBytes (a0 : Int32) (a1 : Int32) (y : Row) : Out Row Unit := fon (F_X1_add (F_X10_redOf a0) y) (fun z5 s5 => if a1 = 0 then (fok () s5) else (fon (F_X1_add (F_X10_greenOf a0) s5) (fun z17 s17 => fon (F_X1_add (F_X10_blueOf a0) s17) (fun z25 s25 => fok () s25) (fun _ _ => fno)) (fun _ _ => fno))) (fun _ _ => fno)
set_option maxHeartbeats 1000000 in
set_option maxRecDepth 100000 in
theorem kF_X5_writeBytes (m0 : Mnt) (sh : Nat → Nat) (rr : Nat → Ras) (ww : Nat → Row) (o : Nat) (y : Row) (so : Nat) (sc : Src) (pl : Pal) (qo : Qoi) (pn : Pnm) (bm : Bmp) (tg : Tga) (px : Pcx) (fa : A) (hb : aH) (n : Nat) (ho : isW o) (a0 : Int32) (a1 : Int32) (hF : F_X5_writeBytes a0 a1 y ≠ fno) : AM mX5_writeBytes 2 [.int a0, .int a1, .ref o] (HC m0 sh rr (va_up ww o y) so sc pl qo pn bm tg px fa hb) n 0 0 0 0 (P_X5_writeBytes m0 sh rr ww o so sc pl qo pn bm tg px fa hb n (F_X5_writeBytes a0 a1 y)) (fun _ _ _ => False) := by
  generalize hE : F_X5_writeBytes a0 a1 y = res at hF ⊢
  refine aw_of (by decide +kernel) rfl (Nat.le_of_ble_eq_true rfl) ?_
  unfold F_X5_writeBytes at hE
  refine aw_aload_n dX5_writeBytes_0 rfl ?_
  refine aw_iload_n dX5_writeBytes_1 rfl ?_
  refine aw_callSN dX5_writeBytes_2  csX5_154 rfl (kF_X10_redOf _ _ a0) rfl (Nat.le_of_ble_eq_true rfl) (by decide) (by decide) (by decide) (by decide)  (fun r2 h2 n2 hp2 => ?_)
  obtain ⟨rfl, rfl, rfl⟩ := hp2
  refine aw_callV dX5_writeBytes_5 (at_row ho) cvX5_124 rfl (kF_X1_add m0 sh rr ww o y so sc pl qo pn bm tg px fa hb _ ho (F_X10_redOf a0) (fon_ne hE hF)) rfl (Nat.le_of_ble_eq_true rfl) (by decide) (by decide) (by decide) (by decide) (fun _ _ _ hf => False.elim hf) (fun r5 h5 n5 hp5 => ?_)
  obtain ⟨z5, s5, e5, rfl, rfl, rfl⟩ := hp5
  replace hE := fon_ok e5 hE
  refine aw_iload_n dX5_writeBytes_8 rfl ?_
  refine aw_if_eq (tgt := 28) dX5_writeBytes_9 (by decide) (fun c9 => ?_) (fun c9 => ?_)
  · replace hE := fit hE c9
    exact aw_vret dX5_writeBytes_28 rfl (Nat.zero_le _) (Nat.zero_le _) (Nat.zero_le _) (Nat.zero_le _) ⟨_, _, hE.symm, rfl, rfl, rfl⟩
  · replace hE := fif hE c9
    refine aw_aload_n dX5_writeBytes_12 rfl ?_
    refine aw_iload_n dX5_writeBytes_13 rfl ?_
    refine aw_callSN dX5_writeBytes_14  csX5_157 rfl (kF_X10_greenOf _ _ a0) rfl (Nat.le_of_ble_eq_true rfl) (by decide) (by decide) (by decide) (by decide)  (fun r14 h14 n14 hp14 => ?_)
    obtain ⟨rfl, rfl, rfl⟩ := hp14
    refine aw_callV dX5_writeBytes_17 (at_row ho) cvX5_124 rfl (kF_X1_add m0 sh rr ww o s5 so sc pl qo pn bm tg px fa hb _ ho (F_X10_greenOf a0) (fon_ne hE hF)) rfl (Nat.le_of_ble_eq_true rfl) (by decide) (by decide) (by decide) (by decide) (fun _ _ _ hf => False.elim hf) (fun r17 h17 n17 hp17 => ?_)
    obtain ⟨z17, s17, e17, rfl, rfl, rfl⟩ := hp17
    replace hE := fon_ok e17 hE
    refine aw_aload_n dX5_writeBytes_20 rfl ?_
    refine aw_iload_n dX5_writeBytes_21 rfl ?_
    refine aw_callSN dX5_writeBytes_22  csX5_160 rfl (kF_X10_blueOf _ _ a0) rfl (Nat.le_of_ble_eq_true rfl) (by decide) (by decide) (by decide) (by decide)  (fun r22 h22 n22 hp22 => ?_)
    obtain ⟨rfl, rfl, rfl⟩ := hp22
    refine aw_callV dX5_writeBytes_25 (at_row ho) cvX5_124 rfl (kF_X1_add m0 sh rr ww o s17 so sc pl qo pn bm tg px fa hb _ ho (F_X10_blueOf a0) (fon_ne hE hF)) rfl (Nat.le_of_ble_eq_true rfl) (by decide) (by decide) (by decide) (by decide) (fun _ _ _ hf => False.elim hf) (fun r25 h25 n25 hp25 => ?_)
    obtain ⟨z25, s25, e25, rfl, rfl, rfl⟩ := hp25
    replace hE := fon_ok e25 hE
    exact aw_vret dX5_writeBytes_28 rfl (Nat.zero_le _) (Nat.zero_le _) (Nat.zero_le _) (Nat.zero_le _) ⟨_, _, hE.symm, rfl, rfl, rfl⟩
def P_X6_start (m0 : Mnt) (sh : Nat → Nat) (rr : Nat → Ras) (ww : Nat → Row) (so : Nat) (sc : Src) (pl : Pal) (pn : Pnm) (bm : Bmp) (tg : Tga) (px : Pcx) (fa : A) (hb : aH) (n : Nat) (res : Out Qoi Unit) : Option Value → aH → Nat → Prop := fun r1 h2 n2 => ∃ (a : Unit) (s : Qoi), res = fok a s ∧ r1 = none ∧ h2 = HC m0 sh rr ww so sc pl s pn bm tg px fa hb ∧ n = n2
def F_X6_start (qo : Qoi) : Out Qoi Unit := fok () ((qo_f1 qo), (qo_f2 qo), (qo_f3 qo), 255, (fillN (qo_pl qo) 64 0))
set_option maxHeartbeats 1000000 in
set_option maxRecDepth 100000 in
theorem kF_X6_start (m0 : Mnt) (sh : Nat → Nat) (rr : Nat → Ras) (ww : Nat → Row) (so : Nat) (sc : Src) (pl : Pal) (qo : Qoi) (pn : Pnm) (bm : Bmp) (tg : Tga) (px : Pcx) (fa : A) (hb : aH) (n : Nat)   (hF : F_X6_start qo ≠ fno) : AM mX6_start 2 [.ref 21] (HC m0 sh rr ww so sc pl qo pn bm tg px fa hb) n 0 0 0 0 (P_X6_start m0 sh rr ww so sc pl pn bm tg px fa hb n (F_X6_start qo)) (fun _ _ _ => False) := by
  generalize hE : F_X6_start qo = res at hF ⊢
  refine aw_of (by decide +kernel) rfl (Nat.le_of_ble_eq_true rfl) ?_
  unfold F_X6_start at hE
  refine aw_aload_n dX6_start_0 rfl ?_
  refine aw_sipush (v := 255) dX6_start_1 (by decide) ?_
  refine aw_putf dX6_start_4 ptX6_78_5 at_qoi (Nat.le_of_ble_eq_true rfl) ⟨rfl, rfl⟩ ?_
  refine aw_eqh (h2 := HC m0 sh rr ww so sc pl ((qo_f1 qo), (qo_f2 qo), (qo_f3 qo), 255, (qo_pl qo)) pn bm tg px fa hb) up_qoi ?_
  refine aw_aload_n dX6_start_7 rfl ?_
  refine aw_getf (v := .ref 22) dX6_start_8 flX6_9_5 at_qoi rfl ?_
  refine aw_iconst (v := 0) dX6_start_11 (by decide) ?_
  refine aw_callS dX6_start_12 csX6_108 rfl (kJ_fill _ _ 22 64 (qo_pl qo) 0 at_qoipl (by decide)) rfl (Nat.le_of_ble_eq_true rfl) (by decide) (by decide) (by decide) (by decide) (fun _ _ _ hf => False.elim hf) (fun r12 h12 n12 hp12 => ?_)
  obtain ⟨rfl, rfl, rfl⟩ := hp12
  refine aw_eqh (h2 := HC m0 sh rr ww so sc pl ((qo_f1 qo), (qo_f2 qo), (qo_f3 qo), 255, (fillN (qo_pl qo) 64 0)) pn bm tg px fa hb) up_qoipl ?_
  exact aw_vret dX6_start_15 rfl (Nat.zero_le _) (Nat.zero_le _) (Nat.zero_le _) (Nat.zero_le _) ⟨_, _, hE.symm, rfl, rfl, rfl⟩
def P_X6_runAt (m0 : Mnt) (sh : Nat → Nat) (rr : Nat → Ras) (r : Nat) (x : Ras) (ww : Nat → Row) (so : Nat) (sc : Src) (pl : Pal) (qo : Qoi) (pn : Pnm) (bm : Bmp) (tg : Tga) (px : Pcx) (fa : A) (hb : aH) (n : Nat) (res : Out Unit Int32) : Option Value → aH → Nat → Prop := fun r1 h2 n2 => ∃ (a : Int32) (s : Unit), res = fok a s ∧ r1 = some (.int a) ∧ h2 = HC m0 sh (va_up rr r x) ww so sc pl qo pn bm tg px fa hb ∧ n = n2
abbrev Q_X6_runAt_15 (m0 : Mnt) (sh : Nat → Nat) (rr : Nat → Ras) (r : Nat) (x : Ras) (ww : Nat → Row) (so : Nat) (sc : Src) (pl : Pal) (qo : Qoi) (pn : Pnm) (bm : Bmp) (tg : Tga) (px : Pcx) (fa : A) (hb : aH) (n : Nat) (k : Int32 → Int32 → Int32 → Out Unit Int32) : Prop := ∀ (v2 : Int32) (v3 : Int32) (v4 : Int32) (res : Out Unit Int32), k v2 v3 v4 = res → res ≠ fno → AW (fun _ _ => True) mX6_runAt (rmD 2 0 0) 0 0 (P_X6_runAt m0 sh rr r x ww so sc pl qo pn bm tg px fa hb n res) (fun _ _ _ => False) 0 0 15 [(0, .ref 21), (1, .ref r), (2, .int v2), (3, .int v3), (4, .int v4)] [] (HC m0 sh (va_up rr r x) ww so sc pl qo pn bm tg px fa hb) n
def F_X6_runAt_15 (x : Ras) (qo : Qoi) (k15 : Int32 → Int32 → Int32 → Out Unit Int32) (v2 : Int32) (v3 : Int32) (v4 : Int32) : Out Unit Int32 := if v3 ≤ v4 then (fok (v3 : Int32) ()) else (fon (F_X7_get (v2 + v4) x) (fun z26 s26 => if z26 = (qo_last qo) then (k15 v2 v3 (v4 + 1)) else (fok (v4 : Int32) ())) (fun _ _ => fno))
set_option maxHeartbeats 1000000 in
set_option maxRecDepth 100000 in
theorem b_X6_runAt_15 (m0 : Mnt) (sh : Nat → Nat) (rr : Nat → Ras) (r : Nat) (x : Ras) (ww : Nat → Row) (so : Nat) (sc : Src) (pl : Pal) (qo : Qoi) (pn : Pnm) (bm : Bmp) (tg : Tga) (px : Pcx) (fa : A) (hb : aH) (n : Nat) (hr : isR r) (k15 : Int32 → Int32 → Int32 → Out Unit Int32) (hk15 : Q_X6_runAt_15 m0 sh rr r x ww so sc pl qo pn bm tg px fa hb n k15) : Q_X6_runAt_15 m0 sh rr r x ww so sc pl qo pn bm tg px fa hb n (F_X6_runAt_15 x qo k15) := by
  intro v2 v3 v4 res hE hF
  unfold F_X6_runAt_15 at hE
  refine aw_iload dX6_runAt_15 rfl ?_
  refine aw_iload_n dX6_runAt_17 rfl ?_
  refine aw_icmp_ge (tgt := 45) dX6_runAt_18 (by decide) (fun c18 => ?_) (fun c18 => ?_)
  · replace hE := fit hE c18
    refine aw_iload_n dX6_runAt_45 rfl ?_
    exact aw_iret dX6_runAt_46 rfl (Nat.zero_le _) (Nat.zero_le _) (Nat.zero_le _) (Nat.zero_le _) ⟨_, _, hE.symm, rfl, rfl, rfl⟩
  · replace hE := fif hE c18
    refine aw_aload_n dX6_runAt_21 rfl ?_
    refine aw_iload_n dX6_runAt_22 rfl ?_
    refine aw_iload dX6_runAt_23 rfl ?_
    refine aw_iadd dX6_runAt_25 ?_
    refine aw_callV dX6_runAt_26 (at_ras hr) cvX6_146 rfl (kF_X7_get m0 sh rr r x ww so sc pl qo pn bm tg px fa hb _ hr (v2 + v4) (fon_ne hE hF)) rfl (Nat.le_of_ble_eq_true rfl) (by decide) (by decide) (by decide) (by decide) (fun _ _ _ hf => False.elim hf) (fun r26 h26 n26 hp26 => ?_)
    obtain ⟨z26, s26, e26, rfl, rfl, rfl⟩ := hp26
    replace hE := fon_ok e26 hE
    refine aw_aload_n dX6_runAt_29 rfl ?_
    refine aw_getf (v := .int (qo_last qo)) dX6_runAt_30 flX6_78_5 at_qoi rfl ?_
    refine aw_icmp_eq (tgt := 39) dX6_runAt_33 (by decide) (fun c33 => ?_) (fun c33 => ?_)
    · replace hE := fit hE c33
      refine aw_iinc (v := (v4 + 1)) (lv2 := [(4, _), (0, _), (1, _), (2, _), (3, _)]) dX6_runAt_39 rfl (incE (by decide)) (by decide) rfl ?_
      refine aw_goto (tgt := 15) dX6_runAt_42 (by decide) ?_
      exact aw_lv _ (List.forall_mem_cons.mpr ⟨rfl, (List.forall_mem_cons.mpr ⟨rfl, (List.forall_mem_cons.mpr ⟨rfl, (List.forall_mem_cons.mpr ⟨rfl, (List.forall_mem_cons.mpr ⟨rfl, fun _ h => absurd h List.not_mem_nil⟩)⟩)⟩)⟩)⟩) (hk15 v2 v3 (v4 + 1) _ hE hF)
    · replace hE := fif hE c33
      refine aw_iload dX6_runAt_36 rfl ?_
      exact aw_iret dX6_runAt_38 rfl (Nat.zero_le _) (Nat.zero_le _) (Nat.zero_le _) (Nat.zero_le _) ⟨_, _, hE.symm, rfl, rfl, rfl⟩
def F_X6_runAt (a2 : Int32) (x : Ras) (qo : Qoi) : Out Unit Int32 := fon (F_X7_count x) (fun z3 s3 => lp (fun _ _ _ => fno) (F_X6_runAt_15 x qo) FU a2 (iMin 62 (z3 - a2)) (0 : Int32)) (fun _ _ => fno)
set_option maxHeartbeats 1000000 in
set_option maxRecDepth 100000 in
theorem kF_X6_runAt (m0 : Mnt) (sh : Nat → Nat) (rr : Nat → Ras) (r : Nat) (x : Ras) (ww : Nat → Row) (so : Nat) (sc : Src) (pl : Pal) (qo : Qoi) (pn : Pnm) (bm : Bmp) (tg : Tga) (px : Pcx) (fa : A) (hb : aH) (n : Nat) (hr : isR r) (a2 : Int32) (hF : F_X6_runAt a2 x qo ≠ fno) : AM mX6_runAt 2 [.ref 21, .ref r, .int a2] (HC m0 sh (va_up rr r x) ww so sc pl qo pn bm tg px fa hb) n 0 0 0 0 (P_X6_runAt m0 sh rr r x ww so sc pl qo pn bm tg px fa hb n (F_X6_runAt a2 x qo)) (fun _ _ _ => False) := by
  generalize hE : F_X6_runAt a2 x qo = res at hF ⊢
  refine aw_of (by decide +kernel) rfl (Nat.le_of_ble_eq_true rfl) ?_
  unfold F_X6_runAt at hE
  refine aw_bipush (v := 62) dX6_runAt_0 (by decide) ?_
  refine aw_aload_n dX6_runAt_2 rfl ?_
  refine aw_callV dX6_runAt_3 (at_ras hr) cvX6_69 rfl (kF_X7_count m0 sh rr r x ww so sc pl qo pn bm tg px fa hb _ hr  (fon_ne hE hF)) rfl (Nat.le_of_ble_eq_true rfl) (by decide) (by decide) (by decide) (by decide) (fun _ _ _ hf => False.elim hf) (fun r3 h3 n3 hp3 => ?_)
  obtain ⟨z3, s3, e3, rfl, rfl, rfl⟩ := hp3
  replace hE := fon_ok e3 hE
  refine aw_iload_n dX6_runAt_6 rfl ?_
  refine aw_isub dX6_runAt_7 ?_
  refine aw_mmin dX6_runAt_8 csX6_159.1.1 csX6_159.2 csX6_159.1.2.1 csX6_159.1.2.2.1 (by decide) (Nat.le_of_ble_eq_true rfl) (Nat.zero_le _) (Nat.zero_le _) ?_
  refine aw_istore_n (lv2 := [(3, _), (0, _), (1, _), (2, _)]) dX6_runAt_11 (by decide) rfl ?_
  refine aw_iconst (v := 0) dX6_runAt_12 (by decide) ?_
  refine aw_istore (lv2 := [(4, _), (3, _), (0, _), (1, _), (2, _)]) dX6_runAt_13 (by decide) rfl ?_
  exact aw_lv _ (List.forall_mem_cons.mpr ⟨rfl, (List.forall_mem_cons.mpr ⟨rfl, (List.forall_mem_cons.mpr ⟨rfl, (List.forall_mem_cons.mpr ⟨rfl, (List.forall_mem_cons.mpr ⟨rfl, fun _ h => absurd h List.not_mem_nil⟩)⟩)⟩)⟩)⟩) (lp_ind (Q_X6_runAt_15 m0 sh rr r x ww so sc pl qo pn bm tg px fa hb n) (fun _ _ _ res hq hF => (hF hq.symm).elim) (fun k hk => b_X6_runAt_15 m0 sh rr r x ww so sc pl qo pn bm tg px fa hb n hr  k hk) FU a2 (iMin 62 (z3 - a2)) (0 : Int32) _ hE hF)
def F_X6_homeOf (a0 : Int32) : Int32 := ((((((3 * (F_X10_redOf a0)) + (5 * (F_X10_greenOf a0))) + (7 * (F_X10_blueOf a0))) + (11 * (F_X10_alphaOf a0))) &&& 63) : Int32)
set_option maxRecDepth 100000 in
theorem kF_X6_homeOf (h : aH) (n : Nat) (a0 : Int32) : AM mX6_homeOf 2 [.int a0] h n 0 0 0 0 (isV (.int (F_X6_homeOf a0)) h n) noX := by
  generalize hE : F_X6_homeOf a0 = res
  refine aw_of (by decide +kernel) rfl (Nat.le_of_ble_eq_true rfl) ?_
  unfold F_X6_homeOf at hE
  refine aw_iconst (v := 3) dX6_homeOf_0 (by decide) ?_
  refine aw_iload_n dX6_homeOf_1 rfl ?_
  refine aw_callSN dX6_homeOf_2  csX6_99 rfl (kF_X10_redOf _ _ a0) rfl (Nat.le_of_ble_eq_true rfl) (by decide) (by decide) (by decide) (by decide)  (fun r2 h2 n2 hp2 => ?_)
  obtain ⟨rfl, rfl, rfl⟩ := hp2
  refine aw_imul dX6_homeOf_5 ?_
  refine aw_iconst (v := 5) dX6_homeOf_6 (by decide) ?_
  refine aw_iload_n dX6_homeOf_7 rfl ?_
  refine aw_callSN dX6_homeOf_8  csX6_102 rfl (kF_X10_greenOf _ _ a0) rfl (Nat.le_of_ble_eq_true rfl) (by decide) (by decide) (by decide) (by decide)  (fun r8 h8 n8 hp8 => ?_)
  obtain ⟨rfl, rfl, rfl⟩ := hp8
  refine aw_imul dX6_homeOf_11 ?_
  refine aw_iadd dX6_homeOf_12 ?_
  refine aw_bipush (v := 7) dX6_homeOf_13 (by decide) ?_
  refine aw_iload_n dX6_homeOf_15 rfl ?_
  refine aw_callSN dX6_homeOf_16  csX6_105 rfl (kF_X10_blueOf _ _ a0) rfl (Nat.le_of_ble_eq_true rfl) (by decide) (by decide) (by decide) (by decide)  (fun r16 h16 n16 hp16 => ?_)
  obtain ⟨rfl, rfl, rfl⟩ := hp16
  refine aw_imul dX6_homeOf_19 ?_
  refine aw_iadd dX6_homeOf_20 ?_
  refine aw_bipush (v := 11) dX6_homeOf_21 (by decide) ?_
  refine aw_iload_n dX6_homeOf_23 rfl ?_
  refine aw_callSN dX6_homeOf_24  csX6_91 rfl (kF_X10_alphaOf _ _ a0) rfl (Nat.le_of_ble_eq_true rfl) (by decide) (by decide) (by decide) (by decide)  (fun r24 h24 n24 hp24 => ?_)
  obtain ⟨rfl, rfl, rfl⟩ := hp24
  refine aw_imul dX6_homeOf_27 ?_
  refine aw_iadd dX6_homeOf_28 ?_
  refine aw_bipush (v := 63) dX6_homeOf_29 (by decide) ?_
  refine aw_iand dX6_homeOf_31 ?_
  exact aw_iret dX6_homeOf_32 rfl (Nat.zero_le _) (Nat.zero_le _) (Nat.zero_le _) (Nat.zero_le _) ⟨by subst hE; rfl, rfl, rfl⟩
def F_X6_isWithin (a0 : Int32) (a1 : Int32) : Int32 := if a0 < (-a1) then ((0 : Int32)) else (if a1 ≤ a0 then ((0 : Int32)) else ((1 : Int32)))
set_option maxRecDepth 100000 in
theorem kF_X6_isWithin (h : aH) (n : Nat) (a0 : Int32) (a1 : Int32) : AM mX6_isWithin 1 [.int a0, .int a1] h n 0 0 0 0 (isV (.int (F_X6_isWithin a0 a1)) h n) noX := by
  generalize hE : F_X6_isWithin a0 a1 = res
  refine aw_of (by decide +kernel) rfl (Nat.le_of_ble_eq_true rfl) ?_
  unfold F_X6_isWithin at hE
  refine aw_iload_n dX6_isWithin_0 rfl ?_
  refine aw_iload_n dX6_isWithin_1 rfl ?_
  refine aw_ineg dX6_isWithin_2 ?_
  refine aw_icmp_lt (tgt := 15) dX6_isWithin_3 (by decide) (fun c3 => ?_) (fun c3 => ?_)
  · replace hE := fit hE c3
    refine aw_iconst (v := 0) dX6_isWithin_15 (by decide) ?_
    exact aw_zret dX6_isWithin_16 rfl (narB (by decide)) (Nat.zero_le _) (Nat.zero_le _) (Nat.zero_le _) (Nat.zero_le _) ⟨by subst hE; rfl, rfl, rfl⟩
  · replace hE := fif hE c3
    refine aw_iload_n dX6_isWithin_6 rfl ?_
    refine aw_iload_n dX6_isWithin_7 rfl ?_
    refine aw_icmp_ge (tgt := 15) dX6_isWithin_8 (by decide) (fun c8 => ?_) (fun c8 => ?_)
    · replace hE := fit hE c8
      refine aw_iconst (v := 0) dX6_isWithin_15 (by decide) ?_
      exact aw_zret dX6_isWithin_16 rfl (narB (by decide)) (Nat.zero_le _) (Nat.zero_le _) (Nat.zero_le _) (Nat.zero_le _) ⟨by subst hE; rfl, rfl, rfl⟩
    · replace hE := fif hE c8
      refine aw_iconst (v := 1) dX6_isWithin_11 (by decide) ?_
      refine aw_goto (tgt := 16) dX6_isWithin_12 (by decide) ?_
      exact aw_zret dX6_isWithin_16 rfl (narB (by decide)) (Nat.zero_le _) (Nat.zero_le _) (Nat.zero_le _) (Nat.zero_le _) ⟨by subst hE; rfl, rfl, rfl⟩
def P_X6_keep (m0 : Mnt) (sh : Nat → Nat) (rr : Nat → Ras) (ww : Nat → Row) (so : Nat) (sc : Src) (pl : Pal) (pn : Pnm) (bm : Bmp) (tg : Tga) (px : Pcx) (fa : A) (hb : aH) (n : Nat) (res : Out Qoi Unit) : Option Value → aH → Nat → Prop := fun r1 h2 n2 => ∃ (a : Unit) (s : Qoi), res = fok a s ∧ r1 = none ∧ h2 = HC m0 sh rr ww so sc pl s pn bm tg px fa hb ∧ n = n2
def F_X6_keep (qo : Qoi) : Out Qoi Unit := if inb (F_X6_homeOf (qo_last qo)) 64 then (fok () ((qo_f1 qo), (qo_f2 qo), (qo_f3 qo), (qo_last qo), (upd (qo_pl qo) (Int32.toNatClampNeg (F_X6_homeOf (qo_last qo))) (qo_last qo)))) else fno
set_option maxHeartbeats 1000000 in
set_option maxRecDepth 100000 in
theorem kF_X6_keep (m0 : Mnt) (sh : Nat → Nat) (rr : Nat → Ras) (ww : Nat → Row) (so : Nat) (sc : Src) (pl : Pal) (qo : Qoi) (pn : Pnm) (bm : Bmp) (tg : Tga) (px : Pcx) (fa : A) (hb : aH) (n : Nat)   (hF : F_X6_keep qo ≠ fno) : AM mX6_keep 3 [.ref 21] (HC m0 sh rr ww so sc pl qo pn bm tg px fa hb) n 0 0 0 0 (P_X6_keep m0 sh rr ww so sc pl pn bm tg px fa hb n (F_X6_keep qo)) (fun _ _ _ => False) := by
  generalize hE : F_X6_keep qo = res at hF ⊢
  refine aw_of (by decide +kernel) rfl (Nat.le_of_ble_eq_true rfl) ?_
  unfold F_X6_keep at hE
  refine aw_aload_n dX6_keep_0 rfl ?_
  refine aw_getf (v := .ref 22) dX6_keep_1 flX6_9_5 at_qoi rfl ?_
  refine aw_aload_n dX6_keep_4 rfl ?_
  refine aw_getf (v := .int (qo_last qo)) dX6_keep_5 flX6_78_5 at_qoi rfl ?_
  refine aw_callS dX6_keep_8  csX6_114 rfl (kF_X6_homeOf _ _ (qo_last qo)) rfl (Nat.le_of_ble_eq_true rfl) (by decide) (by decide) (by decide) (by decide) (fun _ _ _ hf => False.elim hf) (fun r8 h8 n8 hp8 => ?_)
  obtain ⟨rfl, rfl, rfl⟩ := hp8
  refine aw_aload_n dX6_keep_11 rfl ?_
  refine aw_getf (v := .int (qo_last qo)) dX6_keep_12 flX6_78_5 at_qoi rfl ?_
  obtain ⟨g15, hE⟩ := fgd hE hF
  refine aw_iast (f := (qo_pl qo)) dX6_keep_15 at_qoipl (vp_in_iff.mpr g15) ?_
  refine aw_eqh (h2 := HC m0 sh rr ww so sc pl ((qo_f1 qo), (qo_f2 qo), (qo_f3 qo), (qo_last qo), (upd (qo_pl qo) (Int32.toNatClampNeg (F_X6_homeOf (qo_last qo))) (qo_last qo))) pn bm tg px fa hb) up_qoipl ?_
  exact aw_vret dX6_keep_16 rfl (Nat.zero_le _) (Nat.zero_le _) (Nat.zero_le _) (Nat.zero_le _) ⟨_, _, hE.symm, rfl, rfl, rfl⟩
def F_X9_kindOf (a0 : Int32) : Int32 := if a0 < 14 then (if a0 < 12 then ((2 : Int32)) else ((3 : Int32))) else ((1 : Int32))
set_option maxRecDepth 100000 in
theorem kF_X9_kindOf (h : aH) (n : Nat) (a0 : Int32) : AM mX9_kindOf 1 [.int a0] h n 0 0 0 0 (isV (.int (F_X9_kindOf a0)) h n) noX := by
  generalize hE : F_X9_kindOf a0 = res
  refine aw_of (by decide +kernel) rfl (Nat.le_of_ble_eq_true rfl) ?_
  unfold F_X9_kindOf at hE
  refine aw_iload_n dX9_kindOf_0 rfl ?_
  refine aw_bipush (v := 14) dX9_kindOf_1 (by decide) ?_
  refine aw_icmp_lt (tgt := 8) dX9_kindOf_3 (by decide) (fun c3 => ?_) (fun c3 => ?_)
  · replace hE := fit hE c3
    refine aw_iload_n dX9_kindOf_8 rfl ?_
    refine aw_bipush (v := 12) dX9_kindOf_9 (by decide) ?_
    refine aw_icmp_lt (tgt := 18) dX9_kindOf_11 (by decide) (fun c11 => ?_) (fun c11 => ?_)
    · replace hE := fit hE c11
      refine aw_iconst (v := 2) dX9_kindOf_18 (by decide) ?_
      exact aw_iret dX9_kindOf_19 rfl (Nat.zero_le _) (Nat.zero_le _) (Nat.zero_le _) (Nat.zero_le _) ⟨by subst hE; rfl, rfl, rfl⟩
    · replace hE := fif hE c11
      refine aw_iconst (v := 3) dX9_kindOf_14 (by decide) ?_
      refine aw_goto (tgt := 19) dX9_kindOf_15 (by decide) ?_
      exact aw_iret dX9_kindOf_19 rfl (Nat.zero_le _) (Nat.zero_le _) (Nat.zero_le _) (Nat.zero_le _) ⟨by subst hE; rfl, rfl, rfl⟩
  · replace hE := fif hE c3
    refine aw_iconst (v := 1) dX9_kindOf_6 (by decide) ?_
    exact aw_iret dX9_kindOf_7 rfl (Nat.zero_le _) (Nat.zero_le _) (Nat.zero_le _) (Nat.zero_le _) ⟨by subst hE; rfl, rfl, rfl⟩
def P_X9_writeColour (m0 : Mnt) (sh : Nat → Nat) (rr : Nat → Ras) (ww : Nat → Row) (o : Nat) (so : Nat) (sc : Src) (pl : Pal) (qo : Qoi) (pn : Pnm) (bm : Bmp) (tg : Tga) (px : Pcx) (fa : A) (hb : aH) (n : Nat) (res : Out Row Unit) : Option Value → aH → Nat → Prop := fun r1 h2 n2 => ∃ (a : Unit) (s : Row), res = fok a s ∧ r1 = none ∧ h2 = HC m0 sh rr (va_up ww o s) so sc pl qo pn bm tg px fa hb ∧ n = n2
def F_X9_writeColour (a0 : Int32) (a1 : Int32) (y : Row) : Out Row Unit := fon (F_X1_add (F_X10_blueOf a0) y) (fun z5 s5 => fon (F_X1_add (F_X10_greenOf a0) s5) (fun z13 s13 => fon (F_X1_add (F_X10_redOf a0) s13) (fun z21 s21 => if a1 = 32 then (fon (F_X1_add (F_X10_alphaOf a0) s21) (fun z35 s35 => fok () s35) (fun _ _ => fno)) else (fok () s21)) (fun _ _ => fno)) (fun _ _ => fno)) (fun _ _ => fno)
set_option maxHeartbeats 1000000 in
set_option maxRecDepth 100000 in
theorem kF_X9_writeColour (m0 : Mnt) (sh : Nat → Nat) (rr : Nat → Ras) (ww : Nat → Row) (o : Nat) (y : Row) (so : Nat) (sc : Src) (pl : Pal) (qo : Qoi) (pn : Pnm) (bm : Bmp) (tg : Tga) (px : Pcx) (fa : A) (hb : aH) (n : Nat) (ho : isW o) (a0 : Int32) (a1 : Int32) (hF : F_X9_writeColour a0 a1 y ≠ fno) : AM mX9_writeColour 2 [.int a0, .int a1, .ref o] (HC m0 sh rr (va_up ww o y) so sc pl qo pn bm tg px fa hb) n 0 0 0 0 (P_X9_writeColour m0 sh rr ww o so sc pl qo pn bm tg px fa hb n (F_X9_writeColour a0 a1 y)) (fun _ _ _ => False) := by
  generalize hE : F_X9_writeColour a0 a1 y = res at hF ⊢
  refine aw_of (by decide +kernel) rfl (Nat.le_of_ble_eq_true rfl) ?_
  unfold F_X9_writeColour at hE
  refine aw_aload_n dX9_writeColour_0 rfl ?_
  refine aw_iload_n dX9_writeColour_1 rfl ?_
  refine aw_callSN dX9_writeColour_2  csX9_215 rfl (kF_X10_blueOf _ _ a0) rfl (Nat.le_of_ble_eq_true rfl) (by decide) (by decide) (by decide) (by decide)  (fun r2 h2 n2 hp2 => ?_)
  obtain ⟨rfl, rfl, rfl⟩ := hp2
  refine aw_callV dX9_writeColour_5 (at_row ho) cvX9_189 rfl (kF_X1_add m0 sh rr ww o y so sc pl qo pn bm tg px fa hb _ ho (F_X10_blueOf a0) (fon_ne hE hF)) rfl (Nat.le_of_ble_eq_true rfl) (by decide) (by decide) (by decide) (by decide) (fun _ _ _ hf => False.elim hf) (fun r5 h5 n5 hp5 => ?_)
  obtain ⟨z5, s5, e5, rfl, rfl, rfl⟩ := hp5
  replace hE := fon_ok e5 hE
  refine aw_aload_n dX9_writeColour_8 rfl ?_
  refine aw_iload_n dX9_writeColour_9 rfl ?_
  refine aw_callSN dX9_writeColour_10  csX9_218 rfl (kF_X10_greenOf _ _ a0) rfl (Nat.le_of_ble_eq_true rfl) (by decide) (by decide) (by decide) (by decide)  (fun r10 h10 n10 hp10 => ?_)
  obtain ⟨rfl, rfl, rfl⟩ := hp10
  refine aw_callV dX9_writeColour_13 (at_row ho) cvX9_189 rfl (kF_X1_add m0 sh rr ww o s5 so sc pl qo pn bm tg px fa hb _ ho (F_X10_greenOf a0) (fon_ne hE hF)) rfl (Nat.le_of_ble_eq_true rfl) (by decide) (by decide) (by decide) (by decide) (fun _ _ _ hf => False.elim hf) (fun r13 h13 n13 hp13 => ?_)
  obtain ⟨z13, s13, e13, rfl, rfl, rfl⟩ := hp13
  replace hE := fon_ok e13 hE
  refine aw_aload_n dX9_writeColour_16 rfl ?_
  refine aw_iload_n dX9_writeColour_17 rfl ?_
  refine aw_callSN dX9_writeColour_18  csX9_221 rfl (kF_X10_redOf _ _ a0) rfl (Nat.le_of_ble_eq_true rfl) (by decide) (by decide) (by decide) (by decide)  (fun r18 h18 n18 hp18 => ?_)
  obtain ⟨rfl, rfl, rfl⟩ := hp18
  refine aw_callV dX9_writeColour_21 (at_row ho) cvX9_189 rfl (kF_X1_add m0 sh rr ww o s13 so sc pl qo pn bm tg px fa hb _ ho (F_X10_redOf a0) (fon_ne hE hF)) rfl (Nat.le_of_ble_eq_true rfl) (by decide) (by decide) (by decide) (by decide) (fun _ _ _ hf => False.elim hf) (fun r21 h21 n21 hp21 => ?_)
  obtain ⟨z21, s21, e21, rfl, rfl, rfl⟩ := hp21
  replace hE := fon_ok e21 hE
  refine aw_iload_n dX9_writeColour_24 rfl ?_
  refine aw_bipush (v := 32) dX9_writeColour_25 (by decide) ?_
  refine aw_icmp_ne (tgt := 38) dX9_writeColour_27 (by decide) (fun c27 => ?_) (fun c27 => ?_)
  · replace hE := fif hE c27
    exact aw_vret dX9_writeColour_38 rfl (Nat.zero_le _) (Nat.zero_le _) (Nat.zero_le _) (Nat.zero_le _) ⟨_, _, hE.symm, rfl, rfl, rfl⟩
  · replace hE := fit hE c27
    refine aw_aload_n dX9_writeColour_30 rfl ?_
    refine aw_iload_n dX9_writeColour_31 rfl ?_
    refine aw_callSN dX9_writeColour_32  csX9_224 rfl (kF_X10_alphaOf _ _ a0) rfl (Nat.le_of_ble_eq_true rfl) (by decide) (by decide) (by decide) (by decide)  (fun r32 h32 n32 hp32 => ?_)
    obtain ⟨rfl, rfl, rfl⟩ := hp32
    refine aw_callV dX9_writeColour_35 (at_row ho) cvX9_189 rfl (kF_X1_add m0 sh rr ww o s21 so sc pl qo pn bm tg px fa hb _ ho (F_X10_alphaOf a0) (fon_ne hE hF)) rfl (Nat.le_of_ble_eq_true rfl) (by decide) (by decide) (by decide) (by decide) (fun _ _ _ hf => False.elim hf) (fun r35 h35 n35 hp35 => ?_)
    obtain ⟨z35, s35, e35, rfl, rfl, rfl⟩ := hp35
    replace hE := fon_ok e35 hE
    exact aw_vret dX9_writeColour_38 rfl (Nat.zero_le _) (Nat.zero_le _) (Nat.zero_le _) (Nat.zero_le _) ⟨_, _, hE.symm, rfl, rfl, rfl⟩
def P_X9_isLikeNext (m0 : Mnt) (sh : Nat → Nat) (rr : Nat → Ras) (r : Nat) (x : Ras) (ww : Nat → Row) (so : Nat) (sc : Src) (pl : Pal) (qo : Qoi) (pn : Pnm) (bm : Bmp) (tg : Tga) (px : Pcx) (fa : A) (hb : aH) (n : Nat) (res : Out Unit Int32) : Option Value → aH → Nat → Prop := fun r1 h2 n2 => ∃ (a : Int32) (s : Unit), res = fok a s ∧ r1 = some (.int a) ∧ h2 = HC m0 sh (va_up rr r x) ww so sc pl qo pn bm tg px fa hb ∧ n = n2
abbrev Q_X9_isLikeNext_38 (m0 : Mnt) (sh : Nat → Nat) (rr : Nat → Ras) (r : Nat) (x : Ras) (ww : Nat → Row) (so : Nat) (sc : Src) (pl : Pal) (qo : Qoi) (pn : Pnm) (bm : Bmp) (tg : Tga) (px : Pcx) (fa : A) (hb : aH) (n : Nat) (k : Out Unit Int32) : Prop := ∀  (res : Out Unit Int32), k  = res → res ≠ fno → AW (fun _ _ => True) mX9_isLikeNext (rmD 2 0 0) 0 0 (P_X9_isLikeNext m0 sh rr r x ww so sc pl qo pn bm tg px fa hb n res) (fun _ _ _ => False) 0 0 38 [] [] (HC m0 sh (va_up rr r x) ww so sc pl qo pn bm tg px fa hb) n
def F_X9_isLikeNext_38 (x : Ras)   : Out Unit Int32 := fok (0 : Int32) ()
set_option maxHeartbeats 1000000 in
set_option maxRecDepth 100000 in
theorem b_X9_isLikeNext_38 (m0 : Mnt) (sh : Nat → Nat) (rr : Nat → Ras) (r : Nat) (x : Ras) (ww : Nat → Row) (so : Nat) (sc : Src) (pl : Pal) (qo : Qoi) (pn : Pnm) (bm : Bmp) (tg : Tga) (px : Pcx) (fa : A) (hb : aH) (n : Nat) (hr : isR r)  : Q_X9_isLikeNext_38 m0 sh rr r x ww so sc pl qo pn bm tg px fa hb n (F_X9_isLikeNext_38 x) := by
  intro res hE hF
  unfold F_X9_isLikeNext_38 at hE
  refine aw_iconst (v := 0) dX9_isLikeNext_38 (by decide) ?_
  exact aw_zret dX9_isLikeNext_39 rfl (narB (by decide)) (Nat.zero_le _) (Nat.zero_le _) (Nat.zero_le _) (Nat.zero_le _) ⟨_, _, hE.symm, rfl, rfl, rfl⟩
def F_X9_isLikeNext (a1 : Int32) (a2 : Int32) (x : Ras) : Out Unit Int32 := if (x_w x) ≤ (a2 + 1) then (F_X9_isLikeNext_38 x ) else (fon (F_X7_get ((a1 * (x_w x)) + a2) x) (fun z21 s21 => fon (F_X7_get (((a1 * (x_w x)) + a2) + 1) x) (fun z28 s28 => if z21 = z28 then (fok (1 : Int32) ()) else (F_X9_isLikeNext_38 x )) (fun _ _ => fno)) (fun _ _ => fno))
set_option maxHeartbeats 1000000 in
set_option maxRecDepth 100000 in
theorem kF_X9_isLikeNext (m0 : Mnt) (sh : Nat → Nat) (rr : Nat → Ras) (r : Nat) (x : Ras) (ww : Nat → Row) (so : Nat) (sc : Src) (pl : Pal) (qo : Qoi) (pn : Pnm) (bm : Bmp) (tg : Tga) (px : Pcx) (fa : A) (hb : aH) (n : Nat) (hr : isR r) (a1 : Int32) (a2 : Int32) (hF : F_X9_isLikeNext a1 a2 x ≠ fno) : AM mX9_isLikeNext 2 [.ref r, .int a1, .int a2] (HC m0 sh (va_up rr r x) ww so sc pl qo pn bm tg px fa hb) n 0 0 0 0 (P_X9_isLikeNext m0 sh rr r x ww so sc pl qo pn bm tg px fa hb n (F_X9_isLikeNext a1 a2 x)) (fun _ _ _ => False) := by
  generalize hE : F_X9_isLikeNext a1 a2 x = res at hF ⊢
  refine aw_of (by decide +kernel) rfl (Nat.le_of_ble_eq_true rfl) ?_
  unfold F_X9_isLikeNext at hE
  refine aw_iload_n dX9_isLikeNext_0 rfl ?_
  refine aw_aload_n dX9_isLikeNext_1 rfl ?_
  refine aw_getf (v := .int (x_w x)) dX9_isLikeNext_2 flX9_126_6 (at_ras hr) rfl ?_
  refine aw_imul dX9_isLikeNext_5 ?_
  refine aw_iload_n dX9_isLikeNext_6 rfl ?_
  refine aw_iadd dX9_isLikeNext_7 ?_
  refine aw_istore_n (lv2 := [(3, _), (0, _), (1, _), (2, _)]) dX9_isLikeNext_8 (by decide) rfl ?_
  refine aw_iload_n dX9_isLikeNext_9 rfl ?_
  refine aw_iconst (v := 1) dX9_isLikeNext_10 (by decide) ?_
  refine aw_iadd dX9_isLikeNext_11 ?_
  refine aw_aload_n dX9_isLikeNext_12 rfl ?_
  refine aw_getf (v := .int (x_w x)) dX9_isLikeNext_13 flX9_126_6 (at_ras hr) rfl ?_
  refine aw_icmp_ge (tgt := 38) dX9_isLikeNext_16 (by decide) (fun c16 => ?_) (fun c16 => ?_)
  · replace hE := fit hE c16
    exact aw_lv _ (fun _ h => absurd h List.not_mem_nil) (b_X9_isLikeNext_38 m0 sh rr r x ww so sc pl qo pn bm tg px fa hb n hr   _ hE hF)
  · replace hE := fif hE c16
    refine aw_aload_n dX9_isLikeNext_19 rfl ?_
    refine aw_iload_n dX9_isLikeNext_20 rfl ?_
    refine aw_callV dX9_isLikeNext_21 (at_ras hr) cvX9_227 rfl (kF_X7_get m0 sh rr r x ww so sc pl qo pn bm tg px fa hb _ hr ((a1 * (x_w x)) + a2) (fon_ne hE hF)) rfl (Nat.le_of_ble_eq_true rfl) (by decide) (by decide) (by decide) (by decide) (fun _ _ _ hf => False.elim hf) (fun r21 h21 n21 hp21 => ?_)
    obtain ⟨z21, s21, e21, rfl, rfl, rfl⟩ := hp21
    replace hE := fon_ok e21 hE
    refine aw_aload_n dX9_isLikeNext_24 rfl ?_
    refine aw_iload_n dX9_isLikeNext_25 rfl ?_
    refine aw_iconst (v := 1) dX9_isLikeNext_26 (by decide) ?_
    refine aw_iadd dX9_isLikeNext_27 ?_
    refine aw_callV dX9_isLikeNext_28 (at_ras hr) cvX9_227 rfl (kF_X7_get m0 sh rr r x ww so sc pl qo pn bm tg px fa hb _ hr (((a1 * (x_w x)) + a2) + 1) (fon_ne hE hF)) rfl (Nat.le_of_ble_eq_true rfl) (by decide) (by decide) (by decide) (by decide) (fun _ _ _ hf => False.elim hf) (fun r28 h28 n28 hp28 => ?_)
    obtain ⟨z28, s28, e28, rfl, rfl, rfl⟩ := hp28
    replace hE := fon_ok e28 hE
    refine aw_icmp_ne (tgt := 38) dX9_isLikeNext_31 (by decide) (fun c31 => ?_) (fun c31 => ?_)
    · replace hE := fif hE c31
      exact aw_lv _ (fun _ h => absurd h List.not_mem_nil) (b_X9_isLikeNext_38 m0 sh rr r x ww so sc pl qo pn bm tg px fa hb n hr   _ hE hF)
    · replace hE := fit hE c31
      refine aw_iconst (v := 1) dX9_isLikeNext_34 (by decide) ?_
      refine aw_goto (tgt := 39) dX9_isLikeNext_35 (by decide) ?_
      exact aw_zret dX9_isLikeNext_39 rfl (narB (by decide)) (Nat.zero_le _) (Nat.zero_le _) (Nat.zero_le _) (Nat.zero_le _) ⟨_, _, hE.symm, rfl, rfl, rfl⟩
