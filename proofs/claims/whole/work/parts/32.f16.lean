def P_X5_writeSamples (m0 : Mnt) (sh : Nat → Nat) (rr : Nat → Ras) (r : Nat) (x : Ras) (ww : Nat → Row) (o : Nat) (so : Nat) (sc : Src) (pl : Pal) (qo : Qoi) (pn : Pnm) (bm : Bmp) (tg : Tga) (px : Pcx) (fa : A) (hb : aH) (n : Nat) (res : Out Row Unit) : Option Value → aH → Nat → Prop := fun r1 h2 n2 => ∃ (a : Unit) (s : Row), res = fok a s ∧ r1 = none ∧ h2 = HC m0 sh (va_up rr r x) (va_up ww o s) so sc pl qo pn bm tg px fa hb ∧ n = n2
abbrev Q_X5_writeSamples_21 (m0 : Mnt) (sh : Nat → Nat) (rr : Nat → Ras) (r : Nat) (x : Ras) (ww : Nat → Row) (o : Nat) (so : Nat) (sc : Src) (pl : Pal) (qo : Qoi) (pn : Pnm) (bm : Bmp) (tg : Tga) (px : Pcx) (fa : A) (hb : aH) (n : Nat) (k : Int32 → Int32 → Int32 → Row → Out Row Unit) : Prop := ∀ (v1 : Int32) (v3 : Int32) (v4 : Int32) (y : Row) (res : Out Row Unit), k v1 v3 v4 y = res → res ≠ fno → AW (fun _ _ => True) mX5_writeSamples (rmD 4 0 0) 0 0 (P_X5_writeSamples m0 sh rr r x ww o so sc pl qo pn bm tg px fa hb n res) (fun _ _ _ => False) 0 0 21 [(0, .ref r), (1, .int v1), (2, .ref o), (3, .int v3), (4, .int v4)] [] (HC m0 sh (va_up rr r x) (va_up ww o y) so sc pl qo pn bm tg px fa hb) n
abbrev Q_X5_writeSamples_52 (m0 : Mnt) (sh : Nat → Nat) (rr : Nat → Ras) (r : Nat) (x : Ras) (ww : Nat → Row) (o : Nat) (so : Nat) (sc : Src) (pl : Pal) (qo : Qoi) (pn : Pnm) (bm : Bmp) (tg : Tga) (px : Pcx) (fa : A) (hb : aH) (n : Nat) (k : Int32 → Int32 → Int32 → Int32 → Int32 → Row → Out Row Unit) : Prop := ∀ (v1 : Int32) (v3 : Int32) (v4 : Int32) (t0 : Int32) (t1 : Int32) (y : Row) (res : Out Row Unit), k v1 v3 v4 t0 t1 y = res → res ≠ fno → AW (fun _ _ => True) mX5_writeSamples (rmD 4 0 0) 0 0 (P_X5_writeSamples m0 sh rr r x ww o so sc pl qo pn bm tg px fa hb n res) (fun _ _ _ => False) 0 0 52 [(0, .ref r), (1, .int v1), (2, .ref o), (3, .int v3), (4, .int v4)] [.int t0, .int t1] (HC m0 sh (va_up rr r x) (va_up ww o y) so sc pl qo pn bm tg px fa hb) n
abbrev Q_X5_writeSamples_72 (m0 : Mnt) (sh : Nat → Nat) (rr : Nat → Ras) (r : Nat) (x : Ras) (ww : Nat → Row) (o : Nat) (so : Nat) (sc : Src) (pl : Pal) (qo : Qoi) (pn : Pnm) (bm : Bmp) (tg : Tga) (px : Pcx) (fa : A) (hb : aH) (n : Nat) (k : Int32 → Int32 → Int32 → Int32 → Int32 → Row → Out Row Unit) : Prop := ∀ (v1 : Int32) (v3 : Int32) (v4 : Int32) (t0 : Int32) (t1 : Int32) (y : Row) (res : Out Row Unit), k v1 v3 v4 t0 t1 y = res → res ≠ fno → AW (fun _ _ => True) mX5_writeSamples (rmD 4 0 0) 0 0 (P_X5_writeSamples m0 sh rr r x ww o so sc pl qo pn bm tg px fa hb n res) (fun _ _ _ => False) 0 0 72 [(0, .ref r), (1, .int v1), (2, .ref o), (3, .int v3), (4, .int v4)] [.int t0, .int t1] (HC m0 sh (va_up rr r x) (va_up ww o y) so sc pl qo pn bm tg px fa hb) n
abbrev Q_X5_writeSamples_76 (m0 : Mnt) (sh : Nat → Nat) (rr : Nat → Ras) (r : Nat) (x : Ras) (ww : Nat → Row) (o : Nat) (so : Nat) (sc : Src) (pl : Pal) (qo : Qoi) (pn : Pnm) (bm : Bmp) (tg : Tga) (px : Pcx) (fa : A) (hb : aH) (n : Nat) (k : Int32 → Int32 → Int32 → Row → Out Row Unit) : Prop := ∀ (v1 : Int32) (v3 : Int32) (v4 : Int32) (y : Row) (res : Out Row Unit), k v1 v3 v4 y = res → res ≠ fno → AW (fun _ _ => True) mX5_writeSamples (rmD 4 0 0) 0 0 (P_X5_writeSamples m0 sh rr r x ww o so sc pl qo pn bm tg px fa hb n res) (fun _ _ _ => False) 0 0 76 [(0, .ref r), (1, .int v1), (2, .ref o), (3, .int v3), (4, .int v4)] [] (HC m0 sh (va_up rr r x) (va_up ww o y) so sc pl qo pn bm tg px fa hb) n
def F_X5_writeSamples_76 (x : Ras) (k21 : Int32 → Int32 → Int32 → Row → Out Row Unit) (v1 : Int32) (v3 : Int32) (v4 : Int32) (y : Row) : Out Row Unit := k21 v1 v3 (v4 + 1) y
set_option maxHeartbeats 1000000 in
set_option maxRecDepth 100000 in
theorem b_X5_writeSamples_76 (m0 : Mnt) (sh : Nat → Nat) (rr : Nat → Ras) (r : Nat) (x : Ras) (ww : Nat → Row) (o : Nat) (so : Nat) (sc : Src) (pl : Pal) (qo : Qoi) (pn : Pnm) (bm : Bmp) (tg : Tga) (px : Pcx) (fa : A) (hb : aH) (n : Nat) (hr : isR r) (ho : isW o) (k21 : Int32 → Int32 → Int32 → Row → Out Row Unit) (hk21 : Q_X5_writeSamples_21 m0 sh rr r x ww o so sc pl qo pn bm tg px fa hb n k21) : Q_X5_writeSamples_76 m0 sh rr r x ww o so sc pl qo pn bm tg px fa hb n (F_X5_writeSamples_76 x k21) := by
  intro v1 v3 v4 y res hE hF
  unfold F_X5_writeSamples_76 at hE
  refine aw_iinc (v := (v4 + 1)) (lv2 := [(4, _), (0, _), (1, _), (2, _), (3, _)]) dX5_writeSamples_76 rfl (incE (by decide)) (by decide) rfl ?_
  refine aw_goto (tgt := 21) dX5_writeSamples_79 (by decide) ?_
  exact aw_lv _ (List.forall_mem_cons.mpr ⟨rfl, (List.forall_mem_cons.mpr ⟨rfl, (List.forall_mem_cons.mpr ⟨rfl, (List.forall_mem_cons.mpr ⟨rfl, (List.forall_mem_cons.mpr ⟨rfl, fun _ h => absurd h List.not_mem_nil⟩)⟩)⟩)⟩)⟩) (hk21 v1 v3 (v4 + 1) y _ hE hF)
def F_X5_writeSamples_72 (x : Ras) (k21 : Int32 → Int32 → Int32 → Row → Out Row Unit) (v1 : Int32) (v3 : Int32) (v4 : Int32) (t0 : Int32) (t1 : Int32) (y : Row) : Out Row Unit := fon (F_X5_writeBytes t1 t0 y) (fun z73 s73 => F_X5_writeSamples_76 x k21 v1 v3 v4 s73) (fun _ _ => fno)
set_option maxHeartbeats 1000000 in
set_option maxRecDepth 100000 in
theorem b_X5_writeSamples_72 (m0 : Mnt) (sh : Nat → Nat) (rr : Nat → Ras) (r : Nat) (x : Ras) (ww : Nat → Row) (o : Nat) (so : Nat) (sc : Src) (pl : Pal) (qo : Qoi) (pn : Pnm) (bm : Bmp) (tg : Tga) (px : Pcx) (fa : A) (hb : aH) (n : Nat) (hr : isR r) (ho : isW o) (k21 : Int32 → Int32 → Int32 → Row → Out Row Unit) (hk21 : Q_X5_writeSamples_21 m0 sh rr r x ww o so sc pl qo pn bm tg px fa hb n k21) : Q_X5_writeSamples_72 m0 sh rr r x ww o so sc pl qo pn bm tg px fa hb n (F_X5_writeSamples_72 x k21) := by
  intro v1 v3 v4 t0 t1 y res hE hF
  unfold F_X5_writeSamples_72 at hE
  refine aw_aload_n dX5_writeSamples_72 rfl ?_
  refine aw_callS dX5_writeSamples_73  csX5_151 rfl (kF_X5_writeBytes m0 sh (va_up rr r x) ww o y so sc pl qo pn bm tg px fa hb _ ho t1 t0 (fon_ne hE hF)) rfl (Nat.le_of_ble_eq_true rfl) (by decide) (by decide) (by decide) (by decide) (fun _ _ _ hf => False.elim hf) (fun r73 h73 n73 hp73 => ?_)
  obtain ⟨z73, s73, e73, rfl, rfl, rfl⟩ := hp73
  replace hE := fon_ok e73 hE
  exact aw_lv _ (List.forall_mem_cons.mpr ⟨rfl, (List.forall_mem_cons.mpr ⟨rfl, (List.forall_mem_cons.mpr ⟨rfl, (List.forall_mem_cons.mpr ⟨rfl, (List.forall_mem_cons.mpr ⟨rfl, fun _ h => absurd h List.not_mem_nil⟩)⟩)⟩)⟩)⟩) (b_X5_writeSamples_76 m0 sh rr r x ww o so sc pl qo pn bm tg px fa hb n hr ho k21 hk21 v1 v3 v4 s73 _ hE hF)
def F_X5_writeSamples_52 (x : Ras) (k21 : Int32 → Int32 → Int32 → Row → Out Row Unit) (v1 : Int32) (v3 : Int32) (v4 : Int32) (t0 : Int32) (t1 : Int32) (y : Row) : Out Row Unit := fon (F_X5_writeNumbers t1 t0 y) (fun z53 s53 => F_X5_writeSamples_76 x k21 v1 v3 v4 s53) (fun _ _ => fno)
set_option maxHeartbeats 1000000 in
set_option maxRecDepth 100000 in
theorem b_X5_writeSamples_52 (m0 : Mnt) (sh : Nat → Nat) (rr : Nat → Ras) (r : Nat) (x : Ras) (ww : Nat → Row) (o : Nat) (so : Nat) (sc : Src) (pl : Pal) (qo : Qoi) (pn : Pnm) (bm : Bmp) (tg : Tga) (px : Pcx) (fa : A) (hb : aH) (n : Nat) (hr : isR r) (ho : isW o) (k21 : Int32 → Int32 → Int32 → Row → Out Row Unit) (hk21 : Q_X5_writeSamples_21 m0 sh rr r x ww o so sc pl qo pn bm tg px fa hb n k21) : Q_X5_writeSamples_52 m0 sh rr r x ww o so sc pl qo pn bm tg px fa hb n (F_X5_writeSamples_52 x k21) := by
  intro v1 v3 v4 t0 t1 y res hE hF
  unfold F_X5_writeSamples_52 at hE
  refine aw_aload_n dX5_writeSamples_52 rfl ?_
  refine aw_callS dX5_writeSamples_53  csX5_147 rfl (kF_X5_writeNumbers m0 sh (va_up rr r x) ww o y so sc pl qo pn bm tg px fa hb _ ho t1 t0 (fon_ne hE hF)) rfl (Nat.le_of_ble_eq_true rfl) (by decide) (by decide) (by decide) (by decide) (fun _ _ _ hf => False.elim hf) (fun r53 h53 n53 hp53 => ?_)
  obtain ⟨z53, s53, e53, rfl, rfl, rfl⟩ := hp53
  replace hE := fon_ok e53 hE
  refine aw_goto (tgt := 76) dX5_writeSamples_56 (by decide) ?_
  exact aw_lv _ (List.forall_mem_cons.mpr ⟨rfl, (List.forall_mem_cons.mpr ⟨rfl, (List.forall_mem_cons.mpr ⟨rfl, (List.forall_mem_cons.mpr ⟨rfl, (List.forall_mem_cons.mpr ⟨rfl, fun _ h => absurd h List.not_mem_nil⟩)⟩)⟩)⟩)⟩) (b_X5_writeSamples_76 m0 sh rr r x ww o so sc pl qo pn bm tg px fa hb n hr ho k21 hk21 v1 v3 v4 s53 _ hE hF)
def F_X5_writeSamples_21 (x : Ras) (k21 : Int32 → Int32 → Int32 → Row → Out Row Unit) (v1 : Int32) (v3 : Int32) (v4 : Int32) (y : Row) : Out Row Unit := if v3 ≤ v4 then (fok () y) else (fon (F_X7_get v4 x) (fun z30 s30 => if 3 < v1 then (if v1 = 6 then (F_X5_writeSamples_72 x k21 v1 v3 v4 (1 : Int32) z30 y) else (F_X5_writeSamples_72 x k21 v1 v3 v4 (0 : Int32) z30 y)) else (if v1 = 3 then (F_X5_writeSamples_52 x k21 v1 v3 v4 (1 : Int32) z30 y) else (F_X5_writeSamples_52 x k21 v1 v3 v4 (0 : Int32) z30 y))) (fun _ _ => fno))
set_option maxHeartbeats 1000000 in
set_option maxRecDepth 100000 in
theorem b_X5_writeSamples_21 (m0 : Mnt) (sh : Nat → Nat) (rr : Nat → Ras) (r : Nat) (x : Ras) (ww : Nat → Row) (o : Nat) (so : Nat) (sc : Src) (pl : Pal) (qo : Qoi) (pn : Pnm) (bm : Bmp) (tg : Tga) (px : Pcx) (fa : A) (hb : aH) (n : Nat) (hr : isR r) (ho : isW o) (k21 : Int32 → Int32 → Int32 → Row → Out Row Unit) (hk21 : Q_X5_writeSamples_21 m0 sh rr r x ww o so sc pl qo pn bm tg px fa hb n k21) : Q_X5_writeSamples_21 m0 sh rr r x ww o so sc pl qo pn bm tg px fa hb n (F_X5_writeSamples_21 x k21) := by
  intro v1 v3 v4 y res hE hF
  unfold F_X5_writeSamples_21 at hE
  refine aw_iload dX5_writeSamples_21 rfl ?_
  refine aw_iload_n dX5_writeSamples_23 rfl ?_
  refine aw_icmp_ge (tgt := 82) dX5_writeSamples_24 (by decide) (fun c24 => ?_) (fun c24 => ?_)
  · replace hE := fit hE c24
    exact aw_vret dX5_writeSamples_82 rfl (Nat.zero_le _) (Nat.zero_le _) (Nat.zero_le _) (Nat.zero_le _) ⟨_, _, hE.symm, rfl, rfl, rfl⟩
  · replace hE := fif hE c24
    refine aw_aload_n dX5_writeSamples_27 rfl ?_
    refine aw_iload dX5_writeSamples_28 rfl ?_
    refine aw_callV dX5_writeSamples_30 (at_ras hr) cvX5_143 rfl (kF_X7_get m0 sh rr r x (va_up ww o y) so sc pl qo pn bm tg px fa hb _ hr v4 (fon_ne hE hF)) rfl (Nat.le_of_ble_eq_true rfl) (by decide) (by decide) (by decide) (by decide) (fun _ _ _ hf => False.elim hf) (fun r30 h30 n30 hp30 => ?_)
    obtain ⟨z30, s30, e30, rfl, rfl, rfl⟩ := hp30
    replace hE := fon_ok e30 hE
    refine aw_istore (lv2 := [(5, _), (0, _), (1, _), (2, _), (3, _), (4, _)]) dX5_writeSamples_33 (by decide) rfl ?_
    refine aw_iload_n dX5_writeSamples_35 rfl ?_
    refine aw_iconst (v := 3) dX5_writeSamples_36 (by decide) ?_
    refine aw_icmp_gt (tgt := 59) dX5_writeSamples_37 (by decide) (fun c37 => ?_) (fun c37 => ?_)
    · replace hE := fit hE c37
      refine aw_iload dX5_writeSamples_59 rfl ?_
      refine aw_iload_n dX5_writeSamples_61 rfl ?_
      refine aw_bipush (v := 6) dX5_writeSamples_62 (by decide) ?_
      refine aw_icmp_ne (tgt := 71) dX5_writeSamples_64 (by decide) (fun c64 => ?_) (fun c64 => ?_)
      · replace hE := fif hE c64
        refine aw_iconst (v := 0) dX5_writeSamples_71 (by decide) ?_
        exact aw_lv _ (List.forall_mem_cons.mpr ⟨rfl, (List.forall_mem_cons.mpr ⟨rfl, (List.forall_mem_cons.mpr ⟨rfl, (List.forall_mem_cons.mpr ⟨rfl, (List.forall_mem_cons.mpr ⟨rfl, fun _ h => absurd h List.not_mem_nil⟩)⟩)⟩)⟩)⟩) (b_X5_writeSamples_72 m0 sh rr r x ww o so sc pl qo pn bm tg px fa hb n hr ho k21 hk21 v1 v3 v4 (0 : Int32) z30 y _ hE hF)
      · replace hE := fit hE c64
        refine aw_iconst (v := 1) dX5_writeSamples_67 (by decide) ?_
        refine aw_goto (tgt := 72) dX5_writeSamples_68 (by decide) ?_
        exact aw_lv _ (List.forall_mem_cons.mpr ⟨rfl, (List.forall_mem_cons.mpr ⟨rfl, (List.forall_mem_cons.mpr ⟨rfl, (List.forall_mem_cons.mpr ⟨rfl, (List.forall_mem_cons.mpr ⟨rfl, fun _ h => absurd h List.not_mem_nil⟩)⟩)⟩)⟩)⟩) (b_X5_writeSamples_72 m0 sh rr r x ww o so sc pl qo pn bm tg px fa hb n hr ho k21 hk21 v1 v3 v4 (1 : Int32) z30 y _ hE hF)
    · replace hE := fif hE c37
      refine aw_iload dX5_writeSamples_40 rfl ?_
      refine aw_iload_n dX5_writeSamples_42 rfl ?_
      refine aw_iconst (v := 3) dX5_writeSamples_43 (by decide) ?_
      refine aw_icmp_ne (tgt := 51) dX5_writeSamples_44 (by decide) (fun c44 => ?_) (fun c44 => ?_)
      · replace hE := fif hE c44
        refine aw_iconst (v := 0) dX5_writeSamples_51 (by decide) ?_
        exact aw_lv _ (List.forall_mem_cons.mpr ⟨rfl, (List.forall_mem_cons.mpr ⟨rfl, (List.forall_mem_cons.mpr ⟨rfl, (List.forall_mem_cons.mpr ⟨rfl, (List.forall_mem_cons.mpr ⟨rfl, fun _ h => absurd h List.not_mem_nil⟩)⟩)⟩)⟩)⟩) (b_X5_writeSamples_52 m0 sh rr r x ww o so sc pl qo pn bm tg px fa hb n hr ho k21 hk21 v1 v3 v4 (0 : Int32) z30 y _ hE hF)
      · replace hE := fit hE c44
        refine aw_iconst (v := 1) dX5_writeSamples_47 (by decide) ?_
        refine aw_goto (tgt := 52) dX5_writeSamples_48 (by decide) ?_
        exact aw_lv _ (List.forall_mem_cons.mpr ⟨rfl, (List.forall_mem_cons.mpr ⟨rfl, (List.forall_mem_cons.mpr ⟨rfl, (List.forall_mem_cons.mpr ⟨rfl, (List.forall_mem_cons.mpr ⟨rfl, fun _ h => absurd h List.not_mem_nil⟩)⟩)⟩)⟩)⟩) (b_X5_writeSamples_52 m0 sh rr r x ww o so sc pl qo pn bm tg px fa hb n hr ho k21 hk21 v1 v3 v4 (1 : Int32) z30 y _ hE hF)
def F_X5_writeSamples (a1 : Int32) (x : Ras) (y : Row) : Out Row Unit := fon (F_X1_addDecimal 255 y) (fun z4 s4 => fon (F_X1_add 10 s4) (fun z10 s10 => fon (F_X7_count x) (fun z14 s14 => lp (fun _ _ _ _ => fno) (F_X5_writeSamples_21 x) FU a1 z14 (0 : Int32) s10) (fun _ _ => fno)) (fun _ _ => fno)) (fun _ _ => fno)
set_option maxHeartbeats 1000000 in
set_option maxRecDepth 100000 in
theorem kF_X5_writeSamples (m0 : Mnt) (sh : Nat → Nat) (rr : Nat → Ras) (r : Nat) (x : Ras) (ww : Nat → Row) (o : Nat) (y : Row) (so : Nat) (sc : Src) (pl : Pal) (qo : Qoi) (pn : Pnm) (bm : Bmp) (tg : Tga) (px : Pcx) (fa : A) (hb : aH) (n : Nat) (hr : isR r) (ho : isW o) (a1 : Int32) (hF : F_X5_writeSamples a1 x y ≠ fno) : AM mX5_writeSamples 4 [.ref r, .int a1, .ref o] (HC m0 sh (va_up rr r x) (va_up ww o y) so sc pl qo pn bm tg px fa hb) n 0 0 0 0 (P_X5_writeSamples m0 sh rr r x ww o so sc pl qo pn bm tg px fa hb n (F_X5_writeSamples a1 x y)) (fun _ _ _ => False) := by
  generalize hE : F_X5_writeSamples a1 x y = res at hF ⊢
  refine aw_of (by decide +kernel) rfl (Nat.le_of_ble_eq_true rfl) ?_
  unfold F_X5_writeSamples at hE
  refine aw_aload_n dX5_writeSamples_0 rfl ?_
  refine aw_sipush (v := 255) dX5_writeSamples_1 (by decide) ?_
  refine aw_callV dX5_writeSamples_4 (at_row ho) cvX5_129 rfl (kF_X1_addDecimal m0 sh (va_up rr r x) ww o y so sc pl qo pn bm tg px fa hb _ ho 255 (fon_ne hE hF)) rfl (Nat.le_of_ble_eq_true rfl) (by decide) (by decide) (by decide) (by decide) (fun _ _ _ hf => False.elim hf) (fun r4 h4 n4 hp4 => ?_)
  obtain ⟨z4, s4, e4, rfl, rfl, rfl⟩ := hp4
  replace hE := fon_ok e4 hE
  refine aw_aload_n dX5_writeSamples_7 rfl ?_
  refine aw_bipush (v := 10) dX5_writeSamples_8 (by decide) ?_
  refine aw_callV dX5_writeSamples_10 (at_row ho) cvX5_124 rfl (kF_X1_add m0 sh (va_up rr r x) ww o s4 so sc pl qo pn bm tg px fa hb _ ho 10 (fon_ne hE hF)) rfl (Nat.le_of_ble_eq_true rfl) (by decide) (by decide) (by decide) (by decide) (fun _ _ _ hf => False.elim hf) (fun r10 h10 n10 hp10 => ?_)
  obtain ⟨z10, s10, e10, rfl, rfl, rfl⟩ := hp10
  replace hE := fon_ok e10 hE
  refine aw_aload_n dX5_writeSamples_13 rfl ?_
  refine aw_callV dX5_writeSamples_14 (at_ras hr) cvX5_103 rfl (kF_X7_count m0 sh rr r x (va_up ww o s10) so sc pl qo pn bm tg px fa hb _ hr  (fon_ne hE hF)) rfl (Nat.le_of_ble_eq_true rfl) (by decide) (by decide) (by decide) (by decide) (fun _ _ _ hf => False.elim hf) (fun r14 h14 n14 hp14 => ?_)
  obtain ⟨z14, s14, e14, rfl, rfl, rfl⟩ := hp14
  replace hE := fon_ok e14 hE
  refine aw_istore_n (lv2 := [(3, _), (0, _), (1, _), (2, _)]) dX5_writeSamples_17 (by decide) rfl ?_
  refine aw_iconst (v := 0) dX5_writeSamples_18 (by decide) ?_
  refine aw_istore (lv2 := [(4, _), (3, _), (0, _), (1, _), (2, _)]) dX5_writeSamples_19 (by decide) rfl ?_
  exact aw_lv _ (List.forall_mem_cons.mpr ⟨rfl, (List.forall_mem_cons.mpr ⟨rfl, (List.forall_mem_cons.mpr ⟨rfl, (List.forall_mem_cons.mpr ⟨rfl, (List.forall_mem_cons.mpr ⟨rfl, fun _ h => absurd h List.not_mem_nil⟩)⟩)⟩)⟩)⟩) (lp_ind (Q_X5_writeSamples_21 m0 sh rr r x ww o so sc pl qo pn bm tg px fa hb n) (fun _ _ _ _ res hq hF => (hF hq.symm).elim) (fun k hk => b_X5_writeSamples_21 m0 sh rr r x ww o so sc pl qo pn bm tg px fa hb n hr ho  k hk) FU a1 z14 (0 : Int32) s10 _ hE hF)
def P_X6_writeMove (m0 : Mnt) (sh : Nat → Nat) (rr : Nat → Ras) (ww : Nat → Row) (o : Nat) (so : Nat) (sc : Src) (pl : Pal) (qo : Qoi) (pn : Pnm) (bm : Bmp) (tg : Tga) (px : Pcx) (fa : A) (hb : aH) (n : Nat) (res : Out Row Int32) : Option Value → aH → Nat → Prop := fun r1 h2 n2 => ∃ (a : Int32) (s : Row), res = fok a s ∧ r1 = some (.int a) ∧ h2 = HC m0 sh rr (va_up ww o s) so sc pl qo pn bm tg px fa hb ∧ n = n2
abbrev Q_X6_writeMove_96 (m0 : Mnt) (sh : Nat → Nat) (rr : Nat → Ras) (ww : Nat → Row) (o : Nat) (so : Nat) (sc : Src) (pl : Pal) (qo : Qoi) (pn : Pnm) (bm : Bmp) (tg : Tga) (px : Pcx) (fa : A) (hb : aH) (n : Nat) (k : Int32 → Int32 → Int32 → Row → Out Row Int32) : Prop := ∀ (v3 : Int32) (v4 : Int32) (v5 : Int32) (y : Row) (res : Out Row Int32), k v3 v4 v5 y = res → res ≠ fno → AW (fun _ _ => True) mX6_writeMove (rmD 2 0 0) 0 0 (P_X6_writeMove m0 sh rr ww o so sc pl qo pn bm tg px fa hb n res) (fun _ _ _ => False) 0 0 96 [(2, .ref o), (3, .int v3), (4, .int v4), (5, .int v5)] [] (HC m0 sh rr (va_up ww o y) so sc pl qo pn bm tg px fa hb) n
abbrev Q_X6_writeMove_173 (m0 : Mnt) (sh : Nat → Nat) (rr : Nat → Ras) (ww : Nat → Row) (o : Nat) (so : Nat) (sc : Src) (pl : Pal) (qo : Qoi) (pn : Pnm) (bm : Bmp) (tg : Tga) (px : Pcx) (fa : A) (hb : aH) (n : Nat) (k : Row → Out Row Int32) : Prop := ∀ (y : Row) (res : Out Row Int32), k y = res → res ≠ fno → AW (fun _ _ => True) mX6_writeMove (rmD 2 0 0) 0 0 (P_X6_writeMove m0 sh rr ww o so sc pl qo pn bm tg px fa hb n res) (fun _ _ _ => False) 0 0 173 [] [] (HC m0 sh rr (va_up ww o y) so sc pl qo pn bm tg px fa hb) n
def F_X6_writeMove_173 (qo : Qoi)  (y : Row) : Out Row Int32 := fok (0 : Int32) y
set_option maxHeartbeats 1000000 in
set_option maxRecDepth 100000 in
theorem b_X6_writeMove_173 (m0 : Mnt) (sh : Nat → Nat) (rr : Nat → Ras) (ww : Nat → Row) (o : Nat) (so : Nat) (sc : Src) (pl : Pal) (qo : Qoi) (pn : Pnm) (bm : Bmp) (tg : Tga) (px : Pcx) (fa : A) (hb : aH) (n : Nat) (ho : isW o)  : Q_X6_writeMove_173 m0 sh rr ww o so sc pl qo pn bm tg px fa hb n (F_X6_writeMove_173 qo) := by
  intro y res hE hF
  unfold F_X6_writeMove_173 at hE
  refine aw_iconst (v := 0) dX6_writeMove_173 (by decide) ?_
  exact aw_zret dX6_writeMove_174 rfl (narB (by decide)) (Nat.zero_le _) (Nat.zero_le _) (Nat.zero_le _) (Nat.zero_le _) ⟨_, _, hE.symm, rfl, rfl, rfl⟩
def F_X6_writeMove_96 (qo : Qoi)  (v3 : Int32) (v4 : Int32) (v5 : Int32) (y : Row) : Out Row Int32 := if (F_X6_isWithin v4 32) = 0 then (F_X6_writeMove_173 qo y) else (if (F_X6_isWithin (((v3 - v4)).toInt8.toInt32) 8) = 0 then (F_X6_writeMove_173 qo y) else (if (F_X6_isWithin (((v5 - v4)).toInt8.toInt32) 8) = 0 then (F_X6_writeMove_173 qo y) else (fon (F_X1_add (128 ||| (v4 + 32)) y) (fun z151 s151 => fon (F_X1_add (((((v3 - v4)).toInt8.toInt32 + 8) <<< ((4 : Int32) &&& 31)) ||| (((v5 - v4)).toInt8.toInt32 + 8)) s151) (fun z168 s168 => fok (1 : Int32) s168) (fun _ _ => fno)) (fun _ _ => fno))))
set_option maxHeartbeats 1000000 in
set_option maxRecDepth 100000 in
theorem b_X6_writeMove_96 (m0 : Mnt) (sh : Nat → Nat) (rr : Nat → Ras) (ww : Nat → Row) (o : Nat) (so : Nat) (sc : Src) (pl : Pal) (qo : Qoi) (pn : Pnm) (bm : Bmp) (tg : Tga) (px : Pcx) (fa : A) (hb : aH) (n : Nat) (ho : isW o)  : Q_X6_writeMove_96 m0 sh rr ww o so sc pl qo pn bm tg px fa hb n (F_X6_writeMove_96 qo) := by
  intro v3 v4 v5 y res hE hF
  unfold F_X6_writeMove_96 at hE
  refine aw_iload_n dX6_writeMove_96 rfl ?_
  refine aw_iload dX6_writeMove_97 rfl ?_
  refine aw_isub dX6_writeMove_99 ?_
  refine aw_i2b dX6_writeMove_100 ?_
  refine aw_istore (lv2 := [(6, _), (2, _), (3, _), (4, _), (5, _)]) dX6_writeMove_101 (by decide) rfl ?_
  refine aw_iload dX6_writeMove_103 rfl ?_
  refine aw_iload dX6_writeMove_105 rfl ?_
  refine aw_isub dX6_writeMove_107 ?_
  refine aw_i2b dX6_writeMove_108 ?_
  refine aw_istore (lv2 := [(7, _), (6, _), (2, _), (3, _), (4, _), (5, _)]) dX6_writeMove_109 (by decide) rfl ?_
  refine aw_iload dX6_writeMove_111 rfl ?_
  refine aw_bipush (v := 32) dX6_writeMove_113 (by decide) ?_
  refine aw_callS dX6_writeMove_115  csX6_166 rfl (kF_X6_isWithin _ _ v4 32) rfl (Nat.le_of_ble_eq_true rfl) (by decide) (by decide) (by decide) (by decide) (fun _ _ _ hf => False.elim hf) (fun r115 h115 n115 hp115 => ?_)
  obtain ⟨rfl, rfl, rfl⟩ := hp115
  refine aw_if_eq (tgt := 173) dX6_writeMove_118 (by decide) (fun c118 => ?_) (fun c118 => ?_)
  · replace hE := fit hE c118
    exact aw_lv _ (fun _ h => absurd h List.not_mem_nil) (b_X6_writeMove_173 m0 sh rr ww o so sc pl qo pn bm tg px fa hb n ho  y _ hE hF)
  · replace hE := fif hE c118
    refine aw_iload dX6_writeMove_121 rfl ?_
    refine aw_bipush (v := 8) dX6_writeMove_123 (by decide) ?_
    refine aw_callS dX6_writeMove_125  csX6_166 rfl (kF_X6_isWithin _ _ (((v3 - v4)).toInt8.toInt32) 8) rfl (Nat.le_of_ble_eq_true rfl) (by decide) (by decide) (by decide) (by decide) (fun _ _ _ hf => False.elim hf) (fun r125 h125 n125 hp125 => ?_)
    obtain ⟨rfl, rfl, rfl⟩ := hp125
    refine aw_if_eq (tgt := 173) dX6_writeMove_128 (by decide) (fun c128 => ?_) (fun c128 => ?_)
    · replace hE := fit hE c128
      exact aw_lv _ (fun _ h => absurd h List.not_mem_nil) (b_X6_writeMove_173 m0 sh rr ww o so sc pl qo pn bm tg px fa hb n ho  y _ hE hF)
    · replace hE := fif hE c128
      refine aw_iload dX6_writeMove_131 rfl ?_
      refine aw_bipush (v := 8) dX6_writeMove_133 (by decide) ?_
      refine aw_callS dX6_writeMove_135  csX6_166 rfl (kF_X6_isWithin _ _ (((v5 - v4)).toInt8.toInt32) 8) rfl (Nat.le_of_ble_eq_true rfl) (by decide) (by decide) (by decide) (by decide) (fun _ _ _ hf => False.elim hf) (fun r135 h135 n135 hp135 => ?_)
      obtain ⟨rfl, rfl, rfl⟩ := hp135
      refine aw_if_eq (tgt := 173) dX6_writeMove_138 (by decide) (fun c138 => ?_) (fun c138 => ?_)
      · replace hE := fit hE c138
        exact aw_lv _ (fun _ h => absurd h List.not_mem_nil) (b_X6_writeMove_173 m0 sh rr ww o so sc pl qo pn bm tg px fa hb n ho  y _ hE hF)
      · replace hE := fif hE c138
        refine aw_aload_n dX6_writeMove_141 rfl ?_
        refine aw_sipush (v := 128) dX6_writeMove_142 (by decide) ?_
        refine aw_iload dX6_writeMove_145 rfl ?_
        refine aw_bipush (v := 32) dX6_writeMove_147 (by decide) ?_
        refine aw_iadd dX6_writeMove_149 ?_
        refine aw_ior dX6_writeMove_150 ?_
        refine aw_callV dX6_writeMove_151 (at_row ho) cvX6_117 rfl (kF_X1_add m0 sh rr ww o y so sc pl qo pn bm tg px fa hb _ ho (128 ||| (v4 + 32)) (fon_ne hE hF)) rfl (Nat.le_of_ble_eq_true rfl) (by decide) (by decide) (by decide) (by decide) (fun _ _ _ hf => False.elim hf) (fun r151 h151 n151 hp151 => ?_)
        obtain ⟨z151, s151, e151, rfl, rfl, rfl⟩ := hp151
        replace hE := fon_ok e151 hE
        refine aw_aload_n dX6_writeMove_154 rfl ?_
        refine aw_iload dX6_writeMove_155 rfl ?_
        refine aw_bipush (v := 8) dX6_writeMove_157 (by decide) ?_
        refine aw_iadd dX6_writeMove_159 ?_
        refine aw_iconst (v := 4) dX6_writeMove_160 (by decide) ?_
        refine aw_ishl dX6_writeMove_161 ?_
        refine aw_iload dX6_writeMove_162 rfl ?_
        refine aw_bipush (v := 8) dX6_writeMove_164 (by decide) ?_
        refine aw_iadd dX6_writeMove_166 ?_
        refine aw_ior dX6_writeMove_167 ?_
        refine aw_callV dX6_writeMove_168 (at_row ho) cvX6_117 rfl (kF_X1_add m0 sh rr ww o s151 so sc pl qo pn bm tg px fa hb _ ho (((((v3 - v4)).toInt8.toInt32 + 8) <<< ((4 : Int32) &&& 31)) ||| (((v5 - v4)).toInt8.toInt32 + 8)) (fon_ne hE hF)) rfl (Nat.le_of_ble_eq_true rfl) (by decide) (by decide) (by decide) (by decide) (fun _ _ _ hf => False.elim hf) (fun r168 h168 n168 hp168 => ?_)
        obtain ⟨z168, s168, e168, rfl, rfl, rfl⟩ := hp168
        replace hE := fon_ok e168 hE
        refine aw_iconst (v := 1) dX6_writeMove_171 (by decide) ?_
        exact aw_zret dX6_writeMove_172 rfl (narB (by decide)) (Nat.zero_le _) (Nat.zero_le _) (Nat.zero_le _) (Nat.zero_le _) ⟨_, _, hE.symm, rfl, rfl, rfl⟩
def F_X6_writeMove (a1 : Int32) (y : Row) (qo : Qoi) : Out Row Int32 := if (F_X6_isWithin ((((F_X10_redOf a1) - (F_X10_redOf (qo_last qo)))).toInt8.toInt32) 2) = 0 then (F_X6_writeMove_96 qo ((((F_X10_redOf a1) - (F_X10_redOf (qo_last qo)))).toInt8.toInt32) ((((F_X10_greenOf a1) - (F_X10_greenOf (qo_last qo)))).toInt8.toInt32) ((((F_X10_blueOf a1) - (F_X10_blueOf (qo_last qo)))).toInt8.toInt32) y) else (if (F_X6_isWithin ((((F_X10_greenOf a1) - (F_X10_greenOf (qo_last qo)))).toInt8.toInt32) 2) = 0 then (F_X6_writeMove_96 qo ((((F_X10_redOf a1) - (F_X10_redOf (qo_last qo)))).toInt8.toInt32) ((((F_X10_greenOf a1) - (F_X10_greenOf (qo_last qo)))).toInt8.toInt32) ((((F_X10_blueOf a1) - (F_X10_blueOf (qo_last qo)))).toInt8.toInt32) y) else (if (F_X6_isWithin ((((F_X10_blueOf a1) - (F_X10_blueOf (qo_last qo)))).toInt8.toInt32) 2) = 0 then (F_X6_writeMove_96 qo ((((F_X10_redOf a1) - (F_X10_redOf (qo_last qo)))).toInt8.toInt32) ((((F_X10_greenOf a1) - (F_X10_greenOf (qo_last qo)))).toInt8.toInt32) ((((F_X10_blueOf a1) - (F_X10_blueOf (qo_last qo)))).toInt8.toInt32) y) else (fon (F_X1_add (((64 ||| (((((F_X10_redOf a1) - (F_X10_redOf (qo_last qo)))).toInt8.toInt32 + 2) <<< ((4 : Int32) &&& 31))) ||| (((((F_X10_greenOf a1) - (F_X10_greenOf (qo_last qo)))).toInt8.toInt32 + 2) <<< ((2 : Int32) &&& 31))) ||| ((((F_X10_blueOf a1) - (F_X10_blueOf (qo_last qo)))).toInt8.toInt32 + 2)) y) (fun z91 s91 => fok (1 : Int32) s91) (fun _ _ => fno))))
set_option maxHeartbeats 1000000 in
set_option maxRecDepth 100000 in
theorem kF_X6_writeMove (m0 : Mnt) (sh : Nat → Nat) (rr : Nat → Ras) (ww : Nat → Row) (o : Nat) (y : Row) (so : Nat) (sc : Src) (pl : Pal) (qo : Qoi) (pn : Pnm) (bm : Bmp) (tg : Tga) (px : Pcx) (fa : A) (hb : aH) (n : Nat) (ho : isW o) (a1 : Int32) (hF : F_X6_writeMove a1 y qo ≠ fno) : AM mX6_writeMove 2 [.ref 21, .int a1, .ref o] (HC m0 sh rr (va_up ww o y) so sc pl qo pn bm tg px fa hb) n 0 0 0 0 (P_X6_writeMove m0 sh rr ww o so sc pl qo pn bm tg px fa hb n (F_X6_writeMove a1 y qo)) (fun _ _ _ => False) := by
  generalize hE : F_X6_writeMove a1 y qo = res at hF ⊢
  refine aw_of (by decide +kernel) rfl (Nat.le_of_ble_eq_true rfl) ?_
  unfold F_X6_writeMove at hE
  refine aw_iload_n dX6_writeMove_0 rfl ?_
  refine aw_callSN dX6_writeMove_1  csX6_99 rfl (kF_X10_redOf _ _ a1) rfl (Nat.le_of_ble_eq_true rfl) (by decide) (by decide) (by decide) (by decide)  (fun r1 h1 n1 hp1 => ?_)
  obtain ⟨rfl, rfl, rfl⟩ := hp1
  refine aw_aload_n dX6_writeMove_4 rfl ?_
  refine aw_getf (v := .int (qo_last qo)) dX6_writeMove_5 flX6_78_5 at_qoi rfl ?_
  refine aw_callSN dX6_writeMove_8  csX6_99 rfl (kF_X10_redOf _ _ (qo_last qo)) rfl (Nat.le_of_ble_eq_true rfl) (by decide) (by decide) (by decide) (by decide)  (fun r8 h8 n8 hp8 => ?_)
  obtain ⟨rfl, rfl, rfl⟩ := hp8
  refine aw_isub dX6_writeMove_11 ?_
  refine aw_i2b dX6_writeMove_12 ?_
  refine aw_istore_n (lv2 := [(3, _), (0, _), (1, _), (2, _)]) dX6_writeMove_13 (by decide) rfl ?_
  refine aw_iload_n dX6_writeMove_14 rfl ?_
  refine aw_callSN dX6_writeMove_15  csX6_102 rfl (kF_X10_greenOf _ _ a1) rfl (Nat.le_of_ble_eq_true rfl) (by decide) (by decide) (by decide) (by decide)  (fun r15 h15 n15 hp15 => ?_)
  obtain ⟨rfl, rfl, rfl⟩ := hp15
  refine aw_aload_n dX6_writeMove_18 rfl ?_
  refine aw_getf (v := .int (qo_last qo)) dX6_writeMove_19 flX6_78_5 at_qoi rfl ?_
  refine aw_callSN dX6_writeMove_22  csX6_102 rfl (kF_X10_greenOf _ _ (qo_last qo)) rfl (Nat.le_of_ble_eq_true rfl) (by decide) (by decide) (by decide) (by decide)  (fun r22 h22 n22 hp22 => ?_)
  obtain ⟨rfl, rfl, rfl⟩ := hp22
  refine aw_isub dX6_writeMove_25 ?_
  refine aw_i2b dX6_writeMove_26 ?_
  refine aw_istore (lv2 := [(4, _), (3, _), (0, _), (1, _), (2, _)]) dX6_writeMove_27 (by decide) rfl ?_
  refine aw_iload_n dX6_writeMove_29 rfl ?_
  refine aw_callSN dX6_writeMove_30  csX6_105 rfl (kF_X10_blueOf _ _ a1) rfl (Nat.le_of_ble_eq_true rfl) (by decide) (by decide) (by decide) (by decide)  (fun r30 h30 n30 hp30 => ?_)
  obtain ⟨rfl, rfl, rfl⟩ := hp30
  refine aw_aload_n dX6_writeMove_33 rfl ?_
  refine aw_getf (v := .int (qo_last qo)) dX6_writeMove_34 flX6_78_5 at_qoi rfl ?_
  refine aw_callSN dX6_writeMove_37  csX6_105 rfl (kF_X10_blueOf _ _ (qo_last qo)) rfl (Nat.le_of_ble_eq_true rfl) (by decide) (by decide) (by decide) (by decide)  (fun r37 h37 n37 hp37 => ?_)
  obtain ⟨rfl, rfl, rfl⟩ := hp37
  refine aw_isub dX6_writeMove_40 ?_
  refine aw_i2b dX6_writeMove_41 ?_
  refine aw_istore (lv2 := [(5, _), (4, _), (3, _), (0, _), (1, _), (2, _)]) dX6_writeMove_42 (by decide) rfl ?_
  refine aw_iload_n dX6_writeMove_44 rfl ?_
  refine aw_iconst (v := 2) dX6_writeMove_45 (by decide) ?_
  refine aw_callS dX6_writeMove_46  csX6_166 rfl (kF_X6_isWithin _ _ ((((F_X10_redOf a1) - (F_X10_redOf (qo_last qo)))).toInt8.toInt32) 2) rfl (Nat.le_of_ble_eq_true rfl) (by decide) (by decide) (by decide) (by decide) (fun _ _ _ hf => False.elim hf) (fun r46 h46 n46 hp46 => ?_)
  obtain ⟨rfl, rfl, rfl⟩ := hp46
  refine aw_if_eq (tgt := 96) dX6_writeMove_49 (by decide) (fun c49 => ?_) (fun c49 => ?_)
  · replace hE := fit hE c49
    exact aw_lv _ (List.forall_mem_cons.mpr ⟨rfl, (List.forall_mem_cons.mpr ⟨rfl, (List.forall_mem_cons.mpr ⟨rfl, (List.forall_mem_cons.mpr ⟨rfl, fun _ h => absurd h List.not_mem_nil⟩)⟩)⟩)⟩) (b_X6_writeMove_96 m0 sh rr ww o so sc pl qo pn bm tg px fa hb n ho  ((((F_X10_redOf a1) - (F_X10_redOf (qo_last qo)))).toInt8.toInt32) ((((F_X10_greenOf a1) - (F_X10_greenOf (qo_last qo)))).toInt8.toInt32) ((((F_X10_blueOf a1) - (F_X10_blueOf (qo_last qo)))).toInt8.toInt32) y _ hE hF)
  · replace hE := fif hE c49
    refine aw_iload dX6_writeMove_52 rfl ?_
    refine aw_iconst (v := 2) dX6_writeMove_54 (by decide) ?_
    refine aw_callS dX6_writeMove_55  csX6_166 rfl (kF_X6_isWithin _ _ ((((F_X10_greenOf a1) - (F_X10_greenOf (qo_last qo)))).toInt8.toInt32) 2) rfl (Nat.le_of_ble_eq_true rfl) (by decide) (by decide) (by decide) (by decide) (fun _ _ _ hf => False.elim hf) (fun r55 h55 n55 hp55 => ?_)
    obtain ⟨rfl, rfl, rfl⟩ := hp55
    refine aw_if_eq (tgt := 96) dX6_writeMove_58 (by decide) (fun c58 => ?_) (fun c58 => ?_)
    · replace hE := fit hE c58
      exact aw_lv _ (List.forall_mem_cons.mpr ⟨rfl, (List.forall_mem_cons.mpr ⟨rfl, (List.forall_mem_cons.mpr ⟨rfl, (List.forall_mem_cons.mpr ⟨rfl, fun _ h => absurd h List.not_mem_nil⟩)⟩)⟩)⟩) (b_X6_writeMove_96 m0 sh rr ww o so sc pl qo pn bm tg px fa hb n ho  ((((F_X10_redOf a1) - (F_X10_redOf (qo_last qo)))).toInt8.toInt32) ((((F_X10_greenOf a1) - (F_X10_greenOf (qo_last qo)))).toInt8.toInt32) ((((F_X10_blueOf a1) - (F_X10_blueOf (qo_last qo)))).toInt8.toInt32) y _ hE hF)
    · replace hE := fif hE c58
      refine aw_iload dX6_writeMove_61 rfl ?_
      refine aw_iconst (v := 2) dX6_writeMove_63 (by decide) ?_
      refine aw_callS dX6_writeMove_64  csX6_166 rfl (kF_X6_isWithin _ _ ((((F_X10_blueOf a1) - (F_X10_blueOf (qo_last qo)))).toInt8.toInt32) 2) rfl (Nat.le_of_ble_eq_true rfl) (by decide) (by decide) (by decide) (by decide) (fun _ _ _ hf => False.elim hf) (fun r64 h64 n64 hp64 => ?_)
      obtain ⟨rfl, rfl, rfl⟩ := hp64
      refine aw_if_eq (tgt := 96) dX6_writeMove_67 (by decide) (fun c67 => ?_) (fun c67 => ?_)
      · replace hE := fit hE c67
        exact aw_lv _ (List.forall_mem_cons.mpr ⟨rfl, (List.forall_mem_cons.mpr ⟨rfl, (List.forall_mem_cons.mpr ⟨rfl, (List.forall_mem_cons.mpr ⟨rfl, fun _ h => absurd h List.not_mem_nil⟩)⟩)⟩)⟩) (b_X6_writeMove_96 m0 sh rr ww o so sc pl qo pn bm tg px fa hb n ho  ((((F_X10_redOf a1) - (F_X10_redOf (qo_last qo)))).toInt8.toInt32) ((((F_X10_greenOf a1) - (F_X10_greenOf (qo_last qo)))).toInt8.toInt32) ((((F_X10_blueOf a1) - (F_X10_blueOf (qo_last qo)))).toInt8.toInt32) y _ hE hF)
      · replace hE := fif hE c67
        refine aw_aload_n dX6_writeMove_70 rfl ?_
        refine aw_bipush (v := 64) dX6_writeMove_71 (by decide) ?_
        refine aw_iload_n dX6_writeMove_73 rfl ?_
        refine aw_iconst (v := 2) dX6_writeMove_74 (by decide) ?_
        refine aw_iadd dX6_writeMove_75 ?_
        refine aw_iconst (v := 4) dX6_writeMove_76 (by decide) ?_
        refine aw_ishl dX6_writeMove_77 ?_
        refine aw_ior dX6_writeMove_78 ?_
        refine aw_iload dX6_writeMove_79 rfl ?_
        refine aw_iconst (v := 2) dX6_writeMove_81 (by decide) ?_
        refine aw_iadd dX6_writeMove_82 ?_
        refine aw_iconst (v := 2) dX6_writeMove_83 (by decide) ?_
        refine aw_ishl dX6_writeMove_84 ?_
        refine aw_ior dX6_writeMove_85 ?_
        refine aw_iload dX6_writeMove_86 rfl ?_
        refine aw_iconst (v := 2) dX6_writeMove_88 (by decide) ?_
        refine aw_iadd dX6_writeMove_89 ?_
        refine aw_ior dX6_writeMove_90 ?_
        refine aw_callV dX6_writeMove_91 (at_row ho) cvX6_117 rfl (kF_X1_add m0 sh rr ww o y so sc pl qo pn bm tg px fa hb _ ho (((64 ||| (((((F_X10_redOf a1) - (F_X10_redOf (qo_last qo)))).toInt8.toInt32 + 2) <<< ((4 : Int32) &&& 31))) ||| (((((F_X10_greenOf a1) - (F_X10_greenOf (qo_last qo)))).toInt8.toInt32 + 2) <<< ((2 : Int32) &&& 31))) ||| ((((F_X10_blueOf a1) - (F_X10_blueOf (qo_last qo)))).toInt8.toInt32 + 2)) (fon_ne hE hF)) rfl (Nat.le_of_ble_eq_true rfl) (by decide) (by decide) (by decide) (by decide) (fun _ _ _ hf => False.elim hf) (fun r91 h91 n91 hp91 => ?_)
        obtain ⟨z91, s91, e91, rfl, rfl, rfl⟩ := hp91
        replace hE := fon_ok e91 hE
        refine aw_iconst (v := 1) dX6_writeMove_94 (by decide) ?_
        exact aw_zret dX6_writeMove_95 rfl (narB (by decide)) (Nat.zero_le _) (Nat.zero_le _) (Nat.zero_le _) (Nat.zero_le _) ⟨_, _, hE.symm, rfl, rfl, rfl⟩
def P_X9_writePackets (m0 : Mnt) (sh : Nat → Nat) (rr : Nat → Ras) (r : Nat) (x : Ras) (ww : Nat → Row) (o : Nat) (so : Nat) (sc : Src) (pl : Pal) (qo : Qoi) (pn : Pnm) (bm : Bmp) (tg : Tga) (px : Pcx) (fa : A) (hb : aH) (n : Nat) (res : Out Row Unit) : Option Value → aH → Nat → Prop := fun r1 h2 n2 => ∃ (a : Unit) (s : Row), res = fok a s ∧ r1 = none ∧ h2 = HC m0 sh (va_up rr r x) (va_up ww o s) so sc pl qo pn bm tg px fa hb ∧ n = n2
abbrev Q_X9_writePackets_14 (m0 : Mnt) (sh : Nat → Nat) (rr : Nat → Ras) (r : Nat) (x : Ras) (ww : Nat → Row) (o : Nat) (so : Nat) (sc : Src) (pl : Pal) (qo : Qoi) (pn : Pnm) (bm : Bmp) (tg : Tga) (px : Pcx) (fa : A) (hb : aH) (n : Nat) (k : Int32 → Int32 → Int32 → Int32 → Int32 → Row → Out Row Unit) : Prop := ∀ (v2 : Int32) (v3 : Int32) (v4 : Int32) (v6 : Int32) (v8 : Int32) (y : Row) (res : Out Row Unit), k v2 v3 v4 v6 v8 y = res → res ≠ fno → AW (fun _ _ => True) mX9_writePackets (rmD 4 0 0) 0 0 (P_X9_writePackets m0 sh rr r x ww o so sc pl qo pn bm tg px fa hb n res) (fun _ _ _ => False) 0 0 14 [(0, .ref 26), (1, .ref r), (2, .int v2), (3, .int v3), (4, .int v4), (5, .ref o), (6, .int v6), (8, .int v8)] [] (HC m0 sh (va_up rr r x) (va_up ww o y) so sc pl qo pn bm tg px fa hb) n
abbrev Q_X9_writePackets_108 (m0 : Mnt) (sh : Nat → Nat) (rr : Nat → Ras) (r : Nat) (x : Ras) (ww : Nat → Row) (o : Nat) (so : Nat) (sc : Src) (pl : Pal) (qo : Qoi) (pn : Pnm) (bm : Bmp) (tg : Tga) (px : Pcx) (fa : A) (hb : aH) (n : Nat) (k : Int32 → Int32 → Int32 → Int32 → Int32 → Int32 → Row → Out Row Unit) : Prop := ∀ (v2 : Int32) (v3 : Int32) (v4 : Int32) (v6 : Int32) (v7 : Int32) (v8 : Int32) (y : Row) (res : Out Row Unit), k v2 v3 v4 v6 v7 v8 y = res → res ≠ fno → AW (fun _ _ => True) mX9_writePackets (rmD 4 0 0) 0 0 (P_X9_writePackets m0 sh rr r x ww o so sc pl qo pn bm tg px fa hb n res) (fun _ _ _ => False) 0 0 108 [(0, .ref 26), (1, .ref r), (2, .int v2), (3, .int v3), (4, .int v4), (5, .ref o), (6, .int v6), (7, .int v7), (8, .int v8)] [] (HC m0 sh (va_up rr r x) (va_up ww o y) so sc pl qo pn bm tg px fa hb) n
def F_X9_writePackets_108 (x : Ras) (pl : Pal) (k14 : Int32 → Int32 → Int32 → Int32 → Int32 → Row → Out Row Unit) (v2 : Int32) (v3 : Int32) (v4 : Int32) (v6 : Int32) (v7 : Int32) (v8 : Int32) (y : Row) : Out Row Unit := k14 v2 v3 v4 v6 (v8 + v7) y
set_option maxHeartbeats 1000000 in
set_option maxRecDepth 100000 in
theorem b_X9_writePackets_108 (m0 : Mnt) (sh : Nat → Nat) (rr : Nat → Ras) (r : Nat) (x : Ras) (ww : Nat → Row) (o : Nat) (so : Nat) (sc : Src) (pl : Pal) (qo : Qoi) (pn : Pnm) (bm : Bmp) (tg : Tga) (px : Pcx) (fa : A) (hb : aH) (n : Nat) (hr : isR r) (ho : isW o) (k14 : Int32 → Int32 → Int32 → Int32 → Int32 → Row → Out Row Unit) (hk14 : Q_X9_writePackets_14 m0 sh rr r x ww o so sc pl qo pn bm tg px fa hb n k14) : Q_X9_writePackets_108 m0 sh rr r x ww o so sc pl qo pn bm tg px fa hb n (F_X9_writePackets_108 x pl k14) := by
  intro v2 v3 v4 v6 v7 v8 y res hE hF
  unfold F_X9_writePackets_108 at hE
  refine aw_iload dX9_writePackets_108 rfl ?_
  refine aw_iload dX9_writePackets_110 rfl ?_
  refine aw_iadd dX9_writePackets_112 ?_
  refine aw_istore (lv2 := [(8, _), (0, _), (1, _), (2, _), (3, _), (4, _), (5, _), (6, _), (7, _)]) dX9_writePackets_113 (by decide) rfl ?_
  refine aw_goto (tgt := 14) dX9_writePackets_115 (by decide) ?_
  exact aw_lv _ (List.forall_mem_cons.mpr ⟨rfl, (List.forall_mem_cons.mpr ⟨rfl, (List.forall_mem_cons.mpr ⟨rfl, (List.forall_mem_cons.mpr ⟨rfl, (List.forall_mem_cons.mpr ⟨rfl, (List.forall_mem_cons.mpr ⟨rfl, (List.forall_mem_cons.mpr ⟨rfl, (List.forall_mem_cons.mpr ⟨rfl, fun _ h => absurd h List.not_mem_nil⟩)⟩)⟩)⟩)⟩)⟩)⟩)⟩) (hk14 v2 v3 v4 v6 (v8 + v7) y _ hE hF)
def F_X9_writePackets_14 (x : Ras) (pl : Pal) (k14 : Int32 → Int32 → Int32 → Int32 → Int32 → Row → Out Row Unit) (v2 : Int32) (v3 : Int32) (v4 : Int32) (v6 : Int32) (v8 : Int32) (y : Row) : Out Row Unit := if (x_w x) ≤ v8 then (fok () y) else (fon (F_X9_isLikeNext v2 v8 x) (fun z27 s27 => if z27 = 0 then (fon (F_X9_packetSize v2 v8 0 x) (fun z77 s77 => fon (F_X1_add (z77 - 1) y) (fun z88 s88 => fon (F_X9_writePixels (v6 + v8) z77 v3 v4 x s88 pl) (fun z105 s105 => F_X9_writePackets_108 x pl k14 v2 v3 v4 v6 z77 v8 s105) (fun _ _ => fno)) (fun _ _ => fno)) (fun _ _ => fno)) else (fon (F_X9_packetSize v2 v8 1 x) (fun z38 s38 => fon (F_X1_add (127 + z38) y) (fun z50 s50 => fon (F_X9_writePixels (v6 + v8) 1 v3 v4 x s50 pl) (fun z66 s66 => F_X9_writePackets_108 x pl k14 v2 v3 v4 v6 z38 v8 s66) (fun _ _ => fno)) (fun _ _ => fno)) (fun _ _ => fno))) (fun _ _ => fno))
set_option maxHeartbeats 1000000 in
set_option maxRecDepth 100000 in
theorem b_X9_writePackets_14 (m0 : Mnt) (sh : Nat → Nat) (rr : Nat → Ras) (r : Nat) (x : Ras) (ww : Nat → Row) (o : Nat) (so : Nat) (sc : Src) (pl : Pal) (qo : Qoi) (pn : Pnm) (bm : Bmp) (tg : Tga) (px : Pcx) (fa : A) (hb : aH) (n : Nat) (hr : isR r) (ho : isW o) (k14 : Int32 → Int32 → Int32 → Int32 → Int32 → Row → Out Row Unit) (hk14 : Q_X9_writePackets_14 m0 sh rr r x ww o so sc pl qo pn bm tg px fa hb n k14) : Q_X9_writePackets_14 m0 sh rr r x ww o so sc pl qo pn bm tg px fa hb n (F_X9_writePackets_14 x pl k14) := by
  intro v2 v3 v4 v6 v8 y res hE hF
  unfold F_X9_writePackets_14 at hE
  refine aw_iload dX9_writePackets_14 rfl ?_
  refine aw_aload_n dX9_writePackets_16 rfl ?_
  refine aw_getf (v := .int (x_w x)) dX9_writePackets_17 flX9_126_6 (at_ras hr) rfl ?_
  refine aw_icmp_ge (tgt := 118) dX9_writePackets_20 (by decide) (fun c20 => ?_) (fun c20 => ?_)
  · replace hE := fit hE c20
    exact aw_vret dX9_writePackets_118 rfl (Nat.zero_le _) (Nat.zero_le _) (Nat.zero_le _) (Nat.zero_le _) ⟨_, _, hE.symm, rfl, rfl, rfl⟩
  · replace hE := fif hE c20
    refine aw_aload_n dX9_writePackets_23 rfl ?_
    refine aw_iload_n dX9_writePackets_24 rfl ?_
    refine aw_iload dX9_writePackets_25 rfl ?_
    refine aw_callS dX9_writePackets_27  csX9_231 rfl (kF_X9_isLikeNext m0 sh rr r x (va_up ww o y) so sc pl qo pn bm tg px fa hb _ hr v2 v8 (fon_ne hE hF)) rfl (Nat.le_of_ble_eq_true rfl) (by decide) (by decide) (by decide) (by decide) (fun _ _ _ hf => False.elim hf) (fun r27 h27 n27 hp27 => ?_)
    obtain ⟨z27, s27, e27, rfl, rfl, rfl⟩ := hp27
    replace hE := fon_ok e27 hE
    refine aw_if_eq (tgt := 72) dX9_writePackets_30 (by decide) (fun c30 => ?_) (fun c30 => ?_)
    · replace hE := fit hE c30
      refine aw_aload_n dX9_writePackets_72 rfl ?_
      refine aw_iload_n dX9_writePackets_73 rfl ?_
      refine aw_iload dX9_writePackets_74 rfl ?_
      refine aw_iconst (v := 0) dX9_writePackets_76 (by decide) ?_
      refine aw_callS dX9_writePackets_77  csX9_235 rfl (kF_X9_packetSize m0 sh rr r x (va_up ww o y) so sc pl qo pn bm tg px fa hb _ hr v2 v8 0 (fon_ne hE hF)) rfl (Nat.le_of_ble_eq_true rfl) (by decide) (by decide) (by decide) (by decide) (fun _ _ _ hf => False.elim hf) (fun r77 h77 n77 hp77 => ?_)
      obtain ⟨z77, s77, e77, rfl, rfl, rfl⟩ := hp77
      replace hE := fon_ok e77 hE
      refine aw_istore (lv2 := [(7, _), (0, _), (1, _), (2, _), (3, _), (4, _), (5, _), (6, _), (8, _)]) dX9_writePackets_80 (by decide) rfl ?_
      refine aw_aload dX9_writePackets_82 rfl ?_
      refine aw_iload dX9_writePackets_84 rfl ?_
      refine aw_iconst (v := 1) dX9_writePackets_86 (by decide) ?_
      refine aw_isub dX9_writePackets_87 ?_
      refine aw_callV dX9_writePackets_88 (at_row ho) cvX9_189 rfl (kF_X1_add m0 sh (va_up rr r x) ww o y so sc pl qo pn bm tg px fa hb _ ho (z77 - 1) (fon_ne hE hF)) rfl (Nat.le_of_ble_eq_true rfl) (by decide) (by decide) (by decide) (by decide) (fun _ _ _ hf => False.elim hf) (fun r88 h88 n88 hp88 => ?_)
      obtain ⟨z88, s88, e88, rfl, rfl, rfl⟩ := hp88
      replace hE := fon_ok e88 hE
      refine aw_aload_n dX9_writePackets_91 rfl ?_
      refine aw_aload_n dX9_writePackets_92 rfl ?_
      refine aw_iload dX9_writePackets_93 rfl ?_
      refine aw_iload dX9_writePackets_95 rfl ?_
      refine aw_iadd dX9_writePackets_97 ?_
      refine aw_iload dX9_writePackets_98 rfl ?_
      refine aw_iload_n dX9_writePackets_100 rfl ?_
      refine aw_iload dX9_writePackets_101 rfl ?_
      refine aw_aload dX9_writePackets_103 rfl ?_
      refine aw_callV dX9_writePackets_105 at_tga cvX9_211 rfl (kF_X9_writePixels m0 sh rr r x ww o s88 so sc pl qo pn bm tg px fa hb _ hr ho (v6 + v8) z77 v3 v4 (fon_ne hE hF)) rfl (Nat.le_of_ble_eq_true rfl) (by decide) (by decide) (by decide) (by decide) (fun _ _ _ hf => False.elim hf) (fun r105 h105 n105 hp105 => ?_)
      obtain ⟨z105, s105, e105, rfl, rfl, rfl⟩ := hp105
      replace hE := fon_ok e105 hE
      exact aw_lv _ (List.forall_mem_cons.mpr ⟨rfl, (List.forall_mem_cons.mpr ⟨rfl, (List.forall_mem_cons.mpr ⟨rfl, (List.forall_mem_cons.mpr ⟨rfl, (List.forall_mem_cons.mpr ⟨rfl, (List.forall_mem_cons.mpr ⟨rfl, (List.forall_mem_cons.mpr ⟨rfl, (List.forall_mem_cons.mpr ⟨rfl, (List.forall_mem_cons.mpr ⟨rfl, fun _ h => absurd h List.not_mem_nil⟩)⟩)⟩)⟩)⟩)⟩)⟩)⟩)⟩) (b_X9_writePackets_108 m0 sh rr r x ww o so sc pl qo pn bm tg px fa hb n hr ho k14 hk14 v2 v3 v4 v6 z77 v8 s105 _ hE hF)
    · replace hE := fif hE c30
      refine aw_aload_n dX9_writePackets_33 rfl ?_
      refine aw_iload_n dX9_writePackets_34 rfl ?_
      refine aw_iload dX9_writePackets_35 rfl ?_
      refine aw_iconst (v := 1) dX9_writePackets_37 (by decide) ?_
      refine aw_callS dX9_writePackets_38  csX9_235 rfl (kF_X9_packetSize m0 sh rr r x (va_up ww o y) so sc pl qo pn bm tg px fa hb _ hr v2 v8 1 (fon_ne hE hF)) rfl (Nat.le_of_ble_eq_true rfl) (by decide) (by decide) (by decide) (by decide) (fun _ _ _ hf => False.elim hf) (fun r38 h38 n38 hp38 => ?_)
      obtain ⟨z38, s38, e38, rfl, rfl, rfl⟩ := hp38
      replace hE := fon_ok e38 hE
      refine aw_istore (lv2 := [(7, _), (0, _), (1, _), (2, _), (3, _), (4, _), (5, _), (6, _), (8, _)]) dX9_writePackets_41 (by decide) rfl ?_
      refine aw_aload dX9_writePackets_43 rfl ?_
      refine aw_bipush (v := 127) dX9_writePackets_45 (by decide) ?_
      refine aw_iload dX9_writePackets_47 rfl ?_
      refine aw_iadd dX9_writePackets_49 ?_
      refine aw_callV dX9_writePackets_50 (at_row ho) cvX9_189 rfl (kF_X1_add m0 sh (va_up rr r x) ww o y so sc pl qo pn bm tg px fa hb _ ho (127 + z38) (fon_ne hE hF)) rfl (Nat.le_of_ble_eq_true rfl) (by decide) (by decide) (by decide) (by decide) (fun _ _ _ hf => False.elim hf) (fun r50 h50 n50 hp50 => ?_)
      obtain ⟨z50, s50, e50, rfl, rfl, rfl⟩ := hp50
      replace hE := fon_ok e50 hE
      refine aw_aload_n dX9_writePackets_53 rfl ?_
      refine aw_aload_n dX9_writePackets_54 rfl ?_
      refine aw_iload dX9_writePackets_55 rfl ?_
      refine aw_iload dX9_writePackets_57 rfl ?_
      refine aw_iadd dX9_writePackets_59 ?_
      refine aw_iconst (v := 1) dX9_writePackets_60 (by decide) ?_
      refine aw_iload_n dX9_writePackets_61 rfl ?_
      refine aw_iload dX9_writePackets_62 rfl ?_
      refine aw_aload dX9_writePackets_64 rfl ?_
      refine aw_callV dX9_writePackets_66 at_tga cvX9_211 rfl (kF_X9_writePixels m0 sh rr r x ww o s50 so sc pl qo pn bm tg px fa hb _ hr ho (v6 + v8) 1 v3 v4 (fon_ne hE hF)) rfl (Nat.le_of_ble_eq_true rfl) (by decide) (by decide) (by decide) (by decide) (fun _ _ _ hf => False.elim hf) (fun r66 h66 n66 hp66 => ?_)
      obtain ⟨z66, s66, e66, rfl, rfl, rfl⟩ := hp66
      replace hE := fon_ok e66 hE
      refine aw_goto (tgt := 108) dX9_writePackets_69 (by decide) ?_
      exact aw_lv _ (List.forall_mem_cons.mpr ⟨rfl, (List.forall_mem_cons.mpr ⟨rfl, (List.forall_mem_cons.mpr ⟨rfl, (List.forall_mem_cons.mpr ⟨rfl, (List.forall_mem_cons.mpr ⟨rfl, (List.forall_mem_cons.mpr ⟨rfl, (List.forall_mem_cons.mpr ⟨rfl, (List.forall_mem_cons.mpr ⟨rfl, (List.forall_mem_cons.mpr ⟨rfl, fun _ h => absurd h List.not_mem_nil⟩)⟩)⟩)⟩)⟩)⟩)⟩)⟩)⟩) (b_X9_writePackets_108 m0 sh rr r x ww o so sc pl qo pn bm tg px fa hb n hr ho k14 hk14 v2 v3 v4 v6 z38 v8 s66 _ hE hF)
def F_X9_writePackets (a2 : Int32) (a3 : Int32) (a4 : Int32) (x : Ras) (y : Row) (pl : Pal) : Out Row Unit := lp (fun _ _ _ _ _ _ => fno) (F_X9_writePackets_14 x pl) FU a2 a3 a4 (a2 * (x_w x)) (0 : Int32) y
set_option maxHeartbeats 1000000 in
set_option maxRecDepth 100000 in
theorem kF_X9_writePackets (m0 : Mnt) (sh : Nat → Nat) (rr : Nat → Ras) (r : Nat) (x : Ras) (ww : Nat → Row) (o : Nat) (y : Row) (so : Nat) (sc : Src) (pl : Pal) (qo : Qoi) (pn : Pnm) (bm : Bmp) (tg : Tga) (px : Pcx) (fa : A) (hb : aH) (n : Nat) (hr : isR r) (ho : isW o) (a2 : Int32) (a3 : Int32) (a4 : Int32) (hF : F_X9_writePackets a2 a3 a4 x y pl ≠ fno) : AM mX9_writePackets 4 [.ref 26, .ref r, .int a2, .int a3, .int a4, .ref o] (HC m0 sh (va_up rr r x) (va_up ww o y) so sc pl qo pn bm tg px fa hb) n 0 0 0 0 (P_X9_writePackets m0 sh rr r x ww o so sc pl qo pn bm tg px fa hb n (F_X9_writePackets a2 a3 a4 x y pl)) (fun _ _ _ => False) := by
  generalize hE : F_X9_writePackets a2 a3 a4 x y pl = res at hF ⊢
  refine aw_of (by decide +kernel) rfl (Nat.le_of_ble_eq_true rfl) ?_
  unfold F_X9_writePackets at hE
  refine aw_iload_n dX9_writePackets_0 rfl ?_
  refine aw_aload_n dX9_writePackets_1 rfl ?_
  refine aw_getf (v := .int (x_w x)) dX9_writePackets_2 flX9_126_6 (at_ras hr) rfl ?_
  refine aw_imul dX9_writePackets_5 ?_
  refine aw_istore (lv2 := [(6, _), (0, _), (1, _), (2, _), (3, _), (4, _), (5, _)]) dX9_writePackets_6 (by decide) rfl ?_
  refine aw_iconst (v := 1) dX9_writePackets_8 (by decide) ?_
  refine aw_istore (lv2 := [(7, _), (6, _), (0, _), (1, _), (2, _), (3, _), (4, _), (5, _)]) dX9_writePackets_9 (by decide) rfl ?_
  refine aw_iconst (v := 0) dX9_writePackets_11 (by decide) ?_
  refine aw_istore (lv2 := [(8, _), (7, _), (6, _), (0, _), (1, _), (2, _), (3, _), (4, _), (5, _)]) dX9_writePackets_12 (by decide) rfl ?_
  exact aw_lv _ (List.forall_mem_cons.mpr ⟨rfl, (List.forall_mem_cons.mpr ⟨rfl, (List.forall_mem_cons.mpr ⟨rfl, (List.forall_mem_cons.mpr ⟨rfl, (List.forall_mem_cons.mpr ⟨rfl, (List.forall_mem_cons.mpr ⟨rfl, (List.forall_mem_cons.mpr ⟨rfl, (List.forall_mem_cons.mpr ⟨rfl, fun _ h => absurd h List.not_mem_nil⟩)⟩)⟩)⟩)⟩)⟩)⟩)⟩) (lp_ind (Q_X9_writePackets_14 m0 sh rr r x ww o so sc pl qo pn bm tg px fa hb n) (fun _ _ _ _ _ _ res hq hF => (hF hq.symm).elim) (fun k hk => b_X9_writePackets_14 m0 sh rr r x ww o so sc pl qo pn bm tg px fa hb n hr ho  k hk) FU a2 a3 a4 (a2 * (x_w x)) (0 : Int32) y _ hE hF)
def P_X7_fill (m0 : Mnt) (sh : Nat → Nat) (rr : Nat → Ras) (r : Nat) (ww : Nat → Row) (so : Nat) (sc : Src) (pl : Pal) (qo : Qoi) (pn : Pnm) (bm : Bmp) (tg : Tga) (px : Pcx) (fa : A) (hb : aH) (n : Nat) (res : Out Ras Unit) : Option Value → aH → Nat → Prop := fun r1 h2 n2 => ∃ (a : Unit) (s : Ras), res = fok a s ∧ r1 = none ∧ h2 = HC m0 sh (va_up rr r s) ww so sc pl qo pn bm tg px fa hb ∧ n = n2
abbrev Q_X7_fill_7 (m0 : Mnt) (sh : Nat → Nat) (rr : Nat → Ras) (r : Nat) (ww : Nat → Row) (so : Nat) (sc : Src) (pl : Pal) (qo : Qoi) (pn : Pnm) (bm : Bmp) (tg : Tga) (px : Pcx) (fa : A) (hb : aH) (n : Nat) (k : Int32 → Int32 → Int32 → Ras → Out Ras Unit) : Prop := ∀ (v1 : Int32) (v2 : Int32) (v3 : Int32) (x : Ras) (res : Out Ras Unit), k v1 v2 v3 x = res → res ≠ fno → AW (fun _ _ => True) mX7_fill (rmD 2 0 0) 0 0 (P_X7_fill m0 sh rr r ww so sc pl qo pn bm tg px fa hb n res) (fun _ _ _ => False) 0 0 7 [(0, .ref r), (1, .int v1), (2, .int v2), (3, .int v3)] [] (HC m0 sh (va_up rr r x) ww so sc pl qo pn bm tg px fa hb) n
def F_X7_fill_7  (k7 : Int32 → Int32 → Int32 → Ras → Out Ras Unit) (v1 : Int32) (v2 : Int32) (v3 : Int32) (x : Ras) : Out Ras Unit := if v2 ≤ v3 then (fok () x) else (fon (F_X7_set v3 v1 x) (fun z15 s15 => k7 v1 v2 (v3 + 1) s15) (fun _ _ => fno))
set_option maxHeartbeats 1000000 in
set_option maxRecDepth 100000 in
theorem b_X7_fill_7 (m0 : Mnt) (sh : Nat → Nat) (rr : Nat → Ras) (r : Nat) (ww : Nat → Row) (so : Nat) (sc : Src) (pl : Pal) (qo : Qoi) (pn : Pnm) (bm : Bmp) (tg : Tga) (px : Pcx) (fa : A) (hb : aH) (n : Nat) (hr : isR r) (k7 : Int32 → Int32 → Int32 → Ras → Out Ras Unit) (hk7 : Q_X7_fill_7 m0 sh rr r ww so sc pl qo pn bm tg px fa hb n k7) : Q_X7_fill_7 m0 sh rr r ww so sc pl qo pn bm tg px fa hb n (F_X7_fill_7 k7) := by
  intro v1 v2 v3 x res hE hF
  unfold F_X7_fill_7 at hE
  refine aw_iload_n dX7_fill_7 rfl ?_
  refine aw_iload_n dX7_fill_8 rfl ?_
  refine aw_icmp_ge (tgt := 24) dX7_fill_9 (by decide) (fun c9 => ?_) (fun c9 => ?_)
  · replace hE := fit hE c9
    exact aw_vret dX7_fill_24 rfl (Nat.zero_le _) (Nat.zero_le _) (Nat.zero_le _) (Nat.zero_le _) ⟨_, _, hE.symm, rfl, rfl, rfl⟩
  · replace hE := fif hE c9
    refine aw_aload_n dX7_fill_12 rfl ?_
    refine aw_iload_n dX7_fill_13 rfl ?_
    refine aw_iload_n dX7_fill_14 rfl ?_
    refine aw_callV dX7_fill_15 (at_ras hr) cvX7_26 rfl (kF_X7_set m0 sh rr r x ww so sc pl qo pn bm tg px fa hb _ hr v3 v1 (fon_ne hE hF)) rfl (Nat.le_of_ble_eq_true rfl) (by decide) (by decide) (by decide) (by decide) (fun _ _ _ hf => False.elim hf) (fun r15 h15 n15 hp15 => ?_)
    obtain ⟨z15, s15, e15, rfl, rfl, rfl⟩ := hp15
    replace hE := fon_ok e15 hE
    refine aw_iinc (v := (v3 + 1)) (lv2 := [(3, _), (0, _), (1, _), (2, _)]) dX7_fill_18 rfl (incE (by decide)) (by decide) rfl ?_
    refine aw_goto (tgt := 7) dX7_fill_21 (by decide) ?_
    exact aw_lv _ (List.forall_mem_cons.mpr ⟨rfl, (List.forall_mem_cons.mpr ⟨rfl, (List.forall_mem_cons.mpr ⟨rfl, (List.forall_mem_cons.mpr ⟨rfl, fun _ h => absurd h List.not_mem_nil⟩)⟩)⟩)⟩) (hk7 v1 v2 (v3 + 1) s15 _ hE hF)
def F_X7_fill (a1 : Int32) (x : Ras) : Out Ras Unit := fon (F_X7_count x) (fun z1 s1 => lp (fun _ _ _ _ => fno) (F_X7_fill_7 ) FU a1 z1 (0 : Int32) x) (fun _ _ => fno)
set_option maxHeartbeats 1000000 in
set_option maxRecDepth 100000 in
theorem kF_X7_fill (m0 : Mnt) (sh : Nat → Nat) (rr : Nat → Ras) (r : Nat) (x : Ras) (ww : Nat → Row) (so : Nat) (sc : Src) (pl : Pal) (qo : Qoi) (pn : Pnm) (bm : Bmp) (tg : Tga) (px : Pcx) (fa : A) (hb : aH) (n : Nat) (hr : isR r) (a1 : Int32) (hF : F_X7_fill a1 x ≠ fno) : AM mX7_fill 2 [.ref r, .int a1] (HC m0 sh (va_up rr r x) ww so sc pl qo pn bm tg px fa hb) n 0 0 0 0 (P_X7_fill m0 sh rr r ww so sc pl qo pn bm tg px fa hb n (F_X7_fill a1 x)) (fun _ _ _ => False) := by
  generalize hE : F_X7_fill a1 x = res at hF ⊢
  refine aw_of (by decide +kernel) rfl (Nat.le_of_ble_eq_true rfl) ?_
  unfold F_X7_fill at hE
  refine aw_aload_n dX7_fill_0 rfl ?_
  refine aw_callV dX7_fill_1 (at_ras hr) cvX7_22 rfl (kF_X7_count m0 sh rr r x ww so sc pl qo pn bm tg px fa hb _ hr  (fon_ne hE hF)) rfl (Nat.le_of_ble_eq_true rfl) (by decide) (by decide) (by decide) (by decide) (fun _ _ _ hf => False.elim hf) (fun r1 h1 n1 hp1 => ?_)
  obtain ⟨z1, s1, e1, rfl, rfl, rfl⟩ := hp1
  replace hE := fon_ok e1 hE
  refine aw_istore_n (lv2 := [(2, _), (0, _), (1, _)]) dX7_fill_4 (by decide) rfl ?_
  refine aw_iconst (v := 0) dX7_fill_5 (by decide) ?_
  refine aw_istore_n (lv2 := [(3, _), (2, _), (0, _), (1, _)]) dX7_fill_6 (by decide) rfl ?_
  exact aw_lv _ (List.forall_mem_cons.mpr ⟨rfl, (List.forall_mem_cons.mpr ⟨rfl, (List.forall_mem_cons.mpr ⟨rfl, (List.forall_mem_cons.mpr ⟨rfl, fun _ h => absurd h List.not_mem_nil⟩)⟩)⟩)⟩) (lp_ind (Q_X7_fill_7 m0 sh rr r ww so sc pl qo pn bm tg px fa hb n) (fun _ _ _ _ res hq hF => (hF hq.symm).elim) (fun k hk => b_X7_fill_7 m0 sh rr r ww so sc pl qo pn bm tg px fa hb n hr  k hk) FU a1 z1 (0 : Int32) x _ hE hF)
def P_X8_want (m0 : Mnt) (sh : Nat → Nat) (rr : Nat → Ras) (ww : Nat → Row) (so : Nat) (pl : Pal) (qo : Qoi) (pn : Pnm) (bm : Bmp) (tg : Tga) (px : Pcx) (fa : A) (hb : aH) (n : Nat) (res : Out Src Unit) : Option Value → aH → Nat → Prop := fun r1 h2 n2 => ∃ (a : Unit) (s : Src), res = fok a s ∧ r1 = none ∧ h2 = HC m0 sh rr ww so s pl qo pn bm tg px fa hb ∧ n = n2
def X_X8_want (m0 : Mnt) (sh : Nat → Nat) (rr : Nat → Ras) (ww : Nat → Row) (so : Nat) (pl : Pal) (qo : Qoi) (pn : Pnm) (bm : Bmp) (tg : Tga) (px : Pcx) (fa : A) (hb : aH) (n : Nat) (res : Out Src Unit) : String → aH → Nat → Prop := fun E h2 n2 => ∃ s : Src, res = fex E s ∧ h2 = HC m0 sh rr ww so s pl qo pn bm tg px fa hb ∧ n = n2
def F_X8_want (a1 : Int32) (sc : Src) (sb : A) : Out Src Unit := fon (F_X8_next sc sb) (fun z6 s6 => if z6 = a1 then (fok () s6) else (fon (F_X8_refuse 2 (sc_pos sc) s6) (fun _ _ => fno) (fun E s16 => fex E s16))) (fun E s6 => fex E s6)
set_option maxHeartbeats 1000000 in
set_option maxRecDepth 100000 in
theorem kF_X8_want (m0 : Mnt) (sh : Nat → Nat) (rr : Nat → Ras) (ww : Nat → Row) (so : Nat) (sc : Src) (pl : Pal) (qo : Qoi) (pn : Pnm) (bm : Bmp) (tg : Tga) (px : Pcx) (fa : A) (hb : aH) (n : Nat) (hso : isW so) (a1 : Int32) (hF : F_X8_want a1 sc (y_b (ww so)) ≠ fno) : AM mX8_want 4 [.ref 16, .int a1] (HC m0 sh rr ww so sc pl qo pn bm tg px fa hb) n 1 6 0 0 (P_X8_want m0 sh rr ww so pl qo pn bm tg px fa hb n (F_X8_want a1 sc (y_b (ww so)))) (X_X8_want m0 sh rr ww so pl qo pn bm tg px fa hb n (F_X8_want a1 sc (y_b (ww so)))) := by
  generalize hE : F_X8_want a1 sc (y_b (ww so)) = res at hF ⊢
  refine aw_of (by decide +kernel) rfl (Nat.le_of_ble_eq_true rfl) ?_
  unfold F_X8_want at hE
  refine aw_aload_n dX8_want_0 rfl ?_
  refine aw_getf (v := .int (sc_pos sc)) dX8_want_1 flX8_25_7 at_src rfl ?_
  refine aw_istore_n (lv2 := [(2, _), (0, _), (1, _)]) dX8_want_4 (by decide) rfl ?_
  refine aw_aload_n dX8_want_5 rfl ?_
  refine aw_callV dX8_want_6 at_src cvX8_43 rfl (kF_X8_next m0 sh rr ww so sc pl qo pn bm tg px fa hb _ hso  (fon_ne hE hF)) rfl (Nat.le_of_ble_eq_true rfl) (by decide) (by decide) (by decide) (by decide) (fun E h2 n2 hx => aw_out rfl (by decide) (by decide) (by obtain ⟨s6, e6, rfl, rfl⟩ := hx; exact ⟨_, (fon_ex e6 hE).symm, rfl, rfl⟩)) (fun r6 h6 n6 hp6 => ?_)
  obtain ⟨z6, s6, e6, rfl, rfl, rfl⟩ := hp6
  replace hE := fon_ok e6 hE
  refine aw_iload_n dX8_want_9 rfl ?_
  refine aw_icmp_eq (tgt := 19) dX8_want_10 (by decide) (fun c10 => ?_) (fun c10 => ?_)
  · replace hE := fit hE c10
    exact aw_vret dX8_want_19 rfl (Nat.zero_le _) (Nat.zero_le _) (Nat.zero_le _) (Nat.zero_le _) ⟨_, _, hE.symm, rfl, rfl, rfl⟩
  · replace hE := fif hE c10
    refine aw_aload_n dX8_want_13 rfl ?_
    refine aw_iconst (v := 2) dX8_want_14 (by decide) ?_
    refine aw_iload_n dX8_want_15 rfl ?_
    refine aw_callV dX8_want_16 at_src cvX8_50 rfl (kF_X8_refuse m0 sh rr ww so s6 pl qo pn bm tg px fa hb _  2 (sc_pos sc) (fon_ne hE hF)) rfl (Nat.le_of_ble_eq_true rfl) (by decide) (by decide) (by decide) (by decide) (fun E h2 n2 hx => aw_out rfl (by decide) (by decide) (by obtain ⟨s16, e16, rfl, rfl⟩ := hx; exact ⟨_, (fon_ex e16 hE).symm, rfl, rfl⟩)) (fun r16 h16 n16 hp16 => ?_)
    obtain ⟨z16, s16, e16, rfl, rfl, rfl⟩ := hp16
    exact (hF (fon_ok e16 hE).symm).elim
def P_X8_low4 (m0 : Mnt) (sh : Nat → Nat) (rr : Nat → Ras) (ww : Nat → Row) (so : Nat) (pl : Pal) (qo : Qoi) (pn : Pnm) (bm : Bmp) (tg : Tga) (px : Pcx) (fa : A) (hb : aH) (n : Nat) (res : Out Src Int32) : Option Value → aH → Nat → Prop := fun r1 h2 n2 => ∃ (a : Int32) (s : Src), res = fok a s ∧ r1 = some (.int a) ∧ h2 = HC m0 sh rr ww so s pl qo pn bm tg px fa hb ∧ n = n2
def X_X8_low4 (m0 : Mnt) (sh : Nat → Nat) (rr : Nat → Ras) (ww : Nat → Row) (so : Nat) (pl : Pal) (qo : Qoi) (pn : Pnm) (bm : Bmp) (tg : Tga) (px : Pcx) (fa : A) (hb : aH) (n : Nat) (res : Out Src Int32) : String → aH → Nat → Prop := fun E h2 n2 => ∃ s : Src, res = fex E s ∧ h2 = HC m0 sh rr ww so s pl qo pn bm tg px fa hb ∧ n = n2
def F_X8_low4 (sc : Src) (sb : A) : Out Src Int32 := fon (F_X8_low2 sc sb) (fun z1 s1 => fon (F_X8_low2 s1 sb) (fun z6 s6 => fok (((z6 <<< ((16 : Int32) &&& 31)) ||| z1) : Int32) s6) (fun E s6 => fex E s6)) (fun E s1 => fex E s1)
set_option maxHeartbeats 1000000 in
set_option maxRecDepth 100000 in
theorem kF_X8_low4 (m0 : Mnt) (sh : Nat → Nat) (rr : Nat → Ras) (ww : Nat → Row) (so : Nat) (sc : Src) (pl : Pal) (qo : Qoi) (pn : Pnm) (bm : Bmp) (tg : Tga) (px : Pcx) (fa : A) (hb : aH) (n : Nat) (hso : isW so)  (hF : F_X8_low4 sc (y_b (ww so)) ≠ fno) : AM mX8_low4 5 [.ref 16] (HC m0 sh rr ww so sc pl qo pn bm tg px fa hb) n 1 6 0 0 (P_X8_low4 m0 sh rr ww so pl qo pn bm tg px fa hb n (F_X8_low4 sc (y_b (ww so)))) (X_X8_low4 m0 sh rr ww so pl qo pn bm tg px fa hb n (F_X8_low4 sc (y_b (ww so)))) := by
  generalize hE : F_X8_low4 sc (y_b (ww so)) = res at hF ⊢
  refine aw_of (by decide +kernel) rfl (Nat.le_of_ble_eq_true rfl) ?_
  unfold F_X8_low4 at hE
  refine aw_aload_n dX8_low4_0 rfl ?_
  refine aw_callV dX8_low4_1 at_src cvX8_47 rfl (kF_X8_low2 m0 sh rr ww so sc pl qo pn bm tg px fa hb _ hso  (fon_ne hE hF)) rfl (Nat.le_of_ble_eq_true rfl) (by decide) (by decide) (by decide) (by decide) (fun E h2 n2 hx => aw_out rfl (by decide) (by decide) (by obtain ⟨s1, e1, rfl, rfl⟩ := hx; exact ⟨_, (fon_ex e1 hE).symm, rfl, rfl⟩)) (fun r1 h1 n1 hp1 => ?_)
  obtain ⟨z1, s1, e1, rfl, rfl, rfl⟩ := hp1
  replace hE := fon_ok e1 hE
  refine aw_istore_n (lv2 := [(1, _), (0, _)]) dX8_low4_4 (by decide) rfl ?_
  refine aw_aload_n dX8_low4_5 rfl ?_
  refine aw_callV dX8_low4_6 at_src cvX8_47 rfl (kF_X8_low2 m0 sh rr ww so s1 pl qo pn bm tg px fa hb _ hso  (fon_ne hE hF)) rfl (Nat.le_of_ble_eq_true rfl) (by decide) (by decide) (by decide) (by decide) (fun E h2 n2 hx => aw_out rfl (by decide) (by decide) (by obtain ⟨s6, e6, rfl, rfl⟩ := hx; exact ⟨_, (fon_ex e6 hE).symm, rfl, rfl⟩)) (fun r6 h6 n6 hp6 => ?_)
  obtain ⟨z6, s6, e6, rfl, rfl, rfl⟩ := hp6
  replace hE := fon_ok e6 hE
  refine aw_bipush (v := 16) dX8_low4_9 (by decide) ?_
  refine aw_ishl dX8_low4_11 ?_
  refine aw_iload_n dX8_low4_12 rfl ?_
  refine aw_ior dX8_low4_13 ?_
  exact aw_iret dX8_low4_14 rfl (Nat.zero_le _) (Nat.zero_le _) (Nat.zero_le _) (Nat.zero_le _) ⟨_, _, hE.symm, rfl, rfl, rfl⟩
