def P_X6_writeChunks (m0 : Mnt) (sh : Nat → Nat) (rr : Nat → Ras) (r : Nat) (x : Ras) (ww : Nat → Row) (o : Nat) (so : Nat) (sc : Src) (pl : Pal) (pn : Pnm) (bm : Bmp) (tg : Tga) (px : Pcx) (fa : A) (hb : aH) (n : Nat) (res : Out (Row × Qoi) Unit) : Option Value → aH → Nat → Prop := fun r1 h2 n2 => ∃ (a : Unit) (s : (Row × Qoi)), res = fok a s ∧ r1 = none ∧ h2 = HC m0 sh (va_up rr r x) (va_up ww o s.1) so sc pl s.2 pn bm tg px fa hb ∧ n = n2
abbrev Q_X6_writeChunks_15 (m0 : Mnt) (sh : Nat → Nat) (rr : Nat → Ras) (r : Nat) (x : Ras) (ww : Nat → Row) (o : Nat) (so : Nat) (sc : Src) (pl : Pal) (pn : Pnm) (bm : Bmp) (tg : Tga) (px : Pcx) (fa : A) (hb : aH) (n : Nat) (k : Int32 → Int32 → Row → Qoi → Out (Row × Qoi) Unit) : Prop := ∀ (v4 : Int32) (v5 : Int32) (y : Row) (qo : Qoi) (res : Out (Row × Qoi) Unit), k v4 v5 y qo = res → res ≠ fno → AW (fun _ _ => True) mX6_writeChunks (rmD 4 0 0) 0 0 (P_X6_writeChunks m0 sh rr r x ww o so sc pl pn bm tg px fa hb n res) (fun _ _ _ => False) 0 0 15 [(0, .ref 21), (1, .ref r), (2, .ref o), (4, .int v4), (5, .int v5)] [] (HC m0 sh (va_up rr r x) (va_up ww o y) so sc pl qo pn bm tg px fa hb) n
abbrev Q_X6_writeChunks_70 (m0 : Mnt) (sh : Nat → Nat) (rr : Nat → Ras) (r : Nat) (x : Ras) (ww : Nat → Row) (o : Nat) (so : Nat) (sc : Src) (pl : Pal) (pn : Pnm) (bm : Bmp) (tg : Tga) (px : Pcx) (fa : A) (hb : aH) (n : Nat) (k : Int32 → Int32 → Int32 → Row → Qoi → Out (Row × Qoi) Unit) : Prop := ∀ (v4 : Int32) (v5 : Int32) (v6 : Int32) (y : Row) (qo : Qoi) (res : Out (Row × Qoi) Unit), k v4 v5 v6 y qo = res → res ≠ fno → AW (fun _ _ => True) mX6_writeChunks (rmD 4 0 0) 0 0 (P_X6_writeChunks m0 sh rr r x ww o so sc pl pn bm tg px fa hb n res) (fun _ _ _ => False) 0 0 70 [(0, .ref 21), (1, .ref r), (2, .ref o), (4, .int v4), (5, .int v5), (6, .int v6)] [] (HC m0 sh (va_up rr r x) (va_up ww o y) so sc pl qo pn bm tg px fa hb) n
def F_X6_writeChunks_70 (x : Ras) (k15 : Int32 → Int32 → Row → Qoi → Out (Row × Qoi) Unit) (v4 : Int32) (v5 : Int32) (v6 : Int32) (y : Row) (qo : Qoi) : Out (Row × Qoi) Unit := fon (F_X6_keep qo) (fun z71 s71 => k15 v4 (v5 + (iMax v6 1)) y s71) (fun _ _ => fno)
set_option maxHeartbeats 1000000 in
set_option maxRecDepth 100000 in
theorem b_X6_writeChunks_70 (m0 : Mnt) (sh : Nat → Nat) (rr : Nat → Ras) (r : Nat) (x : Ras) (ww : Nat → Row) (o : Nat) (so : Nat) (sc : Src) (pl : Pal) (pn : Pnm) (bm : Bmp) (tg : Tga) (px : Pcx) (fa : A) (hb : aH) (n : Nat) (hr : isR r) (ho : isW o) (k15 : Int32 → Int32 → Row → Qoi → Out (Row × Qoi) Unit) (hk15 : Q_X6_writeChunks_15 m0 sh rr r x ww o so sc pl pn bm tg px fa hb n k15) : Q_X6_writeChunks_70 m0 sh rr r x ww o so sc pl pn bm tg px fa hb n (F_X6_writeChunks_70 x k15) := by
  intro v4 v5 v6 y qo res hE hF
  unfold F_X6_writeChunks_70 at hE
  refine aw_aload_n dX6_writeChunks_70 rfl ?_
  refine aw_callV dX6_writeChunks_71 at_qoi cvX6_84 rfl (kF_X6_keep m0 sh (va_up rr r x) (va_up ww o y) so sc pl qo pn bm tg px fa hb _   (fon_ne hE hF)) rfl (Nat.le_of_ble_eq_true rfl) (by decide) (by decide) (by decide) (by decide) (fun _ _ _ hf => False.elim hf) (fun r71 h71 n71 hp71 => ?_)
  obtain ⟨z71, s71, e71, rfl, rfl, rfl⟩ := hp71
  replace hE := fon_ok e71 hE
  refine aw_iload dX6_writeChunks_74 rfl ?_
  refine aw_iconst (v := 1) dX6_writeChunks_76 (by decide) ?_
  refine aw_mmax dX6_writeChunks_77 csX6_153.1.1 csX6_153.2 csX6_153.1.2.1 csX6_153.1.2.2.1 (by decide) (Nat.le_of_ble_eq_true rfl) (Nat.zero_le _) (Nat.zero_le _) ?_
  refine aw_istore_n (lv2 := [(3, _), (0, _), (1, _), (2, _), (4, _), (5, _), (6, _)]) dX6_writeChunks_80 (by decide) rfl ?_
  refine aw_iload dX6_writeChunks_81 rfl ?_
  refine aw_iload_n dX6_writeChunks_83 rfl ?_
  refine aw_iadd dX6_writeChunks_84 ?_
  refine aw_istore (lv2 := [(5, _), (3, _), (0, _), (1, _), (2, _), (4, _), (6, _)]) dX6_writeChunks_85 (by decide) rfl ?_
  refine aw_goto (tgt := 15) dX6_writeChunks_87 (by decide) ?_
  exact aw_lv _ (List.forall_mem_cons.mpr ⟨rfl, (List.forall_mem_cons.mpr ⟨rfl, (List.forall_mem_cons.mpr ⟨rfl, (List.forall_mem_cons.mpr ⟨rfl, (List.forall_mem_cons.mpr ⟨rfl, fun _ h => absurd h List.not_mem_nil⟩)⟩)⟩)⟩)⟩) (hk15 v4 (v5 + (iMax v6 1)) y s71 _ hE hF)
def F_X6_writeChunks_15 (x : Ras) (k15 : Int32 → Int32 → Row → Qoi → Out (Row × Qoi) Unit) (v4 : Int32) (v5 : Int32) (y : Row) (qo : Qoi) : Out (Row × Qoi) Unit := if v4 ≤ v5 then (fok () (y, qo)) else (fon (F_X6_runAt v5 x qo) (fun z26 s26 => if z26 ≤ 0 then (fon (F_X7_get v5 x) (fun z53 s53 => fon (F_X6_writePixel z53 y qo) (fun z57 s57 => fon (F_X7_get v5 x) (fun z64 s64 => F_X6_writeChunks_70 x k15 v4 v5 z26 s57 ((qo_f1 qo), (qo_f2 qo), (qo_f3 qo), z64, (qo_pl qo))) (fun _ _ => fno)) (fun _ _ => fno)) (fun _ _ => fno)) else (fon (F_X1_add (191 + z26) y) (fun z43 s43 => F_X6_writeChunks_70 x k15 v4 v5 z26 s43 qo) (fun _ _ => fno))) (fun _ _ => fno))
set_option maxHeartbeats 1000000 in
set_option maxRecDepth 100000 in
theorem b_X6_writeChunks_15 (m0 : Mnt) (sh : Nat → Nat) (rr : Nat → Ras) (r : Nat) (x : Ras) (ww : Nat → Row) (o : Nat) (so : Nat) (sc : Src) (pl : Pal) (pn : Pnm) (bm : Bmp) (tg : Tga) (px : Pcx) (fa : A) (hb : aH) (n : Nat) (hr : isR r) (ho : isW o) (k15 : Int32 → Int32 → Row → Qoi → Out (Row × Qoi) Unit) (hk15 : Q_X6_writeChunks_15 m0 sh rr r x ww o so sc pl pn bm tg px fa hb n k15) : Q_X6_writeChunks_15 m0 sh rr r x ww o so sc pl pn bm tg px fa hb n (F_X6_writeChunks_15 x k15) := by
  intro v4 v5 y qo res hE hF
  unfold F_X6_writeChunks_15 at hE
  refine aw_iload dX6_writeChunks_15 rfl ?_
  refine aw_iload dX6_writeChunks_17 rfl ?_
  refine aw_icmp_ge (tgt := 90) dX6_writeChunks_19 (by decide) (fun c19 => ?_) (fun c19 => ?_)
  · replace hE := fit hE c19
    exact aw_vret dX6_writeChunks_90 rfl (Nat.zero_le _) (Nat.zero_le _) (Nat.zero_le _) (Nat.zero_le _) ⟨_, _, hE.symm, rfl, rfl, rfl⟩
  · replace hE := fif hE c19
    refine aw_aload_n dX6_writeChunks_22 rfl ?_
    refine aw_aload_n dX6_writeChunks_23 rfl ?_
    refine aw_iload dX6_writeChunks_24 rfl ?_
    refine aw_callV dX6_writeChunks_26 at_qoi cvX6_142 rfl (kF_X6_runAt m0 sh rr r x (va_up ww o y) so sc pl qo pn bm tg px fa hb _ hr v5 (fon_ne hE hF)) rfl (Nat.le_of_ble_eq_true rfl) (by decide) (by decide) (by decide) (by decide) (fun _ _ _ hf => False.elim hf) (fun r26 h26 n26 hp26 => ?_)
    obtain ⟨z26, s26, e26, rfl, rfl, rfl⟩ := hp26
    replace hE := fon_ok e26 hE
    refine aw_istore (lv2 := [(6, _), (0, _), (1, _), (2, _), (4, _), (5, _)]) dX6_writeChunks_29 (by decide) rfl ?_
    refine aw_iload dX6_writeChunks_31 rfl ?_
    refine aw_if_le (tgt := 49) dX6_writeChunks_33 (by decide) (fun c33 => ?_) (fun c33 => ?_)
    · replace hE := fit hE c33
      refine aw_aload_n dX6_writeChunks_49 rfl ?_
      refine aw_aload_n dX6_writeChunks_50 rfl ?_
      refine aw_iload dX6_writeChunks_51 rfl ?_
      refine aw_callV dX6_writeChunks_53 (at_ras hr) cvX6_146 rfl (kF_X7_get m0 sh rr r x (va_up ww o y) so sc pl qo pn bm tg px fa hb _ hr v5 (fon_ne hE hF)) rfl (Nat.le_of_ble_eq_true rfl) (by decide) (by decide) (by decide) (by decide) (fun _ _ _ hf => False.elim hf) (fun r53 h53 n53 hp53 => ?_)
      obtain ⟨z53, s53, e53, rfl, rfl, rfl⟩ := hp53
      replace hE := fon_ok e53 hE
      refine aw_aload_n dX6_writeChunks_56 rfl ?_
      refine aw_callV dX6_writeChunks_57 at_qoi cvX6_149 rfl (kF_X6_writePixel m0 sh (va_up rr r x) ww o y so sc pl qo pn bm tg px fa hb _ ho z53 (fon_ne hE hF)) rfl (Nat.le_of_ble_eq_true rfl) (by decide) (by decide) (by decide) (by decide) (fun _ _ _ hf => False.elim hf) (fun r57 h57 n57 hp57 => ?_)
      obtain ⟨z57, s57, e57, rfl, rfl, rfl⟩ := hp57
      replace hE := fon_ok e57 hE
      refine aw_aload_n dX6_writeChunks_60 rfl ?_
      refine aw_aload_n dX6_writeChunks_61 rfl ?_
      refine aw_iload dX6_writeChunks_62 rfl ?_
      refine aw_callV dX6_writeChunks_64 (at_ras hr) cvX6_146 rfl (kF_X7_get m0 sh rr r x (va_up ww o s57) so sc pl qo pn bm tg px fa hb _ hr v5 (fon_ne hE hF)) rfl (Nat.le_of_ble_eq_true rfl) (by decide) (by decide) (by decide) (by decide) (fun _ _ _ hf => False.elim hf) (fun r64 h64 n64 hp64 => ?_)
      obtain ⟨z64, s64, e64, rfl, rfl, rfl⟩ := hp64
      replace hE := fon_ok e64 hE
      refine aw_putf dX6_writeChunks_67 ptX6_78_5 at_qoi (Nat.le_of_ble_eq_true rfl) ⟨rfl, rfl⟩ ?_
      refine aw_eqh (h2 := HC m0 sh (va_up rr r x) (va_up ww o s57) so sc pl ((qo_f1 qo), (qo_f2 qo), (qo_f3 qo), z64, (qo_pl qo)) pn bm tg px fa hb) up_qoi ?_
      exact aw_lv _ (List.forall_mem_cons.mpr ⟨rfl, (List.forall_mem_cons.mpr ⟨rfl, (List.forall_mem_cons.mpr ⟨rfl, (List.forall_mem_cons.mpr ⟨rfl, (List.forall_mem_cons.mpr ⟨rfl, (List.forall_mem_cons.mpr ⟨rfl, fun _ h => absurd h List.not_mem_nil⟩)⟩)⟩)⟩)⟩)⟩) (b_X6_writeChunks_70 m0 sh rr r x ww o so sc pl pn bm tg px fa hb n hr ho k15 hk15 v4 v5 z26 s57 ((qo_f1 qo), (qo_f2 qo), (qo_f3 qo), z64, (qo_pl qo)) _ hE hF)
    · replace hE := fif hE c33
      refine aw_aload_n dX6_writeChunks_36 rfl ?_
      refine aw_sipush (v := 191) dX6_writeChunks_37 (by decide) ?_
      refine aw_iload dX6_writeChunks_40 rfl ?_
      refine aw_iadd dX6_writeChunks_42 ?_
      refine aw_callV dX6_writeChunks_43 (at_row ho) cvX6_117 rfl (kF_X1_add m0 sh (va_up rr r x) ww o y so sc pl qo pn bm tg px fa hb _ ho (191 + z26) (fon_ne hE hF)) rfl (Nat.le_of_ble_eq_true rfl) (by decide) (by decide) (by decide) (by decide) (fun _ _ _ hf => False.elim hf) (fun r43 h43 n43 hp43 => ?_)
      obtain ⟨z43, s43, e43, rfl, rfl, rfl⟩ := hp43
      replace hE := fon_ok e43 hE
      refine aw_goto (tgt := 70) dX6_writeChunks_46 (by decide) ?_
      exact aw_lv _ (List.forall_mem_cons.mpr ⟨rfl, (List.forall_mem_cons.mpr ⟨rfl, (List.forall_mem_cons.mpr ⟨rfl, (List.forall_mem_cons.mpr ⟨rfl, (List.forall_mem_cons.mpr ⟨rfl, (List.forall_mem_cons.mpr ⟨rfl, fun _ h => absurd h List.not_mem_nil⟩)⟩)⟩)⟩)⟩)⟩) (b_X6_writeChunks_70 m0 sh rr r x ww o so sc pl pn bm tg px fa hb n hr ho k15 hk15 v4 v5 z26 s43 qo _ hE hF)
def F_X6_writeChunks (x : Ras) (y : Row) (qo : Qoi) : Out (Row × Qoi) Unit := fon (F_X6_start qo) (fun z1 s1 => fon (F_X7_count x) (fun z7 s7 => lp (fun _ _ _ _ => fno) (F_X6_writeChunks_15 x) FU z7 (0 : Int32) y s1) (fun _ _ => fno)) (fun _ _ => fno)
set_option maxHeartbeats 1000000 in
set_option maxRecDepth 100000 in
theorem kF_X6_writeChunks (m0 : Mnt) (sh : Nat → Nat) (rr : Nat → Ras) (r : Nat) (x : Ras) (ww : Nat → Row) (o : Nat) (y : Row) (so : Nat) (sc : Src) (pl : Pal) (qo : Qoi) (pn : Pnm) (bm : Bmp) (tg : Tga) (px : Pcx) (fa : A) (hb : aH) (n : Nat) (hr : isR r) (ho : isW o)  (hF : F_X6_writeChunks x y qo ≠ fno) : AM mX6_writeChunks 4 [.ref 21, .ref r, .ref o] (HC m0 sh (va_up rr r x) (va_up ww o y) so sc pl qo pn bm tg px fa hb) n 0 0 0 0 (P_X6_writeChunks m0 sh rr r x ww o so sc pl pn bm tg px fa hb n (F_X6_writeChunks x y qo)) (fun _ _ _ => False) := by
  generalize hE : F_X6_writeChunks x y qo = res at hF ⊢
  refine aw_of (by decide +kernel) rfl (Nat.le_of_ble_eq_true rfl) ?_
  unfold F_X6_writeChunks at hE
  refine aw_aload_n dX6_writeChunks_0 rfl ?_
  refine aw_callV dX6_writeChunks_1 at_qoi cvX6_66 rfl (kF_X6_start m0 sh (va_up rr r x) (va_up ww o y) so sc pl qo pn bm tg px fa hb _   (fon_ne hE hF)) rfl (Nat.le_of_ble_eq_true rfl) (by decide) (by decide) (by decide) (by decide) (fun _ _ _ hf => False.elim hf) (fun r1 h1 n1 hp1 => ?_)
  obtain ⟨z1, s1, e1, rfl, rfl, rfl⟩ := hp1
  replace hE := fon_ok e1 hE
  refine aw_iconst (v := 1) dX6_writeChunks_4 (by decide) ?_
  refine aw_istore_n (lv2 := [(3, _), (0, _), (1, _), (2, _)]) dX6_writeChunks_5 (by decide) rfl ?_
  refine aw_aload_n dX6_writeChunks_6 rfl ?_
  refine aw_callV dX6_writeChunks_7 (at_ras hr) cvX6_69 rfl (kF_X7_count m0 sh rr r x (va_up ww o y) so sc pl s1 pn bm tg px fa hb _ hr  (fon_ne hE hF)) rfl (Nat.le_of_ble_eq_true rfl) (by decide) (by decide) (by decide) (by decide) (fun _ _ _ hf => False.elim hf) (fun r7 h7 n7 hp7 => ?_)
  obtain ⟨z7, s7, e7, rfl, rfl, rfl⟩ := hp7
  replace hE := fon_ok e7 hE
  refine aw_istore (lv2 := [(4, _), (3, _), (0, _), (1, _), (2, _)]) dX6_writeChunks_10 (by decide) rfl ?_
  refine aw_iconst (v := 0) dX6_writeChunks_12 (by decide) ?_
  refine aw_istore (lv2 := [(5, _), (4, _), (3, _), (0, _), (1, _), (2, _)]) dX6_writeChunks_13 (by decide) rfl ?_
  exact aw_lv _ (List.forall_mem_cons.mpr ⟨rfl, (List.forall_mem_cons.mpr ⟨rfl, (List.forall_mem_cons.mpr ⟨rfl, (List.forall_mem_cons.mpr ⟨rfl, (List.forall_mem_cons.mpr ⟨rfl, fun _ h => absurd h List.not_mem_nil⟩)⟩)⟩)⟩)⟩) (lp_ind (Q_X6_writeChunks_15 m0 sh rr r x ww o so sc pl pn bm tg px fa hb n) (fun _ _ _ _ res hq hF => (hF hq.symm).elim) (fun k hk => b_X6_writeChunks_15 m0 sh rr r x ww o so sc pl pn bm tg px fa hb n hr ho  k hk) FU z7 (0 : Int32) y s1 _ hE hF)
def P_X0_readRows (m0 : Mnt) (sh : Nat → Nat) (rr : Nat → Ras) (r : Nat) (ww : Nat → Row) (so : Nat) (pl : Pal) (qo : Qoi) (pn : Pnm) (tg : Tga) (px : Pcx) (fa : A) (hb : aH) (n : Nat) (res : Out (Ras × Src × Bmp) Unit) : Option Value → aH → Nat → Prop := fun r1 h2 n2 => ∃ (a : Unit) (s : (Ras × Src × Bmp)), res = fok a s ∧ r1 = none ∧ h2 = HC m0 sh (va_up rr r s.1) ww so s.2.1 pl qo pn s.2.2 tg px fa hb ∧ n = n2
def X_X0_readRows (m0 : Mnt) (sh : Nat → Nat) (rr : Nat → Ras) (r : Nat) (ww : Nat → Row) (so : Nat) (pl : Pal) (qo : Qoi) (pn : Pnm) (tg : Tga) (px : Pcx) (fa : A) (hb : aH) (n : Nat) (res : Out (Ras × Src × Bmp) Unit) : String → aH → Nat → Prop := fun E h2 n2 => ∃ s : (Ras × Src × Bmp), res = fex E s ∧ h2 = HC m0 sh (va_up rr r s.1) ww so s.2.1 pl qo pn s.2.2 tg px fa hb ∧ n = n2
abbrev Q_X0_readRows_19 (m0 : Mnt) (sh : Nat → Nat) (rr : Nat → Ras) (r : Nat) (ww : Nat → Row) (so : Nat) (pl : Pal) (qo : Qoi) (pn : Pnm) (tg : Tga) (px : Pcx) (fa : A) (hb : aH) (n : Nat) (k : Int32 → Int32 → Ras → Src → Bmp → Out (Ras × Src × Bmp) Unit) : Prop := ∀ (v3 : Int32) (v4 : Int32) (x : Ras) (sc : Src) (bm : Bmp) (res : Out (Ras × Src × Bmp) Unit), k v3 v4 x sc bm = res → res ≠ fno → AW (fun _ _ => True) mX0_readRows (rmD 6 1 6) 0 0 (P_X0_readRows m0 sh rr r ww so pl qo pn tg px fa hb n res) (X_X0_readRows m0 sh rr r ww so pl qo pn tg px fa hb n res) 0 0 19 [(0, .ref 24), (1, .ref 16), (2, .ref r), (3, .int v3), (4, .int v4)] [] (HC m0 sh (va_up rr r x) ww so sc pl qo pn bm tg px fa hb) n
abbrev Q_X0_readRows_49 (m0 : Mnt) (sh : Nat → Nat) (rr : Nat → Ras) (r : Nat) (ww : Nat → Row) (so : Nat) (pl : Pal) (qo : Qoi) (pn : Pnm) (tg : Tga) (px : Pcx) (fa : A) (hb : aH) (n : Nat) (k : Int32 → Int32 → Int32 → Ras → Src → Bmp → Out (Ras × Src × Bmp) Unit) : Prop := ∀ (v3 : Int32) (v4 : Int32) (t0 : Int32) (x : Ras) (sc : Src) (bm : Bmp) (res : Out (Ras × Src × Bmp) Unit), k v3 v4 t0 x sc bm = res → res ≠ fno → AW (fun _ _ => True) mX0_readRows (rmD 6 1 6) 0 0 (P_X0_readRows m0 sh rr r ww so pl qo pn tg px fa hb n res) (X_X0_readRows m0 sh rr r ww so pl qo pn tg px fa hb n res) 0 0 49 [(0, .ref 24), (1, .ref 16), (2, .ref r), (3, .int v3), (4, .int v4)] [.int t0] (HC m0 sh (va_up rr r x) ww so sc pl qo pn bm tg px fa hb) n
abbrev Q_X0_readRows_59 (m0 : Mnt) (sh : Nat → Nat) (rr : Nat → Ras) (r : Nat) (ww : Nat → Row) (so : Nat) (pl : Pal) (qo : Qoi) (pn : Pnm) (tg : Tga) (px : Pcx) (fa : A) (hb : aH) (n : Nat) (k : Int32 → Int32 → Int32 → Int32 → Ras → Src → Bmp → Out (Ras × Src × Bmp) Unit) : Prop := ∀ (v3 : Int32) (v4 : Int32) (v5 : Int32) (v6 : Int32) (x : Ras) (sc : Src) (bm : Bmp) (res : Out (Ras × Src × Bmp) Unit), k v3 v4 v5 v6 x sc bm = res → res ≠ fno → AW (fun _ _ => True) mX0_readRows (rmD 6 1 6) 0 0 (P_X0_readRows m0 sh rr r ww so pl qo pn tg px fa hb n res) (X_X0_readRows m0 sh rr r ww so pl qo pn tg px fa hb n res) 0 0 59 [(0, .ref 24), (1, .ref 16), (2, .ref r), (3, .int v3), (4, .int v4), (5, .int v5), (6, .int v6)] [] (HC m0 sh (va_up rr r x) ww so sc pl qo pn bm tg px fa hb) n
abbrev Q_X0_readRows_98 (m0 : Mnt) (sh : Nat → Nat) (rr : Nat → Ras) (r : Nat) (ww : Nat → Row) (so : Nat) (pl : Pal) (qo : Qoi) (pn : Pnm) (tg : Tga) (px : Pcx) (fa : A) (hb : aH) (n : Nat) (k : Int32 → Int32 → Int32 → Int32 → Int32 → Int32 → Ras → Src → Bmp → Out (Ras × Src × Bmp) Unit) : Prop := ∀ (v3 : Int32) (v4 : Int32) (v5 : Int32) (v6 : Int32) (t0 : Int32) (t1 : Int32) (x : Ras) (sc : Src) (bm : Bmp) (res : Out (Ras × Src × Bmp) Unit), k v3 v4 v5 v6 t0 t1 x sc bm = res → res ≠ fno → AW (fun _ _ => True) mX0_readRows (rmD 6 1 6) 0 0 (P_X0_readRows m0 sh rr r ww so pl qo pn tg px fa hb n res) (X_X0_readRows m0 sh rr r ww so pl qo pn tg px fa hb n res) 0 0 98 [(0, .ref 24), (1, .ref 16), (2, .ref r), (3, .int v3), (4, .int v4), (5, .int v5), (6, .int v6)] [.int t0, .int t1, .ref r] (HC m0 sh (va_up rr r x) ww so sc pl qo pn bm tg px fa hb) n
def F_X0_readRows_98 (sb : A) (k19 : Int32 → Int32 → Ras → Src → Bmp → Out (Ras × Src × Bmp) Unit) (k59 : Int32 → Int32 → Int32 → Int32 → Ras → Src → Bmp → Out (Ras × Src × Bmp) Unit) (v3 : Int32) (v4 : Int32) (v5 : Int32) (v6 : Int32) (t0 : Int32) (t1 : Int32) (x : Ras) (sc : Src) (bm : Bmp) : Out (Ras × Src × Bmp) Unit := fon (F_X7_set t1 t0 x) (fun z98 s98 => k59 v3 v4 v5 (v6 + 1) s98 sc bm) (fun _ _ => fno)
set_option maxHeartbeats 1000000 in
set_option maxRecDepth 100000 in
theorem b_X0_readRows_98 (m0 : Mnt) (sh : Nat → Nat) (rr : Nat → Ras) (r : Nat) (ww : Nat → Row) (so : Nat) (pl : Pal) (qo : Qoi) (pn : Pnm) (tg : Tga) (px : Pcx) (fa : A) (hb : aH) (n : Nat) (hr : isR r) (hso : isW so) (k19 : Int32 → Int32 → Ras → Src → Bmp → Out (Ras × Src × Bmp) Unit) (hk19 : Q_X0_readRows_19 m0 sh rr r ww so pl qo pn tg px fa hb n k19) (k59 : Int32 → Int32 → Int32 → Int32 → Ras → Src → Bmp → Out (Ras × Src × Bmp) Unit) (hk59 : Q_X0_readRows_59 m0 sh rr r ww so pl qo pn tg px fa hb n k59) : Q_X0_readRows_98 m0 sh rr r ww so pl qo pn tg px fa hb n (F_X0_readRows_98 (y_b (ww so)) k19 k59) := by
  intro v3 v4 v5 v6 t0 t1 x sc bm res hE hF
  unfold F_X0_readRows_98 at hE
  refine aw_callV dX0_readRows_98 (at_ras hr) cvX0_134 rfl (kF_X7_set m0 sh rr r x ww so sc pl qo pn bm tg px fa hb _ hr t1 t0 (fon_ne hE hF)) rfl (Nat.le_of_ble_eq_true rfl) (by decide) (by decide) (by decide) (by decide) (fun _ _ _ hf => False.elim hf) (fun r98 h98 n98 hp98 => ?_)
  obtain ⟨z98, s98, e98, rfl, rfl, rfl⟩ := hp98
  replace hE := fon_ok e98 hE
  refine aw_iinc (v := (v6 + 1)) (lv2 := [(6, _), (0, _), (1, _), (2, _), (3, _), (4, _), (5, _)]) dX0_readRows_101 rfl (incE (by decide)) (by decide) rfl ?_
  refine aw_goto (tgt := 59) dX0_readRows_104 (by decide) ?_
  exact aw_lv _ (List.forall_mem_cons.mpr ⟨rfl, (List.forall_mem_cons.mpr ⟨rfl, (List.forall_mem_cons.mpr ⟨rfl, (List.forall_mem_cons.mpr ⟨rfl, (List.forall_mem_cons.mpr ⟨rfl, (List.forall_mem_cons.mpr ⟨rfl, (List.forall_mem_cons.mpr ⟨rfl, fun _ h => absurd h List.not_mem_nil⟩)⟩)⟩)⟩)⟩)⟩)⟩) (hk59 v3 v4 v5 (v6 + 1) s98 sc bm _ hE hF)
def F_X0_readRows_59 (sb : A) (k19 : Int32 → Int32 → Ras → Src → Bmp → Out (Ras × Src × Bmp) Unit) (k59 : Int32 → Int32 → Int32 → Int32 → Ras → Src → Bmp → Out (Ras × Src × Bmp) Unit) (v3 : Int32) (v4 : Int32) (v5 : Int32) (v6 : Int32) (x : Ras) (sc : Src) (bm : Bmp) : Out (Ras × Src × Bmp) Unit := if (x_w x) ≤ v6 then (fon (F_X8_pass ((-v3) &&& 3) sc sb) (fun z112 s112 => k19 v3 (v4 + 1) x s112 bm) (fun E s112 => fex E (x, s112, bm))) else (if 8 < (bm_bits bm) then (fon (F_X0_readDirect sc sb bm) (fun z95 s95 => F_X0_readRows_98 sb k19 k59 v3 v4 v5 v6 z95 (v5 + v6) x s95 bm) (fun E s95 => fex E (x, s95, bm))) else (fon (F_X0_readIndexed v6 sc sb bm) (fun z87 s87 => F_X0_readRows_98 sb k19 k59 v3 v4 v5 v6 z87 (v5 + v6) x s87.1 s87.2) (fun E s87 => fex E (x, s87.1, s87.2))))
set_option maxHeartbeats 1000000 in
set_option maxRecDepth 100000 in
theorem b_X0_readRows_59 (m0 : Mnt) (sh : Nat → Nat) (rr : Nat → Ras) (r : Nat) (ww : Nat → Row) (so : Nat) (pl : Pal) (qo : Qoi) (pn : Pnm) (tg : Tga) (px : Pcx) (fa : A) (hb : aH) (n : Nat) (hr : isR r) (hso : isW so) (k19 : Int32 → Int32 → Ras → Src → Bmp → Out (Ras × Src × Bmp) Unit) (hk19 : Q_X0_readRows_19 m0 sh rr r ww so pl qo pn tg px fa hb n k19) (k59 : Int32 → Int32 → Int32 → Int32 → Ras → Src → Bmp → Out (Ras × Src × Bmp) Unit) (hk59 : Q_X0_readRows_59 m0 sh rr r ww so pl qo pn tg px fa hb n k59) : Q_X0_readRows_59 m0 sh rr r ww so pl qo pn tg px fa hb n (F_X0_readRows_59 (y_b (ww so)) k19 k59) := by
  intro v3 v4 v5 v6 x sc bm res hE hF
  unfold F_X0_readRows_59 at hE
  refine aw_iload dX0_readRows_59 rfl ?_
  refine aw_aload_n dX0_readRows_61 rfl ?_
  refine aw_getf (v := .int (x_w x)) dX0_readRows_62 flX0_119_6 (at_ras hr) rfl ?_
  refine aw_icmp_ge (tgt := 107) dX0_readRows_65 (by decide) (fun c65 => ?_) (fun c65 => ?_)
  · replace hE := fit hE c65
    refine aw_aload_n dX0_readRows_107 rfl ?_
    refine aw_iload_n dX0_readRows_108 rfl ?_
    refine aw_ineg dX0_readRows_109 ?_
    refine aw_iconst (v := 3) dX0_readRows_110 (by decide) ?_
    refine aw_iand dX0_readRows_111 ?_
    refine aw_callV dX0_readRows_112 at_src cvX0_44 rfl (kF_X8_pass m0 sh (va_up rr r x) ww so sc pl qo pn bm tg px fa hb _ hso ((-v3) &&& 3) (fon_ne hE hF)) rfl (Nat.le_of_ble_eq_true rfl) (by decide) (by decide) (by decide) (by decide) (fun E h2 n2 hx => aw_out rfl (by decide) (by decide) (by obtain ⟨s112, e112, rfl, rfl⟩ := hx; exact ⟨_, (fon_ex e112 hE).symm, rfl, rfl⟩)) (fun r112 h112 n112 hp112 => ?_)
    obtain ⟨z112, s112, e112, rfl, rfl, rfl⟩ := hp112
    replace hE := fon_ok e112 hE
    refine aw_iinc (v := (v4 + 1)) (lv2 := [(4, _), (0, _), (1, _), (2, _), (3, _), (5, _), (6, _)]) dX0_readRows_115 rfl (incE (by decide)) (by decide) rfl ?_
    refine aw_goto (tgt := 19) dX0_readRows_118 (by decide) ?_
    exact aw_lv _ (List.forall_mem_cons.mpr ⟨rfl, (List.forall_mem_cons.mpr ⟨rfl, (List.forall_mem_cons.mpr ⟨rfl, (List.forall_mem_cons.mpr ⟨rfl, (List.forall_mem_cons.mpr ⟨rfl, fun _ h => absurd h List.not_mem_nil⟩)⟩)⟩)⟩)⟩) (hk19 v3 (v4 + 1) x s112 bm _ hE hF)
  · replace hE := fif hE c65
    refine aw_aload_n dX0_readRows_68 rfl ?_
    refine aw_iload dX0_readRows_69 rfl ?_
    refine aw_iload dX0_readRows_71 rfl ?_
    refine aw_iadd dX0_readRows_73 ?_
    refine aw_aload_n dX0_readRows_74 rfl ?_
    refine aw_getf (v := .int (bm_bits bm)) dX0_readRows_75 flX0_72_0 at_bmp rfl ?_
    refine aw_bipush (v := 8) dX0_readRows_78 (by decide) ?_
    refine aw_icmp_gt (tgt := 93) dX0_readRows_80 (by decide) (fun c80 => ?_) (fun c80 => ?_)
    · replace hE := fit hE c80
      refine aw_aload_n dX0_readRows_93 rfl ?_
      refine aw_aload_n dX0_readRows_94 rfl ?_
      refine aw_callV dX0_readRows_95 at_bmp cvX0_131 rfl (kF_X0_readDirect m0 sh (va_up rr r x) ww so sc pl qo pn bm tg px fa hb _ hso  (fon_ne hE hF)) rfl (Nat.le_of_ble_eq_true rfl) (by decide) (by decide) (by decide) (by decide) (fun E h2 n2 hx => aw_out rfl (by decide) (by decide) (by obtain ⟨s95, e95, rfl, rfl⟩ := hx; exact ⟨_, (fon_ex e95 hE).symm, rfl, rfl⟩)) (fun r95 h95 n95 hp95 => ?_)
      obtain ⟨z95, s95, e95, rfl, rfl, rfl⟩ := hp95
      replace hE := fon_ok e95 hE
      exact aw_lv _ (List.forall_mem_cons.mpr ⟨rfl, (List.forall_mem_cons.mpr ⟨rfl, (List.forall_mem_cons.mpr ⟨rfl, (List.forall_mem_cons.mpr ⟨rfl, (List.forall_mem_cons.mpr ⟨rfl, (List.forall_mem_cons.mpr ⟨rfl, (List.forall_mem_cons.mpr ⟨rfl, fun _ h => absurd h List.not_mem_nil⟩)⟩)⟩)⟩)⟩)⟩)⟩) (b_X0_readRows_98 m0 sh rr r ww so pl qo pn tg px fa hb n hr hso k19 hk19 k59 hk59 v3 v4 v5 v6 z95 (v5 + v6) x s95 bm _ hE hF)
    · replace hE := fif hE c80
      refine aw_aload_n dX0_readRows_83 rfl ?_
      refine aw_aload_n dX0_readRows_84 rfl ?_
      refine aw_iload dX0_readRows_85 rfl ?_
      refine aw_callV dX0_readRows_87 at_bmp cvX0_127 rfl (kF_X0_readIndexed m0 sh (va_up rr r x) ww so sc pl qo pn bm tg px fa hb _ hso v6 (fon_ne hE hF)) rfl (Nat.le_of_ble_eq_true rfl) (by decide) (by decide) (by decide) (by decide) (fun E h2 n2 hx => aw_out rfl (by decide) (by decide) (by obtain ⟨s87, e87, rfl, rfl⟩ := hx; exact ⟨_, (fon_ex e87 hE).symm, rfl, rfl⟩)) (fun r87 h87 n87 hp87 => ?_)
      obtain ⟨z87, s87, e87, rfl, rfl, rfl⟩ := hp87
      replace hE := fon_ok e87 hE
      refine aw_goto (tgt := 98) dX0_readRows_90 (by decide) ?_
      exact aw_lv _ (List.forall_mem_cons.mpr ⟨rfl, (List.forall_mem_cons.mpr ⟨rfl, (List.forall_mem_cons.mpr ⟨rfl, (List.forall_mem_cons.mpr ⟨rfl, (List.forall_mem_cons.mpr ⟨rfl, (List.forall_mem_cons.mpr ⟨rfl, (List.forall_mem_cons.mpr ⟨rfl, fun _ h => absurd h List.not_mem_nil⟩)⟩)⟩)⟩)⟩)⟩)⟩) (b_X0_readRows_98 m0 sh rr r ww so pl qo pn tg px fa hb n hr hso k19 hk19 k59 hk59 v3 v4 v5 v6 z87 (v5 + v6) x s87.1 s87.2 _ hE hF)
def F_X0_readRows_49 (sb : A) (k19 : Int32 → Int32 → Ras → Src → Bmp → Out (Ras × Src × Bmp) Unit) (v3 : Int32) (v4 : Int32) (t0 : Int32) (x : Ras) (sc : Src) (bm : Bmp) : Out (Ras × Src × Bmp) Unit := lp (fun _ _ _ _ _ _ _ => fno) (F_X0_readRows_59 sb k19) FU v3 v4 (t0 * (x_w x)) (0 : Int32) x sc bm
set_option maxHeartbeats 1000000 in
set_option maxRecDepth 100000 in
theorem b_X0_readRows_49 (m0 : Mnt) (sh : Nat → Nat) (rr : Nat → Ras) (r : Nat) (ww : Nat → Row) (so : Nat) (pl : Pal) (qo : Qoi) (pn : Pnm) (tg : Tga) (px : Pcx) (fa : A) (hb : aH) (n : Nat) (hr : isR r) (hso : isW so) (k19 : Int32 → Int32 → Ras → Src → Bmp → Out (Ras × Src × Bmp) Unit) (hk19 : Q_X0_readRows_19 m0 sh rr r ww so pl qo pn tg px fa hb n k19) : Q_X0_readRows_49 m0 sh rr r ww so pl qo pn tg px fa hb n (F_X0_readRows_49 (y_b (ww so)) k19) := by
  intro v3 v4 t0 x sc bm res hE hF
  unfold F_X0_readRows_49 at hE
  refine aw_aload_n dX0_readRows_49 rfl ?_
  refine aw_getf (v := .int (x_w x)) dX0_readRows_50 flX0_119_6 (at_ras hr) rfl ?_
  refine aw_imul dX0_readRows_53 ?_
  refine aw_istore (lv2 := [(5, _), (0, _), (1, _), (2, _), (3, _), (4, _)]) dX0_readRows_54 (by decide) rfl ?_
  refine aw_iconst (v := 0) dX0_readRows_56 (by decide) ?_
  refine aw_istore (lv2 := [(6, _), (5, _), (0, _), (1, _), (2, _), (3, _), (4, _)]) dX0_readRows_57 (by decide) rfl ?_
  exact aw_lv _ (List.forall_mem_cons.mpr ⟨rfl, (List.forall_mem_cons.mpr ⟨rfl, (List.forall_mem_cons.mpr ⟨rfl, (List.forall_mem_cons.mpr ⟨rfl, (List.forall_mem_cons.mpr ⟨rfl, (List.forall_mem_cons.mpr ⟨rfl, (List.forall_mem_cons.mpr ⟨rfl, fun _ h => absurd h List.not_mem_nil⟩)⟩)⟩)⟩)⟩)⟩)⟩) (lp_ind (Q_X0_readRows_59 m0 sh rr r ww so pl qo pn tg px fa hb n) (fun _ _ _ _ _ _ _ res hq hF => (hF hq.symm).elim) (fun k hk => b_X0_readRows_59 m0 sh rr r ww so pl qo pn tg px fa hb n hr hso k19 hk19 k hk) FU v3 v4 (t0 * (x_w x)) (0 : Int32) x sc bm _ hE hF)
def F_X0_readRows_19 (sb : A) (k19 : Int32 → Int32 → Ras → Src → Bmp → Out (Ras × Src × Bmp) Unit) (v3 : Int32) (v4 : Int32) (x : Ras) (sc : Src) (bm : Bmp) : Out (Ras × Src × Bmp) Unit := if (x_g x) ≤ v4 then (fok () (x, sc, bm)) else (if (bm_top bm) = 0 then (F_X0_readRows_49 sb k19 v3 v4 (((x_g x) - 1) - v4) x sc bm) else (F_X0_readRows_49 sb k19 v3 v4 v4 x sc bm))
set_option maxHeartbeats 1000000 in
set_option maxRecDepth 100000 in
theorem b_X0_readRows_19 (m0 : Mnt) (sh : Nat → Nat) (rr : Nat → Ras) (r : Nat) (ww : Nat → Row) (so : Nat) (pl : Pal) (qo : Qoi) (pn : Pnm) (tg : Tga) (px : Pcx) (fa : A) (hb : aH) (n : Nat) (hr : isR r) (hso : isW so) (k19 : Int32 → Int32 → Ras → Src → Bmp → Out (Ras × Src × Bmp) Unit) (hk19 : Q_X0_readRows_19 m0 sh rr r ww so pl qo pn tg px fa hb n k19) : Q_X0_readRows_19 m0 sh rr r ww so pl qo pn tg px fa hb n (F_X0_readRows_19 (y_b (ww so)) k19) := by
  intro v3 v4 x sc bm res hE hF
  unfold F_X0_readRows_19 at hE
  refine aw_iload dX0_readRows_19 rfl ?_
  refine aw_aload_n dX0_readRows_21 rfl ?_
  refine aw_getf (v := .int (x_g x)) dX0_readRows_22 flX0_124_6 (at_ras hr) rfl ?_
  refine aw_icmp_ge (tgt := 121) dX0_readRows_25 (by decide) (fun c25 => ?_) (fun c25 => ?_)
  · replace hE := fit hE c25
    exact aw_vret dX0_readRows_121 rfl (Nat.zero_le _) (Nat.zero_le _) (Nat.zero_le _) (Nat.zero_le _) ⟨_, _, hE.symm, rfl, rfl, rfl⟩
  · replace hE := fif hE c25
    refine aw_aload_n dX0_readRows_28 rfl ?_
    refine aw_getf (v := .int (bm_top bm)) dX0_readRows_29 flX0_91_0 at_bmp rfl ?_
    refine aw_if_eq (tgt := 40) dX0_readRows_32 (by decide) (fun c32 => ?_) (fun c32 => ?_)
    · replace hE := fit hE c32
      refine aw_aload_n dX0_readRows_40 rfl ?_
      refine aw_getf (v := .int (x_g x)) dX0_readRows_41 flX0_124_6 (at_ras hr) rfl ?_
      refine aw_iconst (v := 1) dX0_readRows_44 (by decide) ?_
      refine aw_isub dX0_readRows_45 ?_
      refine aw_iload dX0_readRows_46 rfl ?_
      refine aw_isub dX0_readRows_48 ?_
      exact aw_lv _ (List.forall_mem_cons.mpr ⟨rfl, (List.forall_mem_cons.mpr ⟨rfl, (List.forall_mem_cons.mpr ⟨rfl, (List.forall_mem_cons.mpr ⟨rfl, (List.forall_mem_cons.mpr ⟨rfl, fun _ h => absurd h List.not_mem_nil⟩)⟩)⟩)⟩)⟩) (b_X0_readRows_49 m0 sh rr r ww so pl qo pn tg px fa hb n hr hso k19 hk19 v3 v4 (((x_g x) - 1) - v4) x sc bm _ hE hF)
    · replace hE := fif hE c32
      refine aw_iload dX0_readRows_35 rfl ?_
      refine aw_goto (tgt := 49) dX0_readRows_37 (by decide) ?_
      exact aw_lv _ (List.forall_mem_cons.mpr ⟨rfl, (List.forall_mem_cons.mpr ⟨rfl, (List.forall_mem_cons.mpr ⟨rfl, (List.forall_mem_cons.mpr ⟨rfl, (List.forall_mem_cons.mpr ⟨rfl, fun _ h => absurd h List.not_mem_nil⟩)⟩)⟩)⟩)⟩) (b_X0_readRows_49 m0 sh rr r ww so pl qo pn tg px fa hb n hr hso k19 hk19 v3 v4 v4 x sc bm _ hE hF)
def F_X0_readRows (x : Ras) (sc : Src) (sb : A) (bm : Bmp) : Out (Ras × Src × Bmp) Unit := lp (fun _ _ _ _ _ => fno) (F_X0_readRows_19 sb) FU ((((x_w x) * (bm_bits bm)) + 7) / 8) (0 : Int32) x sc bm
set_option maxHeartbeats 1000000 in
set_option maxRecDepth 100000 in
theorem kF_X0_readRows (m0 : Mnt) (sh : Nat → Nat) (rr : Nat → Ras) (r : Nat) (x : Ras) (ww : Nat → Row) (so : Nat) (sc : Src) (pl : Pal) (qo : Qoi) (pn : Pnm) (bm : Bmp) (tg : Tga) (px : Pcx) (fa : A) (hb : aH) (n : Nat) (hr : isR r) (hso : isW so)  (hF : F_X0_readRows x sc (y_b (ww so)) bm ≠ fno) : AM mX0_readRows 6 [.ref 24, .ref 16, .ref r] (HC m0 sh (va_up rr r x) ww so sc pl qo pn bm tg px fa hb) n 1 6 0 0 (P_X0_readRows m0 sh rr r ww so pl qo pn tg px fa hb n (F_X0_readRows x sc (y_b (ww so)) bm)) (X_X0_readRows m0 sh rr r ww so pl qo pn tg px fa hb n (F_X0_readRows x sc (y_b (ww so)) bm)) := by
  generalize hE : F_X0_readRows x sc (y_b (ww so)) bm = res at hF ⊢
  refine aw_of (by decide +kernel) rfl (Nat.le_of_ble_eq_true rfl) ?_
  unfold F_X0_readRows at hE
  refine aw_aload_n dX0_readRows_0 rfl ?_
  refine aw_getf (v := .int (x_w x)) dX0_readRows_1 flX0_119_6 (at_ras hr) rfl ?_
  refine aw_aload_n dX0_readRows_4 rfl ?_
  refine aw_getf (v := .int (bm_bits bm)) dX0_readRows_5 flX0_72_0 at_bmp rfl ?_
  refine aw_imul dX0_readRows_8 ?_
  refine aw_bipush (v := 7) dX0_readRows_9 (by decide) ?_
  refine aw_iadd dX0_readRows_11 ?_
  refine aw_bipush (v := 8) dX0_readRows_12 (by decide) ?_
  refine aw_idiv dX0_readRows_14 (by decide) ?_
  refine aw_istore_n (lv2 := [(3, _), (0, _), (1, _), (2, _)]) dX0_readRows_15 (by decide) rfl ?_
  refine aw_iconst (v := 0) dX0_readRows_16 (by decide) ?_
  refine aw_istore (lv2 := [(4, _), (3, _), (0, _), (1, _), (2, _)]) dX0_readRows_17 (by decide) rfl ?_
  exact aw_lv _ (List.forall_mem_cons.mpr ⟨rfl, (List.forall_mem_cons.mpr ⟨rfl, (List.forall_mem_cons.mpr ⟨rfl, (List.forall_mem_cons.mpr ⟨rfl, (List.forall_mem_cons.mpr ⟨rfl, fun _ h => absurd h List.not_mem_nil⟩)⟩)⟩)⟩)⟩) (lp_ind (Q_X0_readRows_19 m0 sh rr r ww so pl qo pn tg px fa hb n) (fun _ _ _ _ _ res hq hF => (hF hq.symm).elim) (fun k hk => b_X0_readRows_19 m0 sh rr r ww so pl qo pn tg px fa hb n hr hso  k hk) FU ((((x_w x) * (bm_bits bm)) + 7) / 8) (0 : Int32) x sc bm _ hE hF)
def P_X5_decode (m0 : Mnt) (sh : Nat → Nat) (rr : Nat → Ras) (r : Nat) (ww : Nat → Row) (so : Nat) (pl : Pal) (qo : Qoi) (bm : Bmp) (tg : Tga) (px : Pcx) (fa : A) (hb : aH) (n : Nat) (res : Out (Ras × Src × Pnm) Unit) : Option Value → aH → Nat → Prop := fun r1 h2 n2 => ∃ (a : Unit) (s : (Ras × Src × Pnm)), res = fok a s ∧ r1 = none ∧ h2 = HC m0 sh (va_up rr r s.1) ww so s.2.1 pl qo s.2.2 bm tg px fa hb ∧ n = n2
def X_X5_decode (m0 : Mnt) (sh : Nat → Nat) (rr : Nat → Ras) (r : Nat) (ww : Nat → Row) (so : Nat) (pl : Pal) (qo : Qoi) (bm : Bmp) (tg : Tga) (px : Pcx) (fa : A) (hb : aH) (n : Nat) (res : Out (Ras × Src × Pnm) Unit) : String → aH → Nat → Prop := fun E h2 n2 => ∃ s : (Ras × Src × Pnm), res = fex E s ∧ h2 = HC m0 sh (va_up rr r s.1) ww so s.2.1 pl qo s.2.2 bm tg px fa hb ∧ n = n2
abbrev Q_X5_decode_62 (m0 : Mnt) (sh : Nat → Nat) (rr : Nat → Ras) (r : Nat) (ww : Nat → Row) (so : Nat) (pl : Pal) (qo : Qoi) (bm : Bmp) (tg : Tga) (px : Pcx) (fa : A) (hb : aH) (n : Nat) (k : Ras → Src → Pnm → Out (Ras × Src × Pnm) Unit) : Prop := ∀ (x : Ras) (sc : Src) (pn : Pnm) (res : Out (Ras × Src × Pnm) Unit), k x sc pn = res → res ≠ fno → AW (fun _ _ => True) mX5_decode (rmD 7 1 6) 0 0 (P_X5_decode m0 sh rr r ww so pl qo bm tg px fa hb n res) (X_X5_decode m0 sh rr r ww so pl qo bm tg px fa hb n res) 0 0 62 [(0, .ref 23), (1, .ref 16), (2, .ref r)] [] (HC m0 sh (va_up rr r x) ww so sc pl qo pn bm tg px fa hb) n
abbrev Q_X5_decode_74 (m0 : Mnt) (sh : Nat → Nat) (rr : Nat → Ras) (r : Nat) (ww : Nat → Row) (so : Nat) (pl : Pal) (qo : Qoi) (bm : Bmp) (tg : Tga) (px : Pcx) (fa : A) (hb : aH) (n : Nat) (k : Ras → Src → Pnm → Out (Ras × Src × Pnm) Unit) : Prop := ∀ (x : Ras) (sc : Src) (pn : Pnm) (res : Out (Ras × Src × Pnm) Unit), k x sc pn = res → res ≠ fno → AW (fun _ _ => True) mX5_decode (rmD 7 1 6) 0 0 (P_X5_decode m0 sh rr r ww so pl qo bm tg px fa hb n res) (X_X5_decode m0 sh rr r ww so pl qo bm tg px fa hb n res) 0 0 74 [(0, .ref 23), (1, .ref 16), (2, .ref r)] [] (HC m0 sh (va_up rr r x) ww so sc pl qo pn bm tg px fa hb) n
abbrev Q_X5_decode_120 (m0 : Mnt) (sh : Nat → Nat) (rr : Nat → Ras) (r : Nat) (ww : Nat → Row) (so : Nat) (pl : Pal) (qo : Qoi) (bm : Bmp) (tg : Tga) (px : Pcx) (fa : A) (hb : aH) (n : Nat) (k : Ras → Src → Pnm → Out (Ras × Src × Pnm) Unit) : Prop := ∀ (x : Ras) (sc : Src) (pn : Pnm) (res : Out (Ras × Src × Pnm) Unit), k x sc pn = res → res ≠ fno → AW (fun _ _ => True) mX5_decode (rmD 7 1 6) 0 0 (P_X5_decode m0 sh rr r ww so pl qo bm tg px fa hb n res) (X_X5_decode m0 sh rr r ww so pl qo bm tg px fa hb n res) 0 0 120 [(0, .ref 23), (1, .ref 16)] [] (HC m0 sh (va_up rr r x) ww so sc pl qo pn bm tg px fa hb) n
abbrev Q_X5_decode_132 (m0 : Mnt) (sh : Nat → Nat) (rr : Nat → Ras) (r : Nat) (ww : Nat → Row) (so : Nat) (pl : Pal) (qo : Qoi) (bm : Bmp) (tg : Tga) (px : Pcx) (fa : A) (hb : aH) (n : Nat) (k : Ras → Src → Pnm → Out (Ras × Src × Pnm) Unit) : Prop := ∀ (x : Ras) (sc : Src) (pn : Pnm) (res : Out (Ras × Src × Pnm) Unit), k x sc pn = res → res ≠ fno → AW (fun _ _ => True) mX5_decode (rmD 7 1 6) 0 0 (P_X5_decode m0 sh rr r ww so pl qo bm tg px fa hb n res) (X_X5_decode m0 sh rr r ww so pl qo bm tg px fa hb n res) 0 0 132 [(1, .ref 16)] [] (HC m0 sh (va_up rr r x) ww so sc pl qo pn bm tg px fa hb) n
def F_X5_decode_132 (sb : A)  (x : Ras) (sc : Src) (pn : Pnm) : Out (Ras × Src × Pnm) Unit := fon (F_X8_wantEnd sc) (fun z133 s133 => fok () (x, s133, pn)) (fun E s133 => fex E (x, s133, pn))
set_option maxHeartbeats 1000000 in
set_option maxRecDepth 100000 in
theorem b_X5_decode_132 (m0 : Mnt) (sh : Nat → Nat) (rr : Nat → Ras) (r : Nat) (ww : Nat → Row) (so : Nat) (pl : Pal) (qo : Qoi) (bm : Bmp) (tg : Tga) (px : Pcx) (fa : A) (hb : aH) (n : Nat) (hr : isR r) (hso : isW so)  : Q_X5_decode_132 m0 sh rr r ww so pl qo bm tg px fa hb n (F_X5_decode_132 (y_b (ww so))) := by
  intro x sc pn res hE hF
  unfold F_X5_decode_132 at hE
  refine aw_aload_n dX5_decode_132 rfl ?_
  refine aw_callV dX5_decode_133 at_src cvX5_65 rfl (kF_X8_wantEnd m0 sh (va_up rr r x) ww so sc pl qo pn bm tg px fa hb _   (fon_ne hE hF)) rfl (Nat.le_of_ble_eq_true rfl) (by decide) (by decide) (by decide) (by decide) (fun E h2 n2 hx => aw_out rfl (by decide) (by decide) (by obtain ⟨s133, e133, rfl, rfl⟩ := hx; exact ⟨_, (fon_ex e133 hE).symm, rfl, rfl⟩)) (fun r133 h133 n133 hp133 => ?_)
  obtain ⟨z133, s133, e133, rfl, rfl, rfl⟩ := hp133
  replace hE := fon_ok e133 hE
  exact aw_vret dX5_decode_136 rfl (Nat.zero_le _) (Nat.zero_le _) (Nat.zero_le _) (Nat.zero_le _) ⟨_, _, hE.symm, rfl, rfl, rfl⟩
def F_X5_decode_120 (sb : A)  (x : Ras) (sc : Src) (pn : Pnm) : Out (Ras × Src × Pnm) Unit := if 3 < (pn_f1 pn) then (F_X5_decode_132 sb x sc pn) else (fon (F_X5_passBlanks sc sb) (fun z129 s129 => F_X5_decode_132 sb x s129 pn) (fun _ _ => fno))
set_option maxHeartbeats 1000000 in
set_option maxRecDepth 100000 in
theorem b_X5_decode_120 (m0 : Mnt) (sh : Nat → Nat) (rr : Nat → Ras) (r : Nat) (ww : Nat → Row) (so : Nat) (pl : Pal) (qo : Qoi) (bm : Bmp) (tg : Tga) (px : Pcx) (fa : A) (hb : aH) (n : Nat) (hr : isR r) (hso : isW so)  : Q_X5_decode_120 m0 sh rr r ww so pl qo bm tg px fa hb n (F_X5_decode_120 (y_b (ww so))) := by
  intro x sc pn res hE hF
  unfold F_X5_decode_120 at hE
  refine aw_aload_n dX5_decode_120 rfl ?_
  refine aw_getf (v := .int (pn_f1 pn)) dX5_decode_121 flX5_29_4 at_pnm rfl ?_
  refine aw_iconst (v := 3) dX5_decode_124 (by decide) ?_
  refine aw_icmp_gt (tgt := 132) dX5_decode_125 (by decide) (fun c125 => ?_) (fun c125 => ?_)
  · replace hE := fit hE c125
    exact aw_lv _ (List.forall_mem_cons.mpr ⟨rfl, fun _ h => absurd h List.not_mem_nil⟩) (b_X5_decode_132 m0 sh rr r ww so pl qo bm tg px fa hb n hr hso  x sc pn _ hE hF)
  · replace hE := fif hE c125
    refine aw_aload_n dX5_decode_128 rfl ?_
    refine aw_callS dX5_decode_129  csX5_62 rfl (kF_X5_passBlanks m0 sh (va_up rr r x) ww so sc pl qo pn bm tg px fa hb _ hso  (fon_ne hE hF)) rfl (Nat.le_of_ble_eq_true rfl) (by decide) (by decide) (by decide) (by decide) (fun _ _ _ hf => False.elim hf) (fun r129 h129 n129 hp129 => ?_)
    obtain ⟨z129, s129, e129, rfl, rfl, rfl⟩ := hp129
    replace hE := fon_ok e129 hE
    exact aw_lv _ (List.forall_mem_cons.mpr ⟨rfl, fun _ h => absurd h List.not_mem_nil⟩) (b_X5_decode_132 m0 sh rr r ww so pl qo bm tg px fa hb n hr hso  x s129 pn _ hE hF)
def F_X5_decode_74 (sb : A)  (x : Ras) (sc : Src) (pn : Pnm) : Out (Ras × Src × Pnm) Unit := if (pn_f1 pn) = 1 then (fon (F_X5_readSigns x sc sb) (fun z92 s92 => F_X5_decode_120 sb s92.1 s92.2 ((pn_f1 pn), (pn_f2 pn), (sc_pos sc), (pn_np pn))) (fun E s92 => fex E (s92.1, s92.2, ((pn_f1 pn), (pn_f2 pn), (sc_pos sc), (pn_np pn))))) else (if (pn_f1 pn) = 4 then (fon (F_X5_readBits x sc sb) (fun z108 s108 => F_X5_decode_120 sb s108.1 s108.2 ((pn_f1 pn), (pn_f2 pn), (sc_pos sc), (pn_np pn))) (fun E s108 => fex E (s108.1, s108.2, ((pn_f1 pn), (pn_f2 pn), (sc_pos sc), (pn_np pn))))) else (fon (F_X5_readSamples x sc sb ((pn_f1 pn), (pn_f2 pn), (sc_pos sc), (pn_np pn))) (fun z117 s117 => F_X5_decode_120 sb s117.1 s117.2.1 s117.2.2) (fun E s117 => fex E (s117.1, s117.2.1, s117.2.2))))
set_option maxHeartbeats 1000000 in
set_option maxRecDepth 100000 in
theorem b_X5_decode_74 (m0 : Mnt) (sh : Nat → Nat) (rr : Nat → Ras) (r : Nat) (ww : Nat → Row) (so : Nat) (pl : Pal) (qo : Qoi) (bm : Bmp) (tg : Tga) (px : Pcx) (fa : A) (hb : aH) (n : Nat) (hr : isR r) (hso : isW so)  : Q_X5_decode_74 m0 sh rr r ww so pl qo bm tg px fa hb n (F_X5_decode_74 (y_b (ww so))) := by
  intro x sc pn res hE hF
  unfold F_X5_decode_74 at hE
  refine aw_aload_n dX5_decode_74 rfl ?_
  refine aw_aload_n dX5_decode_75 rfl ?_
  refine aw_getf (v := .int (sc_pos sc)) dX5_decode_76 flX5_47_7 at_src rfl ?_
  refine aw_putf dX5_decode_79 ptX5_50_4 at_pnm (Nat.le_of_ble_eq_true rfl) ⟨rfl, rfl⟩ ?_
  refine aw_eqh (h2 := HC m0 sh (va_up rr r x) ww so sc pl qo ((pn_f1 pn), (pn_f2 pn), (sc_pos sc), (pn_np pn)) bm tg px fa hb) up_pnm ?_
  refine aw_aload_n dX5_decode_82 rfl ?_
  refine aw_getf (v := .int (pn_f1 pn)) dX5_decode_83 flX5_29_4 at_pnm rfl ?_
  refine aw_iconst (v := 1) dX5_decode_86 (by decide) ?_
  refine aw_icmp_ne (tgt := 98) dX5_decode_87 (by decide) (fun c87 => ?_) (fun c87 => ?_)
  · replace hE := fif hE c87
    refine aw_aload_n dX5_decode_98 rfl ?_
    refine aw_getf (v := .int (pn_f1 pn)) dX5_decode_99 flX5_29_4 at_pnm rfl ?_
    refine aw_iconst (v := 4) dX5_decode_102 (by decide) ?_
    refine aw_icmp_ne (tgt := 114) dX5_decode_103 (by decide) (fun c103 => ?_) (fun c103 => ?_)
    · replace hE := fif hE c103
      refine aw_aload_n dX5_decode_114 rfl ?_
      refine aw_aload_n dX5_decode_115 rfl ?_
      refine aw_aload_n dX5_decode_116 rfl ?_
      refine aw_callV dX5_decode_117 at_pnm cvX5_59 rfl (kF_X5_readSamples m0 sh rr r x ww so sc pl qo ((pn_f1 pn), (pn_f2 pn), (sc_pos sc), (pn_np pn)) bm tg px fa hb _ hr hso  (fon_ne hE hF)) rfl (Nat.le_of_ble_eq_true rfl) (by decide) (by decide) (by decide) (by decide) (fun E h2 n2 hx => aw_out rfl (by decide) (by decide) (by obtain ⟨s117, e117, rfl, rfl⟩ := hx; exact ⟨_, (fon_ex e117 hE).symm, rfl, rfl⟩)) (fun r117 h117 n117 hp117 => ?_)
      obtain ⟨z117, s117, e117, rfl, rfl, rfl⟩ := hp117
      replace hE := fon_ok e117 hE
      exact aw_lv _ (List.forall_mem_cons.mpr ⟨rfl, (List.forall_mem_cons.mpr ⟨rfl, fun _ h => absurd h List.not_mem_nil⟩)⟩) (b_X5_decode_120 m0 sh rr r ww so pl qo bm tg px fa hb n hr hso  s117.1 s117.2.1 s117.2.2 _ hE hF)
    · replace hE := fit hE c103
      refine aw_aload_n dX5_decode_106 rfl ?_
      refine aw_aload_n dX5_decode_107 rfl ?_
      refine aw_callS dX5_decode_108  csX5_56 rfl (kF_X5_readBits m0 sh rr r x ww so sc pl qo ((pn_f1 pn), (pn_f2 pn), (sc_pos sc), (pn_np pn)) bm tg px fa hb _ hr hso  (fon_ne hE hF)) rfl (Nat.le_of_ble_eq_true rfl) (by decide) (by decide) (by decide) (by decide) (fun E h2 n2 hx => aw_out rfl (by decide) (by decide) (by obtain ⟨s108, e108, rfl, rfl⟩ := hx; exact ⟨_, (fon_ex e108 hE).symm, rfl, rfl⟩)) (fun r108 h108 n108 hp108 => ?_)
      obtain ⟨z108, s108, e108, rfl, rfl, rfl⟩ := hp108
      replace hE := fon_ok e108 hE
      refine aw_goto (tgt := 120) dX5_decode_111 (by decide) ?_
      exact aw_lv _ (List.forall_mem_cons.mpr ⟨rfl, (List.forall_mem_cons.mpr ⟨rfl, fun _ h => absurd h List.not_mem_nil⟩)⟩) (b_X5_decode_120 m0 sh rr r ww so pl qo bm tg px fa hb n hr hso  s108.1 s108.2 ((pn_f1 pn), (pn_f2 pn), (sc_pos sc), (pn_np pn)) _ hE hF)
  · replace hE := fit hE c87
    refine aw_aload_n dX5_decode_90 rfl ?_
    refine aw_aload_n dX5_decode_91 rfl ?_
    refine aw_callS dX5_decode_92  csX5_53 rfl (kF_X5_readSigns m0 sh rr r x ww so sc pl qo ((pn_f1 pn), (pn_f2 pn), (sc_pos sc), (pn_np pn)) bm tg px fa hb _ hr hso  (fon_ne hE hF)) rfl (Nat.le_of_ble_eq_true rfl) (by decide) (by decide) (by decide) (by decide) (fun E h2 n2 hx => aw_out rfl (by decide) (by decide) (by obtain ⟨s92, e92, rfl, rfl⟩ := hx; exact ⟨_, (fon_ex e92 hE).symm, rfl, rfl⟩)) (fun r92 h92 n92 hp92 => ?_)
    obtain ⟨z92, s92, e92, rfl, rfl, rfl⟩ := hp92
    replace hE := fon_ok e92 hE
    refine aw_goto (tgt := 120) dX5_decode_95 (by decide) ?_
    exact aw_lv _ (List.forall_mem_cons.mpr ⟨rfl, (List.forall_mem_cons.mpr ⟨rfl, fun _ h => absurd h List.not_mem_nil⟩)⟩) (b_X5_decode_120 m0 sh rr r ww so pl qo bm tg px fa hb n hr hso  s92.1 s92.2 ((pn_f1 pn), (pn_f2 pn), (sc_pos sc), (pn_np pn)) _ hE hF)
def F_X5_decode_62 (sb : A)  (x : Ras) (sc : Src) (pn : Pnm) : Out (Ras × Src × Pnm) Unit := if (pn_f1 pn) ≤ 3 then (F_X5_decode_74 sb x sc pn) else (fon (F_X5_readOneBlank sc sb) (fun z71 s71 => F_X5_decode_74 sb x s71 pn) (fun E s71 => fex E (x, s71, pn)))
set_option maxHeartbeats 1000000 in
set_option maxRecDepth 100000 in
theorem b_X5_decode_62 (m0 : Mnt) (sh : Nat → Nat) (rr : Nat → Ras) (r : Nat) (ww : Nat → Row) (so : Nat) (pl : Pal) (qo : Qoi) (bm : Bmp) (tg : Tga) (px : Pcx) (fa : A) (hb : aH) (n : Nat) (hr : isR r) (hso : isW so)  : Q_X5_decode_62 m0 sh rr r ww so pl qo bm tg px fa hb n (F_X5_decode_62 (y_b (ww so))) := by
  intro x sc pn res hE hF
  unfold F_X5_decode_62 at hE
  refine aw_aload_n dX5_decode_62 rfl ?_
  refine aw_getf (v := .int (pn_f1 pn)) dX5_decode_63 flX5_29_4 at_pnm rfl ?_
  refine aw_iconst (v := 3) dX5_decode_66 (by decide) ?_
  refine aw_icmp_le (tgt := 74) dX5_decode_67 (by decide) (fun c67 => ?_) (fun c67 => ?_)
  · replace hE := fit hE c67
    exact aw_lv _ (List.forall_mem_cons.mpr ⟨rfl, (List.forall_mem_cons.mpr ⟨rfl, (List.forall_mem_cons.mpr ⟨rfl, fun _ h => absurd h List.not_mem_nil⟩)⟩)⟩) (b_X5_decode_74 m0 sh rr r ww so pl qo bm tg px fa hb n hr hso  x sc pn _ hE hF)
  · replace hE := fif hE c67
    refine aw_aload_n dX5_decode_70 rfl ?_
    refine aw_callS dX5_decode_71  csX5_44 rfl (kF_X5_readOneBlank m0 sh (va_up rr r x) ww so sc pl qo pn bm tg px fa hb _ hso  (fon_ne hE hF)) rfl (Nat.le_of_ble_eq_true rfl) (by decide) (by decide) (by decide) (by decide) (fun E h2 n2 hx => aw_out rfl (by decide) (by decide) (by obtain ⟨s71, e71, rfl, rfl⟩ := hx; exact ⟨_, (fon_ex e71 hE).symm, rfl, rfl⟩)) (fun r71 h71 n71 hp71 => ?_)
    obtain ⟨z71, s71, e71, rfl, rfl, rfl⟩ := hp71
    replace hE := fon_ok e71 hE
    exact aw_lv _ (List.forall_mem_cons.mpr ⟨rfl, (List.forall_mem_cons.mpr ⟨rfl, (List.forall_mem_cons.mpr ⟨rfl, fun _ h => absurd h List.not_mem_nil⟩)⟩)⟩) (b_X5_decode_74 m0 sh rr r ww so pl qo bm tg px fa hb n hr hso  x s71 pn _ hE hF)
def F_X5_decode (x : Ras) (sc : Src) (sb : A) (pn : Pnm) : Out (Ras × Src × Pnm) Unit := fon (F_X8_want 80 sc sb) (fun z3 s3 => fon (F_X5_readKind s3 sb pn) (fun z8 s8 => fon (F_X5_readSize x s8.1 sb s8.2) (fun z14 s14 => if (pn_f1 s14.2.2) = 1 then (F_X5_decode_62 sb s14.1 s14.2.1 ((pn_f1 s14.2.2), 1, (pn_f3 s14.2.2), (pn_np s14.2.2))) else (if (pn_f1 s14.2.2) = 4 then (F_X5_decode_62 sb s14.1 s14.2.1 ((pn_f1 s14.2.2), 1, (pn_f3 s14.2.2), (pn_np s14.2.2))) else (fon (F_X5_passGap s14.2.1 sb) (fun z39 s39 => fon (F_X5_readNumber s39 sb ((pn_f1 s14.2.2), 1, (pn_f3 s14.2.2), (pn_np s14.2.2))) (fun z45 s45 => fon (F_X5_askNumber z45 65535 s45.1 ((pn_f1 s45.2), z45, (pn_f3 s45.2), (pn_np s45.2))) (fun z59 s59 => F_X5_decode_62 sb s14.1 s59 ((pn_f1 s45.2), z45, (pn_f3 s45.2), (pn_np s45.2))) (fun E s59 => fex E (s14.1, s59, ((pn_f1 s45.2), z45, (pn_f3 s45.2), (pn_np s45.2))))) (fun E s45 => fex E (s14.1, s45.1, s45.2))) (fun E s39 => fex E (s14.1, s39, ((pn_f1 s14.2.2), 1, (pn_f3 s14.2.2), (pn_np s14.2.2))))))) (fun E s14 => fex E (s14.1, s14.2.1, s14.2.2))) (fun E s8 => fex E (x, s8.1, s8.2))) (fun E s3 => fex E (x, s3, pn))
set_option maxHeartbeats 1000000 in
set_option maxRecDepth 100000 in
theorem kF_X5_decode (m0 : Mnt) (sh : Nat → Nat) (rr : Nat → Ras) (r : Nat) (x : Ras) (ww : Nat → Row) (so : Nat) (sc : Src) (pl : Pal) (qo : Qoi) (pn : Pnm) (bm : Bmp) (tg : Tga) (px : Pcx) (fa : A) (hb : aH) (n : Nat) (hr : isR r) (hso : isW so)  (hF : F_X5_decode x sc (y_b (ww so)) pn ≠ fno) : AM mX5_decode 7 [.ref 23, .ref 16, .ref r] (HC m0 sh (va_up rr r x) ww so sc pl qo pn bm tg px fa hb) n 1 6 0 0 (P_X5_decode m0 sh rr r ww so pl qo bm tg px fa hb n (F_X5_decode x sc (y_b (ww so)) pn)) (X_X5_decode m0 sh rr r ww so pl qo bm tg px fa hb n (F_X5_decode x sc (y_b (ww so)) pn)) := by
  generalize hE : F_X5_decode x sc (y_b (ww so)) pn = res at hF ⊢
  refine aw_of (by decide +kernel) rfl (Nat.le_of_ble_eq_true rfl) ?_
  unfold F_X5_decode at hE
  refine aw_aload_n dX5_decode_0 rfl ?_
  refine aw_bipush (v := 80) dX5_decode_1 (by decide) ?_
  refine aw_callV dX5_decode_3 at_src cvX5_9 rfl (kF_X8_want m0 sh (va_up rr r x) ww so sc pl qo pn bm tg px fa hb _ hso 80 (fon_ne hE hF)) rfl (Nat.le_of_ble_eq_true rfl) (by decide) (by decide) (by decide) (by decide) (fun E h2 n2 hx => aw_out rfl (by decide) (by decide) (by obtain ⟨s3, e3, rfl, rfl⟩ := hx; exact ⟨_, (fon_ex e3 hE).symm, rfl, rfl⟩)) (fun r3 h3 n3 hp3 => ?_)
  obtain ⟨z3, s3, e3, rfl, rfl, rfl⟩ := hp3
  replace hE := fon_ok e3 hE
  refine aw_aload_n dX5_decode_6 rfl ?_
  refine aw_aload_n dX5_decode_7 rfl ?_
  refine aw_callV dX5_decode_8 at_pnm cvX5_15 rfl (kF_X5_readKind m0 sh (va_up rr r x) ww so s3 pl qo pn bm tg px fa hb _ hso  (fon_ne hE hF)) rfl (Nat.le_of_ble_eq_true rfl) (by decide) (by decide) (by decide) (by decide) (fun E h2 n2 hx => aw_out rfl (by decide) (by decide) (by obtain ⟨s8, e8, rfl, rfl⟩ := hx; exact ⟨_, (fon_ex e8 hE).symm, rfl, rfl⟩)) (fun r8 h8 n8 hp8 => ?_)
  obtain ⟨z8, s8, e8, rfl, rfl, rfl⟩ := hp8
  replace hE := fon_ok e8 hE
  refine aw_aload_n dX5_decode_11 rfl ?_
  refine aw_aload_n dX5_decode_12 rfl ?_
  refine aw_aload_n dX5_decode_13 rfl ?_
  refine aw_callV dX5_decode_14 at_pnm cvX5_21 rfl (kF_X5_readSize m0 sh rr r x ww so s8.1 pl qo s8.2 bm tg px fa hb _ hr hso  (fon_ne hE hF)) rfl (Nat.le_of_ble_eq_true rfl) (by decide) (by decide) (by decide) (by decide) (fun E h2 n2 hx => aw_out rfl (by decide) (by decide) (by obtain ⟨s14, e14, rfl, rfl⟩ := hx; exact ⟨_, (fon_ex e14 hE).symm, rfl, rfl⟩)) (fun r14 h14 n14 hp14 => ?_)
  obtain ⟨z14, s14, e14, rfl, rfl, rfl⟩ := hp14
  replace hE := fon_ok e14 hE
  refine aw_aload_n dX5_decode_17 rfl ?_
  refine aw_iconst (v := 1) dX5_decode_18 (by decide) ?_
  refine aw_putf dX5_decode_19 ptX5_25_4 at_pnm (Nat.le_of_ble_eq_true rfl) ⟨rfl, rfl⟩ ?_
  refine aw_eqh (h2 := HC m0 sh (va_up rr r s14.1) ww so s14.2.1 pl qo ((pn_f1 s14.2.2), 1, (pn_f3 s14.2.2), (pn_np s14.2.2)) bm tg px fa hb) up_pnm ?_
  refine aw_aload_n dX5_decode_22 rfl ?_
  refine aw_getf (v := .int (pn_f1 s14.2.2)) dX5_decode_23 flX5_29_4 at_pnm rfl ?_
  refine aw_iconst (v := 1) dX5_decode_26 (by decide) ?_
  refine aw_icmp_eq (tgt := 62) dX5_decode_27 (by decide) (fun c27 => ?_) (fun c27 => ?_)
  · replace hE := fit hE c27
    exact aw_lv _ (List.forall_mem_cons.mpr ⟨rfl, (List.forall_mem_cons.mpr ⟨rfl, (List.forall_mem_cons.mpr ⟨rfl, fun _ h => absurd h List.not_mem_nil⟩)⟩)⟩) (b_X5_decode_62 m0 sh rr r ww so pl qo bm tg px fa hb n hr hso  s14.1 s14.2.1 ((pn_f1 s14.2.2), 1, (pn_f3 s14.2.2), (pn_np s14.2.2)) _ hE hF)
  · replace hE := fif hE c27
    refine aw_aload_n dX5_decode_30 rfl ?_
    refine aw_getf (v := .int (pn_f1 s14.2.2)) dX5_decode_31 flX5_29_4 at_pnm rfl ?_
    refine aw_iconst (v := 4) dX5_decode_34 (by decide) ?_
    refine aw_icmp_eq (tgt := 62) dX5_decode_35 (by decide) (fun c35 => ?_) (fun c35 => ?_)
    · replace hE := fit hE c35
      exact aw_lv _ (List.forall_mem_cons.mpr ⟨rfl, (List.forall_mem_cons.mpr ⟨rfl, (List.forall_mem_cons.mpr ⟨rfl, fun _ h => absurd h List.not_mem_nil⟩)⟩)⟩) (b_X5_decode_62 m0 sh rr r ww so pl qo bm tg px fa hb n hr hso  s14.1 s14.2.1 ((pn_f1 s14.2.2), 1, (pn_f3 s14.2.2), (pn_np s14.2.2)) _ hE hF)
    · replace hE := fif hE c35
      refine aw_aload_n dX5_decode_38 rfl ?_
      refine aw_callS dX5_decode_39  csX5_32 rfl (kF_X5_passGap m0 sh (va_up rr r s14.1) ww so s14.2.1 pl qo ((pn_f1 s14.2.2), 1, (pn_f3 s14.2.2), (pn_np s14.2.2)) bm tg px fa hb _ hso  (fon_ne hE hF)) rfl (Nat.le_of_ble_eq_true rfl) (by decide) (by decide) (by decide) (by decide) (fun E h2 n2 hx => aw_out rfl (by decide) (by decide) (by obtain ⟨s39, e39, rfl, rfl⟩ := hx; exact ⟨_, (fon_ex e39 hE).symm, rfl, rfl⟩)) (fun r39 h39 n39 hp39 => ?_)
      obtain ⟨z39, s39, e39, rfl, rfl, rfl⟩ := hp39
      replace hE := fon_ok e39 hE
      refine aw_aload_n dX5_decode_42 rfl ?_
      refine aw_aload_n dX5_decode_43 rfl ?_
      refine aw_aload_n dX5_decode_44 rfl ?_
      refine aw_callV dX5_decode_45 at_pnm cvX5_35 rfl (kF_X5_readNumber m0 sh (va_up rr r s14.1) ww so s39 pl qo ((pn_f1 s14.2.2), 1, (pn_f3 s14.2.2), (pn_np s14.2.2)) bm tg px fa hb _ hso  (fon_ne hE hF)) rfl (Nat.le_of_ble_eq_true rfl) (by decide) (by decide) (by decide) (by decide) (fun E h2 n2 hx => aw_out rfl (by decide) (by decide) (by obtain ⟨s45, e45, rfl, rfl⟩ := hx; exact ⟨_, (fon_ex e45 hE).symm, rfl, rfl⟩)) (fun r45 h45 n45 hp45 => ?_)
      obtain ⟨z45, s45, e45, rfl, rfl, rfl⟩ := hp45
      replace hE := fon_ok e45 hE
      refine aw_putf dX5_decode_48 ptX5_25_4 at_pnm (Nat.le_of_ble_eq_true rfl) ⟨rfl, rfl⟩ ?_
      refine aw_eqh (h2 := HC m0 sh (va_up rr r s14.1) ww so s45.1 pl qo ((pn_f1 s45.2), z45, (pn_f3 s45.2), (pn_np s45.2)) bm tg px fa hb) up_pnm ?_
      refine aw_aload_n dX5_decode_51 rfl ?_
      refine aw_aload_n dX5_decode_52 rfl ?_
      refine aw_aload_n dX5_decode_53 rfl ?_
      refine aw_getf (v := .int z45) dX5_decode_54 flX5_25_4 at_pnm rfl ?_
      refine aw_ldc dX5_decode_57 kcX5_39 ?_
      refine aw_callV dX5_decode_59 at_pnm cvX5_40 rfl (kF_X5_askNumber m0 sh (va_up rr r s14.1) ww so s45.1 pl qo ((pn_f1 s45.2), z45, (pn_f3 s45.2), (pn_np s45.2)) bm tg px fa hb _  z45 65535 (fon_ne hE hF)) rfl (Nat.le_of_ble_eq_true rfl) (by decide) (by decide) (by decide) (by decide) (fun E h2 n2 hx => aw_out rfl (by decide) (by decide) (by obtain ⟨s59, e59, rfl, rfl⟩ := hx; exact ⟨_, (fon_ex e59 hE).symm, rfl, rfl⟩)) (fun r59 h59 n59 hp59 => ?_)
      obtain ⟨z59, s59, e59, rfl, rfl, rfl⟩ := hp59
      replace hE := fon_ok e59 hE
      exact aw_lv _ (List.forall_mem_cons.mpr ⟨rfl, (List.forall_mem_cons.mpr ⟨rfl, (List.forall_mem_cons.mpr ⟨rfl, fun _ h => absurd h List.not_mem_nil⟩)⟩)⟩) (b_X5_decode_62 m0 sh rr r ww so pl qo bm tg px fa hb n hr hso  s14.1 s59 ((pn_f1 s45.2), z45, (pn_f3 s45.2), (pn_np s45.2)) _ hE hF)
