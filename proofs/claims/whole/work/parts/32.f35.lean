def P_X9_readPixels (m0 : Mnt) (sh : Nat → Nat) (rr : Nat → Ras) (r : Nat) (ww : Nat → Row) (so : Nat) (pl : Pal) (qo : Qoi) (pn : Pnm) (bm : Bmp) (px : Pcx) (fa : A) (hb : aH) (n : Nat) (res : Out (Ras × Src × Tga) Unit) : Option Value → aH → Nat → Prop := fun r1 h2 n2 => ∃ (a : Unit) (s : (Ras × Src × Tga)), res = fok a s ∧ r1 = none ∧ h2 = HC m0 sh (va_up rr r s.1) ww so s.2.1 pl qo pn bm s.2.2 px fa hb ∧ n = n2
def X_X9_readPixels (m0 : Mnt) (sh : Nat → Nat) (rr : Nat → Ras) (r : Nat) (ww : Nat → Row) (so : Nat) (pl : Pal) (qo : Qoi) (pn : Pnm) (bm : Bmp) (px : Pcx) (fa : A) (hb : aH) (n : Nat) (res : Out (Ras × Src × Tga) Unit) : String → aH → Nat → Prop := fun E h2 n2 => ∃ s : (Ras × Src × Tga), res = fex E s ∧ h2 = HC m0 sh (va_up rr r s.1) ww so s.2.1 pl qo pn bm s.2.2 px fa hb ∧ n = n2
abbrev Q_X9_readPixels_15 (m0 : Mnt) (sh : Nat → Nat) (rr : Nat → Ras) (r : Nat) (ww : Nat → Row) (so : Nat) (pl : Pal) (qo : Qoi) (pn : Pnm) (bm : Bmp) (px : Pcx) (fa : A) (hb : aH) (n : Nat) (k : Int32 → Int32 → Ras → Src → Tga → Out (Ras × Src × Tga) Unit) : Prop := ∀ (v3 : Int32) (v4 : Int32) (x : Ras) (sc : Src) (tg : Tga) (res : Out (Ras × Src × Tga) Unit), k v3 v4 x sc tg = res → res ≠ fno → AW (fun _ _ => True) mX9_readPixels (rmD 6 1 6) 0 0 (P_X9_readPixels m0 sh rr r ww so pl qo pn bm px fa hb n res) (X_X9_readPixels m0 sh rr r ww so pl qo pn bm px fa hb n res) 0 0 15 [(0, .ref 26), (1, .ref 16), (2, .ref r), (3, .int v3), (4, .int v4)] [] (HC m0 sh (va_up rr r x) ww so sc pl qo pn bm tg px fa hb) n
abbrev Q_X9_readPixels_48 (m0 : Mnt) (sh : Nat → Nat) (rr : Nat → Ras) (r : Nat) (ww : Nat → Row) (so : Nat) (pl : Pal) (qo : Qoi) (pn : Pnm) (bm : Bmp) (px : Pcx) (fa : A) (hb : aH) (n : Nat) (k : Int32 → Int32 → Int32 → Ras → Src → Tga → Out (Ras × Src × Tga) Unit) : Prop := ∀ (v3 : Int32) (v4 : Int32) (t0 : Int32) (x : Ras) (sc : Src) (tg : Tga) (res : Out (Ras × Src × Tga) Unit), k v3 v4 t0 x sc tg = res → res ≠ fno → AW (fun _ _ => True) mX9_readPixels (rmD 6 1 6) 0 0 (P_X9_readPixels m0 sh rr r ww so pl qo pn bm px fa hb n res) (X_X9_readPixels m0 sh rr r ww so pl qo pn bm px fa hb n res) 0 0 48 [(0, .ref 26), (1, .ref 16), (2, .ref r), (3, .int v3), (4, .int v4)] [.int t0] (HC m0 sh (va_up rr r x) ww so sc pl qo pn bm tg px fa hb) n
abbrev Q_X9_readPixels_58 (m0 : Mnt) (sh : Nat → Nat) (rr : Nat → Ras) (r : Nat) (ww : Nat → Row) (so : Nat) (pl : Pal) (qo : Qoi) (pn : Pnm) (bm : Bmp) (px : Pcx) (fa : A) (hb : aH) (n : Nat) (k : Int32 → Int32 → Int32 → Int32 → Ras → Src → Tga → Out (Ras × Src × Tga) Unit) : Prop := ∀ (v3 : Int32) (v4 : Int32) (v5 : Int32) (v6 : Int32) (x : Ras) (sc : Src) (tg : Tga) (res : Out (Ras × Src × Tga) Unit), k v3 v4 v5 v6 x sc tg = res → res ≠ fno → AW (fun _ _ => True) mX9_readPixels (rmD 6 1 6) 0 0 (P_X9_readPixels m0 sh rr r ww so pl qo pn bm px fa hb n res) (X_X9_readPixels m0 sh rr r ww so pl qo pn bm px fa hb n res) 0 0 58 [(0, .ref 26), (1, .ref 16), (2, .ref r), (3, .int v3), (4, .int v4), (5, .int v5), (6, .int v6)] [] (HC m0 sh (va_up rr r x) ww so sc pl qo pn bm tg px fa hb) n
abbrev Q_X9_readPixels_79 (m0 : Mnt) (sh : Nat → Nat) (rr : Nat → Ras) (r : Nat) (ww : Nat → Row) (so : Nat) (pl : Pal) (qo : Qoi) (pn : Pnm) (bm : Bmp) (px : Pcx) (fa : A) (hb : aH) (n : Nat) (k : Int32 → Int32 → Int32 → Int32 → Int32 → Ras → Src → Tga → Out (Ras × Src × Tga) Unit) : Prop := ∀ (v3 : Int32) (v4 : Int32) (v5 : Int32) (v6 : Int32) (t0 : Int32) (x : Ras) (sc : Src) (tg : Tga) (res : Out (Ras × Src × Tga) Unit), k v3 v4 v5 v6 t0 x sc tg = res → res ≠ fno → AW (fun _ _ => True) mX9_readPixels (rmD 6 1 6) 0 0 (P_X9_readPixels m0 sh rr r ww so pl qo pn bm px fa hb n res) (X_X9_readPixels m0 sh rr r ww so pl qo pn bm px fa hb n res) 0 0 79 [(0, .ref 26), (1, .ref 16), (2, .ref r), (3, .int v3), (4, .int v4), (5, .int v5), (6, .int v6)] [.int t0] (HC m0 sh (va_up rr r x) ww so sc pl qo pn bm tg px fa hb) n
abbrev Q_X9_readPixels_107 (m0 : Mnt) (sh : Nat → Nat) (rr : Nat → Ras) (r : Nat) (ww : Nat → Row) (so : Nat) (pl : Pal) (qo : Qoi) (pn : Pnm) (bm : Bmp) (px : Pcx) (fa : A) (hb : aH) (n : Nat) (k : Int32 → Int32 → Int32 → Int32 → Int32 → Ras → Src → Tga → Out (Ras × Src × Tga) Unit) : Prop := ∀ (v3 : Int32) (v4 : Int32) (v5 : Int32) (v6 : Int32) (v7 : Int32) (x : Ras) (sc : Src) (tg : Tga) (res : Out (Ras × Src × Tga) Unit), k v3 v4 v5 v6 v7 x sc tg = res → res ≠ fno → AW (fun _ _ => True) mX9_readPixels (rmD 6 1 6) 0 0 (P_X9_readPixels m0 sh rr r ww so pl qo pn bm px fa hb n res) (X_X9_readPixels m0 sh rr r ww so pl qo pn bm px fa hb n res) 0 0 107 [(0, .ref 26), (1, .ref 16), (2, .ref r), (3, .int v3), (4, .int v4), (5, .int v5), (6, .int v6), (7, .int v7)] [] (HC m0 sh (va_up rr r x) ww so sc pl qo pn bm tg px fa hb) n
abbrev Q_X9_readPixels_119 (m0 : Mnt) (sh : Nat → Nat) (rr : Nat → Ras) (r : Nat) (ww : Nat → Row) (so : Nat) (pl : Pal) (qo : Qoi) (pn : Pnm) (bm : Bmp) (px : Pcx) (fa : A) (hb : aH) (n : Nat) (k : Int32 → Int32 → Int32 → Ras → Src → Tga → Out (Ras × Src × Tga) Unit) : Prop := ∀ (v4 : Int32) (v5 : Int32) (v6 : Int32) (x : Ras) (sc : Src) (tg : Tga) (res : Out (Ras × Src × Tga) Unit), k v4 v5 v6 x sc tg = res → res ≠ fno → AW (fun _ _ => True) mX9_readPixels (rmD 6 1 6) 0 0 (P_X9_readPixels m0 sh rr r ww so pl qo pn bm px fa hb n res) (X_X9_readPixels m0 sh rr r ww so pl qo pn bm px fa hb n res) 0 0 119 [(0, .ref 26), (1, .ref 16), (2, .ref r), (4, .int v4), (5, .int v5), (6, .int v6)] [] (HC m0 sh (va_up rr r x) ww so sc pl qo pn bm tg px fa hb) n
abbrev Q_X9_readPixels_125 (m0 : Mnt) (sh : Nat → Nat) (rr : Nat → Ras) (r : Nat) (ww : Nat → Row) (so : Nat) (pl : Pal) (qo : Qoi) (pn : Pnm) (bm : Bmp) (px : Pcx) (fa : A) (hb : aH) (n : Nat) (k : Int32 → Int32 → Int32 → Int32 → Ras → Src → Tga → Out (Ras × Src × Tga) Unit) : Prop := ∀ (v3 : Int32) (v4 : Int32) (v5 : Int32) (v6 : Int32) (x : Ras) (sc : Src) (tg : Tga) (res : Out (Ras × Src × Tga) Unit), k v3 v4 v5 v6 x sc tg = res → res ≠ fno → AW (fun _ _ => True) mX9_readPixels (rmD 6 1 6) 0 0 (P_X9_readPixels m0 sh rr r ww so pl qo pn bm px fa hb n res) (X_X9_readPixels m0 sh rr r ww so pl qo pn bm px fa hb n res) 0 0 125 [(0, .ref 26), (1, .ref 16), (2, .ref r), (3, .int v3), (4, .int v4), (5, .int v5), (6, .int v6)] [] (HC m0 sh (va_up rr r x) ww so sc pl qo pn bm tg px fa hb) n
abbrev Q_X9_readPixels_166 (m0 : Mnt) (sh : Nat → Nat) (rr : Nat → Ras) (r : Nat) (ww : Nat → Row) (so : Nat) (pl : Pal) (qo : Qoi) (pn : Pnm) (bm : Bmp) (px : Pcx) (fa : A) (hb : aH) (n : Nat) (k : Int32 → Int32 → Int32 → Int32 → Int32 → Int32 → Ras → Src → Tga → Out (Ras × Src × Tga) Unit) : Prop := ∀ (v3 : Int32) (v4 : Int32) (v5 : Int32) (v6 : Int32) (t0 : Int32) (t1 : Int32) (x : Ras) (sc : Src) (tg : Tga) (res : Out (Ras × Src × Tga) Unit), k v3 v4 v5 v6 t0 t1 x sc tg = res → res ≠ fno → AW (fun _ _ => True) mX9_readPixels (rmD 6 1 6) 0 0 (P_X9_readPixels m0 sh rr r ww so pl qo pn bm px fa hb n res) (X_X9_readPixels m0 sh rr r ww so pl qo pn bm px fa hb n res) 0 0 166 [(0, .ref 26), (1, .ref 16), (2, .ref r), (3, .int v3), (4, .int v4), (5, .int v5), (6, .int v6)] [.int t0, .int t1, .ref r] (HC m0 sh (va_up rr r x) ww so sc pl qo pn bm tg px fa hb) n
def F_X9_readPixels_166 (sb : A) (k15 : Int32 → Int32 → Ras → Src → Tga → Out (Ras × Src × Tga) Unit) (k58 : Int32 → Int32 → Int32 → Int32 → Ras → Src → Tga → Out (Ras × Src × Tga) Unit) (v3 : Int32) (v4 : Int32) (v5 : Int32) (v6 : Int32) (t0 : Int32) (t1 : Int32) (x : Ras) (sc : Src) (tg : Tga) : Out (Ras × Src × Tga) Unit := fon (F_X7_set (t1 + t0) v3 x) (fun z168 s168 => k58 v3 v4 v5 (v6 + 1) s168 sc tg) (fun _ _ => fno)
set_option maxHeartbeats 1000000 in
set_option maxRecDepth 100000 in
theorem b_X9_readPixels_166 (m0 : Mnt) (sh : Nat → Nat) (rr : Nat → Ras) (r : Nat) (ww : Nat → Row) (so : Nat) (pl : Pal) (qo : Qoi) (pn : Pnm) (bm : Bmp) (px : Pcx) (fa : A) (hb : aH) (n : Nat) (hr : isR r) (hso : isW so) (k15 : Int32 → Int32 → Ras → Src → Tga → Out (Ras × Src × Tga) Unit) (hk15 : Q_X9_readPixels_15 m0 sh rr r ww so pl qo pn bm px fa hb n k15) (k58 : Int32 → Int32 → Int32 → Int32 → Ras → Src → Tga → Out (Ras × Src × Tga) Unit) (hk58 : Q_X9_readPixels_58 m0 sh rr r ww so pl qo pn bm px fa hb n k58) : Q_X9_readPixels_166 m0 sh rr r ww so pl qo pn bm px fa hb n (F_X9_readPixels_166 (y_b (ww so)) k15 k58) := by
  intro v3 v4 v5 v6 t0 t1 x sc tg res hE hF
  unfold F_X9_readPixels_166 at hE
  refine aw_iadd dX9_readPixels_166 ?_
  refine aw_iload_n dX9_readPixels_167 rfl ?_
  refine aw_callV dX9_readPixels_168 (at_ras hr) cvX9_145 rfl (kF_X7_set m0 sh rr r x ww so sc pl qo pn bm tg px fa hb _ hr (t1 + t0) v3 (fon_ne hE hF)) rfl (Nat.le_of_ble_eq_true rfl) (by decide) (by decide) (by decide) (by decide) (fun _ _ _ hf => False.elim hf) (fun r168 h168 n168 hp168 => ?_)
  obtain ⟨z168, s168, e168, rfl, rfl, rfl⟩ := hp168
  replace hE := fon_ok e168 hE
  refine aw_iinc (v := (v6 + 1)) (lv2 := [(6, _), (0, _), (1, _), (2, _), (3, _), (4, _), (5, _)]) dX9_readPixels_171 rfl (incE (by decide)) (by decide) rfl ?_
  refine aw_goto (tgt := 58) dX9_readPixels_174 (by decide) ?_
  exact aw_lv _ (List.forall_mem_cons.mpr ⟨rfl, (List.forall_mem_cons.mpr ⟨rfl, (List.forall_mem_cons.mpr ⟨rfl, (List.forall_mem_cons.mpr ⟨rfl, (List.forall_mem_cons.mpr ⟨rfl, (List.forall_mem_cons.mpr ⟨rfl, (List.forall_mem_cons.mpr ⟨rfl, fun _ h => absurd h List.not_mem_nil⟩)⟩)⟩)⟩)⟩)⟩)⟩) (hk58 v3 v4 v5 (v6 + 1) s168 sc tg _ hE hF)
def F_X9_readPixels_125 (sb : A) (k15 : Int32 → Int32 → Ras → Src → Tga → Out (Ras × Src × Tga) Unit) (k58 : Int32 → Int32 → Int32 → Int32 → Ras → Src → Tga → Out (Ras × Src × Tga) Unit) (v3 : Int32) (v4 : Int32) (v5 : Int32) (v6 : Int32) (x : Ras) (sc : Src) (tg : Tga) : Out (Ras × Src × Tga) Unit := if ((tg_flags tg) &&& 16) = 0 then (F_X9_readPixels_166 sb k15 k58 v3 v4 v5 v6 v6 v5 x sc ((tg_f1 tg), (tg_f2 tg), (tg_f3 tg), (tg_map tg), (tg_type tg), (tg_fe tg), (tg_many tg), (tg_deep tg), (tg_bits tg), (tg_flags tg), (tg_ab tg), (tg_idx tg), (tg_packets tg), (iMax ((tg_left tg) - 1) 0), (tg_like tg), (tg_ent tg))) else (F_X9_readPixels_166 sb k15 k58 v3 v4 v5 v6 (((x_w x) - 1) - v6) v5 x sc ((tg_f1 tg), (tg_f2 tg), (tg_f3 tg), (tg_map tg), (tg_type tg), (tg_fe tg), (tg_many tg), (tg_deep tg), (tg_bits tg), (tg_flags tg), (tg_ab tg), (tg_idx tg), (tg_packets tg), (iMax ((tg_left tg) - 1) 0), (tg_like tg), (tg_ent tg)))
set_option maxHeartbeats 1000000 in
set_option maxRecDepth 100000 in
theorem b_X9_readPixels_125 (m0 : Mnt) (sh : Nat → Nat) (rr : Nat → Ras) (r : Nat) (ww : Nat → Row) (so : Nat) (pl : Pal) (qo : Qoi) (pn : Pnm) (bm : Bmp) (px : Pcx) (fa : A) (hb : aH) (n : Nat) (hr : isR r) (hso : isW so) (k15 : Int32 → Int32 → Ras → Src → Tga → Out (Ras × Src × Tga) Unit) (hk15 : Q_X9_readPixels_15 m0 sh rr r ww so pl qo pn bm px fa hb n k15) (k58 : Int32 → Int32 → Int32 → Int32 → Ras → Src → Tga → Out (Ras × Src × Tga) Unit) (hk58 : Q_X9_readPixels_58 m0 sh rr r ww so pl qo pn bm px fa hb n k58) : Q_X9_readPixels_125 m0 sh rr r ww so pl qo pn bm px fa hb n (F_X9_readPixels_125 (y_b (ww so)) k15 k58) := by
  intro v3 v4 v5 v6 x sc tg res hE hF
  unfold F_X9_readPixels_125 at hE
  refine aw_aload_n dX9_readPixels_125 rfl ?_
  refine aw_aload_n dX9_readPixels_126 rfl ?_
  refine aw_getf (v := .int (tg_left tg)) dX9_readPixels_127 flX9_118_8 at_tga rfl ?_
  refine aw_iconst (v := 1) dX9_readPixels_130 (by decide) ?_
  refine aw_isub dX9_readPixels_131 ?_
  refine aw_iconst (v := 0) dX9_readPixels_132 (by decide) ?_
  refine aw_mmax dX9_readPixels_133 csX9_139.1.1 csX9_139.2 csX9_139.1.2.1 csX9_139.1.2.2.1 (by decide) (Nat.le_of_ble_eq_true rfl) (Nat.zero_le _) (Nat.zero_le _) ?_
  refine aw_putf dX9_readPixels_136 ptX9_118_8 at_tga (Nat.le_of_ble_eq_true rfl) ⟨rfl, rfl⟩ ?_
  refine aw_eqh (h2 := HC m0 sh (va_up rr r x) ww so sc pl qo pn bm ((tg_f1 tg), (tg_f2 tg), (tg_f3 tg), (tg_map tg), (tg_type tg), (tg_fe tg), (tg_many tg), (tg_deep tg), (tg_bits tg), (tg_flags tg), (tg_ab tg), (tg_idx tg), (tg_packets tg), (iMax ((tg_left tg) - 1) 0), (tg_like tg), (tg_ent tg)) px fa hb) up_tga ?_
  refine aw_aload_n dX9_readPixels_139 rfl ?_
  refine aw_iload dX9_readPixels_140 rfl ?_
  refine aw_aload_n dX9_readPixels_142 rfl ?_
  refine aw_getf (v := .int (tg_flags tg)) dX9_readPixels_143 flX9_108_8 at_tga rfl ?_
  refine aw_bipush (v := 16) dX9_readPixels_146 (by decide) ?_
  refine aw_iand dX9_readPixels_148 ?_
  refine aw_if_eq (tgt := 164) dX9_readPixels_149 (by decide) (fun c149 => ?_) (fun c149 => ?_)
  · replace hE := fit hE c149
    refine aw_iload dX9_readPixels_164 rfl ?_
    exact aw_lv _ (List.forall_mem_cons.mpr ⟨rfl, (List.forall_mem_cons.mpr ⟨rfl, (List.forall_mem_cons.mpr ⟨rfl, (List.forall_mem_cons.mpr ⟨rfl, (List.forall_mem_cons.mpr ⟨rfl, (List.forall_mem_cons.mpr ⟨rfl, (List.forall_mem_cons.mpr ⟨rfl, fun _ h => absurd h List.not_mem_nil⟩)⟩)⟩)⟩)⟩)⟩)⟩) (b_X9_readPixels_166 m0 sh rr r ww so pl qo pn bm px fa hb n hr hso k15 hk15 k58 hk58 v3 v4 v5 v6 v6 v5 x sc ((tg_f1 tg), (tg_f2 tg), (tg_f3 tg), (tg_map tg), (tg_type tg), (tg_fe tg), (tg_many tg), (tg_deep tg), (tg_bits tg), (tg_flags tg), (tg_ab tg), (tg_idx tg), (tg_packets tg), (iMax ((tg_left tg) - 1) 0), (tg_like tg), (tg_ent tg)) _ hE hF)
  · replace hE := fif hE c149
    refine aw_aload_n dX9_readPixels_152 rfl ?_
    refine aw_getf (v := .int (x_w x)) dX9_readPixels_153 flX9_126_6 (at_ras hr) rfl ?_
    refine aw_iconst (v := 1) dX9_readPixels_156 (by decide) ?_
    refine aw_isub dX9_readPixels_157 ?_
    refine aw_iload dX9_readPixels_158 rfl ?_
    refine aw_isub dX9_readPixels_160 ?_
    refine aw_goto (tgt := 166) dX9_readPixels_161 (by decide) ?_
    exact aw_lv _ (List.forall_mem_cons.mpr ⟨rfl, (List.forall_mem_cons.mpr ⟨rfl, (List.forall_mem_cons.mpr ⟨rfl, (List.forall_mem_cons.mpr ⟨rfl, (List.forall_mem_cons.mpr ⟨rfl, (List.forall_mem_cons.mpr ⟨rfl, (List.forall_mem_cons.mpr ⟨rfl, fun _ h => absurd h List.not_mem_nil⟩)⟩)⟩)⟩)⟩)⟩)⟩) (b_X9_readPixels_166 m0 sh rr r ww so pl qo pn bm px fa hb n hr hso k15 hk15 k58 hk58 v3 v4 v5 v6 (((x_w x) - 1) - v6) v5 x sc ((tg_f1 tg), (tg_f2 tg), (tg_f3 tg), (tg_map tg), (tg_type tg), (tg_fe tg), (tg_many tg), (tg_deep tg), (tg_bits tg), (tg_flags tg), (tg_ab tg), (tg_idx tg), (tg_packets tg), (iMax ((tg_left tg) - 1) 0), (tg_like tg), (tg_ent tg)) _ hE hF)
def F_X9_readPixels_119 (sb : A) (k15 : Int32 → Int32 → Ras → Src → Tga → Out (Ras × Src × Tga) Unit) (k58 : Int32 → Int32 → Int32 → Int32 → Ras → Src → Tga → Out (Ras × Src × Tga) Unit) (v4 : Int32) (v5 : Int32) (v6 : Int32) (x : Ras) (sc : Src) (tg : Tga) : Out (Ras × Src × Tga) Unit := fon (F_X9_readPixel sc sb tg) (fun z121 s121 => F_X9_readPixels_125 sb k15 k58 z121 v4 v5 v6 x s121 tg) (fun E s121 => fex E (x, s121, tg))
set_option maxHeartbeats 1000000 in
set_option maxRecDepth 100000 in
theorem b_X9_readPixels_119 (m0 : Mnt) (sh : Nat → Nat) (rr : Nat → Ras) (r : Nat) (ww : Nat → Row) (so : Nat) (pl : Pal) (qo : Qoi) (pn : Pnm) (bm : Bmp) (px : Pcx) (fa : A) (hb : aH) (n : Nat) (hr : isR r) (hso : isW so) (k15 : Int32 → Int32 → Ras → Src → Tga → Out (Ras × Src × Tga) Unit) (hk15 : Q_X9_readPixels_15 m0 sh rr r ww so pl qo pn bm px fa hb n k15) (k58 : Int32 → Int32 → Int32 → Int32 → Ras → Src → Tga → Out (Ras × Src × Tga) Unit) (hk58 : Q_X9_readPixels_58 m0 sh rr r ww so pl qo pn bm px fa hb n k58) : Q_X9_readPixels_119 m0 sh rr r ww so pl qo pn bm px fa hb n (F_X9_readPixels_119 (y_b (ww so)) k15 k58) := by
  intro v4 v5 v6 x sc tg res hE hF
  unfold F_X9_readPixels_119 at hE
  refine aw_aload_n dX9_readPixels_119 rfl ?_
  refine aw_aload_n dX9_readPixels_120 rfl ?_
  refine aw_callV dX9_readPixels_121 at_tga cvX9_136 rfl (kF_X9_readPixel m0 sh (va_up rr r x) ww so sc pl qo pn bm tg px fa hb _ hso  (fon_ne hE hF)) rfl (Nat.le_of_ble_eq_true rfl) (by decide) (by decide) (by decide) (by decide) (fun E h2 n2 hx => aw_out rfl (by decide) (by decide) (by obtain ⟨s121, e121, rfl, rfl⟩ := hx; exact ⟨_, (fon_ex e121 hE).symm, rfl, rfl⟩)) (fun r121 h121 n121 hp121 => ?_)
  obtain ⟨z121, s121, e121, rfl, rfl, rfl⟩ := hp121
  replace hE := fon_ok e121 hE
  refine aw_istore_n (lv2 := [(3, _), (0, _), (1, _), (2, _), (4, _), (5, _), (6, _)]) dX9_readPixels_124 (by decide) rfl ?_
  exact aw_lv _ (List.forall_mem_cons.mpr ⟨rfl, (List.forall_mem_cons.mpr ⟨rfl, (List.forall_mem_cons.mpr ⟨rfl, (List.forall_mem_cons.mpr ⟨rfl, (List.forall_mem_cons.mpr ⟨rfl, (List.forall_mem_cons.mpr ⟨rfl, (List.forall_mem_cons.mpr ⟨rfl, fun _ h => absurd h List.not_mem_nil⟩)⟩)⟩)⟩)⟩)⟩)⟩) (b_X9_readPixels_125 m0 sh rr r ww so pl qo pn bm px fa hb n hr hso k15 hk15 k58 hk58 z121 v4 v5 v6 x s121 tg _ hE hF)
def F_X9_readPixels_107 (sb : A) (k15 : Int32 → Int32 → Ras → Src → Tga → Out (Ras × Src × Tga) Unit) (k58 : Int32 → Int32 → Int32 → Int32 → Ras → Src → Tga → Out (Ras × Src × Tga) Unit) (v3 : Int32) (v4 : Int32) (v5 : Int32) (v6 : Int32) (v7 : Int32) (x : Ras) (sc : Src) (tg : Tga) : Out (Ras × Src × Tga) Unit := if v7 = 0 then (if (tg_like tg) = 0 then (F_X9_readPixels_119 sb k15 k58 v4 v5 v6 x sc tg) else (F_X9_readPixels_125 sb k15 k58 v3 v4 v5 v6 x sc tg)) else (F_X9_readPixels_119 sb k15 k58 v4 v5 v6 x sc tg)
set_option maxHeartbeats 1000000 in
set_option maxRecDepth 100000 in
theorem b_X9_readPixels_107 (m0 : Mnt) (sh : Nat → Nat) (rr : Nat → Ras) (r : Nat) (ww : Nat → Row) (so : Nat) (pl : Pal) (qo : Qoi) (pn : Pnm) (bm : Bmp) (px : Pcx) (fa : A) (hb : aH) (n : Nat) (hr : isR r) (hso : isW so) (k15 : Int32 → Int32 → Ras → Src → Tga → Out (Ras × Src × Tga) Unit) (hk15 : Q_X9_readPixels_15 m0 sh rr r ww so pl qo pn bm px fa hb n k15) (k58 : Int32 → Int32 → Int32 → Int32 → Ras → Src → Tga → Out (Ras × Src × Tga) Unit) (hk58 : Q_X9_readPixels_58 m0 sh rr r ww so pl qo pn bm px fa hb n k58) : Q_X9_readPixels_107 m0 sh rr r ww so pl qo pn bm px fa hb n (F_X9_readPixels_107 (y_b (ww so)) k15 k58) := by
  intro v3 v4 v5 v6 v7 x sc tg res hE hF
  unfold F_X9_readPixels_107 at hE
  refine aw_iload dX9_readPixels_107 rfl ?_
  refine aw_if_ne (tgt := 119) dX9_readPixels_109 (by decide) (fun c109 => ?_) (fun c109 => ?_)
  · replace hE := fif hE c109
    exact aw_lv _ (List.forall_mem_cons.mpr ⟨rfl, (List.forall_mem_cons.mpr ⟨rfl, (List.forall_mem_cons.mpr ⟨rfl, (List.forall_mem_cons.mpr ⟨rfl, (List.forall_mem_cons.mpr ⟨rfl, (List.forall_mem_cons.mpr ⟨rfl, fun _ h => absurd h List.not_mem_nil⟩)⟩)⟩)⟩)⟩)⟩) (b_X9_readPixels_119 m0 sh rr r ww so pl qo pn bm px fa hb n hr hso k15 hk15 k58 hk58 v4 v5 v6 x sc tg _ hE hF)
  · replace hE := fit hE c109
    refine aw_aload_n dX9_readPixels_112 rfl ?_
    refine aw_getf (v := .int (tg_like tg)) dX9_readPixels_113 flX9_133_8 at_tga rfl ?_
    refine aw_if_ne (tgt := 125) dX9_readPixels_116 (by decide) (fun c116 => ?_) (fun c116 => ?_)
    · replace hE := fif hE c116
      exact aw_lv _ (List.forall_mem_cons.mpr ⟨rfl, (List.forall_mem_cons.mpr ⟨rfl, (List.forall_mem_cons.mpr ⟨rfl, (List.forall_mem_cons.mpr ⟨rfl, (List.forall_mem_cons.mpr ⟨rfl, (List.forall_mem_cons.mpr ⟨rfl, (List.forall_mem_cons.mpr ⟨rfl, fun _ h => absurd h List.not_mem_nil⟩)⟩)⟩)⟩)⟩)⟩)⟩) (b_X9_readPixels_125 m0 sh rr r ww so pl qo pn bm px fa hb n hr hso k15 hk15 k58 hk58 v3 v4 v5 v6 x sc tg _ hE hF)
    · replace hE := fit hE c116
      exact aw_lv _ (List.forall_mem_cons.mpr ⟨rfl, (List.forall_mem_cons.mpr ⟨rfl, (List.forall_mem_cons.mpr ⟨rfl, (List.forall_mem_cons.mpr ⟨rfl, (List.forall_mem_cons.mpr ⟨rfl, (List.forall_mem_cons.mpr ⟨rfl, fun _ h => absurd h List.not_mem_nil⟩)⟩)⟩)⟩)⟩)⟩) (b_X9_readPixels_119 m0 sh rr r ww so pl qo pn bm px fa hb n hr hso k15 hk15 k58 hk58 v4 v5 v6 x sc tg _ hE hF)
def F_X9_readPixels_79 (sb : A) (k15 : Int32 → Int32 → Ras → Src → Tga → Out (Ras × Src × Tga) Unit) (k58 : Int32 → Int32 → Int32 → Int32 → Ras → Src → Tga → Out (Ras × Src × Tga) Unit) (v3 : Int32) (v4 : Int32) (v5 : Int32) (v6 : Int32) (t0 : Int32) (x : Ras) (sc : Src) (tg : Tga) : Out (Ras × Src × Tga) Unit := if t0 = 0 then (F_X9_readPixels_107 sb k15 k58 v3 v4 v5 v6 t0 x sc tg) else (if (tg_type tg) ≤ 8 then (F_X9_readPixels_107 sb k15 k58 v3 v4 v5 v6 t0 x sc tg) else (fon (F_X9_readPacketHead ((x_w x) - v6) sc sb tg) (fun z104 s104 => F_X9_readPixels_107 sb k15 k58 v3 v4 v5 v6 t0 x s104.1 s104.2) (fun E s104 => fex E (x, s104.1, s104.2))))
set_option maxHeartbeats 1000000 in
set_option maxRecDepth 100000 in
theorem b_X9_readPixels_79 (m0 : Mnt) (sh : Nat → Nat) (rr : Nat → Ras) (r : Nat) (ww : Nat → Row) (so : Nat) (pl : Pal) (qo : Qoi) (pn : Pnm) (bm : Bmp) (px : Pcx) (fa : A) (hb : aH) (n : Nat) (hr : isR r) (hso : isW so) (k15 : Int32 → Int32 → Ras → Src → Tga → Out (Ras × Src × Tga) Unit) (hk15 : Q_X9_readPixels_15 m0 sh rr r ww so pl qo pn bm px fa hb n k15) (k58 : Int32 → Int32 → Int32 → Int32 → Ras → Src → Tga → Out (Ras × Src × Tga) Unit) (hk58 : Q_X9_readPixels_58 m0 sh rr r ww so pl qo pn bm px fa hb n k58) : Q_X9_readPixels_79 m0 sh rr r ww so pl qo pn bm px fa hb n (F_X9_readPixels_79 (y_b (ww so)) k15 k58) := by
  intro v3 v4 v5 v6 t0 x sc tg res hE hF
  unfold F_X9_readPixels_79 at hE
  refine aw_istore (lv2 := [(7, _), (0, _), (1, _), (2, _), (3, _), (4, _), (5, _), (6, _)]) dX9_readPixels_79 (by decide) rfl ?_
  refine aw_iload dX9_readPixels_81 rfl ?_
  refine aw_if_eq (tgt := 107) dX9_readPixels_83 (by decide) (fun c83 => ?_) (fun c83 => ?_)
  · replace hE := fit hE c83
    exact aw_lv _ (List.forall_mem_cons.mpr ⟨rfl, (List.forall_mem_cons.mpr ⟨rfl, (List.forall_mem_cons.mpr ⟨rfl, (List.forall_mem_cons.mpr ⟨rfl, (List.forall_mem_cons.mpr ⟨rfl, (List.forall_mem_cons.mpr ⟨rfl, (List.forall_mem_cons.mpr ⟨rfl, (List.forall_mem_cons.mpr ⟨rfl, fun _ h => absurd h List.not_mem_nil⟩)⟩)⟩)⟩)⟩)⟩)⟩)⟩) (b_X9_readPixels_107 m0 sh rr r ww so pl qo pn bm px fa hb n hr hso k15 hk15 k58 hk58 v3 v4 v5 v6 t0 x sc tg _ hE hF)
  · replace hE := fif hE c83
    refine aw_aload_n dX9_readPixels_86 rfl ?_
    refine aw_getf (v := .int (tg_type tg)) dX9_readPixels_87 flX9_55_8 at_tga rfl ?_
    refine aw_bipush (v := 8) dX9_readPixels_90 (by decide) ?_
    refine aw_icmp_le (tgt := 107) dX9_readPixels_92 (by decide) (fun c92 => ?_) (fun c92 => ?_)
    · replace hE := fit hE c92
      exact aw_lv _ (List.forall_mem_cons.mpr ⟨rfl, (List.forall_mem_cons.mpr ⟨rfl, (List.forall_mem_cons.mpr ⟨rfl, (List.forall_mem_cons.mpr ⟨rfl, (List.forall_mem_cons.mpr ⟨rfl, (List.forall_mem_cons.mpr ⟨rfl, (List.forall_mem_cons.mpr ⟨rfl, (List.forall_mem_cons.mpr ⟨rfl, fun _ h => absurd h List.not_mem_nil⟩)⟩)⟩)⟩)⟩)⟩)⟩)⟩) (b_X9_readPixels_107 m0 sh rr r ww so pl qo pn bm px fa hb n hr hso k15 hk15 k58 hk58 v3 v4 v5 v6 t0 x sc tg _ hE hF)
    · replace hE := fif hE c92
      refine aw_aload_n dX9_readPixels_95 rfl ?_
      refine aw_aload_n dX9_readPixels_96 rfl ?_
      refine aw_aload_n dX9_readPixels_97 rfl ?_
      refine aw_getf (v := .int (x_w x)) dX9_readPixels_98 flX9_126_6 (at_ras hr) rfl ?_
      refine aw_iload dX9_readPixels_101 rfl ?_
      refine aw_isub dX9_readPixels_103 ?_
      refine aw_callV dX9_readPixels_104 at_tga cvX9_129 rfl (kF_X9_readPacketHead m0 sh (va_up rr r x) ww so sc pl qo pn bm tg px fa hb _ hso ((x_w x) - v6) (fon_ne hE hF)) rfl (Nat.le_of_ble_eq_true rfl) (by decide) (by decide) (by decide) (by decide) (fun E h2 n2 hx => aw_out rfl (by decide) (by decide) (by obtain ⟨s104, e104, rfl, rfl⟩ := hx; exact ⟨_, (fon_ex e104 hE).symm, rfl, rfl⟩)) (fun r104 h104 n104 hp104 => ?_)
      obtain ⟨z104, s104, e104, rfl, rfl, rfl⟩ := hp104
      replace hE := fon_ok e104 hE
      exact aw_lv _ (List.forall_mem_cons.mpr ⟨rfl, (List.forall_mem_cons.mpr ⟨rfl, (List.forall_mem_cons.mpr ⟨rfl, (List.forall_mem_cons.mpr ⟨rfl, (List.forall_mem_cons.mpr ⟨rfl, (List.forall_mem_cons.mpr ⟨rfl, (List.forall_mem_cons.mpr ⟨rfl, (List.forall_mem_cons.mpr ⟨rfl, fun _ h => absurd h List.not_mem_nil⟩)⟩)⟩)⟩)⟩)⟩)⟩)⟩) (b_X9_readPixels_107 m0 sh rr r ww so pl qo pn bm px fa hb n hr hso k15 hk15 k58 hk58 v3 v4 v5 v6 t0 x s104.1 s104.2 _ hE hF)
def F_X9_readPixels_58 (sb : A) (k15 : Int32 → Int32 → Ras → Src → Tga → Out (Ras × Src × Tga) Unit) (k58 : Int32 → Int32 → Int32 → Int32 → Ras → Src → Tga → Out (Ras × Src × Tga) Unit) (v3 : Int32) (v4 : Int32) (v5 : Int32) (v6 : Int32) (x : Ras) (sc : Src) (tg : Tga) : Out (Ras × Src × Tga) Unit := if (x_w x) ≤ v6 then (k15 v3 (v4 + 1) x sc tg) else (if (tg_left tg) = 0 then (F_X9_readPixels_79 sb k15 k58 v3 v4 v5 v6 (1 : Int32) x sc tg) else (F_X9_readPixels_79 sb k15 k58 v3 v4 v5 v6 (0 : Int32) x sc tg))
set_option maxHeartbeats 1000000 in
set_option maxRecDepth 100000 in
theorem b_X9_readPixels_58 (m0 : Mnt) (sh : Nat → Nat) (rr : Nat → Ras) (r : Nat) (ww : Nat → Row) (so : Nat) (pl : Pal) (qo : Qoi) (pn : Pnm) (bm : Bmp) (px : Pcx) (fa : A) (hb : aH) (n : Nat) (hr : isR r) (hso : isW so) (k15 : Int32 → Int32 → Ras → Src → Tga → Out (Ras × Src × Tga) Unit) (hk15 : Q_X9_readPixels_15 m0 sh rr r ww so pl qo pn bm px fa hb n k15) (k58 : Int32 → Int32 → Int32 → Int32 → Ras → Src → Tga → Out (Ras × Src × Tga) Unit) (hk58 : Q_X9_readPixels_58 m0 sh rr r ww so pl qo pn bm px fa hb n k58) : Q_X9_readPixels_58 m0 sh rr r ww so pl qo pn bm px fa hb n (F_X9_readPixels_58 (y_b (ww so)) k15 k58) := by
  intro v3 v4 v5 v6 x sc tg res hE hF
  unfold F_X9_readPixels_58 at hE
  refine aw_iload dX9_readPixels_58 rfl ?_
  refine aw_aload_n dX9_readPixels_60 rfl ?_
  refine aw_getf (v := .int (x_w x)) dX9_readPixels_61 flX9_126_6 (at_ras hr) rfl ?_
  refine aw_icmp_ge (tgt := 177) dX9_readPixels_64 (by decide) (fun c64 => ?_) (fun c64 => ?_)
  · replace hE := fit hE c64
    refine aw_iinc (v := (v4 + 1)) (lv2 := [(4, _), (0, _), (1, _), (2, _), (3, _), (5, _), (6, _)]) dX9_readPixels_177 rfl (incE (by decide)) (by decide) rfl ?_
    refine aw_goto (tgt := 15) dX9_readPixels_180 (by decide) ?_
    exact aw_lv _ (List.forall_mem_cons.mpr ⟨rfl, (List.forall_mem_cons.mpr ⟨rfl, (List.forall_mem_cons.mpr ⟨rfl, (List.forall_mem_cons.mpr ⟨rfl, (List.forall_mem_cons.mpr ⟨rfl, fun _ h => absurd h List.not_mem_nil⟩)⟩)⟩)⟩)⟩) (hk15 v3 (v4 + 1) x sc tg _ hE hF)
  · replace hE := fif hE c64
    refine aw_aload_n dX9_readPixels_67 rfl ?_
    refine aw_getf (v := .int (tg_left tg)) dX9_readPixels_68 flX9_118_8 at_tga rfl ?_
    refine aw_if_ne (tgt := 78) dX9_readPixels_71 (by decide) (fun c71 => ?_) (fun c71 => ?_)
    · replace hE := fif hE c71
      refine aw_iconst (v := 0) dX9_readPixels_78 (by decide) ?_
      exact aw_lv _ (List.forall_mem_cons.mpr ⟨rfl, (List.forall_mem_cons.mpr ⟨rfl, (List.forall_mem_cons.mpr ⟨rfl, (List.forall_mem_cons.mpr ⟨rfl, (List.forall_mem_cons.mpr ⟨rfl, (List.forall_mem_cons.mpr ⟨rfl, (List.forall_mem_cons.mpr ⟨rfl, fun _ h => absurd h List.not_mem_nil⟩)⟩)⟩)⟩)⟩)⟩)⟩) (b_X9_readPixels_79 m0 sh rr r ww so pl qo pn bm px fa hb n hr hso k15 hk15 k58 hk58 v3 v4 v5 v6 (0 : Int32) x sc tg _ hE hF)
    · replace hE := fit hE c71
      refine aw_iconst (v := 1) dX9_readPixels_74 (by decide) ?_
      refine aw_goto (tgt := 79) dX9_readPixels_75 (by decide) ?_
      exact aw_lv _ (List.forall_mem_cons.mpr ⟨rfl, (List.forall_mem_cons.mpr ⟨rfl, (List.forall_mem_cons.mpr ⟨rfl, (List.forall_mem_cons.mpr ⟨rfl, (List.forall_mem_cons.mpr ⟨rfl, (List.forall_mem_cons.mpr ⟨rfl, (List.forall_mem_cons.mpr ⟨rfl, fun _ h => absurd h List.not_mem_nil⟩)⟩)⟩)⟩)⟩)⟩)⟩) (b_X9_readPixels_79 m0 sh rr r ww so pl qo pn bm px fa hb n hr hso k15 hk15 k58 hk58 v3 v4 v5 v6 (1 : Int32) x sc tg _ hE hF)
def F_X9_readPixels_48 (sb : A) (k15 : Int32 → Int32 → Ras → Src → Tga → Out (Ras × Src × Tga) Unit) (v3 : Int32) (v4 : Int32) (t0 : Int32) (x : Ras) (sc : Src) (tg : Tga) : Out (Ras × Src × Tga) Unit := lp (fun _ _ _ _ _ _ _ => fno) (F_X9_readPixels_58 sb k15) FU v3 v4 (t0 * (x_w x)) (0 : Int32) x sc tg
set_option maxHeartbeats 1000000 in
set_option maxRecDepth 100000 in
theorem b_X9_readPixels_48 (m0 : Mnt) (sh : Nat → Nat) (rr : Nat → Ras) (r : Nat) (ww : Nat → Row) (so : Nat) (pl : Pal) (qo : Qoi) (pn : Pnm) (bm : Bmp) (px : Pcx) (fa : A) (hb : aH) (n : Nat) (hr : isR r) (hso : isW so) (k15 : Int32 → Int32 → Ras → Src → Tga → Out (Ras × Src × Tga) Unit) (hk15 : Q_X9_readPixels_15 m0 sh rr r ww so pl qo pn bm px fa hb n k15) : Q_X9_readPixels_48 m0 sh rr r ww so pl qo pn bm px fa hb n (F_X9_readPixels_48 (y_b (ww so)) k15) := by
  intro v3 v4 t0 x sc tg res hE hF
  unfold F_X9_readPixels_48 at hE
  refine aw_aload_n dX9_readPixels_48 rfl ?_
  refine aw_getf (v := .int (x_w x)) dX9_readPixels_49 flX9_126_6 (at_ras hr) rfl ?_
  refine aw_imul dX9_readPixels_52 ?_
  refine aw_istore (lv2 := [(5, _), (0, _), (1, _), (2, _), (3, _), (4, _)]) dX9_readPixels_53 (by decide) rfl ?_
  refine aw_iconst (v := 0) dX9_readPixels_55 (by decide) ?_
  refine aw_istore (lv2 := [(6, _), (5, _), (0, _), (1, _), (2, _), (3, _), (4, _)]) dX9_readPixels_56 (by decide) rfl ?_
  exact aw_lv _ (List.forall_mem_cons.mpr ⟨rfl, (List.forall_mem_cons.mpr ⟨rfl, (List.forall_mem_cons.mpr ⟨rfl, (List.forall_mem_cons.mpr ⟨rfl, (List.forall_mem_cons.mpr ⟨rfl, (List.forall_mem_cons.mpr ⟨rfl, (List.forall_mem_cons.mpr ⟨rfl, fun _ h => absurd h List.not_mem_nil⟩)⟩)⟩)⟩)⟩)⟩)⟩) (lp_ind (Q_X9_readPixels_58 m0 sh rr r ww so pl qo pn bm px fa hb n) (fun _ _ _ _ _ _ _ res hq hF => (hF hq.symm).elim) (fun k hk => b_X9_readPixels_58 m0 sh rr r ww so pl qo pn bm px fa hb n hr hso k15 hk15 k hk) FU v3 v4 (t0 * (x_w x)) (0 : Int32) x sc tg _ hE hF)
def F_X9_readPixels_15 (sb : A) (k15 : Int32 → Int32 → Ras → Src → Tga → Out (Ras × Src × Tga) Unit) (v3 : Int32) (v4 : Int32) (x : Ras) (sc : Src) (tg : Tga) : Out (Ras × Src × Tga) Unit := if (x_g x) ≤ v4 then (fok () (x, sc, tg)) else (if ((tg_flags tg) &&& 32) = 0 then (F_X9_readPixels_48 sb k15 v3 v4 (((x_g x) - 1) - v4) x sc tg) else (F_X9_readPixels_48 sb k15 v3 v4 v4 x sc tg))
set_option maxHeartbeats 1000000 in
set_option maxRecDepth 100000 in
theorem b_X9_readPixels_15 (m0 : Mnt) (sh : Nat → Nat) (rr : Nat → Ras) (r : Nat) (ww : Nat → Row) (so : Nat) (pl : Pal) (qo : Qoi) (pn : Pnm) (bm : Bmp) (px : Pcx) (fa : A) (hb : aH) (n : Nat) (hr : isR r) (hso : isW so) (k15 : Int32 → Int32 → Ras → Src → Tga → Out (Ras × Src × Tga) Unit) (hk15 : Q_X9_readPixels_15 m0 sh rr r ww so pl qo pn bm px fa hb n k15) : Q_X9_readPixels_15 m0 sh rr r ww so pl qo pn bm px fa hb n (F_X9_readPixels_15 (y_b (ww so)) k15) := by
  intro v3 v4 x sc tg res hE hF
  unfold F_X9_readPixels_15 at hE
  refine aw_iload dX9_readPixels_15 rfl ?_
  refine aw_aload_n dX9_readPixels_17 rfl ?_
  refine aw_getf (v := .int (x_g x)) dX9_readPixels_18 flX9_121_6 (at_ras hr) rfl ?_
  refine aw_icmp_ge (tgt := 183) dX9_readPixels_21 (by decide) (fun c21 => ?_) (fun c21 => ?_)
  · replace hE := fit hE c21
    exact aw_vret dX9_readPixels_183 rfl (Nat.zero_le _) (Nat.zero_le _) (Nat.zero_le _) (Nat.zero_le _) ⟨_, _, hE.symm, rfl, rfl, rfl⟩
  · replace hE := fif hE c21
    refine aw_aload_n dX9_readPixels_24 rfl ?_
    refine aw_getf (v := .int (tg_flags tg)) dX9_readPixels_25 flX9_108_8 at_tga rfl ?_
    refine aw_bipush (v := 32) dX9_readPixels_28 (by decide) ?_
    refine aw_iand dX9_readPixels_30 ?_
    refine aw_if_eq (tgt := 39) dX9_readPixels_31 (by decide) (fun c31 => ?_) (fun c31 => ?_)
    · replace hE := fit hE c31
      refine aw_aload_n dX9_readPixels_39 rfl ?_
      refine aw_getf (v := .int (x_g x)) dX9_readPixels_40 flX9_121_6 (at_ras hr) rfl ?_
      refine aw_iconst (v := 1) dX9_readPixels_43 (by decide) ?_
      refine aw_isub dX9_readPixels_44 ?_
      refine aw_iload dX9_readPixels_45 rfl ?_
      refine aw_isub dX9_readPixels_47 ?_
      exact aw_lv _ (List.forall_mem_cons.mpr ⟨rfl, (List.forall_mem_cons.mpr ⟨rfl, (List.forall_mem_cons.mpr ⟨rfl, (List.forall_mem_cons.mpr ⟨rfl, (List.forall_mem_cons.mpr ⟨rfl, fun _ h => absurd h List.not_mem_nil⟩)⟩)⟩)⟩)⟩) (b_X9_readPixels_48 m0 sh rr r ww so pl qo pn bm px fa hb n hr hso k15 hk15 v3 v4 (((x_g x) - 1) - v4) x sc tg _ hE hF)
    · replace hE := fif hE c31
      refine aw_iload dX9_readPixels_34 rfl ?_
      refine aw_goto (tgt := 48) dX9_readPixels_36 (by decide) ?_
      exact aw_lv _ (List.forall_mem_cons.mpr ⟨rfl, (List.forall_mem_cons.mpr ⟨rfl, (List.forall_mem_cons.mpr ⟨rfl, (List.forall_mem_cons.mpr ⟨rfl, (List.forall_mem_cons.mpr ⟨rfl, fun _ h => absurd h List.not_mem_nil⟩)⟩)⟩)⟩)⟩) (b_X9_readPixels_48 m0 sh rr r ww so pl qo pn bm px fa hb n hr hso k15 hk15 v3 v4 v4 x sc tg _ hE hF)
def F_X9_readPixels (x : Ras) (sc : Src) (sb : A) (tg : Tga) : Out (Ras × Src × Tga) Unit := lp (fun _ _ _ _ _ => fno) (F_X9_readPixels_15 sb) FU (0 : Int32) (0 : Int32) x sc ((tg_f1 tg), (tg_f2 tg), (tg_f3 tg), (tg_map tg), (tg_type tg), (tg_fe tg), (tg_many tg), (tg_deep tg), (tg_bits tg), (tg_flags tg), (tg_ab tg), (tg_idx tg), 0, 0, (tg_like tg), (tg_ent tg))
set_option maxHeartbeats 1000000 in
set_option maxRecDepth 100000 in
theorem kF_X9_readPixels (m0 : Mnt) (sh : Nat → Nat) (rr : Nat → Ras) (r : Nat) (x : Ras) (ww : Nat → Row) (so : Nat) (sc : Src) (pl : Pal) (qo : Qoi) (pn : Pnm) (bm : Bmp) (tg : Tga) (px : Pcx) (fa : A) (hb : aH) (n : Nat) (hr : isR r) (hso : isW so)  (hF : F_X9_readPixels x sc (y_b (ww so)) tg ≠ fno) : AM mX9_readPixels 6 [.ref 26, .ref 16, .ref r] (HC m0 sh (va_up rr r x) ww so sc pl qo pn bm tg px fa hb) n 1 6 0 0 (P_X9_readPixels m0 sh rr r ww so pl qo pn bm px fa hb n (F_X9_readPixels x sc (y_b (ww so)) tg)) (X_X9_readPixels m0 sh rr r ww so pl qo pn bm px fa hb n (F_X9_readPixels x sc (y_b (ww so)) tg)) := by
  generalize hE : F_X9_readPixels x sc (y_b (ww so)) tg = res at hF ⊢
  refine aw_of (by decide +kernel) rfl (Nat.le_of_ble_eq_true rfl) ?_
  unfold F_X9_readPixels at hE
  refine aw_aload_n dX9_readPixels_0 rfl ?_
  refine aw_iconst (v := 0) dX9_readPixels_1 (by decide) ?_
  refine aw_putf dX9_readPixels_2 ptX9_68_8 at_tga (Nat.le_of_ble_eq_true rfl) ⟨rfl, rfl⟩ ?_
  refine aw_eqh (h2 := HC m0 sh (va_up rr r x) ww so sc pl qo pn bm ((tg_f1 tg), (tg_f2 tg), (tg_f3 tg), (tg_map tg), (tg_type tg), (tg_fe tg), (tg_many tg), (tg_deep tg), (tg_bits tg), (tg_flags tg), (tg_ab tg), (tg_idx tg), 0, (tg_left tg), (tg_like tg), (tg_ent tg)) px fa hb) up_tga ?_
  refine aw_aload_n dX9_readPixels_5 rfl ?_
  refine aw_iconst (v := 0) dX9_readPixels_6 (by decide) ?_
  refine aw_putf dX9_readPixels_7 ptX9_118_8 at_tga (Nat.le_of_ble_eq_true rfl) ⟨rfl, rfl⟩ ?_
  refine aw_eqh (h2 := HC m0 sh (va_up rr r x) ww so sc pl qo pn bm ((tg_f1 tg), (tg_f2 tg), (tg_f3 tg), (tg_map tg), (tg_type tg), (tg_fe tg), (tg_many tg), (tg_deep tg), (tg_bits tg), (tg_flags tg), (tg_ab tg), (tg_idx tg), 0, 0, (tg_like tg), (tg_ent tg)) px fa hb) up_tga ?_
  refine aw_iconst (v := 0) dX9_readPixels_10 (by decide) ?_
  refine aw_istore_n (lv2 := [(3, _), (0, _), (1, _), (2, _)]) dX9_readPixels_11 (by decide) rfl ?_
  refine aw_iconst (v := 0) dX9_readPixels_12 (by decide) ?_
  refine aw_istore (lv2 := [(4, _), (3, _), (0, _), (1, _), (2, _)]) dX9_readPixels_13 (by decide) rfl ?_
  exact aw_lv _ (List.forall_mem_cons.mpr ⟨rfl, (List.forall_mem_cons.mpr ⟨rfl, (List.forall_mem_cons.mpr ⟨rfl, (List.forall_mem_cons.mpr ⟨rfl, (List.forall_mem_cons.mpr ⟨rfl, fun _ h => absurd h List.not_mem_nil⟩)⟩)⟩)⟩)⟩) (lp_ind (Q_X9_readPixels_15 m0 sh rr r ww so pl qo pn bm px fa hb n) (fun _ _ _ _ _ res hq hF => (hF hq.symm).elim) (fun k hk => b_X9_readPixels_15 m0 sh rr r ww so pl qo pn bm px fa hb n hr hso  k hk) FU (0 : Int32) (0 : Int32) x sc ((tg_f1 tg), (tg_f2 tg), (tg_f3 tg), (tg_map tg), (tg_type tg), (tg_fe tg), (tg_many tg), (tg_deep tg), (tg_bits tg), (tg_flags tg), (tg_ab tg), (tg_idx tg), 0, 0, (tg_like tg), (tg_ent tg)) _ hE hF)
def P_X11_sign (mo : MO) (mw : MW) (ms : Nat) (mt : A) (mu : A) (dd : A) (wi : A) (hi : A) (gt : A) (sp : A) (ta : A) (li : A) (sr : A) (co : A) (hb : aH) (n : Nat) (res : Out MR Int32) : Option Value → aH → Nat → Prop := fun r1 h2 n2 => ∃ (a : Int32) (s : MR), res = fok a s ∧ r1 = some (.int a) ∧ h2 = HM mo mw s ms mt mu dd wi hi gt sp ta li sr co hb ∧ n = n2
def F_X11_sign (a1 : Int32) (sb : A) (mr : MR) : Out MR Int32 := fon (F_X11_want 1 mr) (fun z2 s2 => if z2 = 0 then (fok (0 : Int32) s2) else (fon (F_X11_b (mr_pos s2) sb) (fun z15 s15 => if z15 = a1 then (fok (1 : Int32) ((mr_size s2), ((mr_pos s2) + 1), (mr_kind s2), (mr_whr s2), (mr_gw s2), (mr_gh s2), (mr_one s2), (mr_two s2), (mr_three s2))) else (fon (F_X11_wrong 2 (mr_pos s2) s2) (fun z28 s28 => if isB z28 then (fok (z28 : Int32) s28) else fno) (fun _ _ => fno))) (fun _ _ => fno))) (fun _ _ => fno)
set_option maxHeartbeats 1000000 in
set_option maxRecDepth 100000 in
theorem kF_X11_sign (mo : MO) (mw : MW) (mr : MR) (ms : Nat) (mt : A) (mu : A) (dd : A) (wi : A) (hi : A) (gt : A) (sp : A) (ta : A) (li : A) (sr : A) (co : A) (hb : aH) (n : Nat) (hms : isMS ms) (a1 : Int32) (hF : F_X11_sign a1 (srcB ms mt mu) mr ≠ fno) : AM mX11_sign 3 [.ref 31, .int a1] (HM mo mw mr ms mt mu dd wi hi gt sp ta li sr co hb) n 0 0 0 0 (P_X11_sign mo mw ms mt mu dd wi hi gt sp ta li sr co hb n (F_X11_sign a1 (srcB ms mt mu) mr)) (fun _ _ _ => False) := by
  generalize hE : F_X11_sign a1 (srcB ms mt mu) mr = res at hF ⊢
  refine aw_of (by decide +kernel) rfl (Nat.le_of_ble_eq_true rfl) ?_
  unfold F_X11_sign at hE
  refine aw_aload_n dX11_sign_0 rfl ?_
  refine aw_iconst (v := 1) dX11_sign_1 (by decide) ?_
  refine aw_callV dX11_sign_2 at_mod cvX11_103 rfl (kF_X11_want mo mw mr ms mt mu dd wi hi gt sp ta li sr co hb _  1 (fon_ne hE hF)) rfl (Nat.le_of_ble_eq_true rfl) (by decide) (by decide) (by decide) (by decide) (fun _ _ _ hf => False.elim hf) (fun r2 h2 n2 hp2 => ?_)
  obtain ⟨z2, s2, e2, rfl, rfl, rfl⟩ := hp2
  replace hE := fon_ok e2 hE
  refine aw_if_ne (tgt := 10) dX11_sign_5 (by decide) (fun c5 => ?_) (fun c5 => ?_)
  · replace hE := fif hE c5
    refine aw_aload_n dX11_sign_10 rfl ?_
    refine aw_aload_n dX11_sign_11 rfl ?_
    refine aw_getf (v := .int (mr_pos s2)) dX11_sign_12 flX11_84_10 at_mod rfl ?_
    refine aw_callV dX11_sign_15 at_mod cvX11_99 rfl (kF_X11_b mo mw s2 ms mt mu dd wi hi gt sp ta li sr co hb _ hms (mr_pos s2) (fon_ne hE hF)) rfl (Nat.le_of_ble_eq_true rfl) (by decide) (by decide) (by decide) (by decide) (fun _ _ _ hf => False.elim hf) (fun r15 h15 n15 hp15 => ?_)
    obtain ⟨z15, s15, e15, rfl, rfl, rfl⟩ := hp15
    replace hE := fon_ok e15 hE
    refine aw_iload_n dX11_sign_18 rfl ?_
    refine aw_icmp_eq (tgt := 32) dX11_sign_19 (by decide) (fun c19 => ?_) (fun c19 => ?_)
    · replace hE := fit hE c19
      refine aw_aload_n dX11_sign_32 rfl ?_
      refine aw_dup dX11_sign_33 rfl ?_
      refine aw_getf (v := .int (mr_pos s2)) dX11_sign_34 flX11_84_10 at_mod rfl ?_
      refine aw_iconst (v := 1) dX11_sign_37 (by decide) ?_
      refine aw_iadd dX11_sign_38 ?_
      refine aw_putf dX11_sign_39 ptX11_84_10 at_mod (Nat.le_of_ble_eq_true rfl) ⟨rfl, rfl⟩ ?_
      refine aw_eqh (h2 := HM mo mw ((mr_size s2), ((mr_pos s2) + 1), (mr_kind s2), (mr_whr s2), (mr_gw s2), (mr_gh s2), (mr_one s2), (mr_two s2), (mr_three s2)) ms mt mu dd wi hi gt sp ta li sr co hb) up_mod ?_
      refine aw_iconst (v := 1) dX11_sign_42 (by decide) ?_
      exact aw_zret dX11_sign_43 rfl (narB (by decide)) (Nat.zero_le _) (Nat.zero_le _) (Nat.zero_le _) (Nat.zero_le _) ⟨_, _, hE.symm, rfl, rfl, rfl⟩
    · replace hE := fif hE c19
      refine aw_aload_n dX11_sign_22 rfl ?_
      refine aw_iconst (v := 2) dX11_sign_23 (by decide) ?_
      refine aw_aload_n dX11_sign_24 rfl ?_
      refine aw_getf (v := .int (mr_pos s2)) dX11_sign_25 flX11_84_10 at_mod rfl ?_
      refine aw_callV dX11_sign_28 at_mod cvX11_90 rfl (kF_X11_wrong mo mw s2 ms mt mu dd wi hi gt sp ta li sr co hb _  2 (mr_pos s2) (fon_ne hE hF)) rfl (Nat.le_of_ble_eq_true rfl) (by decide) (by decide) (by decide) (by decide) (fun _ _ _ hf => False.elim hf) (fun r28 h28 n28 hp28 => ?_)
      obtain ⟨z28, s28, e28, rfl, rfl, rfl⟩ := hp28
      replace hE := fon_ok e28 hE
      obtain ⟨g31, hE⟩ := fgd hE hF
      exact aw_zret dX11_sign_31 rfl (narB g31) (Nat.zero_le _) (Nat.zero_le _) (Nat.zero_le _) (Nat.zero_le _) ⟨_, _, hE.symm, rfl, rfl, rfl⟩
  · replace hE := fit hE c5
    refine aw_iconst (v := 0) dX11_sign_8 (by decide) ?_
    exact aw_zret dX11_sign_9 rfl (narB (by decide)) (Nat.zero_le _) (Nat.zero_le _) (Nat.zero_le _) (Nat.zero_le _) ⟨_, _, hE.symm, rfl, rfl, rfl⟩
def P_X11_gap (mo : MO) (mw : MW) (ms : Nat) (mt : A) (mu : A) (dd : A) (wi : A) (hi : A) (gt : A) (sp : A) (ta : A) (li : A) (sr : A) (co : A) (hb : aH) (n : Nat) (res : Out MR Int32) : Option Value → aH → Nat → Prop := fun r1 h2 n2 => ∃ (a : Int32) (s : MR), res = fok a s ∧ r1 = some (.int a) ∧ h2 = HM mo mw s ms mt mu dd wi hi gt sp ta li sr co hb ∧ n = n2
def F_X11_gap (sb : A) (mr : MR) : Out MR Int32 := fon (F_X11_skip sb mr) (fun z6 s6 => if (mr_pos s6) ≤ (mr_pos mr) then (if (mr_pos s6) = (mr_size s6) then (fon (F_X11_wrong 1 (mr_size s6) s6) (fun z36 s36 => if isB z36 then (fok (z36 : Int32) s36) else fno) (fun _ _ => fno)) else (fon (F_X11_wrong 2 (mr_pos s6) s6) (fun z48 s48 => if isB z48 then (fok (z48 : Int32) s48) else fno) (fun _ _ => fno))) else (fok (1 : Int32) s6)) (fun _ _ => fno)
set_option maxHeartbeats 1000000 in
set_option maxRecDepth 100000 in
theorem kF_X11_gap (mo : MO) (mw : MW) (mr : MR) (ms : Nat) (mt : A) (mu : A) (dd : A) (wi : A) (hi : A) (gt : A) (sp : A) (ta : A) (li : A) (sr : A) (co : A) (hb : aH) (n : Nat) (hms : isMS ms)  (hF : F_X11_gap (srcB ms mt mu) mr ≠ fno) : AM mX11_gap 3 [.ref 31] (HM mo mw mr ms mt mu dd wi hi gt sp ta li sr co hb) n 0 0 0 0 (P_X11_gap mo mw ms mt mu dd wi hi gt sp ta li sr co hb n (F_X11_gap (srcB ms mt mu) mr)) (fun _ _ _ => False) := by
  generalize hE : F_X11_gap (srcB ms mt mu) mr = res at hF ⊢
  refine aw_of (by decide +kernel) rfl (Nat.le_of_ble_eq_true rfl) ?_
  unfold F_X11_gap at hE
  refine aw_aload_n dX11_gap_0 rfl ?_
  refine aw_getf (v := .int (mr_pos mr)) dX11_gap_1 flX11_84_10 at_mod rfl ?_
  refine aw_istore_n (lv2 := [(1, _), (0, _)]) dX11_gap_4 (by decide) rfl ?_
  refine aw_aload_n dX11_gap_5 rfl ?_
  refine aw_callV dX11_gap_6 at_mod cvX11_152 rfl (kF_X11_skip mo mw mr ms mt mu dd wi hi gt sp ta li sr co hb _ hms  (fon_ne hE hF)) rfl (Nat.le_of_ble_eq_true rfl) (by decide) (by decide) (by decide) (by decide) (fun _ _ _ hf => False.elim hf) (fun r6 h6 n6 hp6 => ?_)
  obtain ⟨z6, s6, e6, rfl, rfl, rfl⟩ := hp6
  replace hE := fon_ok e6 hE
  refine aw_aload_n dX11_gap_9 rfl ?_
  refine aw_getf (v := .int (mr_pos s6)) dX11_gap_10 flX11_84_10 at_mod rfl ?_
  refine aw_iload_n dX11_gap_13 rfl ?_
  refine aw_icmp_le (tgt := 19) dX11_gap_14 (by decide) (fun c14 => ?_) (fun c14 => ?_)
  · replace hE := fit hE c14
    refine aw_aload_n dX11_gap_19 rfl ?_
    refine aw_getf (v := .int (mr_pos s6)) dX11_gap_20 flX11_84_10 at_mod rfl ?_
    refine aw_aload_n dX11_gap_23 rfl ?_
    refine aw_getf (v := .int (mr_size s6)) dX11_gap_24 flX11_87_10 at_mod rfl ?_
    refine aw_icmp_ne (tgt := 42) dX11_gap_27 (by decide) (fun c27 => ?_) (fun c27 => ?_)
    · replace hE := fif hE c27
      refine aw_aload_n dX11_gap_42 rfl ?_
      refine aw_iconst (v := 2) dX11_gap_43 (by decide) ?_
      refine aw_aload_n dX11_gap_44 rfl ?_
      refine aw_getf (v := .int (mr_pos s6)) dX11_gap_45 flX11_84_10 at_mod rfl ?_
      refine aw_callV dX11_gap_48 at_mod cvX11_90 rfl (kF_X11_wrong mo mw s6 ms mt mu dd wi hi gt sp ta li sr co hb _  2 (mr_pos s6) (fon_ne hE hF)) rfl (Nat.le_of_ble_eq_true rfl) (by decide) (by decide) (by decide) (by decide) (fun _ _ _ hf => False.elim hf) (fun r48 h48 n48 hp48 => ?_)
      obtain ⟨z48, s48, e48, rfl, rfl, rfl⟩ := hp48
      replace hE := fon_ok e48 hE
      obtain ⟨g51, hE⟩ := fgd hE hF
      exact aw_zret dX11_gap_51 rfl (narB g51) (Nat.zero_le _) (Nat.zero_le _) (Nat.zero_le _) (Nat.zero_le _) ⟨_, _, hE.symm, rfl, rfl, rfl⟩
    · replace hE := fit hE c27
      refine aw_aload_n dX11_gap_30 rfl ?_
      refine aw_iconst (v := 1) dX11_gap_31 (by decide) ?_
      refine aw_aload_n dX11_gap_32 rfl ?_
      refine aw_getf (v := .int (mr_size s6)) dX11_gap_33 flX11_87_10 at_mod rfl ?_
      refine aw_callV dX11_gap_36 at_mod cvX11_90 rfl (kF_X11_wrong mo mw s6 ms mt mu dd wi hi gt sp ta li sr co hb _  1 (mr_size s6) (fon_ne hE hF)) rfl (Nat.le_of_ble_eq_true rfl) (by decide) (by decide) (by decide) (by decide) (fun _ _ _ hf => False.elim hf) (fun r36 h36 n36 hp36 => ?_)
      obtain ⟨z36, s36, e36, rfl, rfl, rfl⟩ := hp36
      replace hE := fon_ok e36 hE
      refine aw_goto (tgt := 51) dX11_gap_39 (by decide) ?_
      obtain ⟨g51, hE⟩ := fgd hE hF
      exact aw_zret dX11_gap_51 rfl (narB g51) (Nat.zero_le _) (Nat.zero_le _) (Nat.zero_le _) (Nat.zero_le _) ⟨_, _, hE.symm, rfl, rfl, rfl⟩
  · replace hE := fif hE c14
    refine aw_iconst (v := 1) dX11_gap_17 (by decide) ?_
    exact aw_zret dX11_gap_18 rfl (narB (by decide)) (Nat.zero_le _) (Nat.zero_le _) (Nat.zero_le _) (Nat.zero_le _) ⟨_, _, hE.symm, rfl, rfl, rfl⟩
