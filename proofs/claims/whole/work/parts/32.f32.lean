def P_X9_encode (m0 : Mnt) (sh : Nat → Nat) (rr : Nat → Ras) (r : Nat) (x : Ras) (ww : Nat → Row) (o : Nat) (so : Nat) (sc : Src) (qo : Qoi) (pn : Pnm) (bm : Bmp) (tg : Tga) (px : Pcx) (fa : A) (hb : aH) (n : Nat) (res : Out (Row × Pal) Unit) : Option Value → aH → Nat → Prop := fun r1 h2 n2 => ∃ (a : Unit) (s : (Row × Pal)), res = fok a s ∧ r1 = none ∧ h2 = HC m0 sh (va_up rr r x) (va_up ww o s.1) so sc s.2 qo pn bm tg px fa hb ∧ n = n2
abbrev Q_X9_encode_18 (m0 : Mnt) (sh : Nat → Nat) (rr : Nat → Ras) (r : Nat) (x : Ras) (ww : Nat → Row) (o : Nat) (so : Nat) (sc : Src) (qo : Qoi) (pn : Pnm) (bm : Bmp) (tg : Tga) (px : Pcx) (fa : A) (hb : aH) (n : Nat) (k : Int32 → Int32 → Row → Pal → Out (Row × Pal) Unit) : Prop := ∀ (v4 : Int32) (t0 : Int32) (y : Row) (pl : Pal) (res : Out (Row × Pal) Unit), k v4 t0 y pl = res → res ≠ fno → AW (fun _ _ => True) mX9_encode (rmD 5 0 0) 0 0 (P_X9_encode m0 sh rr r x ww o so sc qo pn bm tg px fa hb n res) (fun _ _ _ => False) 0 0 18 [(0, .ref 26), (1, .ref r), (3, .ref o), (4, .int v4)] [.int t0] (HC m0 sh (va_up rr r x) (va_up ww o y) so sc pl qo pn bm tg px fa hb) n
abbrev Q_X9_encode_34 (m0 : Mnt) (sh : Nat → Nat) (rr : Nat → Ras) (r : Nat) (x : Ras) (ww : Nat → Row) (o : Nat) (so : Nat) (sc : Src) (qo : Qoi) (pn : Pnm) (bm : Bmp) (tg : Tga) (px : Pcx) (fa : A) (hb : aH) (n : Nat) (k : Int32 → Int32 → Int32 → Row → Pal → Out (Row × Pal) Unit) : Prop := ∀ (v4 : Int32) (v5 : Int32) (t0 : Int32) (y : Row) (pl : Pal) (res : Out (Row × Pal) Unit), k v4 v5 t0 y pl = res → res ≠ fno → AW (fun _ _ => True) mX9_encode (rmD 5 0 0) 0 0 (P_X9_encode m0 sh rr r x ww o so sc qo pn bm tg px fa hb n res) (fun _ _ _ => False) 0 0 34 [(0, .ref 26), (1, .ref r), (3, .ref o), (4, .int v4), (5, .int v5)] [.int t0] (HC m0 sh (va_up rr r x) (va_up ww o y) so sc pl qo pn bm tg px fa hb) n
abbrev Q_X9_encode_62 (m0 : Mnt) (sh : Nat → Nat) (rr : Nat → Ras) (r : Nat) (x : Ras) (ww : Nat → Row) (o : Nat) (so : Nat) (sc : Src) (qo : Qoi) (pn : Pnm) (bm : Bmp) (tg : Tga) (px : Pcx) (fa : A) (hb : aH) (n : Nat) (k : Int32 → Int32 → Int32 → Int32 → Row → Pal → Out (Row × Pal) Unit) : Prop := ∀ (v4 : Int32) (v5 : Int32) (v6 : Int32) (v7 : Int32) (y : Row) (pl : Pal) (res : Out (Row × Pal) Unit), k v4 v5 v6 v7 y pl = res → res ≠ fno → AW (fun _ _ => True) mX9_encode (rmD 5 0 0) 0 0 (P_X9_encode m0 sh rr r x ww o so sc qo pn bm tg px fa hb n res) (fun _ _ _ => False) 0 0 62 [(0, .ref 26), (1, .ref r), (3, .ref o), (4, .int v4), (5, .int v5), (6, .int v6), (7, .int v7)] [] (HC m0 sh (va_up rr r x) (va_up ww o y) so sc pl qo pn bm tg px fa hb) n
abbrev Q_X9_encode_79 (m0 : Mnt) (sh : Nat → Nat) (rr : Nat → Ras) (r : Nat) (x : Ras) (ww : Nat → Row) (o : Nat) (so : Nat) (sc : Src) (qo : Qoi) (pn : Pnm) (bm : Bmp) (tg : Tga) (px : Pcx) (fa : A) (hb : aH) (n : Nat) (k : Int32 → Int32 → Int32 → Int32 → Int32 → Row → Pal → Out (Row × Pal) Unit) : Prop := ∀ (v4 : Int32) (v5 : Int32) (v6 : Int32) (v7 : Int32) (t0 : Int32) (y : Row) (pl : Pal) (res : Out (Row × Pal) Unit), k v4 v5 v6 v7 t0 y pl = res → res ≠ fno → AW (fun _ _ => True) mX9_encode (rmD 5 0 0) 0 0 (P_X9_encode m0 sh rr r x ww o so sc qo pn bm tg px fa hb n res) (fun _ _ _ => False) 0 0 79 [(0, .ref 26), (1, .ref r), (3, .ref o), (4, .int v4), (5, .int v5), (6, .int v6), (7, .int v7)] [.int t0, .ref o] (HC m0 sh (va_up rr r x) (va_up ww o y) so sc pl qo pn bm tg px fa hb) n
abbrev Q_X9_encode_98 (m0 : Mnt) (sh : Nat → Nat) (rr : Nat → Ras) (r : Nat) (x : Ras) (ww : Nat → Row) (o : Nat) (so : Nat) (sc : Src) (qo : Qoi) (pn : Pnm) (bm : Bmp) (tg : Tga) (px : Pcx) (fa : A) (hb : aH) (n : Nat) (k : Int32 → Int32 → Int32 → Int32 → Int32 → Row → Pal → Out (Row × Pal) Unit) : Prop := ∀ (v4 : Int32) (v5 : Int32) (v6 : Int32) (v7 : Int32) (t0 : Int32) (y : Row) (pl : Pal) (res : Out (Row × Pal) Unit), k v4 v5 v6 v7 t0 y pl = res → res ≠ fno → AW (fun _ _ => True) mX9_encode (rmD 5 0 0) 0 0 (P_X9_encode m0 sh rr r x ww o so sc qo pn bm tg px fa hb n res) (fun _ _ _ => False) 0 0 98 [(0, .ref 26), (1, .ref r), (3, .ref o), (4, .int v4), (5, .int v5), (6, .int v6), (7, .int v7)] [.int t0, .ref o] (HC m0 sh (va_up rr r x) (va_up ww o y) so sc pl qo pn bm tg px fa hb) n
abbrev Q_X9_encode_125 (m0 : Mnt) (sh : Nat → Nat) (rr : Nat → Ras) (r : Nat) (x : Ras) (ww : Nat → Row) (o : Nat) (so : Nat) (sc : Src) (qo : Qoi) (pn : Pnm) (bm : Bmp) (tg : Tga) (px : Pcx) (fa : A) (hb : aH) (n : Nat) (k : Int32 → Int32 → Int32 → Int32 → Int32 → Row → Pal → Out (Row × Pal) Unit) : Prop := ∀ (v4 : Int32) (v5 : Int32) (v6 : Int32) (v7 : Int32) (t0 : Int32) (y : Row) (pl : Pal) (res : Out (Row × Pal) Unit), k v4 v5 v6 v7 t0 y pl = res → res ≠ fno → AW (fun _ _ => True) mX9_encode (rmD 5 0 0) 0 0 (P_X9_encode m0 sh rr r x ww o so sc qo pn bm tg px fa hb n res) (fun _ _ _ => False) 0 0 125 [(0, .ref 26), (1, .ref r), (3, .ref o), (4, .int v4), (5, .int v5), (6, .int v6), (7, .int v7)] [.int t0, .ref o] (HC m0 sh (va_up rr r x) (va_up ww o y) so sc pl qo pn bm tg px fa hb) n
abbrev Q_X9_encode_163 (m0 : Mnt) (sh : Nat → Nat) (rr : Nat → Ras) (r : Nat) (x : Ras) (ww : Nat → Row) (o : Nat) (so : Nat) (sc : Src) (qo : Qoi) (pn : Pnm) (bm : Bmp) (tg : Tga) (px : Pcx) (fa : A) (hb : aH) (n : Nat) (k : Int32 → Int32 → Int32 → Int32 → Int32 → Row → Pal → Out (Row × Pal) Unit) : Prop := ∀ (v4 : Int32) (v5 : Int32) (v6 : Int32) (v7 : Int32) (t0 : Int32) (y : Row) (pl : Pal) (res : Out (Row × Pal) Unit), k v4 v5 v6 v7 t0 y pl = res → res ≠ fno → AW (fun _ _ => True) mX9_encode (rmD 5 0 0) 0 0 (P_X9_encode m0 sh rr r x ww o so sc qo pn bm tg px fa hb n res) (fun _ _ _ => False) 0 0 163 [(0, .ref 26), (1, .ref r), (3, .ref o), (4, .int v4), (5, .int v5), (6, .int v6), (7, .int v7)] [.int t0, .ref o] (HC m0 sh (va_up rr r x) (va_up ww o y) so sc pl qo pn bm tg px fa hb) n
abbrev Q_X9_encode_181 (m0 : Mnt) (sh : Nat → Nat) (rr : Nat → Ras) (r : Nat) (x : Ras) (ww : Nat → Row) (o : Nat) (so : Nat) (sc : Src) (qo : Qoi) (pn : Pnm) (bm : Bmp) (tg : Tga) (px : Pcx) (fa : A) (hb : aH) (n : Nat) (k : Int32 → Int32 → Int32 → Int32 → Int32 → Row → Pal → Out (Row × Pal) Unit) : Prop := ∀ (v4 : Int32) (v5 : Int32) (v6 : Int32) (v7 : Int32) (t0 : Int32) (y : Row) (pl : Pal) (res : Out (Row × Pal) Unit), k v4 v5 v6 v7 t0 y pl = res → res ≠ fno → AW (fun _ _ => True) mX9_encode (rmD 5 0 0) 0 0 (P_X9_encode m0 sh rr r x ww o so sc qo pn bm tg px fa hb n res) (fun _ _ _ => False) 0 0 181 [(0, .ref 26), (1, .ref r), (3, .ref o), (4, .int v4), (5, .int v5), (6, .int v6), (7, .int v7)] [.int t0, .ref o] (HC m0 sh (va_up rr r x) (va_up ww o y) so sc pl qo pn bm tg px fa hb) n
abbrev Q_X9_encode_187 (m0 : Mnt) (sh : Nat → Nat) (rr : Nat → Ras) (r : Nat) (x : Ras) (ww : Nat → Row) (o : Nat) (so : Nat) (sc : Src) (qo : Qoi) (pn : Pnm) (bm : Bmp) (tg : Tga) (px : Pcx) (fa : A) (hb : aH) (n : Nat) (k : Int32 → Int32 → Int32 → Int32 → Int32 → Row → Pal → Out (Row × Pal) Unit) : Prop := ∀ (v4 : Int32) (v5 : Int32) (v6 : Int32) (v7 : Int32) (v8 : Int32) (y : Row) (pl : Pal) (res : Out (Row × Pal) Unit), k v4 v5 v6 v7 v8 y pl = res → res ≠ fno → AW (fun _ _ => True) mX9_encode (rmD 5 0 0) 0 0 (P_X9_encode m0 sh rr r x ww o so sc qo pn bm tg px fa hb n res) (fun _ _ _ => False) 0 0 187 [(0, .ref 26), (1, .ref r), (3, .ref o), (4, .int v4), (5, .int v5), (6, .int v6), (7, .int v7), (8, .int v8)] [] (HC m0 sh (va_up rr r x) (va_up ww o y) so sc pl qo pn bm tg px fa hb) n
abbrev Q_X9_encode_218 (m0 : Mnt) (sh : Nat → Nat) (rr : Nat → Ras) (r : Nat) (x : Ras) (ww : Nat → Row) (o : Nat) (so : Nat) (sc : Src) (qo : Qoi) (pn : Pnm) (bm : Bmp) (tg : Tga) (px : Pcx) (fa : A) (hb : aH) (n : Nat) (k : Int32 → Int32 → Int32 → Int32 → Row → Pal → Out (Row × Pal) Unit) : Prop := ∀ (v4 : Int32) (v5 : Int32) (v6 : Int32) (v8 : Int32) (y : Row) (pl : Pal) (res : Out (Row × Pal) Unit), k v4 v5 v6 v8 y pl = res → res ≠ fno → AW (fun _ _ => True) mX9_encode (rmD 5 0 0) 0 0 (P_X9_encode m0 sh rr r x ww o so sc qo pn bm tg px fa hb n res) (fun _ _ _ => False) 0 0 218 [(0, .ref 26), (1, .ref r), (3, .ref o), (4, .int v4), (5, .int v5), (6, .int v6), (8, .int v8)] [] (HC m0 sh (va_up rr r x) (va_up ww o y) so sc pl qo pn bm tg px fa hb) n
abbrev Q_X9_encode_268 (m0 : Mnt) (sh : Nat → Nat) (rr : Nat → Ras) (r : Nat) (x : Ras) (ww : Nat → Row) (o : Nat) (so : Nat) (sc : Src) (qo : Qoi) (pn : Pnm) (bm : Bmp) (tg : Tga) (px : Pcx) (fa : A) (hb : aH) (n : Nat) (k : Int32 → Int32 → Int32 → Int32 → Row → Pal → Out (Row × Pal) Unit) : Prop := ∀ (v4 : Int32) (v5 : Int32) (v6 : Int32) (v8 : Int32) (y : Row) (pl : Pal) (res : Out (Row × Pal) Unit), k v4 v5 v6 v8 y pl = res → res ≠ fno → AW (fun _ _ => True) mX9_encode (rmD 5 0 0) 0 0 (P_X9_encode m0 sh rr r x ww o so sc qo pn bm tg px fa hb n res) (fun _ _ _ => False) 0 0 268 [(0, .ref 26), (1, .ref r), (3, .ref o), (4, .int v4), (5, .int v5), (6, .int v6), (8, .int v8)] [] (HC m0 sh (va_up rr r x) (va_up ww o y) so sc pl qo pn bm tg px fa hb) n
def F_X9_encode_268 (x : Ras) (k218 : Int32 → Int32 → Int32 → Int32 → Row → Pal → Out (Row × Pal) Unit) (v4 : Int32) (v5 : Int32) (v6 : Int32) (v8 : Int32) (y : Row) (pl : Pal) : Out (Row × Pal) Unit := k218 v4 v5 v6 (v8 + 1) y pl
set_option maxHeartbeats 1000000 in
set_option maxRecDepth 100000 in
theorem b_X9_encode_268 (m0 : Mnt) (sh : Nat → Nat) (rr : Nat → Ras) (r : Nat) (x : Ras) (ww : Nat → Row) (o : Nat) (so : Nat) (sc : Src) (qo : Qoi) (pn : Pnm) (bm : Bmp) (tg : Tga) (px : Pcx) (fa : A) (hb : aH) (n : Nat) (hr : isR r) (ho : isW o) (k218 : Int32 → Int32 → Int32 → Int32 → Row → Pal → Out (Row × Pal) Unit) (hk218 : Q_X9_encode_218 m0 sh rr r x ww o so sc qo pn bm tg px fa hb n k218) : Q_X9_encode_268 m0 sh rr r x ww o so sc qo pn bm tg px fa hb n (F_X9_encode_268 x k218) := by
  intro v4 v5 v6 v8 y pl res hE hF
  unfold F_X9_encode_268 at hE
  refine aw_iinc (v := (v8 + 1)) (lv2 := [(8, _), (0, _), (1, _), (3, _), (4, _), (5, _), (6, _)]) dX9_encode_268 rfl (incE (by decide)) (by decide) rfl ?_
  refine aw_goto (tgt := 218) dX9_encode_271 (by decide) ?_
  exact aw_lv _ (List.forall_mem_cons.mpr ⟨rfl, (List.forall_mem_cons.mpr ⟨rfl, (List.forall_mem_cons.mpr ⟨rfl, (List.forall_mem_cons.mpr ⟨rfl, (List.forall_mem_cons.mpr ⟨rfl, (List.forall_mem_cons.mpr ⟨rfl, (List.forall_mem_cons.mpr ⟨rfl, fun _ h => absurd h List.not_mem_nil⟩)⟩)⟩)⟩)⟩)⟩)⟩) (hk218 v4 v5 v6 (v8 + 1) y pl _ hE hF)
def F_X9_encode_218 (x : Ras) (k218 : Int32 → Int32 → Int32 → Int32 → Row → Pal → Out (Row × Pal) Unit) (v4 : Int32) (v5 : Int32) (v6 : Int32) (v8 : Int32) (y : Row) (pl : Pal) : Out (Row × Pal) Unit := if (x_g x) ≤ v8 then (fok () (y, pl)) else (if v5 = 0 then (fon (F_X9_writePixels (v8 * (x_w x)) (x_w x) v4 v6 x y pl) (fun z265 s265 => F_X9_encode_268 x k218 v4 v5 v6 v8 s265 pl) (fun _ _ => fno)) else (fon (F_X9_writePackets v8 v4 v6 x y pl) (fun z241 s241 => F_X9_encode_268 x k218 v4 v5 v6 v8 s241 pl) (fun _ _ => fno)))
set_option maxHeartbeats 1000000 in
set_option maxRecDepth 100000 in
theorem b_X9_encode_218 (m0 : Mnt) (sh : Nat → Nat) (rr : Nat → Ras) (r : Nat) (x : Ras) (ww : Nat → Row) (o : Nat) (so : Nat) (sc : Src) (qo : Qoi) (pn : Pnm) (bm : Bmp) (tg : Tga) (px : Pcx) (fa : A) (hb : aH) (n : Nat) (hr : isR r) (ho : isW o) (k218 : Int32 → Int32 → Int32 → Int32 → Row → Pal → Out (Row × Pal) Unit) (hk218 : Q_X9_encode_218 m0 sh rr r x ww o so sc qo pn bm tg px fa hb n k218) : Q_X9_encode_218 m0 sh rr r x ww o so sc qo pn bm tg px fa hb n (F_X9_encode_218 x k218) := by
  intro v4 v5 v6 v8 y pl res hE hF
  unfold F_X9_encode_218 at hE
  refine aw_iload dX9_encode_218 rfl ?_
  refine aw_aload_n dX9_encode_220 rfl ?_
  refine aw_getf (v := .int (x_g x)) dX9_encode_221 flX9_121_6 (at_ras hr) rfl ?_
  refine aw_icmp_ge (tgt := 274) dX9_encode_224 (by decide) (fun c224 => ?_) (fun c224 => ?_)
  · replace hE := fit hE c224
    exact aw_vret dX9_encode_274 rfl (Nat.zero_le _) (Nat.zero_le _) (Nat.zero_le _) (Nat.zero_le _) ⟨_, _, hE.symm, rfl, rfl, rfl⟩
  · replace hE := fif hE c224
    refine aw_iload dX9_encode_227 rfl ?_
    refine aw_if_eq (tgt := 247) dX9_encode_229 (by decide) (fun c229 => ?_) (fun c229 => ?_)
    · replace hE := fit hE c229
      refine aw_aload_n dX9_encode_247 rfl ?_
      refine aw_aload_n dX9_encode_248 rfl ?_
      refine aw_iload dX9_encode_249 rfl ?_
      refine aw_aload_n dX9_encode_251 rfl ?_
      refine aw_getf (v := .int (x_w x)) dX9_encode_252 flX9_126_6 (at_ras hr) rfl ?_
      refine aw_imul dX9_encode_255 ?_
      refine aw_aload_n dX9_encode_256 rfl ?_
      refine aw_getf (v := .int (x_w x)) dX9_encode_257 flX9_126_6 (at_ras hr) rfl ?_
      refine aw_iload dX9_encode_260 rfl ?_
      refine aw_iload dX9_encode_262 rfl ?_
      refine aw_aload_n dX9_encode_264 rfl ?_
      refine aw_callV dX9_encode_265 at_tga cvX9_211 rfl (kF_X9_writePixels m0 sh rr r x ww o y so sc pl qo pn bm tg px fa hb _ hr ho (v8 * (x_w x)) (x_w x) v4 v6 (fon_ne hE hF)) rfl (Nat.le_of_ble_eq_true rfl) (by decide) (by decide) (by decide) (by decide) (fun _ _ _ hf => False.elim hf) (fun r265 h265 n265 hp265 => ?_)
      obtain ⟨z265, s265, e265, rfl, rfl, rfl⟩ := hp265
      replace hE := fon_ok e265 hE
      exact aw_lv _ (List.forall_mem_cons.mpr ⟨rfl, (List.forall_mem_cons.mpr ⟨rfl, (List.forall_mem_cons.mpr ⟨rfl, (List.forall_mem_cons.mpr ⟨rfl, (List.forall_mem_cons.mpr ⟨rfl, (List.forall_mem_cons.mpr ⟨rfl, (List.forall_mem_cons.mpr ⟨rfl, fun _ h => absurd h List.not_mem_nil⟩)⟩)⟩)⟩)⟩)⟩)⟩) (b_X9_encode_268 m0 sh rr r x ww o so sc qo pn bm tg px fa hb n hr ho k218 hk218 v4 v5 v6 v8 s265 pl _ hE hF)
    · replace hE := fif hE c229
      refine aw_aload_n dX9_encode_232 rfl ?_
      refine aw_aload_n dX9_encode_233 rfl ?_
      refine aw_iload dX9_encode_234 rfl ?_
      refine aw_iload dX9_encode_236 rfl ?_
      refine aw_iload dX9_encode_238 rfl ?_
      refine aw_aload_n dX9_encode_240 rfl ?_
      refine aw_callV dX9_encode_241 at_tga cvX9_207 rfl (kF_X9_writePackets m0 sh rr r x ww o y so sc pl qo pn bm tg px fa hb _ hr ho v8 v4 v6 (fon_ne hE hF)) rfl (Nat.le_of_ble_eq_true rfl) (by decide) (by decide) (by decide) (by decide) (fun _ _ _ hf => False.elim hf) (fun r241 h241 n241 hp241 => ?_)
      obtain ⟨z241, s241, e241, rfl, rfl, rfl⟩ := hp241
      replace hE := fon_ok e241 hE
      refine aw_goto (tgt := 268) dX9_encode_244 (by decide) ?_
      exact aw_lv _ (List.forall_mem_cons.mpr ⟨rfl, (List.forall_mem_cons.mpr ⟨rfl, (List.forall_mem_cons.mpr ⟨rfl, (List.forall_mem_cons.mpr ⟨rfl, (List.forall_mem_cons.mpr ⟨rfl, (List.forall_mem_cons.mpr ⟨rfl, (List.forall_mem_cons.mpr ⟨rfl, fun _ h => absurd h List.not_mem_nil⟩)⟩)⟩)⟩)⟩)⟩)⟩) (b_X9_encode_268 m0 sh rr r x ww o so sc qo pn bm tg px fa hb n hr ho k218 hk218 v4 v5 v6 v8 s241 pl _ hE hF)
def F_X9_encode_187 (x : Ras) (k187 : Int32 → Int32 → Int32 → Int32 → Int32 → Row → Pal → Out (Row × Pal) Unit) (v4 : Int32) (v5 : Int32) (v6 : Int32) (v7 : Int32) (v8 : Int32) (y : Row) (pl : Pal) : Out (Row × Pal) Unit := if v7 ≤ v8 then (lp (fun _ _ _ _ _ _ => fno) (F_X9_encode_218 x) FU v4 v5 v6 (0 : Int32) y pl) else (fon (F_X3_get v8 pl) (fun z200 s200 => fon (F_X9_writeColour z200 v6 y) (fun z206 s206 => k187 v4 v5 v6 v7 (v8 + 1) s206 pl) (fun _ _ => fno)) (fun _ _ => fno))
set_option maxHeartbeats 1000000 in
set_option maxRecDepth 100000 in
theorem b_X9_encode_187 (m0 : Mnt) (sh : Nat → Nat) (rr : Nat → Ras) (r : Nat) (x : Ras) (ww : Nat → Row) (o : Nat) (so : Nat) (sc : Src) (qo : Qoi) (pn : Pnm) (bm : Bmp) (tg : Tga) (px : Pcx) (fa : A) (hb : aH) (n : Nat) (hr : isR r) (ho : isW o) (k187 : Int32 → Int32 → Int32 → Int32 → Int32 → Row → Pal → Out (Row × Pal) Unit) (hk187 : Q_X9_encode_187 m0 sh rr r x ww o so sc qo pn bm tg px fa hb n k187) : Q_X9_encode_187 m0 sh rr r x ww o so sc qo pn bm tg px fa hb n (F_X9_encode_187 x k187) := by
  intro v4 v5 v6 v7 v8 y pl res hE hF
  unfold F_X9_encode_187 at hE
  refine aw_iload dX9_encode_187 rfl ?_
  refine aw_iload dX9_encode_189 rfl ?_
  refine aw_icmp_ge (tgt := 215) dX9_encode_191 (by decide) (fun c191 => ?_) (fun c191 => ?_)
  · replace hE := fit hE c191
    refine aw_iconst (v := 0) dX9_encode_215 (by decide) ?_
    refine aw_istore (lv2 := [(8, _), (0, _), (1, _), (3, _), (4, _), (5, _), (6, _), (7, _)]) dX9_encode_216 (by decide) rfl ?_
    exact aw_lv _ (List.forall_mem_cons.mpr ⟨rfl, (List.forall_mem_cons.mpr ⟨rfl, (List.forall_mem_cons.mpr ⟨rfl, (List.forall_mem_cons.mpr ⟨rfl, (List.forall_mem_cons.mpr ⟨rfl, (List.forall_mem_cons.mpr ⟨rfl, (List.forall_mem_cons.mpr ⟨rfl, fun _ h => absurd h List.not_mem_nil⟩)⟩)⟩)⟩)⟩)⟩)⟩) (lp_ind (Q_X9_encode_218 m0 sh rr r x ww o so sc qo pn bm tg px fa hb n) (fun _ _ _ _ _ _ res hq hF => (hF hq.symm).elim) (fun k hk => b_X9_encode_218 m0 sh rr r x ww o so sc qo pn bm tg px fa hb n hr ho  k hk) FU v4 v5 v6 (0 : Int32) y pl _ hE hF)
  · replace hE := fif hE c191
    refine aw_aload_n dX9_encode_194 rfl ?_
    refine aw_getf (v := .ref 17) dX9_encode_195 flX9_15_8 at_tga rfl ?_
    refine aw_iload dX9_encode_198 rfl ?_
    refine aw_callV dX9_encode_200 at_pal cvX9_200 rfl (kF_X3_get m0 sh (va_up rr r x) (va_up ww o y) so sc pl qo pn bm tg px fa hb _  v8 (fon_ne hE hF)) rfl (Nat.le_of_ble_eq_true rfl) (by decide) (by decide) (by decide) (by decide) (fun _ _ _ hf => False.elim hf) (fun r200 h200 n200 hp200 => ?_)
    obtain ⟨z200, s200, e200, rfl, rfl, rfl⟩ := hp200
    replace hE := fon_ok e200 hE
    refine aw_iload dX9_encode_203 rfl ?_
    refine aw_aload_n dX9_encode_205 rfl ?_
    refine aw_callS dX9_encode_206  csX9_203 rfl (kF_X9_writeColour m0 sh (va_up rr r x) ww o y so sc pl qo pn bm tg px fa hb _ ho z200 v6 (fon_ne hE hF)) rfl (Nat.le_of_ble_eq_true rfl) (by decide) (by decide) (by decide) (by decide) (fun _ _ _ hf => False.elim hf) (fun r206 h206 n206 hp206 => ?_)
    obtain ⟨z206, s206, e206, rfl, rfl, rfl⟩ := hp206
    replace hE := fon_ok e206 hE
    refine aw_iinc (v := (v8 + 1)) (lv2 := [(8, _), (0, _), (1, _), (3, _), (4, _), (5, _), (6, _), (7, _)]) dX9_encode_209 rfl (incE (by decide)) (by decide) rfl ?_
    refine aw_goto (tgt := 187) dX9_encode_212 (by decide) ?_
    exact aw_lv _ (List.forall_mem_cons.mpr ⟨rfl, (List.forall_mem_cons.mpr ⟨rfl, (List.forall_mem_cons.mpr ⟨rfl, (List.forall_mem_cons.mpr ⟨rfl, (List.forall_mem_cons.mpr ⟨rfl, (List.forall_mem_cons.mpr ⟨rfl, (List.forall_mem_cons.mpr ⟨rfl, (List.forall_mem_cons.mpr ⟨rfl, fun _ h => absurd h List.not_mem_nil⟩)⟩)⟩)⟩)⟩)⟩)⟩)⟩) (hk187 v4 v5 v6 v7 (v8 + 1) s206 pl _ hE hF)
def F_X9_encode_181 (x : Ras)  (v4 : Int32) (v5 : Int32) (v6 : Int32) (v7 : Int32) (t0 : Int32) (y : Row) (pl : Pal) : Out (Row × Pal) Unit := fon (F_X1_add t0 y) (fun z181 s181 => lp (fun _ _ _ _ _ _ _ => fno) (F_X9_encode_187 x) FU v4 v5 v6 v7 (0 : Int32) s181 pl) (fun _ _ => fno)
set_option maxHeartbeats 1000000 in
set_option maxRecDepth 100000 in
theorem b_X9_encode_181 (m0 : Mnt) (sh : Nat → Nat) (rr : Nat → Ras) (r : Nat) (x : Ras) (ww : Nat → Row) (o : Nat) (so : Nat) (sc : Src) (qo : Qoi) (pn : Pnm) (bm : Bmp) (tg : Tga) (px : Pcx) (fa : A) (hb : aH) (n : Nat) (hr : isR r) (ho : isW o)  : Q_X9_encode_181 m0 sh rr r x ww o so sc qo pn bm tg px fa hb n (F_X9_encode_181 x) := by
  intro v4 v5 v6 v7 t0 y pl res hE hF
  unfold F_X9_encode_181 at hE
  refine aw_callV dX9_encode_181 (at_row ho) cvX9_189 rfl (kF_X1_add m0 sh (va_up rr r x) ww o y so sc pl qo pn bm tg px fa hb _ ho t0 (fon_ne hE hF)) rfl (Nat.le_of_ble_eq_true rfl) (by decide) (by decide) (by decide) (by decide) (fun _ _ _ hf => False.elim hf) (fun r181 h181 n181 hp181 => ?_)
  obtain ⟨z181, s181, e181, rfl, rfl, rfl⟩ := hp181
  replace hE := fon_ok e181 hE
  refine aw_iconst (v := 0) dX9_encode_184 (by decide) ?_
  refine aw_istore (lv2 := [(8, _), (0, _), (1, _), (3, _), (4, _), (5, _), (6, _), (7, _)]) dX9_encode_185 (by decide) rfl ?_
  exact aw_lv _ (List.forall_mem_cons.mpr ⟨rfl, (List.forall_mem_cons.mpr ⟨rfl, (List.forall_mem_cons.mpr ⟨rfl, (List.forall_mem_cons.mpr ⟨rfl, (List.forall_mem_cons.mpr ⟨rfl, (List.forall_mem_cons.mpr ⟨rfl, (List.forall_mem_cons.mpr ⟨rfl, (List.forall_mem_cons.mpr ⟨rfl, fun _ h => absurd h List.not_mem_nil⟩)⟩)⟩)⟩)⟩)⟩)⟩)⟩) (lp_ind (Q_X9_encode_187 m0 sh rr r x ww o so sc qo pn bm tg px fa hb n) (fun _ _ _ _ _ _ _ res hq hF => (hF hq.symm).elim) (fun k hk => b_X9_encode_187 m0 sh rr r x ww o so sc qo pn bm tg px fa hb n hr ho  k hk) FU v4 v5 v6 v7 (0 : Int32) s181 pl _ hE hF)
def F_X9_encode_163 (x : Ras)  (v4 : Int32) (v5 : Int32) (v6 : Int32) (v7 : Int32) (t0 : Int32) (y : Row) (pl : Pal) : Out (Row × Pal) Unit := fon (F_X1_add t0 y) (fun z163 s163 => if v6 = 32 then (F_X9_encode_181 x v4 v5 v6 v7 (40 : Int32) s163 pl) else (F_X9_encode_181 x v4 v5 v6 v7 (32 : Int32) s163 pl)) (fun _ _ => fno)
set_option maxHeartbeats 1000000 in
set_option maxRecDepth 100000 in
theorem b_X9_encode_163 (m0 : Mnt) (sh : Nat → Nat) (rr : Nat → Ras) (r : Nat) (x : Ras) (ww : Nat → Row) (o : Nat) (so : Nat) (sc : Src) (qo : Qoi) (pn : Pnm) (bm : Bmp) (tg : Tga) (px : Pcx) (fa : A) (hb : aH) (n : Nat) (hr : isR r) (ho : isW o)  : Q_X9_encode_163 m0 sh rr r x ww o so sc qo pn bm tg px fa hb n (F_X9_encode_163 x) := by
  intro v4 v5 v6 v7 t0 y pl res hE hF
  unfold F_X9_encode_163 at hE
  refine aw_callV dX9_encode_163 (at_row ho) cvX9_189 rfl (kF_X1_add m0 sh (va_up rr r x) ww o y so sc pl qo pn bm tg px fa hb _ ho t0 (fon_ne hE hF)) rfl (Nat.le_of_ble_eq_true rfl) (by decide) (by decide) (by decide) (by decide) (fun _ _ _ hf => False.elim hf) (fun r163 h163 n163 hp163 => ?_)
  obtain ⟨z163, s163, e163, rfl, rfl, rfl⟩ := hp163
  replace hE := fon_ok e163 hE
  refine aw_aload_n dX9_encode_166 rfl ?_
  refine aw_iload dX9_encode_167 rfl ?_
  refine aw_bipush (v := 32) dX9_encode_169 (by decide) ?_
  refine aw_icmp_ne (tgt := 179) dX9_encode_171 (by decide) (fun c171 => ?_) (fun c171 => ?_)
  · replace hE := fif hE c171
    refine aw_bipush (v := 32) dX9_encode_179 (by decide) ?_
    exact aw_lv _ (List.forall_mem_cons.mpr ⟨rfl, (List.forall_mem_cons.mpr ⟨rfl, (List.forall_mem_cons.mpr ⟨rfl, (List.forall_mem_cons.mpr ⟨rfl, (List.forall_mem_cons.mpr ⟨rfl, (List.forall_mem_cons.mpr ⟨rfl, (List.forall_mem_cons.mpr ⟨rfl, fun _ h => absurd h List.not_mem_nil⟩)⟩)⟩)⟩)⟩)⟩)⟩) (b_X9_encode_181 m0 sh rr r x ww o so sc qo pn bm tg px fa hb n hr ho  v4 v5 v6 v7 (32 : Int32) s163 pl _ hE hF)
  · replace hE := fit hE c171
    refine aw_bipush (v := 40) dX9_encode_174 (by decide) ?_
    refine aw_goto (tgt := 181) dX9_encode_176 (by decide) ?_
    exact aw_lv _ (List.forall_mem_cons.mpr ⟨rfl, (List.forall_mem_cons.mpr ⟨rfl, (List.forall_mem_cons.mpr ⟨rfl, (List.forall_mem_cons.mpr ⟨rfl, (List.forall_mem_cons.mpr ⟨rfl, (List.forall_mem_cons.mpr ⟨rfl, (List.forall_mem_cons.mpr ⟨rfl, fun _ h => absurd h List.not_mem_nil⟩)⟩)⟩)⟩)⟩)⟩)⟩) (b_X9_encode_181 m0 sh rr r x ww o so sc qo pn bm tg px fa hb n hr ho  v4 v5 v6 v7 (40 : Int32) s163 pl _ hE hF)
def F_X9_encode_125 (x : Ras)  (v4 : Int32) (v5 : Int32) (v6 : Int32) (v7 : Int32) (t0 : Int32) (y : Row) (pl : Pal) : Out (Row × Pal) Unit := fon (F_X1_add t0 y) (fun z125 s125 => fon (F_X1_addLow4 0 s125) (fun z130 s130 => fon (F_X1_addLow2 (x_w x) s130) (fun z138 s138 => fon (F_X1_addLow2 (x_g x) s138) (fun z146 s146 => if v4 = 2 then (F_X9_encode_163 x v4 v5 v6 v7 v6 s146 pl) else (F_X9_encode_163 x v4 v5 v6 v7 (8 : Int32) s146 pl)) (fun _ _ => fno)) (fun _ _ => fno)) (fun _ _ => fno)) (fun _ _ => fno)
set_option maxHeartbeats 1000000 in
set_option maxRecDepth 100000 in
theorem b_X9_encode_125 (m0 : Mnt) (sh : Nat → Nat) (rr : Nat → Ras) (r : Nat) (x : Ras) (ww : Nat → Row) (o : Nat) (so : Nat) (sc : Src) (qo : Qoi) (pn : Pnm) (bm : Bmp) (tg : Tga) (px : Pcx) (fa : A) (hb : aH) (n : Nat) (hr : isR r) (ho : isW o)  : Q_X9_encode_125 m0 sh rr r x ww o so sc qo pn bm tg px fa hb n (F_X9_encode_125 x) := by
  intro v4 v5 v6 v7 t0 y pl res hE hF
  unfold F_X9_encode_125 at hE
  refine aw_callV dX9_encode_125 (at_row ho) cvX9_189 rfl (kF_X1_add m0 sh (va_up rr r x) ww o y so sc pl qo pn bm tg px fa hb _ ho t0 (fon_ne hE hF)) rfl (Nat.le_of_ble_eq_true rfl) (by decide) (by decide) (by decide) (by decide) (fun _ _ _ hf => False.elim hf) (fun r125 h125 n125 hp125 => ?_)
  obtain ⟨z125, s125, e125, rfl, rfl, rfl⟩ := hp125
  replace hE := fon_ok e125 hE
  refine aw_aload_n dX9_encode_128 rfl ?_
  refine aw_iconst (v := 0) dX9_encode_129 (by decide) ?_
  refine aw_callV dX9_encode_130 (at_row ho) cvX9_197 rfl (kF_X1_addLow4 m0 sh (va_up rr r x) ww o s125 so sc pl qo pn bm tg px fa hb _ ho 0 (fon_ne hE hF)) rfl (Nat.le_of_ble_eq_true rfl) (by decide) (by decide) (by decide) (by decide) (fun _ _ _ hf => False.elim hf) (fun r130 h130 n130 hp130 => ?_)
  obtain ⟨z130, s130, e130, rfl, rfl, rfl⟩ := hp130
  replace hE := fon_ok e130 hE
  refine aw_aload_n dX9_encode_133 rfl ?_
  refine aw_aload_n dX9_encode_134 rfl ?_
  refine aw_getf (v := .int (x_w x)) dX9_encode_135 flX9_126_6 (at_ras hr) rfl ?_
  refine aw_callV dX9_encode_138 (at_row ho) cvX9_194 rfl (kF_X1_addLow2 m0 sh (va_up rr r x) ww o s130 so sc pl qo pn bm tg px fa hb _ ho (x_w x) (fon_ne hE hF)) rfl (Nat.le_of_ble_eq_true rfl) (by decide) (by decide) (by decide) (by decide) (fun _ _ _ hf => False.elim hf) (fun r138 h138 n138 hp138 => ?_)
  obtain ⟨z138, s138, e138, rfl, rfl, rfl⟩ := hp138
  replace hE := fon_ok e138 hE
  refine aw_aload_n dX9_encode_141 rfl ?_
  refine aw_aload_n dX9_encode_142 rfl ?_
  refine aw_getf (v := .int (x_g x)) dX9_encode_143 flX9_121_6 (at_ras hr) rfl ?_
  refine aw_callV dX9_encode_146 (at_row ho) cvX9_194 rfl (kF_X1_addLow2 m0 sh (va_up rr r x) ww o s138 so sc pl qo pn bm tg px fa hb _ ho (x_g x) (fon_ne hE hF)) rfl (Nat.le_of_ble_eq_true rfl) (by decide) (by decide) (by decide) (by decide) (fun _ _ _ hf => False.elim hf) (fun r146 h146 n146 hp146 => ?_)
  obtain ⟨z146, s146, e146, rfl, rfl, rfl⟩ := hp146
  replace hE := fon_ok e146 hE
  refine aw_aload_n dX9_encode_149 rfl ?_
  refine aw_iload dX9_encode_150 rfl ?_
  refine aw_iconst (v := 2) dX9_encode_152 (by decide) ?_
  refine aw_icmp_ne (tgt := 161) dX9_encode_153 (by decide) (fun c153 => ?_) (fun c153 => ?_)
  · replace hE := fif hE c153
    refine aw_bipush (v := 8) dX9_encode_161 (by decide) ?_
    exact aw_lv _ (List.forall_mem_cons.mpr ⟨rfl, (List.forall_mem_cons.mpr ⟨rfl, (List.forall_mem_cons.mpr ⟨rfl, (List.forall_mem_cons.mpr ⟨rfl, (List.forall_mem_cons.mpr ⟨rfl, (List.forall_mem_cons.mpr ⟨rfl, (List.forall_mem_cons.mpr ⟨rfl, fun _ h => absurd h List.not_mem_nil⟩)⟩)⟩)⟩)⟩)⟩)⟩) (b_X9_encode_163 m0 sh rr r x ww o so sc qo pn bm tg px fa hb n hr ho  v4 v5 v6 v7 (8 : Int32) s146 pl _ hE hF)
  · replace hE := fit hE c153
    refine aw_iload dX9_encode_156 rfl ?_
    refine aw_goto (tgt := 163) dX9_encode_158 (by decide) ?_
    exact aw_lv _ (List.forall_mem_cons.mpr ⟨rfl, (List.forall_mem_cons.mpr ⟨rfl, (List.forall_mem_cons.mpr ⟨rfl, (List.forall_mem_cons.mpr ⟨rfl, (List.forall_mem_cons.mpr ⟨rfl, (List.forall_mem_cons.mpr ⟨rfl, (List.forall_mem_cons.mpr ⟨rfl, fun _ h => absurd h List.not_mem_nil⟩)⟩)⟩)⟩)⟩)⟩)⟩) (b_X9_encode_163 m0 sh rr r x ww o so sc qo pn bm tg px fa hb n hr ho  v4 v5 v6 v7 v6 s146 pl _ hE hF)
def F_X9_encode_98 (x : Ras)  (v4 : Int32) (v5 : Int32) (v6 : Int32) (v7 : Int32) (t0 : Int32) (y : Row) (pl : Pal) : Out (Row × Pal) Unit := fon (F_X1_add t0 y) (fun z98 s98 => fon (F_X1_addLow2 0 s98) (fun z103 s103 => fon (F_X1_addLow2 v7 s103) (fun z109 s109 => if v4 = 1 then (F_X9_encode_125 x v4 v5 v6 v7 v6 s109 pl) else (F_X9_encode_125 x v4 v5 v6 v7 (0 : Int32) s109 pl)) (fun _ _ => fno)) (fun _ _ => fno)) (fun _ _ => fno)
set_option maxHeartbeats 1000000 in
set_option maxRecDepth 100000 in
theorem b_X9_encode_98 (m0 : Mnt) (sh : Nat → Nat) (rr : Nat → Ras) (r : Nat) (x : Ras) (ww : Nat → Row) (o : Nat) (so : Nat) (sc : Src) (qo : Qoi) (pn : Pnm) (bm : Bmp) (tg : Tga) (px : Pcx) (fa : A) (hb : aH) (n : Nat) (hr : isR r) (ho : isW o)  : Q_X9_encode_98 m0 sh rr r x ww o so sc qo pn bm tg px fa hb n (F_X9_encode_98 x) := by
  intro v4 v5 v6 v7 t0 y pl res hE hF
  unfold F_X9_encode_98 at hE
  refine aw_callV dX9_encode_98 (at_row ho) cvX9_189 rfl (kF_X1_add m0 sh (va_up rr r x) ww o y so sc pl qo pn bm tg px fa hb _ ho t0 (fon_ne hE hF)) rfl (Nat.le_of_ble_eq_true rfl) (by decide) (by decide) (by decide) (by decide) (fun _ _ _ hf => False.elim hf) (fun r98 h98 n98 hp98 => ?_)
  obtain ⟨z98, s98, e98, rfl, rfl, rfl⟩ := hp98
  replace hE := fon_ok e98 hE
  refine aw_aload_n dX9_encode_101 rfl ?_
  refine aw_iconst (v := 0) dX9_encode_102 (by decide) ?_
  refine aw_callV dX9_encode_103 (at_row ho) cvX9_194 rfl (kF_X1_addLow2 m0 sh (va_up rr r x) ww o s98 so sc pl qo pn bm tg px fa hb _ ho 0 (fon_ne hE hF)) rfl (Nat.le_of_ble_eq_true rfl) (by decide) (by decide) (by decide) (by decide) (fun _ _ _ hf => False.elim hf) (fun r103 h103 n103 hp103 => ?_)
  obtain ⟨z103, s103, e103, rfl, rfl, rfl⟩ := hp103
  replace hE := fon_ok e103 hE
  refine aw_aload_n dX9_encode_106 rfl ?_
  refine aw_iload dX9_encode_107 rfl ?_
  refine aw_callV dX9_encode_109 (at_row ho) cvX9_194 rfl (kF_X1_addLow2 m0 sh (va_up rr r x) ww o s103 so sc pl qo pn bm tg px fa hb _ ho v7 (fon_ne hE hF)) rfl (Nat.le_of_ble_eq_true rfl) (by decide) (by decide) (by decide) (by decide) (fun _ _ _ hf => False.elim hf) (fun r109 h109 n109 hp109 => ?_)
  obtain ⟨z109, s109, e109, rfl, rfl, rfl⟩ := hp109
  replace hE := fon_ok e109 hE
  refine aw_aload_n dX9_encode_112 rfl ?_
  refine aw_iload dX9_encode_113 rfl ?_
  refine aw_iconst (v := 1) dX9_encode_115 (by decide) ?_
  refine aw_icmp_ne (tgt := 124) dX9_encode_116 (by decide) (fun c116 => ?_) (fun c116 => ?_)
  · replace hE := fif hE c116
    refine aw_iconst (v := 0) dX9_encode_124 (by decide) ?_
    exact aw_lv _ (List.forall_mem_cons.mpr ⟨rfl, (List.forall_mem_cons.mpr ⟨rfl, (List.forall_mem_cons.mpr ⟨rfl, (List.forall_mem_cons.mpr ⟨rfl, (List.forall_mem_cons.mpr ⟨rfl, (List.forall_mem_cons.mpr ⟨rfl, (List.forall_mem_cons.mpr ⟨rfl, fun _ h => absurd h List.not_mem_nil⟩)⟩)⟩)⟩)⟩)⟩)⟩) (b_X9_encode_125 m0 sh rr r x ww o so sc qo pn bm tg px fa hb n hr ho  v4 v5 v6 v7 (0 : Int32) s109 pl _ hE hF)
  · replace hE := fit hE c116
    refine aw_iload dX9_encode_119 rfl ?_
    refine aw_goto (tgt := 125) dX9_encode_121 (by decide) ?_
    exact aw_lv _ (List.forall_mem_cons.mpr ⟨rfl, (List.forall_mem_cons.mpr ⟨rfl, (List.forall_mem_cons.mpr ⟨rfl, (List.forall_mem_cons.mpr ⟨rfl, (List.forall_mem_cons.mpr ⟨rfl, (List.forall_mem_cons.mpr ⟨rfl, (List.forall_mem_cons.mpr ⟨rfl, fun _ h => absurd h List.not_mem_nil⟩)⟩)⟩)⟩)⟩)⟩)⟩) (b_X9_encode_125 m0 sh rr r x ww o so sc qo pn bm tg px fa hb n hr ho  v4 v5 v6 v7 v6 s109 pl _ hE hF)
def F_X9_encode_79 (x : Ras)  (v4 : Int32) (v5 : Int32) (v6 : Int32) (v7 : Int32) (t0 : Int32) (y : Row) (pl : Pal) : Out (Row × Pal) Unit := fon (F_X1_add t0 y) (fun z79 s79 => if v5 = 0 then (F_X9_encode_98 x v4 v5 v6 v7 v4 s79 pl) else (F_X9_encode_98 x v4 v5 v6 v7 (v4 + 8) s79 pl)) (fun _ _ => fno)
set_option maxHeartbeats 1000000 in
set_option maxRecDepth 100000 in
theorem b_X9_encode_79 (m0 : Mnt) (sh : Nat → Nat) (rr : Nat → Ras) (r : Nat) (x : Ras) (ww : Nat → Row) (o : Nat) (so : Nat) (sc : Src) (qo : Qoi) (pn : Pnm) (bm : Bmp) (tg : Tga) (px : Pcx) (fa : A) (hb : aH) (n : Nat) (hr : isR r) (ho : isW o)  : Q_X9_encode_79 m0 sh rr r x ww o so sc qo pn bm tg px fa hb n (F_X9_encode_79 x) := by
  intro v4 v5 v6 v7 t0 y pl res hE hF
  unfold F_X9_encode_79 at hE
  refine aw_callV dX9_encode_79 (at_row ho) cvX9_189 rfl (kF_X1_add m0 sh (va_up rr r x) ww o y so sc pl qo pn bm tg px fa hb _ ho t0 (fon_ne hE hF)) rfl (Nat.le_of_ble_eq_true rfl) (by decide) (by decide) (by decide) (by decide) (fun _ _ _ hf => False.elim hf) (fun r79 h79 n79 hp79 => ?_)
  obtain ⟨z79, s79, e79, rfl, rfl, rfl⟩ := hp79
  replace hE := fon_ok e79 hE
  refine aw_aload_n dX9_encode_82 rfl ?_
  refine aw_iload dX9_encode_83 rfl ?_
  refine aw_if_eq (tgt := 96) dX9_encode_85 (by decide) (fun c85 => ?_) (fun c85 => ?_)
  · replace hE := fit hE c85
    refine aw_iload dX9_encode_96 rfl ?_
    exact aw_lv _ (List.forall_mem_cons.mpr ⟨rfl, (List.forall_mem_cons.mpr ⟨rfl, (List.forall_mem_cons.mpr ⟨rfl, (List.forall_mem_cons.mpr ⟨rfl, (List.forall_mem_cons.mpr ⟨rfl, (List.forall_mem_cons.mpr ⟨rfl, (List.forall_mem_cons.mpr ⟨rfl, fun _ h => absurd h List.not_mem_nil⟩)⟩)⟩)⟩)⟩)⟩)⟩) (b_X9_encode_98 m0 sh rr r x ww o so sc qo pn bm tg px fa hb n hr ho  v4 v5 v6 v7 v4 s79 pl _ hE hF)
  · replace hE := fif hE c85
    refine aw_iload dX9_encode_88 rfl ?_
    refine aw_bipush (v := 8) dX9_encode_90 (by decide) ?_
    refine aw_iadd dX9_encode_92 ?_
    refine aw_goto (tgt := 98) dX9_encode_93 (by decide) ?_
    exact aw_lv _ (List.forall_mem_cons.mpr ⟨rfl, (List.forall_mem_cons.mpr ⟨rfl, (List.forall_mem_cons.mpr ⟨rfl, (List.forall_mem_cons.mpr ⟨rfl, (List.forall_mem_cons.mpr ⟨rfl, (List.forall_mem_cons.mpr ⟨rfl, (List.forall_mem_cons.mpr ⟨rfl, fun _ h => absurd h List.not_mem_nil⟩)⟩)⟩)⟩)⟩)⟩)⟩) (b_X9_encode_98 m0 sh rr r x ww o so sc qo pn bm tg px fa hb n hr ho  v4 v5 v6 v7 (v4 + 8) s79 pl _ hE hF)
def F_X9_encode_62 (x : Ras)  (v4 : Int32) (v5 : Int32) (v6 : Int32) (v7 : Int32) (y : Row) (pl : Pal) : Out (Row × Pal) Unit := fon (F_X1_add 0 y) (fun z64 s64 => if v4 = 1 then (F_X9_encode_79 x v4 v5 v6 v7 (1 : Int32) s64 pl) else (F_X9_encode_79 x v4 v5 v6 v7 (0 : Int32) s64 pl)) (fun _ _ => fno)
set_option maxHeartbeats 1000000 in
set_option maxRecDepth 100000 in
theorem b_X9_encode_62 (m0 : Mnt) (sh : Nat → Nat) (rr : Nat → Ras) (r : Nat) (x : Ras) (ww : Nat → Row) (o : Nat) (so : Nat) (sc : Src) (qo : Qoi) (pn : Pnm) (bm : Bmp) (tg : Tga) (px : Pcx) (fa : A) (hb : aH) (n : Nat) (hr : isR r) (ho : isW o)  : Q_X9_encode_62 m0 sh rr r x ww o so sc qo pn bm tg px fa hb n (F_X9_encode_62 x) := by
  intro v4 v5 v6 v7 y pl res hE hF
  unfold F_X9_encode_62 at hE
  refine aw_aload_n dX9_encode_62 rfl ?_
  refine aw_iconst (v := 0) dX9_encode_63 (by decide) ?_
  refine aw_callV dX9_encode_64 (at_row ho) cvX9_189 rfl (kF_X1_add m0 sh (va_up rr r x) ww o y so sc pl qo pn bm tg px fa hb _ ho 0 (fon_ne hE hF)) rfl (Nat.le_of_ble_eq_true rfl) (by decide) (by decide) (by decide) (by decide) (fun _ _ _ hf => False.elim hf) (fun r64 h64 n64 hp64 => ?_)
  obtain ⟨z64, s64, e64, rfl, rfl, rfl⟩ := hp64
  replace hE := fon_ok e64 hE
  refine aw_aload_n dX9_encode_67 rfl ?_
  refine aw_iload dX9_encode_68 rfl ?_
  refine aw_iconst (v := 1) dX9_encode_70 (by decide) ?_
  refine aw_icmp_ne (tgt := 78) dX9_encode_71 (by decide) (fun c71 => ?_) (fun c71 => ?_)
  · replace hE := fif hE c71
    refine aw_iconst (v := 0) dX9_encode_78 (by decide) ?_
    exact aw_lv _ (List.forall_mem_cons.mpr ⟨rfl, (List.forall_mem_cons.mpr ⟨rfl, (List.forall_mem_cons.mpr ⟨rfl, (List.forall_mem_cons.mpr ⟨rfl, (List.forall_mem_cons.mpr ⟨rfl, (List.forall_mem_cons.mpr ⟨rfl, (List.forall_mem_cons.mpr ⟨rfl, fun _ h => absurd h List.not_mem_nil⟩)⟩)⟩)⟩)⟩)⟩)⟩) (b_X9_encode_79 m0 sh rr r x ww o so sc qo pn bm tg px fa hb n hr ho  v4 v5 v6 v7 (0 : Int32) s64 pl _ hE hF)
  · replace hE := fit hE c71
    refine aw_iconst (v := 1) dX9_encode_74 (by decide) ?_
    refine aw_goto (tgt := 79) dX9_encode_75 (by decide) ?_
    exact aw_lv _ (List.forall_mem_cons.mpr ⟨rfl, (List.forall_mem_cons.mpr ⟨rfl, (List.forall_mem_cons.mpr ⟨rfl, (List.forall_mem_cons.mpr ⟨rfl, (List.forall_mem_cons.mpr ⟨rfl, (List.forall_mem_cons.mpr ⟨rfl, (List.forall_mem_cons.mpr ⟨rfl, fun _ h => absurd h List.not_mem_nil⟩)⟩)⟩)⟩)⟩)⟩)⟩) (b_X9_encode_79 m0 sh rr r x ww o so sc qo pn bm tg px fa hb n hr ho  v4 v5 v6 v7 (1 : Int32) s64 pl _ hE hF)
def F_X9_encode_34 (x : Ras)  (v4 : Int32) (v5 : Int32) (t0 : Int32) (y : Row) (pl : Pal) : Out (Row × Pal) Unit := if v4 = 1 then (fon (F_X3_gather x pl) (fun z50 s50 => F_X9_encode_62 x v4 v5 t0 (pl_n s50) y s50) (fun _ _ => fno)) else (F_X9_encode_62 x v4 v5 t0 (0 : Int32) y pl)
set_option maxHeartbeats 1000000 in
set_option maxRecDepth 100000 in
theorem b_X9_encode_34 (m0 : Mnt) (sh : Nat → Nat) (rr : Nat → Ras) (r : Nat) (x : Ras) (ww : Nat → Row) (o : Nat) (so : Nat) (sc : Src) (qo : Qoi) (pn : Pnm) (bm : Bmp) (tg : Tga) (px : Pcx) (fa : A) (hb : aH) (n : Nat) (hr : isR r) (ho : isW o)  : Q_X9_encode_34 m0 sh rr r x ww o so sc qo pn bm tg px fa hb n (F_X9_encode_34 x) := by
  intro v4 v5 t0 y pl res hE hF
  unfold F_X9_encode_34 at hE
  refine aw_istore (lv2 := [(6, _), (0, _), (1, _), (3, _), (4, _), (5, _)]) dX9_encode_34 (by decide) rfl ?_
  refine aw_iconst (v := 0) dX9_encode_36 (by decide) ?_
  refine aw_istore (lv2 := [(7, _), (6, _), (0, _), (1, _), (3, _), (4, _), (5, _)]) dX9_encode_37 (by decide) rfl ?_
  refine aw_iload dX9_encode_39 rfl ?_
  refine aw_iconst (v := 1) dX9_encode_41 (by decide) ?_
  refine aw_icmp_ne (tgt := 62) dX9_encode_42 (by decide) (fun c42 => ?_) (fun c42 => ?_)
  · replace hE := fif hE c42
    exact aw_lv _ (List.forall_mem_cons.mpr ⟨rfl, (List.forall_mem_cons.mpr ⟨rfl, (List.forall_mem_cons.mpr ⟨rfl, (List.forall_mem_cons.mpr ⟨rfl, (List.forall_mem_cons.mpr ⟨rfl, (List.forall_mem_cons.mpr ⟨rfl, (List.forall_mem_cons.mpr ⟨rfl, fun _ h => absurd h List.not_mem_nil⟩)⟩)⟩)⟩)⟩)⟩)⟩) (b_X9_encode_62 m0 sh rr r x ww o so sc qo pn bm tg px fa hb n hr ho  v4 v5 t0 (0 : Int32) y pl _ hE hF)
  · replace hE := fit hE c42
    refine aw_aload_n dX9_encode_45 rfl ?_
    refine aw_getf (v := .ref 17) dX9_encode_46 flX9_15_8 at_tga rfl ?_
    refine aw_aload_n dX9_encode_49 rfl ?_
    refine aw_callV dX9_encode_50 at_pal cvX9_180 rfl (kF_X3_gather m0 sh rr r x (va_up ww o y) so sc pl qo pn bm tg px fa hb _ hr  (fon_ne hE hF)) rfl (Nat.le_of_ble_eq_true rfl) (by decide) (by decide) (by decide) (by decide) (fun _ _ _ hf => False.elim hf) (fun r50 h50 n50 hp50 => ?_)
    obtain ⟨z50, s50, e50, rfl, rfl, rfl⟩ := hp50
    replace hE := fon_ok e50 hE
    refine aw_aload_n dX9_encode_53 rfl ?_
    refine aw_getf (v := .ref 17) dX9_encode_54 flX9_15_8 at_tga rfl ?_
    refine aw_getf (v := .int (pl_n s50)) dX9_encode_57 flX9_186_2 at_pal rfl ?_
    refine aw_istore (lv2 := [(7, _), (6, _), (0, _), (1, _), (3, _), (4, _), (5, _)]) dX9_encode_60 (by decide) rfl ?_
    exact aw_lv _ (List.forall_mem_cons.mpr ⟨rfl, (List.forall_mem_cons.mpr ⟨rfl, (List.forall_mem_cons.mpr ⟨rfl, (List.forall_mem_cons.mpr ⟨rfl, (List.forall_mem_cons.mpr ⟨rfl, (List.forall_mem_cons.mpr ⟨rfl, (List.forall_mem_cons.mpr ⟨rfl, fun _ h => absurd h List.not_mem_nil⟩)⟩)⟩)⟩)⟩)⟩)⟩) (b_X9_encode_62 m0 sh rr r x ww o so sc qo pn bm tg px fa hb n hr ho  v4 v5 t0 (pl_n s50) y s50 _ hE hF)
def F_X9_encode_18 (x : Ras)  (v4 : Int32) (t0 : Int32) (y : Row) (pl : Pal) : Out (Row × Pal) Unit := fon (F_X7_isOpaque x) (fun z21 s21 => if z21 = 0 then (F_X9_encode_34 x v4 t0 (32 : Int32) y pl) else (F_X9_encode_34 x v4 t0 (24 : Int32) y pl)) (fun _ _ => fno)
set_option maxHeartbeats 1000000 in
set_option maxRecDepth 100000 in
theorem b_X9_encode_18 (m0 : Mnt) (sh : Nat → Nat) (rr : Nat → Ras) (r : Nat) (x : Ras) (ww : Nat → Row) (o : Nat) (so : Nat) (sc : Src) (qo : Qoi) (pn : Pnm) (bm : Bmp) (tg : Tga) (px : Pcx) (fa : A) (hb : aH) (n : Nat) (hr : isR r) (ho : isW o)  : Q_X9_encode_18 m0 sh rr r x ww o so sc qo pn bm tg px fa hb n (F_X9_encode_18 x) := by
  intro v4 t0 y pl res hE hF
  unfold F_X9_encode_18 at hE
  refine aw_istore (lv2 := [(5, _), (0, _), (1, _), (3, _), (4, _)]) dX9_encode_18 (by decide) rfl ?_
  refine aw_aload_n dX9_encode_20 rfl ?_
  refine aw_callV dX9_encode_21 (at_ras hr) cvX9_176 rfl (kF_X7_isOpaque m0 sh rr r x (va_up ww o y) so sc pl qo pn bm tg px fa hb _ hr  (fon_ne hE hF)) rfl (Nat.le_of_ble_eq_true rfl) (by decide) (by decide) (by decide) (by decide) (fun _ _ _ hf => False.elim hf) (fun r21 h21 n21 hp21 => ?_)
  obtain ⟨z21, s21, e21, rfl, rfl, rfl⟩ := hp21
  replace hE := fon_ok e21 hE
  refine aw_if_eq (tgt := 32) dX9_encode_24 (by decide) (fun c24 => ?_) (fun c24 => ?_)
  · replace hE := fit hE c24
    refine aw_bipush (v := 32) dX9_encode_32 (by decide) ?_
    exact aw_lv _ (List.forall_mem_cons.mpr ⟨rfl, (List.forall_mem_cons.mpr ⟨rfl, (List.forall_mem_cons.mpr ⟨rfl, (List.forall_mem_cons.mpr ⟨rfl, (List.forall_mem_cons.mpr ⟨rfl, fun _ h => absurd h List.not_mem_nil⟩)⟩)⟩)⟩)⟩) (b_X9_encode_34 m0 sh rr r x ww o so sc qo pn bm tg px fa hb n hr ho  v4 t0 (32 : Int32) y pl _ hE hF)
  · replace hE := fif hE c24
    refine aw_bipush (v := 24) dX9_encode_27 (by decide) ?_
    refine aw_goto (tgt := 34) dX9_encode_29 (by decide) ?_
    exact aw_lv _ (List.forall_mem_cons.mpr ⟨rfl, (List.forall_mem_cons.mpr ⟨rfl, (List.forall_mem_cons.mpr ⟨rfl, (List.forall_mem_cons.mpr ⟨rfl, (List.forall_mem_cons.mpr ⟨rfl, fun _ h => absurd h List.not_mem_nil⟩)⟩)⟩)⟩)⟩) (b_X9_encode_34 m0 sh rr r x ww o so sc qo pn bm tg px fa hb n hr ho  v4 t0 (24 : Int32) y pl _ hE hF)
def F_X9_encode (a2 : Int32) (x : Ras) (y : Row) (pl : Pal) : Out (Row × Pal) Unit := if (a2 &&& 1) = 1 then (F_X9_encode_18 x (F_X9_kindOf a2) (1 : Int32) y pl) else (F_X9_encode_18 x (F_X9_kindOf a2) (0 : Int32) y pl)
set_option maxHeartbeats 1000000 in
set_option maxRecDepth 100000 in
theorem kF_X9_encode (m0 : Mnt) (sh : Nat → Nat) (rr : Nat → Ras) (r : Nat) (x : Ras) (ww : Nat → Row) (o : Nat) (y : Row) (so : Nat) (sc : Src) (pl : Pal) (qo : Qoi) (pn : Pnm) (bm : Bmp) (tg : Tga) (px : Pcx) (fa : A) (hb : aH) (n : Nat) (hr : isR r) (ho : isW o) (a2 : Int32) (hF : F_X9_encode a2 x y pl ≠ fno) : AM mX9_encode 5 [.ref 26, .ref r, .int a2, .ref o] (HC m0 sh (va_up rr r x) (va_up ww o y) so sc pl qo pn bm tg px fa hb) n 0 0 0 0 (P_X9_encode m0 sh rr r x ww o so sc qo pn bm tg px fa hb n (F_X9_encode a2 x y pl)) (fun _ _ _ => False) := by
  generalize hE : F_X9_encode a2 x y pl = res at hF ⊢
  refine aw_of (by decide +kernel) rfl (Nat.le_of_ble_eq_true rfl) ?_
  unfold F_X9_encode at hE
  refine aw_iload_n dX9_encode_0 rfl ?_
  refine aw_callS dX9_encode_1  csX9_173 rfl (kF_X9_kindOf _ _ a2) rfl (Nat.le_of_ble_eq_true rfl) (by decide) (by decide) (by decide) (by decide) (fun _ _ _ hf => False.elim hf) (fun r1 h1 n1 hp1 => ?_)
  obtain ⟨rfl, rfl, rfl⟩ := hp1
  refine aw_istore (lv2 := [(4, _), (0, _), (1, _), (2, _), (3, _)]) dX9_encode_4 (by decide) rfl ?_
  refine aw_iload_n dX9_encode_6 rfl ?_
  refine aw_iconst (v := 1) dX9_encode_7 (by decide) ?_
  refine aw_iand dX9_encode_8 ?_
  refine aw_iconst (v := 1) dX9_encode_9 (by decide) ?_
  refine aw_icmp_ne (tgt := 17) dX9_encode_10 (by decide) (fun c10 => ?_) (fun c10 => ?_)
  · replace hE := fif hE c10
    refine aw_iconst (v := 0) dX9_encode_17 (by decide) ?_
    exact aw_lv _ (List.forall_mem_cons.mpr ⟨rfl, (List.forall_mem_cons.mpr ⟨rfl, (List.forall_mem_cons.mpr ⟨rfl, (List.forall_mem_cons.mpr ⟨rfl, fun _ h => absurd h List.not_mem_nil⟩)⟩)⟩)⟩) (b_X9_encode_18 m0 sh rr r x ww o so sc qo pn bm tg px fa hb n hr ho  (F_X9_kindOf a2) (0 : Int32) y pl _ hE hF)
  · replace hE := fit hE c10
    refine aw_iconst (v := 1) dX9_encode_13 (by decide) ?_
    refine aw_goto (tgt := 18) dX9_encode_14 (by decide) ?_
    exact aw_lv _ (List.forall_mem_cons.mpr ⟨rfl, (List.forall_mem_cons.mpr ⟨rfl, (List.forall_mem_cons.mpr ⟨rfl, (List.forall_mem_cons.mpr ⟨rfl, fun _ h => absurd h List.not_mem_nil⟩)⟩)⟩)⟩) (b_X9_encode_18 m0 sh rr r x ww o so sc qo pn bm tg px fa hb n hr ho  (F_X9_kindOf a2) (1 : Int32) y pl _ hE hF)
def P_X8_wantLow4 (m0 : Mnt) (sh : Nat → Nat) (rr : Nat → Ras) (ww : Nat → Row) (so : Nat) (pl : Pal) (qo : Qoi) (pn : Pnm) (bm : Bmp) (tg : Tga) (px : Pcx) (fa : A) (hb : aH) (n : Nat) (res : Out Src Unit) : Option Value → aH → Nat → Prop := fun r1 h2 n2 => ∃ (a : Unit) (s : Src), res = fok a s ∧ r1 = none ∧ h2 = HC m0 sh rr ww so s pl qo pn bm tg px fa hb ∧ n = n2
def X_X8_wantLow4 (m0 : Mnt) (sh : Nat → Nat) (rr : Nat → Ras) (ww : Nat → Row) (so : Nat) (pl : Pal) (qo : Qoi) (pn : Pnm) (bm : Bmp) (tg : Tga) (px : Pcx) (fa : A) (hb : aH) (n : Nat) (res : Out Src Unit) : String → aH → Nat → Prop := fun E h2 n2 => ∃ s : Src, res = fex E s ∧ h2 = HC m0 sh rr ww so s pl qo pn bm tg px fa hb ∧ n = n2
def F_X8_wantLow4 (a1 : Int32) (sc : Src) (sb : A) : Out Src Unit := fon (F_X8_low4 sc sb) (fun z6 s6 => if z6 = a1 then (fok () s6) else (fon (F_X8_refuse 2 (sc_pos sc) s6) (fun _ _ => fno) (fun E s16 => fex E s16))) (fun E s6 => fex E s6)
set_option maxHeartbeats 1000000 in
set_option maxRecDepth 100000 in
theorem kF_X8_wantLow4 (m0 : Mnt) (sh : Nat → Nat) (rr : Nat → Ras) (ww : Nat → Row) (so : Nat) (sc : Src) (pl : Pal) (qo : Qoi) (pn : Pnm) (bm : Bmp) (tg : Tga) (px : Pcx) (fa : A) (hb : aH) (n : Nat) (hso : isW so) (a1 : Int32) (hF : F_X8_wantLow4 a1 sc (y_b (ww so)) ≠ fno) : AM mX8_wantLow4 6 [.ref 16, .int a1] (HC m0 sh rr ww so sc pl qo pn bm tg px fa hb) n 1 6 0 0 (P_X8_wantLow4 m0 sh rr ww so pl qo pn bm tg px fa hb n (F_X8_wantLow4 a1 sc (y_b (ww so)))) (X_X8_wantLow4 m0 sh rr ww so pl qo pn bm tg px fa hb n (F_X8_wantLow4 a1 sc (y_b (ww so)))) := by
  generalize hE : F_X8_wantLow4 a1 sc (y_b (ww so)) = res at hF ⊢
  refine aw_of (by decide +kernel) rfl (Nat.le_of_ble_eq_true rfl) ?_
  unfold F_X8_wantLow4 at hE
  refine aw_aload_n dX8_wantLow4_0 rfl ?_
  refine aw_getf (v := .int (sc_pos sc)) dX8_wantLow4_1 flX8_25_7 at_src rfl ?_
  refine aw_istore_n (lv2 := [(2, _), (0, _), (1, _)]) dX8_wantLow4_4 (by decide) rfl ?_
  refine aw_aload_n dX8_wantLow4_5 rfl ?_
  refine aw_callV dX8_wantLow4_6 at_src cvX8_54 rfl (kF_X8_low4 m0 sh rr ww so sc pl qo pn bm tg px fa hb _ hso  (fon_ne hE hF)) rfl (Nat.le_of_ble_eq_true rfl) (by decide) (by decide) (by decide) (by decide) (fun E h2 n2 hx => aw_out rfl (by decide) (by decide) (by obtain ⟨s6, e6, rfl, rfl⟩ := hx; exact ⟨_, (fon_ex e6 hE).symm, rfl, rfl⟩)) (fun r6 h6 n6 hp6 => ?_)
  obtain ⟨z6, s6, e6, rfl, rfl, rfl⟩ := hp6
  replace hE := fon_ok e6 hE
  refine aw_iload_n dX8_wantLow4_9 rfl ?_
  refine aw_icmp_eq (tgt := 19) dX8_wantLow4_10 (by decide) (fun c10 => ?_) (fun c10 => ?_)
  · replace hE := fit hE c10
    exact aw_vret dX8_wantLow4_19 rfl (Nat.zero_le _) (Nat.zero_le _) (Nat.zero_le _) (Nat.zero_le _) ⟨_, _, hE.symm, rfl, rfl, rfl⟩
  · replace hE := fif hE c10
    refine aw_aload_n dX8_wantLow4_13 rfl ?_
    refine aw_iconst (v := 2) dX8_wantLow4_14 (by decide) ?_
    refine aw_iload_n dX8_wantLow4_15 rfl ?_
    refine aw_callV dX8_wantLow4_16 at_src cvX8_50 rfl (kF_X8_refuse m0 sh rr ww so s6 pl qo pn bm tg px fa hb _  2 (sc_pos sc) (fon_ne hE hF)) rfl (Nat.le_of_ble_eq_true rfl) (by decide) (by decide) (by decide) (by decide) (fun E h2 n2 hx => aw_out rfl (by decide) (by decide) (by obtain ⟨s16, e16, rfl, rfl⟩ := hx; exact ⟨_, (fon_ex e16 hE).symm, rfl, rfl⟩)) (fun r16 h16 n16 hp16 => ?_)
    obtain ⟨z16, s16, e16, rfl, rfl, rfl⟩ := hp16
    exact (hF (fon_ok e16 hE).symm).elim
def P_X0_readColours (m0 : Mnt) (sh : Nat → Nat) (rr : Nat → Ras) (ww : Nat → Row) (so : Nat) (pl : Pal) (qo : Qoi) (pn : Pnm) (tg : Tga) (px : Pcx) (fa : A) (hb : aH) (n : Nat) (res : Out (Src × Bmp) Unit) : Option Value → aH → Nat → Prop := fun r1 h2 n2 => ∃ (a : Unit) (s : (Src × Bmp)), res = fok a s ∧ r1 = none ∧ h2 = HC m0 sh rr ww so s.1 pl qo pn s.2 tg px fa hb ∧ n = n2
def X_X0_readColours (m0 : Mnt) (sh : Nat → Nat) (rr : Nat → Ras) (ww : Nat → Row) (so : Nat) (pl : Pal) (qo : Qoi) (pn : Pnm) (tg : Tga) (px : Pcx) (fa : A) (hb : aH) (n : Nat) (res : Out (Src × Bmp) Unit) : String → aH → Nat → Prop := fun E h2 n2 => ∃ s : (Src × Bmp), res = fex E s ∧ h2 = HC m0 sh rr ww so s.1 pl qo pn s.2 tg px fa hb ∧ n = n2
abbrev Q_X0_readColours_13 (m0 : Mnt) (sh : Nat → Nat) (rr : Nat → Ras) (ww : Nat → Row) (so : Nat) (pl : Pal) (qo : Qoi) (pn : Pnm) (tg : Tga) (px : Pcx) (fa : A) (hb : aH) (n : Nat) (k : Int32 → Int32 → Src → Bmp → Out (Src × Bmp) Unit) : Prop := ∀ (v2 : Int32) (v3 : Int32) (sc : Src) (bm : Bmp) (res : Out (Src × Bmp) Unit), k v2 v3 sc bm = res → res ≠ fno → AW (fun _ _ => True) mX0_readColours (rmD 5 1 6) 0 0 (P_X0_readColours m0 sh rr ww so pl qo pn tg px fa hb n res) (X_X0_readColours m0 sh rr ww so pl qo pn tg px fa hb n res) 0 0 13 [(0, .ref 24), (1, .ref 16), (2, .int v2), (3, .int v3)] [] (HC m0 sh rr ww so sc pl qo pn bm tg px fa hb) n
def F_X0_readColours_13 (sb : A) (k13 : Int32 → Int32 → Src → Bmp → Out (Src × Bmp) Unit) (v2 : Int32) (v3 : Int32) (sc : Src) (bm : Bmp) : Out (Src × Bmp) Unit := if v2 ≤ v3 then (fok () (sc, bm)) else (fon (F_X0_readBlueFirst sc sb) (fun z24 s24 => if inb v3 256 then (fon (F_X8_next s24 sb) (fun z29 s29 => k13 v2 (v3 + 1) s29 ((bm_f1 bm), (bm_f2 bm), (bm_f3 bm), (bm_top bm), (bm_bits bm), (bm_comp bm), (bm_used bm), (bm_packed bm), (bm_column bm), (bm_up bm), (upd (bm_col bm) (Int32.toNatClampNeg v3) z24))) (fun E s29 => fex E (s29, ((bm_f1 bm), (bm_f2 bm), (bm_f3 bm), (bm_top bm), (bm_bits bm), (bm_comp bm), (bm_used bm), (bm_packed bm), (bm_column bm), (bm_up bm), (upd (bm_col bm) (Int32.toNatClampNeg v3) z24))))) else fno) (fun E s24 => fex E (s24, bm)))
set_option maxHeartbeats 1000000 in
set_option maxRecDepth 100000 in
theorem b_X0_readColours_13 (m0 : Mnt) (sh : Nat → Nat) (rr : Nat → Ras) (ww : Nat → Row) (so : Nat) (pl : Pal) (qo : Qoi) (pn : Pnm) (tg : Tga) (px : Pcx) (fa : A) (hb : aH) (n : Nat) (hso : isW so) (k13 : Int32 → Int32 → Src → Bmp → Out (Src × Bmp) Unit) (hk13 : Q_X0_readColours_13 m0 sh rr ww so pl qo pn tg px fa hb n k13) : Q_X0_readColours_13 m0 sh rr ww so pl qo pn tg px fa hb n (F_X0_readColours_13 (y_b (ww so)) k13) := by
  intro v2 v3 sc bm res hE hF
  unfold F_X0_readColours_13 at hE
  refine aw_iload_n dX0_readColours_13 rfl ?_
  refine aw_iload_n dX0_readColours_14 rfl ?_
  refine aw_icmp_ge (tgt := 39) dX0_readColours_15 (by decide) (fun c15 => ?_) (fun c15 => ?_)
  · replace hE := fit hE c15
    exact aw_vret dX0_readColours_39 rfl (Nat.zero_le _) (Nat.zero_le _) (Nat.zero_le _) (Nat.zero_le _) ⟨_, _, hE.symm, rfl, rfl, rfl⟩
  · replace hE := fif hE c15
    refine aw_aload_n dX0_readColours_18 rfl ?_
    refine aw_getf (v := .ref 25) dX0_readColours_19 flX0_9_0 at_bmp rfl ?_
    refine aw_iload_n dX0_readColours_22 rfl ?_
    refine aw_aload_n dX0_readColours_23 rfl ?_
    refine aw_callS dX0_readColours_24  csX0_108 rfl (kF_X0_readBlueFirst m0 sh rr ww so sc pl qo pn bm tg px fa hb _ hso  (fon_ne hE hF)) rfl (Nat.le_of_ble_eq_true rfl) (by decide) (by decide) (by decide) (by decide) (fun E h2 n2 hx => aw_out rfl (by decide) (by decide) (by obtain ⟨s24, e24, rfl, rfl⟩ := hx; exact ⟨_, (fon_ex e24 hE).symm, rfl, rfl⟩)) (fun r24 h24 n24 hp24 => ?_)
    obtain ⟨z24, s24, e24, rfl, rfl, rfl⟩ := hp24
    replace hE := fon_ok e24 hE
    obtain ⟨g27, hE⟩ := fgd hE hF
    refine aw_iast (f := (bm_col bm)) dX0_readColours_27 at_bmpcol (vp_in_iff.mpr g27) ?_
    refine aw_eqh (h2 := HC m0 sh rr ww so s24 pl qo pn ((bm_f1 bm), (bm_f2 bm), (bm_f3 bm), (bm_top bm), (bm_bits bm), (bm_comp bm), (bm_used bm), (bm_packed bm), (bm_column bm), (bm_up bm), (upd (bm_col bm) (Int32.toNatClampNeg v3) z24)) tg px fa hb) up_bmpcol ?_
    refine aw_aload_n dX0_readColours_28 rfl ?_
    refine aw_callV dX0_readColours_29 at_src cvX0_112 rfl (kF_X8_next m0 sh rr ww so s24 pl qo pn ((bm_f1 bm), (bm_f2 bm), (bm_f3 bm), (bm_top bm), (bm_bits bm), (bm_comp bm), (bm_used bm), (bm_packed bm), (bm_column bm), (bm_up bm), (upd (bm_col bm) (Int32.toNatClampNeg v3) z24)) tg px fa hb _ hso  (fon_ne hE hF)) rfl (Nat.le_of_ble_eq_true rfl) (by decide) (by decide) (by decide) (by decide) (fun E h2 n2 hx => aw_out rfl (by decide) (by decide) (by obtain ⟨s29, e29, rfl, rfl⟩ := hx; exact ⟨_, (fon_ex e29 hE).symm, rfl, rfl⟩)) (fun r29 h29 n29 hp29 => ?_)
    obtain ⟨z29, s29, e29, rfl, rfl, rfl⟩ := hp29
    replace hE := fon_ok e29 hE
    refine aw_pop dX0_readColours_32 rfl ?_
    refine aw_iinc (v := (v3 + 1)) (lv2 := [(3, _), (0, _), (1, _), (2, _)]) dX0_readColours_33 rfl (incE (by decide)) (by decide) rfl ?_
    refine aw_goto (tgt := 13) dX0_readColours_36 (by decide) ?_
    exact aw_lv _ (List.forall_mem_cons.mpr ⟨rfl, (List.forall_mem_cons.mpr ⟨rfl, (List.forall_mem_cons.mpr ⟨rfl, (List.forall_mem_cons.mpr ⟨rfl, fun _ h => absurd h List.not_mem_nil⟩)⟩)⟩)⟩) (hk13 v2 (v3 + 1) s29 ((bm_f1 bm), (bm_f2 bm), (bm_f3 bm), (bm_top bm), (bm_bits bm), (bm_comp bm), (bm_used bm), (bm_packed bm), (bm_column bm), (bm_up bm), (upd (bm_col bm) (Int32.toNatClampNeg v3) z24)) _ hE hF)
def F_X0_readColours (sc : Src) (sb : A) (bm : Bmp) : Out (Src × Bmp) Unit := lp (fun _ _ _ _ => fno) (F_X0_readColours_13 sb) FU (iMin (bm_used bm) 256) (0 : Int32) sc bm
set_option maxHeartbeats 1000000 in
set_option maxRecDepth 100000 in
theorem kF_X0_readColours (m0 : Mnt) (sh : Nat → Nat) (rr : Nat → Ras) (ww : Nat → Row) (so : Nat) (sc : Src) (pl : Pal) (qo : Qoi) (pn : Pnm) (bm : Bmp) (tg : Tga) (px : Pcx) (fa : A) (hb : aH) (n : Nat) (hso : isW so)  (hF : F_X0_readColours sc (y_b (ww so)) bm ≠ fno) : AM mX0_readColours 5 [.ref 24, .ref 16] (HC m0 sh rr ww so sc pl qo pn bm tg px fa hb) n 1 6 0 0 (P_X0_readColours m0 sh rr ww so pl qo pn tg px fa hb n (F_X0_readColours sc (y_b (ww so)) bm)) (X_X0_readColours m0 sh rr ww so pl qo pn tg px fa hb n (F_X0_readColours sc (y_b (ww so)) bm)) := by
  generalize hE : F_X0_readColours sc (y_b (ww so)) bm = res at hF ⊢
  refine aw_of (by decide +kernel) rfl (Nat.le_of_ble_eq_true rfl) ?_
  unfold F_X0_readColours at hE
  refine aw_aload_n dX0_readColours_0 rfl ?_
  refine aw_getf (v := .int (bm_used bm)) dX0_readColours_1 flX0_81_0 at_bmp rfl ?_
  refine aw_sipush (v := 256) dX0_readColours_4 (by decide) ?_
  refine aw_mmin dX0_readColours_7 csX0_102.1.1 csX0_102.2 csX0_102.1.2.1 csX0_102.1.2.2.1 (by decide) (Nat.le_of_ble_eq_true rfl) (Nat.zero_le _) (Nat.zero_le _) ?_
  refine aw_istore_n (lv2 := [(2, _), (0, _), (1, _)]) dX0_readColours_10 (by decide) rfl ?_
  refine aw_iconst (v := 0) dX0_readColours_11 (by decide) ?_
  refine aw_istore_n (lv2 := [(3, _), (2, _), (0, _), (1, _)]) dX0_readColours_12 (by decide) rfl ?_
  exact aw_lv _ (List.forall_mem_cons.mpr ⟨rfl, (List.forall_mem_cons.mpr ⟨rfl, (List.forall_mem_cons.mpr ⟨rfl, (List.forall_mem_cons.mpr ⟨rfl, fun _ h => absurd h List.not_mem_nil⟩)⟩)⟩)⟩) (lp_ind (Q_X0_readColours_13 m0 sh rr ww so pl qo pn tg px fa hb n) (fun _ _ _ _ res hq hF => (hF hq.symm).elim) (fun k hk => b_X0_readColours_13 m0 sh rr ww so pl qo pn tg px fa hb n hso  k hk) FU (iMin (bm_used bm) 256) (0 : Int32) sc bm _ hE hF)
