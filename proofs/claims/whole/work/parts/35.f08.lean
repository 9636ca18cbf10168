def P_X10_read (pl : Pal) (hb : aH) (n : Nat) (res : Out (Mnt × (Nat → Nat) × (Nat → Ras) × (Nat → Row) × Nat × Src × Qoi × Pnm × Bmp × Tga × Pcx × A) Int32) : Option Value → aH → Nat → Prop := fun r1 h2 n2 => ∃ (a : Int32) (s : (Mnt × (Nat → Nat) × (Nat → Ras) × (Nat → Row) × Nat × Src × Qoi × Pnm × Bmp × Tga × Pcx × A)), res = fok a s ∧ r1 = some (.int a) ∧ h2 = HC s.1 s.2.1 s.2.2.1 s.2.2.2.1 s.2.2.2.2.1 s.2.2.2.2.2.1 pl s.2.2.2.2.2.2.1 s.2.2.2.2.2.2.2.1 s.2.2.2.2.2.2.2.2.1 s.2.2.2.2.2.2.2.2.2.1 s.2.2.2.2.2.2.2.2.2.2.1 s.2.2.2.2.2.2.2.2.2.2.2 hb ∧ n = n2
def X_X10_read (pl : Pal) (hb : aH) (n : Nat) (res : Out (Mnt × (Nat → Nat) × (Nat → Ras) × (Nat → Row) × Nat × Src × Qoi × Pnm × Bmp × Tga × Pcx × A) Int32) : String → aH → Nat → Prop := fun E h2 n2 => ∃ s : (Mnt × (Nat → Nat) × (Nat → Ras) × (Nat → Row) × Nat × Src × Qoi × Pnm × Bmp × Tga × Pcx × A), res = fex E s ∧ h2 = HC s.1 s.2.1 s.2.2.1 s.2.2.2.1 s.2.2.2.2.1 s.2.2.2.2.2.1 pl s.2.2.2.2.2.2.1 s.2.2.2.2.2.2.2.1 s.2.2.2.2.2.2.2.2.1 s.2.2.2.2.2.2.2.2.2.1 s.2.2.2.2.2.2.2.2.2.2.1 s.2.2.2.2.2.2.2.2.2.2.2 hb ∧ n = n2
abbrev Q_X10_read_26 (pl : Pal) (hb : aH) (n : Nat) (k : Mnt → (Nat → Nat) → (Nat → Ras) → (Nat → Row) → Nat → Src → Qoi → Pnm → Bmp → Tga → Pcx → A → Out (Mnt × (Nat → Nat) × (Nat → Ras) × (Nat → Row) × Nat × Src × Qoi × Pnm × Bmp × Tga × Pcx × A) Int32) : Prop := ∀ (m0 : Mnt) (sh : (Nat → Nat)) (rr : (Nat → Ras)) (ww : (Nat → Row)) (so : Nat) (sc : Src) (qo : Qoi) (pn : Pnm) (bm : Bmp) (tg : Tga) (px : Pcx) (fa : A) (res : Out (Mnt × (Nat → Nat) × (Nat → Ras) × (Nat → Row) × Nat × Src × Qoi × Pnm × Bmp × Tga × Pcx × A) Int32), k m0 sh rr ww so sc qo pn bm tg px fa = res → res ≠ fno → AW (fun _ _ => True) mX10_read (rmD 9 1 6) 1 6 (P_X10_read pl hb n res) (X_X10_read pl hb n res) 0 0 26 [] [] (HC m0 sh rr ww so sc pl qo pn bm tg px fa hb) n
abbrev Q_X10_read_63 (pl : Pal) (hb : aH) (n : Nat) (k : Int32 → Int32 → Mnt → (Nat → Nat) → (Nat → Ras) → (Nat → Row) → Nat → Src → Qoi → Pnm → Bmp → Tga → Pcx → A → Out (Mnt × (Nat → Nat) × (Nat → Ras) × (Nat → Row) × Nat × Src × Qoi × Pnm × Bmp × Tga × Pcx × A) Int32) : Prop := ∀ (v3 : Int32) (t0 : Int32) (m0 : Mnt) (sh : (Nat → Nat)) (rr : (Nat → Ras)) (ww : (Nat → Row)) (so : Nat) (sc : Src) (qo : Qoi) (pn : Pnm) (bm : Bmp) (tg : Tga) (px : Pcx) (fa : A) (res : Out (Mnt × (Nat → Nat) × (Nat → Ras) × (Nat → Row) × Nat × Src × Qoi × Pnm × Bmp × Tga × Pcx × A) Int32), k v3 t0 m0 sh rr ww so sc qo pn bm tg px fa = res → res ≠ fno → AW (fun _ _ => True) mX10_read (rmD 9 1 6) 1 6 (P_X10_read pl hb n res) (X_X10_read pl hb n res) 1 6 63 [(0, .ref 0), (3, .int v3)] [.int t0, .ref 0] (HC m0 sh rr ww so sc pl qo pn bm tg px fa hb) n
def F_X10_read_63   (v3 : Int32) (t0 : Int32) (m0 : Mnt) (sh : (Nat → Nat)) (rr : (Nat → Ras)) (ww : (Nat → Row)) (so : Nat) (sc : Src) (qo : Qoi) (pn : Pnm) (bm : Bmp) (tg : Tga) (px : Pcx) (fa : A) : Out (Mnt × (Nat → Nat) × (Nat → Ras) × (Nat → Row) × Nat × Src × Qoi × Pnm × Bmp × Tga × Pcx × A) Int32 := fok (v3 : Int32) (((m0_sp m0), t0), sh, rr, (va_up ww 12 (0, (y_b (ww 12)))), so, sc, qo, pn, bm, tg, px, fa)
set_option maxHeartbeats 1000000 in
set_option maxRecDepth 100000 in
theorem b_X10_read_63 (pl : Pal) (hb : aH) (n : Nat)   : Q_X10_read_63 pl hb n (F_X10_read_63 ) := by
  intro v3 t0 m0 sh rr ww so sc qo pn bm tg px fa res hE hF
  unfold F_X10_read_63 at hE
  refine aw_putf dX10_read_63 ptX10_79_9 at_mint (Nat.le_of_ble_eq_true rfl) ⟨rfl, rfl⟩ ?_
  refine aw_eqh (h2 := HC ((m0_sp m0), t0) sh rr ww so sc pl qo pn bm tg px fa hb) up_mint ?_
  refine aw_aload_n dX10_read_66 rfl ?_
  refine aw_getf (v := .ref 12) dX10_read_67 flX10_23_9 at_mint rfl ?_
  refine aw_iconst (v := 0) dX10_read_70 (by decide) ?_
  refine aw_putf dX10_read_71 ptX10_83_1 (at_rowT (by decide)) (Nat.le_of_ble_eq_true rfl) ⟨rfl, rfl⟩ ?_
  refine aw_eqh (h2 := HC ((m0_sp m0), t0) sh rr (va_up ww 12 (0, (y_b (ww 12)))) so sc pl qo pn bm tg px fa hb) (up_rowT (by decide)) ?_
  refine aw_iload_n dX10_read_74 rfl ?_
  exact aw_iret dX10_read_75 rfl (by decide) (by decide) (by decide) (by decide) ⟨_, _, hE.symm, rfl, rfl, rfl⟩
def F_X10_read_26   (m0 : Mnt) (sh : (Nat → Nat)) (rr : (Nat → Ras)) (ww : (Nat → Row)) (so : Nat) (sc : Src) (qo : Qoi) (pn : Pnm) (bm : Bmp) (tg : Tga) (px : Pcx) (fa : A) : Out (Mnt × (Nat → Nat) × (Nat → Ras) × (Nat → Row) × Nat × Src × Qoi × Pnm × Bmp × Tga × Pcx × A) Int32 := fex "java/util/NoSuchElementException" (m0, sh, rr, ww, so, sc, qo, pn, bm, tg, px, fa)
set_option maxHeartbeats 1000000 in
set_option maxRecDepth 100000 in
theorem b_X10_read_26 (pl : Pal) (hb : aH) (n : Nat)   : Q_X10_read_26 pl hb n (F_X10_read_26 ) := by
  intro m0 sh rr ww so sc qo pn bm tg px fa res hE hF
  unfold F_X10_read_26 at hE
  exact aw_throwN dX10_read_26 dX10_read_29 dX10_read_30 dX10_read_32 dX10_read_35 tn107 rfl (by decide) (Nat.le_of_ble_eq_true rfl) (by decide) (by decide) ⟨_, hE.symm, rfl, rfl⟩
def F_X10_read (a1 : Int32) (a2 : Int32) (m0 : Mnt) (sh : (Nat → Nat)) (rr : (Nat → Ras)) (ww : (Nat → Row)) (so : Nat) (sc : Src) (qo : Qoi) (pn : Pnm) (bm : Bmp) (tg : Tga) (px : Pcx) (fa : A) : Out (Mnt × (Nat → Nat) × (Nat → Ras) × (Nat → Row) × Nat × Src × Qoi × Pnm × Bmp × Tga × Pcx × A) Int32 := if (F_X10_isShelf a2) = 0 then (fex "java/lang/IllegalArgumentException" (m0, sh, rr, ww, so, sc, qo, pn, bm, tg, px, fa)) else (if a1 < 0 then (F_X10_read_26  m0 sh rr ww so sc qo pn bm tg px fa) else (if a1 < 5 then (fon (F_X10_takeIn a1 a2 12 m0 sh rr ww so sc qo pn bm tg px fa) (fun z43 s43 => if z43 = 0 then (F_X10_read_63  z43 (-1 : Int32) s43.1 s43.2.1 s43.2.2.1 ww s43.2.2.2.1 s43.2.2.2.2.1 s43.2.2.2.2.2.1 s43.2.2.2.2.2.2.1 s43.2.2.2.2.2.2.2.1 s43.2.2.2.2.2.2.2.2.1 s43.2.2.2.2.2.2.2.2.2.1 s43.2.2.2.2.2.2.2.2.2.2) else (F_X10_read_63  z43 (sc_fp s43.2.2.2.2.1) s43.1 s43.2.1 s43.2.2.1 ww s43.2.2.2.1 s43.2.2.2.2.1 s43.2.2.2.2.2.1 s43.2.2.2.2.2.2.1 s43.2.2.2.2.2.2.2.1 s43.2.2.2.2.2.2.2.2.1 s43.2.2.2.2.2.2.2.2.2.1 s43.2.2.2.2.2.2.2.2.2.2)) (fun _ _ => fno)) else (F_X10_read_26  m0 sh rr ww so sc qo pn bm tg px fa)))
set_option maxHeartbeats 1000000 in
set_option maxRecDepth 100000 in
theorem kF_X10_read (m0 : Mnt) (sh : Nat → Nat) (rr : Nat → Ras) (ww : Nat → Row) (so : Nat) (sc : Src) (pl : Pal) (qo : Qoi) (pn : Pnm) (bm : Bmp) (tg : Tga) (px : Pcx) (fa : A) (hb : aH) (n : Nat)  (a1 : Int32) (a2 : Int32) (hF : F_X10_read a1 a2 m0 sh rr ww so sc qo pn bm tg px fa ≠ fno) : AM mX10_read 9 [.ref 0, .int a1, .int a2] (HC m0 sh rr ww so sc pl qo pn bm tg px fa hb) n 1 6 1 6 (P_X10_read pl hb n (F_X10_read a1 a2 m0 sh rr ww so sc qo pn bm tg px fa)) (X_X10_read pl hb n (F_X10_read a1 a2 m0 sh rr ww so sc qo pn bm tg px fa)) := by
  generalize hE : F_X10_read a1 a2 m0 sh rr ww so sc qo pn bm tg px fa = res at hF ⊢
  refine aw_of (by decide +kernel) rfl (Nat.le_of_ble_eq_true rfl) ?_
  unfold F_X10_read at hE
  refine aw_iload_n dX10_read_0 rfl ?_
  refine aw_callS dX10_read_1  csX10_94 rfl (kF_X10_isShelf _ _ a2) rfl (Nat.le_of_ble_eq_true rfl) (by decide) (by decide) (by decide) (by decide) (fun _ _ _ hf => False.elim hf) (fun r1 h1 n1 hp1 => ?_)
  obtain ⟨rfl, rfl, rfl⟩ := hp1
  refine aw_if_ne (tgt := 17) dX10_read_4 (by decide) (fun c4 => ?_) (fun c4 => ?_)
  · replace hE := fif hE c4
    refine aw_iload_n dX10_read_17 rfl ?_
    refine aw_if_lt (tgt := 26) dX10_read_18 (by decide) (fun c18 => ?_) (fun c18 => ?_)
    · replace hE := fit hE c18
      exact aw_lv _ (fun _ h => absurd h List.not_mem_nil) (b_X10_read_26 pl hb n   m0 sh rr ww so sc qo pn bm tg px fa _ hE hF)
    · replace hE := fif hE c18
      refine aw_iload_n dX10_read_21 rfl ?_
      refine aw_iconst (v := 5) dX10_read_22 (by decide) ?_
      refine aw_icmp_lt (tgt := 36) dX10_read_23 (by decide) (fun c23 => ?_) (fun c23 => ?_)
      · replace hE := fit hE c23
        refine aw_aload_n dX10_read_36 rfl ?_
        refine aw_aload_n dX10_read_37 rfl ?_
        refine aw_getf (v := .ref 12) dX10_read_38 flX10_23_9 at_mint rfl ?_
        refine aw_iload_n dX10_read_41 rfl ?_
        refine aw_iload_n dX10_read_42 rfl ?_
        refine aw_callVX dX10_read_43 at_mint cxX10_110 rfl (kF_X10_takeIn m0 sh rr ww so sc pl qo pn bm tg px fa hb 12 _ (by decide) a1 a2 (fon_ne hE hF)) rfl (Nat.le_of_ble_eq_true rfl) (by decide) (by decide) (by decide) (by decide) (fun _ _ _ hf => False.elim hf) (fun r43 h43 n43 hp43 => ?_)
        obtain ⟨z43, s43, e43, rfl, rfl, rfl⟩ := hp43
        replace hE := fon_ok e43 hE
        refine aw_wide (k2 := 1) (j2 := 6) (gT_k _) (gT_j _) ?_
        refine aw_istore_n (lv2 := [(3, _), (0, _), (1, _), (2, _)]) dX10_read_46 (by decide) rfl ?_
        refine aw_aload_n dX10_read_47 rfl ?_
        refine aw_iload_n dX10_read_48 rfl ?_
        refine aw_if_ne (tgt := 56) dX10_read_49 (by decide) (fun c49 => ?_) (fun c49 => ?_)
        · replace hE := fif hE c49
          refine aw_aload_n dX10_read_56 rfl ?_
          refine aw_getf (v := .ref 16) dX10_read_57 flX10_35_9 at_mint rfl ?_
          refine aw_getf (v := .int (sc_fp s43.2.2.2.2.1)) dX10_read_60 flX10_114_7 at_src rfl ?_
          exact aw_lv _ (List.forall_mem_cons.mpr ⟨rfl, (List.forall_mem_cons.mpr ⟨rfl, fun _ h => absurd h List.not_mem_nil⟩)⟩) (b_X10_read_63 pl hb n   z43 (sc_fp s43.2.2.2.2.1) s43.1 s43.2.1 s43.2.2.1 ww s43.2.2.2.1 s43.2.2.2.2.1 s43.2.2.2.2.2.1 s43.2.2.2.2.2.2.1 s43.2.2.2.2.2.2.2.1 s43.2.2.2.2.2.2.2.2.1 s43.2.2.2.2.2.2.2.2.2.1 s43.2.2.2.2.2.2.2.2.2.2 _ hE hF)
        · replace hE := fit hE c49
          refine aw_iconst (v := (-1)) dX10_read_52 (by decide) ?_
          refine aw_goto (tgt := 63) dX10_read_53 (by decide) ?_
          exact aw_lv _ (List.forall_mem_cons.mpr ⟨rfl, (List.forall_mem_cons.mpr ⟨rfl, fun _ h => absurd h List.not_mem_nil⟩)⟩) (b_X10_read_63 pl hb n   z43 (-1 : Int32) s43.1 s43.2.1 s43.2.2.1 ww s43.2.2.2.1 s43.2.2.2.2.1 s43.2.2.2.2.2.1 s43.2.2.2.2.2.2.1 s43.2.2.2.2.2.2.2.1 s43.2.2.2.2.2.2.2.2.1 s43.2.2.2.2.2.2.2.2.2.1 s43.2.2.2.2.2.2.2.2.2.2 _ hE hF)
      · replace hE := fif hE c23
        exact aw_lv _ (fun _ h => absurd h List.not_mem_nil) (b_X10_read_26 pl hb n   m0 sh rr ww so sc qo pn bm tg px fa _ hE hF)
  · replace hE := fit hE c4
    exact aw_throw dX10_read_7 dX10_read_10 dX10_read_11 dX10_read_13 dX10_read_16 thX10_98_100_102 rfl (by decide) (Nat.le_of_ble_eq_true rfl) (by decide) (by decide) ⟨_, hE.symm, rfl, rfl⟩
def P_X10_chain (hb : aH) (n : Nat) (res : Out (Mnt × (Nat → Nat) × (Nat → Ras) × (Nat → Row) × Nat × Src × Pal × Qoi × Pnm × Bmp × Tga × Pcx × A) Int32) : Option Value → aH → Nat → Prop := fun r1 h2 n2 => ∃ (a : Int32) (s : (Mnt × (Nat → Nat) × (Nat → Ras) × (Nat → Row) × Nat × Src × Pal × Qoi × Pnm × Bmp × Tga × Pcx × A)), res = fok a s ∧ r1 = some (.int a) ∧ h2 = HC s.1 s.2.1 s.2.2.1 s.2.2.2.1 s.2.2.2.2.1 s.2.2.2.2.2.1 s.2.2.2.2.2.2.1 s.2.2.2.2.2.2.2.1 s.2.2.2.2.2.2.2.2.1 s.2.2.2.2.2.2.2.2.2.1 s.2.2.2.2.2.2.2.2.2.2.1 s.2.2.2.2.2.2.2.2.2.2.2.1 s.2.2.2.2.2.2.2.2.2.2.2.2 hb ∧ n = n2
abbrev Q_X10_chain_18 (hb : aH) (n : Nat) (k : Mnt → (Nat → Nat) → (Nat → Ras) → (Nat → Row) → Nat → Src → Pal → Qoi → Pnm → Bmp → Tga → Pcx → A → Out (Mnt × (Nat → Nat) × (Nat → Ras) × (Nat → Row) × Nat × Src × Pal × Qoi × Pnm × Bmp × Tga × Pcx × A) Int32) : Prop := ∀ (m0 : Mnt) (sh : (Nat → Nat)) (rr : (Nat → Ras)) (ww : (Nat → Row)) (so : Nat) (sc : Src) (pl : Pal) (qo : Qoi) (pn : Pnm) (bm : Bmp) (tg : Tga) (px : Pcx) (fa : A) (res : Out (Mnt × (Nat → Nat) × (Nat → Ras) × (Nat → Row) × Nat × Src × Pal × Qoi × Pnm × Bmp × Tga × Pcx × A) Int32), k m0 sh rr ww so sc pl qo pn bm tg px fa = res → res ≠ fno → AW (fun _ _ => True) mX10_chain (rmD 9 1 6) 1 6 (P_X10_chain hb n res) (fun _ _ _ => False) 0 0 18 [] [] (HC m0 sh rr ww so sc pl qo pn bm tg px fa hb) n
abbrev Q_X10_chain_23 (hb : aH) (n : Nat) (k : Int32 → Int32 → Int32 → Int32 → Mnt → (Nat → Nat) → (Nat → Ras) → (Nat → Row) → Nat → Src → Pal → Qoi → Pnm → Bmp → Tga → Pcx → A → Out (Mnt × (Nat → Nat) × (Nat → Ras) × (Nat → Row) × Nat × Src × Pal × Qoi × Pnm × Bmp × Tga × Pcx × A) Int32) : Prop := ∀ (v1 : Int32) (v2 : Int32) (v3 : Int32) (v4 : Int32) (m0 : Mnt) (sh : (Nat → Nat)) (rr : (Nat → Ras)) (ww : (Nat → Row)) (so : Nat) (sc : Src) (pl : Pal) (qo : Qoi) (pn : Pnm) (bm : Bmp) (tg : Tga) (px : Pcx) (fa : A) (res : Out (Mnt × (Nat → Nat) × (Nat → Ras) × (Nat → Row) × Nat × Src × Pal × Qoi × Pnm × Bmp × Tga × Pcx × A) Int32), k v1 v2 v3 v4 m0 sh rr ww so sc pl qo pn bm tg px fa = res → res ≠ fno → AW (fun _ _ => True) mX10_chain (rmD 9 1 6) 1 6 (P_X10_chain hb n res) (fun _ _ _ => False) 0 0 23 [(0, .ref 0), (1, .int v1), (2, .int v2), (3, .int v3), (4, .int v4)] [] (HC m0 sh rr ww so sc pl qo pn bm tg px fa hb) n
abbrev Q_X10_chain_72 (hb : aH) (n : Nat) (k : Int32 → Mnt → (Nat → Nat) → (Nat → Ras) → (Nat → Row) → Nat → Src → Pal → Qoi → Pnm → Bmp → Tga → Pcx → A → Out (Mnt × (Nat → Nat) × (Nat → Ras) × (Nat → Row) × Nat × Src × Pal × Qoi × Pnm × Bmp × Tga × Pcx × A) Int32) : Prop := ∀ (v4 : Int32) (m0 : Mnt) (sh : (Nat → Nat)) (rr : (Nat → Ras)) (ww : (Nat → Row)) (so : Nat) (sc : Src) (pl : Pal) (qo : Qoi) (pn : Pnm) (bm : Bmp) (tg : Tga) (px : Pcx) (fa : A) (res : Out (Mnt × (Nat → Nat) × (Nat → Ras) × (Nat → Row) × Nat × Src × Pal × Qoi × Pnm × Bmp × Tga × Pcx × A) Int32), k v4 m0 sh rr ww so sc pl qo pn bm tg px fa = res → res ≠ fno → AW (fun _ _ => True) mX10_chain (rmD 9 1 6) 1 6 (P_X10_chain hb n res) (fun _ _ _ => False) 1 6 72 [(4, .int v4)] [] (HC m0 sh rr ww so sc pl qo pn bm tg px fa hb) n
def F_X10_chain_72   (v4 : Int32) (m0 : Mnt) (sh : (Nat → Nat)) (rr : (Nat → Ras)) (ww : (Nat → Row)) (so : Nat) (sc : Src) (pl : Pal) (qo : Qoi) (pn : Pnm) (bm : Bmp) (tg : Tga) (px : Pcx) (fa : A) : Out (Mnt × (Nat → Nat) × (Nat → Ras) × (Nat → Row) × Nat × Src × Pal × Qoi × Pnm × Bmp × Tga × Pcx × A) Int32 := fok (v4 : Int32) (m0, sh, rr, ww, so, sc, pl, qo, pn, bm, tg, px, fa)
set_option maxHeartbeats 1000000 in
set_option maxRecDepth 100000 in
theorem b_X10_chain_72 (hb : aH) (n : Nat)   : Q_X10_chain_72 hb n (F_X10_chain_72 ) := by
  intro v4 m0 sh rr ww so sc pl qo pn bm tg px fa res hE hF
  unfold F_X10_chain_72 at hE
  refine aw_iload dX10_chain_72 rfl ?_
  exact aw_iret dX10_chain_74 rfl (by decide) (by decide) (by decide) (by decide) ⟨_, _, hE.symm, rfl, rfl, rfl⟩
def F_X10_chain_23  (k23 : Int32 → Int32 → Int32 → Int32 → Mnt → (Nat → Nat) → (Nat → Ras) → (Nat → Row) → Nat → Src → Pal → Qoi → Pnm → Bmp → Tga → Pcx → A → Out (Mnt × (Nat → Nat) × (Nat → Ras) × (Nat → Row) × Nat × Src × Pal × Qoi × Pnm × Bmp × Tga × Pcx × A) Int32) (v1 : Int32) (v2 : Int32) (v3 : Int32) (v4 : Int32) (m0 : Mnt) (sh : (Nat → Nat)) (rr : (Nat → Ras)) (ww : (Nat → Row)) (so : Nat) (sc : Src) (pl : Pal) (qo : Qoi) (pn : Pnm) (bm : Bmp) (tg : Tga) (px : Pcx) (fa : A) : Out (Mnt × (Nat → Nat) × (Nat → Ras) × (Nat → Row) × Nat × Src × Pal × Qoi × Pnm × Bmp × Tga × Pcx × A) Int32 := if v3 ≤ v4 then (fok (v3 : Int32) (m0, sh, rr, ww, so, sc, pl, qo, pn, bm, tg, px, fa)) else (if inb v1 4 then (if isR (sh (Int32.toNatClampNeg v1)) then (fon (F_X10_putOut ((v2 >>> ((5 * v4) &&& 31)) &&& 31) (sh (Int32.toNatClampNeg v1)) rr ww pl qo) (fun z49 s49 => if z49 = 0 then (F_X10_chain_72  v4 m0 sh rr s49.1 so sc s49.2.1 s49.2.2 pn bm tg px fa) else (fon (F_X10_takeIn (F_X10_familyOf ((v2 >>> ((5 * v4) &&& 31)) &&& 31)) v1 14 m0 sh rr s49.1 so sc s49.2.2 pn bm tg px fa) (fun z66 s66 => if z66 = 0 then (k23 v1 v2 v3 (v4 + 1) s66.1 s66.2.1 s66.2.2.1 s49.1 s66.2.2.2.1 s66.2.2.2.2.1 s49.2.1 s66.2.2.2.2.2.1 s66.2.2.2.2.2.2.1 s66.2.2.2.2.2.2.2.1 s66.2.2.2.2.2.2.2.2.1 s66.2.2.2.2.2.2.2.2.2.1 s66.2.2.2.2.2.2.2.2.2.2) else (F_X10_chain_72  v4 s66.1 s66.2.1 s66.2.2.1 s49.1 s66.2.2.2.1 s66.2.2.2.2.1 s49.2.1 s66.2.2.2.2.2.1 s66.2.2.2.2.2.2.1 s66.2.2.2.2.2.2.2.1 s66.2.2.2.2.2.2.2.2.1 s66.2.2.2.2.2.2.2.2.2.1 s66.2.2.2.2.2.2.2.2.2.2)) (fun _ _ => fno))) (fun _ _ => fno)) else fno) else fno)
set_option maxHeartbeats 1000000 in
set_option maxRecDepth 100000 in
theorem b_X10_chain_23 (hb : aH) (n : Nat)  (k23 : Int32 → Int32 → Int32 → Int32 → Mnt → (Nat → Nat) → (Nat → Ras) → (Nat → Row) → Nat → Src → Pal → Qoi → Pnm → Bmp → Tga → Pcx → A → Out (Mnt × (Nat → Nat) × (Nat → Ras) × (Nat → Row) × Nat × Src × Pal × Qoi × Pnm × Bmp × Tga × Pcx × A) Int32) (hk23 : Q_X10_chain_23 hb n k23) : Q_X10_chain_23 hb n (F_X10_chain_23 k23) := by
  intro v1 v2 v3 v4 m0 sh rr ww so sc pl qo pn bm tg px fa res hE hF
  unfold F_X10_chain_23 at hE
  refine aw_iload dX10_chain_23 rfl ?_
  refine aw_iload_n dX10_chain_25 rfl ?_
  refine aw_icmp_ge (tgt := 81) dX10_chain_26 (by decide) (fun c26 => ?_) (fun c26 => ?_)
  · replace hE := fit hE c26
    refine aw_iload_n dX10_chain_81 rfl ?_
    exact aw_iret dX10_chain_82 rfl (Nat.zero_le _) (Nat.zero_le _) (Nat.zero_le _) (Nat.zero_le _) ⟨_, _, hE.symm, rfl, rfl, rfl⟩
  · replace hE := fif hE c26
    refine aw_iload_n dX10_chain_29 rfl ?_
    refine aw_iconst (v := 5) dX10_chain_30 (by decide) ?_
    refine aw_iload dX10_chain_31 rfl ?_
    refine aw_imul dX10_chain_33 ?_
    refine aw_ishr dX10_chain_34 ?_
    refine aw_bipush (v := 31) dX10_chain_35 (by decide) ?_
    refine aw_iand dX10_chain_37 ?_
    refine aw_istore (lv2 := [(5, _), (0, _), (1, _), (2, _), (3, _), (4, _)]) dX10_chain_38 (by decide) rfl ?_
    refine aw_aload_n dX10_chain_40 rfl ?_
    refine aw_aload_n dX10_chain_41 rfl ?_
    refine aw_getf (v := .ref 1) dX10_chain_42 flX10_11_9 at_mint rfl ?_
    refine aw_iload_n dX10_chain_45 rfl ?_
    obtain ⟨g46, hE⟩ := fgd hE hF
    obtain ⟨G46, hE⟩ := fgd hE hF
    refine aw_aald (y := (sh (Int32.toNatClampNeg v1))) dX10_chain_46 at_shelves (vp_in_iff.mpr g46) (if_pos (inbN g46)) ?_
    refine aw_iload dX10_chain_47 rfl ?_
    refine aw_callV dX10_chain_49 at_mint cvX10_122 rfl (kF_X10_putOut m0 sh rr ww so sc pl qo pn bm tg px fa hb (sh (Int32.toNatClampNeg v1)) _ G46 ((v2 >>> ((5 * v4) &&& 31)) &&& 31) (fon_ne hE hF)) rfl (Nat.le_of_ble_eq_true rfl) (by decide) (by decide) (by decide) (by decide) (fun _ _ _ hf => False.elim hf) (fun r49 h49 n49 hp49 => ?_)
    obtain ⟨z49, s49, e49, rfl, rfl, rfl⟩ := hp49
    replace hE := fon_ok e49 hE
    refine aw_if_eq (tgt := 72) dX10_chain_52 (by decide) (fun c52 => ?_) (fun c52 => ?_)
    · replace hE := fit hE c52
      refine aw_wide (k2 := 1) (j2 := 6) (by decide) (by decide) ?_
      exact aw_lv _ (List.forall_mem_cons.mpr ⟨rfl, fun _ h => absurd h List.not_mem_nil⟩) (b_X10_chain_72 hb n   v4 m0 sh rr s49.1 so sc s49.2.1 s49.2.2 pn bm tg px fa _ hE hF)
    · replace hE := fif hE c52
      refine aw_aload_n dX10_chain_55 rfl ?_
      refine aw_aload_n dX10_chain_56 rfl ?_
      refine aw_getf (v := .ref 14) dX10_chain_57 flX10_27_9 at_mint rfl ?_
      refine aw_iload dX10_chain_60 rfl ?_
      refine aw_callS dX10_chain_62  csX10_118 rfl (kF_X10_familyOf _ _ ((v2 >>> ((5 * v4) &&& 31)) &&& 31)) rfl (Nat.le_of_ble_eq_true rfl) (by decide) (by decide) (by decide) (by decide) (fun _ _ _ hf => False.elim hf) (fun r62 h62 n62 hp62 => ?_)
      obtain ⟨rfl, rfl, rfl⟩ := hp62
      refine aw_iload_n dX10_chain_65 rfl ?_
      refine aw_callVX dX10_chain_66 at_mint cxX10_110 rfl (kF_X10_takeIn m0 sh rr s49.1 so sc s49.2.1 s49.2.2 pn bm tg px fa hb 14 _ (by decide) (F_X10_familyOf ((v2 >>> ((5 * v4) &&& 31)) &&& 31)) v1 (fon_ne hE hF)) rfl (Nat.le_of_ble_eq_true rfl) (by decide) (by decide) (by decide) (by decide) (fun _ _ _ hf => False.elim hf) (fun r66 h66 n66 hp66 => ?_)
      obtain ⟨z66, s66, e66, rfl, rfl, rfl⟩ := hp66
      replace hE := fon_ok e66 hE
      by_cases b66 : z66 = 0
      · replace hE := fit hE b66
        rw [e66, show gT (fok z66 s66) = 0 by rw [b66]; exact gT_0]
        refine aw_if_eq (tgt := 75) dX10_chain_69 (by decide) (fun c69 => ?_) (fun c69 => ?_)
        · refine aw_iinc (v := (v4 + 1)) (lv2 := [(4, _), (5, _), (0, _), (1, _), (2, _), (3, _)]) dX10_chain_75 rfl (incE (by decide)) (by decide) rfl ?_
          refine aw_goto (tgt := 23) dX10_chain_78 (by decide) ?_
          exact aw_lv _ (List.forall_mem_cons.mpr ⟨rfl, (List.forall_mem_cons.mpr ⟨rfl, (List.forall_mem_cons.mpr ⟨rfl, (List.forall_mem_cons.mpr ⟨rfl, (List.forall_mem_cons.mpr ⟨rfl, fun _ h => absurd h List.not_mem_nil⟩)⟩)⟩)⟩)⟩) (hk23 v1 v2 v3 (v4 + 1) s66.1 s66.2.1 s66.2.2.1 s49.1 s66.2.2.2.1 s66.2.2.2.2.1 s49.2.1 s66.2.2.2.2.2.1 s66.2.2.2.2.2.2.1 s66.2.2.2.2.2.2.2.1 s66.2.2.2.2.2.2.2.2.1 s66.2.2.2.2.2.2.2.2.2.1 s66.2.2.2.2.2.2.2.2.2.2 _ hE hF)
        · exact absurd b66 c69
      · replace hE := fif hE b66
        rw [e66, gT_1 b66]
        refine aw_if_eq (tgt := 75) dX10_chain_69 (by decide) (fun c69 => ?_) (fun c69 => ?_)
        · exact absurd c69 b66
        · exact aw_lv _ (List.forall_mem_cons.mpr ⟨rfl, fun _ h => absurd h List.not_mem_nil⟩) (b_X10_chain_72 hb n   v4 s66.1 s66.2.1 s66.2.2.1 s49.1 s66.2.2.2.1 s66.2.2.2.2.1 s49.2.1 s66.2.2.2.2.2.1 s66.2.2.2.2.2.2.1 s66.2.2.2.2.2.2.2.1 s66.2.2.2.2.2.2.2.2.1 s66.2.2.2.2.2.2.2.2.2.1 s66.2.2.2.2.2.2.2.2.2.2 _ hE hF)
def F_X10_chain_18   (m0 : Mnt) (sh : (Nat → Nat)) (rr : (Nat → Ras)) (ww : (Nat → Row)) (so : Nat) (sc : Src) (pl : Pal) (qo : Qoi) (pn : Pnm) (bm : Bmp) (tg : Tga) (px : Pcx) (fa : A) : Out (Mnt × (Nat → Nat) × (Nat → Ras) × (Nat → Row) × Nat × Src × Pal × Qoi × Pnm × Bmp × Tga × Pcx × A) Int32 := fok ((-1) : Int32) (m0, sh, rr, ww, so, sc, pl, qo, pn, bm, tg, px, fa)
set_option maxHeartbeats 1000000 in
set_option maxRecDepth 100000 in
theorem b_X10_chain_18 (hb : aH) (n : Nat)   : Q_X10_chain_18 hb n (F_X10_chain_18 ) := by
  intro m0 sh rr ww so sc pl qo pn bm tg px fa res hE hF
  unfold F_X10_chain_18 at hE
  refine aw_iconst (v := (-1)) dX10_chain_18 (by decide) ?_
  exact aw_iret dX10_chain_19 rfl (Nat.zero_le _) (Nat.zero_le _) (Nat.zero_le _) (Nat.zero_le _) ⟨_, _, hE.symm, rfl, rfl, rfl⟩
def F_X10_chain (a1 : Int32) (a2 : Int32) (a3 : Int32) (m0 : Mnt) (sh : (Nat → Nat)) (rr : (Nat → Ras)) (ww : (Nat → Row)) (so : Nat) (sc : Src) (pl : Pal) (qo : Qoi) (pn : Pnm) (bm : Bmp) (tg : Tga) (px : Pcx) (fa : A) : Out (Mnt × (Nat → Nat) × (Nat → Ras) × (Nat → Row) × Nat × Src × Pal × Qoi × Pnm × Bmp × Tga × Pcx × A) Int32 := fon (F_X10_hasRaster a1 sh rr) (fun z2 s2 => if z2 = 0 then (F_X10_chain_18  m0 sh rr ww so sc pl qo pn bm tg px fa) else (if a3 < 0 then (F_X10_chain_18  m0 sh rr ww so sc pl qo pn bm tg px fa) else (if a3 ≤ 6 then (lp (fun _ _ _ _ _ _ _ _ _ _ _ _ _ _ _ _ _ => fno) (F_X10_chain_23 ) FU a1 a2 a3 (0 : Int32) m0 sh rr ww so sc pl qo pn bm tg px fa) else (F_X10_chain_18  m0 sh rr ww so sc pl qo pn bm tg px fa)))) (fun _ _ => fno)
set_option maxHeartbeats 1000000 in
set_option maxRecDepth 100000 in
theorem kF_X10_chain (m0 : Mnt) (sh : Nat → Nat) (rr : Nat → Ras) (ww : Nat → Row) (so : Nat) (sc : Src) (pl : Pal) (qo : Qoi) (pn : Pnm) (bm : Bmp) (tg : Tga) (px : Pcx) (fa : A) (hb : aH) (n : Nat)  (a1 : Int32) (a2 : Int32) (a3 : Int32) (hF : F_X10_chain a1 a2 a3 m0 sh rr ww so sc pl qo pn bm tg px fa ≠ fno) : AM mX10_chain 9 [.ref 0, .int a1, .int a2, .int a3] (HC m0 sh rr ww so sc pl qo pn bm tg px fa hb) n 1 6 1 6 (P_X10_chain hb n (F_X10_chain a1 a2 a3 m0 sh rr ww so sc pl qo pn bm tg px fa)) (fun _ _ _ => False) := by
  generalize hE : F_X10_chain a1 a2 a3 m0 sh rr ww so sc pl qo pn bm tg px fa = res at hF ⊢
  refine aw_of (by decide +kernel) rfl (Nat.le_of_ble_eq_true rfl) ?_
  unfold F_X10_chain at hE
  refine aw_aload_n dX10_chain_0 rfl ?_
  refine aw_iload_n dX10_chain_1 rfl ?_
  refine aw_callV dX10_chain_2 at_mint cvX10_115 rfl (kF_X10_hasRaster m0 sh rr ww so sc pl qo pn bm tg px fa hb _  a1 (fon_ne hE hF)) rfl (Nat.le_of_ble_eq_true rfl) (by decide) (by decide) (by decide) (by decide) (fun _ _ _ hf => False.elim hf) (fun r2 h2 n2 hp2 => ?_)
  obtain ⟨z2, s2, e2, rfl, rfl, rfl⟩ := hp2
  replace hE := fon_ok e2 hE
  refine aw_if_eq (tgt := 18) dX10_chain_5 (by decide) (fun c5 => ?_) (fun c5 => ?_)
  · replace hE := fit hE c5
    exact aw_lv _ (fun _ h => absurd h List.not_mem_nil) (b_X10_chain_18 hb n   m0 sh rr ww so sc pl qo pn bm tg px fa _ hE hF)
  · replace hE := fif hE c5
    refine aw_iload_n dX10_chain_8 rfl ?_
    refine aw_if_lt (tgt := 18) dX10_chain_9 (by decide) (fun c9 => ?_) (fun c9 => ?_)
    · replace hE := fit hE c9
      exact aw_lv _ (fun _ h => absurd h List.not_mem_nil) (b_X10_chain_18 hb n   m0 sh rr ww so sc pl qo pn bm tg px fa _ hE hF)
    · replace hE := fif hE c9
      refine aw_iload_n dX10_chain_12 rfl ?_
      refine aw_bipush (v := 6) dX10_chain_13 (by decide) ?_
      refine aw_icmp_le (tgt := 20) dX10_chain_15 (by decide) (fun c15 => ?_) (fun c15 => ?_)
      · replace hE := fit hE c15
        refine aw_iconst (v := 0) dX10_chain_20 (by decide) ?_
        refine aw_istore (lv2 := [(4, _), (0, _), (1, _), (2, _), (3, _)]) dX10_chain_21 (by decide) rfl ?_
        exact aw_lv _ (List.forall_mem_cons.mpr ⟨rfl, (List.forall_mem_cons.mpr ⟨rfl, (List.forall_mem_cons.mpr ⟨rfl, (List.forall_mem_cons.mpr ⟨rfl, (List.forall_mem_cons.mpr ⟨rfl, fun _ h => absurd h List.not_mem_nil⟩)⟩)⟩)⟩)⟩) (lp_ind (Q_X10_chain_23 hb n) (fun _ _ _ _ _ _ _ _ _ _ _ _ _ _ _ _ _ res hq hF => (hF hq.symm).elim) (fun k hk => b_X10_chain_23 hb n   k hk) FU a1 a2 a3 (0 : Int32) m0 sh rr ww so sc pl qo pn bm tg px fa _ hE hF)
      · replace hE := fif hE c15
        exact aw_lv _ (fun _ h => absurd h List.not_mem_nil) (b_X10_chain_18 hb n   m0 sh rr ww so sc pl qo pn bm tg px fa _ hE hF)
def P_X11_readFile (mo : MO) (mw : MW) (mt : A) (mu : A) (dd : A) (wi : A) (hi : A) (sr : A) (co : A) (hb : aH) (q : Nat) (n : Nat) (res : Out (MR × Nat × A × A × A × A) Int32) : Option Value → aH → Nat → Prop := fun r1 h2 n2 => ∃ (a : Int32) (s : (MR × Nat × A × A × A × A)), res = fok a s ∧ r1 = some (.int a) ∧ h2 = HM mo mw s.1 s.2.1 mt mu dd wi hi s.2.2.1 s.2.2.2.1 s.2.2.2.2.1 s.2.2.2.2.2 sr co hb ∧ n = n2
def F_X11_readFile (a1 : Int32) (a3 : Int32) (q : Nat) (mr : MR) (ms : Nat) (mt : A) (mu : A) (gt : A) (sp : A) (ta : A) (li : A) : Out (MR × Nat × A × A × A × A) Int32 := if a1 = 0 then (if isMS q then (fon (F_X11_readChunks (srcB q mt mu) (a3, 0, 0, (-1), (mr_gw mr), (mr_gh mr), (mr_one mr), (mr_two mr), (mr_three mr)) gt sp) (fun z30 s30 => if isB z30 then (fok (z30 : Int32) (s30.1, q, s30.2.1, s30.2.2, ta, li)) else fno) (fun _ _ => fno)) else fno) else (if a1 = 1 then (if isMS q then (fon (F_X11_readMaps (srcB q mt mu) (a3, 0, 0, (-1), (mr_gw mr), (mr_gh mr), (mr_one mr), (mr_two mr), (mr_three mr)) gt) (fun z42 s42 => if isB z42 then (fok (z42 : Int32) (s42.1, q, s42.2, sp, ta, li)) else fno) (fun _ _ => fno)) else fno) else (if a1 = 2 then (if isMS q then (fon (F_X11_readRows (srcB q mt mu) (a3, 0, 0, (-1), (mr_gw mr), (mr_gh mr), (mr_one mr), (mr_two mr), (mr_three mr)) gt ta) (fun z54 s54 => if isB z54 then (fok (z54 : Int32) (s54.1, q, s54.2.1, sp, s54.2.2, li)) else fno) (fun _ _ => fno)) else fno) else (if a1 = 3 then (if isMS q then (fon (F_X11_readTarga (srcB q mt mu) (a3, 0, 0, (-1), (mr_gw mr), (mr_gh mr), (mr_one mr), (mr_two mr), (mr_three mr)) gt ta) (fun z66 s66 => if isB z66 then (fok (z66 : Int32) (s66.1, q, s66.2.1, sp, s66.2.2, li)) else fno) (fun _ _ => fno)) else fno) else (if isMS q then (fon (F_X11_readPlanes (srcB q mt mu) (a3, 0, 0, (-1), (mr_gw mr), (mr_gh mr), (mr_one mr), (mr_two mr), (mr_three mr)) gt ta li) (fun z73 s73 => if isB z73 then (fok (z73 : Int32) (s73.1, q, s73.2.1, sp, s73.2.2.1, s73.2.2.2)) else fno) (fun _ _ => fno)) else fno))))
set_option maxHeartbeats 1000000 in
set_option maxRecDepth 100000 in
theorem kF_X11_readFile (mo : MO) (mw : MW) (mr : MR) (ms : Nat) (mt : A) (mu : A) (dd : A) (wi : A) (hi : A) (gt : A) (sp : A) (ta : A) (li : A) (sr : A) (co : A) (hb : aH) (q : Nat) (n : Nat) (hq : isMS q) (a1 : Int32) (a3 : Int32) (hF : F_X11_readFile a1 a3 q mr ms mt mu gt sp ta li ≠ fno) : AM mX11_readFile 7 [.ref 31, .int a1, .ref q, .int a3] (HM mo mw mr ms mt mu dd wi hi gt sp ta li sr co hb) n 0 0 0 0 (P_X11_readFile mo mw mt mu dd wi hi sr co hb q n (F_X11_readFile a1 a3 q mr ms mt mu gt sp ta li)) (fun _ _ _ => False) := by
  generalize hE : F_X11_readFile a1 a3 q mr ms mt mu gt sp ta li = res at hF ⊢
  refine aw_of (by decide +kernel) rfl (Nat.le_of_ble_eq_true rfl) ?_
  unfold F_X11_readFile at hE
  refine aw_aload_n dX11_readFile_0 rfl ?_
  refine aw_aload_n dX11_readFile_1 rfl ?_
  refine aw_putf dX11_readFile_2 ptX11_94_10 at_mod (Nat.le_of_ble_eq_true rfl) (fun _ => ⟨rfl, rfl⟩) ?_
  refine aw_eqh (h2 := HM mo mw mr q mt mu dd wi hi gt sp ta li sr co hb) (up_modR hq) ?_
  refine aw_aload_n dX11_readFile_5 rfl ?_
  refine aw_iload_n dX11_readFile_6 rfl ?_
  refine aw_putf dX11_readFile_7 ptX11_87_10 at_mod (Nat.le_of_ble_eq_true rfl) ⟨rfl, rfl⟩ ?_
  refine aw_eqh (h2 := HM mo mw (a3, (mr_pos mr), (mr_kind mr), (mr_whr mr), (mr_gw mr), (mr_gh mr), (mr_one mr), (mr_two mr), (mr_three mr)) q mt mu dd wi hi gt sp ta li sr co hb) up_mod ?_
  refine aw_aload_n dX11_readFile_10 rfl ?_
  refine aw_iconst (v := 0) dX11_readFile_11 (by decide) ?_
  refine aw_putf dX11_readFile_12 ptX11_84_10 at_mod (Nat.le_of_ble_eq_true rfl) ⟨rfl, rfl⟩ ?_
  refine aw_eqh (h2 := HM mo mw (a3, 0, (mr_kind mr), (mr_whr mr), (mr_gw mr), (mr_gh mr), (mr_one mr), (mr_two mr), (mr_three mr)) q mt mu dd wi hi gt sp ta li sr co hb) up_mod ?_
  refine aw_aload_n dX11_readFile_15 rfl ?_
  refine aw_iconst (v := 0) dX11_readFile_16 (by decide) ?_
  refine aw_putf dX11_readFile_17 ptX11_78_10 at_mod (Nat.le_of_ble_eq_true rfl) ⟨rfl, rfl⟩ ?_
  refine aw_eqh (h2 := HM mo mw (a3, 0, 0, (mr_whr mr), (mr_gw mr), (mr_gh mr), (mr_one mr), (mr_two mr), (mr_three mr)) q mt mu dd wi hi gt sp ta li sr co hb) up_mod ?_
  refine aw_aload_n dX11_readFile_20 rfl ?_
  refine aw_iconst (v := (-1)) dX11_readFile_21 (by decide) ?_
  refine aw_putf dX11_readFile_22 ptX11_81_10 at_mod (Nat.le_of_ble_eq_true rfl) ⟨rfl, rfl⟩ ?_
  refine aw_eqh (h2 := HM mo mw (a3, 0, 0, (-1), (mr_gw mr), (mr_gh mr), (mr_one mr), (mr_two mr), (mr_three mr)) q mt mu dd wi hi gt sp ta li sr co hb) up_mod ?_
  refine aw_iload_n dX11_readFile_25 rfl ?_
  refine aw_if_ne (tgt := 36) dX11_readFile_26 (by decide) (fun c26 => ?_) (fun c26 => ?_)
  · replace hE := fif hE c26
    refine aw_iload_n dX11_readFile_36 rfl ?_
    refine aw_iconst (v := 1) dX11_readFile_37 (by decide) ?_
    refine aw_icmp_ne (tgt := 48) dX11_readFile_38 (by decide) (fun c38 => ?_) (fun c38 => ?_)
    · replace hE := fif hE c38
      refine aw_iload_n dX11_readFile_48 rfl ?_
      refine aw_iconst (v := 2) dX11_readFile_49 (by decide) ?_
      refine aw_icmp_ne (tgt := 60) dX11_readFile_50 (by decide) (fun c50 => ?_) (fun c50 => ?_)
      · replace hE := fif hE c50
        refine aw_iload_n dX11_readFile_60 rfl ?_
        refine aw_iconst (v := 3) dX11_readFile_61 (by decide) ?_
        refine aw_icmp_ne (tgt := 72) dX11_readFile_62 (by decide) (fun c62 => ?_) (fun c62 => ?_)
        · replace hE := fif hE c62
          refine aw_aload_n dX11_readFile_72 rfl ?_
          obtain ⟨W73, hE⟩ := fgd hE hF
          refine aw_callV dX11_readFile_73 at_mod cvX11_242 rfl (kF_X11_readPlanes mo mw (a3, 0, 0, (-1), (mr_gw mr), (mr_gh mr), (mr_one mr), (mr_two mr), (mr_three mr)) q mt mu dd wi hi gt sp ta li sr co hb _ W73  (fon_ne hE hF)) rfl (Nat.le_of_ble_eq_true rfl) (by decide) (by decide) (by decide) (by decide) (fun _ _ _ hf => False.elim hf) (fun r73 h73 n73 hp73 => ?_)
          obtain ⟨z73, s73, e73, rfl, rfl, rfl⟩ := hp73
          replace hE := fon_ok e73 hE
          obtain ⟨g76, hE⟩ := fgd hE hF
          exact aw_zret dX11_readFile_76 rfl (narB g76) (Nat.zero_le _) (Nat.zero_le _) (Nat.zero_le _) (Nat.zero_le _) ⟨_, _, hE.symm, rfl, rfl, rfl⟩
        · replace hE := fit hE c62
          refine aw_aload_n dX11_readFile_65 rfl ?_
          obtain ⟨W66, hE⟩ := fgd hE hF
          refine aw_callV dX11_readFile_66 at_mod cvX11_239 rfl (kF_X11_readTarga mo mw (a3, 0, 0, (-1), (mr_gw mr), (mr_gh mr), (mr_one mr), (mr_two mr), (mr_three mr)) q mt mu dd wi hi gt sp ta li sr co hb _ W66  (fon_ne hE hF)) rfl (Nat.le_of_ble_eq_true rfl) (by decide) (by decide) (by decide) (by decide) (fun _ _ _ hf => False.elim hf) (fun r66 h66 n66 hp66 => ?_)
          obtain ⟨z66, s66, e66, rfl, rfl, rfl⟩ := hp66
          replace hE := fon_ok e66 hE
          refine aw_goto (tgt := 76) dX11_readFile_69 (by decide) ?_
          obtain ⟨g76, hE⟩ := fgd hE hF
          exact aw_zret dX11_readFile_76 rfl (narB g76) (Nat.zero_le _) (Nat.zero_le _) (Nat.zero_le _) (Nat.zero_le _) ⟨_, _, hE.symm, rfl, rfl, rfl⟩
      · replace hE := fit hE c50
        refine aw_aload_n dX11_readFile_53 rfl ?_
        obtain ⟨W54, hE⟩ := fgd hE hF
        refine aw_callV dX11_readFile_54 at_mod cvX11_236 rfl (kF_X11_readRows mo mw (a3, 0, 0, (-1), (mr_gw mr), (mr_gh mr), (mr_one mr), (mr_two mr), (mr_three mr)) q mt mu dd wi hi gt sp ta li sr co hb _ W54  (fon_ne hE hF)) rfl (Nat.le_of_ble_eq_true rfl) (by decide) (by decide) (by decide) (by decide) (fun _ _ _ hf => False.elim hf) (fun r54 h54 n54 hp54 => ?_)
        obtain ⟨z54, s54, e54, rfl, rfl, rfl⟩ := hp54
        replace hE := fon_ok e54 hE
        refine aw_goto (tgt := 76) dX11_readFile_57 (by decide) ?_
        obtain ⟨g76, hE⟩ := fgd hE hF
        exact aw_zret dX11_readFile_76 rfl (narB g76) (Nat.zero_le _) (Nat.zero_le _) (Nat.zero_le _) (Nat.zero_le _) ⟨_, _, hE.symm, rfl, rfl, rfl⟩
    · replace hE := fit hE c38
      refine aw_aload_n dX11_readFile_41 rfl ?_
      obtain ⟨W42, hE⟩ := fgd hE hF
      refine aw_callV dX11_readFile_42 at_mod cvX11_233 rfl (kF_X11_readMaps mo mw (a3, 0, 0, (-1), (mr_gw mr), (mr_gh mr), (mr_one mr), (mr_two mr), (mr_three mr)) q mt mu dd wi hi gt sp ta li sr co hb _ W42  (fon_ne hE hF)) rfl (Nat.le_of_ble_eq_true rfl) (by decide) (by decide) (by decide) (by decide) (fun _ _ _ hf => False.elim hf) (fun r42 h42 n42 hp42 => ?_)
      obtain ⟨z42, s42, e42, rfl, rfl, rfl⟩ := hp42
      replace hE := fon_ok e42 hE
      refine aw_goto (tgt := 76) dX11_readFile_45 (by decide) ?_
      obtain ⟨g76, hE⟩ := fgd hE hF
      exact aw_zret dX11_readFile_76 rfl (narB g76) (Nat.zero_le _) (Nat.zero_le _) (Nat.zero_le _) (Nat.zero_le _) ⟨_, _, hE.symm, rfl, rfl, rfl⟩
  · replace hE := fit hE c26
    refine aw_aload_n dX11_readFile_29 rfl ?_
    obtain ⟨W30, hE⟩ := fgd hE hF
    refine aw_callV dX11_readFile_30 at_mod cvX11_230 rfl (kF_X11_readChunks mo mw (a3, 0, 0, (-1), (mr_gw mr), (mr_gh mr), (mr_one mr), (mr_two mr), (mr_three mr)) q mt mu dd wi hi gt sp ta li sr co hb _ W30  (fon_ne hE hF)) rfl (Nat.le_of_ble_eq_true rfl) (by decide) (by decide) (by decide) (by decide) (fun _ _ _ hf => False.elim hf) (fun r30 h30 n30 hp30 => ?_)
    obtain ⟨z30, s30, e30, rfl, rfl, rfl⟩ := hp30
    replace hE := fon_ok e30 hE
    refine aw_goto (tgt := 76) dX11_readFile_33 (by decide) ?_
    obtain ⟨g76, hE⟩ := fgd hE hF
    exact aw_zret dX11_readFile_76 rfl (narB g76) (Nat.zero_le _) (Nat.zero_le _) (Nat.zero_le _) (Nat.zero_le _) ⟨_, _, hE.symm, rfl, rfl, rfl⟩
def P_X11_read (mw : MW) (mt : A) (mu : A) (sr : A) (co : A) (hb : aH) (n : Nat) (res : Out (MO × MR × Nat × A × A × A × A × A × A × A) Int32) : Option Value → aH → Nat → Prop := fun r1 h2 n2 => ∃ (a : Int32) (s : (MO × MR × Nat × A × A × A × A × A × A × A)), res = fok a s ∧ r1 = some (.int a) ∧ h2 = HM s.1 mw s.2.1 s.2.2.1 mt mu s.2.2.2.1 s.2.2.2.2.1 s.2.2.2.2.2.1 s.2.2.2.2.2.2.1 s.2.2.2.2.2.2.2.1 s.2.2.2.2.2.2.2.2.1 s.2.2.2.2.2.2.2.2.2 sr co hb ∧ n = n2
abbrev Q_X11_read_28 (mw : MW) (mt : A) (mu : A) (sr : A) (co : A) (hb : aH) (n : Nat) (k : MO → MR → Nat → A → A → A → A → A → A → A → Out (MO × MR × Nat × A × A × A × A × A × A × A) Int32) : Prop := ∀ (mo : MO) (mr : MR) (ms : Nat) (dd : A) (wi : A) (hi : A) (gt : A) (sp : A) (ta : A) (li : A) (res : Out (MO × MR × Nat × A × A × A × A × A × A × A) Int32), k mo mr ms dd wi hi gt sp ta li = res → res ≠ fno → AW (fun _ _ => True) mX11_read (rmD 8 0 0) 0 0 (P_X11_read mw mt mu sr co hb n res) (fun _ _ _ => False) 0 0 28 [(0, .ref 31)] [] (HM mo mw mr ms mt mu dd wi hi gt sp ta li sr co hb) n
def F_X11_read_28 (mt : A) (mu : A)  (mo : MO) (mr : MR) (ms : Nat) (dd : A) (wi : A) (hi : A) (gt : A) (sp : A) (ta : A) (li : A) : Out (MO × MR × Nat × A × A × A × A × A × A × A) Int32 := fok (0 : Int32) (((mo_taped mo), 2, (mo_tf mo), (mo_t1 mo), (mo_t2 mo), (mo_t3 mo), (mo_fp mo)), mr, ms, dd, wi, hi, gt, sp, ta, li)
set_option maxHeartbeats 1000000 in
set_option maxRecDepth 100000 in
theorem b_X11_read_28 (mw : MW) (mt : A) (mu : A) (sr : A) (co : A) (hb : aH) (n : Nat)   : Q_X11_read_28 mw mt mu sr co hb n (F_X11_read_28 mt mu) := by
  intro mo mr ms dd wi hi gt sp ta li res hE hF
  unfold F_X11_read_28 at hE
  refine aw_aload_n dX11_read_28 rfl ?_
  refine aw_iconst (v := 2) dX11_read_29 (by decide) ?_
  refine aw_putf dX11_read_30 ptX11_61_10 at_mod (Nat.le_of_ble_eq_true rfl) ⟨rfl, rfl⟩ ?_
  refine aw_eqh (h2 := HM ((mo_taped mo), 2, (mo_tf mo), (mo_t1 mo), (mo_t2 mo), (mo_t3 mo), (mo_fp mo)) mw mr ms mt mu dd wi hi gt sp ta li sr co hb) up_mod ?_
  refine aw_iconst (v := 0) dX11_read_33 (by decide) ?_
  exact aw_iret dX11_read_34 rfl (Nat.zero_le _) (Nat.zero_le _) (Nat.zero_le _) (Nat.zero_le _) ⟨_, _, hE.symm, rfl, rfl, rfl⟩
def F_X11_read (a1 : Int32) (a2 : Int32) (mo : MO) (mr : MR) (ms : Nat) (mt : A) (mu : A) (dd : A) (wi : A) (hi : A) (gt : A) (sp : A) (ta : A) (li : A) : Out (MO × MR × Nat × A × A × A × A × A × A × A) Int32 := if (F_X11_isShelf a2) = 0 then (fok (0 : Int32) (((mo_taped mo), 1, (mo_tf mo), (mo_t1 mo), (mo_t2 mo), (mo_t3 mo), (mo_fp mo)), mr, ms, dd, wi, hi, gt, sp, ta, li)) else (if a1 < 0 then (F_X11_read_28 mt mu ((mo_taped mo), 0, (mo_tf mo), (mo_t1 mo), (mo_t2 mo), (mo_t3 mo), (mo_fp mo)) mr ms dd wi hi gt sp ta li) else (if a1 ≤ 4 then (fon (F_X11_readFile a1 (mo_taped mo) 32 mr ms mt mu gt sp ta li) (fun z57 s57 => if z57 = 0 then (fok ((mr_kind s57.1) : Int32) ((0, 0, (mo_tf mo), (mo_t1 mo), (mo_t2 mo), (mo_t3 mo), (mr_whr s57.1)), s57.1, s57.2.1, dd, wi, hi, s57.2.2.1, s57.2.2.2.1, s57.2.2.2.2.1, s57.2.2.2.2.2)) else (fon (F_X11_keep a1 a2 (0, 0, (mo_tf mo), (mo_t1 mo), (mo_t2 mo), (mo_t3 mo), (-1)) s57.1 dd wi hi s57.2.2.1) (fun z66 s66 => fok (0 : Int32) (s66.1, s57.1, s57.2.1, s66.2.1, s66.2.2.1, s66.2.2.2, s57.2.2.1, s57.2.2.2.1, s57.2.2.2.2.1, s57.2.2.2.2.2)) (fun _ _ => fno))) (fun _ _ => fno)) else (F_X11_read_28 mt mu ((mo_taped mo), 0, (mo_tf mo), (mo_t1 mo), (mo_t2 mo), (mo_t3 mo), (mo_fp mo)) mr ms dd wi hi gt sp ta li)))
set_option maxHeartbeats 1000000 in
set_option maxRecDepth 100000 in
theorem kF_X11_read (mo : MO) (mw : MW) (mr : MR) (ms : Nat) (mt : A) (mu : A) (dd : A) (wi : A) (hi : A) (gt : A) (sp : A) (ta : A) (li : A) (sr : A) (co : A) (hb : aH) (n : Nat)  (a1 : Int32) (a2 : Int32) (hF : F_X11_read a1 a2 mo mr ms mt mu dd wi hi gt sp ta li ≠ fno) : AM mX11_read 8 [.ref 31, .int a1, .int a2] (HM mo mw mr ms mt mu dd wi hi gt sp ta li sr co hb) n 0 0 0 0 (P_X11_read mw mt mu sr co hb n (F_X11_read a1 a2 mo mr ms mt mu dd wi hi gt sp ta li)) (fun _ _ _ => False) := by
  generalize hE : F_X11_read a1 a2 mo mr ms mt mu dd wi hi gt sp ta li = res at hF ⊢
  refine aw_of (by decide +kernel) rfl (Nat.le_of_ble_eq_true rfl) ?_
  unfold F_X11_read at hE
  refine aw_aload_n dX11_read_0 rfl ?_
  refine aw_iconst (v := 0) dX11_read_1 (by decide) ?_
  refine aw_putf dX11_read_2 ptX11_61_10 at_mod (Nat.le_of_ble_eq_true rfl) ⟨rfl, rfl⟩ ?_
  refine aw_eqh (h2 := HM ((mo_taped mo), 0, (mo_tf mo), (mo_t1 mo), (mo_t2 mo), (mo_t3 mo), (mo_fp mo)) mw mr ms mt mu dd wi hi gt sp ta li sr co hb) up_mod ?_
  refine aw_iload_n dX11_read_5 rfl ?_
  refine aw_callS dX11_read_6  csX11_245 rfl (kF_X11_isShelf _ _ a2) rfl (Nat.le_of_ble_eq_true rfl) (by decide) (by decide) (by decide) (by decide) (fun _ _ _ hf => False.elim hf) (fun r6 h6 n6 hp6 => ?_)
  obtain ⟨rfl, rfl, rfl⟩ := hp6
  refine aw_if_ne (tgt := 19) dX11_read_9 (by decide) (fun c9 => ?_) (fun c9 => ?_)
  · replace hE := fif hE c9
    refine aw_iload_n dX11_read_19 rfl ?_
    refine aw_if_lt (tgt := 28) dX11_read_20 (by decide) (fun c20 => ?_) (fun c20 => ?_)
    · replace hE := fit hE c20
      exact aw_lv _ (List.forall_mem_cons.mpr ⟨rfl, fun _ h => absurd h List.not_mem_nil⟩) (b_X11_read_28 mw mt mu sr co hb n   ((mo_taped mo), 0, (mo_tf mo), (mo_t1 mo), (mo_t2 mo), (mo_t3 mo), (mo_fp mo)) mr ms dd wi hi gt sp ta li _ hE hF)
    · replace hE := fif hE c20
      refine aw_iload_n dX11_read_23 rfl ?_
      refine aw_iconst (v := 4) dX11_read_24 (by decide) ?_
      refine aw_icmp_le (tgt := 35) dX11_read_25 (by decide) (fun c25 => ?_) (fun c25 => ?_)
      · replace hE := fit hE c25
        refine aw_aload_n dX11_read_35 rfl ?_
        refine aw_getf (v := .int (mo_taped mo)) dX11_read_36 flX11_64_10 at_mod rfl ?_
        refine aw_istore_n (lv2 := [(3, _), (0, _), (1, _), (2, _)]) dX11_read_39 (by decide) rfl ?_
        refine aw_aload_n dX11_read_40 rfl ?_
        refine aw_iconst (v := 0) dX11_read_41 (by decide) ?_
        refine aw_putf dX11_read_42 ptX11_64_10 at_mod (Nat.le_of_ble_eq_true rfl) ⟨rfl, rfl⟩ ?_
        refine aw_eqh (h2 := HM (0, 0, (mo_tf mo), (mo_t1 mo), (mo_t2 mo), (mo_t3 mo), (mo_fp mo)) mw mr ms mt mu dd wi hi gt sp ta li sr co hb) up_mod ?_
        refine aw_aload_n dX11_read_45 rfl ?_
        refine aw_iconst (v := (-1)) dX11_read_46 (by decide) ?_
        refine aw_putf dX11_read_47 ptX11_43_10 at_mod (Nat.le_of_ble_eq_true rfl) ⟨rfl, rfl⟩ ?_
        refine aw_eqh (h2 := HM (0, 0, (mo_tf mo), (mo_t1 mo), (mo_t2 mo), (mo_t3 mo), (-1)) mw mr ms mt mu dd wi hi gt sp ta li sr co hb) up_mod ?_
        refine aw_aload_n dX11_read_50 rfl ?_
        refine aw_iload_n dX11_read_51 rfl ?_
        refine aw_aload_n dX11_read_52 rfl ?_
        refine aw_getf (v := .ref 32) dX11_read_53 flX11_10_10 at_mod rfl ?_
        refine aw_iload_n dX11_read_56 rfl ?_
        refine aw_callV dX11_read_57 at_mod cvX11_248 rfl (kF_X11_readFile (0, 0, (mo_tf mo), (mo_t1 mo), (mo_t2 mo), (mo_t3 mo), (-1)) mw mr ms mt mu dd wi hi gt sp ta li sr co hb 32 _ (Or.inl rfl) a1 (mo_taped mo) (fon_ne hE hF)) rfl (Nat.le_of_ble_eq_true rfl) (by decide) (by decide) (by decide) (by decide) (fun _ _ _ hf => False.elim hf) (fun r57 h57 n57 hp57 => ?_)
        obtain ⟨z57, s57, e57, rfl, rfl, rfl⟩ := hp57
        replace hE := fon_ok e57 hE
        refine aw_if_eq (tgt := 71) dX11_read_60 (by decide) (fun c60 => ?_) (fun c60 => ?_)
        · replace hE := fit hE c60
          refine aw_aload_n dX11_read_71 rfl ?_
          refine aw_aload_n dX11_read_72 rfl ?_
          refine aw_getf (v := .int (mr_whr s57.1)) dX11_read_73 flX11_81_10 at_mod rfl ?_
          refine aw_putf dX11_read_76 ptX11_43_10 at_mod (Nat.le_of_ble_eq_true rfl) ⟨rfl, rfl⟩ ?_
          refine aw_eqh (h2 := HM (0, 0, (mo_tf mo), (mo_t1 mo), (mo_t2 mo), (mo_t3 mo), (mr_whr s57.1)) mw s57.1 s57.2.1 mt mu dd wi hi s57.2.2.1 s57.2.2.2.1 s57.2.2.2.2.1 s57.2.2.2.2.2 sr co hb) up_mod ?_
          refine aw_aload_n dX11_read_79 rfl ?_
          refine aw_getf (v := .int (mr_kind s57.1)) dX11_read_80 flX11_78_10 at_mod rfl ?_
          exact aw_iret dX11_read_83 rfl (Nat.zero_le _) (Nat.zero_le _) (Nat.zero_le _) (Nat.zero_le _) ⟨_, _, hE.symm, rfl, rfl, rfl⟩
        · replace hE := fif hE c60
          refine aw_aload_n dX11_read_63 rfl ?_
          refine aw_iload_n dX11_read_64 rfl ?_
          refine aw_iload_n dX11_read_65 rfl ?_
          refine aw_callV dX11_read_66 at_mod cvX11_252 rfl (kF_X11_keep (0, 0, (mo_tf mo), (mo_t1 mo), (mo_t2 mo), (mo_t3 mo), (-1)) mw s57.1 s57.2.1 mt mu dd wi hi s57.2.2.1 s57.2.2.2.1 s57.2.2.2.2.1 s57.2.2.2.2.2 sr co hb _  a1 a2 (fon_ne hE hF)) rfl (Nat.le_of_ble_eq_true rfl) (by decide) (by decide) (by decide) (by decide) (fun _ _ _ hf => False.elim hf) (fun r66 h66 n66 hp66 => ?_)
          obtain ⟨z66, s66, e66, rfl, rfl, rfl⟩ := hp66
          replace hE := fon_ok e66 hE
          refine aw_iconst (v := 0) dX11_read_69 (by decide) ?_
          exact aw_iret dX11_read_70 rfl (Nat.zero_le _) (Nat.zero_le _) (Nat.zero_le _) (Nat.zero_le _) ⟨_, _, hE.symm, rfl, rfl, rfl⟩
      · replace hE := fif hE c25
        exact aw_lv _ (List.forall_mem_cons.mpr ⟨rfl, fun _ h => absurd h List.not_mem_nil⟩) (b_X11_read_28 mw mt mu sr co hb n   ((mo_taped mo), 0, (mo_tf mo), (mo_t1 mo), (mo_t2 mo), (mo_t3 mo), (mo_fp mo)) mr ms dd wi hi gt sp ta li _ hE hF)
  · replace hE := fit hE c9
    refine aw_aload_n dX11_read_12 rfl ?_
    refine aw_iconst (v := 1) dX11_read_13 (by decide) ?_
    refine aw_putf dX11_read_14 ptX11_61_10 at_mod (Nat.le_of_ble_eq_true rfl) ⟨rfl, rfl⟩ ?_
    refine aw_eqh (h2 := HM ((mo_taped mo), 1, (mo_tf mo), (mo_t1 mo), (mo_t2 mo), (mo_t3 mo), (mo_fp mo)) mw mr ms mt mu dd wi hi gt sp ta li sr co hb) up_mod ?_
    refine aw_iconst (v := 0) dX11_read_17 (by decide) ?_
    exact aw_iret dX11_read_18 rfl (Nat.zero_le _) (Nat.zero_le _) (Nat.zero_le _) (Nat.zero_le _) ⟨_, _, hE.symm, rfl, rfl, rfl⟩
