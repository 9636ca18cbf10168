def P_X10_copy (m0 : Mnt) (sh : Nat → Nat) (ww : Nat → Row) (so : Nat) (sc : Src) (pl : Pal) (qo : Qoi) (pn : Pnm) (bm : Bmp) (tg : Tga) (px : Pcx) (fa : A) (hb : aH) (n : Nat) (res : Out (Nat → Ras) Int32) : Option Value → aH → Nat → Prop := fun r1 h2 n2 => ∃ (a : Int32) (s : (Nat → Ras)), res = fok a s ∧ r1 = some (.int a) ∧ h2 = HC m0 sh s ww so sc pl qo pn bm tg px fa hb ∧ n = n2
abbrev Q_X10_copy_14 (m0 : Mnt) (sh : Nat → Nat) (ww : Nat → Row) (so : Nat) (sc : Src) (pl : Pal) (qo : Qoi) (pn : Pnm) (bm : Bmp) (tg : Tga) (px : Pcx) (fa : A) (hb : aH) (n : Nat) (k : (Nat → Ras) → Out (Nat → Ras) Int32) : Prop := ∀ (rr : (Nat → Ras)) (res : Out (Nat → Ras) Int32), k rr = res → res ≠ fno → AW (fun _ _ => True) mX10_copy (rmD 3 0 0) 0 0 (P_X10_copy m0 sh ww so sc pl qo pn bm tg px fa hb n res) (fun _ _ _ => False) 0 0 14 [] [] (HC m0 sh rr ww so sc pl qo pn bm tg px fa hb) n
abbrev Q_X10_copy_36 (m0 : Mnt) (sh : Nat → Nat) (ww : Nat → Row) (so : Nat) (sc : Src) (pl : Pal) (qo : Qoi) (pn : Pnm) (bm : Bmp) (tg : Tga) (px : Pcx) (fa : A) (hb : aH) (n : Nat) (k : (Nat → Ras) → Out (Nat → Ras) Int32) : Prop := ∀ (rr : (Nat → Ras)) (res : Out (Nat → Ras) Int32), k rr = res → res ≠ fno → AW (fun _ _ => True) mX10_copy (rmD 3 0 0) 0 0 (P_X10_copy m0 sh ww so sc pl qo pn bm tg px fa hb n res) (fun _ _ _ => False) 0 0 36 [] [] (HC m0 sh rr ww so sc pl qo pn bm tg px fa hb) n
def F_X10_copy_36 (sh : (Nat → Nat))  (rr : (Nat → Ras)) : Out (Nat → Ras) Int32 := fok (1 : Int32) rr
set_option maxHeartbeats 1000000 in
set_option maxRecDepth 100000 in
theorem b_X10_copy_36 (m0 : Mnt) (sh : Nat → Nat) (ww : Nat → Row) (so : Nat) (sc : Src) (pl : Pal) (qo : Qoi) (pn : Pnm) (bm : Bmp) (tg : Tga) (px : Pcx) (fa : A) (hb : aH) (n : Nat)   : Q_X10_copy_36 m0 sh ww so sc pl qo pn bm tg px fa hb n (F_X10_copy_36 sh) := by
  intro rr res hE hF
  unfold F_X10_copy_36 at hE
  refine aw_iconst (v := 1) dX10_copy_36 (by decide) ?_
  exact aw_zret dX10_copy_37 rfl (narB (by decide)) (Nat.zero_le _) (Nat.zero_le _) (Nat.zero_le _) (Nat.zero_le _) ⟨_, _, hE.symm, rfl, rfl, rfl⟩
def F_X10_copy_14 (sh : (Nat → Nat))  (rr : (Nat → Ras)) : Out (Nat → Ras) Int32 := fok (0 : Int32) rr
set_option maxHeartbeats 1000000 in
set_option maxRecDepth 100000 in
theorem b_X10_copy_14 (m0 : Mnt) (sh : Nat → Nat) (ww : Nat → Row) (so : Nat) (sc : Src) (pl : Pal) (qo : Qoi) (pn : Pnm) (bm : Bmp) (tg : Tga) (px : Pcx) (fa : A) (hb : aH) (n : Nat)   : Q_X10_copy_14 m0 sh ww so sc pl qo pn bm tg px fa hb n (F_X10_copy_14 sh) := by
  intro rr res hE hF
  unfold F_X10_copy_14 at hE
  refine aw_iconst (v := 0) dX10_copy_14 (by decide) ?_
  exact aw_zret dX10_copy_15 rfl (narB (by decide)) (Nat.zero_le _) (Nat.zero_le _) (Nat.zero_le _) (Nat.zero_le _) ⟨_, _, hE.symm, rfl, rfl, rfl⟩
def F_X10_copy (a1 : Int32) (a2 : Int32) (sh : (Nat → Nat)) (rr : (Nat → Ras)) : Out (Nat → Ras) Int32 := if (F_X10_isShelf a1) = 0 then (F_X10_copy_14 sh rr) else (if (F_X10_isShelf a2) = 0 then (F_X10_copy_14 sh rr) else (if a1 = a2 then (F_X10_copy_36 sh rr) else (if inb a2 4 then (if isR (sh (Int32.toNatClampNeg a2)) then (if inb a1 4 then (if isR (sh (Int32.toNatClampNeg a1)) then (fon (F_X7_takeFrom (sh (Int32.toNatClampNeg a2)) (sh (Int32.toNatClampNeg a1)) rr) (fun z33 s33 => F_X10_copy_36 sh s33) (fun _ _ => fno)) else fno) else fno) else fno) else fno)))
set_option maxHeartbeats 1000000 in
set_option maxRecDepth 100000 in
theorem kF_X10_copy (m0 : Mnt) (sh : Nat → Nat) (rr : Nat → Ras) (ww : Nat → Row) (so : Nat) (sc : Src) (pl : Pal) (qo : Qoi) (pn : Pnm) (bm : Bmp) (tg : Tga) (px : Pcx) (fa : A) (hb : aH) (n : Nat)  (a1 : Int32) (a2 : Int32) (hF : F_X10_copy a1 a2 sh rr ≠ fno) : AM mX10_copy 3 [.ref 0, .int a1, .int a2] (HC m0 sh rr ww so sc pl qo pn bm tg px fa hb) n 0 0 0 0 (P_X10_copy m0 sh ww so sc pl qo pn bm tg px fa hb n (F_X10_copy a1 a2 sh rr)) (fun _ _ _ => False) := by
  generalize hE : F_X10_copy a1 a2 sh rr = res at hF ⊢
  refine aw_of (by decide +kernel) rfl (Nat.le_of_ble_eq_true rfl) ?_
  unfold F_X10_copy at hE
  refine aw_iload_n dX10_copy_0 rfl ?_
  refine aw_callS dX10_copy_1  csX10_94 rfl (kF_X10_isShelf _ _ a1) rfl (Nat.le_of_ble_eq_true rfl) (by decide) (by decide) (by decide) (by decide) (fun _ _ _ hf => False.elim hf) (fun r1 h1 n1 hp1 => ?_)
  obtain ⟨rfl, rfl, rfl⟩ := hp1
  refine aw_if_eq (tgt := 14) dX10_copy_4 (by decide) (fun c4 => ?_) (fun c4 => ?_)
  · replace hE := fit hE c4
    exact aw_lv _ (fun _ h => absurd h List.not_mem_nil) (b_X10_copy_14 m0 sh ww so sc pl qo pn bm tg px fa hb n   rr _ hE hF)
  · replace hE := fif hE c4
    refine aw_iload_n dX10_copy_7 rfl ?_
    refine aw_callS dX10_copy_8  csX10_94 rfl (kF_X10_isShelf _ _ a2) rfl (Nat.le_of_ble_eq_true rfl) (by decide) (by decide) (by decide) (by decide) (fun _ _ _ hf => False.elim hf) (fun r8 h8 n8 hp8 => ?_)
    obtain ⟨rfl, rfl, rfl⟩ := hp8
    refine aw_if_ne (tgt := 16) dX10_copy_11 (by decide) (fun c11 => ?_) (fun c11 => ?_)
    · replace hE := fif hE c11
      refine aw_iload_n dX10_copy_16 rfl ?_
      refine aw_iload_n dX10_copy_17 rfl ?_
      refine aw_icmp_eq (tgt := 36) dX10_copy_18 (by decide) (fun c18 => ?_) (fun c18 => ?_)
      · replace hE := fit hE c18
        exact aw_lv _ (fun _ h => absurd h List.not_mem_nil) (b_X10_copy_36 m0 sh ww so sc pl qo pn bm tg px fa hb n   rr _ hE hF)
      · replace hE := fif hE c18
        refine aw_aload_n dX10_copy_21 rfl ?_
        refine aw_getf (v := .ref 1) dX10_copy_22 flX10_11_9 at_mint rfl ?_
        refine aw_iload_n dX10_copy_25 rfl ?_
        obtain ⟨g26, hE⟩ := fgd hE hF
        obtain ⟨G26, hE⟩ := fgd hE hF
        refine aw_aald (y := (sh (Int32.toNatClampNeg a2))) dX10_copy_26 at_shelves (vp_in_iff.mpr g26) (if_pos (inbN g26)) ?_
        refine aw_aload_n dX10_copy_27 rfl ?_
        refine aw_getf (v := .ref 1) dX10_copy_28 flX10_11_9 at_mint rfl ?_
        refine aw_iload_n dX10_copy_31 rfl ?_
        obtain ⟨g32, hE⟩ := fgd hE hF
        obtain ⟨G32, hE⟩ := fgd hE hF
        refine aw_aald (y := (sh (Int32.toNatClampNeg a1))) dX10_copy_32 at_shelves (vp_in_iff.mpr g32) (if_pos (inbN g32)) ?_
        refine aw_callV dX10_copy_33 (at_rasT G26) cvX10_184 rfl (kF_X7_takeFrom m0 sh rr ww so sc pl qo pn bm tg px fa hb (sh (Int32.toNatClampNeg a2)) (sh (Int32.toNatClampNeg a1)) _ G26 G32  (fon_ne hE hF)) rfl (Nat.le_of_ble_eq_true rfl) (by decide) (by decide) (by decide) (by decide) (fun _ _ _ hf => False.elim hf) (fun r33 h33 n33 hp33 => ?_)
        obtain ⟨z33, s33, e33, rfl, rfl, rfl⟩ := hp33
        replace hE := fon_ok e33 hE
        exact aw_lv _ (fun _ h => absurd h List.not_mem_nil) (b_X10_copy_36 m0 sh ww so sc pl qo pn bm tg px fa hb n   s33 _ hE hF)
    · replace hE := fit hE c11
      exact aw_lv _ (fun _ h => absurd h List.not_mem_nil) (b_X10_copy_14 m0 sh ww so sc pl qo pn bm tg px fa hb n   rr _ hE hF)
def P_X10_same (m0 : Mnt) (sh : Nat → Nat) (rr : Nat → Ras) (ww : Nat → Row) (so : Nat) (sc : Src) (pl : Pal) (qo : Qoi) (pn : Pnm) (bm : Bmp) (tg : Tga) (px : Pcx) (fa : A) (hb : aH) (n : Nat) (res : Out Unit Int32) : Option Value → aH → Nat → Prop := fun r1 h2 n2 => ∃ (a : Int32) (s : Unit), res = fok a s ∧ r1 = some (.int a) ∧ h2 = HC m0 sh rr ww so sc pl qo pn bm tg px fa hb ∧ n = n2
abbrev Q_X10_same_36 (m0 : Mnt) (sh : Nat → Nat) (rr : Nat → Ras) (ww : Nat → Row) (so : Nat) (sc : Src) (pl : Pal) (qo : Qoi) (pn : Pnm) (bm : Bmp) (tg : Tga) (px : Pcx) (fa : A) (hb : aH) (n : Nat) (k : Out Unit Int32) : Prop := ∀  (res : Out Unit Int32), k  = res → res ≠ fno → AW (fun _ _ => True) mX10_same (rmD 3 0 0) 0 0 (P_X10_same m0 sh rr ww so sc pl qo pn bm tg px fa hb n res) (fun _ _ _ => False) 0 0 36 [] [] (HC m0 sh rr ww so sc pl qo pn bm tg px fa hb) n
def F_X10_same_36 (sh : (Nat → Nat)) (rr : (Nat → Ras))   : Out Unit Int32 := fok (0 : Int32) ()
set_option maxHeartbeats 1000000 in
set_option maxRecDepth 100000 in
theorem b_X10_same_36 (m0 : Mnt) (sh : Nat → Nat) (rr : Nat → Ras) (ww : Nat → Row) (so : Nat) (sc : Src) (pl : Pal) (qo : Qoi) (pn : Pnm) (bm : Bmp) (tg : Tga) (px : Pcx) (fa : A) (hb : aH) (n : Nat)   : Q_X10_same_36 m0 sh rr ww so sc pl qo pn bm tg px fa hb n (F_X10_same_36 sh rr) := by
  intro res hE hF
  unfold F_X10_same_36 at hE
  refine aw_iconst (v := 0) dX10_same_36 (by decide) ?_
  exact aw_zret dX10_same_37 rfl (narB (by decide)) (Nat.zero_le _) (Nat.zero_le _) (Nat.zero_le _) (Nat.zero_le _) ⟨_, _, hE.symm, rfl, rfl, rfl⟩
def F_X10_same (a1 : Int32) (a2 : Int32) (sh : (Nat → Nat)) (rr : (Nat → Ras)) : Out Unit Int32 := if (F_X10_isShelf a1) = 0 then (F_X10_same_36 sh rr ) else (if (F_X10_isShelf a2) = 0 then (F_X10_same_36 sh rr ) else (if inb a1 4 then (if isR (sh (Int32.toNatClampNeg a1)) then (if inb a2 4 then (if isR (sh (Int32.toNatClampNeg a2)) then (fon (F_X7_isLike (sh (Int32.toNatClampNeg a1)) (sh (Int32.toNatClampNeg a2)) rr) (fun z26 s26 => if z26 = 0 then (F_X10_same_36 sh rr ) else (fok (1 : Int32) ())) (fun _ _ => fno)) else fno) else fno) else fno) else fno))
set_option maxHeartbeats 1000000 in
set_option maxRecDepth 100000 in
theorem kF_X10_same (m0 : Mnt) (sh : Nat → Nat) (rr : Nat → Ras) (ww : Nat → Row) (so : Nat) (sc : Src) (pl : Pal) (qo : Qoi) (pn : Pnm) (bm : Bmp) (tg : Tga) (px : Pcx) (fa : A) (hb : aH) (n : Nat)  (a1 : Int32) (a2 : Int32) (hF : F_X10_same a1 a2 sh rr ≠ fno) : AM mX10_same 3 [.ref 0, .int a1, .int a2] (HC m0 sh rr ww so sc pl qo pn bm tg px fa hb) n 0 0 0 0 (P_X10_same m0 sh rr ww so sc pl qo pn bm tg px fa hb n (F_X10_same a1 a2 sh rr)) (fun _ _ _ => False) := by
  generalize hE : F_X10_same a1 a2 sh rr = res at hF ⊢
  refine aw_of (by decide +kernel) rfl (Nat.le_of_ble_eq_true rfl) ?_
  unfold F_X10_same at hE
  refine aw_iload_n dX10_same_0 rfl ?_
  refine aw_callS dX10_same_1  csX10_94 rfl (kF_X10_isShelf _ _ a1) rfl (Nat.le_of_ble_eq_true rfl) (by decide) (by decide) (by decide) (by decide) (fun _ _ _ hf => False.elim hf) (fun r1 h1 n1 hp1 => ?_)
  obtain ⟨rfl, rfl, rfl⟩ := hp1
  refine aw_if_eq (tgt := 36) dX10_same_4 (by decide) (fun c4 => ?_) (fun c4 => ?_)
  · replace hE := fit hE c4
    exact aw_lv _ (fun _ h => absurd h List.not_mem_nil) (b_X10_same_36 m0 sh rr ww so sc pl qo pn bm tg px fa hb n    _ hE hF)
  · replace hE := fif hE c4
    refine aw_iload_n dX10_same_7 rfl ?_
    refine aw_callS dX10_same_8  csX10_94 rfl (kF_X10_isShelf _ _ a2) rfl (Nat.le_of_ble_eq_true rfl) (by decide) (by decide) (by decide) (by decide) (fun _ _ _ hf => False.elim hf) (fun r8 h8 n8 hp8 => ?_)
    obtain ⟨rfl, rfl, rfl⟩ := hp8
    refine aw_if_eq (tgt := 36) dX10_same_11 (by decide) (fun c11 => ?_) (fun c11 => ?_)
    · replace hE := fit hE c11
      exact aw_lv _ (fun _ h => absurd h List.not_mem_nil) (b_X10_same_36 m0 sh rr ww so sc pl qo pn bm tg px fa hb n    _ hE hF)
    · replace hE := fif hE c11
      refine aw_aload_n dX10_same_14 rfl ?_
      refine aw_getf (v := .ref 1) dX10_same_15 flX10_11_9 at_mint rfl ?_
      refine aw_iload_n dX10_same_18 rfl ?_
      obtain ⟨g19, hE⟩ := fgd hE hF
      obtain ⟨G19, hE⟩ := fgd hE hF
      refine aw_aald (y := (sh (Int32.toNatClampNeg a1))) dX10_same_19 at_shelves (vp_in_iff.mpr g19) (if_pos (inbN g19)) ?_
      refine aw_aload_n dX10_same_20 rfl ?_
      refine aw_getf (v := .ref 1) dX10_same_21 flX10_11_9 at_mint rfl ?_
      refine aw_iload_n dX10_same_24 rfl ?_
      obtain ⟨g25, hE⟩ := fgd hE hF
      obtain ⟨G25, hE⟩ := fgd hE hF
      refine aw_aald (y := (sh (Int32.toNatClampNeg a2))) dX10_same_25 at_shelves (vp_in_iff.mpr g25) (if_pos (inbN g25)) ?_
      refine aw_callV dX10_same_26 (at_rasT G19) cvX10_186 rfl (kF_X7_isLike m0 sh rr ww so sc pl qo pn bm tg px fa hb (sh (Int32.toNatClampNeg a1)) (sh (Int32.toNatClampNeg a2)) _ G19 G25  (fon_ne hE hF)) rfl (Nat.le_of_ble_eq_true rfl) (by decide) (by decide) (by decide) (by decide) (fun _ _ _ hf => False.elim hf) (fun r26 h26 n26 hp26 => ?_)
      obtain ⟨z26, s26, e26, rfl, rfl, rfl⟩ := hp26
      replace hE := fon_ok e26 hE
      refine aw_if_eq (tgt := 36) dX10_same_29 (by decide) (fun c29 => ?_) (fun c29 => ?_)
      · replace hE := fit hE c29
        exact aw_lv _ (fun _ h => absurd h List.not_mem_nil) (b_X10_same_36 m0 sh rr ww so sc pl qo pn bm tg px fa hb n    _ hE hF)
      · replace hE := fif hE c29
        refine aw_iconst (v := 1) dX10_same_32 (by decide) ?_
        refine aw_goto (tgt := 37) dX10_same_33 (by decide) ?_
        exact aw_zret dX10_same_37 rfl (narB (by decide)) (Nat.zero_le _) (Nat.zero_le _) (Nat.zero_le _) (Nat.zero_le _) ⟨_, _, hE.symm, rfl, rfl, rfl⟩
def P_X10_putOut (m0 : Mnt) (sh : Nat → Nat) (rr : Nat → Ras) (so : Nat) (sc : Src) (pn : Pnm) (bm : Bmp) (tg : Tga) (px : Pcx) (fa : A) (hb : aH) (r : Nat) (n : Nat) (res : Out ((Nat → Row) × Pal × Qoi) Int32) : Option Value → aH → Nat → Prop := fun r1 h2 n2 => ∃ (a : Int32) (s : ((Nat → Row) × Pal × Qoi)), res = fok a s ∧ r1 = some (.int a) ∧ h2 = HC m0 sh rr s.1 so sc s.2.1 s.2.2 pn bm tg px fa hb ∧ n = n2
abbrev Q_X10_putOut_19 (m0 : Mnt) (sh : Nat → Nat) (rr : Nat → Ras) (so : Nat) (sc : Src) (pn : Pnm) (bm : Bmp) (tg : Tga) (px : Pcx) (fa : A) (hb : aH) (r : Nat) (n : Nat) (k : (Nat → Row) → Pal → Qoi → Out ((Nat → Row) × Pal × Qoi) Int32) : Prop := ∀ (ww : (Nat → Row)) (pl : Pal) (qo : Qoi) (res : Out ((Nat → Row) × Pal × Qoi) Int32), k ww pl qo = res → res ≠ fno → AW (fun _ _ => True) mX10_putOut (rmD 6 0 0) 0 0 (P_X10_putOut m0 sh rr so sc pn bm tg px fa hb r n res) (fun _ _ _ => False) 0 0 19 [] [] (HC m0 sh rr ww so sc pl qo pn bm tg px fa hb) n
abbrev Q_X10_putOut_10034 (m0 : Mnt) (sh : Nat → Nat) (rr : Nat → Ras) (so : Nat) (sc : Src) (pn : Pnm) (bm : Bmp) (tg : Tga) (px : Pcx) (fa : A) (hb : aH) (r : Nat) (n : Nat) (k : Int32 → (Nat → Row) → Pal → Qoi → Out ((Nat → Row) × Pal × Qoi) Int32) : Prop := ∀ (v2 : Int32) (ww : (Nat → Row)) (pl : Pal) (qo : Qoi) (res : Out ((Nat → Row) × Pal × Qoi) Int32), k v2 ww pl qo = res → res ≠ fno → AW (fun _ _ => True) mX10_putOut (rmD 6 0 0) 0 0 (P_X10_putOut m0 sh rr so sc pn bm tg px fa hb r n res) (fun _ _ _ => False) 0 0 35 [(0, .ref 0), (1, .ref r), (2, .int v2)] [.ref 21] (HC m0 sh rr ww so sc pl qo pn bm tg px fa hb) n
abbrev Q_X10_putOut_20034 (m0 : Mnt) (sh : Nat → Nat) (rr : Nat → Ras) (so : Nat) (sc : Src) (pn : Pnm) (bm : Bmp) (tg : Tga) (px : Pcx) (fa : A) (hb : aH) (r : Nat) (n : Nat) (k : Int32 → (Nat → Row) → Pal → Qoi → Out ((Nat → Row) × Pal × Qoi) Int32) : Prop := ∀ (v2 : Int32) (ww : (Nat → Row)) (pl : Pal) (qo : Qoi) (res : Out ((Nat → Row) × Pal × Qoi) Int32), k v2 ww pl qo = res → res ≠ fno → AW (fun _ _ => True) mX10_putOut (rmD 6 0 0) 0 0 (P_X10_putOut m0 sh rr so sc pn bm tg px fa hb r n res) (fun _ _ _ => False) 0 0 35 [(0, .ref 0), (1, .ref r), (2, .int v2)] [.ref 23] (HC m0 sh rr ww so sc pl qo pn bm tg px fa hb) n
abbrev Q_X10_putOut_30034 (m0 : Mnt) (sh : Nat → Nat) (rr : Nat → Ras) (so : Nat) (sc : Src) (pn : Pnm) (bm : Bmp) (tg : Tga) (px : Pcx) (fa : A) (hb : aH) (r : Nat) (n : Nat) (k : Int32 → (Nat → Row) → Pal → Qoi → Out ((Nat → Row) × Pal × Qoi) Int32) : Prop := ∀ (v2 : Int32) (ww : (Nat → Row)) (pl : Pal) (qo : Qoi) (res : Out ((Nat → Row) × Pal × Qoi) Int32), k v2 ww pl qo = res → res ≠ fno → AW (fun _ _ => True) mX10_putOut (rmD 6 0 0) 0 0 (P_X10_putOut m0 sh rr so sc pn bm tg px fa hb r n res) (fun _ _ _ => False) 0 0 35 [(0, .ref 0), (1, .ref r), (2, .int v2)] [.ref 24] (HC m0 sh rr ww so sc pl qo pn bm tg px fa hb) n
abbrev Q_X10_putOut_40034 (m0 : Mnt) (sh : Nat → Nat) (rr : Nat → Ras) (so : Nat) (sc : Src) (pn : Pnm) (bm : Bmp) (tg : Tga) (px : Pcx) (fa : A) (hb : aH) (r : Nat) (n : Nat) (k : Int32 → (Nat → Row) → Pal → Qoi → Out ((Nat → Row) × Pal × Qoi) Int32) : Prop := ∀ (v2 : Int32) (ww : (Nat → Row)) (pl : Pal) (qo : Qoi) (res : Out ((Nat → Row) × Pal × Qoi) Int32), k v2 ww pl qo = res → res ≠ fno → AW (fun _ _ => True) mX10_putOut (rmD 6 0 0) 0 0 (P_X10_putOut m0 sh rr so sc pn bm tg px fa hb r n res) (fun _ _ _ => False) 0 0 35 [(0, .ref 0), (1, .ref r), (2, .int v2)] [.ref 26] (HC m0 sh rr ww so sc pl qo pn bm tg px fa hb) n
abbrev Q_X10_putOut_50034 (m0 : Mnt) (sh : Nat → Nat) (rr : Nat → Ras) (so : Nat) (sc : Src) (pn : Pnm) (bm : Bmp) (tg : Tga) (px : Pcx) (fa : A) (hb : aH) (r : Nat) (n : Nat) (k : Int32 → (Nat → Row) → Pal → Qoi → Out ((Nat → Row) × Pal × Qoi) Int32) : Prop := ∀ (v2 : Int32) (ww : (Nat → Row)) (pl : Pal) (qo : Qoi) (res : Out ((Nat → Row) × Pal × Qoi) Int32), k v2 ww pl qo = res → res ≠ fno → AW (fun _ _ => True) mX10_putOut (rmD 6 0 0) 0 0 (P_X10_putOut m0 sh rr so sc pn bm tg px fa hb r n res) (fun _ _ _ => False) 0 0 35 [(0, .ref 0), (1, .ref r), (2, .int v2)] [.ref 28] (HC m0 sh rr ww so sc pl qo pn bm tg px fa hb) n
def F_X10_putOut_50034 (r : Nat) (rr : (Nat → Ras))  (v2 : Int32) (ww : (Nat → Row)) (pl : Pal) (qo : Qoi) : Out ((Nat → Row) × Pal × Qoi) Int32 := fon (F_X4_encode v2 (rr r) (ww 14) pl) (fun z41 s41 => fok (1 : Int32) ((va_up ww 14 s41.1), s41.2, qo)) (fun _ _ => fno)
set_option maxHeartbeats 1000000 in
set_option maxRecDepth 100000 in
theorem b_X10_putOut_50034 (m0 : Mnt) (sh : Nat → Nat) (rr : Nat → Ras) (so : Nat) (sc : Src) (pn : Pnm) (bm : Bmp) (tg : Tga) (px : Pcx) (fa : A) (hb : aH) (r : Nat) (n : Nat) (hr : isR r)  : Q_X10_putOut_50034 m0 sh rr so sc pn bm tg px fa hb r n (F_X10_putOut_50034 r rr) := by
  intro v2 ww pl qo res hE hF
  unfold F_X10_putOut_50034 at hE
  refine aw_aload_n dX10_putOut_35 rfl ?_
  refine aw_iload_n dX10_putOut_36 rfl ?_
  refine aw_aload_n dX10_putOut_37 rfl ?_
  refine aw_getf (v := .ref 14) dX10_putOut_38 flX10_27_9 at_mint rfl ?_
  refine aw_eqh (h2 := HC m0 sh (va_up rr r (rr r)) (va_up ww 14 (ww 14)) so sc pl qo pn bm tg px fa hb) (by rw [vus rr r, vus ww 14]) ?_
  refine aw_callU dX10_putOut_41 at_pcx cuX10_221_3 rfl (kF_X4_encode m0 sh rr r (rr r) ww 14 (ww 14) so sc pl qo pn bm tg px fa hb _ hr (by decide) v2 (fon_ne hE hF)) rfl (Nat.le_of_ble_eq_true rfl) (by decide) (by decide) (by decide) (by decide) (fun _ _ _ hf => False.elim hf) (fun r41 h41 n41 hp41 => ?_)
  obtain ⟨z41, s41, e41, rfl, rfl, rfl⟩ := hp41
  replace hE := fon_ok e41 hE
  refine aw_eqh (h2 := HC m0 sh rr (va_up ww 14 s41.1) so sc s41.2 qo pn bm tg px fa hb) (by rw [vus rr r]) ?_
  refine aw_iconst (v := 1) dX10_putOut_44 (by decide) ?_
  exact aw_zret dX10_putOut_45 rfl (narB (by decide)) (Nat.zero_le _) (Nat.zero_le _) (Nat.zero_le _) (Nat.zero_le _) ⟨_, _, hE.symm, rfl, rfl, rfl⟩
def F_X10_putOut_40034 (r : Nat) (rr : (Nat → Ras))  (v2 : Int32) (ww : (Nat → Row)) (pl : Pal) (qo : Qoi) : Out ((Nat → Row) × Pal × Qoi) Int32 := fon (F_X9_encode v2 (rr r) (ww 14) pl) (fun z41 s41 => fok (1 : Int32) ((va_up ww 14 s41.1), s41.2, qo)) (fun _ _ => fno)
set_option maxHeartbeats 1000000 in
set_option maxRecDepth 100000 in
theorem b_X10_putOut_40034 (m0 : Mnt) (sh : Nat → Nat) (rr : Nat → Ras) (so : Nat) (sc : Src) (pn : Pnm) (bm : Bmp) (tg : Tga) (px : Pcx) (fa : A) (hb : aH) (r : Nat) (n : Nat) (hr : isR r)  : Q_X10_putOut_40034 m0 sh rr so sc pn bm tg px fa hb r n (F_X10_putOut_40034 r rr) := by
  intro v2 ww pl qo res hE hF
  unfold F_X10_putOut_40034 at hE
  refine aw_aload_n dX10_putOut_35 rfl ?_
  refine aw_iload_n dX10_putOut_36 rfl ?_
  refine aw_aload_n dX10_putOut_37 rfl ?_
  refine aw_getf (v := .ref 14) dX10_putOut_38 flX10_27_9 at_mint rfl ?_
  refine aw_eqh (h2 := HC m0 sh (va_up rr r (rr r)) (va_up ww 14 (ww 14)) so sc pl qo pn bm tg px fa hb) (by rw [vus rr r, vus ww 14]) ?_
  refine aw_callU dX10_putOut_41 at_tga cuX10_221_8 rfl (kF_X9_encode m0 sh rr r (rr r) ww 14 (ww 14) so sc pl qo pn bm tg px fa hb _ hr (by decide) v2 (fon_ne hE hF)) rfl (Nat.le_of_ble_eq_true rfl) (by decide) (by decide) (by decide) (by decide) (fun _ _ _ hf => False.elim hf) (fun r41 h41 n41 hp41 => ?_)
  obtain ⟨z41, s41, e41, rfl, rfl, rfl⟩ := hp41
  replace hE := fon_ok e41 hE
  refine aw_eqh (h2 := HC m0 sh rr (va_up ww 14 s41.1) so sc s41.2 qo pn bm tg px fa hb) (by rw [vus rr r]) ?_
  refine aw_iconst (v := 1) dX10_putOut_44 (by decide) ?_
  exact aw_zret dX10_putOut_45 rfl (narB (by decide)) (Nat.zero_le _) (Nat.zero_le _) (Nat.zero_le _) (Nat.zero_le _) ⟨_, _, hE.symm, rfl, rfl, rfl⟩
def F_X10_putOut_30034 (r : Nat) (rr : (Nat → Ras))  (v2 : Int32) (ww : (Nat → Row)) (pl : Pal) (qo : Qoi) : Out ((Nat → Row) × Pal × Qoi) Int32 := fon (F_X0_encode v2 (rr r) (ww 14) pl) (fun z41 s41 => fok (1 : Int32) ((va_up ww 14 s41.1), s41.2, qo)) (fun _ _ => fno)
set_option maxHeartbeats 1000000 in
set_option maxRecDepth 100000 in
theorem b_X10_putOut_30034 (m0 : Mnt) (sh : Nat → Nat) (rr : Nat → Ras) (so : Nat) (sc : Src) (pn : Pnm) (bm : Bmp) (tg : Tga) (px : Pcx) (fa : A) (hb : aH) (r : Nat) (n : Nat) (hr : isR r)  : Q_X10_putOut_30034 m0 sh rr so sc pn bm tg px fa hb r n (F_X10_putOut_30034 r rr) := by
  intro v2 ww pl qo res hE hF
  unfold F_X10_putOut_30034 at hE
  refine aw_aload_n dX10_putOut_35 rfl ?_
  refine aw_iload_n dX10_putOut_36 rfl ?_
  refine aw_aload_n dX10_putOut_37 rfl ?_
  refine aw_getf (v := .ref 14) dX10_putOut_38 flX10_27_9 at_mint rfl ?_
  refine aw_eqh (h2 := HC m0 sh (va_up rr r (rr r)) (va_up ww 14 (ww 14)) so sc pl qo pn bm tg px fa hb) (by rw [vus rr r, vus ww 14]) ?_
  refine aw_callU dX10_putOut_41 at_bmp cuX10_221_0 rfl (kF_X0_encode m0 sh rr r (rr r) ww 14 (ww 14) so sc pl qo pn bm tg px fa hb _ hr (by decide) v2 (fon_ne hE hF)) rfl (Nat.le_of_ble_eq_true rfl) (by decide) (by decide) (by decide) (by decide) (fun _ _ _ hf => False.elim hf) (fun r41 h41 n41 hp41 => ?_)
  obtain ⟨z41, s41, e41, rfl, rfl, rfl⟩ := hp41
  replace hE := fon_ok e41 hE
  refine aw_eqh (h2 := HC m0 sh rr (va_up ww 14 s41.1) so sc s41.2 qo pn bm tg px fa hb) (by rw [vus rr r]) ?_
  refine aw_iconst (v := 1) dX10_putOut_44 (by decide) ?_
  exact aw_zret dX10_putOut_45 rfl (narB (by decide)) (Nat.zero_le _) (Nat.zero_le _) (Nat.zero_le _) (Nat.zero_le _) ⟨_, _, hE.symm, rfl, rfl, rfl⟩
def F_X10_putOut_20034 (r : Nat) (rr : (Nat → Ras))  (v2 : Int32) (ww : (Nat → Row)) (pl : Pal) (qo : Qoi) : Out ((Nat → Row) × Pal × Qoi) Int32 := fon (F_X5_encode v2 (rr r) (ww 14)) (fun z41 s41 => fok (1 : Int32) ((va_up ww 14 s41), pl, qo)) (fun _ _ => fno)
set_option maxHeartbeats 1000000 in
set_option maxRecDepth 100000 in
theorem b_X10_putOut_20034 (m0 : Mnt) (sh : Nat → Nat) (rr : Nat → Ras) (so : Nat) (sc : Src) (pn : Pnm) (bm : Bmp) (tg : Tga) (px : Pcx) (fa : A) (hb : aH) (r : Nat) (n : Nat) (hr : isR r)  : Q_X10_putOut_20034 m0 sh rr so sc pn bm tg px fa hb r n (F_X10_putOut_20034 r rr) := by
  intro v2 ww pl qo res hE hF
  unfold F_X10_putOut_20034 at hE
  refine aw_aload_n dX10_putOut_35 rfl ?_
  refine aw_iload_n dX10_putOut_36 rfl ?_
  refine aw_aload_n dX10_putOut_37 rfl ?_
  refine aw_getf (v := .ref 14) dX10_putOut_38 flX10_27_9 at_mint rfl ?_
  refine aw_eqh (h2 := HC m0 sh (va_up rr r (rr r)) (va_up ww 14 (ww 14)) so sc pl qo pn bm tg px fa hb) (by rw [vus rr r, vus ww 14]) ?_
  refine aw_callU dX10_putOut_41 at_pnm cuX10_221_4 rfl (kF_X5_encode m0 sh rr r (rr r) ww 14 (ww 14) so sc pl qo pn bm tg px fa hb _ hr (by decide) v2 (fon_ne hE hF)) rfl (Nat.le_of_ble_eq_true rfl) (by decide) (by decide) (by decide) (by decide) (fun _ _ _ hf => False.elim hf) (fun r41 h41 n41 hp41 => ?_)
  obtain ⟨z41, s41, e41, rfl, rfl, rfl⟩ := hp41
  replace hE := fon_ok e41 hE
  refine aw_eqh (h2 := HC m0 sh rr (va_up ww 14 s41) so sc pl qo pn bm tg px fa hb) (by rw [vus rr r]) ?_
  refine aw_iconst (v := 1) dX10_putOut_44 (by decide) ?_
  exact aw_zret dX10_putOut_45 rfl (narB (by decide)) (Nat.zero_le _) (Nat.zero_le _) (Nat.zero_le _) (Nat.zero_le _) ⟨_, _, hE.symm, rfl, rfl, rfl⟩
def F_X10_putOut_10034 (r : Nat) (rr : (Nat → Ras))  (v2 : Int32) (ww : (Nat → Row)) (pl : Pal) (qo : Qoi) : Out ((Nat → Row) × Pal × Qoi) Int32 := fon (F_X6_encode v2 (rr r) (ww 14) qo) (fun z41 s41 => fok (1 : Int32) ((va_up ww 14 s41.1), pl, s41.2)) (fun _ _ => fno)
set_option maxHeartbeats 1000000 in
set_option maxRecDepth 100000 in
theorem b_X10_putOut_10034 (m0 : Mnt) (sh : Nat → Nat) (rr : Nat → Ras) (so : Nat) (sc : Src) (pn : Pnm) (bm : Bmp) (tg : Tga) (px : Pcx) (fa : A) (hb : aH) (r : Nat) (n : Nat) (hr : isR r)  : Q_X10_putOut_10034 m0 sh rr so sc pn bm tg px fa hb r n (F_X10_putOut_10034 r rr) := by
  intro v2 ww pl qo res hE hF
  unfold F_X10_putOut_10034 at hE
  refine aw_aload_n dX10_putOut_35 rfl ?_
  refine aw_iload_n dX10_putOut_36 rfl ?_
  refine aw_aload_n dX10_putOut_37 rfl ?_
  refine aw_getf (v := .ref 14) dX10_putOut_38 flX10_27_9 at_mint rfl ?_
  refine aw_eqh (h2 := HC m0 sh (va_up rr r (rr r)) (va_up ww 14 (ww 14)) so sc pl qo pn bm tg px fa hb) (by rw [vus rr r, vus ww 14]) ?_
  refine aw_callU dX10_putOut_41 at_qoi cuX10_221_5 rfl (kF_X6_encode m0 sh rr r (rr r) ww 14 (ww 14) so sc pl qo pn bm tg px fa hb _ hr (by decide) v2 (fon_ne hE hF)) rfl (Nat.le_of_ble_eq_true rfl) (by decide) (by decide) (by decide) (by decide) (fun _ _ _ hf => False.elim hf) (fun r41 h41 n41 hp41 => ?_)
  obtain ⟨z41, s41, e41, rfl, rfl, rfl⟩ := hp41
  replace hE := fon_ok e41 hE
  refine aw_eqh (h2 := HC m0 sh rr (va_up ww 14 s41.1) so sc pl s41.2 pn bm tg px fa hb) (by rw [vus rr r]) ?_
  refine aw_iconst (v := 1) dX10_putOut_44 (by decide) ?_
  exact aw_zret dX10_putOut_45 rfl (narB (by decide)) (Nat.zero_le _) (Nat.zero_le _) (Nat.zero_le _) (Nat.zero_le _) ⟨_, _, hE.symm, rfl, rfl, rfl⟩
def F_X10_putOut_19 (r : Nat) (rr : (Nat → Ras))  (ww : (Nat → Row)) (pl : Pal) (qo : Qoi) : Out ((Nat → Row) × Pal × Qoi) Int32 := fok (0 : Int32) (ww, pl, qo)
set_option maxHeartbeats 1000000 in
set_option maxRecDepth 100000 in
theorem b_X10_putOut_19 (m0 : Mnt) (sh : Nat → Nat) (rr : Nat → Ras) (so : Nat) (sc : Src) (pn : Pnm) (bm : Bmp) (tg : Tga) (px : Pcx) (fa : A) (hb : aH) (r : Nat) (n : Nat) (hr : isR r)  : Q_X10_putOut_19 m0 sh rr so sc pn bm tg px fa hb r n (F_X10_putOut_19 r rr) := by
  intro ww pl qo res hE hF
  unfold F_X10_putOut_19 at hE
  refine aw_iconst (v := 0) dX10_putOut_19 (by decide) ?_
  exact aw_zret dX10_putOut_20 rfl (narB (by decide)) (Nat.zero_le _) (Nat.zero_le _) (Nat.zero_le _) (Nat.zero_le _) ⟨_, _, hE.symm, rfl, rfl, rfl⟩
def F_X10_putOut (a2 : Int32) (r : Nat) (rr : (Nat → Ras)) (ww : (Nat → Row)) (pl : Pal) (qo : Qoi) : Out ((Nat → Row) × Pal × Qoi) Int32 := if (F_X10_familyOf a2) = (-1) then (F_X10_putOut_19 r rr ww pl qo) else (fon (F_X10_fits a2 (rr r) pl) (fun z13 s13 => if z13 = 0 then (F_X10_putOut_19 r rr ww s13 qo) else (if (F_X10_familyOf a2) = 0 then (F_X10_putOut_10034 r rr a2 (va_up ww 14 (0, (y_b (ww 14)))) s13 qo) else (if (F_X10_familyOf a2) = 1 then (F_X10_putOut_20034 r rr a2 (va_up ww 14 (0, (y_b (ww 14)))) s13 qo) else (if (F_X10_familyOf a2) = 2 then (F_X10_putOut_30034 r rr a2 (va_up ww 14 (0, (y_b (ww 14)))) s13 qo) else (if (F_X10_familyOf a2) = 3 then (F_X10_putOut_40034 r rr a2 (va_up ww 14 (0, (y_b (ww 14)))) s13 qo) else (if (F_X10_familyOf a2) = 4 then (F_X10_putOut_50034 r rr a2 (va_up ww 14 (0, (y_b (ww 14)))) s13 qo) else (fno))))))) (fun _ _ => fno))
set_option maxHeartbeats 1000000 in
set_option maxRecDepth 100000 in
theorem kF_X10_putOut (m0 : Mnt) (sh : Nat → Nat) (rr : Nat → Ras) (ww : Nat → Row) (so : Nat) (sc : Src) (pl : Pal) (qo : Qoi) (pn : Pnm) (bm : Bmp) (tg : Tga) (px : Pcx) (fa : A) (hb : aH) (r : Nat) (n : Nat) (hr : isR r) (a2 : Int32) (hF : F_X10_putOut a2 r rr ww pl qo ≠ fno) : AM mX10_putOut 6 [.ref 0, .ref r, .int a2] (HC m0 sh rr ww so sc pl qo pn bm tg px fa hb) n 0 0 0 0 (P_X10_putOut m0 sh rr so sc pn bm tg px fa hb r n (F_X10_putOut a2 r rr ww pl qo)) (fun _ _ _ => False) := by
  generalize hE : F_X10_putOut a2 r rr ww pl qo = res at hF ⊢
  refine aw_of (by decide +kernel) rfl (Nat.le_of_ble_eq_true rfl) ?_
  unfold F_X10_putOut at hE
  refine aw_iload_n dX10_putOut_0 rfl ?_
  refine aw_callS dX10_putOut_1  csX10_118 rfl (kF_X10_familyOf _ _ a2) rfl (Nat.le_of_ble_eq_true rfl) (by decide) (by decide) (by decide) (by decide) (fun _ _ _ hf => False.elim hf) (fun r1 h1 n1 hp1 => ?_)
  obtain ⟨rfl, rfl, rfl⟩ := hp1
  refine aw_istore_n (lv2 := [(3, _), (0, _), (1, _), (2, _)]) dX10_putOut_4 (by decide) rfl ?_
  refine aw_iload_n dX10_putOut_5 rfl ?_
  refine aw_iconst (v := (-1)) dX10_putOut_6 (by decide) ?_
  refine aw_icmp_eq (tgt := 19) dX10_putOut_7 (by decide) (fun c7 => ?_) (fun c7 => ?_)
  · replace hE := fit hE c7
    exact aw_lv _ (fun _ h => absurd h List.not_mem_nil) (b_X10_putOut_19 m0 sh rr so sc pn bm tg px fa hb r n hr  ww pl qo _ hE hF)
  · replace hE := fif hE c7
    refine aw_aload_n dX10_putOut_10 rfl ?_
    refine aw_aload_n dX10_putOut_11 rfl ?_
    refine aw_iload_n dX10_putOut_12 rfl ?_
    refine aw_eqh (h2 := HC m0 sh (va_up rr r (rr r)) ww so sc pl qo pn bm tg px fa hb) (by rw [vus rr r]) ?_
    refine aw_callV dX10_putOut_13 at_mint cvX10_181 rfl (kF_X10_fits m0 sh rr r (rr r) ww so sc pl qo pn bm tg px fa hb _ hr a2 (fon_ne hE hF)) rfl (Nat.le_of_ble_eq_true rfl) (by decide) (by decide) (by decide) (by decide) (fun _ _ _ hf => False.elim hf) (fun r13 h13 n13 hp13 => ?_)
    obtain ⟨z13, s13, e13, rfl, rfl, rfl⟩ := hp13
    replace hE := fon_ok e13 hE
    refine aw_eqh (h2 := HC m0 sh rr ww so sc s13 qo pn bm tg px fa hb) (by rw [vus rr r]) ?_
    refine aw_if_ne (tgt := 21) dX10_putOut_16 (by decide) (fun c16 => ?_) (fun c16 => ?_)
    · replace hE := fif hE c16
      refine aw_aload_n dX10_putOut_21 rfl ?_
      refine aw_getf (v := .ref 14) dX10_putOut_22 flX10_27_9 at_mint rfl ?_
      refine aw_iconst (v := 0) dX10_putOut_25 (by decide) ?_
      refine aw_putf dX10_putOut_26 ptX10_83_1 (at_rowT (by decide)) (Nat.le_of_ble_eq_true rfl) ⟨rfl, rfl⟩ ?_
      refine aw_eqh (h2 := HC m0 sh rr (va_up ww 14 (0, (y_b (ww 14)))) so sc s13 qo pn bm tg px fa hb) (up_rowT (by decide)) ?_
      refine aw_aload_n dX10_putOut_29 rfl ?_
      refine aw_getf (v := .ref 20) dX10_putOut_30 flX10_48_9 at_mint rfl ?_
      refine aw_iload_n dX10_putOut_33 rfl ?_
      by_cases e34_0 : (F_X10_familyOf a2) = 0
      · replace hE := fit hE e34_0
        refine aw_aald (y := 21) dX10_putOut_34 at_formats (vp_in_iff.mpr (by rw [e34_0]; decide)) (by rw [e34_0]; rfl) ?_
        exact aw_lv _ (List.forall_mem_cons.mpr ⟨rfl, (List.forall_mem_cons.mpr ⟨rfl, (List.forall_mem_cons.mpr ⟨rfl, fun _ h => absurd h List.not_mem_nil⟩)⟩)⟩) (b_X10_putOut_10034 m0 sh rr so sc pn bm tg px fa hb r n hr  a2 (va_up ww 14 (0, (y_b (ww 14)))) s13 qo _ hE hF)
      replace hE := fif hE e34_0
      by_cases e34_1 : (F_X10_familyOf a2) = 1
      · replace hE := fit hE e34_1
        refine aw_aald (y := 23) dX10_putOut_34 at_formats (vp_in_iff.mpr (by rw [e34_1]; decide)) (by rw [e34_1]; rfl) ?_
        exact aw_lv _ (List.forall_mem_cons.mpr ⟨rfl, (List.forall_mem_cons.mpr ⟨rfl, (List.forall_mem_cons.mpr ⟨rfl, fun _ h => absurd h List.not_mem_nil⟩)⟩)⟩) (b_X10_putOut_20034 m0 sh rr so sc pn bm tg px fa hb r n hr  a2 (va_up ww 14 (0, (y_b (ww 14)))) s13 qo _ hE hF)
      replace hE := fif hE e34_1
      by_cases e34_2 : (F_X10_familyOf a2) = 2
      · replace hE := fit hE e34_2
        refine aw_aald (y := 24) dX10_putOut_34 at_formats (vp_in_iff.mpr (by rw [e34_2]; decide)) (by rw [e34_2]; rfl) ?_
        exact aw_lv _ (List.forall_mem_cons.mpr ⟨rfl, (List.forall_mem_cons.mpr ⟨rfl, (List.forall_mem_cons.mpr ⟨rfl, fun _ h => absurd h List.not_mem_nil⟩)⟩)⟩) (b_X10_putOut_30034 m0 sh rr so sc pn bm tg px fa hb r n hr  a2 (va_up ww 14 (0, (y_b (ww 14)))) s13 qo _ hE hF)
      replace hE := fif hE e34_2
      by_cases e34_3 : (F_X10_familyOf a2) = 3
      · replace hE := fit hE e34_3
        refine aw_aald (y := 26) dX10_putOut_34 at_formats (vp_in_iff.mpr (by rw [e34_3]; decide)) (by rw [e34_3]; rfl) ?_
        exact aw_lv _ (List.forall_mem_cons.mpr ⟨rfl, (List.forall_mem_cons.mpr ⟨rfl, (List.forall_mem_cons.mpr ⟨rfl, fun _ h => absurd h List.not_mem_nil⟩)⟩)⟩) (b_X10_putOut_40034 m0 sh rr so sc pn bm tg px fa hb r n hr  a2 (va_up ww 14 (0, (y_b (ww 14)))) s13 qo _ hE hF)
      replace hE := fif hE e34_3
      by_cases e34_4 : (F_X10_familyOf a2) = 4
      · replace hE := fit hE e34_4
        refine aw_aald (y := 28) dX10_putOut_34 at_formats (vp_in_iff.mpr (by rw [e34_4]; decide)) (by rw [e34_4]; rfl) ?_
        exact aw_lv _ (List.forall_mem_cons.mpr ⟨rfl, (List.forall_mem_cons.mpr ⟨rfl, (List.forall_mem_cons.mpr ⟨rfl, fun _ h => absurd h List.not_mem_nil⟩)⟩)⟩) (b_X10_putOut_50034 m0 sh rr so sc pn bm tg px fa hb r n hr  a2 (va_up ww 14 (0, (y_b (ww 14)))) s13 qo _ hE hF)
      replace hE := fif hE e34_4
      exact (hF hE.symm).elim
    · replace hE := fit hE c16
      exact aw_lv _ (fun _ h => absurd h List.not_mem_nil) (b_X10_putOut_19 m0 sh rr so sc pn bm tg px fa hb r n hr  ww s13 qo _ hE hF)
def P_X10_write (m0 : Mnt) (sh : Nat → Nat) (rr : Nat → Ras) (so : Nat) (sc : Src) (pn : Pnm) (bm : Bmp) (tg : Tga) (px : Pcx) (fa : A) (hb : aH) (n : Nat) (res : Out ((Nat → Row) × Pal × Qoi) Int32) : Option Value → aH → Nat → Prop := fun r1 h2 n2 => ∃ (a : Int32) (s : ((Nat → Row) × Pal × Qoi)), res = fok a s ∧ r1 = some (.int a) ∧ h2 = HC m0 sh rr s.1 so sc s.2.1 s.2.2 pn bm tg px fa hb ∧ n = n2
abbrev Q_X10_write_16 (m0 : Mnt) (sh : Nat → Nat) (rr : Nat → Ras) (so : Nat) (sc : Src) (pn : Pnm) (bm : Bmp) (tg : Tga) (px : Pcx) (fa : A) (hb : aH) (n : Nat) (k : (Nat → Row) → Pal → Qoi → Out ((Nat → Row) × Pal × Qoi) Int32) : Prop := ∀ (ww : (Nat → Row)) (pl : Pal) (qo : Qoi) (res : Out ((Nat → Row) × Pal × Qoi) Int32), k ww pl qo = res → res ≠ fno → AW (fun _ _ => True) mX10_write (rmD 7 0 0) 0 0 (P_X10_write m0 sh rr so sc pn bm tg px fa hb n res) (fun _ _ _ => False) 0 0 16 [] [] (HC m0 sh rr ww so sc pl qo pn bm tg px fa hb) n
def F_X10_write_16 (sh : (Nat → Nat)) (rr : (Nat → Ras))  (ww : (Nat → Row)) (pl : Pal) (qo : Qoi) : Out ((Nat → Row) × Pal × Qoi) Int32 := fok ((-2) : Int32) (ww, pl, qo)
set_option maxHeartbeats 1000000 in
set_option maxRecDepth 100000 in
theorem b_X10_write_16 (m0 : Mnt) (sh : Nat → Nat) (rr : Nat → Ras) (so : Nat) (sc : Src) (pn : Pnm) (bm : Bmp) (tg : Tga) (px : Pcx) (fa : A) (hb : aH) (n : Nat)   : Q_X10_write_16 m0 sh rr so sc pn bm tg px fa hb n (F_X10_write_16 sh rr) := by
  intro ww pl qo res hE hF
  unfold F_X10_write_16 at hE
  refine aw_bipush (v := (-2)) dX10_write_16 (by decide) ?_
  exact aw_iret dX10_write_18 rfl (Nat.zero_le _) (Nat.zero_le _) (Nat.zero_le _) (Nat.zero_le _) ⟨_, _, hE.symm, rfl, rfl, rfl⟩
def F_X10_write (a1 : Int32) (a2 : Int32) (sh : (Nat → Nat)) (rr : (Nat → Ras)) (ww : (Nat → Row)) (pl : Pal) (qo : Qoi) : Out ((Nat → Row) × Pal × Qoi) Int32 := fon (F_X10_hasRaster a1 sh rr) (fun z2 s2 => if z2 = 0 then (F_X10_write_16 sh rr ww pl qo) else (if (F_X10_familyOf a2) = (-1) then (F_X10_write_16 sh rr ww pl qo) else (if inb a1 4 then (if isR (sh (Int32.toNatClampNeg a1)) then (fon (F_X10_putOut a2 (sh (Int32.toNatClampNeg a1)) rr ww pl qo) (fun z27 s27 => if z27 = 0 then (fok ((-1) : Int32) (s27.1, s27.2.1, s27.2.2)) else (fok ((y_n (s27.1 14)) : Int32) (s27.1, s27.2.1, s27.2.2))) (fun _ _ => fno)) else fno) else fno))) (fun _ _ => fno)
set_option maxHeartbeats 1000000 in
set_option maxRecDepth 100000 in
theorem kF_X10_write (m0 : Mnt) (sh : Nat → Nat) (rr : Nat → Ras) (ww : Nat → Row) (so : Nat) (sc : Src) (pl : Pal) (qo : Qoi) (pn : Pnm) (bm : Bmp) (tg : Tga) (px : Pcx) (fa : A) (hb : aH) (n : Nat)  (a1 : Int32) (a2 : Int32) (hF : F_X10_write a1 a2 sh rr ww pl qo ≠ fno) : AM mX10_write 7 [.ref 0, .int a1, .int a2] (HC m0 sh rr ww so sc pl qo pn bm tg px fa hb) n 0 0 0 0 (P_X10_write m0 sh rr so sc pn bm tg px fa hb n (F_X10_write a1 a2 sh rr ww pl qo)) (fun _ _ _ => False) := by
  generalize hE : F_X10_write a1 a2 sh rr ww pl qo = res at hF ⊢
  refine aw_of (by decide +kernel) rfl (Nat.le_of_ble_eq_true rfl) ?_
  unfold F_X10_write at hE
  refine aw_aload_n dX10_write_0 rfl ?_
  refine aw_iload_n dX10_write_1 rfl ?_
  refine aw_callV dX10_write_2 at_mint cvX10_115 rfl (kF_X10_hasRaster m0 sh rr ww so sc pl qo pn bm tg px fa hb _  a1 (fon_ne hE hF)) rfl (Nat.le_of_ble_eq_true rfl) (by decide) (by decide) (by decide) (by decide) (fun _ _ _ hf => False.elim hf) (fun r2 h2 n2 hp2 => ?_)
  obtain ⟨z2, s2, e2, rfl, rfl, rfl⟩ := hp2
  replace hE := fon_ok e2 hE
  refine aw_if_eq (tgt := 16) dX10_write_5 (by decide) (fun c5 => ?_) (fun c5 => ?_)
  · replace hE := fit hE c5
    exact aw_lv _ (fun _ h => absurd h List.not_mem_nil) (b_X10_write_16 m0 sh rr so sc pn bm tg px fa hb n   ww pl qo _ hE hF)
  · replace hE := fif hE c5
    refine aw_iload_n dX10_write_8 rfl ?_
    refine aw_callS dX10_write_9  csX10_118 rfl (kF_X10_familyOf _ _ a2) rfl (Nat.le_of_ble_eq_true rfl) (by decide) (by decide) (by decide) (by decide) (fun _ _ _ hf => False.elim hf) (fun r9 h9 n9 hp9 => ?_)
    obtain ⟨rfl, rfl, rfl⟩ := hp9
    refine aw_iconst (v := (-1)) dX10_write_12 (by decide) ?_
    refine aw_icmp_ne (tgt := 19) dX10_write_13 (by decide) (fun c13 => ?_) (fun c13 => ?_)
    · replace hE := fif hE c13
      refine aw_aload_n dX10_write_19 rfl ?_
      refine aw_aload_n dX10_write_20 rfl ?_
      refine aw_getf (v := .ref 1) dX10_write_21 flX10_11_9 at_mint rfl ?_
      refine aw_iload_n dX10_write_24 rfl ?_
      obtain ⟨g25, hE⟩ := fgd hE hF
      obtain ⟨G25, hE⟩ := fgd hE hF
      refine aw_aald (y := (sh (Int32.toNatClampNeg a1))) dX10_write_25 at_shelves (vp_in_iff.mpr g25) (if_pos (inbN g25)) ?_
      refine aw_iload_n dX10_write_26 rfl ?_
      refine aw_callV dX10_write_27 at_mint cvX10_122 rfl (kF_X10_putOut m0 sh rr ww so sc pl qo pn bm tg px fa hb (sh (Int32.toNatClampNeg a1)) _ G25 a2 (fon_ne hE hF)) rfl (Nat.le_of_ble_eq_true rfl) (by decide) (by decide) (by decide) (by decide) (fun _ _ _ hf => False.elim hf) (fun r27 h27 n27 hp27 => ?_)
      obtain ⟨z27, s27, e27, rfl, rfl, rfl⟩ := hp27
      replace hE := fon_ok e27 hE
      refine aw_if_eq (tgt := 43) dX10_write_30 (by decide) (fun c30 => ?_) (fun c30 => ?_)
      · replace hE := fit hE c30
        refine aw_iconst (v := (-1)) dX10_write_43 (by decide) ?_
        exact aw_iret dX10_write_44 rfl (Nat.zero_le _) (Nat.zero_le _) (Nat.zero_le _) (Nat.zero_le _) ⟨_, _, hE.symm, rfl, rfl, rfl⟩
      · replace hE := fif hE c30
        refine aw_aload_n dX10_write_33 rfl ?_
        refine aw_getf (v := .ref 14) dX10_write_34 flX10_27_9 at_mint rfl ?_
        refine aw_getf (v := .int (y_n (s27.1 14))) dX10_write_37 flX10_83_1 (at_rowT (by decide)) rfl ?_
        refine aw_goto (tgt := 44) dX10_write_40 (by decide) ?_
        exact aw_iret dX10_write_44 rfl (Nat.zero_le _) (Nat.zero_le _) (Nat.zero_le _) (Nat.zero_le _) ⟨_, _, hE.symm, rfl, rfl, rfl⟩
    · replace hE := fit hE c13
      exact aw_lv _ (fun _ h => absurd h List.not_mem_nil) (b_X10_write_16 m0 sh rr so sc pn bm tg px fa hb n   ww pl qo _ hE hF)
def P_X10_bytes (m0 : Mnt) (sh : Nat → Nat) (rr : Nat → Ras) (ww : Nat → Row) (so : Nat) (sc : Src) (pl : Pal) (qo : Qoi) (pn : Pnm) (bm : Bmp) (tg : Tga) (px : Pcx) (fa : A) (hb : aH) (n : Nat) (res : Out Unit Int64) : Option Value → aH → Nat → Prop := fun r1 h2 n2 => ∃ (a : Int64) (s : Unit), res = fok a s ∧ r1 = some (.long a) ∧ h2 = HC m0 sh rr ww so sc pl qo pn bm tg px fa hb ∧ n = n2
def X_X10_bytes (m0 : Mnt) (sh : Nat → Nat) (rr : Nat → Ras) (ww : Nat → Row) (so : Nat) (sc : Src) (pl : Pal) (qo : Qoi) (pn : Pnm) (bm : Bmp) (tg : Tga) (px : Pcx) (fa : A) (hb : aH) (n : Nat) (res : Out Unit Int64) : String → aH → Nat → Prop := fun E h2 n2 => ∃ s : Unit, res = fex E s ∧ h2 = HC m0 sh rr ww so sc pl qo pn bm tg px fa hb ∧ n = n2
abbrev Q_X10_bytes_15 (m0 : Mnt) (sh : Nat → Nat) (rr : Nat → Ras) (ww : Nat → Row) (so : Nat) (sc : Src) (pl : Pal) (qo : Qoi) (pn : Pnm) (bm : Bmp) (tg : Tga) (px : Pcx) (fa : A) (hb : aH) (n : Nat) (k : Out Unit Int64) : Prop := ∀  (res : Out Unit Int64), k  = res → res ≠ fno → AW (fun _ _ => True) mX10_bytes (rmD 3 1 6) 0 0 (P_X10_bytes m0 sh rr ww so sc pl qo pn bm tg px fa hb n res) (X_X10_bytes m0 sh rr ww so sc pl qo pn bm tg px fa hb n res) 0 0 15 [] [] (HC m0 sh rr ww so sc pl qo pn bm tg px fa hb) n
abbrev Q_X10_bytes_30 (m0 : Mnt) (sh : Nat → Nat) (rr : Nat → Ras) (ww : Nat → Row) (so : Nat) (sc : Src) (pl : Pal) (qo : Qoi) (pn : Pnm) (bm : Bmp) (tg : Tga) (px : Pcx) (fa : A) (hb : aH) (n : Nat) (k : Int32 → Int64 → Int32 → Out Unit Int64) : Prop := ∀ (v1 : Int32) (v2 : Int64) (v4 : Int32) (res : Out Unit Int64), k v1 v2 v4 = res → res ≠ fno → AW (fun _ _ => True) mX10_bytes (rmD 3 1 6) 0 0 (P_X10_bytes m0 sh rr ww so sc pl qo pn bm tg px fa hb n res) (X_X10_bytes m0 sh rr ww so sc pl qo pn bm tg px fa hb n res) 0 0 30 [(0, .ref 0), (1, .int v1), (2, .long v2), (4, .int v4)] [] (HC m0 sh rr ww so sc pl qo pn bm tg px fa hb) n
abbrev Q_X10_bytes_66 (m0 : Mnt) (sh : Nat → Nat) (rr : Nat → Ras) (ww : Nat → Row) (so : Nat) (sc : Src) (pl : Pal) (qo : Qoi) (pn : Pnm) (bm : Bmp) (tg : Tga) (px : Pcx) (fa : A) (hb : aH) (n : Nat) (k : Int32 → Int32 → Int32 → Int64 → Out Unit Int64) : Prop := ∀ (v1 : Int32) (v4 : Int32) (t0 : Int32) (t1 : Int64) (res : Out Unit Int64), k v1 v4 t0 t1 = res → res ≠ fno → AW (fun _ _ => True) mX10_bytes (rmD 3 1 6) 0 0 (P_X10_bytes m0 sh rr ww so sc pl qo pn bm tg px fa hb n res) (X_X10_bytes m0 sh rr ww so sc pl qo pn bm tg px fa hb n res) 0 0 66 [(0, .ref 0), (1, .int v1), (4, .int v4)] [.int t0, .long t1] (HC m0 sh rr ww so sc pl qo pn bm tg px fa hb) n
def F_X10_bytes_66 (ww : (Nat → Row)) (k30 : Int32 → Int64 → Int32 → Out Unit Int64) (v1 : Int32) (v4 : Int32) (t0 : Int32) (t1 : Int64) : Out Unit Int64 := k30 v1 (t1 ||| (t0).toInt64) (v4 + 1)
set_option maxHeartbeats 1000000 in
set_option maxRecDepth 100000 in
theorem b_X10_bytes_66 (m0 : Mnt) (sh : Nat → Nat) (rr : Nat → Ras) (ww : Nat → Row) (so : Nat) (sc : Src) (pl : Pal) (qo : Qoi) (pn : Pnm) (bm : Bmp) (tg : Tga) (px : Pcx) (fa : A) (hb : aH) (n : Nat)  (k30 : Int32 → Int64 → Int32 → Out Unit Int64) (hk30 : Q_X10_bytes_30 m0 sh rr ww so sc pl qo pn bm tg px fa hb n k30) : Q_X10_bytes_66 m0 sh rr ww so sc pl qo pn bm tg px fa hb n (F_X10_bytes_66 ww k30) := by
  intro v1 v4 t0 t1 res hE hF
  unfold F_X10_bytes_66 at hE
  refine aw_i2l dX10_bytes_66 ?_
  refine aw_lor dX10_bytes_67 ?_
  refine aw_lstore_n (lv2 := [(2, _), (0, _), (1, _), (4, _)]) dX10_bytes_68 (by decide) rfl ?_
  refine aw_iinc (v := (v4 + 1)) (lv2 := [(4, _), (2, _), (0, _), (1, _)]) dX10_bytes_69 rfl (incE (by decide)) (by decide) rfl ?_
  refine aw_goto (tgt := 30) dX10_bytes_72 (by decide) ?_
  exact aw_lv _ (List.forall_mem_cons.mpr ⟨rfl, (List.forall_mem_cons.mpr ⟨rfl, (List.forall_mem_cons.mpr ⟨rfl, (List.forall_mem_cons.mpr ⟨rfl, fun _ h => absurd h List.not_mem_nil⟩)⟩)⟩)⟩) (hk30 v1 (t1 ||| (t0).toInt64) (v4 + 1) _ hE hF)
def F_X10_bytes_30 (ww : (Nat → Row)) (k30 : Int32 → Int64 → Int32 → Out Unit Int64) (v1 : Int32) (v2 : Int64) (v4 : Int32) : Out Unit Int64 := if 8 ≤ v4 then (fok (v2 : Int64) ()) else (fon (F_X1_at (v1 + v4) (ww 14)) (fun z45 s45 => if z45 = (-1) then (F_X10_bytes_66 ww k30 v1 v4 (0 : Int32) (v2 <<< (((8 : Int32)).toInt64 &&& 63))) else (F_X10_bytes_66 ww k30 v1 v4 z45 (v2 <<< (((8 : Int32)).toInt64 &&& 63)))) (fun _ _ => fno))
set_option maxHeartbeats 1000000 in
set_option maxRecDepth 100000 in
theorem b_X10_bytes_30 (m0 : Mnt) (sh : Nat → Nat) (rr : Nat → Ras) (ww : Nat → Row) (so : Nat) (sc : Src) (pl : Pal) (qo : Qoi) (pn : Pnm) (bm : Bmp) (tg : Tga) (px : Pcx) (fa : A) (hb : aH) (n : Nat)  (k30 : Int32 → Int64 → Int32 → Out Unit Int64) (hk30 : Q_X10_bytes_30 m0 sh rr ww so sc pl qo pn bm tg px fa hb n k30) : Q_X10_bytes_30 m0 sh rr ww so sc pl qo pn bm tg px fa hb n (F_X10_bytes_30 ww k30) := by
  intro v1 v2 v4 res hE hF
  unfold F_X10_bytes_30 at hE
  refine aw_iload dX10_bytes_30 rfl ?_
  refine aw_bipush (v := 8) dX10_bytes_32 (by decide) ?_
  refine aw_icmp_ge (tgt := 75) dX10_bytes_34 (by decide) (fun c34 => ?_) (fun c34 => ?_)
  · replace hE := fit hE c34
    refine aw_lload_n dX10_bytes_75 rfl ?_
    exact aw_lret dX10_bytes_76 rfl (Nat.zero_le _) (Nat.zero_le _) (Nat.zero_le _) (Nat.zero_le _) ⟨_, _, hE.symm, rfl, rfl, rfl⟩
  · replace hE := fif hE c34
    refine aw_aload_n dX10_bytes_37 rfl ?_
    refine aw_getf (v := .ref 14) dX10_bytes_38 flX10_27_9 at_mint rfl ?_
    refine aw_iload_n dX10_bytes_41 rfl ?_
    refine aw_iload dX10_bytes_42 rfl ?_
    refine aw_iadd dX10_bytes_44 ?_
    refine aw_eqh (h2 := HC m0 sh rr (va_up ww 14 (ww 14)) so sc pl qo pn bm tg px fa hb) (by rw [vus ww 14]) ?_
    refine aw_callV dX10_bytes_45 (at_row (by decide)) cvX10_126 rfl (kF_X1_at m0 sh rr ww 14 (ww 14) so sc pl qo pn bm tg px fa hb _ (by decide) (v1 + v4) (fon_ne hE hF)) rfl (Nat.le_of_ble_eq_true rfl) (by decide) (by decide) (by decide) (by decide) (fun _ _ _ hf => False.elim hf) (fun r45 h45 n45 hp45 => ?_)
    obtain ⟨z45, s45, e45, rfl, rfl, rfl⟩ := hp45
    replace hE := fon_ok e45 hE
    refine aw_eqh (h2 := HC m0 sh rr ww so sc pl qo pn bm tg px fa hb) (by rw [vus ww 14]) ?_
    refine aw_istore (lv2 := [(5, _), (0, _), (1, _), (2, _), (4, _)]) dX10_bytes_48 (by decide) rfl ?_
    refine aw_lload_n dX10_bytes_50 rfl ?_
    refine aw_bipush (v := 8) dX10_bytes_51 (by decide) ?_
    refine aw_lshl dX10_bytes_53 ?_
    refine aw_iload dX10_bytes_54 rfl ?_
    refine aw_iconst (v := (-1)) dX10_bytes_56 (by decide) ?_
    refine aw_icmp_ne (tgt := 64) dX10_bytes_57 (by decide) (fun c57 => ?_) (fun c57 => ?_)
    · replace hE := fif hE c57
      refine aw_iload dX10_bytes_64 rfl ?_
      exact aw_lv _ (List.forall_mem_cons.mpr ⟨rfl, (List.forall_mem_cons.mpr ⟨rfl, (List.forall_mem_cons.mpr ⟨rfl, fun _ h => absurd h List.not_mem_nil⟩)⟩)⟩) (b_X10_bytes_66 m0 sh rr ww so sc pl qo pn bm tg px fa hb n  k30 hk30 v1 v4 z45 (v2 <<< (((8 : Int32)).toInt64 &&& 63)) _ hE hF)
    · replace hE := fit hE c57
      refine aw_iconst (v := 0) dX10_bytes_60 (by decide) ?_
      refine aw_goto (tgt := 66) dX10_bytes_61 (by decide) ?_
      exact aw_lv _ (List.forall_mem_cons.mpr ⟨rfl, (List.forall_mem_cons.mpr ⟨rfl, (List.forall_mem_cons.mpr ⟨rfl, fun _ h => absurd h List.not_mem_nil⟩)⟩)⟩) (b_X10_bytes_66 m0 sh rr ww so sc pl qo pn bm tg px fa hb n  k30 hk30 v1 v4 (0 : Int32) (v2 <<< (((8 : Int32)).toInt64 &&& 63)) _ hE hF)
def F_X10_bytes_15 (ww : (Nat → Row))   : Out Unit Int64 := fex "java/util/NoSuchElementException" ()
set_option maxHeartbeats 1000000 in
set_option maxRecDepth 100000 in
theorem b_X10_bytes_15 (m0 : Mnt) (sh : Nat → Nat) (rr : Nat → Ras) (ww : Nat → Row) (so : Nat) (sc : Src) (pl : Pal) (qo : Qoi) (pn : Pnm) (bm : Bmp) (tg : Tga) (px : Pcx) (fa : A) (hb : aH) (n : Nat)   : Q_X10_bytes_15 m0 sh rr ww so sc pl qo pn bm tg px fa hb n (F_X10_bytes_15 ww) := by
  intro res hE hF
  unfold F_X10_bytes_15 at hE
  exact aw_throwN dX10_bytes_15 dX10_bytes_18 dX10_bytes_19 dX10_bytes_21 dX10_bytes_24 tn129 rfl (by decide) (Nat.le_of_ble_eq_true rfl) (by decide) (by decide) ⟨_, hE.symm, rfl, rfl⟩
def F_X10_bytes (a1 : Int32) (ww : (Nat → Row)) : Out Unit Int64 := if a1 < 0 then (F_X10_bytes_15 ww ) else (if a1 < (y_n (ww 14)) then (lp (fun _ _ _ => fno) (F_X10_bytes_30 ww) FU a1 (0 : Int64) (0 : Int32)) else (F_X10_bytes_15 ww ))
set_option maxHeartbeats 1000000 in
set_option maxRecDepth 100000 in
theorem kF_X10_bytes (m0 : Mnt) (sh : Nat → Nat) (rr : Nat → Ras) (ww : Nat → Row) (so : Nat) (sc : Src) (pl : Pal) (qo : Qoi) (pn : Pnm) (bm : Bmp) (tg : Tga) (px : Pcx) (fa : A) (hb : aH) (n : Nat)  (a1 : Int32) (hF : F_X10_bytes a1 ww ≠ fno) : AM mX10_bytes 3 [.ref 0, .int a1] (HC m0 sh rr ww so sc pl qo pn bm tg px fa hb) n 1 6 0 0 (P_X10_bytes m0 sh rr ww so sc pl qo pn bm tg px fa hb n (F_X10_bytes a1 ww)) (X_X10_bytes m0 sh rr ww so sc pl qo pn bm tg px fa hb n (F_X10_bytes a1 ww)) := by
  generalize hE : F_X10_bytes a1 ww = res at hF ⊢
  refine aw_of (by decide +kernel) rfl (Nat.le_of_ble_eq_true rfl) ?_
  unfold F_X10_bytes at hE
  refine aw_iload_n dX10_bytes_0 rfl ?_
  refine aw_if_lt (tgt := 15) dX10_bytes_1 (by decide) (fun c1 => ?_) (fun c1 => ?_)
  · replace hE := fit hE c1
    exact aw_lv _ (fun _ h => absurd h List.not_mem_nil) (b_X10_bytes_15 m0 sh rr ww so sc pl qo pn bm tg px fa hb n    _ hE hF)
  · replace hE := fif hE c1
    refine aw_iload_n dX10_bytes_4 rfl ?_
    refine aw_aload_n dX10_bytes_5 rfl ?_
    refine aw_getf (v := .ref 14) dX10_bytes_6 flX10_27_9 at_mint rfl ?_
    refine aw_getf (v := .int (y_n (ww 14))) dX10_bytes_9 flX10_83_1 (at_rowT (by decide)) rfl ?_
    refine aw_icmp_lt (tgt := 25) dX10_bytes_12 (by decide) (fun c12 => ?_) (fun c12 => ?_)
    · replace hE := fit hE c12
      refine aw_lconst (v := 0) dX10_bytes_25 (by decide) ?_
      refine aw_lstore_n (lv2 := [(2, _), (0, _), (1, _)]) dX10_bytes_26 (by decide) rfl ?_
      refine aw_iconst (v := 0) dX10_bytes_27 (by decide) ?_
      refine aw_istore (lv2 := [(4, _), (2, _), (0, _), (1, _)]) dX10_bytes_28 (by decide) rfl ?_
      exact aw_lv _ (List.forall_mem_cons.mpr ⟨rfl, (List.forall_mem_cons.mpr ⟨rfl, (List.forall_mem_cons.mpr ⟨rfl, (List.forall_mem_cons.mpr ⟨rfl, fun _ h => absurd h List.not_mem_nil⟩)⟩)⟩)⟩) (lp_ind (Q_X10_bytes_30 m0 sh rr ww so sc pl qo pn bm tg px fa hb n) (fun _ _ _ res hq hF => (hF hq.symm).elim) (fun k hk => b_X10_bytes_30 m0 sh rr ww so sc pl qo pn bm tg px fa hb n   k hk) FU a1 (0 : Int64) (0 : Int32) _ hE hF)
    · replace hE := fif hE c12
      exact aw_lv _ (fun _ h => absurd h List.not_mem_nil) (b_X10_bytes_15 m0 sh rr ww so sc pl qo pn bm tg px fa hb n    _ hE hF)
