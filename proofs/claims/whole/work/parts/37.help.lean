/-- the law's own array of one long -/
def LB (f : Nat → Int64) : aH := fun k => if k = 43 then some (.inl (.long, 1, .inr (.inl f))) else none
theorem at_out {m0 : Mnt} {sh : Nat → Nat} {rr : Nat → Ras} {ww : Nat → Row} {so : Nat} {sc : Src} {pl : Pal} {qo : Qoi} {pn : Pnm} {bm : Bmp} {tg : Tga} {px : Pcx} {fa : A} {mo : MO} {mw : MW} {mr : MR} {ms : Nat} {mt : A} {mu : A} {dd : A} {wi : A} {hi : A} {gt : A} {sp : A} {ta : A} {li : A} {sr : A} {co : A} {f : Nat → Int64} : HC m0 sh rr ww so sc pl qo pn bm tg px fa (HM mo mw mr ms mt mu dd wi hi gt sp ta li sr co (LB f)) 43 = some (.inl (.long, 1, .inr (.inl f))) := rfl
theorem HC_lt {m0 : Mnt} {sh : Nat → Nat} {rr : Nat → Ras} {ww : Nat → Row} {so : Nat} {sc : Src} {pl : Pal} {qo : Qoi} {pn : Pnm} {bm : Bmp} {tg : Tga} {px : Pcx} {fa : A} {h1 h2 : aH} {k : Nat} (hk : k < 31) (he : h1 k = h2 k) : HC m0 sh rr ww so sc pl qo pn bm tg px fa h1 k = HC m0 sh rr ww so sc pl qo pn bm tg px fa h2 k := by
  unfold HC
  rw [he]
theorem HM_out {mo : MO} {mw : MW} {mr : MR} {ms : Nat} {mt : A} {mu : A} {dd : A} {wi : A} {hi : A} {gt : A} {sp : A} {ta : A} {li : A} {sr : A} {co : A} {h1 : aH} {k : Nat} (hk : k < 31 ∨ 43 ≤ k) : HM mo mw mr ms mt mu dd wi hi gt sp ta li sr co h1 k = h1 k := by
  unfold HM
  rw [if_neg (by omega), if_neg (by omega), if_neg (by omega), if_neg (by omega), if_neg (by omega), if_neg (by omega), if_neg (by omega), if_neg (by omega), if_neg (by omega), if_neg (by omega), if_neg (by omega), if_neg (by omega)]
theorem HM_cg {mo : MO} {mw : MW} {mr : MR} {ms : Nat} {mt : A} {mu : A} {dd : A} {wi : A} {hi : A} {gt : A} {sp : A} {ta : A} {li : A} {sr : A} {co : A} {h1 h2 : aH} {k : Nat} (he : h1 k = h2 k) : HM mo mw mr ms mt mu dd wi hi gt sp ta li sr co h1 k = HM mo mw mr ms mt mu dd wi hi gt sp ta li sr co h2 k := by
  unfold HM
  rw [he]
/-- one side's objects and the other's have different numbers -/
theorem comm {m0 : Mnt} {sh : Nat → Nat} {rr : Nat → Ras} {ww : Nat → Row} {so : Nat} {sc : Src} {pl : Pal} {qo : Qoi} {pn : Pnm} {bm : Bmp} {tg : Tga} {px : Pcx} {fa : A} {mo : MO} {mw : MW} {mr : MR} {ms : Nat} {mt : A} {mu : A} {dd : A} {wi : A} {hi : A} {gt : A} {sp : A} {ta : A} {li : A} {sr : A} {co : A} {h0 : aH} (hz : ∀ k, k < 43 → h0 k = none) : HC m0 sh rr ww so sc pl qo pn bm tg px fa (HM mo mw mr ms mt mu dd wi hi gt sp ta li sr co h0) = HM mo mw mr ms mt mu dd wi hi gt sp ta li sr co (HC m0 sh rr ww so sc pl qo pn bm tg px fa h0) := by
  funext k
  rcases Nat.lt_or_ge k 31 with h | h
  · rw [HM_out (Or.inl h)]
    exact HC_lt h (HM_out (Or.inl h))
  · rw [HC_ge h]
    exact HM_cg (HC_ge h).symm
theorem LB_z {f : Nat → Int64} : ∀ k, k < 43 → LB f k = none := by
  intro k hk
  unfold LB
  rw [if_neg (by omega)]
theorem up_out {m0 : Mnt} {sh : Nat → Nat} {rr : Nat → Ras} {ww : Nat → Row} {so : Nat} {sc : Src} {pl : Pal} {qo : Qoi} {pn : Pnm} {bm : Bmp} {tg : Tga} {px : Pcx} {fa : A} {mo : MO} {mw : MW} {mr : MR} {ms : Nat} {mt : A} {mu : A} {dd : A} {wi : A} {hi : A} {gt : A} {sp : A} {ta : A} {li : A} {sr : A} {co : A} {f g : Nat → Int64} : va_up (HC m0 sh rr ww so sc pl qo pn bm tg px fa (HM mo mw mr ms mt mu dd wi hi gt sp ta li sr co (LB f))) 43 (some (.inl (.long, 1, .inr (.inl g)))) = HC m0 sh rr ww so sc pl qo pn bm tg px fa (HM mo mw mr ms mt mu dd wi hi gt sp ta li sr co (LB g)) := by
  funext k
  by_cases e : k = 43
  · subst e; rw [va_up_self]; rfl
  · rw [va_up_ne _ _ e]
    have hl : LB f k = LB g k := by unfold LB; rw [if_neg e, if_neg e]
    rcases Nat.lt_or_ge k 31 with h | h
    · exact HC_lt h (HM_cg hl)
    · rw [HC_ge h, HC_ge h]
      exact HM_cg hl
theorem klL_13 : Cond.classLink RL 13 "java/lang/IllegalArgumentException" ∈ tb := tc5 (i := 218) (by decide +kernel) rfl
theorem ca_13 : Cond.castable "java/lang/IllegalArgumentException" "java/lang/IllegalArgumentException" ∈ lw_tbl := tl5 (List.mem_of_getElem? (i := 226) (by decide +kernel))
theorem klL_15 : Cond.classLink RL 15 "java/util/NoSuchElementException" ∈ tb := tc5 (i := 219) (by decide +kernel) rfl
theorem ca_15 : Cond.castable "java/util/NoSuchElementException" "java/util/NoSuchElementException" ∈ lw_tbl := tl6 (List.mem_of_getElem? (i := 2) (by decide +kernel))
theorem klL_25 : Cond.classLink RL 25 "java/lang/IndexOutOfBoundsException" ∈ tb := tc6 (i := 27) (by decide +kernel) rfl
theorem ca_25 : Cond.castable "java/lang/IndexOutOfBoundsException" "java/lang/IndexOutOfBoundsException" ∈ lw_tbl := tl6 (List.mem_of_getElem? (i := 39) (by decide +kernel))
def PL_read (pl : Pal) (mo : MO) (mw : MW) (mr : MR) (ms : Nat) (mt : A) (mu : A) (dd : A) (wi : A) (hi : A) (gt : A) (sp : A) (ta : A) (li : A) (sr : A) (co : A) (f : Nat → Int64) (n : Nat) (res : Out (Mnt × (Nat → Nat) × (Nat → Ras) × (Nat → Row) × Nat × Src × Qoi × Pnm × Bmp × Tga × Pcx × A) Int32) : Option Value → aH → Nat → Prop := fun r h2 n2 => (∃ (z : Int32) (s : (Mnt × (Nat → Nat) × (Nat → Ras) × (Nat → Row) × Nat × Src × Qoi × Pnm × Bmp × Tga × Pcx × A)), res = fok z s ∧ r = some (.int 0) ∧ h2 = HC s.1 s.2.1 s.2.2.1 s.2.2.2.1 s.2.2.2.2.1 s.2.2.2.2.2.1 pl s.2.2.2.2.2.2.1 s.2.2.2.2.2.2.2.1 s.2.2.2.2.2.2.2.2.1 s.2.2.2.2.2.2.2.2.2.1 s.2.2.2.2.2.2.2.2.2.2.1 s.2.2.2.2.2.2.2.2.2.2.2 (HM mo mw mr ms mt mu dd wi hi gt sp ta li sr co (LB (vp_updL f (Int32.toNatClampNeg 0) z.toInt64))) ∧ n = n2) ∨ (∃ s : (Mnt × (Nat → Nat) × (Nat → Ras) × (Nat → Row) × Nat × Src × Qoi × Pnm × Bmp × Tga × Pcx × A), res = fex "java/lang/IllegalArgumentException" s ∧ r = some (.int 1) ∧ h2 = HC s.1 s.2.1 s.2.2.1 s.2.2.2.1 s.2.2.2.2.1 s.2.2.2.2.2.1 pl s.2.2.2.2.2.2.1 s.2.2.2.2.2.2.2.1 s.2.2.2.2.2.2.2.2.1 s.2.2.2.2.2.2.2.2.2.1 s.2.2.2.2.2.2.2.2.2.2.1 s.2.2.2.2.2.2.2.2.2.2.2 (HM mo mw mr ms mt mu dd wi hi gt sp ta li sr co (LB f)) ∧ n = n2) ∨ (∃ s : (Mnt × (Nat → Nat) × (Nat → Ras) × (Nat → Row) × Nat × Src × Qoi × Pnm × Bmp × Tga × Pcx × A), res = fex "java/util/NoSuchElementException" s ∧ r = some (.int 2) ∧ h2 = HC s.1 s.2.1 s.2.2.1 s.2.2.2.1 s.2.2.2.2.1 s.2.2.2.2.2.1 pl s.2.2.2.2.2.2.1 s.2.2.2.2.2.2.2.1 s.2.2.2.2.2.2.2.2.1 s.2.2.2.2.2.2.2.2.2.1 s.2.2.2.2.2.2.2.2.2.2.1 s.2.2.2.2.2.2.2.2.2.2.2 (HM mo mw mr ms mt mu dd wi hi gt sp ta li sr co (LB f)) ∧ n = n2)
set_option maxHeartbeats 1000000 in
set_option maxRecDepth 100000 in
theorem kL_read (m0 : Mnt) (sh : Nat → Nat) (rr : Nat → Ras) (ww : Nat → Row) (so : Nat) (sc : Src) (pl : Pal) (qo : Qoi) (pn : Pnm) (bm : Bmp) (tg : Tga) (px : Pcx) (fa : A) (mo : MO) (mw : MW) (mr : MR) (ms : Nat) (mt : A) (mu : A) (dd : A) (wi : A) (hi : A) (gt : A) (sp : A) (ta : A) (li : A) (sr : A) (co : A) (f : Nat → Int64) (n : Nat) (a1 : Int32) (a2 : Int32) (hF : F_X10_read a1 a2 m0 sh rr ww so sc qo pn bm tg px fa ≠ fno) (hX : ∀ E s, F_X10_read a1 a2 m0 sh rr ww so sc qo pn bm tg px fa = fex E s → E = "java/lang/IllegalArgumentException" ∨ E = "java/util/NoSuchElementException") : AM mL_read 10 [.ref 0, .int a1, .int a2, .ref 43] (HC m0 sh rr ww so sc pl qo pn bm tg px fa (HM mo mw mr ms mt mu dd wi hi gt sp ta li sr co (LB f))) n 1 6 1 6 (PL_read pl mo mw mr ms mt mu dd wi hi gt sp ta li sr co f n (F_X10_read a1 a2 m0 sh rr ww so sc qo pn bm tg px fa)) noX := by
  generalize hE : F_X10_read a1 a2 m0 sh rr ww so sc qo pn bm tg px fa = res at hF hX ⊢
  refine aw_ofH (by decide +kernel) (by decide) (Nat.le_of_ble_eq_true rfl) ?_
  refine aw_aload_n dL_read_0 rfl ?_
  refine aw_iconst (v := 0) dL_read_1 (by decide) ?_
  refine aw_aload_n dL_read_2 rfl ?_
  refine aw_iload_n dL_read_3 rfl ?_
  refine aw_iload_n dL_read_4 rfl ?_
  refine aw_callV dL_read_5 at_mint cvL_7 rfl (kF_X10_read m0 sh rr ww so sc pl qo pn bm tg px fa (HM mo mw mr ms mt mu dd wi hi gt sp ta li sr co (LB f)) n a1 a2 (by rw [hE]; exact hF)) rfl (Nat.le_of_ble_eq_true rfl) (by decide) (by decide) (by decide) (by decide) (fun E h2 n2 hx => ?_) (fun r h n2 hp => ?_)
  · obtain ⟨s, e, rfl, rfl⟩ := hx
    rw [hE] at e
    rcases hX E s e with rfl | rfl
    · refine aw_catch (name := "java/lang/IllegalArgumentException") [] ⟨0, 10, 13, 13⟩ [⟨0, 10, 17, 15⟩] rfl (fun _ h => absurd h List.not_mem_nil) (by decide) (by decide) klL_13 ca_13 ?_
      refine aw_astoreX (lv2 := [(4, _), (0, _), (1, _), (2, _), (3, _)]) dL_read_13 (by decide) rfl ?_
      refine aw_iconst (v := 1) dL_read_15 (by decide) ?_
      exact aw_iret dL_read_16 rfl (Nat.le_of_ble_eq_true rfl) (Nat.le_of_ble_eq_true rfl) (Nat.le_of_ble_eq_true rfl) (Nat.le_of_ble_eq_true rfl) (Or.inr (Or.inl ⟨s, e, rfl, rfl, rfl⟩))
    · refine aw_catch (name := "java/util/NoSuchElementException") [⟨0, 10, 13, 13⟩] ⟨0, 10, 17, 15⟩ [] rfl (fun z hz => by
        cases List.mem_singleton.mp hz
        exact Or.inr ⟨by decide, "java/lang/IllegalArgumentException", klL_13, by decide⟩) (by decide) (by decide) klL_15 ca_15 ?_
      refine aw_astoreX (lv2 := [(4, _), (0, _), (1, _), (2, _), (3, _)]) dL_read_17 (by decide) rfl ?_
      refine aw_iconst (v := 2) dL_read_19 (by decide) ?_
      exact aw_iret dL_read_20 rfl (Nat.le_of_ble_eq_true rfl) (Nat.le_of_ble_eq_true rfl) (Nat.le_of_ble_eq_true rfl) (Nat.le_of_ble_eq_true rfl) (Or.inr (Or.inr ⟨s, e, rfl, rfl, rfl⟩))
  · obtain ⟨z, s, e, rfl, rfl, rfl⟩ := hp
    rw [hE] at e
    refine aw_i2l dL_read_8 ?_
    refine aw_last (f := f) dL_read_9 at_out (vp_in_iff.mpr (by decide)) ?_
    refine aw_eqh (h2 := HC s.1 s.2.1 s.2.2.1 s.2.2.2.1 s.2.2.2.2.1 s.2.2.2.2.2.1 pl s.2.2.2.2.2.2.1 s.2.2.2.2.2.2.2.1 s.2.2.2.2.2.2.2.2.1 s.2.2.2.2.2.2.2.2.2.1 s.2.2.2.2.2.2.2.2.2.2.1 s.2.2.2.2.2.2.2.2.2.2.2 (HM mo mw mr ms mt mu dd wi hi gt sp ta li sr co (LB (vp_updL f (Int32.toNatClampNeg 0) z.toInt64)))) up_out ?_
    refine aw_goto (tgt := 21) dL_read_10 (by decide) ?_
    refine aw_iconst (v := 0) dL_read_21 (by decide) ?_
    exact aw_iret dL_read_22 rfl (Nat.le_of_ble_eq_true rfl) (Nat.le_of_ble_eq_true rfl) (Nat.le_of_ble_eq_true rfl) (Nat.le_of_ble_eq_true rfl) (Or.inl ⟨z, s, e, rfl, rfl, rfl⟩)
def PL_bytes (m0 : Mnt) (sh : Nat → Nat) (rr : Nat → Ras) (ww : Nat → Row) (so : Nat) (sc : Src) (pl : Pal) (qo : Qoi) (pn : Pnm) (bm : Bmp) (tg : Tga) (px : Pcx) (fa : A) (mo : MO) (mw : MW) (mr : MR) (ms : Nat) (mt : A) (mu : A) (dd : A) (wi : A) (hi : A) (gt : A) (sp : A) (ta : A) (li : A) (sr : A) (co : A) (f : Nat → Int64) (n : Nat) (res : Out Unit Int64) : Option Value → aH → Nat → Prop := fun r h2 n2 => (∃ (z : Int64) (s : Unit), res = fok z s ∧ r = some (.int 0) ∧ h2 = HC m0 sh rr ww so sc pl qo pn bm tg px fa (HM mo mw mr ms mt mu dd wi hi gt sp ta li sr co (LB (vp_updL f (Int32.toNatClampNeg 0) z))) ∧ n = n2) ∨ (∃ s : Unit, res = fex "java/util/NoSuchElementException" s ∧ r = some (.int 1) ∧ h2 = HC m0 sh rr ww so sc pl qo pn bm tg px fa (HM mo mw mr ms mt mu dd wi hi gt sp ta li sr co (LB f)) ∧ n = n2)
set_option maxHeartbeats 1000000 in
set_option maxRecDepth 100000 in
theorem kL_bytes (m0 : Mnt) (sh : Nat → Nat) (rr : Nat → Ras) (ww : Nat → Row) (so : Nat) (sc : Src) (pl : Pal) (qo : Qoi) (pn : Pnm) (bm : Bmp) (tg : Tga) (px : Pcx) (fa : A) (mo : MO) (mw : MW) (mr : MR) (ms : Nat) (mt : A) (mu : A) (dd : A) (wi : A) (hi : A) (gt : A) (sp : A) (ta : A) (li : A) (sr : A) (co : A) (f : Nat → Int64) (n : Nat) (a1 : Int32) (hF : F_X10_bytes a1 ww ≠ fno) (hX : ∀ E s, F_X10_bytes a1 ww = fex E s → E = "java/util/NoSuchElementException") : AM mL_bytes 4 [.ref 0, .int a1, .ref 43] (HC m0 sh rr ww so sc pl qo pn bm tg px fa (HM mo mw mr ms mt mu dd wi hi gt sp ta li sr co (LB f))) n 1 6 1 6 (PL_bytes m0 sh rr ww so sc pl qo pn bm tg px fa mo mw mr ms mt mu dd wi hi gt sp ta li sr co f n (F_X10_bytes a1 ww)) noX := by
  generalize hE : F_X10_bytes a1 ww = res at hF hX ⊢
  refine aw_ofH (by decide +kernel) (by decide) (Nat.le_of_ble_eq_true rfl) ?_
  refine aw_aload_n dL_bytes_0 rfl ?_
  refine aw_iconst (v := 0) dL_bytes_1 (by decide) ?_
  refine aw_aload_n dL_bytes_2 rfl ?_
  refine aw_iload_n dL_bytes_3 rfl ?_
  refine aw_callV dL_bytes_4 at_mint cvL_17 rfl (kF_X10_bytes m0 sh rr ww so sc pl qo pn bm tg px fa (HM mo mw mr ms mt mu dd wi hi gt sp ta li sr co (LB f)) n a1 (by rw [hE]; exact hF)) rfl (Nat.le_of_ble_eq_true rfl) (by decide) (by decide) (by decide) (by decide) (fun E h2 n2 hx => ?_) (fun r h n2 hp => ?_)
  · obtain ⟨s, e, rfl, rfl⟩ := hx
    rw [hE] at e
    obtain rfl := hX E s e
    refine aw_catch (name := "java/util/NoSuchElementException") [] ⟨0, 8, 11, 15⟩ [] rfl (fun _ h => absurd h List.not_mem_nil) (by decide) (by decide) klL_15 ca_15 ?_
    refine aw_astoreX_n (lv2 := [(3, _), (0, _), (1, _), (2, _)]) dL_bytes_11 (by decide) rfl ?_
    refine aw_iconst (v := 1) dL_bytes_12 (by decide) ?_
    exact aw_iret dL_bytes_13 rfl (Nat.le_of_ble_eq_true rfl) (Nat.le_of_ble_eq_true rfl) (Nat.le_of_ble_eq_true rfl) (Nat.le_of_ble_eq_true rfl) (Or.inr ⟨s, e, rfl, rfl, rfl⟩)
  · obtain ⟨z, s, e, rfl, rfl, rfl⟩ := hp
    rw [hE] at e
    refine aw_last (f := f) dL_bytes_7 at_out (vp_in_iff.mpr (by decide)) ?_
    refine aw_eqh (h2 := HC m0 sh rr ww so sc pl qo pn bm tg px fa (HM mo mw mr ms mt mu dd wi hi gt sp ta li sr co (LB (vp_updL f (Int32.toNatClampNeg 0) z)))) up_out ?_
    refine aw_goto (tgt := 14) dL_bytes_8 (by decide) ?_
    refine aw_iconst (v := 0) dL_bytes_14 (by decide) ?_
    exact aw_iret dL_bytes_15 rfl (Nat.le_of_ble_eq_true rfl) (Nat.le_of_ble_eq_true rfl) (Nat.le_of_ble_eq_true rfl) (Nat.le_of_ble_eq_true rfl) (Or.inl ⟨z, s, e, rfl, rfl, rfl⟩)
def PL_dot (m0 : Mnt) (sh : Nat → Nat) (ww : Nat → Row) (so : Nat) (sc : Src) (pl : Pal) (qo : Qoi) (pn : Pnm) (bm : Bmp) (tg : Tga) (px : Pcx) (fa : A) (mo : MO) (mw : MW) (mr : MR) (ms : Nat) (mt : A) (mu : A) (dd : A) (wi : A) (hi : A) (gt : A) (sp : A) (ta : A) (li : A) (sr : A) (co : A) (f : Nat → Int64) (n : Nat) (res : Out (Nat → Ras) Int32) : Option Value → aH → Nat → Prop := fun r h2 n2 => (∃ (z : Int32) (s : (Nat → Ras)), res = fok z s ∧ r = some (.int 0) ∧ h2 = HC m0 sh s ww so sc pl qo pn bm tg px fa (HM mo mw mr ms mt mu dd wi hi gt sp ta li sr co (LB (vp_updL f (Int32.toNatClampNeg 0) z.toInt64))) ∧ n = n2) ∨ (∃ s : (Nat → Ras), res = fex "java/lang/IllegalArgumentException" s ∧ r = some (.int 1) ∧ h2 = HC m0 sh s ww so sc pl qo pn bm tg px fa (HM mo mw mr ms mt mu dd wi hi gt sp ta li sr co (LB f)) ∧ n = n2) ∨ (∃ s : (Nat → Ras), res = fex "java/lang/IndexOutOfBoundsException" s ∧ r = some (.int 2) ∧ h2 = HC m0 sh s ww so sc pl qo pn bm tg px fa (HM mo mw mr ms mt mu dd wi hi gt sp ta li sr co (LB f)) ∧ n = n2)
set_option maxHeartbeats 1000000 in
set_option maxRecDepth 100000 in
theorem kL_dot (m0 : Mnt) (sh : Nat → Nat) (rr : Nat → Ras) (ww : Nat → Row) (so : Nat) (sc : Src) (pl : Pal) (qo : Qoi) (pn : Pnm) (bm : Bmp) (tg : Tga) (px : Pcx) (fa : A) (mo : MO) (mw : MW) (mr : MR) (ms : Nat) (mt : A) (mu : A) (dd : A) (wi : A) (hi : A) (gt : A) (sp : A) (ta : A) (li : A) (sr : A) (co : A) (f : Nat → Int64) (n : Nat) (a1 : Int32) (a2 : Int32) (a3 : Int32) (a4 : Int32) (hF : F_X10_dot a1 a2 a3 a4 sh rr ≠ fno) (hX : ∀ E s, F_X10_dot a1 a2 a3 a4 sh rr = fex E s → E = "java/lang/IllegalArgumentException" ∨ E = "java/lang/IndexOutOfBoundsException") : AM mL_dot 5 [.ref 0, .int a1, .int a2, .int a3, .int a4, .ref 43] (HC m0 sh rr ww so sc pl qo pn bm tg px fa (HM mo mw mr ms mt mu dd wi hi gt sp ta li sr co (LB f))) n 1 6 1 6 (PL_dot m0 sh ww so sc pl qo pn bm tg px fa mo mw mr ms mt mu dd wi hi gt sp ta li sr co f n (F_X10_dot a1 a2 a3 a4 sh rr)) noX := by
  generalize hE : F_X10_dot a1 a2 a3 a4 sh rr = res at hF hX ⊢
  refine aw_ofH (by decide +kernel) (by decide) (Nat.le_of_ble_eq_true rfl) ?_
  refine aw_aload dL_dot_0 rfl ?_
  refine aw_iconst (v := 0) dL_dot_2 (by decide) ?_
  refine aw_aload_n dL_dot_3 rfl ?_
  refine aw_iload_n dL_dot_4 rfl ?_
  refine aw_iload_n dL_dot_5 rfl ?_
  refine aw_iload_n dL_dot_6 rfl ?_
  refine aw_iload dL_dot_7 rfl ?_
  refine aw_callV dL_dot_9 at_mint cvL_21 rfl (kF_X10_dot m0 sh rr ww so sc pl qo pn bm tg px fa (HM mo mw mr ms mt mu dd wi hi gt sp ta li sr co (LB f)) n a1 a2 a3 a4 (by rw [hE]; exact hF)) rfl (Nat.le_of_ble_eq_true rfl) (by decide) (by decide) (by decide) (by decide) (fun E h2 n2 hx => ?_) (fun r h n2 hp => ?_)
  · obtain ⟨s, e, rfl, rfl⟩ := hx
    rw [hE] at e
    rcases hX E s e with rfl | rfl
    · refine aw_catch (name := "java/lang/IllegalArgumentException") [] ⟨0, 14, 17, 13⟩ [⟨0, 14, 21, 25⟩] rfl (fun _ h => absurd h List.not_mem_nil) (by decide) (by decide) klL_13 ca_13 ?_
      refine aw_astoreX (lv2 := [(6, _), (0, _), (1, _), (2, _), (3, _), (4, _), (5, _)]) dL_dot_17 (by decide) rfl ?_
      refine aw_iconst (v := 1) dL_dot_19 (by decide) ?_
      exact aw_iret dL_dot_20 rfl (Nat.le_of_ble_eq_true rfl) (Nat.le_of_ble_eq_true rfl) (Nat.le_of_ble_eq_true rfl) (Nat.le_of_ble_eq_true rfl) (Or.inr (Or.inl ⟨s, e, rfl, rfl, rfl⟩))
    · refine aw_catch (name := "java/lang/IndexOutOfBoundsException") [⟨0, 14, 17, 13⟩] ⟨0, 14, 21, 25⟩ [] rfl (fun z hz => by
        cases List.mem_singleton.mp hz
        exact Or.inr ⟨by decide, "java/lang/IllegalArgumentException", klL_13, by decide⟩) (by decide) (by decide) klL_25 ca_25 ?_
      refine aw_astoreX (lv2 := [(6, _), (0, _), (1, _), (2, _), (3, _), (4, _), (5, _)]) dL_dot_21 (by decide) rfl ?_
      refine aw_iconst (v := 2) dL_dot_23 (by decide) ?_
      exact aw_iret dL_dot_24 rfl (Nat.le_of_ble_eq_true rfl) (Nat.le_of_ble_eq_true rfl) (Nat.le_of_ble_eq_true rfl) (Nat.le_of_ble_eq_true rfl) (Or.inr (Or.inr ⟨s, e, rfl, rfl, rfl⟩))
  · obtain ⟨z, s, e, rfl, rfl, rfl⟩ := hp
    rw [hE] at e
    refine aw_i2l dL_dot_12 ?_
    refine aw_last (f := f) dL_dot_13 at_out (vp_in_iff.mpr (by decide)) ?_
    refine aw_eqh (h2 := HC m0 sh s ww so sc pl qo pn bm tg px fa (HM mo mw mr ms mt mu dd wi hi gt sp ta li sr co (LB (vp_updL f (Int32.toNatClampNeg 0) z.toInt64)))) up_out ?_
    refine aw_goto (tgt := 25) dL_dot_14 (by decide) ?_
    refine aw_iconst (v := 0) dL_dot_25 (by decide) ?_
    exact aw_iret dL_dot_26 rfl (Nat.le_of_ble_eq_true rfl) (Nat.le_of_ble_eq_true rfl) (Nat.le_of_ble_eq_true rfl) (Nat.le_of_ble_eq_true rfl) (Or.inl ⟨z, s, e, rfl, rfl, rfl⟩)
def PL_sweep (m0 : Mnt) (sh : Nat → Nat) (ww : Nat → Row) (so : Nat) (sc : Src) (pl : Pal) (qo : Qoi) (pn : Pnm) (bm : Bmp) (tg : Tga) (px : Pcx) (fa : A) (mo : MO) (mw : MW) (mr : MR) (ms : Nat) (mt : A) (mu : A) (dd : A) (wi : A) (hi : A) (gt : A) (sp : A) (ta : A) (li : A) (sr : A) (co : A) (f : Nat → Int64) (n : Nat) (res : Out (Nat → Ras) Int32) : Option Value → aH → Nat → Prop := fun r h2 n2 => (∃ (z : Int32) (s : (Nat → Ras)), res = fok z s ∧ r = some (.int 0) ∧ h2 = HC m0 sh s ww so sc pl qo pn bm tg px fa (HM mo mw mr ms mt mu dd wi hi gt sp ta li sr co (LB (vp_updL f (Int32.toNatClampNeg 0) z.toInt64))) ∧ n = n2) ∨ (∃ s : (Nat → Ras), res = fex "java/lang/IllegalArgumentException" s ∧ r = some (.int 1) ∧ h2 = HC m0 sh s ww so sc pl qo pn bm tg px fa (HM mo mw mr ms mt mu dd wi hi gt sp ta li sr co (LB f)) ∧ n = n2) ∨ (∃ s : (Nat → Ras), res = fex "java/lang/IndexOutOfBoundsException" s ∧ r = some (.int 2) ∧ h2 = HC m0 sh s ww so sc pl qo pn bm tg px fa (HM mo mw mr ms mt mu dd wi hi gt sp ta li sr co (LB f)) ∧ n = n2)
set_option maxHeartbeats 1000000 in
set_option maxRecDepth 100000 in
theorem kL_sweep (m0 : Mnt) (sh : Nat → Nat) (rr : Nat → Ras) (ww : Nat → Row) (so : Nat) (sc : Src) (pl : Pal) (qo : Qoi) (pn : Pnm) (bm : Bmp) (tg : Tga) (px : Pcx) (fa : A) (mo : MO) (mw : MW) (mr : MR) (ms : Nat) (mt : A) (mu : A) (dd : A) (wi : A) (hi : A) (gt : A) (sp : A) (ta : A) (li : A) (sr : A) (co : A) (f : Nat → Int64) (n : Nat) (a1 : Int32) (a2 : Int32) (a3 : Int32) (a4 : Int32) (a5 : Int32) (a6 : Int32) (hF : F_X10_sweep a1 a2 a3 a4 a5 a6 sh rr ≠ fno) (hX : ∀ E s, F_X10_sweep a1 a2 a3 a4 a5 a6 sh rr = fex E s → E = "java/lang/IllegalArgumentException" ∨ E = "java/lang/IndexOutOfBoundsException") : AM mL_sweep 5 [.ref 0, .int a1, .int a2, .int a3, .int a4, .int a5, .int a6, .ref 43] (HC m0 sh rr ww so sc pl qo pn bm tg px fa (HM mo mw mr ms mt mu dd wi hi gt sp ta li sr co (LB f))) n 1 6 1 6 (PL_sweep m0 sh ww so sc pl qo pn bm tg px fa mo mw mr ms mt mu dd wi hi gt sp ta li sr co f n (F_X10_sweep a1 a2 a3 a4 a5 a6 sh rr)) noX := by
  generalize hE : F_X10_sweep a1 a2 a3 a4 a5 a6 sh rr = res at hF hX ⊢
  refine aw_ofH (by decide +kernel) (by decide) (Nat.le_of_ble_eq_true rfl) ?_
  refine aw_aload dL_sweep_0 rfl ?_
  refine aw_iconst (v := 0) dL_sweep_2 (by decide) ?_
  refine aw_aload_n dL_sweep_3 rfl ?_
  refine aw_iload_n dL_sweep_4 rfl ?_
  refine aw_iload_n dL_sweep_5 rfl ?_
  refine aw_iload_n dL_sweep_6 rfl ?_
  refine aw_iload dL_sweep_7 rfl ?_
  refine aw_iload dL_sweep_9 rfl ?_
  refine aw_iload dL_sweep_11 rfl ?_
  refine aw_callV dL_sweep_13 at_mint cvL_27 rfl (kF_X10_sweep m0 sh rr ww so sc pl qo pn bm tg px fa (HM mo mw mr ms mt mu dd wi hi gt sp ta li sr co (LB f)) n a1 a2 a3 a4 a5 a6 (by rw [hE]; exact hF)) rfl (Nat.le_of_ble_eq_true rfl) (by decide) (by decide) (by decide) (by decide) (fun E h2 n2 hx => ?_) (fun r h n2 hp => ?_)
  · obtain ⟨s, e, rfl, rfl⟩ := hx
    rw [hE] at e
    rcases hX E s e with rfl | rfl
    · refine aw_catch (name := "java/lang/IllegalArgumentException") [] ⟨0, 18, 21, 13⟩ [⟨0, 18, 25, 25⟩] rfl (fun _ h => absurd h List.not_mem_nil) (by decide) (by decide) klL_13 ca_13 ?_
      refine aw_astoreX (lv2 := [(8, _), (0, _), (1, _), (2, _), (3, _), (4, _), (5, _), (6, _), (7, _)]) dL_sweep_21 (by decide) rfl ?_
      refine aw_iconst (v := 1) dL_sweep_23 (by decide) ?_
      exact aw_iret dL_sweep_24 rfl (Nat.le_of_ble_eq_true rfl) (Nat.le_of_ble_eq_true rfl) (Nat.le_of_ble_eq_true rfl) (Nat.le_of_ble_eq_true rfl) (Or.inr (Or.inl ⟨s, e, rfl, rfl, rfl⟩))
    · refine aw_catch (name := "java/lang/IndexOutOfBoundsException") [⟨0, 18, 21, 13⟩] ⟨0, 18, 25, 25⟩ [] rfl (fun z hz => by
        cases List.mem_singleton.mp hz
        exact Or.inr ⟨by decide, "java/lang/IllegalArgumentException", klL_13, by decide⟩) (by decide) (by decide) klL_25 ca_25 ?_
      refine aw_astoreX (lv2 := [(8, _), (0, _), (1, _), (2, _), (3, _), (4, _), (5, _), (6, _), (7, _)]) dL_sweep_25 (by decide) rfl ?_
      refine aw_iconst (v := 2) dL_sweep_27 (by decide) ?_
      exact aw_iret dL_sweep_28 rfl (Nat.le_of_ble_eq_true rfl) (Nat.le_of_ble_eq_true rfl) (Nat.le_of_ble_eq_true rfl) (Nat.le_of_ble_eq_true rfl) (Or.inr (Or.inr ⟨s, e, rfl, rfl, rfl⟩))
  · obtain ⟨z, s, e, rfl, rfl, rfl⟩ := hp
    rw [hE] at e
    refine aw_i2l dL_sweep_16 ?_
    refine aw_last (f := f) dL_sweep_17 at_out (vp_in_iff.mpr (by decide)) ?_
    refine aw_eqh (h2 := HC m0 sh s ww so sc pl qo pn bm tg px fa (HM mo mw mr ms mt mu dd wi hi gt sp ta li sr co (LB (vp_updL f (Int32.toNatClampNeg 0) z.toInt64)))) up_out ?_
    refine aw_goto (tgt := 29) dL_sweep_18 (by decide) ?_
    refine aw_iconst (v := 0) dL_sweep_29 (by decide) ?_
    exact aw_iret dL_sweep_30 rfl (Nat.le_of_ble_eq_true rfl) (Nat.le_of_ble_eq_true rfl) (Nat.le_of_ble_eq_true rfl) (Nat.le_of_ble_eq_true rfl) (Or.inl ⟨z, s, e, rfl, rfl, rfl⟩)
def PL_pixel (m0 : Mnt) (sh : Nat → Nat) (rr : Nat → Ras) (ww : Nat → Row) (so : Nat) (sc : Src) (pl : Pal) (qo : Qoi) (pn : Pnm) (bm : Bmp) (tg : Tga) (px : Pcx) (fa : A) (mo : MO) (mw : MW) (mr : MR) (ms : Nat) (mt : A) (mu : A) (dd : A) (wi : A) (hi : A) (gt : A) (sp : A) (ta : A) (li : A) (sr : A) (co : A) (f : Nat → Int64) (n : Nat) (res : Out Unit Int32) : Option Value → aH → Nat → Prop := fun r h2 n2 => (∃ (z : Int32) (s : Unit), res = fok z s ∧ r = some (.int 0) ∧ h2 = HC m0 sh rr ww so sc pl qo pn bm tg px fa (HM mo mw mr ms mt mu dd wi hi gt sp ta li sr co (LB (vp_updL f (Int32.toNatClampNeg 0) z.toInt64))) ∧ n = n2) ∨ (∃ s : Unit, res = fex "java/lang/IllegalArgumentException" s ∧ r = some (.int 1) ∧ h2 = HC m0 sh rr ww so sc pl qo pn bm tg px fa (HM mo mw mr ms mt mu dd wi hi gt sp ta li sr co (LB f)) ∧ n = n2) ∨ (∃ s : Unit, res = fex "java/lang/IndexOutOfBoundsException" s ∧ r = some (.int 2) ∧ h2 = HC m0 sh rr ww so sc pl qo pn bm tg px fa (HM mo mw mr ms mt mu dd wi hi gt sp ta li sr co (LB f)) ∧ n = n2)
set_option maxHeartbeats 1000000 in
set_option maxRecDepth 100000 in
theorem kL_pixel (m0 : Mnt) (sh : Nat → Nat) (rr : Nat → Ras) (ww : Nat → Row) (so : Nat) (sc : Src) (pl : Pal) (qo : Qoi) (pn : Pnm) (bm : Bmp) (tg : Tga) (px : Pcx) (fa : A) (mo : MO) (mw : MW) (mr : MR) (ms : Nat) (mt : A) (mu : A) (dd : A) (wi : A) (hi : A) (gt : A) (sp : A) (ta : A) (li : A) (sr : A) (co : A) (f : Nat → Int64) (n : Nat) (a1 : Int32) (a2 : Int32) (a3 : Int32) (hF : F_X10_pixel a1 a2 a3 sh rr ≠ fno) (hX : ∀ E s, F_X10_pixel a1 a2 a3 sh rr = fex E s → E = "java/lang/IllegalArgumentException" ∨ E = "java/lang/IndexOutOfBoundsException") : AM mL_pixel 5 [.ref 0, .int a1, .int a2, .int a3, .ref 43] (HC m0 sh rr ww so sc pl qo pn bm tg px fa (HM mo mw mr ms mt mu dd wi hi gt sp ta li sr co (LB f))) n 1 6 1 6 (PL_pixel m0 sh rr ww so sc pl qo pn bm tg px fa mo mw mr ms mt mu dd wi hi gt sp ta li sr co f n (F_X10_pixel a1 a2 a3 sh rr)) noX := by
  generalize hE : F_X10_pixel a1 a2 a3 sh rr = res at hF hX ⊢
  refine aw_ofH (by decide +kernel) (by decide) (Nat.le_of_ble_eq_true rfl) ?_
  refine aw_aload dL_pixel_0 rfl ?_
  refine aw_iconst (v := 0) dL_pixel_2 (by decide) ?_
  refine aw_aload_n dL_pixel_3 rfl ?_
  refine aw_iload_n dL_pixel_4 rfl ?_
  refine aw_iload_n dL_pixel_5 rfl ?_
  refine aw_iload_n dL_pixel_6 rfl ?_
  refine aw_callV dL_pixel_7 at_mint cvL_31 rfl (kF_X10_pixel m0 sh rr ww so sc pl qo pn bm tg px fa (HM mo mw mr ms mt mu dd wi hi gt sp ta li sr co (LB f)) n a1 a2 a3 (by rw [hE]; exact hF)) rfl (Nat.le_of_ble_eq_true rfl) (by decide) (by decide) (by decide) (by decide) (fun E h2 n2 hx => ?_) (fun r h n2 hp => ?_)
  · obtain ⟨s, e, rfl, rfl⟩ := hx
    rw [hE] at e
    rcases hX E s e with rfl | rfl
    · refine aw_catch (name := "java/lang/IllegalArgumentException") [] ⟨0, 12, 15, 13⟩ [⟨0, 12, 19, 25⟩] rfl (fun _ h => absurd h List.not_mem_nil) (by decide) (by decide) klL_13 ca_13 ?_
      refine aw_astoreX (lv2 := [(5, _), (0, _), (1, _), (2, _), (3, _), (4, _)]) dL_pixel_15 (by decide) rfl ?_
      refine aw_iconst (v := 1) dL_pixel_17 (by decide) ?_
      exact aw_iret dL_pixel_18 rfl (Nat.le_of_ble_eq_true rfl) (Nat.le_of_ble_eq_true rfl) (Nat.le_of_ble_eq_true rfl) (Nat.le_of_ble_eq_true rfl) (Or.inr (Or.inl ⟨s, e, rfl, rfl, rfl⟩))
    · refine aw_catch (name := "java/lang/IndexOutOfBoundsException") [⟨0, 12, 15, 13⟩] ⟨0, 12, 19, 25⟩ [] rfl (fun z hz => by
        cases List.mem_singleton.mp hz
        exact Or.inr ⟨by decide, "java/lang/IllegalArgumentException", klL_13, by decide⟩) (by decide) (by decide) klL_25 ca_25 ?_
      refine aw_astoreX (lv2 := [(5, _), (0, _), (1, _), (2, _), (3, _), (4, _)]) dL_pixel_19 (by decide) rfl ?_
      refine aw_iconst (v := 2) dL_pixel_21 (by decide) ?_
      exact aw_iret dL_pixel_22 rfl (Nat.le_of_ble_eq_true rfl) (Nat.le_of_ble_eq_true rfl) (Nat.le_of_ble_eq_true rfl) (Nat.le_of_ble_eq_true rfl) (Or.inr (Or.inr ⟨s, e, rfl, rfl, rfl⟩))
  · obtain ⟨z, s, e, rfl, rfl, rfl⟩ := hp
    rw [hE] at e
    refine aw_i2l dL_pixel_10 ?_
    refine aw_last (f := f) dL_pixel_11 at_out (vp_in_iff.mpr (by decide)) ?_
    refine aw_eqh (h2 := HC m0 sh rr ww so sc pl qo pn bm tg px fa (HM mo mw mr ms mt mu dd wi hi gt sp ta li sr co (LB (vp_updL f (Int32.toNatClampNeg 0) z.toInt64)))) up_out ?_
    refine aw_goto (tgt := 23) dL_pixel_12 (by decide) ?_
    refine aw_iconst (v := 0) dL_pixel_23 (by decide) ?_
    exact aw_iret dL_pixel_24 rfl (Nat.le_of_ble_eq_true rfl) (Nat.le_of_ble_eq_true rfl) (Nat.le_of_ble_eq_true rfl) (Nat.le_of_ble_eq_true rfl) (Or.inl ⟨z, s, e, rfl, rfl, rfl⟩)
