theorem ofN {a : Nat} (h : a < 2147483648) : (Int32.ofNat a).toInt = a := Int32.toInt_ofNat_of_lt (by omega)
theorem addI {a b : Int32} {x y : Int} (ha : a.toInt = x) (hb : b.toInt = y) (h1 : -2147483648 ≤ x + y) (h2 : x + y < 2147483648) : (a + b).toInt = x + y := by
  rw [Int32.toInt_add, ha, hb]
  exact Int.bmod_eq_of_le (by omega) (by omega)
theorem subI {a b : Int32} {x y : Int} (ha : a.toInt = x) (hb : b.toInt = y) (h1 : -2147483648 ≤ x - y) (h2 : x - y < 2147483648) : (a - b).toInt = x - y := by
  rw [Int32.toInt_sub, ha, hb]
  exact Int.bmod_eq_of_le (by omega) (by omega)
theorem law_at {q L : Nat} (h : 7 * q + 7 ≤ L) (hL : L ≤ 3584) (d : Int32) (hd : d = 1 ∨ d = 2 ∨ d = 3 ∨ d = 4 ∨ d = 5 ∨ d = 6) : vp_in (Int32.ofNat (7 * q) + d) L := by
  have h0 := ofN (a := 7 * q) (by omega)
  have hh : ∀ (d : Int32) (y : Int), d.toInt = y → 1 ≤ y → y ≤ 6 → vp_in (Int32.ofNat (7 * q) + d) L := by
    intro d y hy h1 h2
    have e := addI h0 hy (by omega) (by omega)
    refine vp_in_iff.mpr ⟨?_, ?_⟩ <;> rw [e] <;> omega
  rcases hd with rfl | rfl | rfl | rfl | rfl | rfl
  · exact hh 1 1 (by decide) (by omega) (by omega)
  · exact hh 2 2 (by decide) (by omega) (by omega)
  · exact hh 3 3 (by decide) (by omega) (by omega)
  · exact hh 4 4 (by decide) (by omega) (by omega)
  · exact hh 5 5 (by decide) (by omega) (by omega)
  · exact hh 6 6 (by decide) (by omega) (by omega)
theorem law_at0 {q L : Nat} (h : 7 * q + 7 ≤ L) (hL : L ≤ 3584) : vp_in (Int32.ofNat (7 * q)) L := by
  have h0 := ofN (a := 7 * q) (by omega)
  refine vp_in_iff.mpr ⟨?_, ?_⟩ <;> rw [h0] <;> omega
theorem law_gt {q L : Nat} (hL : L ≤ 3584) (hq : q ≤ 513) : Int32.ofNat L - 7 < Int32.ofNat (7 * q) ↔ L < 7 * q + 7 := by
  have h0 := ofN (a := 7 * q) (by omega)
  have h1 := ofN (a := L) (by omega)
  have e := subI h1 (show (7 : Int32).toInt = 7 by decide) (by omega) (by omega)
  rw [Int32.lt_iff_toInt_lt, e, h0]
  omega
theorem law_inc (q : Nat) : Int32.ofNat (7 * q) + Int32.ofInt 7 = Int32.ofNat (7 * (q + 1)) := by
  rw [Nat.mul_succ, Int32.ofNat_add]
  rfl
set_option maxHeartbeats 2000000 in
set_option maxRecDepth 100000 in
theorem law_loop {b L : Nat} {xs : Nat → Int32} {nm : String} {t : List (Nat × Nat × Nat × Nat)} {I : IV} (S : S_all I) (hL : L ≤ 3584) : ∀ (r q : Nat), q + r = 513 → ∀ (m0 : Mnt) (sh : Nat → Nat) (rr : Nat → Ras) (ww : Nat → Row) (so : Nat) (sc : Src) (pl : Pal) (qo : Qoi) (pn : Pnm) (bm : Bmp) (tg : Tga) (px : Pcx) (fa : A) (mo : MO) (mw : MW) (mr : MR) (ms : Nat) (mt : A) (mu : A) (dd : A) (wi : A) (hi : A) (gt : A) (sp : A) (ta : A) (li : A) (sr : A) (co : A) (f : Nat → Int64), I m0 sh rr ww so sc pl qo pn bm tg px fa mo mw mr ms mt mu dd wi hi gt sp ta li sr co → LW b L xs nm t (44 + q) (402697 + 6 * q) 23 (Int32.ofNat (7 * q)) (HC m0 sh rr ww so sc pl qo pn bm tg px fa (HM mo mw mr ms mt mu dd wi hi gt sp ta li sr co (LB f))) := by
  intro r
  induction r with
  | zero =>
    intro q hq m0 sh rr ww so sc pl qo pn bm tg px fa mo mw mr ms mt mu dd wi hi gt sp ta li sr co f hI
    obtain rfl : q = 513 := by omega
    refine aw_iload dL_law_23 rfl ?_
    refine aw_aload_nA dL_law_25 rfl ?_
    refine aw_slen (L := L) (xs := xs) dL_law_26 (fun _ _ h => h) ?_
    refine aw_bipush (v := 7) dL_law_27 (by decide) ?_
    refine aw_isub dL_law_29 ?_
    refine aw_icmp_gt (tgt := 1016) dL_law_30 (by decide) (fun _ => ?_) (fun c => absurd ((law_gt hL (Nat.le_refl _)).mpr (by omega)) c)
    refine aw_iconst (v := 1) dL_law_1016 (by decide) ?_
    exact aw_zret dL_law_1017 rfl (by decide) (by decide) (by decide) (by decide) (by decide) rfl
  | succ r ih =>
    intro q hq m0 sh rr ww so sc pl qo pn bm tg px fa mo mw mr ms mt mu dd wi hi gt sp ta li sr co f hI
    refine aw_iload dL_law_23 rfl ?_
    refine aw_aload_nA dL_law_25 rfl ?_
    refine aw_slen (L := L) (xs := xs) dL_law_26 (fun _ _ h => h) ?_
    refine aw_bipush (v := 7) dL_law_27 (by decide) ?_
    refine aw_isub dL_law_29 ?_
    refine aw_icmp_gt (tgt := 1016) dL_law_30 (by decide) (fun _ => ?_) (fun c => ?_)
    · refine aw_iconst (v := 1) dL_law_1016 (by decide) ?_
      exact aw_zret dL_law_1017 rfl (by decide) (show 44 + q ≤ 601024 by omega) (show 402697 + 6 * q ≤ 7293034 by omega) (by omega) (by omega) rfl
    have h7 : 7 * q + 7 ≤ L := by
      rcases Nat.lt_or_ge L (7 * q + 7) with h | h
      · exact absurd ((law_gt hL (by omega)).mpr h) c
      · exact h
    have kk : ∀ (m0 : Mnt) (sh : Nat → Nat) (rr : Nat → Ras) (ww : Nat → Row) (so : Nat) (sc : Src) (pl : Pal) (qo : Qoi) (pn : Pnm) (bm : Bmp) (tg : Tga) (px : Pcx) (fa : A) (mo : MO) (mw : MW) (mr : MR) (ms : Nat) (mt : A) (mu : A) (dd : A) (wi : A) (hi : A) (gt : A) (sp : A) (ta : A) (li : A) (sr : A) (co : A) (f : Nat → Int64), I m0 sh rr ww so sc pl qo pn bm tg px fa mo mw mr ms mt mu dd wi hi gt sp ta li sr co → LW b L xs nm t (44 + q + 1) (402697 + 6 * q + 6) 1010 (Int32.ofNat (7 * q)) (HC m0 sh rr ww so sc pl qo pn bm tg px fa (HM mo mw mr ms mt mu dd wi hi gt sp ta li sr co (LB f))) := by
      intro m0 sh rr ww so sc pl qo pn bm tg px fa mo mw mr ms mt mu dd wi hi gt sp ta li sr co f hI
      refine aw_iinc (v := Int32.ofNat (7 * (q + 1))) (lv2 := [(4, _), (0, _), (1, _), (2, _), (3, _)]) dL_law_1010 rfl (law_inc q) (Nat.le_of_ble_eq_true rfl) rfl ?_
      refine aw_goto (tgt := 23) dL_law_1013 (by decide) ?_
      exact aw_lv _ (List.forall_mem_cons.mpr ⟨rfl, (List.forall_mem_cons.mpr ⟨rfl, (List.forall_mem_cons.mpr ⟨rfl, (List.forall_mem_cons.mpr ⟨rfl, (List.forall_mem_cons.mpr ⟨rfl, fun _ h => absurd h List.not_mem_nil⟩)⟩)⟩)⟩)⟩) (aw_wide (by omega) (by omega) (ih (q + 1) (by omega) m0 sh rr ww so sc pl qo pn bm tg px fa mo mw mr ms mt mu dd wi hi gt sp ta li sr co f hI))
    refine aw_aload_nA dL_law_33 rfl ?_
    refine aw_iload dL_law_34 rfl ?_
    refine aw_sld (L := L) (xs := xs) dL_law_36 (fun _ _ h => h) (law_at0 h7 hL) ?_
    refine aw_bipush (v := 31) dL_law_37 (by decide) ?_
    refine aw_iand dL_law_39 ?_
    generalize (xs (Int32.toNatClampNeg (Int32.ofNat (7 * q))) &&& 31) = w
    by_cases e0 : w = 0
    · refine aw_tableIn (tgt := 128) dL_law_40 (by rw [e0]; decide) (by rw [e0]; decide) (off := 88) (by rw [e0]; decide) (by decide) ?_
      exact law_feed S.1 (Int32.ofNat (7 * q)) (law_at h7 hL) (44 + q) (402697 + 6 * q) (by omega) (by omega) m0 sh rr ww so sc pl qo pn bm tg px fa mo mw mr ms mt mu dd wi hi gt sp ta li sr co f hI kk
    by_cases e1 : w = 1
    · refine aw_tableIn (tgt := 201) dL_law_40 (by rw [e1]; decide) (by rw [e1]; decide) (off := 161) (by rw [e1]; decide) (by decide) ?_
      exact law_end S.2.1 (Int32.ofNat (7 * q)) (law_at h7 hL) (44 + q) (402697 + 6 * q) (by omega) (by omega) m0 sh rr ww so sc pl qo pn bm tg px fa mo mw mr ms mt mu dd wi hi gt sp ta li sr co f hI kk
    by_cases e2 : w = 2
    · refine aw_tableIn (tgt := 226) dL_law_40 (by rw [e2]; decide) (by rw [e2]; decide) (off := 186) (by rw [e2]; decide) (by decide) ?_
      exact law_again S.2.2.1 (Int32.ofNat (7 * q)) (law_at h7 hL) (44 + q) (402697 + 6 * q) (by omega) (by omega) m0 sh rr ww so sc pl qo pn bm tg px fa mo mw mr ms mt mu dd wi hi gt sp ta li sr co f hI kk
    by_cases e3 : w = 3
    · refine aw_tableIn (tgt := 239) dL_law_40 (by rw [e3]; decide) (by rw [e3]; decide) (off := 199) (by rw [e3]; decide) (by decide) ?_
      exact law_read S.2.2.2.1 (Int32.ofNat (7 * q)) (law_at h7 hL) (44 + q) (402697 + 6 * q) (by omega) (by omega) m0 sh rr ww so sc pl qo pn bm tg px fa mo mw mr ms mt mu dd wi hi gt sp ta li sr co f hI kk
    by_cases e4 : w = 4
    · refine aw_tableIn (tgt := 307) dL_law_40 (by rw [e4]; decide) (by rw [e4]; decide) (off := 267) (by rw [e4]; decide) (by decide) ?_
      exact law_place S.2.2.2.2.1 (Int32.ofNat (7 * q)) (law_at h7 hL) (44 + q) (402697 + 6 * q) (by omega) (by omega) m0 sh rr ww so sc pl qo pn bm tg px fa mo mw mr ms mt mu dd wi hi gt sp ta li sr co f hI kk
    by_cases e5 : w = 5
    · refine aw_tableIn (tgt := 320) dL_law_40 (by rw [e5]; decide) (by rw [e5]; decide) (off := 280) (by rw [e5]; decide) (by decide) ?_
      exact law_told S.2.2.2.2.2.1 (Int32.ofNat (7 * q)) (law_at h7 hL) (44 + q) (402697 + 6 * q) (by omega) (by omega) m0 sh rr ww so sc pl qo pn bm tg px fa mo mw mr ms mt mu dd wi hi gt sp ta li sr co f hI kk
    by_cases e6 : w = 6
    · refine aw_tableIn (tgt := 345) dL_law_40 (by rw [e6]; decide) (by rw [e6]; decide) (off := 305) (by rw [e6]; decide) (by decide) ?_
      exact law_write S.2.2.2.2.2.2.1 (Int32.ofNat (7 * q)) (law_at h7 hL) (44 + q) (402697 + 6 * q) (by omega) (by omega) m0 sh rr ww so sc pl qo pn bm tg px fa mo mw mr ms mt mu dd wi hi gt sp ta li sr co f hI kk
    by_cases e7 : w = 7
    · refine aw_tableIn (tgt := 382) dL_law_40 (by rw [e7]; decide) (by rw [e7]; decide) (off := 342) (by rw [e7]; decide) (by decide) ?_
      exact law_byteAt S.2.2.2.2.2.2.2.1 (Int32.ofNat (7 * q)) (law_at h7 hL) (44 + q) (402697 + 6 * q) (by omega) (by omega) m0 sh rr ww so sc pl qo pn bm tg px fa mo mw mr ms mt mu dd wi hi gt sp ta li sr co f hI kk
    by_cases e8 : w = 8
    · refine aw_tableIn (tgt := 407) dL_law_40 (by rw [e8]; decide) (by rw [e8]; decide) (off := 367) (by rw [e8]; decide) (by decide) ?_
      exact law_bytes S.2.2.2.2.2.2.2.2.1 (Int32.ofNat (7 * q)) (law_at h7 hL) (44 + q) (402697 + 6 * q) (by omega) (by omega) m0 sh rr ww so sc pl qo pn bm tg px fa mo mw mr ms mt mu dd wi hi gt sp ta li sr co f hI kk
    by_cases e9 : w = 9
    · refine aw_tableIn (tgt := 462) dL_law_40 (by rw [e9]; decide) (by rw [e9]; decide) (off := 422) (by rw [e9]; decide) (by decide) ?_
      exact law_make S.2.2.2.2.2.2.2.2.2.1 (Int32.ofNat (7 * q)) (law_at h7 hL) (44 + q) (402697 + 6 * q) (by omega) (by omega) m0 sh rr ww so sc pl qo pn bm tg px fa mo mw mr ms mt mu dd wi hi gt sp ta li sr co f hI kk
    by_cases e10 : w = 10
    · refine aw_tableIn (tgt := 523) dL_law_40 (by rw [e10]; decide) (by rw [e10]; decide) (off := 483) (by rw [e10]; decide) (by decide) ?_
      exact law_dot S.2.2.2.2.2.2.2.2.2.2.1 (Int32.ofNat (7 * q)) (law_at h7 hL) (44 + q) (402697 + 6 * q) (by omega) (by omega) m0 sh rr ww so sc pl qo pn bm tg px fa mo mw mr ms mt mu dd wi hi gt sp ta li sr co f hI kk
    by_cases e11 : w = 11
    · refine aw_tableIn (tgt := 615) dL_law_40 (by rw [e11]; decide) (by rw [e11]; decide) (off := 575) (by rw [e11]; decide) (by decide) ?_
      exact law_sweep S.2.2.2.2.2.2.2.2.2.2.2.1 (Int32.ofNat (7 * q)) (law_at h7 hL) (44 + q) (402697 + 6 * q) (by omega) (by omega) m0 sh rr ww so sc pl qo pn bm tg px fa mo mw mr ms mt mu dd wi hi gt sp ta li sr co f hI kk
    by_cases e12 : w = 12
    · refine aw_tableIn (tgt := 733) dL_law_40 (by rw [e12]; decide) (by rw [e12]; decide) (off := 693) (by rw [e12]; decide) (by decide) ?_
      exact law_pixel S.2.2.2.2.2.2.2.2.2.2.2.2.1 (Int32.ofNat (7 * q)) (law_at h7 hL) (44 + q) (402697 + 6 * q) (by omega) (by omega) m0 sh rr ww so sc pl qo pn bm tg px fa mo mw mr ms mt mu dd wi hi gt sp ta li sr co f hI kk
    by_cases e13 : w = 13
    · refine aw_tableIn (tgt := 813) dL_law_40 (by rw [e13]; decide) (by rw [e13]; decide) (off := 773) (by rw [e13]; decide) (by decide) ?_
      exact law_raster S.2.2.2.2.2.2.2.2.2.2.2.2.2.1 (Int32.ofNat (7 * q)) (law_at h7 hL) (44 + q) (402697 + 6 * q) (by omega) (by omega) m0 sh rr ww so sc pl qo pn bm tg px fa mo mw mr ms mt mu dd wi hi gt sp ta li sr co f hI kk
    by_cases e14 : w = 14
    · refine aw_tableIn (tgt := 850) dL_law_40 (by rw [e14]; decide) (by rw [e14]; decide) (off := 810) (by rw [e14]; decide) (by decide) ?_
      exact law_holds S.2.2.2.2.2.2.2.2.2.2.2.2.2.2.1 (Int32.ofNat (7 * q)) (law_at h7 hL) (44 + q) (402697 + 6 * q) (by omega) (by omega) m0 sh rr ww so sc pl qo pn bm tg px fa mo mw mr ms mt mu dd wi hi gt sp ta li sr co f hI kk
    by_cases e15 : w = 15
    · refine aw_tableIn (tgt := 887) dL_law_40 (by rw [e15]; decide) (by rw [e15]; decide) (off := 847) (by rw [e15]; decide) (by decide) ?_
      exact law_copy S.2.2.2.2.2.2.2.2.2.2.2.2.2.2.2.1 (Int32.ofNat (7 * q)) (law_at h7 hL) (44 + q) (402697 + 6 * q) (by omega) (by omega) m0 sh rr ww so sc pl qo pn bm tg px fa mo mw mr ms mt mu dd wi hi gt sp ta li sr co f hI kk
    by_cases e16 : w = 16
    · refine aw_tableIn (tgt := 924) dL_law_40 (by rw [e16]; decide) (by rw [e16]; decide) (off := 884) (by rw [e16]; decide) (by decide) ?_
      exact law_same S.2.2.2.2.2.2.2.2.2.2.2.2.2.2.2.2.1 (Int32.ofNat (7 * q)) (law_at h7 hL) (44 + q) (402697 + 6 * q) (by omega) (by omega) m0 sh rr ww so sc pl qo pn bm tg px fa mo mw mr ms mt mu dd wi hi gt sp ta li sr co f hI kk
    by_cases e17 : w = 17
    · refine aw_tableIn (tgt := 961) dL_law_40 (by rw [e17]; decide) (by rw [e17]; decide) (off := 921) (by rw [e17]; decide) (by decide) ?_
      exact law_chain S.2.2.2.2.2.2.2.2.2.2.2.2.2.2.2.2.2 (Int32.ofNat (7 * q)) (law_at h7 hL) (44 + q) (402697 + 6 * q) (by omega) (by omega) m0 sh rr ww so sc pl qo pn bm tg px fa mo mw mr ms mt mu dd wi hi gt sp ta li sr co f hI kk
    have n0 : ¬ Int32.toInt w = 0 := fun q => e0 (Int32.toInt_inj.mp (q.trans (by decide)))
    have n1 : ¬ Int32.toInt w = 1 := fun q => e1 (Int32.toInt_inj.mp (q.trans (by decide)))
    have n2 : ¬ Int32.toInt w = 2 := fun q => e2 (Int32.toInt_inj.mp (q.trans (by decide)))
    have n3 : ¬ Int32.toInt w = 3 := fun q => e3 (Int32.toInt_inj.mp (q.trans (by decide)))
    have n4 : ¬ Int32.toInt w = 4 := fun q => e4 (Int32.toInt_inj.mp (q.trans (by decide)))
    have n5 : ¬ Int32.toInt w = 5 := fun q => e5 (Int32.toInt_inj.mp (q.trans (by decide)))
    have n6 : ¬ Int32.toInt w = 6 := fun q => e6 (Int32.toInt_inj.mp (q.trans (by decide)))
    have n7 : ¬ Int32.toInt w = 7 := fun q => e7 (Int32.toInt_inj.mp (q.trans (by decide)))
    have n8 : ¬ Int32.toInt w = 8 := fun q => e8 (Int32.toInt_inj.mp (q.trans (by decide)))
    have n9 : ¬ Int32.toInt w = 9 := fun q => e9 (Int32.toInt_inj.mp (q.trans (by decide)))
    have n10 : ¬ Int32.toInt w = 10 := fun q => e10 (Int32.toInt_inj.mp (q.trans (by decide)))
    have n11 : ¬ Int32.toInt w = 11 := fun q => e11 (Int32.toInt_inj.mp (q.trans (by decide)))
    have n12 : ¬ Int32.toInt w = 12 := fun q => e12 (Int32.toInt_inj.mp (q.trans (by decide)))
    have n13 : ¬ Int32.toInt w = 13 := fun q => e13 (Int32.toInt_inj.mp (q.trans (by decide)))
    have n14 : ¬ Int32.toInt w = 14 := fun q => e14 (Int32.toInt_inj.mp (q.trans (by decide)))
    have n15 : ¬ Int32.toInt w = 15 := fun q => e15 (Int32.toInt_inj.mp (q.trans (by decide)))
    have n16 : ¬ Int32.toInt w = 16 := fun q => e16 (Int32.toInt_inj.mp (q.trans (by decide)))
    have n17 : ¬ Int32.toInt w = 17 := fun q => e17 (Int32.toInt_inj.mp (q.trans (by decide)))
    refine aw_tableOut (tgt := 1010) dL_law_40 (by omega) (by decide) ?_
    exact aw_wide (by omega) (by omega) (kk m0 sh rr ww so sc pl qo pn bm tg px fa mo mw mr ms mt mu dd wi hi gt sp ta li sr co f hI)
def I0 (I : IV) : Prop := I (10, -1) shI (fun _ => (0, 0, fun _ => 0)) (fun _ => (0, fun _ => 0)) 12 (0, 0, 0, 0) (0, fun _ => 0, fun _ => 0) (0, 0, 0, 0, fun _ => 0) (0, 0, 0, 0) (0, 0, 0, 0, 0, 0, 0, 0, 0, 0, fun _ => 0) (0, 0, 0, 0, 0, 0, 0, 0, 0, 0, 0, 0, 0, 0, 0, fun _ => 0) (0, 0, 0, 0, 0, 0, 0, 0, fun _ => 0) (fillN (fun _ => 0) 4 (-1)) (0, 0, -1, -1, -1, -1, -1) (0, 0, 0) (0, 0, 0, 0, 0, 0, 0, 0, 0) 0 (fun _ => 0) (fun _ => 0) (fun _ => 0) (fun _ => 0) (fun _ => 0) (fun _ => 0) (fun _ => 0) (fun _ => 0) (fun _ => 0) (fun _ => 0) (fun _ => 0)
theorem start_eq : va_up (HM0 (HC0 (fun _ => none))) 43 (some (.inl (.long, 1, .inr (.inl (fun _ => 0))))) = HC (10, -1) shI (fun _ => (0, 0, fun _ => 0)) (fun _ => (0, fun _ => 0)) 12 (0, 0, 0, 0) (0, fun _ => 0, fun _ => 0) (0, 0, 0, 0, fun _ => 0) (0, 0, 0, 0) (0, 0, 0, 0, 0, 0, 0, 0, 0, 0, fun _ => 0) (0, 0, 0, 0, 0, 0, 0, 0, 0, 0, 0, 0, 0, 0, 0, fun _ => 0) (0, 0, 0, 0, 0, 0, 0, 0, fun _ => 0) (fillN (fun _ => 0) 4 (-1)) (HM (0, 0, -1, -1, -1, -1, -1) (0, 0, 0) (0, 0, 0, 0, 0, 0, 0, 0, 0) 0 (fun _ => 0) (fun _ => 0) (fun _ => 0) (fun _ => 0) (fun _ => 0) (fun _ => 0) (fun _ => 0) (fun _ => 0) (fun _ => 0) (fun _ => 0) (fun _ => 0) (LB (fun _ => 0))) := by
  rw [comm LB_z]
  funext k
  by_cases e : k = 43
  · subst e; rw [va_up_self]; rfl
  · rw [va_up_ne _ _ e]
    unfold HM0
    apply HM_cg
    unfold HC0
    rcases Nat.lt_or_ge k 31 with h | h
    · exact HC_lt h (by unfold LB; rw [if_neg e])
    · rw [HC_ge h, HC_ge h]; unfold LB; rw [if_neg e]
set_option maxHeartbeats 2000000 in
set_option maxRecDepth 100000 in
theorem law_start {b L : Nat} {xs : Nat → Int32} {nm : String} {t : List (Nat × Nat × Nat × Nat)} {I : IV} (S : S_all I) (h0 : I0 I) (hL : L ≤ 3584) : AW (XS b L xs) (mLaw nm t) room_1 601024 7293034 PoL (fun _ _ _ => False) 0 0 0 [(0, .retAddr b)] [] (fun _ => none) 0 := by
  refine aw_new dL_law_0 knL_8 (by decide) (by decide) ?_
  refine aw_dup dL_law_3 rfl ?_
  refine aw_callI dL_law_4 ckL_35 rfl (iX10 (fun _ => none)) rfl (Nat.le_of_ble_eq_true rfl) (Nat.le_of_ble_eq_true rfl) (Nat.le_of_ble_eq_true rfl) (by decide) (by decide) (fun r1 h1 n1 hp1 => ?_)
  obtain ⟨rfl, rfl, rfl⟩ := hp1
  refine aw_astore_n (lv2 := [(1, _), (0, _)]) dL_law_7 (Nat.le_of_ble_eq_true rfl) rfl ?_
  refine aw_new dL_law_8 knL_36 (by decide) (by decide) ?_
  refine aw_dup dL_law_11 rfl ?_
  refine aw_callI dL_law_12 ckL_38 rfl (iX11 (HC0 (fun _ => none))) rfl (Nat.le_of_ble_eq_true rfl) (Nat.le_of_ble_eq_true rfl) (Nat.le_of_ble_eq_true rfl) (by decide) (by decide) (fun r2 h2 n2 hp2 => ?_)
  obtain ⟨rfl, rfl, rfl⟩ := hp2
  refine aw_astore_n (lv2 := [(2, _), (1, _), (0, _)]) dL_law_15 (Nat.le_of_ble_eq_true rfl) rfl ?_
  refine aw_iconst (v := 1) dL_law_16 (by decide) ?_
  refine aw_newaL (N := 1) dL_law_17 ka_long (by decide) (by decide) (by decide) (by decide) (by decide) ?_
  refine aw_astore_n (lv2 := [(3, _), (2, _), (1, _), (0, _)]) dL_law_19 (Nat.le_of_ble_eq_true rfl) rfl ?_
  refine aw_iconst (v := 0) dL_law_20 (by decide) ?_
  refine aw_istore (lv2 := [(4, _), (3, _), (2, _), (1, _), (0, _)]) dL_law_21 (Nat.le_of_ble_eq_true rfl) rfl ?_
  refine aw_eqh start_eq ?_
  exact aw_lv _ (List.forall_mem_cons.mpr ⟨rfl, (List.forall_mem_cons.mpr ⟨rfl, (List.forall_mem_cons.mpr ⟨rfl, (List.forall_mem_cons.mpr ⟨rfl, (List.forall_mem_cons.mpr ⟨rfl, fun _ h => absurd h List.not_mem_nil⟩)⟩)⟩)⟩)⟩) (aw_wide (by decide) (by decide) (law_loop S hL 513 0 (by omega) (10, -1) shI (fun _ => (0, 0, fun _ => 0)) (fun _ => (0, fun _ => 0)) 12 (0, 0, 0, 0) (0, fun _ => 0, fun _ => 0) (0, 0, 0, 0, fun _ => 0) (0, 0, 0, 0) (0, 0, 0, 0, 0, 0, 0, 0, 0, 0, fun _ => 0) (0, 0, 0, 0, 0, 0, 0, 0, 0, 0, 0, 0, 0, 0, 0, fun _ => 0) (0, 0, 0, 0, 0, 0, 0, 0, fun _ => 0) (fillN (fun _ => 0) 4 (-1)) (0, 0, -1, -1, -1, -1, -1) (0, 0, 0) (0, 0, 0, 0, 0, 0, 0, 0, 0) 0 (fun _ => 0) (fun _ => 0) (fun _ => 0) (fun _ => 0) (fun _ => 0) (fun _ => 0) (fun _ => 0) (fun _ => 0) (fun _ => 0) (fun _ => 0) (fun _ => 0) (fun _ => 0) h0))
set_option maxHeartbeats 4000000 in
set_option maxRecDepth 100000 in
theorem cx_start {s : State} {b : Nat} (hts : ∀ w ∈ lw_tbl, w.before #[Value.ref b] s = true) (hgv : (Jvm.Cond.and given_1 narrow_1).before #[Value.ref b] s = true) : aw_cx (fun q => s.heap.size ≤ q) s s.heap := by
  have hs := flat_of_before _ hgv
  have hA : ∀ a : Nat, a < s.heap.size → ¬ (fun q => s.heap.size ≤ q) a := fun a h => Nat.not_le.mpr h
  refine ⟨fun a i x h hm => va_Nw.of rfl (hts _ hm), fun x hm => va_Nw.of rfl (hts _ hm), fun C hm => va_AO.of (hts _ hm), fun a c hm => ?_, fun a k t hm => ?_, ?_, ?_, fun a c hm => ?_, ?_⟩
  · obtain ⟨c1, t1, q1, q2, q3⟩ := Cond.castable_spec (hts _ hm)
    exact ⟨c1, t1, q1, q2, q3⟩
  · have h1 := hts _ hm
    have hcur : ∃ cur, s.vm.findClass a = some cur := by
      simp only [Cond.before, Cond.holds, Cond.value] at h1
      cases hc : s.vm.findClass a with
      | none => simp [hc] at h1
      | some cur => exact ⟨cur, rfl⟩
    obtain ⟨cur, hcur⟩ := hcur
    obtain ⟨_, _, _, q, -, -, -, -, -, he⟩ := Cond.stringRef_spec hcur h1
    exact ⟨q, vk_R.of h1 he⟩
  · exact vx_Zqof (hts _ (tl4 (List.mem_of_getElem? (i := 46) (by decide +kernel)))) (hts _ (tl1 (List.mem_of_getElem? (i := 15) (by decide +kernel)))) (hs _ (by decide +kernel)) hA
  · exact vx_Zqof (hts _ (tl4 (List.mem_of_getElem? (i := 48) (by decide +kernel)))) (hts _ (tl1 (List.mem_of_getElem? (i := 15) (by decide +kernel)))) (hs _ (by decide +kernel)) hA
  · have hm2 : (a = "java/util/NoSuchElementException" ∧ c = "java/lang/IllegalArgumentException") ∨ (a = "java/lang/IndexOutOfBoundsException" ∧ c = "java/lang/IllegalArgumentException") := by simpa [ncs] using hm
    rcases hm2 with ⟨rfl, rfl⟩ | ⟨rfl, rfl⟩
    · exact va_Nc.of (hs _ (by decide +kernel))
    · exact va_Nc.of (hs _ (by decide +kernel))
  · obtain ⟨adK, adV, hS, hev⟩ := vk_Sof (args := #[Value.ref b]) (s := s) (N := 1) (tm := fun _ => Term.string "RasterMint$Tga" 162) (len := [17]) (byt := [footByt]) (A := fun q => s.heap.size ≤ q)
      (fun i hi => by obtain rfl : i = 0 := by omega
                      decide) (fun i hi => hs _ (by decide +kernel)) (fun i hi => hs _ (by decide +kernel)) (fun i hi => hs _ (by decide +kernel))
      (fun i hi => by obtain rfl : i = 0 := by omega
                      exact hs _ (by decide +kernel))
      (fun i hi j hj => by
        obtain rfl : i = 0 := by omega
        have hj2 : j < 17 := hj
        have hall : ∀ j : Fin 17, Cond.eq (.elem (.field (Term.string "RasterMint$Tga" 162) "java/lang/String" "value" "[B") (.int (Int32.ofNat (j : Nat)))) (.int (([footByt].getD 0 []).getD (j : Nat) 0)) ∈ flatC (Jvm.Cond.and given_1 narrow_1) := by decide +kernel
        exact hs _ (hall ⟨j, hj2⟩))
      (fun i j hi hj hn => absurd (show i = j by omega) hn) hA
    refine ⟨va_Zof (hts _ (tl5 (List.mem_of_getElem? (i := 176) (by decide +kernel)))) (hts _ (tl1 (List.mem_of_getElem? (i := 22) (by decide +kernel)))) (va_eqt (hs _ (by decide +kernel))) hA, vx_Zqof (hts _ (tl5 (List.mem_of_getElem? (i := 192) (by decide +kernel)))) (hts _ (tl1 (List.mem_of_getElem? (i := 24) (by decide +kernel)))) (hs _ (by decide +kernel)) hA, adK, adV, hS, vk_R.of (hts _ (tl5 (List.mem_of_getElem? (i := 166) (by decide +kernel)))) (hev 0 (by omega)), vk_R.of (hts _ (tl7 (List.mem_of_getElem? (i := 94) (by decide +kernel)))) (va_eqR (hs _ (by decide +kernel)) (hev 0 (by omega)))⟩
theorem law_K {s : State} {args : Array Value} (hts : ∀ w ∈ tb, w.before args s = true) : ∃ D : va_G, va_K D vwCl [] s := by
  have h0 : ∀ c : Nat, ∃ p : ClassId × (Nat → Nat), ∀ q : vw_C, vwCl[c]? = some q → u_Kn s q.1 q.2.1 q.2.2 p.1 p.2 := by
    intro c
    match c with
    | 0 =>
      obtain ⟨cC, iS, h⟩ := u_known hts inT0 (hts _ (show Cond.instantiable RX0 12 ∈ tb from tc1 (i := 208) (by decide +kernel) rfl))
      exact ⟨(cC, iS), fun q hq => by cases hq; exact h⟩
    | 1 =>
      obtain ⟨cC, iS, h⟩ := u_known hts inT1 (hts _ (show Cond.instantiable RX1 2 ∈ tb from tc1 (i := 68) (by decide +kernel) rfl))
      exact ⟨(cC, iS), fun q hq => by cases hq; exact h⟩
    | 2 =>
      obtain ⟨cC, iS, h⟩ := u_known hts inT2 (hts _ (show Cond.instantiable RX3 3 ∈ tb from tc1 (i := 119) (by decide +kernel) rfl))
      exact ⟨(cC, iS), fun q hq => by cases hq; exact h⟩
    | 3 =>
      obtain ⟨cC, iS, h⟩ := u_known hts inT3 (hts _ (show Cond.instantiable RX4 10 ∈ tb from tc2 (i := 57) (by decide +kernel) rfl))
      exact ⟨(cC, iS), fun q hq => by cases hq; exact h⟩
    | 4 =>
      obtain ⟨cC, iS, h⟩ := u_known hts inT4 (hts _ (show Cond.instantiable RX5 4 ∈ tb from tc1 (i := 195) (by decide +kernel) rfl))
      exact ⟨(cC, iS), fun q hq => by cases hq; exact h⟩
    | 5 =>
      obtain ⟨cC, iS, h⟩ := u_known hts inT5 (hts _ (show Cond.instantiable RX6 5 ∈ tb from tc1 (i := 140) (by decide +kernel) rfl))
      exact ⟨(cC, iS), fun q hq => by cases hq; exact h⟩
    | 6 =>
      obtain ⟨cC, iS, h⟩ := u_known hts inT6 (hts _ (show Cond.instantiable RX7 3 ∈ tb from tc1 (i := 37) (by decide +kernel) rfl))
      exact ⟨(cC, iS), fun q hq => by cases hq; exact h⟩
    | 7 =>
      obtain ⟨cC, iS, h⟩ := u_known hts inT7 (hts _ (show Cond.instantiable RX8 5 ∈ tb from tc1 (i := 87) (by decide +kernel) rfl))
      exact ⟨(cC, iS), fun q hq => by cases hq; exact h⟩
    | 8 =>
      obtain ⟨cC, iS, h⟩ := u_known hts inT8 (hts _ (show Cond.instantiable RX9 17 ∈ tb from tc2 (i := 5) (by decide +kernel) rfl))
      exact ⟨(cC, iS), fun q hq => by cases hq; exact h⟩
    | 9 =>
      obtain ⟨cC, iS, h⟩ := u_known hts inT9 (hts _ (show Cond.instantiable RX10 9 ∈ tb from tc1 (i := 28) (by decide +kernel) rfl))
      exact ⟨(cC, iS), fun q hq => by cases hq; exact h⟩
    | 10 =>
      obtain ⟨cC, iS, h⟩ := u_known hts inT10 (hts _ (show Cond.instantiable RX11 31 ∈ tb from tc6 (i := 73) (by decide +kernel) rfl))
      exact ⟨(cC, iS), fun q hq => by cases hq; exact h⟩
    | k + 11 => exact ⟨(0, fun _ => 0), fun q hq => by cases hq⟩
  obtain ⟨g, hg⟩ := Classical.axiomOfChoice h0
  exact ⟨(fun c => (g c).1, fun c => (g c).2), fun c q hq => hg c q hq, fun k q hk => by cases hk⟩
