theorem fam_no {x : Int32} (h : ¬ (0 ≤ x.toInt ∧ x.toInt ≤ 17)) : F_X10_familyOf x = -1 := by
  unfold F_X10_familyOf
  by_cases c : x < 0
  · rw [if_pos c]
  · rw [if_neg c, if_neg (by simp only [Int32.lt_iff_toInt_lt, Int32.le_iff_toInt_le, Int32.reduceToInt] at *; omega)]
theorem fam_ne {n : Nat} (h : n < 18) : ¬ F_X10_familyOf (nI n) = -1 := by
  rw [fam_eq n h]
  unfold fam
  repeat' split
  all_goals decide
/-- a raster of the shelf, for the writers -/
theorem put_no {r : Nat} {n : Nat} (hn : n < 18) {rr : Nat → Ras} {pl pl2 : Pal} (ww : Nat → Row) (qo : Qoi) (hf : F_X10_fits (nI n) (rr r) pl = fok 0 pl2) : F_X10_putOut (nI n) r rr ww pl qo = fok 0 (ww, pl2, qo) := by
  unfold F_X10_putOut F_X10_putOut_19
  rw [if_neg (fam_ne hn), hf, fon_fok, if_pos rfl]
theorem inv_write : S_write Inv := by
  intro m0 sh rr ww so sc pl qo pn bm tg px fa mo mw mr ms mt mu dd wi hi gt sp ta li sr co h x1 x2
  obtain ⟨h1, ⟨hTp, ⟨m, hm, e14, eom, hho⟩, hf, hg⟩, h3⟩ := h
  have hI : RasI (m0_sp m0) sh rr dd wi hi ∧ RowI ww (mo_taped mo) (mw_om mw) (mw_ho mw) mt mu ∧ FacI (m0_fp m0) fa (mo_tf mo) (mo_t1 mo) (mo_t2 mo) (mo_t3 mo) (mo_fp mo) := ⟨h1, ⟨hTp, ⟨m, hm, e14, eom, hho⟩, hf, hg⟩, h3⟩
  rcases shelf_c x1 with ⟨s1, s2⟩ | ⟨i, hi4, rfl, s1, s2⟩
  · refine ⟨-2, (ww, pl, qo), (((mo_taped mo), 0, (mo_tf mo), (mo_t1 mo), (mo_t2 mo), (mo_t3 mo), (mo_fp mo)), mw, mu, sp, sr, co), ?_, ?_, hI⟩
    · unfold F_X10_write F_X10_write_16; rw [has_no sh rr s1, fon_fok, if_pos rfl]
    · unfold F_X11_write F_X11_write_31; rw [if_pos s2]
  obtain ⟨W, H, b1, b2, b3, b4, b5, b6, b7, b8, b9⟩ := h1.2.2.2 i hi4
  have e1 := has_yes hi4 (h1.2.1 i hi4).1 b1 b5
  by_cases cW : W = 0
  · rw [if_pos cW] at e1
    refine ⟨-2, (ww, pl, qo), (((mo_taped mo), 0, (mo_tf mo), (mo_t1 mo), (mo_t2 mo), (mo_t3 mo), (mo_fp mo)), mw, mu, sp, sr, co), ?_, ?_, hI⟩
    · unfold F_X10_write F_X10_write_16; rw [e1, fon_fok, if_pos rfl]
    · unfold F_X11_write F_X11_write_31; rw [s2, if_neg (by decide), if_pos (inb_nI hi4 (by omega)), nI_clamp (by omega), b3, cW, if_pos (by decide)]
  rw [if_neg cW] at e1
  have hW0 : ¬ nI W = 0 := nI_ne0 (by omega) (by omega)
  by_cases cx : 0 ≤ x2.toInt ∧ x2.toInt ≤ 17
  case neg =>
    refine ⟨-2, (ww, pl, qo), (((mo_taped mo), 0, (mo_tf mo), (mo_t1 mo), (mo_t2 mo), (mo_t3 mo), (mo_fp mo)), mw, mu, sp, sr, co), ?_, ?_, hI⟩
    · unfold F_X10_write F_X10_write_16; rw [e1, fon_fok, if_neg (c := (1 : Int32) = 0) (by decide), if_pos (fam_no cx)]
    · unfold F_X11_write F_X11_write_31
      rw [s2, if_neg (by decide), if_pos (inb_nI hi4 (by omega)), nI_clamp (by omega), b3, if_neg hW0]
      by_cases c : x2 < 0
      · rw [if_pos c]
      · rw [if_neg c, if_neg (by simp only [Int32.lt_iff_toInt_lt, Int32.le_iff_toInt_le, Int32.reduceToInt] at *; omega)]
  obtain ⟨n, hn, rfl⟩ := i_of (n := 18) cx.1 (by omega)
  have n0 : ¬ nI n < 0 := nI_pos (by omega)
  have n17 : nI n ≤ 17 := nI_le (b := 17) (by omega) (by omega)
  obtain ⟨z, pl2, sr2, hz, q1, q2, _, qF⟩ := ut_fits hi4 b7 (area b8 cW) (rr (sh i)) dd wi hi b1 b2 b3 b4 b9 (nI n) pl sr
  obtain ⟨zo, ho, o1, o2⟩ := ut_opaque hi4 b7 (rr (sh i)) dd wi hi b1 b2 b3 b4 b9
  rcases hz with rfl | rfl
  · refine ⟨-1, (ww, pl2, qo), (((mo_taped mo), 0, (mo_tf mo), (mo_t1 mo), (mo_t2 mo), (mo_t3 mo), (mo_fp mo)), mw, mu, sp, sr2, co), ?_, ?_, hI⟩
    · unfold F_X10_write
      rw [e1, fon_fok, if_neg (c := (1 : Int32) = 0) (by decide), if_neg (fam_ne hn), if_pos (inb_nI hi4 (by omega)), nI_clamp (by omega), if_pos (h1.2.1 i hi4).1, put_no hn ww qo q1, fon_fok, if_pos rfl]
    · unfold F_X11_write
      rw [s2, if_neg (c := (1 : Int32) = 0) (by decide), if_pos (inb_nI hi4 (by omega)), nI_clamp (by omega), b3, if_neg hW0, if_neg n0, if_pos n17, q2, fon_fok, if_pos rfl]
  · have hFa := qF rfl
    have hWH : 1 ≤ W ∧ 1 ≤ H := by
      rcases b8 with ⟨e, _⟩ | e
      · exact absurd e cW
      · exact e
    obtain ⟨pl3, qo3, ec⟩ := enc_c (ww := ww) (mu := mu) qo zo (by omega) e14 q1 hFa o1 b1 b2 b5 b6 hWH.1 hWH.2 b7
    obtain ⟨cm2, sp2, co2, er⟩ := enc_r (mu := mu) (sp := sp) (co := co) mw zo (by omega) hFa o2 (fun hc => fit_z hc q1 o1) hi4 b3 b4 b9 b5 b6 hWH.1 hWH.2 b7
    have hb := encL_b (n := n) (z := zo) (d := x_p (rr (sh i))) (by omega) b6 b7 (fun hc => hFa.2.2 (by rcases hc with rfl | rfl | rfl | rfl | rfl <;> decide))
    have h14 : va_up ww 14 (RwC mu (encL n zo W H (x_p (rr (sh i))))) 14 = (nI (encL n zo W H (x_p (rr (sh i)))).length, ap mu (encL n zo W H (x_p (rr (sh i))))) := va_up_self _ _ _
    refine ⟨nI (encL n zo W H (x_p (rr (sh i)))).length, (va_up ww 14 (RwC mu (encL n zo W H (x_p (rr (sh i))))), pl3, qo3), (((mo_taped mo), 0, (mo_tf mo), (mo_t1 mo), (mo_t2 mo), (mo_t3 mo), (mo_fp mo)), (nI (encL n zo W H (x_p (rr (sh i)))).length, 1, cm2), ap mu (encL n zo W H (x_p (rr (sh i)))), sp2, sr2, co2), ?_, ?_, h1, ⟨?_, ⟨(encL n zo W H (x_p (rr (sh i)))).length, hb.2, h14, rfl, Or.inr ⟨rfl, by omega⟩⟩, hf, fit_ap hg _⟩, h3⟩
    · unfold F_X10_write
      rw [e1, fon_fok, if_neg (c := (1 : Int32) = 0) (by decide), if_neg (fam_ne hn), if_pos (inb_nI hi4 (by omega)), nI_clamp (by omega), if_pos (h1.2.1 i hi4).1, ec, fon_fok, if_neg (by decide)]
      dsimp only
      rw [h14]
    · unfold F_X11_write
      rw [s2, if_neg (c := (1 : Int32) = 0) (by decide), if_pos (inb_nI hi4 (by omega)), nI_clamp (by omega), b3, if_neg hW0, if_neg n0, if_pos n17, q2, fon_fok, if_neg (c := (1 : Int32) = 0) (by decide), er, fon_fok]
    · have h12 : va_up ww 14 (RwC mu (encL n zo W H (x_p (rr (sh i))))) 12 = ww 12 := va_up_ne _ _ (by decide)
      obtain ⟨m2, g1, g2, g3⟩ := hTp
      exact ⟨m2, g1, h12.trans g2, g3⟩
