theorem inv_read : S_read Inv := by
  intro m0 sh rr ww so sc pl qo pn bm tg px fa mo mw mr ms mt mu dd wi hi gt sp ta li sr co h x1 x2
  obtain ⟨h1, ⟨⟨n, hn, e12, etp⟩, hO, hf, hg⟩, h3⟩ := h
  have hI : ∀ t : Int32, RasI (m0_sp m0) sh rr dd wi hi ∧ RowI ww (mo_taped ((mo_taped mo), t, (mo_tf mo), (mo_t1 mo), (mo_t2 mo), (mo_t3 mo), (mo_fp mo))) (mw_om mw) (mw_ho mw) mt mu ∧ FacI (m0_fp m0) fa (mo_tf mo) (mo_t1 mo) (mo_t2 mo) (mo_t3 mo) (mo_fp mo) := fun _ => ⟨h1, ⟨⟨n, hn, e12, etp⟩, hO, hf, hg⟩, h3⟩
  rcases shelf_c x2 with ⟨s1, s2⟩ | ⟨i, hi4, rfl, s1, s2⟩
  · refine ⟨0, (((mo_taped mo), 1, (mo_tf mo), (mo_t1 mo), (mo_t2 mo), (mo_t3 mo), (mo_fp mo)), mr, ms, dd, wi, hi, gt, sp, ta, li), ?_, Or.inr (Or.inl ⟨(m0, sh, rr, ww, so, sc, qo, pn, bm, tg, px, fa), ?_, rfl, hI 1⟩)⟩
    · unfold F_X11_read; rw [if_pos s2]
    · unfold F_X10_read; rw [if_pos s1]
  by_cases c : 0 ≤ x1.toInt ∧ x1.toInt < 5
  case neg =>
    refine ⟨0, (((mo_taped mo), 2, (mo_tf mo), (mo_t1 mo), (mo_t2 mo), (mo_t3 mo), (mo_fp mo)), mr, ms, dd, wi, hi, gt, sp, ta, li), ?_, Or.inr (Or.inr ⟨(m0, sh, rr, ww, so, sc, qo, pn, bm, tg, px, fa), ?_, rfl, hI 2⟩)⟩
    · unfold F_X11_read F_X11_read_28
      rw [s2, if_neg (by decide)]
      by_cases c2 : x1 < 0
      · rw [if_pos c2]
      · rw [if_neg c2, if_neg (by simp only [Int32.lt_iff_toInt_lt, Int32.le_iff_toInt_le, Int32.reduceToInt] at *; omega)]
    · unfold F_X10_read F_X10_read_26
      rw [s1, if_neg (by decide)]
      by_cases c2 : x1 < 0
      · rw [if_pos c2]
      · rw [if_neg c2, if_neg (by simp only [Int32.lt_iff_toInt_lt, Int32.le_iff_toInt_le, Int32.reduceToInt] at *; omega)]
  obtain ⟨a, ha, rfl⟩ := i_of (n := 5) c.1 (by omega)
  have T := take_all (a := a) (i := i) (o := 12) (q := 32) (n := n) m0 sh rr ww so sc qo pn bm tg px fa mr ms mt mu gt sp ta li ha hi4 h1.1 (h1.2.1 i hi4).1 (Or.inl rfl) (Or.inl rfl) hn e12
  have a0 : ¬ nI a < 0 := nI_pos (by omega)
  have a5 : nI a < 5 := nI_lt (b := 5) ha (by omega)
  have a4 : nI a ≤ 4 := nI_le (b := 4) (by omega) (by omega)
  have hRow : ∀ t : Int32, RowI (va_up ww 12 (0, y_b (ww 12))) 0 (mw_om mw) (mw_ho mw) mt mu := fun _ => ⟨⟨0, by omega, by rw [va_up_self, e12]; rfl, rfl⟩, by rw [va_up_ne _ _ (by decide)]; exact hO, hf, hg⟩
  rcases T with ⟨W, H, p2, sc2, qo2, pn2, bm2, tg2, px2, mr2, ms2, gt2, sp2, ta2, li2, w1, w2, w3, w4, w5, g1, g2, hx, e1, e2⟩ | ⟨k, x, sc2, qo2, pn2, bm2, tg2, px2, mr2, ms2, gt2, sp2, ta2, li2, k0, k1, k2, e1, e2⟩
  · refine ⟨0, ((0, 0, nI a, mr_one mr2, mr_two mr2, mr_three mr2, -1), mr2, ms2, blk dd (4096 * i) (W * H) gt2, upd wi i (nI W), upd hi i (nI H), gt2, sp2, ta2, li2), ?_, Or.inl ⟨((sh i, -1), va_up sh i (m0_sp m0), va_up rr (m0_sp m0) (nI W, nI H, p2), va_up ww 12 (0, y_b (ww 12)), 12, sc2, qo2, pn2, bm2, tg2, px2, upd (upd (upd (upd fa 0 (nI a)) 1 (mr_one mr2)) 2 (mr_two mr2)) 3 (mr_three mr2)), ?_, rfl, RasI_swap h1 hi4 w1 w2 w3 w4 w5 hx, hRow 0, FacI_set fa _ _ _ _ rfl⟩⟩
    · unfold F_X11_read
      rw [s2, if_neg (c := (1 : Int32) = 0) (by decide), if_neg a0, if_pos a4, etp, e2, fon_fok, if_neg (c := (1 : Int32) = 0) (by decide), kp_eq (nI a) hi4 w5 _ mr2 g1 g2, fon_fok]
    · unfold F_X10_read
      rw [s1, if_neg (c := (1 : Int32) = 0) (by decide), if_neg a0, if_pos a5, e1, fon_fok, if_pos (c := (0 : Int32) = 0) rfl]
      rfl
  · refine ⟨k, ((0, 0, (mo_tf mo), (mo_t1 mo), (mo_t2 mo), (mo_t3 mo), mr_whr mr2), mr2, ms2, dd, wi, hi, gt2, sp2, ta2, li2), ?_, Or.inl ⟨((m0_sp m0, sc_fp sc2), sh, va_up rr (m0_sp m0) x, va_up ww 12 (0, y_b (ww 12)), 12, sc2, qo2, pn2, bm2, tg2, px2, fa), ?_, rfl, RasI_spare h1 x, hRow 0, ⟨k2.symm, h3.2⟩⟩⟩
    · unfold F_X11_read
      rw [s2, if_neg (c := (1 : Int32) = 0) (by decide), if_neg a0, if_pos a4, etp, e2, fon_fok, if_pos (c := (0 : Int32) = 0) rfl, k1]
    · unfold F_X10_read
      rw [s1, if_neg (c := (1 : Int32) = 0) (by decide), if_neg a0, if_pos a5, e1, fon_fok, if_neg k0]
      rfl
