/-- bytes as they are kept -/
def Fit (f : A) : Prop := ∀ j, (f j).toInt8.toInt32 = f j
theorem fit_b8 (v : Int32) : (b8 v).toInt8.toInt32 = b8 v := by rw [b8_eq, Int8.toInt8_toInt32]
theorem fit_upd {f : A} (h : Fit f) (k : Nat) (v : Int32) : Fit (upd f k (b8 v)) := by
  intro j
  unfold upd
  split
  · exact fit_b8 v
  · exact h j
theorem fit_fits {f : A} (h : Fit f) (j : Nat) : fits .byte (.int (f j)) = true := by
  have q := pk_fb (f j)
  rwa [h j] at q
/-- a raster of both sides -/
def Pic (x : Ras) (w h : Int32) (d : A) : Prop := ∃ W H : Nat, x_w x = nI W ∧ x_g x = nI H ∧ w = nI W ∧ h = nI H ∧ W ≤ 4096 ∧ H ≤ 4096 ∧ W * H ≤ 4096 ∧ (W = 0 ∧ H = 0 ∨ 1 ≤ W ∧ 1 ≤ H) ∧ ∀ p, p < W * H → x_p x p = d p
def RasI (q : Nat) (sh : Nat → Nat) (rr : Nat → Ras) (dd wi hi : A) : Prop := isR q ∧ (∀ i, i < 4 → isR (sh i) ∧ sh i ≠ q) ∧ (∀ i j, i < 4 → j < 4 → sh i = sh j → i = j) ∧ ∀ i, i < 4 → Pic (rr (sh i)) (wi i) (hi i) (fun p => dd (4096 * i + p))
def RowI (ww : Nat → Row) (tp om ho : Int32) (mt mu : A) : Prop := (∃ n, n ≤ 65536 ∧ ww 12 = (nI n, mt) ∧ tp = nI n) ∧ (∃ n, n ≤ 65536 ∧ ww 14 = (nI n, mu) ∧ om = nI n ∧ (ho = 0 ∧ n = 0 ∨ ho = 1 ∧ 0 < n)) ∧ Fit mt ∧ Fit mu
def FacI (fp : Int32) (fa : A) (tf t1 t2 t3 fq : Int32) : Prop := fp = fq ∧ fa 0 = tf ∧ fa 1 = t1 ∧ fa 2 = t2 ∧ fa 3 = t3
def Inv : IV := fun m0 sh rr ww _ _ _ _ _ _ _ _ fa mo mw _ _ mt mu dd wi hi _ _ _ _ _ _ => RasI (m0_sp m0) sh rr dd wi hi ∧ RowI ww (mo_taped mo) (mw_om mw) (mw_ho mw) mt mu ∧ FacI (m0_fp m0) fa (mo_tf mo) (mo_t1 mo) (mo_t2 mo) (mo_t3 mo) (mo_fp mo)
theorem Inv_0 : I0 Inv := by
  refine ⟨⟨by decide, ?_, ?_, ?_⟩, ⟨⟨0, by omega, rfl, rfl⟩, ⟨0, by omega, rfl, rfl, Or.inl ⟨rfl, rfl⟩⟩, fun _ => (by decide : (0 : Int32).toInt8.toInt32 = 0), fun _ => (by decide : (0 : Int32).toInt8.toInt32 = 0)⟩, ⟨rfl, rfl, rfl, rfl, rfl⟩⟩
  · intro i hi; rcases (by omega : i = 0 ∨ i = 1 ∨ i = 2 ∨ i = 3) with rfl | rfl | rfl | rfl <;> decide
  · intro i j hi hj; rcases (by omega : i = 0 ∨ i = 1 ∨ i = 2 ∨ i = 3) with rfl | rfl | rfl | rfl <;> rcases (by omega : j = 0 ∨ j = 1 ∨ j = 2 ∨ j = 3) with rfl | rfl | rfl | rfl <;> decide
  · intro i hi
    exact ⟨0, 0, rfl, rfl, rfl, rfl, by omega, by omega, by omega, Or.inl ⟨rfl, rfl⟩, fun p hp => absurd hp (by omega)⟩
theorem inv_place : S_place Inv := by
  intro m0 sh rr ww so sc pl qo pn bm tg px fa mo mw mr ms mt mu dd wi hi gt sp ta li sr co h
  obtain ⟨h1, h2, h3⟩ := h
  refine ⟨m0_fp m0, (), ((mo_taped mo), 0, (mo_tf mo), (mo_t1 mo), (mo_t2 mo), (mo_t3 mo), (mo_fp mo)), rfl, ?_, h1, h2, h3⟩
  dsimp only [F_X11_place]
  rw [h3.1]
theorem inv_told : S_told Inv := by
  intro m0 sh rr ww so sc pl qo pn bm tg px fa mo mw mr ms mt mu dd wi hi gt sp ta li sr co h x1
  obtain ⟨h1, h2, h3⟩ := h
  obtain ⟨e0, e1, e2, e3, e4⟩ := h3
  have hI : RasI (m0_sp m0) sh rr dd wi hi ∧ RowI ww (mo_taped mo) (mw_om mw) (mw_ho mw) mt mu ∧ FacI (m0_fp m0) fa (mo_tf mo) (mo_t1 mo) (mo_t2 mo) (mo_t3 mo) (mo_fp mo) := ⟨h1, h2, e0, e1, e2, e3, e4⟩
  by_cases c : 0 ≤ x1.toInt ∧ x1.toInt < 4
  · obtain ⟨j, hj, rfl⟩ : ∃ j : Nat, j < 4 ∧ x1 = nI j := ⟨x1.toInt.toNat, by omega, Int32.toInt_inj.mp (by rw [nI_toInt (by omega)]; omega)⟩
    refine ⟨fa j, (), ((mo_taped mo), 0, (mo_tf mo), (mo_t1 mo), (mo_t2 mo), (mo_t3 mo), (mo_fp mo)), ?_, ?_, hI⟩
    · unfold F_X10_told
      rw [if_neg (by (simp (disch := omega) only [nI_toInt, Int32.lt_iff_toInt_lt, Int32.le_iff_toInt_le, ← Int32.toInt_inj, Int32.reduceToInt]; omega)), if_neg (by (simp (disch := omega) only [nI_toInt, Int32.lt_iff_toInt_lt, Int32.le_iff_toInt_le, ← Int32.toInt_inj, Int32.reduceToInt]; omega)), if_pos (inb_nI hj (by omega)), nI_clamp (by omega)]
    · unfold F_X11_told
      rcases (by omega : j = 0 ∨ j = 1 ∨ j = 2 ∨ j = 3) with rfl | rfl | rfl | rfl
      · rw [if_pos (by decide), e1]
      · rw [if_neg (by decide), if_pos (by decide), e2]
      · rw [if_neg (by decide), if_neg (by decide), if_pos (by decide), e3]
      · rw [if_neg (by decide), if_neg (by decide), if_neg (by decide), if_pos (by decide), e4]
  · refine ⟨-1, (), ((mo_taped mo), 0, (mo_tf mo), (mo_t1 mo), (mo_t2 mo), (mo_t3 mo), (mo_fp mo)), ?_, ?_, hI⟩
    · unfold F_X10_told F_X10_told_22
      by_cases c2 : x1 < 0
      · rw [if_pos c2]
      · rw [if_neg c2, if_pos]
        simp only [Int32.lt_iff_toInt_lt, Int32.le_iff_toInt_le, Int32.reduceToInt] at *
        omega
    · unfold F_X11_told
      simp only [← Int32.toInt_inj, Int32.reduceToInt]
      rw [if_neg (by omega), if_neg (by omega), if_neg (by omega), if_neg (by omega)]
theorem inv_end : S_end Inv := by
  intro m0 sh rr ww so sc pl qo pn bm tg px fa mo mw mr ms mt mu dd wi hi gt sp ta li sr co h x1
  obtain ⟨h1, ⟨⟨n, hn, e1, e2⟩, hO, hf, hg⟩, h3⟩ := h
  by_cases c : 0 ≤ x1.toInt ∧ x1.toInt ≤ n
  · obtain ⟨j, hj, rfl⟩ : ∃ j : Nat, j ≤ n ∧ x1 = nI j := ⟨x1.toInt.toNat, by omega, Int32.toInt_inj.mp (by rw [nI_toInt (by omega)]; omega)⟩
    refine ⟨1, va_up ww 12 (nI j, mt), (nI j, 0, (mo_tf mo), (mo_t1 mo), (mo_t2 mo), (mo_t3 mo), (mo_fp mo)), ?_, ?_, h1, ⟨⟨j, by omega, va_up_self _ _ _, rfl⟩, ?_, hf, hg⟩, h3⟩
    · unfold F_X10_end
      rw [if_neg (by (simp (disch := omega) only [nI_toInt, Int32.lt_iff_toInt_lt, Int32.le_iff_toInt_le, ← Int32.toInt_inj, Int32.reduceToInt]; omega)), e1, if_pos (nI_le hj (by omega))]
    · unfold F_X11_end
      rw [if_neg (by (simp (disch := omega) only [nI_toInt, Int32.lt_iff_toInt_lt, Int32.le_iff_toInt_le, ← Int32.toInt_inj, Int32.reduceToInt]; omega)), e2, if_pos (nI_le hj (by omega))]
    · rw [va_up_ne _ _ (by decide)]; exact hO
  · refine ⟨0, ww, ((mo_taped mo), 0, (mo_tf mo), (mo_t1 mo), (mo_t2 mo), (mo_t3 mo), (mo_fp mo)), ?_, ?_, h1, ⟨⟨n, hn, e1, e2⟩, hO, hf, hg⟩, h3⟩
    · unfold F_X10_end F_X10_end_15
      by_cases c2 : x1 < 0
      · rw [if_pos c2]
      · rw [if_neg c2, e1, if_neg]
        dsimp only [y_n]
        simp (disch := omega) only [nI_toInt, Int32.lt_iff_toInt_lt, Int32.le_iff_toInt_le, Int32.reduceToInt] at *
        omega
    · unfold F_X11_end F_X11_end_17
      by_cases c2 : x1 < 0
      · rw [if_pos c2]
      · rw [if_neg c2, e2, if_neg]
        simp (disch := omega) only [nI_toInt, Int32.lt_iff_toInt_lt, Int32.le_iff_toInt_le, Int32.reduceToInt] at *
        omega
/-- four bytes, the highest first -/
def h4 (f : A) (k : Nat) (v : Int32) : A := upd (upd (upd (upd f k (b8 (v >>> ((24 : Int32) &&& 31)))) (k + 1) (b8 (v >>> ((16 : Int32) &&& 31)))) (k + 2) (b8 (v >>> ((8 : Int32) &&& 31)))) (k + 3) (b8 v)
theorem fit_h4 {f : A} (h : Fit f) (k : Nat) (v : Int32) : Fit (h4 f k v) := fit_upd (fit_upd (fit_upd (fit_upd h _ _) _ _) _ _) _ _
theorem ut_high4 (v : Int32) (k : Nat) (f : A) (h : k + 4 ≤ 65536) : F_X1_addHigh4 v (nI k, f) = fok () (nI (k + 4), h4 f k v) := by
  unfold F_X1_addHigh4
  rw [ut_add _ _ _ (by omega), fon_fok, ut_add _ _ _ (by omega), fon_fok, ut_add _ _ _ (by omega), fon_fok, ut_add _ _ _ (by omega), fon_fok]
  rfl
theorem lp_5 {T : Type} (z : T) (f : T → T) : lp z f FU = f (f (f (f (f (lp z f 99995))))) := rfl
theorem ut_four (v : Int32) (k : Nat) (f : A) (a b c d e g : Int32) (h : k + 4 ≤ 65536) : F_X11_four v (nI k, a, b, c, d, e, g) f = fok () ((nI (k + 4), a, b, c, d, e, g), h4 f k v) := by
  unfold F_X11_four
  rw [lp_5]
  dsimp only [F_X11_four_3, mo_taped, mo_thrown, mo_tf, mo_t1, mo_t2, mo_t3, mo_fp]
  rw [if_neg (by decide), if_pos (inb_nI (by omega) (by omega)), nI_1, nI_clamp (by omega), if_neg (by decide), if_pos (inb_nI (by omega) (by omega)), nI_1, nI_clamp (by omega), if_neg (by decide), if_pos (inb_nI (by omega) (by omega)), nI_1, nI_clamp (by omega), if_neg (by decide), if_pos (inb_nI (by omega) (by omega)), nI_1, nI_clamp (by omega), if_pos (by decide)]
  rw [show ((24 : Int32) + -8) = 16 from by decide, show ((16 : Int32) + -8) = 8 from by decide, show ((8 : Int32) + -8) = 0 from by decide, sb_shr0]
  rfl
theorem inv_feed : S_feed Inv := by
  intro m0 sh rr ww so sc pl qo pn bm tg px fa mo mw mr ms mt mu dd wi hi gt sp ta li sr co h x1 x2 x3 x4 x5
  obtain ⟨h1, ⟨⟨n, hn, e1, e2⟩, hO, hf, hg⟩, h3⟩ := h
  by_cases c : n + 20 ≤ 65536
  · let f5 := h4 (h4 (h4 (h4 (h4 mt n x1) (n + 4) x2) (n + 8) x3) (n + 12) x4) (n + 16) x5
    refine ⟨nI (n + 20), va_up ww 12 (nI (n + 20), f5), ((nI (n + 20), 0, (mo_tf mo), (mo_t1 mo), (mo_t2 mo), (mo_t3 mo), (mo_fp mo)), f5), ?_, ?_, h1, ⟨⟨n + 20, by omega, va_up_self _ _ _, rfl⟩, ?_, fit_h4 (fit_h4 (fit_h4 (fit_h4 (fit_h4 hf _ _) _ _) _ _) _ _) _ _, hg⟩, h3⟩
    · unfold F_X10_feed
      rw [e1, if_pos (by show nI n ≤ 65516; (simp (disch := omega) only [nI_toInt, Int32.lt_iff_toInt_lt, Int32.le_iff_toInt_le, ← Int32.toInt_inj, Int32.reduceToInt]; omega))]
      simp only [va_up_self, va_up_up]
      rw [ut_high4 _ _ _ (by omega), fon_fok, ut_high4 _ _ _ (by omega), fon_fok, ut_high4 _ _ _ (by omega), fon_fok, ut_high4 _ _ _ (by omega), fon_fok, ut_high4 _ _ _ (by omega), fon_fok]
    · unfold F_X11_feed
      rw [e2, show nI n + 20 = nI (n + 20) from nI_add n 20, if_pos (by (simp (disch := omega) only [nI_toInt, Int32.lt_iff_toInt_lt, Int32.le_iff_toInt_le, ← Int32.toInt_inj, Int32.reduceToInt]; omega)), ut_four _ _ _ _ _ _ _ _ _ (by omega), fon_fok, ut_four _ _ _ _ _ _ _ _ _ (by omega), fon_fok, ut_four _ _ _ _ _ _ _ _ _ (by omega), fon_fok, ut_four _ _ _ _ _ _ _ _ _ (by omega), fon_fok, ut_four _ _ _ _ _ _ _ _ _ (by omega), fon_fok]
    · rw [va_up_ne _ _ (by decide)]; exact hO
  · refine ⟨-1, ww, (((mo_taped mo), 0, (mo_tf mo), (mo_t1 mo), (mo_t2 mo), (mo_t3 mo), (mo_fp mo)), mt), ?_, ?_, h1, ⟨⟨n, hn, e1, e2⟩, hO, hf, hg⟩, h3⟩
    · unfold F_X10_feed
      rw [e1, if_neg (by show ¬ nI n ≤ 65516; (simp (disch := omega) only [nI_toInt, Int32.lt_iff_toInt_lt, Int32.le_iff_toInt_le, ← Int32.toInt_inj, Int32.reduceToInt]; omega))]
    · unfold F_X11_feed
      rw [e2, show nI n + 20 = nI (n + 20) from nI_add n 20, if_neg (by (simp (disch := omega) only [nI_toInt, Int32.lt_iff_toInt_lt, Int32.le_iff_toInt_le, ← Int32.toInt_inj, Int32.reduceToInt]; omega))]
/-- the first n of g before the rest of f -/
def frontN (g f : A) (n : Nat) : A := fun j => if j < n then g j else f j
theorem frontN_s (g f : A) (n : Nat) : upd (frontN g f n) n (g n) = frontN g f (n + 1) := by
  funext j
  unfold upd frontN
  by_cases c : j = n
  · subst c; rw [if_pos rfl, if_pos (by omega)]
  · rw [if_neg c]
    by_cases c2 : j < n
    · rw [if_pos c2, if_pos (by omega)]
    · rw [if_neg c2, if_neg (by omega)]
theorem ut_again (n : Nat) (hn : n ≤ 65536) (mt mu : A) (hg : Fit mu) (a b : Int32) (mo : MO) : lp (fun _ _ _ => fno) (F_X11_again_16 (nI n, a, b) mu) FU 0 mo mt = fok (nI n) ((nI n, (mo_thrown mo), (mo_tf mo), (mo_t1 mo), (mo_t2 mo), (mo_t3 mo), (mo_fp mo)), frontN mu mt n) := by
  have q := lp_M (z := fun _ _ _ => fno) (f := F_X11_again_16 (nI n, a, b) mu) (fun m k => ∀ j, j + m = n → k (nI j) mo (frontN mu mt j) = fok (nI n) ((nI n, (mo_thrown mo), (mo_tf mo), (mo_t1 mo), (mo_t2 mo), (mo_t3 mo), (mo_fp mo)), frontN mu mt n)) ?_ n (by omega)
  · have := q 0 (by omega)
    rw [show frontN mu mt 0 = mt from by funext j; simp [frontN]] at this
    exact this
  · intro m k ih j hj
    dsimp only [F_X11_again_16, mw_om]
    by_cases c : m = 0
    · have : j = n := by omega
      subst this
      rw [if_pos (nI_le (by omega) (by omega))]
    · rw [if_neg (nI_ge (by omega) (by omega)), if_pos (inb_nI (by omega) (by omega)), if_pos (inb_nI (by omega) (by omega)), nI_clamp (by omega), vp_nar_byte, hg, frontN_s, nI_1]
      exact ih (m - 1) (by omega) (j + 1) (by omega)
theorem inv_again : S_again Inv := by
  intro m0 sh rr ww so sc pl qo pn bm tg px fa mo mw mr ms mt mu dd wi hi gt sp ta li sr co h
  obtain ⟨h1, ⟨⟨n, hn, e1, e2⟩, ⟨k, hk, d1, d2, hO⟩, hf, hg⟩, h3⟩ := h
  obtain ⟨om, ho, cm⟩ := mw
  dsimp only [mw_om, mw_ho] at d2 hO
  subst d2
  rcases hO with ⟨rfl, rfl⟩ | ⟨rfl, hk0⟩
  · refine ⟨-1, ww, (((mo_taped mo), 0, (mo_tf mo), (mo_t1 mo), (mo_t2 mo), (mo_t3 mo), (mo_fp mo)), mt), ?_, ?_, h1, ⟨⟨n, hn, e1, e2⟩, ⟨0, hk, d1, rfl, Or.inl ⟨rfl, rfl⟩⟩, hf, hg⟩, h3⟩
    · unfold F_X10_again
      rw [d1, if_pos (show y_n (nI 0, mu) = 0 from rfl)]
    · unfold F_X11_again
      rw [if_pos rfl]
  · refine ⟨nI k, va_up ww 12 (nI k, frontN mu mt k), ((nI k, 0, (mo_tf mo), (mo_t1 mo), (mo_t2 mo), (mo_t3 mo), (mo_fp mo)), frontN mu mt k), ?_, ?_, h1, ⟨⟨k, hk, va_up_self _ _ _, rfl⟩, ⟨k, hk, ?_, rfl, Or.inr ⟨rfl, hk0⟩⟩, ?_, hg⟩, h3⟩
    · unfold F_X10_again F_X1_takeFrom
      rw [d1, if_neg (by show ¬ nI k = 0; exact nI_ne0 hk0 (by omega))]
      simp only [va_up_self, va_up_up, va_up_ne _ _ (by decide : (14 : Nat) ≠ 12), d1]
      dsimp only [y_n, y_b]
      rw [if_pos ⟨nI_pos (by omega), by rw [nI_clamp (by omega)]; exact hk, fun i _ => fit_fits hg i⟩, fon_fok, va_up_self, nI_clamp (by omega)]
      rw [show va_cpy mu (ww 12).2 0 0 k = frontN mu mt k from ?_]
      funext j
      unfold frontN
      split
      · rw [sb_cpy0 (by assumption)]
      · rw [pk_cpy_out (by omega), e1]
    · unfold F_X11_again
      dsimp only [mw_ho]
      rw [if_neg (by decide)]
      exact ut_again k hk mt mu hg _ _ _
    · rw [va_up_ne _ _ (by decide)]; exact d1
    · intro j
      show (frontN mu mt k j).toInt8.toInt32 = frontN mu mt k j
      unfold frontN
      split
      · exact hg j
      · exact hf j
