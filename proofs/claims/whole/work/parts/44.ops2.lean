theorem ut_tooL {W H : Nat} (hW : W < 2 ^ 32) (hH : H < 2 ^ 32) : F_X10_isTooLarge (lN W) (lN H) = if 4096 < W ∨ 4096 < H ∨ 4096 < W * H then 1 else 0 := by
  unfold F_X10_isTooLarge
  simp only [lg_cmp_gt, lg_cmp_le]
  rw [show (4096 : Int64) = lN 4096 from rfl, lN_mul]
  by_cases c1 : 4096 < W
  · rw [if_pos ((pk_lLT (by omega) (by omega)).mpr c1), if_pos (Or.inl c1)]
  · rw [if_neg (fun q => c1 ((pk_lLT (by omega) (by omega)).mp q))]
    by_cases c2 : 4096 < H
    · rw [if_pos ((pk_lLT (by omega) (by omega)).mpr c2), if_pos (Or.inr (Or.inl c2))]
    · have hp : W * H ≤ 4096 * 4096 := Nat.mul_le_mul (by omega) (by omega)
      rw [if_neg (fun q => c2 ((pk_lLT (by omega) (by omega)).mp q))]
      by_cases c3 : 4096 < W * H
      · rw [if_neg (fun q => by have := (pk_lLE (by omega) (by omega)).mp q; omega), if_pos (Or.inr (Or.inr c3))]
      · rw [if_pos ((pk_lLE (by omega) (by omega)).mpr (by omega)), if_neg (by omega)]
theorem ut_fill {W H : Nat} (hp : W * H ≤ 4096) (v : Int32) (f : A) : F_X7_fill v (nI W, nI H, f) = fok () (nI W, nI H, fillN f (W * H) v) := by
  unfold F_X7_fill
  rw [ut_count rfl rfl, fon_fok]
  have q := lp_M (z := fun _ _ _ _ => fno) (f := F_X7_fill_7) (fun m k => ∀ j, j + m = W * H → k v (nI (W * H)) (nI j) (nI W, nI H, fillN f j v) = fok () (nI W, nI H, fillN f (W * H) v)) ?_ (W * H) (by omega)
  · have := q 0 (by omega)
    rw [fillN_0] at this
    exact this
  · intro m k ih j hj
    unfold F_X7_fill_7
    by_cases c : m = 0
    · have : j = W * H := by omega
      subst this
      rw [if_pos (nI_le (by omega) (by omega))]
    · rw [if_neg (nI_ge (by omega) (by omega)), ut_set (by omega), fon_fok, nI_1]
      dsimp only [x_w, x_g, x_p]
      rw [fillN_s]
      exact ih (m - 1) (by omega) (j + 1) (by omega)
theorem ut_rmake {i W H : Nat} (hi : i < 4) (hp : W * H ≤ 4096) (v : Int32) (mo : MO) (dd wi hh : A) : lp (fun _ _ _ _ _ _ _ _ _ => fno) F_X11_make_53 FU (nI i) (nI W) (nI H) v 0 mo dd wi hh = fok 1 (mo, blk dd (4096 * i) (W * H) (fun _ => v), wi, hh) := by
  have q := lp_M (z := fun _ _ _ _ _ _ _ _ _ => fno) (f := F_X11_make_53) (fun m k => ∀ j, j + m = W * H → k (nI i) (nI W) (nI H) v (nI j) mo (blk dd (4096 * i) j (fun _ => v)) wi hh = fok 1 (mo, blk dd (4096 * i) (W * H) (fun _ => v), wi, hh)) ?_ (W * H) (by omega)
  · have := q 0 (by omega)
    rw [blk_0] at this
    exact this
  · intro m k ih j hj
    unfold F_X11_make_53
    rw [pk_mul, ix_dd]
    by_cases c : m = 0
    · have : j = W * H := by omega
      subst this
      rw [if_pos (nI_le (by omega) (by omega))]
    · rw [if_neg (nI_ge (by omega) (by omega)), if_pos (inb_nI (by omega) (by omega)), nI_clamp (by omega), blk_s _ _ _ _ _ rfl, nI_1]
      exact ih (m - 1) (by omega) (j + 1) (by omega)
theorem mul_big {W H : Nat} (hW : 1 ≤ W) (hH : 1 ≤ H) : W ≤ W * H ∧ H ≤ W * H := ⟨Nat.le_mul_of_pos_right W hH, Nat.le_mul_of_pos_left H hW⟩
theorem inv_make : S_make Inv := by
  intro m0 sh rr ww so sc pl qo pn bm tg px fa mo mw mr ms mt mu dd wi hi gt sp ta li sr co h x1 x2 x3 x4
  obtain ⟨h1, h2, h3⟩ := h
  have no : F_X10_make x1 x2 x3 x4 sh rr = fok 0 rr → F_X11_make x1 x2 x3 x4 mo dd wi hi = fok 0 (((mo_taped mo), 0, (mo_tf mo), (mo_t1 mo), (mo_t2 mo), (mo_t3 mo), (mo_fp mo)), dd, wi, hi) → ∃ (z : Int32) (s : (Nat → Ras)) (s2 : (MO × A × A × A)), F_X10_make x1 x2 x3 x4 sh rr = fok z s ∧ F_X11_make x1 x2 x3 x4 mo dd wi hi = fok z s2 ∧ Inv m0 sh s ww so sc pl qo pn bm tg px fa s2.1 mw mr ms mt mu s2.2.1 s2.2.2.1 s2.2.2.2 gt sp ta li sr co := fun a b => ⟨0, rr, (((mo_taped mo), 0, (mo_tf mo), (mo_t1 mo), (mo_t2 mo), (mo_t3 mo), (mo_fp mo)), dd, wi, hi), a, b, h1, h2, h3⟩
  rcases shelf_c x1 with ⟨s1, s2⟩ | ⟨i, hi4, rfl, s1, s2⟩
  · refine no ?_ ?_
    · unfold F_X10_make F_X10_make_27; rw [if_pos s1]
    · unfold F_X11_make F_X11_make_34; rw [if_pos s2]
  by_cases c2 : x2 < 1
  · refine no ?_ ?_
    · unfold F_X10_make F_X10_make_27; rw [s1, if_neg (by decide), if_pos c2]
    · unfold F_X11_make F_X11_make_34; rw [s2, if_neg (by decide), if_pos c2]
  by_cases c3 : x3 < 1
  · refine no ?_ ?_
    · unfold F_X10_make F_X10_make_27; rw [s1, if_neg (by decide), if_neg c2, if_pos c3]
    · unfold F_X11_make F_X11_make_34; rw [s2, if_neg (by decide), if_neg c2, if_pos c3]
  have b2 := Int32.toInt_lt x2
  have b3 := Int32.toInt_lt x3
  have c2n := c2
  have c3n := c3
  simp only [Int32.lt_iff_toInt_lt, Int32.reduceToInt] at c2n c3n
  obtain ⟨W, hW, rfl⟩ := i_of (x := x2) (n := 2 ^ 31) (by omega) (by omega)
  obtain ⟨H, hH, rfl⟩ := i_of (x := x3) (n := 2 ^ 31) (by omega) (by omega)
  rw [nI_toInt (by omega)] at c2n c3n
  have hb := mul_big (W := W) (H := H) (by omega) (by omega)
  have hp : W * H < 2 ^ 31 * 2 ^ 31 := Nat.mul_lt_mul_of_lt_of_lt hW hH
  by_cases c4 : W * H ≤ 4096
  · refine ⟨1, va_up rr (sh i) (nI W, nI H, fillN (x_p (rr (sh i))) (W * H) x4), (((mo_taped mo), 0, (mo_tf mo), (mo_t1 mo), (mo_t2 mo), (mo_t3 mo), (mo_fp mo)), blk dd (4096 * i) (W * H) (fun _ => x4), upd wi i (nI W), upd hi i (nI H)), ?_, ?_, ?_, h2, h3⟩
    · unfold F_X10_make
      rw [s1, if_neg (by decide), if_neg c2, if_neg c3, nI_l hW, nI_l hH, ut_tooL (by omega) (by omega), if_neg (c := 4096 < W ∨ 4096 < H ∨ 4096 < W * H) (by omega), if_pos rfl, if_pos (inb_nI hi4 (by omega)), nI_clamp (by omega), if_pos (h1.2.1 i hi4).1]
      simp only [va_up_self, va_up_up, x_w, x_p]
      rw [ut_fill c4, fon_fok]
    · unfold F_X11_make
      rw [s2, if_neg (by decide), if_neg c2, if_neg c3, nI_l hW, nI_l hH, lN_mul, show (4096 : Int64) = lN 4096 from rfl, if_pos ((lg_cmp_le _ _).mpr ((pk_lLE (b := 4096) (by omega) (by omega)).mpr c4)), if_pos (inb_nI hi4 (by omega)), if_pos (inb_nI hi4 (by omega)), nI_clamp (by omega), ut_rmake hi4 c4]
    · refine RasI_set (dd2 := blk dd (4096 * i) (W * H) (fun _ => x4)) (wi2 := upd wi i (nI W)) (hi2 := upd hi i (nI H)) h1 hi4 (fun j hj cj => ⟨pk_un cj, pk_un cj, fun p hp => blk_out (by omega)⟩) ⟨W, H, rfl, rfl, pk_us, pk_us, by omega, by omega, c4, Or.inr ⟨by omega, by omega⟩, fun p hp => ?_⟩
      show fillN _ _ _ p = blk dd (4096 * i) (W * H) (fun _ => x4) (4096 * i + p)
      rw [blk_in hp]
      unfold fillN
      rw [if_pos hp]
  · refine no ?_ ?_
    · unfold F_X10_make F_X10_make_27; rw [s1, if_neg (by decide), if_neg c2, if_neg c3, nI_l hW, nI_l hH, ut_tooL (by omega) (by omega), if_pos (c := 4096 < W ∨ 4096 < H ∨ 4096 < W * H) (by omega), if_neg (by decide)]
    · unfold F_X11_make F_X11_make_34; rw [s2, if_neg (by decide), if_neg c2, if_neg c3, nI_l hW, nI_l hH, lN_mul, show (4096 : Int64) = lN 4096 from rfl, if_neg (fun q => by have := (pk_lLE (b := 4096) (by omega) (by omega)).mp ((lg_cmp_le _ _).mp q); omega)]
/-- where a pixel is, on both sides -/
theorem ut_spot {q : Nat} {sh : Nat → Nat} {rr : Nat → Ras} {dd wi hi : A} (h : RasI q sh rr dd wi hi) (x1 x2 x3 : Int32) (mo : MO) :
    (F_X10_spot x1 x2 x3 sh rr = fex "java/lang/IllegalArgumentException" () ∧ F_X11_pixelAt x1 x2 x3 mo wi hi = fok (-1) ((mo_taped mo), 1, (mo_tf mo), (mo_t1 mo), (mo_t2 mo), (mo_t3 mo), (mo_fp mo))) ∨
    (F_X10_spot x1 x2 x3 sh rr = fex "java/lang/IndexOutOfBoundsException" () ∧ F_X11_pixelAt x1 x2 x3 mo wi hi = fok (-1) ((mo_taped mo), 2, (mo_tf mo), (mo_t1 mo), (mo_t2 mo), (mo_t3 mo), (mo_fp mo))) ∨
    ∃ i p W H : Nat, i < 4 ∧ x1 = nI i ∧ (1 ≤ W ∧ 1 ≤ H ∧ W ≤ 4096 ∧ H ≤ 4096 ∧ W * H ≤ 4096) ∧ p < W * H ∧ wi i = nI W ∧ hi i = nI H ∧ x_w (rr (sh i)) = nI W ∧ x_g (rr (sh i)) = nI H ∧ (∀ p, p < W * H → x_p (rr (sh i)) p = dd (4096 * i + p)) ∧ F_X10_spot x1 x2 x3 sh rr = fok (nI p) () ∧ F_X11_pixelAt x1 x2 x3 mo wi hi = fok (nI (4096 * i + p)) mo := by
  obtain ⟨a1, a2, a3, a4⟩ := h
  rcases shelf_c x1 with ⟨s1, s2⟩ | ⟨i, hi4, rfl, s1, s2⟩
  · refine Or.inl ⟨?_, ?_⟩
    · unfold F_X10_spot; rw [has_no sh rr s1, fon_fok, if_pos rfl]
    · unfold F_X11_pixelAt F_X11_pixelAt_16; rw [if_pos s2]
  obtain ⟨W, H, b1, b2, b3, b4, b5, b6, b7, b8, b9⟩ := a4 i hi4
  have e1 := has_yes hi4 (a2 i hi4).1 b1 b5
  by_cases cW : W = 0
  · rw [if_pos cW] at e1
    refine Or.inl ⟨?_, ?_⟩
    · unfold F_X10_spot; rw [e1, fon_fok, if_pos rfl]
    · unfold F_X11_pixelAt F_X11_pixelAt_16; rw [s2, if_neg (by decide), if_pos (inb_nI hi4 (by omega)), nI_clamp (by omega), b3, cW, if_pos (by decide)]
  rw [if_neg cW] at e1
  have dX2 : x2 < 0 ∨ ¬ x2 < 0 ∧ nI W ≤ x2 ∨ ∃ x, x < W ∧ x2 = nI x := by
    by_cases c : 0 ≤ x2.toInt ∧ x2.toInt < W
    · exact Or.inr (Or.inr (i_of c.1 c.2))
    · rcases i_out c (by omega) with c1 | ⟨c1, c2, _⟩
      · exact Or.inl c1
      · exact Or.inr (Or.inl ⟨c1, c2⟩)
  have dX3 : x3 < 0 ∨ ¬ x3 < 0 ∧ ¬ x3 < nI H ∨ ∃ y, y < H ∧ x3 = nI y := by
    by_cases c : 0 ≤ x3.toInt ∧ x3.toInt < H
    · exact Or.inr (Or.inr (i_of c.1 c.2))
    · rcases i_out c (by omega) with c1 | ⟨c1, _, c2⟩
      · exact Or.inl c1
      · exact Or.inr (Or.inl ⟨c1, c2⟩)
  have u1 : F_X10_spot (nI i) x2 x3 sh rr = (if x2 < 0 then (F_X10_spot_52 sh rr ) else (if nI W ≤ x2 then (F_X10_spot_52 sh rr ) else (if x3 < 0 then (F_X10_spot_52 sh rr ) else (if x3 < nI H then (fok ((x3 * nI W) + x2) ()) else (F_X10_spot_52 sh rr ))))) := by
    unfold F_X10_spot
    rw [e1, fon_fok, if_neg (by decide), if_pos (inb_nI hi4 (by omega)), nI_clamp (by omega), if_pos (a2 i hi4).1, b1, b2]
  have u2 : F_X11_pixelAt (nI i) x2 x3 mo wi hi = (if x2 < 0 then (F_X11_pixelAt_51 wi hi mo) else (if x3 < 0 then (F_X11_pixelAt_51 wi hi mo) else (if nI W ≤ x2 then (F_X11_pixelAt_51 wi hi mo) else (if x3 < nI H then fok (((4096 * nI i) + (nI W * x3)) + x2) mo else (F_X11_pixelAt_51 wi hi mo))))) := by
    unfold F_X11_pixelAt
    rw [s2, if_neg (by decide)]
    simp only [if_pos (inb_nI hi4 (by omega : 4 < 2 ^ 31)), nI_clamp (show i < 2 ^ 31 by omega), b3, b4]
    rw [if_neg (nI_ne0 (by omega) (by omega))]
  rw [u1, u2]
  unfold F_X10_spot_52 F_X11_pixelAt_51
  rcases dX2 with c1 | ⟨c1, c2⟩ | ⟨x, hx, rfl⟩
  · rw [if_pos c1, if_pos c1]; exact Or.inr (Or.inl ⟨rfl, rfl⟩)
  · rw [if_neg c1, if_pos c2, if_neg c1]
    refine Or.inr (Or.inl ⟨rfl, ?_⟩)
    split <;> first | rfl | (rw [if_pos c2])
  · rw [if_neg (nI_pos (by omega)), if_neg (nI_ge hx (by omega)), if_neg (nI_pos (by omega))]
    rcases dX3 with c1 | ⟨c1, c2⟩ | ⟨y, hy, rfl⟩
    · rw [if_pos c1, if_pos c1]; exact Or.inr (Or.inl ⟨rfl, rfl⟩)
    · rw [if_neg c1, if_neg c2, if_neg c1, if_neg (nI_ge hx (by omega)), if_neg c2]; exact Or.inr (Or.inl ⟨rfl, rfl⟩)
    · rw [if_neg (nI_pos (by omega)), if_pos (nI_lt hy (by omega)), if_neg (nI_pos (by omega)), if_neg (nI_ge hx (by omega)), if_pos (nI_lt hy (by omega))]
      refine Or.inr (Or.inr ⟨i, y * W + x, W, H, hi4, rfl, ⟨by omega, by omega, b5, b6, b7⟩, idx_lt hx hy, b3, b4, b1, b2, b9, ?_, ?_⟩)
      · rw [pk_mul, nI_add]
      · rw [show (4096 : Int32) = nI 4096 from rfl, pk_mul, pk_mul, nI_add, nI_add, Nat.mul_comm W y, Nat.add_assoc]
theorem inv_pixel : S_pixel Inv := by
  intro m0 sh rr ww so sc pl qo pn bm tg px fa mo mw mr ms mt mu dd wi hi gt sp ta li sr co h x1 x2 x3
  obtain ⟨h1, h2, h3⟩ := h
  rcases ut_spot h1 x1 x2 x3 ((mo_taped mo), 0, (mo_tf mo), (mo_t1 mo), (mo_t2 mo), (mo_t3 mo), (mo_fp mo)) with ⟨e1, e2⟩ | ⟨e1, e2⟩ | ⟨i, p, W, H, hi4, rfl, ⟨q1, q2, q3, q4, hp⟩, hpp, b3, b4, b1, b2, hq, e1, e2⟩
  · refine ⟨0, ((mo_taped mo), 1, (mo_tf mo), (mo_t1 mo), (mo_t2 mo), (mo_t3 mo), (mo_fp mo)), ?_, Or.inr (Or.inl ⟨(), ?_, rfl, h1, h2, h3⟩)⟩
    · unfold F_X11_pixel; rw [e2, fon_fok, if_neg (by decide)]
    · unfold F_X10_pixel; rw [e1, fon_fex]
  · refine ⟨0, ((mo_taped mo), 2, (mo_tf mo), (mo_t1 mo), (mo_t2 mo), (mo_t3 mo), (mo_fp mo)), ?_, Or.inr (Or.inr ⟨(), ?_, rfl, h1, h2, h3⟩)⟩
    · unfold F_X11_pixel; rw [e2, fon_fok, if_neg (by decide)]
    · unfold F_X10_pixel; rw [e1, fon_fex]
  · have hv := hq p hpp
    refine ⟨dd (4096 * i + p), ((mo_taped mo), 0, (mo_tf mo), (mo_t1 mo), (mo_t2 mo), (mo_t3 mo), (mo_fp mo)), ?_, Or.inl ⟨(), ?_, rfl, h1, h2, h3⟩⟩
    · unfold F_X11_pixel; rw [e2, fon_fok, if_pos (nI_pos' (by omega)), if_pos (inb_nI (by omega) (by omega)), nI_clamp (by omega)]
    · unfold F_X10_pixel; rw [e1, fon_fok, if_pos (inb_nI hi4 (by omega)), nI_clamp (by omega), if_pos (h1.2.1 i hi4).1, ut_get (by omega), fon_fok, hv]
