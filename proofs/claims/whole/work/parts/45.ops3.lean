theorem inv_dot : S_dot Inv := by
  intro m0 sh rr ww so sc pl qo pn bm tg px fa mo mw mr ms mt mu dd wi hi gt sp ta li sr co h x1 x2 x3 x4
  obtain ⟨h1, h2, h3⟩ := h
  rcases ut_spot h1 x1 x2 x3 ((mo_taped mo), 0, (mo_tf mo), (mo_t1 mo), (mo_t2 mo), (mo_t3 mo), (mo_fp mo)) with ⟨e1, e2⟩ | ⟨e1, e2⟩ | ⟨i, p, W, H, hi4, rfl, ⟨q1, q2, q3, q4, hp⟩, hpp, b3, b4, b1, b2, hq, e1, e2⟩
  · refine ⟨0, (((mo_taped mo), 1, (mo_tf mo), (mo_t1 mo), (mo_t2 mo), (mo_t3 mo), (mo_fp mo)), dd), ?_, Or.inr (Or.inl ⟨rr, ?_, rfl, h1, h2, h3⟩)⟩
    · unfold F_X11_dot; rw [e2, fon_fok, if_neg (by decide)]
    · unfold F_X10_dot; rw [e1, fon_fex]
  · refine ⟨0, (((mo_taped mo), 2, (mo_tf mo), (mo_t1 mo), (mo_t2 mo), (mo_t3 mo), (mo_fp mo)), dd), ?_, Or.inr (Or.inr ⟨rr, ?_, rfl, h1, h2, h3⟩)⟩
    · unfold F_X11_dot; rw [e2, fon_fok, if_neg (by decide)]
    · unfold F_X10_dot; rw [e1, fon_fex]
  · refine ⟨dd (4096 * i + p), (((mo_taped mo), 0, (mo_tf mo), (mo_t1 mo), (mo_t2 mo), (mo_t3 mo), (mo_fp mo)), upd dd (4096 * i + p) x4), ?_, Or.inl ⟨va_up rr (sh i) (x_w (rr (sh i)), x_g (rr (sh i)), upd (x_p (rr (sh i))) p x4), ?_, rfl, ?_, h2, h3⟩⟩
    · unfold F_X11_dot; rw [e2, fon_fok, if_pos (nI_pos' (by omega)), if_pos (inb_nI (by omega) (by omega)), if_pos (inb_nI (by omega) (by omega)), nI_clamp (by omega)]
    · unfold F_X10_dot; rw [e1, fon_fok, if_pos (inb_nI hi4 (by omega)), nI_clamp (by omega), if_pos (h1.2.1 i hi4).1, ut_get (by omega), fon_fok, ut_set (by omega), fon_fok, hq p hpp]
    · refine RasI_set (dd2 := upd dd (4096 * i + p) x4) (wi2 := wi) (hi2 := hi) h1 hi4 (fun j hj cj => ⟨rfl, rfl, fun r hr => pk_un (by omega)⟩) ⟨W, H, b1, b2, b3, b4, q3, q4, hp, Or.inr ⟨q1, q2⟩, fun r hr => ?_⟩
      show upd (x_p (rr (sh i))) p x4 r = upd dd (4096 * i + p) x4 (4096 * i + r)
      unfold upd
      by_cases c : r = p
      · rw [if_pos c, if_pos (by omega)]
      · rw [if_neg c, if_neg (by omega)]; exact hq r hr
theorem i_step (k : Nat) (v s : Int32) : v + nI k * s + s = v + nI (k + 1) * s := by
  rw [← nI_1, Int32.add_mul, Int32.one_mul, Int32.add_assoc]
theorem ut_sweep {i p N c : Nat} (v s : Int32) (sh : Nat → Nat) (rr : Nat → Ras) (hr : isR (sh i)) (hp : p + c ≤ N) (hN : N ≤ 4096) (w g : Int32) (f : A) (hx : rr (sh i) = (w, g, f)) :
    lp (fun _ _ _ _ _ _ _ => fno) (F_X10_sweep_39 sh) FU v s (nI p) (sh i) (nI c) 0 rr = fok (nI c) (va_up rr (sh i) (w, g, blk f p c (fun k => v + nI k * s))) := by
  have q := lp_M (z := fun _ _ _ _ _ _ _ => fno) (f := F_X10_sweep_39 sh) (fun m k => ∀ j, j + m = c → k v s (nI p) (sh i) (nI c) (nI j) (va_up rr (sh i) (w, g, blk f p j (fun k => v + nI k * s))) = fok (nI c) (va_up rr (sh i) (w, g, blk f p c (fun k => v + nI k * s)))) ?_ c (by omega)
  · have := q 0 (by omega)
    rw [blk_0, va_up_same hx] at this
    exact this
  · intro m k ih j hj
    unfold F_X10_sweep_39
    rw [if_pos hr]
    by_cases c0 : m = 0
    · have : j = c := by omega
      subst this
      rw [if_pos (nI_le (by omega) (by omega))]
    · rw [if_neg (nI_ge (by omega) (by omega)), nI_add, va_up_self, ut_set (by omega), fon_fok, va_up_up, nI_1]
      dsimp only [x_w, x_g, x_p]
      rw [blk_s _ _ _ _ _ rfl]
      exact ih (m - 1) (by omega) (j + 1) (by omega)
theorem ut_rsweep {i p W H c : Nat} (x4 v s : Int32) (hi4 : i < 4) (mo : MO) (dd wi hi : A) (hp : W * H ≤ 4096) (h1 : wi i = nI W) (h2 : hi i = nI H) (hc : p + c ≤ W * H) (hx : c = W * H - p ∧ (c : Int) ≤ x4.toInt ∨ x4 = nI c ∨ x4.toInt < 0 ∧ c = 0) :
    lp (fun _ _ _ _ _ _ _ _ => fno) (F_X11_sweep_28 wi hi) FU (nI i) x4 s (nI (4096 * i + p)) 0 v mo dd = fok (nI c) (mo, blk dd (4096 * i + p) c (fun k => v + nI k * s)) := by
  have q := lp_M (z := fun _ _ _ _ _ _ _ _ => fno) (f := F_X11_sweep_28 wi hi) (fun m k => ∀ j, j + m = c → k (nI i) x4 s (nI (4096 * i + p + j)) (nI j) (v + nI j * s) mo (blk dd (4096 * i + p) j (fun k => v + nI k * s)) = fok (nI c) (mo, blk dd (4096 * i + p) c (fun k => v + nI k * s))) ?_ c (by omega)
  · have := q 0 (by omega)
    rw [blk_0, show nI 0 = 0 from rfl, Int32.zero_mul, Int32.add_zero] at this
    exact this
  · intro m k ih j hj
    unfold F_X11_sweep_28
    rw [ut_many hi4 h1 h2, fon_fok, ix_dd]
    unfold F_X11_sweep_76
    by_cases c0 : m = 0
    · have : j = c := by omega
      subst this
      rcases hx with ⟨hx, _⟩ | hx
      · by_cases c1 : x4 ≤ nI j
        · rw [if_pos c1]
        · rw [if_neg c1, if_pos (nI_le (by omega) (by omega))]
      · rw [if_pos]
        rcases hx with rfl | ⟨hx, rfl⟩
        · exact nI_le (by omega) (by omega)
        · rw [Int32.le_iff_toInt_le, nI_toInt (by omega)]; omega
    · rw [if_neg, if_neg (nI_ge (by omega) (by omega)), if_pos (inb_nI (by omega) (by omega)), nI_clamp (by omega), blk_s _ _ _ _ _ rfl, nI_1, nI_1, i_step]
      · exact ih (m - 1) (by omega) (j + 1) (by omega)
      · rcases hx with ⟨_, hx⟩ | rfl | ⟨_, hx⟩
        · rw [Int32.le_iff_toInt_le, nI_toInt (by omega)]; omega
        · exact nI_ge (by omega) (by omega)
        · omega
theorem i_max0 {x : Int32} (h : x.toInt < 0) : iMax x 0 = nI 0 := by
  unfold iMax; rw [if_pos (by rw [Int32.lt_iff_toInt_lt]; exact h)]; rfl
theorem i_maxP {x : Int32} (h : ¬ x.toInt < 0) : iMax x 0 = x := by
  unfold iMax; rw [if_neg (by rw [Int32.lt_iff_toInt_lt]; exact h)]
theorem i_minL {a b : Nat} (h : a ≤ b) (hb : b < 2 ^ 31) : iMin (nI a) (nI b) = nI a := by
  unfold iMin; rw [if_neg (nI_nlt h hb)]
theorem i_minR {x : Int32} {b : Nat} (h : (b : Int) ≤ x.toInt) (hb : b < 2 ^ 31) : iMin x (nI b) = nI b := by
  unfold iMin
  by_cases c : nI b < x
  · rw [if_pos c]
  · rw [if_neg c]
    rw [Int32.lt_iff_toInt_lt, nI_toInt hb] at c
    exact Int32.toInt_inj.mp (by rw [nI_toInt hb]; omega)
theorem inv_sweep : S_sweep Inv := by
  intro m0 sh rr ww so sc pl qo pn bm tg px fa mo mw mr ms mt mu dd wi hi gt sp ta li sr co h x1 x2 x3 x4 x5 x6
  obtain ⟨h1, h2, h3⟩ := h
  rcases ut_spot h1 x1 x2 x3 ((mo_taped mo), 0, (mo_tf mo), (mo_t1 mo), (mo_t2 mo), (mo_t3 mo), (mo_fp mo)) with ⟨e1, e2⟩ | ⟨e1, e2⟩ | ⟨i, p, W, H, hi4, rfl, ⟨q1, q2, q3, q4, hp⟩, hpp, b3, b4, b1, b2, hq, e1, e2⟩
  · refine ⟨0, (((mo_taped mo), 1, (mo_tf mo), (mo_t1 mo), (mo_t2 mo), (mo_t3 mo), (mo_fp mo)), dd), ?_, Or.inr (Or.inl ⟨rr, ?_, rfl, h1, h2, h3⟩)⟩
    · unfold F_X11_sweep; rw [e2, fon_fok, if_neg (by decide)]
    · unfold F_X10_sweep; rw [e1, fon_fex]
  · refine ⟨0, (((mo_taped mo), 2, (mo_tf mo), (mo_t1 mo), (mo_t2 mo), (mo_t3 mo), (mo_fp mo)), dd), ?_, Or.inr (Or.inr ⟨rr, ?_, rfl, h1, h2, h3⟩)⟩
    · unfold F_X11_sweep; rw [e2, fon_fok, if_neg (by decide)]
    · unfold F_X10_sweep; rw [e1, fon_fex]
  · obtain ⟨c, hc, hx, hmm⟩ : ∃ c : Nat, p + c ≤ W * H ∧ (c = W * H - p ∧ (c : Int) ≤ x4.toInt ∨ x4 = nI c ∨ x4.toInt < 0 ∧ c = 0) ∧ iMin (iMax x4 0) (nI (W * H) - nI p) = nI c := by
      rw [pk_sub (by omega)]
      by_cases c1 : x4.toInt < 0
      · exact ⟨0, by omega, Or.inr (Or.inr ⟨c1, rfl⟩), by rw [i_max0 c1, i_minL (by omega) (by omega)]⟩
      · rw [i_maxP c1]
        by_cases c2 : x4.toInt < (W * H - p : Nat)
        · obtain ⟨c, hc, rfl⟩ := i_of (x := x4) (by omega) c2
          exact ⟨c, by omega, Or.inr (Or.inl rfl), i_minL (by omega) (by omega)⟩
        · exact ⟨W * H - p, by omega, Or.inl ⟨rfl, by omega⟩, i_minR (by omega) (by omega)⟩
    refine ⟨nI c, (((mo_taped mo), 0, (mo_tf mo), (mo_t1 mo), (mo_t2 mo), (mo_t3 mo), (mo_fp mo)), blk dd (4096 * i + p) c (fun k => x5 + nI k * x6)), ?_, Or.inl ⟨va_up rr (sh i) (x_w (rr (sh i)), x_g (rr (sh i)), blk (x_p (rr (sh i))) p c (fun k => x5 + nI k * x6)), ?_, rfl, ?_, h2, h3⟩⟩
    · unfold F_X11_sweep; rw [e2, fon_fok, if_pos (nI_pos' (by omega)), ut_rsweep x4 x5 x6 hi4 _ dd wi hi hp b3 b4 hc hx]
    · unfold F_X10_sweep; rw [e1, fon_fok, if_pos (inb_nI hi4 (by omega)), nI_clamp (by omega), if_pos (h1.2.1 i hi4).1, ut_count b1 b2, fon_fok, hmm, ut_sweep x5 x6 sh rr (h1.2.1 i hi4).1 hc hp _ _ _ rfl]
    · refine RasI_set (dd2 := blk dd (4096 * i + p) c (fun k => x5 + nI k * x6)) (wi2 := wi) (hi2 := hi) h1 hi4 (fun j hj cj => ⟨rfl, rfl, fun r hr => blk_out (by omega)⟩) ⟨W, H, b1, b2, b3, b4, q3, q4, hp, Or.inr ⟨q1, q2⟩, fun r hr => ?_⟩
      show blk (x_p (rr (sh i))) p c (fun k => x5 + nI k * x6) r = blk dd (4096 * i + p) c (fun k => x5 + nI k * x6) (4096 * i + r)
      unfold blk
      by_cases c1 : p ≤ r ∧ r < p + c
      · rw [if_pos c1, if_pos (by omega), show 4096 * i + r - (4096 * i + p) = r - p from by omega]
      · rw [if_neg c1, if_neg (by omega)]; exact hq r hr
theorem ut_take {r r2 W H : Nat} (hne : r ≠ r2) (hp : W * H ≤ 4096) (rr : Nat → Ras) (h1 : x_w (rr r2) = nI W) (h2 : x_g (rr r2) = nI H) : F_X7_takeFrom r r2 rr = fok () (va_up rr r (nI W, nI H, frontN (x_p (rr r2)) (x_p (rr r)) (W * H))) := by
  unfold F_X7_takeFrom
  simp only [va_up_self, va_up_up, va_up_ne _ _ (Ne.symm hne), x_w, x_g, x_p] at *
  rw [h1, h2, ut_count rfl rfl, fon_fok]
  have q := lp_M (z := fun _ _ _ => fno) (f := F_X7_takeFrom_23 r r2) (fun m k => ∀ j, j + m = W * H → k (nI (W * H)) (nI j) (va_up rr r (nI W, nI H, frontN (rr r2).2.2 (rr r).2.2 j)) = fok () (va_up rr r (nI W, nI H, frontN (rr r2).2.2 (rr r).2.2 (W * H)))) ?_ (W * H) (by omega)
  · have := q 0 (by omega)
    rw [show frontN (rr r2).2.2 (rr r).2.2 0 = (rr r).2.2 from by funext j; simp [frontN]] at this
    exact this
  · intro m k ih j hj
    unfold F_X7_takeFrom_23
    by_cases c0 : m = 0
    · have : j = W * H := by omega
      subst this
      rw [if_pos (nI_le (by omega) (by omega))]
    · rw [if_neg (nI_ge (by omega) (by omega)), va_up_ne _ _ (Ne.symm hne), ut_get (by omega), fon_fok, va_up_self, ut_set (by omega), fon_fok, va_up_up, nI_1]
      dsimp only [x_w, x_g, x_p]
      rw [frontN_s]
      exact ih (m - 1) (by omega) (j + 1) (by omega)
theorem ut_rcopy {i j W H : Nat} (hi4 : i < 4) (hj4 : j < 4) (hp : W * H ≤ 4096) (mo : MO) (dd wi hi : A) (h1 : wi i = nI W) (h2 : hi i = nI H) : lp (fun _ _ _ _ _ _ _ => fno) F_X11_copy_23 FU (nI i) (nI j) 0 mo dd wi hi = fok 1 (mo, blk dd (4096 * j) (W * H) (fun p => dd (4096 * i + p)), upd wi j (nI W), upd hi j (nI H)) := by
  have q := lp_M (z := fun _ _ _ _ _ _ _ => fno) (f := F_X11_copy_23) (fun m k => ∀ l, l + m = W * H → k (nI i) (nI j) (nI l) mo (blk dd (4096 * j) l (fun p => dd (4096 * i + p))) wi hi = fok 1 (mo, blk dd (4096 * j) (W * H) (fun p => dd (4096 * i + p)), upd wi j (nI W), upd hi j (nI H))) ?_ (W * H) (by omega)
  · have := q 0 (by omega)
    rw [blk_0] at this
    exact this
  · intro m k ih l hl
    unfold F_X11_copy_23
    rw [ut_many hi4 h1 h2, fon_fok]
    by_cases c0 : m = 0
    · have : l = W * H := by omega
      subst this
      rw [if_pos (nI_le (by omega) (by omega)), if_pos (inb_nI hi4 (by omega)), if_pos (inb_nI hj4 (by omega)), if_pos (inb_nI hi4 (by omega)), if_pos (inb_nI hj4 (by omega)), nI_clamp (by omega), nI_clamp (by omega), h1, h2]
    · rw [if_neg (nI_ge (by omega) (by omega)), ix_dd, ix_dd, if_pos (inb_nI (by omega) (by omega)), if_pos (inb_nI (by omega) (by omega)), nI_clamp (by omega), nI_clamp (by omega), nI_1, blk_s]
      · exact ih (m - 1) (by omega) (l + 1) (by omega)
      · unfold blk
        split
        · have : i = j := by omega
          subst this
          congr 2; omega
        · rfl
theorem inv_copy : S_copy Inv := by
  intro m0 sh rr ww so sc pl qo pn bm tg px fa mo mw mr ms mt mu dd wi hi gt sp ta li sr co h x1 x2
  obtain ⟨h1, h2, h3⟩ := h
  rcases shelf_c x1 with ⟨s1, s2⟩ | ⟨i, hi4, rfl, s1, s2⟩
  · refine ⟨0, rr, (((mo_taped mo), 0, (mo_tf mo), (mo_t1 mo), (mo_t2 mo), (mo_t3 mo), (mo_fp mo)), dd, wi, hi), ?_, ?_, h1, h2, h3⟩
    · unfold F_X10_copy F_X10_copy_14; rw [if_pos s1]
    · unfold F_X11_copy F_X11_copy_19; rw [if_pos s2]
  rcases shelf_c x2 with ⟨r1, r2⟩ | ⟨j, hj4, rfl, r1, r2⟩
  · refine ⟨0, rr, (((mo_taped mo), 0, (mo_tf mo), (mo_t1 mo), (mo_t2 mo), (mo_t3 mo), (mo_fp mo)), dd, wi, hi), ?_, ?_, h1, h2, h3⟩
    · unfold F_X10_copy F_X10_copy_14; rw [s1, if_neg (by decide), if_pos r1]
    · unfold F_X11_copy F_X11_copy_19; rw [s2, if_neg (by decide), if_pos r2]
  obtain ⟨W, H, b1, b2, b3, b4, b5, b6, b7, b8, b9⟩ := h1.2.2.2 i hi4
  have eR : F_X11_copy (nI i) (nI j) mo dd wi hi = fok 1 (((mo_taped mo), 0, (mo_tf mo), (mo_t1 mo), (mo_t2 mo), (mo_t3 mo), (mo_fp mo)), blk dd (4096 * j) (W * H) (fun p => dd (4096 * i + p)), upd wi j (nI W), upd hi j (nI H)) := by
    unfold F_X11_copy; rw [s2, if_neg (by decide), r2, if_neg (by decide), ut_rcopy hi4 hj4 b7 _ dd wi hi b3 b4]
  by_cases c : i = j
  · subst c
    refine ⟨1, rr, _, ?_, eR, ?_, h2, h3⟩
    · unfold F_X10_copy F_X10_copy_36; rw [s1, if_neg (by decide), if_neg (by decide), if_pos rfl]
    · have := RasI_set (x2 := rr (sh i)) (dd2 := blk dd (4096 * i) (W * H) (fun p => dd (4096 * i + p))) (wi2 := upd wi i (nI W)) (hi2 := upd hi i (nI H)) h1 hi4 (fun j hj cj => ⟨pk_un cj, pk_un cj, fun p hp => blk_out (by omega)⟩) ⟨W, H, b1, b2, pk_us, pk_us, b5, b6, b7, b8, fun p hp => by dsimp only; rw [blk_in hp]; exact b9 p hp⟩
      rw [va_up_same rfl] at this
      exact this
  · have hne : sh j ≠ sh i := fun e => c (h1.2.2.1 j i hj4 hi4 e).symm
    refine ⟨1, va_up rr (sh j) (nI W, nI H, frontN (x_p (rr (sh i))) (x_p (rr (sh j))) (W * H)), _, ?_, eR, ?_, h2, h3⟩
    · unfold F_X10_copy F_X10_copy_36
      rw [s1, if_neg (by decide), r1, if_neg (by decide), if_neg (fun e => c ((nI_eq (by omega) (by omega)).mp e)), if_pos (inb_nI hj4 (by omega)), nI_clamp (by omega), if_pos (h1.2.1 j hj4).1, if_pos (inb_nI hi4 (by omega)), nI_clamp (by omega), if_pos (h1.2.1 i hi4).1, ut_take hne b7 rr b1 b2, fon_fok]
    · refine RasI_set (dd2 := blk dd (4096 * j) (W * H) (fun p => dd (4096 * i + p))) (wi2 := upd wi j (nI W)) (hi2 := upd hi j (nI H)) h1 hj4 (fun l hl cl => ⟨pk_un cl, pk_un cl, fun p hp => blk_out (by omega)⟩) ⟨W, H, rfl, rfl, pk_us, pk_us, b5, b6, b7, b8, fun p hp => ?_⟩
      show frontN _ _ _ p = blk dd (4096 * j) (W * H) (fun p => dd (4096 * i + p)) (4096 * j + p)
      rw [blk_in hp]
      unfold frontN
      rw [if_pos hp]
      exact b9 p hp
theorem ut_like {r r2 i j W H : Nat} (hi4 : i < 4) (hj4 : j < 4) (hp : W * H ≤ 4096) (rr : Nat → Ras) (mo : MO) (dd wi hi : A) (h3 : wi i = nI W) (h4 : hi i = nI H) (d1 : ∀ p, p < W * H → x_p (rr r) p = dd (4096 * i + p)) (d2 : ∀ p, p < W * H → x_p (rr r2) p = dd (4096 * j + p)) :
    ∃ z, (z = 0 ∨ z = 1) ∧ lp (fun _ _ => fno) (F_X7_isLike_31 r r2 rr) FU (nI (W * H)) 0 = fok z () ∧ lp (fun _ _ _ _ => fno) (F_X11_same_53 dd wi hi) FU (nI i) (nI j) 0 mo = fok z mo := by
  have q := lp_D (z := fun _ _ => fno) (f := F_X7_isLike_31 r r2 rr) (z2 := fun _ _ _ _ => fno) (f2 := F_X11_same_53 dd wi hi) (fun m k1 k2 => ∀ l, l + m = W * H → ∃ z, (z = 0 ∨ z = 1) ∧ k1 (nI (W * H)) (nI l) = fok z () ∧ k2 (nI i) (nI j) (nI l) mo = fok z mo) ?_ (W * H) (by omega)
  · exact q 0 (by omega)
  · intro m k1 k2 ih l hl
    unfold F_X7_isLike_31 F_X11_same_53
    rw [ut_many hi4 h3 h4, fon_fok]
    by_cases c0 : m = 0
    · rw [if_pos (nI_le (by omega) (by omega)), if_pos (nI_le (by omega) (by omega))]
      exact ⟨1, Or.inr rfl, rfl, rfl⟩
    · rw [if_neg (nI_ge (by omega) (by omega)), if_neg (nI_ge (by omega) (by omega)), ut_get (by omega), fon_fok, ut_get (by omega), fon_fok, ix_dd, ix_dd, if_pos (inb_nI (by omega) (by omega)), if_pos (inb_nI (by omega) (by omega)), nI_clamp (by omega), nI_clamp (by omega), nI_1, d1 l (by omega), d2 l (by omega)]
      by_cases c : dd (4096 * i + l) = dd (4096 * j + l)
      · rw [if_pos c, if_pos c]
        exact ih (m - 1) (by omega) (l + 1) (by omega)
      · rw [if_neg c, if_neg c]
        exact ⟨0, Or.inl rfl, rfl, rfl⟩
theorem inv_same : S_same Inv := by
  intro m0 sh rr ww so sc pl qo pn bm tg px fa mo mw mr ms mt mu dd wi hi gt sp ta li sr co h x1 x2
  obtain ⟨h1, h2, h3⟩ := h
  rcases shelf_c x1 with ⟨s1, s2⟩ | ⟨i, hi4, rfl, s1, s2⟩
  · refine ⟨0, (), ((mo_taped mo), 0, (mo_tf mo), (mo_t1 mo), (mo_t2 mo), (mo_t3 mo), (mo_fp mo)), ?_, ?_, h1, h2, h3⟩
    · unfold F_X10_same F_X10_same_36; rw [if_pos s1]
    · unfold F_X11_same F_X11_same_49; rw [if_pos s2]
  rcases shelf_c x2 with ⟨r1, r2⟩ | ⟨j, hj4, rfl, r1, r2⟩
  · refine ⟨0, (), ((mo_taped mo), 0, (mo_tf mo), (mo_t1 mo), (mo_t2 mo), (mo_t3 mo), (mo_fp mo)), ?_, ?_, h1, h2, h3⟩
    · unfold F_X10_same F_X10_same_36; rw [s1, if_neg (by decide), if_pos r1]
    · unfold F_X11_same F_X11_same_49; rw [s2, if_neg (by decide), if_pos r2]
  obtain ⟨W, H, b1, b2, b3, b4, b5, b6, b7, b8, b9⟩ := h1.2.2.2 i hi4
  obtain ⟨W2, H2, c1, c2, c3, c4, c5, c6, c7, c8, c9⟩ := h1.2.2.2 j hj4
  have u1 : F_X10_same (nI i) (nI j) sh rr = fon (F_X7_isLike (sh i) (sh j) rr) (fun z26 s26 => if z26 = 0 then (F_X10_same_36 sh rr ) else (fok (1 : Int32) ())) (fun _ _ => fno) := by
    unfold F_X10_same
    rw [s1, if_neg (by decide), r1, if_neg (by decide), if_pos (inb_nI hi4 (by omega)), nI_clamp (by omega), if_pos (h1.2.1 i hi4).1, if_pos (inb_nI hj4 (by omega)), nI_clamp (by omega), if_pos (h1.2.1 j hj4).1]
  have u2 : F_X11_same (nI i) (nI j) mo dd wi hi = if nI W = nI W2 then (if nI H = nI H2 then lp (fun _ _ _ _ => fno) (F_X11_same_53 dd wi hi) FU (nI i) (nI j) (0 : Int32) ((mo_taped mo), 0, (mo_tf mo), (mo_t1 mo), (mo_t2 mo), (mo_t3 mo), (mo_fp mo)) else (F_X11_same_49 dd wi hi ((mo_taped mo), 0, (mo_tf mo), (mo_t1 mo), (mo_t2 mo), (mo_t3 mo), (mo_fp mo)))) else (F_X11_same_49 dd wi hi ((mo_taped mo), 0, (mo_tf mo), (mo_t1 mo), (mo_t2 mo), (mo_t3 mo), (mo_fp mo))) := by
    unfold F_X11_same
    rw [s2, if_neg (by decide), r2, if_neg (by decide)]
    simp only [if_pos (inb_nI hi4 (by omega : 4 < 2 ^ 31)), if_pos (inb_nI hj4 (by omega : 4 < 2 ^ 31)), nI_clamp (show i < 2 ^ 31 by omega), nI_clamp (show j < 2 ^ 31 by omega), b3, b4, c3, c4]
  rw [u1, u2]
  unfold F_X7_isLike
  rw [b1, b2, c1, c2]
  by_cases cw : nI W = nI W2
  · by_cases ch : nI H = nI H2
    · have ew := (nI_eq (by omega) (by omega)).mp cw
      have eh := (nI_eq (by omega) (by omega)).mp ch
      subst ew; subst eh
      obtain ⟨z, hz, z1, z2⟩ := ut_like (r := sh i) (r2 := sh j) hi4 hj4 b7 rr ((mo_taped mo), 0, (mo_tf mo), (mo_t1 mo), (mo_t2 mo), (mo_t3 mo), (mo_fp mo)) dd wi hi b3 b4 b9 c9
      rw [if_pos rfl, if_pos rfl, if_pos rfl, if_pos rfl, ut_count b1 b2, fon_fok, z1, z2, fon_fok]
      refine ⟨z, (), ((mo_taped mo), 0, (mo_tf mo), (mo_t1 mo), (mo_t2 mo), (mo_t3 mo), (mo_fp mo)), ?_, rfl, h1, h2, h3⟩
      rcases hz with rfl | rfl
      · rw [if_pos rfl]; rfl
      · rw [if_neg (by decide)]
    · rw [if_pos cw, if_neg ch, if_pos cw, if_neg ch]
      exact ⟨0, (), ((mo_taped mo), 0, (mo_tf mo), (mo_t1 mo), (mo_t2 mo), (mo_t3 mo), (mo_fp mo)), rfl, rfl, h1, h2, h3⟩
  · rw [if_neg cw, if_neg cw]
    exact ⟨0, (), ((mo_taped mo), 0, (mo_tf mo), (mo_t1 mo), (mo_t2 mo), (mo_t3 mo), (mo_fp mo)), rfl, rfl, h1, h2, h3⟩
