theorem mix_eq (a b c d : Int32) : F_X10_pixelOf a b c d = F_X11_mix a b c d := rfl
theorem lN_tn {n : Nat} (h : n < 2 ^ 64) : (lN n).toBitVec.toNat = n := by
  show (BitVec.ofNat 64 n).toNat = n
  rw [BitVec.toNat_ofNat]
  exact Nat.mod_eq_of_lt h
theorem i64m {a : Nat} (h : a < 2 ^ 32) : (nI a).toInt64 &&& 4294967295 = lN a := by
  apply Int64.toBitVec_inj.mp
  apply BitVec.eq_of_toNat_eq
  rw [Int64.toBitVec_and, BitVec.toNat_and, Int32.toBitVec_toInt64, show (4294967295 : Int64).toBitVec.toNat = 2 ^ 32 - 1 from rfl, Nat.and_two_pow_sub_one_eq_mod, lN_tn (by omega), BitVec.toNat_signExtend, BitVec.toNat_setWidth, pk_tn h]
  split <;> omega
theorem side_ok {n p : Nat} (sb : A) (h : p + 4 ≤ n) (hn : n ≤ 65536) (h0 : H4 sb p ≠ 0) : F_X6_readSide (Sr n p) sb = fok (lN (H4 sb p)) (Sr n (p + 4)) := by
  unfold F_X6_readSide
  have := H4_lt sb p
  rw [high4_ok sb h hn, fon_fok, i64m this, if_neg (fun e => by rw [lg_cmp_eq] at e; exact h0 ((pk_lEQ (b := 0) (by omega) (by omega)).mp e))]
theorem side_0 {n p : Nat} (sb : A) (h : p + 4 ≤ n) (hn : n ≤ 65536) (h0 : H4 sb p = 0) : F_X6_readSide (Sr n p) sb = fex ISE (nI n, nI (p + 4), 2, nI p) := by
  unfold F_X6_readSide
  rw [high4_ok sb h hn, fon_fok, i64m (H4_lt sb p), h0, if_pos (by decide), rf_eq, fon_fex]
theorem side_no {n p : Nat} (sb : A) (h : n < p + 4) (hp : p ≤ n) (hn : n ≤ 65536) : F_X6_readSide (Sr n p) sb = fex ISE (nI n, nI n, 1, nI n) := by
  unfold F_X6_readSide
  rw [high4_no sb h hp hn, fon_fex]
def hm (v : Int32) : Nat := (3 * ch v 24 + 5 * ch v 16 + 7 * ch v 8 + 11 * ch v 0) % 64
theorem hm_lt (v : Int32) : hm v < 64 := Nat.mod_lt _ (by decide)
theorem home_hm (v : Int32) : F_X6_homeOf v = nI (hm v) := by
  have := ch_lt v 24; have := ch_lt v 16; have := ch_lt v 8; have := ch_lt v 0
  unfold F_X6_homeOf
  rw [red_ch, green_ch, blue_ch, alpha_ch, show (3 : Int32) = nI 3 from rfl, show (5 : Int32) = nI 5 from rfl, show (7 : Int32) = nI 7 from rfl, show (11 : Int32) = nI 11 from rfl, pk_mul, pk_mul, pk_mul, pk_mul, nI_add, nI_add, nI_add, pk_andN (by omega) (m := 63) 6 rfl]
  rfl
theorem spot_hm (v : Int32) : F_X11_spot v = nI (hm v) := by
  have := ch_lt v 24; have := ch_lt v 16; have := ch_lt v 8; have := ch_lt v 0
  unfold F_X11_spot
  rw [us_24, sh16_ch, sh8_ch, and_ch, show (3 : Int32) = nI 3 from rfl, show (5 : Int32) = nI 5 from rfl, show (7 : Int32) = nI 7 from rfl, show (11 : Int32) = nI 11 from rfl, show (64 : Int32) = nI 64 from rfl, pk_mul, pk_mul, pk_mul, pk_mul, nI_add, nI_add, nI_add, pk_rem (by omega) (by omega) (by omega)]
  rfl
theorem keep_eq (f1 f2 f3 v : Int32) (pl : A) : F_X6_keep (f1, f2, f3, v, pl) = fok () (f1, f2, f3, v, upd pl (hm v) v) := by
  have := hm_lt v
  unfold F_X6_keep
  dsimp only [qo_f1, qo_f2, qo_f3, qo_last, qo_pl]
  rw [home_hm, if_pos (inb_nI this (by omega)), nI_clamp (by omega)]
theorem moved_eq (a b c : Int32) (f1 f2 f3 v : Int32) (pl : A) : F_X6_moved a b c (f1, f2, f3, v, pl) = fok (F_X11_more v a b c) () := by
  unfold F_X6_moved F_X11_more
  dsimp only [qo_last]
  rw [red_ch, green_ch, blue_ch, alpha_ch, us_24, sh16_ch, sh8_ch, and_ch v, mix_eq]
theorem c114 {T d t : Nat} (sb : A) (hT : d + t ≤ T) (h4 : T ≤ 4096) (c b w g f1 f2 f3 v : Int32) (px pl : A) (sc : Src) (k21 : Int32 → Int32 → Int32 → Int32 → Ras → Src → Qoi → Out (Ras × Src × Qoi) Int32) :
    lp (fun _ _ _ _ _ _ _ _ _ => fno) (F_X6_readChunks_114 sb k21) FU c (nI t) (nI T) (nI d) b 0 (w, g, px) sc (f1, f2, f3, v, pl) = k21 (c + 1) b (nI T) (nI (d + t)) (w, g, blk px d t (fun _ => v)) sc (f1, f2, f3, v, upd pl (hm v) v) := by
  have q := lp_M (z := fun _ _ _ _ _ _ _ _ _ => fno) (f := F_X6_readChunks_114 sb k21) (fun m k => ∀ j, j + m = t → k c (nI t) (nI T) (nI d) b (nI j) (w, g, blk px d j (fun _ => v)) sc (f1, f2, f3, v, pl) = k21 (c + 1) b (nI T) (nI (d + t)) (w, g, blk px d t (fun _ => v)) sc (f1, f2, f3, v, upd pl (hm v) v)) ?_ t (by omega)
  · have := q 0 (by omega)
    rw [blk_0] at this
    exact this
  · intro m k ih j hj
    unfold F_X6_readChunks_114
    by_cases c0 : m = 0
    · have : j = t := by omega
      subst this
      rw [if_pos (nI_le (by omega) (by omega)), keep_eq, fon_fok, nI_add]
    · rw [if_neg (nI_ge (by omega) (by omega)), nI_add, ut_set (by omega), fon_fok, nI_1]
      dsimp only [x_w, x_g, x_p, qo_last]
      rw [blk_s _ _ _ _ _ rfl]
      exact ih (m - 1) (by omega) (j + 1) (by omega)
theorem r648 {T d t : Nat} (sb : A) (hT : d + t ≤ T) (h4 : T ≤ 4096) (b v : Int32) (gt sp : A) (mr : MR) (k304 : Int32 → Int32 → Int32 → Int32 → MR → A → A → Out (MR × A × A) Int32) :
    lp (fun _ _ _ _ _ _ _ _ _ => fno) (F_X11_readChunks_648 sb k304) FU (nI T) v b (nI d) (nI t) 0 mr gt sp = k304 (nI T) v b (nI (d + t)) mr (blk gt d t (fun _ => v)) (upd sp (hm v) v) := by
  have hv := hm_lt v
  have q := lp_M (z := fun _ _ _ _ _ _ _ _ _ => fno) (f := F_X11_readChunks_648 sb k304) (fun m k => ∀ j, j + m = t → k (nI T) v b (nI (d + j)) (nI t) (nI j) mr (blk gt d j (fun _ => v)) sp = k304 (nI T) v b (nI (d + t)) mr (blk gt d t (fun _ => v)) (upd sp (hm v) v)) ?_ t (by omega)
  · have := q 0 (by omega)
    rw [blk_0] at this
    exact this
  · intro m k ih j hj
    unfold F_X11_readChunks_648
    by_cases c0 : m = 0
    · have : j = t := by omega
      subst this
      rw [if_pos (nI_le (by omega) (by omega)), spot_hm, if_pos (inb_nI hv (by omega)), nI_clamp (by omega)]
    · rw [if_neg (nI_ge (by omega) (by omega)), if_pos (inb_nI (by omega) (by omega)), nI_clamp (by omega), nI_1, nI_1, blk_s _ _ _ _ _ rfl]
      exact ih (m - 1) (by omega) (j + 1) (by omega)
theorem rp_rgb {n p : Nat} (sb : A) (hp : p ≤ n) (hn : n ≤ 65536) (f1 f2 f3 v : Int32) (pl : A) : F_X6_readPixel 254 (Sr n p) sb (f1, f2, f3, v, pl) = if p + 3 ≤ n then fok (F_X11_mix (nI (bt sb p)) (nI (bt sb (p + 1))) (nI (bt sb (p + 2))) (v &&& 255)) (Sr n (p + 3)) else fex ISE (nI n, nI n, 1, nI n) := by
  unfold F_X6_readPixel F_X6_readPixel_149
  rw [if_pos (by decide), if_pos (by decide), if_pos (by decide), if_pos (by decide)]
  dsimp only [qo_last]
  by_cases c1 : p < n
  · rw [nx_ok sb c1 hn, fon_fok]
    by_cases c2 : p + 1 < n
    · rw [nx_ok sb c2 hn, fon_fok]
      by_cases c3 : p + 1 + 1 < n
      · rw [nx_ok sb c3 hn, fon_fok, if_neg (by decide), if_pos (by omega)]; rfl
      · rw [nx_no sb (by omega) (by omega), fon_fex, if_neg (by omega), show p + 1 + 1 = n from by omega]
    · rw [nx_no sb (by omega) (by omega), fon_fex, if_neg (by omega), show p + 1 = n from by omega]
  · rw [nx_no sb (by omega) (by omega), fon_fex, if_neg (by omega), show p = n from by omega]
theorem rp_rgba {n p : Nat} (sb : A) (hp : p ≤ n) (hn : n ≤ 65536) (f1 f2 f3 v : Int32) (pl : A) : F_X6_readPixel 255 (Sr n p) sb (f1, f2, f3, v, pl) = if p + 4 ≤ n then fok (F_X11_mix (nI (bt sb p)) (nI (bt sb (p + 1))) (nI (bt sb (p + 2))) (nI (bt sb (p + 3)))) (Sr n (p + 4)) else fex ISE (nI n, nI n, 1, nI n) := by
  unfold F_X6_readPixel F_X6_readPixel_149
  rw [if_pos (by decide), if_pos (by decide), if_pos (by decide), if_pos (by decide)]
  by_cases c1 : p < n
  · rw [nx_ok sb c1 hn, fon_fok]
    by_cases c2 : p + 1 < n
    · rw [nx_ok sb c2 hn, fon_fok]
      by_cases c3 : p + 1 + 1 < n
      · rw [nx_ok sb c3 hn, fon_fok, if_pos rfl]
        by_cases c4 : p + 1 + 1 + 1 < n
        · rw [nx_ok sb c4 hn, fon_fok, if_pos (by omega)]; rfl
        · rw [nx_no sb (by omega) (by omega), fon_fex, if_neg (by omega), show p + 1 + 1 + 1 = n from by omega]
      · rw [nx_no sb (by omega) (by omega), fon_fex, if_neg (by omega), show p + 1 + 1 = n from by omega]
    · rw [nx_no sb (by omega) (by omega), fon_fex, if_neg (by omega), show p + 1 = n from by omega]
  · rw [nx_no sb (by omega) (by omega), fon_fex, if_neg (by omega), show p = n from by omega]
theorem rp_luma {n p b : Nat} (sb : A) (hp : p ≤ n) (hn : n ≤ 65536) (h1 : 128 ≤ b) (h2 : b < 192) (f1 f2 f3 v : Int32) (pl : A) : F_X6_readPixel (nI b) (Sr n p) sb (f1, f2, f3, v, pl) = if p + 1 ≤ n then fok (F_X11_more v ((((nI b &&& 63) - 32) + (nI (bt sb p) >>> ((4 : Int32) &&& 31))) - 8) ((nI b &&& 63) - 32) ((((nI b &&& 63) - 32) + (nI (bt sb p) &&& 15)) - 8)) (Sr n (p + 1)) else fex ISE (nI n, nI n, 1, nI n) := by
  unfold F_X6_readPixel
  rw [if_pos (by (simp (disch := omega) only [nI_toInt, Int32.lt_iff_toInt_lt, Int32.le_iff_toInt_le, ← Int32.toInt_inj, Int32.reduceToInt]; omega)), if_pos (by (simp (disch := omega) only [nI_toInt, Int32.lt_iff_toInt_lt, Int32.le_iff_toInt_le, ← Int32.toInt_inj, Int32.reduceToInt]; omega)), if_neg (by (simp (disch := omega) only [nI_toInt, Int32.lt_iff_toInt_lt, Int32.le_iff_toInt_le, ← Int32.toInt_inj, Int32.reduceToInt]; omega))]
  by_cases c1 : p < n
  · rw [nx_ok sb c1 hn, fon_fok, moved_eq, fon_fok, if_pos (by omega)]
  · rw [nx_no sb (by omega) (by omega), fon_fex, if_neg (by omega), show p = n from by omega]
theorem rp_diff {b : Nat} (sb : A) (sc : Src) (h1 : 64 ≤ b) (h2 : b < 128) (f1 f2 f3 v : Int32) (pl : A) : F_X6_readPixel (nI b) sc sb (f1, f2, f3, v, pl) = fok (F_X11_more v (((nI b >>> ((4 : Int32) &&& 31)) &&& 3) - 2) (((nI b >>> ((2 : Int32) &&& 31)) &&& 3) - 2) ((nI b &&& 3) - 2)) sc := by
  unfold F_X6_readPixel
  rw [if_pos (by (simp (disch := omega) only [nI_toInt, Int32.lt_iff_toInt_lt, Int32.le_iff_toInt_le, ← Int32.toInt_inj, Int32.reduceToInt]; omega)), if_neg (by (simp (disch := omega) only [nI_toInt, Int32.lt_iff_toInt_lt, Int32.le_iff_toInt_le, ← Int32.toInt_inj, Int32.reduceToInt]; omega)), moved_eq, fon_fok]
theorem rp_run {b : Nat} (sb : A) (sc : Src) (h1 : 192 ≤ b) (h2 : b < 254) (f1 f2 f3 v : Int32) (pl : A) : F_X6_readPixel (nI b) sc sb (f1, f2, f3, v, pl) = fok v sc := by
  unfold F_X6_readPixel
  rw [if_pos (by (simp (disch := omega) only [nI_toInt, Int32.lt_iff_toInt_lt, Int32.le_iff_toInt_le, ← Int32.toInt_inj, Int32.reduceToInt]; omega)), if_pos (by (simp (disch := omega) only [nI_toInt, Int32.lt_iff_toInt_lt, Int32.le_iff_toInt_le, ← Int32.toInt_inj, Int32.reduceToInt]; omega)), if_pos (by (simp (disch := omega) only [nI_toInt, Int32.lt_iff_toInt_lt, Int32.le_iff_toInt_le, ← Int32.toInt_inj, Int32.reduceToInt]; omega)), if_neg (by (simp (disch := omega) only [nI_toInt, Int32.lt_iff_toInt_lt, Int32.le_iff_toInt_le, ← Int32.toInt_inj, Int32.reduceToInt]; omega))]
theorem rp_idx {b : Nat} (sb : A) (sc : Src) (h2 : b < 64) (f1 f2 f3 v : Int32) (pl : A) : F_X6_readPixel (nI b) sc sb (f1, f2, f3, v, pl) = fok (pl b) sc := by
  unfold F_X6_readPixel
  rw [if_neg (by (simp (disch := omega) only [nI_toInt, Int32.lt_iff_toInt_lt, Int32.le_iff_toInt_le, ← Int32.toInt_inj, Int32.reduceToInt]; omega)), pk_andN (by omega) (m := 63) 6 rfl, show b % 2 ^ 6 = b from Nat.mod_eq_of_lt h2, if_pos (inb_nI h2 (by omega)), nI_clamp (by omega)]
/-- what follows the pixels in the reference's reader -/
def Q691 (sb : A) (mr : MR) (gt sp : A) : Out (MR × A × A) Int32 := lp (fun _ _ _ _ => fno) (F_X11_readChunks_691 sb) FU 0 mr gt sp
/-- the chunks of both sides from one place -/
def QStep (sb : A) (n T : Nat) (w g one two : Int32) (C : Out (Ras × Src × Qoi) Int32) (R : Out (MR × A × A) Int32) (f1 f2 f3 : Int32) : Prop :=
  (∃ (p : Nat) (c : Int32) (px gt : A) (v : Int32) (pl sp : A), p ≤ n ∧ C = fok c ((w, g, px), Sr n p, (f1, f2, f3, v, pl)) ∧ R = Q691 sb (Mr n p w g one two c) gt sp ∧ ∀ i, i < T → px i = gt i) ∨
  (∃ (x : Ras) (sc : Src) (qo : Qoi) (mr : MR) (gt sp : A), C = fex ISE (x, sc, qo) ∧ R = fok 0 (mr, gt, sp) ∧ Bad sc mr)
theorem q_bad {sb : A} {n T : Nat} {w g one two : Int32} {C : Out (Ras × Src × Qoi) Int32} {R : Out (MR × A × A) Int32} {f1 f2 f3 : Int32} {x : Ras} {sc : Src} {qo : Qoi} {mr : MR} {gt sp : A} (h1 : C = fex ISE (x, sc, qo)) (h2 : R = fok 0 (mr, gt, sp)) (h3 : Bad sc mr) : QStep sb n T w g one two C R f1 f2 f3 := Or.inr ⟨x, sc, qo, mr, gt, sp, h1, h2, h3⟩
theorem q_chunks {n T : Nat} (sb : A) (hn : n ≤ 65536) (hT : T ≤ 4096) (w g one two f1 f2 f3 : Int32) :
    ∀ (p : Nat) (px gt v pl sp : _), p ≤ n → (∀ i, i < 64 → pl i = sp i) → QStep sb n T w g one two (lp (fun _ _ _ _ _ _ _ => fno) (F_X6_readChunks_21 sb) FU 0 (-1) (nI T) 0 (w, g, px) (Sr n p) (f1, f2, f3, v, pl)) (lp (fun _ _ _ _ _ _ _ => fno) (F_X11_readChunks_304 sb) FU (nI T) v (-1) 0 (Mr n p w g one two 0) gt sp) f1 f2 f3 := by
  intro p px gt v pl sp hp hs
  have q := lp_D (z := fun _ _ _ _ _ _ _ => fno) (f := F_X6_readChunks_21 sb) (z2 := fun _ _ _ _ _ _ _ => fno) (f2 := F_X11_readChunks_304 sb) (fun m k1 k2 => ∀ (p d : Nat) (c b v : Int32) (px gt pl sp : A), d + m = T → p ≤ n → (∀ i, i < 64 → pl i = sp i) → (∀ i, i < d → px i = gt i) → QStep sb n T w g one two (k1 c b (nI T) (nI d) (w, g, px) (Sr n p) (f1, f2, f3, v, pl)) (k2 (nI T) v b (nI d) (Mr n p w g one two c) gt sp) f1 f2 f3) ?_ T (by omega)
  · exact q p 0 0 (-1) v px gt pl sp (by omega) hp hs (fun i hi => absurd hi (by omega))
  · intro m k1 k2 ih p d c b v px gt pl sp hd hp hs hx
    unfold F_X6_readChunks_21 F_X11_readChunks_304
    by_cases c0 : m = 0
    · have : d = T := by omega
      subst this
      rw [if_pos (Int32.le_refl _), if_pos (Int32.le_refl _)]
      exact Or.inl ⟨p, c, px, gt, v, pl, sp, hp, rfl, rfl, hx⟩
    rw [if_neg (nI_ge (by omega) (by omega)), if_neg (nI_ge (by omega) (by omega))]
    by_cases cn : p + 1 ≤ n
    case neg =>
      rw [nx_no sb (by omega) (by omega), fon_fex, wt_no 1 1 rfl _ _ _ _ _ (by omega) (by omega), fon_fok, if_pos rfl]
      exact q_bad rfl rfl ⟨by show (1 : Int32) ≠ 0; decide, rfl, rfl⟩
    rw [nx_ok sb (by omega) hn, fon_fok, wt_ok 1 1 rfl _ _ _ _ _ (by omega) (by omega), fon_fok, if_neg (c := (1 : Int32) = 0) (by decide)]
    dsimp only [mr_size, mr_pos, mr_kind, mr_whr, mr_gw, mr_gh, mr_one, mr_two, mr_three, sc_pos]
    rw [b_ok sb (by omega), fon_fok, nI_1]
    have hb := bt_lt sb p
    generalize hbe : bt sb p = y at hb
    have go : ∀ (t p2 : Nat) (v2 : Int32), 1 ≤ t → d + t ≤ T → p2 ≤ n → QStep sb n T w g one two (lp (fun _ _ _ _ _ _ _ _ _ => fno) (F_X6_readChunks_114 sb k1) FU c (nI t) (nI T) (nI d) (nI y) 0 (w, g, px) (Sr n p2) (f1, f2, f3, v2, pl)) (F_X11_readChunks_631 sb k2 (nI T) v2 (nI d) (nI y) (nI t) (Mr n p2 w g one two c) gt sp) f1 f2 f3 := by
      intro t p2 v2 h1 h2 h3
      unfold F_X11_readChunks_631
      dsimp only [mr_size, mr_pos, mr_kind, mr_whr, mr_gw, mr_gh, mr_one, mr_two, mr_three]
      rw [c114 sb h2 hT, r648 sb h2 hT]
      refine ih (T - (d + t)) (by omega) p2 (d + t) (c + 1) (nI y) v2 _ _ _ _ (by omega) h3 (fun i hi => ?_) (fun i hi => ?_)
      · unfold upd; split
        · rfl
        · exact hs i hi
      · unfold blk; split
        · rfl
        · exact hx i (by omega)
    by_cases y254 : y < 254
    · rw [if_pos (c := nI y < 254) (by (simp (disch := omega) only [nI_toInt, Int32.lt_iff_toInt_lt, Int32.le_iff_toInt_le, ← Int32.toInt_inj, Int32.reduceToInt]; omega))]
      by_cases y64 : 64 ≤ y
      · rw [if_pos (c := 64 ≤ nI y) (by (simp (disch := omega) only [nI_toInt, Int32.lt_iff_toInt_lt, Int32.le_iff_toInt_le, ← Int32.toInt_inj, Int32.reduceToInt]; omega))]
        by_cases y128 : 128 ≤ y
        · rw [if_pos (c := 128 ≤ nI y) (by (simp (disch := omega) only [nI_toInt, Int32.lt_iff_toInt_lt, Int32.le_iff_toInt_le, ← Int32.toInt_inj, Int32.reduceToInt]; omega))]
          by_cases y192 : 192 ≤ y
          · rw [if_pos (c := 192 ≤ nI y) (by (simp (disch := omega) only [nI_toInt, Int32.lt_iff_toInt_lt, Int32.le_iff_toInt_le, ← Int32.toInt_inj, Int32.reduceToInt]; omega)), if_neg (c := nI y < 192) (by (simp (disch := omega) only [nI_toInt, Int32.lt_iff_toInt_lt, Int32.le_iff_toInt_le, ← Int32.toInt_inj, Int32.reduceToInt]; omega)), if_neg (c := 254 ≤ nI y) (by (simp (disch := omega) only [nI_toInt, Int32.lt_iff_toInt_lt, Int32.le_iff_toInt_le, ← Int32.toInt_inj, Int32.reduceToInt]; omega)), pk_andN (by omega) (m := 63) 6 rfl, nI_1, pk_sub (by omega)]
            unfold F_X6_readChunks_67 F_X6_readChunks_93 F_X6_readChunks_100
            rw [pk_sub (by omega)]
            by_cases ct : y % 2 ^ 6 + 1 ≤ T - d
            · rw [if_pos (nI_le ct (by omega)), if_neg (nI_nlt ct (by omega)), if_pos (c := 64 ≤ nI y) (by (simp (disch := omega) only [nI_toInt, Int32.lt_iff_toInt_lt, Int32.le_iff_toInt_le, ← Int32.toInt_inj, Int32.reduceToInt]; omega)), rp_run sb _ y192 y254, fon_fok]
              exact go _ (p + 1) v (by omega) (by omega) (by omega)
            · rw [if_neg (nI_ge (by omega) (by omega)), if_pos (nI_lt (by omega) (by omega)), rf_eq, fon_fex, wr_eq, fon_fok, if_pos (Or.inl rfl)]
              exact q_bad rfl rfl ⟨by show (4 : Int32) ≠ 0; decide, rfl, rfl⟩
          · rw [if_neg (c := 192 ≤ nI y) (by (simp (disch := omega) only [nI_toInt, Int32.lt_iff_toInt_lt, Int32.le_iff_toInt_le, ← Int32.toInt_inj, Int32.reduceToInt]; omega)), if_pos (c := nI y < 192) (by (simp (disch := omega) only [nI_toInt, Int32.lt_iff_toInt_lt, Int32.le_iff_toInt_le, ← Int32.toInt_inj, Int32.reduceToInt]; omega))]
            unfold F_X6_readChunks_66 F_X6_readChunks_67 F_X6_readChunks_100
            rw [pk_sub (by omega), if_neg (c := nI (T - d) < 1) (by (simp (disch := omega) only [nI_toInt, Int32.lt_iff_toInt_lt, Int32.le_iff_toInt_le, ← Int32.toInt_inj, Int32.reduceToInt]; omega)), if_pos (c := 64 ≤ nI y) (by (simp (disch := omega) only [nI_toInt, Int32.lt_iff_toInt_lt, Int32.le_iff_toInt_le, ← Int32.toInt_inj, Int32.reduceToInt]; omega)), rp_luma sb cn hn y128 (by omega)]
            by_cases c2 : p + 1 + 1 ≤ n
            · rw [if_pos c2, fon_fok, wt_ok 1 1 rfl _ _ _ _ _ (by omega) (by omega), fon_fok, if_neg (by decide)]
              dsimp only [mr_size, mr_pos, mr_kind, mr_whr, mr_gw, mr_gh, mr_one, mr_two, mr_three]
              rw [b_ok sb (by omega), fon_fok, nI_1]
              exact go 1 (p + 1 + 1) _ (by omega) (by omega) (by omega)
            · rw [if_neg c2, fon_fex, wt_no 1 1 rfl _ _ _ _ _ (by omega) (by omega), fon_fok, if_pos rfl]
              exact q_bad rfl rfl ⟨by show (1 : Int32) ≠ 0; decide, rfl, rfl⟩
        · rw [if_neg (c := 128 ≤ nI y) (by (simp (disch := omega) only [nI_toInt, Int32.lt_iff_toInt_lt, Int32.le_iff_toInt_le, ← Int32.toInt_inj, Int32.reduceToInt]; omega)), if_pos (c := nI y < 192) (by (simp (disch := omega) only [nI_toInt, Int32.lt_iff_toInt_lt, Int32.le_iff_toInt_le, ← Int32.toInt_inj, Int32.reduceToInt]; omega))]
          unfold F_X6_readChunks_66 F_X6_readChunks_67 F_X6_readChunks_100
          rw [pk_sub (by omega), if_neg (c := nI (T - d) < 1) (by (simp (disch := omega) only [nI_toInt, Int32.lt_iff_toInt_lt, Int32.le_iff_toInt_le, ← Int32.toInt_inj, Int32.reduceToInt]; omega)), if_pos (c := 64 ≤ nI y) (by (simp (disch := omega) only [nI_toInt, Int32.lt_iff_toInt_lt, Int32.le_iff_toInt_le, ← Int32.toInt_inj, Int32.reduceToInt]; omega)), rp_diff sb _ y64 (by omega), fon_fok]
          exact go 1 (p + 1) _ (by omega) (by omega) (by omega)
      · rw [if_neg (c := 64 ≤ nI y) (by (simp (disch := omega) only [nI_toInt, Int32.lt_iff_toInt_lt, Int32.le_iff_toInt_le, ← Int32.toInt_inj, Int32.reduceToInt]; omega)), if_pos (c := nI y < 192) (by (simp (disch := omega) only [nI_toInt, Int32.lt_iff_toInt_lt, Int32.le_iff_toInt_le, ← Int32.toInt_inj, Int32.reduceToInt]; omega))]
        unfold F_X6_readChunks_66 F_X6_readChunks_67 F_X6_readChunks_93 F_X6_readChunks_100
        rw [pk_sub (by omega), if_neg (c := nI (T - d) < 1) (by (simp (disch := omega) only [nI_toInt, Int32.lt_iff_toInt_lt, Int32.le_iff_toInt_le, ← Int32.toInt_inj, Int32.reduceToInt]; omega)), if_neg (c := 64 ≤ nI y) (by (simp (disch := omega) only [nI_toInt, Int32.lt_iff_toInt_lt, Int32.le_iff_toInt_le, ← Int32.toInt_inj, Int32.reduceToInt]; omega))]
        by_cases cb : nI y = b
        · rw [if_pos cb, if_pos cb.symm, rf_eq, fon_fex, wr_eq, fon_fok, if_pos (Or.inl rfl)]
          exact q_bad rfl rfl ⟨by show (4 : Int32) ≠ 0; decide, rfl, rfl⟩
        · rw [if_neg cb, if_neg (fun e => cb e.symm), if_pos (inb_nI (by omega) (by omega)), rp_idx sb _ (by omega), fon_fok, nI_clamp (by omega), ← hs y (by omega)]
          exact go 1 (p + 1) _ (by omega) (by omega) (by omega)
    · rw [if_neg (c := nI y < 254) (by (simp (disch := omega) only [nI_toInt, Int32.lt_iff_toInt_lt, Int32.le_iff_toInt_le, ← Int32.toInt_inj, Int32.reduceToInt]; omega)), if_neg (c := nI y < 192) (by (simp (disch := omega) only [nI_toInt, Int32.lt_iff_toInt_lt, Int32.le_iff_toInt_le, ← Int32.toInt_inj, Int32.reduceToInt]; omega)), if_pos (c := 254 ≤ nI y) (by (simp (disch := omega) only [nI_toInt, Int32.lt_iff_toInt_lt, Int32.le_iff_toInt_le, ← Int32.toInt_inj, Int32.reduceToInt]; omega))]
      unfold F_X6_readChunks_66 F_X6_readChunks_67 F_X6_readChunks_100
      rw [pk_sub (by omega), if_neg (c := nI (T - d) < 1) (by (simp (disch := omega) only [nI_toInt, Int32.lt_iff_toInt_lt, Int32.le_iff_toInt_le, ← Int32.toInt_inj, Int32.reduceToInt]; omega)), if_pos (c := 64 ≤ nI y) (by (simp (disch := omega) only [nI_toInt, Int32.lt_iff_toInt_lt, Int32.le_iff_toInt_le, ← Int32.toInt_inj, Int32.reduceToInt]; omega))]
      unfold F_X11_readChunks_430
      rcases (by omega : y = 254 ∨ y = 255) with rfl | rfl
      · rw [show nI 254 = 254 from rfl, rp_rgb sb cn hn]
        by_cases c2 : p + 1 + 3 ≤ n
        · rw [if_pos c2, fon_fok, wt_ok (254 - 251) 3 (by decide) _ _ _ _ _ (by omega) (by omega), fon_fok, if_neg (by decide)]
          dsimp only [mr_size, mr_pos, mr_kind, mr_whr, mr_gw, mr_gh, mr_one, mr_two, mr_three]
          rw [b_ok sb (by omega), fon_fok, show nI (p + 1) + 1 = nI (p + 2) from nI_add _ 1, b_ok sb (by omega), fon_fok, show nI (p + 1) + 2 = nI (p + 3) from nI_add _ 2, b_ok sb (by omega), fon_fok, if_neg (by decide), show (254 : Int32) - 251 = nI 3 from by decide, nI_add]
          exact go 1 (p + 1 + 3) _ (by omega) (by omega) (by omega)
        · rw [if_neg c2, fon_fex, wt_no (254 - 251) 3 (by decide) _ _ _ _ _ (by omega) (by omega), fon_fok, if_pos rfl]
          exact q_bad rfl rfl ⟨by show (1 : Int32) ≠ 0; decide, rfl, rfl⟩
      · rw [show nI 255 = 255 from rfl, rp_rgba sb cn hn]
        by_cases c2 : p + 1 + 4 ≤ n
        · rw [if_pos c2, fon_fok, wt_ok (255 - 251) 4 (by decide) _ _ _ _ _ (by omega) (by omega), fon_fok, if_neg (by decide)]
          dsimp only [mr_size, mr_pos, mr_kind, mr_whr, mr_gw, mr_gh, mr_one, mr_two, mr_three]
          rw [b_ok sb (by omega), fon_fok, show nI (p + 1) + 1 = nI (p + 2) from nI_add _ 1, b_ok sb (by omega), fon_fok, show nI (p + 1) + 2 = nI (p + 3) from nI_add _ 2, b_ok sb (by omega), fon_fok, if_pos (by decide), show nI (p + 1) + 3 = nI (p + 4) from nI_add _ 3, b_ok sb (by omega), fon_fok, show (255 : Int32) - 251 = nI 4 from by decide, nI_add]
          exact go 1 (p + 1 + 4) _ (by omega) (by omega) (by omega)
        · rw [if_neg c2, fon_fex, wt_no (255 - 251) 4 (by decide) _ _ _ _ _ (by omega) (by omega), fon_fok, if_pos rfl]
          exact q_bad rfl rfl ⟨by show (1 : Int32) ≠ 0; decide, rfl, rfl⟩
theorem q_tail {n : Nat} (sb : A) (hn : n ≤ 65536) (x : Ras) (f1 f2 f3 v : Int32) (pl gt sp : A) (w g one two three : Int32) (p : Nat) (hp : p ≤ n) :
    (lp (fun _ _ _ _ => fno) (F_X6_decode_84 sb) FU 0 x (Sr n p) (f1, f2, f3, v, pl) = fok () (x, Sr n n, (f1, f2, f3, v, pl)) ∧ Q691 sb (Mr n p w g one two three) gt sp = fok 1 (Mr n n w g one two three, gt, sp)) ∨
    ∃ sc mr, lp (fun _ _ _ _ => fno) (F_X6_decode_84 sb) FU 0 x (Sr n p) (f1, f2, f3, v, pl) = fex ISE (x, sc, (f1, f2, f3, v, pl)) ∧ Q691 sb (Mr n p w g one two three) gt sp = fok 0 (mr, gt, sp) ∧ Bad sc mr := by
  have q := lp_D (z := fun _ _ _ _ => fno) (f := F_X6_decode_84 sb) (z2 := fun _ _ _ _ => fno) (f2 := F_X11_readChunks_691 sb) (fun m k1 k2 => (∀ p j, j + m = 8 → p ≤ n → (j ≤ 7 → (k1 (nI j) x (Sr n p) (f1, f2, f3, v, pl) = fok () (x, Sr n n, (f1, f2, f3, v, pl)) ∧ k2 (nI j) (Mr n p w g one two three) gt sp = fok 1 (Mr n n w g one two three, gt, sp)) ∨
    ∃ sc mr, k1 (nI j) x (Sr n p) (f1, f2, f3, v, pl) = fex ISE (x, sc, (f1, f2, f3, v, pl)) ∧ k2 (nI j) (Mr n p w g one two three) gt sp = fok 0 (mr, gt, sp) ∧ Bad sc mr) ∧ (j = 8 → (p = n → k2 (nI j) (Mr n p w g one two three) gt sp = fok 1 (Mr n n w g one two three, gt, sp)) ∧ (p < n → k2 (nI j) (Mr n p w g one two three) gt sp = fok 0 ((nI n, nI p, 5, nI p, w, g, one, two, three), gt, sp))))) ?_ 8 (by omega)
  · exact (q p 0 (by omega) hp).1 (by omega)
  · intro m k1 k2 ih p j hj hp
    refine ⟨fun h7 => ?_, fun h8 => ⟨fun e => ?_, fun e => ?_⟩⟩
    · unfold F_X6_decode_84 F_X11_readChunks_691 F_X11_readChunks_711
      rw [if_neg (c := 8 ≤ nI j) (by (simp (disch := omega) only [nI_toInt, Int32.lt_iff_toInt_lt, Int32.le_iff_toInt_le, ← Int32.toInt_inj, Int32.reduceToInt]; omega))]
      by_cases c7 : j = 7
      · subst c7
        rw [if_pos (c := 7 ≤ nI 7) (by decide), if_pos (c := nI 7 = 7) (by decide)]
        rcases d_want sb 1 w g one two three hp hn with ⟨h1, _, e1, e2⟩ | ⟨_, _, k, ww, hk, e1, e2⟩
        · rw [e1, fon_fok, e2, fon_fok, if_neg (by decide)]
          have r := (ih 0 (by omega) (p + 1) 8 (by omega) (by omega)).2 rfl
          rw [show nI 7 + 1 = nI 8 from rfl]
          by_cases ce : p + 1 = n
          · rw [r.1 ce, ce, end_ok, fon_fok]; exact Or.inl ⟨rfl, rfl⟩
          · rw [r.2 (by omega), end_no (by omega) hn, fon_fex]; exact Or.inr ⟨_, _, rfl, rfl, by show (5 : Int32) ≠ 0; decide, rfl, rfl⟩
        · rw [e1, fon_fex, e2, fon_fok, if_pos rfl]; exact Or.inr ⟨_, _, rfl, rfl, hk, rfl, rfl⟩
      · rw [if_neg (c := 7 ≤ nI j) (by (simp (disch := omega) only [nI_toInt, Int32.lt_iff_toInt_lt, Int32.le_iff_toInt_le, ← Int32.toInt_inj, Int32.reduceToInt]; omega)), if_neg (c := nI j = 7) (by (simp (disch := omega) only [nI_toInt, Int32.lt_iff_toInt_lt, Int32.le_iff_toInt_le, ← Int32.toInt_inj, Int32.reduceToInt]; omega))]
        rcases d_want sb 0 w g one two three hp hn with ⟨h1, _, e1, e2⟩ | ⟨_, _, k, ww, hk, e1, e2⟩
        · rw [e1, fon_fok, e2, fon_fok, if_neg (by decide), nI_1]
          exact (ih (m - 1) (by omega) (p + 1) (j + 1) (by omega) (by omega)).1 (by omega)
        · rw [e1, fon_fex, e2, fon_fok, if_pos rfl]; exact Or.inr ⟨_, _, rfl, rfl, hk, rfl, rfl⟩
    · subst h8; subst e
      unfold F_X11_readChunks_691
      rw [if_pos (by decide), cl_ok, fon_fok, if_pos (Or.inr rfl)]
    · subst h8
      unfold F_X11_readChunks_691
      rw [if_pos (by decide), cl_no _ _ _ _ _ e hn, fon_fok, if_pos (Or.inl rfl)]
theorem q_reset (sb : A) (mr : MR) (gt sp : A) : lp (fun _ _ _ _ => fno) (F_X11_readChunks_261 sb) FU 0 mr gt sp = lp (fun _ _ _ _ _ _ _ => fno) (F_X11_readChunks_304 sb) FU ((mr_gw mr) * (mr_gh mr)) 255 (-1) 0 mr gt (fillN sp 64 0) := by
  have q := lp_M (z := fun _ _ _ _ => fno) (f := F_X11_readChunks_261 sb) (fun m k => ∀ j, j + m = 64 → k (nI j) mr gt (fillN sp j 0) = lp (fun _ _ _ _ _ _ _ => fno) (F_X11_readChunks_304 sb) FU ((mr_gw mr) * (mr_gh mr)) 255 (-1) 0 mr gt (fillN sp 64 0)) ?_ 64 (by omega)
  · have := q 0 (by omega)
    rw [fillN_0] at this
    exact this
  · intro m k ih j hj
    unfold F_X11_readChunks_261
    by_cases c0 : m = 0
    · have : j = 64 := by omega
      subst this
      rw [if_pos (by decide)]
    · rw [if_neg (by (simp (disch := omega) only [nI_toInt, Int32.lt_iff_toInt_lt, Int32.le_iff_toInt_le, ← Int32.toInt_inj, Int32.reduceToInt]; omega)), if_pos (inb_nI (by omega) (by omega)), nI_clamp (by omega), fillN_s, nI_1]
      exact ih (m - 1) (by omega) (j + 1) (by omega)
theorem ch_ok {n p : Nat} (sb : A) (u v : Int32) (h : p < n) (hn : n ≤ 65536) (e : nI (bt sb p) = u ∨ nI (bt sb p) = v) : F_X6_readChoice u v (Sr n p) sb = fok (nI (bt sb p)) (Sr n (p + 1)) := by
  unfold F_X6_readChoice F_X6_readChoice_29
  rw [nx_ok sb h hn, fon_fok]
  rcases e with e | e
  · rw [if_pos e]
  · by_cases c : nI (bt sb p) = u
    · rw [if_pos c]
    · rw [if_neg c, if_pos e]
theorem ch_ne {n p : Nat} (sb : A) (u v : Int32) (h : p < n) (hn : n ≤ 65536) (e1 : ¬ nI (bt sb p) = u) (e2 : ¬ nI (bt sb p) = v) : F_X6_readChoice u v (Sr n p) sb = fex ISE (nI n, nI (p + 1), 2, nI p) := by
  unfold F_X6_readChoice
  rw [nx_ok sb h hn, fon_fok, if_neg e1, if_neg e2, rf_eq, fon_fex]
theorem ch_no {n p : Nat} (sb : A) (u v : Int32) (h : n ≤ p) (hn : p ≤ 65536) : F_X6_readChoice u v (Sr n p) sb = fex ISE (nI n, nI p, 1, nI n) := by
  unfold F_X6_readChoice
  rw [nx_no sb h hn, fon_fex]
theorem b_bad (k w e e2 : Int32) (n : Nat) (gw gh a b c : Int32) (hk : k ≠ 0) : Bad (nI n, e, k, w) (nI n, e2, k, w, gw, gh, a, b, c) := ⟨hk, rfl, rfl⟩
theorem dec_qoi {n : Nat} (sb : A) (hn : n ≤ 65536) (x : Ras) (qo : Qoi) (gw gh a b c : Int32) (gt sp : A) : DRes n (F_X6_decode x (Sr n 0) sb qo) (F_X11_readChunks sb (Mr n 0 gw gh a b c) gt sp) qo_f1 qo_f2 qo_f3 (fun q => q.1) := by
  unfold F_X6_decode F_X11_readChunks F_X11_readChunks_36
  rcases d_want sb 113 gw gh a b c (Nat.zero_le n) hn with ⟨h1, _, e1, e2⟩ | ⟨_, _, k, ww, hk, e1, e2⟩
  case inr => rw [e1, fon_fex, e2, fon_fok, if_pos rfl]; exact d_bad rfl rfl (b_bad _ _ _ _ _ _ _ _ _ _ hk)
  rw [e1, fon_fok, e2, fon_fok, if_neg (by decide)]
  rcases d_want sb 111 gw gh a b c h1 hn with ⟨h1, _, e1, e2⟩ | ⟨_, _, k, ww, hk, e1, e2⟩
  case inr => rw [e1, fon_fex, e2, fon_fok, if_pos rfl]; exact d_bad rfl rfl (b_bad _ _ _ _ _ _ _ _ _ _ hk)
  rw [e1, fon_fok, e2, fon_fok, if_neg (by decide)]
  rcases d_want sb 105 gw gh a b c h1 hn with ⟨h1, _, e1, e2⟩ | ⟨_, _, k, ww, hk, e1, e2⟩
  case inr => rw [e1, fon_fex, e2, fon_fok, if_pos rfl]; exact d_bad rfl rfl (b_bad _ _ _ _ _ _ _ _ _ _ hk)
  rw [e1, fon_fok, e2, fon_fok, if_neg (by decide)]
  rcases d_want sb 102 gw gh a b c h1 hn with ⟨h1, _, e1, e2⟩ | ⟨_, _, k, ww, hk, e1, e2⟩
  case inr => rw [e1, fon_fex, e2, fon_fok, if_pos rfl]; exact d_bad rfl rfl (b_bad _ _ _ _ _ _ _ _ _ _ hk)
  rw [e1, fon_fok, e2, fon_fok, if_neg (by decide)]
  rw [show 0 + 1 + 1 + 1 + 1 = 4 from rfl] at *
  by_cases c1 : 4 + 4 ≤ n
  case neg => rw [side_no sb (by omega) h1 hn, fon_fex, wt_no 4 4 rfl _ _ _ _ _ (by omega) (by omega), fon_fok, if_pos rfl]; exact d_bad rfl rfl (b_bad _ _ _ _ _ _ _ _ _ _ (by decide))
  rw [wt_ok 4 4 rfl _ _ _ _ _ c1 (by omega), fon_fok, if_neg (by decide)]
  dsimp only [mr_size, mr_pos, mr_kind, mr_whr, mr_gw, mr_gh, mr_one, mr_two, mr_three]
  rw [top4 sb (by omega), fon_fok]
  have hw := H4_lt sb 4
  by_cases c2 : H4 sb 4 = 0
  · rw [side_0 sb c1 hn c2, fon_fex, c2, if_pos (by decide), wr_eq, fon_fok, if_pos (Or.inl rfl)]; exact d_bad rfl rfl (b_bad _ _ _ _ _ _ _ _ _ _ (by decide))
  rw [side_ok sb c1 hn c2, fon_fok, if_neg (fun e => by rw [lg_cmp_eq] at e; exact c2 ((pk_lEQ (b := 0) (by omega) (by omega)).mp e)), show nI 4 + 4 = nI 8 from rfl]
  by_cases c3 : 8 + 4 ≤ n
  case neg => rw [side_no sb (by omega) c1 hn, fon_fex, wt_no 4 4 rfl _ _ _ _ _ (by omega) (by omega), fon_fok, if_pos rfl]; exact d_bad rfl rfl (b_bad _ _ _ _ _ _ _ _ _ _ (by decide))
  rw [wt_ok 4 4 rfl _ _ _ _ _ c3 (by omega), fon_fok, if_neg (by decide)]
  dsimp only [mr_size, mr_pos, mr_kind, mr_whr, mr_gw, mr_gh, mr_one, mr_two, mr_three]
  rw [top4 sb (by omega), fon_fok]
  have hh := H4_lt sb 8
  by_cases c4 : H4 sb 8 = 0
  · rw [side_0 sb c3 hn c4, fon_fex, c4, if_pos (by decide), wr_eq, fon_fok, if_pos (Or.inl rfl)]; exact d_bad rfl rfl (b_bad _ _ _ _ _ _ _ _ _ _ (by decide))
  rw [side_ok sb c3 hn c4, fon_fok, if_neg (fun e => by rw [lg_cmp_eq] at e; exact c4 ((pk_lEQ (b := 0) (by omega) (by omega)).mp e))]
  dsimp only [sc_pos]
  rw [show 4 + 4 = 8 from rfl, show 8 + 4 = 12 from rfl] at *
  rcases d_lay (n := n) (p := 12) (q := 8) hw hh (nI 8) x gw gh a b c with ⟨w1, w2, w3, e1, e2⟩ | ⟨e1, e2⟩
  case inr => rw [e1, fon_fex, e2, fon_fok, if_pos rfl]; exact d_bad rfl rfl (b_bad _ _ _ _ _ _ _ _ _ _ (by decide))
  rw [e1, fon_fok, e2, fon_fok, if_neg (by decide)]
  dsimp only [mr_size, mr_pos, mr_kind, mr_whr, mr_gw, mr_gh, mr_one, mr_two, mr_three]
  rw [show nI 8 + 4 = nI 12 from rfl]
  generalize H4 sb 4 = W at *
  generalize H4 sb 8 = H at *
  by_cases c5 : 12 + 1 ≤ n
  case neg => rw [ch_no sb _ _ (by omega) (by omega), fon_fex, wt_no 1 1 rfl _ _ _ _ _ (by omega) (by omega), fon_fok, if_pos rfl]; exact d_bad rfl rfl (b_bad _ _ _ _ _ _ _ _ _ _ (by decide))
  rw [wt_ok 1 1 rfl _ _ _ _ _ c5 (by omega), fon_fok, if_neg (by decide)]
  dsimp only [mr_size, mr_pos, mr_kind, mr_whr, mr_gw, mr_gh, mr_one, mr_two, mr_three]
  rw [b_ok sb (by omega), fon_fok]
  have key : ∀ (q : nI (bt sb 12) = 3 ∨ nI (bt sb 12) = 4), DRes n (fon (F_X6_readChoice 3 4 (Sr n 12) sb) (fun z55 s55 => fon (F_X6_readChoice 0 1 s55 sb) (fun z65 s65 => fon (F_X6_readChunks (nI W, nI H, x_p x) s65 sb (z55, z65, (qo_f3 qo), (qo_last qo), (qo_pl qo))) (fun z75 s75 => lp (fun _ _ _ _ => fno) (F_X6_decode_84 sb) FU (0 : Int32) s75.1 s75.2.1 ((qo_f1 s75.2.2), (qo_f2 s75.2.2), z75, (qo_last s75.2.2), (qo_pl s75.2.2))) (fun E s75 => fex E (s75.1, s75.2.1, s75.2.2))) (fun E s65 => fex E ((nI W, nI H, x_p x), s65, (z55, (qo_f2 qo), (qo_f3 qo), (qo_last qo), (qo_pl qo))))) (fun E s55 => fex E ((nI W, nI H, x_p x), s55, qo))) (F_X11_readChunks_193 sb (Mr n 12 (nI W) (nI H) (nI (bt sb 12)) b c) gt sp) qo_f1 qo_f2 qo_f3 (fun q => q.1) := by
    intro q
    rw [ch_ok sb _ _ (by omega) hn q, fon_fok]
    unfold F_X11_readChunks_193
    dsimp only [mr_size, mr_pos, mr_kind, mr_whr, mr_gw, mr_gh, mr_one, mr_two, mr_three]
    rw [show nI 12 + 1 = nI 13 from rfl, show 12 + 1 = 13 from rfl]
    by_cases c6 : 13 + 1 ≤ n
    case neg => rw [ch_no sb _ _ (by omega) (by omega), fon_fex, wt_no 1 1 rfl _ _ _ _ _ (by omega) (by omega), fon_fok, if_pos rfl]; exact d_bad rfl rfl (b_bad _ _ _ _ _ _ _ _ _ _ (by decide))
    rw [wt_ok 1 1 rfl _ _ _ _ _ c6 (by omega), fon_fok, if_neg (by decide)]
    dsimp only [mr_size, mr_pos, mr_kind, mr_whr, mr_gw, mr_gh, mr_one, mr_two, mr_three]
    rw [b_ok sb (by omega), fon_fok]
    have hb := bt_lt sb 13
    by_cases c7 : bt sb 13 ≤ 1
    case neg => rw [ch_ne sb _ _ (by omega) hn (by (simp (disch := omega) only [nI_toInt, Int32.lt_iff_toInt_lt, Int32.le_iff_toInt_le, ← Int32.toInt_inj, Int32.reduceToInt]; omega)) (by (simp (disch := omega) only [nI_toInt, Int32.lt_iff_toInt_lt, Int32.le_iff_toInt_le, ← Int32.toInt_inj, Int32.reduceToInt]; omega)), fon_fex, if_neg (by (simp (disch := omega) only [nI_toInt, Int32.lt_iff_toInt_lt, Int32.le_iff_toInt_le, ← Int32.toInt_inj, Int32.reduceToInt]; omega)), wr_eq, fon_fok, if_pos (Or.inl rfl)]; exact d_bad rfl rfl (b_bad _ _ _ _ _ _ _ _ _ _ (by decide))
    rw [ch_ok sb _ _ (by omega) hn (by rcases (by omega : bt sb 13 = 0 ∨ bt sb 13 = 1) with e | e <;> rw [e] <;> decide), fon_fok, if_pos (by (simp (disch := omega) only [nI_toInt, Int32.lt_iff_toInt_lt, Int32.le_iff_toInt_le, ← Int32.toInt_inj, Int32.reduceToInt]; omega)), show nI 13 + 1 = nI 14 from rfl, show 13 + 1 = 14 from rfl, q_reset]
    unfold F_X6_readChunks F_X6_start
    rw [fon_fok, ut_count rfl rfl, fon_fok]
    dsimp only [mr_gw, mr_gh, qo_f1, qo_f2, qo_f3, qo_last, qo_pl]
    rw [pk_mul]
    rcases q_chunks sb hn w3 (nI W) (nI H) (nI (bt sb 12)) (nI (bt sb 13)) (nI (bt sb 12)) (nI (bt sb 13)) qo.2.2.1 14 (x_p x) gt 255 (fillN qo.2.2.2.2 64 0) (fillN sp 64 0) (by omega) (fun i hi => by unfold fillN; rw [if_pos hi, if_pos hi]) with ⟨p, cc, px, gt2, v, pl, sp2, hp, r1, r2, hx⟩ | ⟨x2, sc, q2, mr, gt2, sp2, r1, r2, hbad⟩
    case inr => rw [r1, fon_fex, r2]; exact d_bad rfl rfl hbad
    rw [r1, fon_fok, r2]
    rcases q_tail sb hn (nI W, nI H, px) (nI (bt sb 12)) (nI (bt sb 13)) cc v pl gt2 sp2 (nI W) (nI H) (nI (bt sb 12)) (nI (bt sb 13)) cc p hp with ⟨t1, t2⟩ | ⟨sc, mr, t1, t2, hbad⟩
    · refine Or.inl ⟨W, H, px, _, _, _, _, _, by omega, by omega, w1, w2, w3, t1, t2, rfl, rfl, rfl, hx⟩
    · exact d_bad t1 t2 hbad
  by_cases c6 : nI (bt sb 12) = 3
  · rw [if_pos c6]; exact key (Or.inl c6)
  · rw [if_neg c6]
    by_cases c7 : nI (bt sb 12) = 4
    · rw [if_pos c7]; exact key (Or.inr c7)
    · rw [if_neg c7, ch_ne sb _ _ (by omega) hn c6 c7, fon_fex, wr_eq, fon_fok, if_pos (Or.inl rfl)]; exact d_bad rfl rfl (b_bad _ _ _ _ _ _ _ _ _ _ (by decide))
