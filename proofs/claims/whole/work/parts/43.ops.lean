theorem idx_lt {x y W H : Nat} (hx : x < W) (hy : y < H) : y * W + x < W * H := by
  have h1 : (y + 1) * W ≤ H * W := Nat.mul_le_mul_right W hy
  have h2 : (y + 1) * W = y * W + W := Nat.succ_mul y W
  rw [Nat.mul_comm W H]
  omega
theorem i_of {x : Int32} {n : Nat} (h : 0 ≤ x.toInt) (h2 : x.toInt < n) : ∃ j : Nat, j < n ∧ x = nI j := ⟨x.toInt.toNat, by omega, Int32.toInt_inj.mp (by rw [nI_toInt (by have := Int32.toInt_lt x; omega)]; omega)⟩
theorem ut_get {p : Nat} (h : p < 4096) (x : Ras) : F_X7_get (nI p) x = fok (x_p x p) () := by
  unfold F_X7_get
  rw [if_neg (by (simp (disch := omega) only [nI_toInt, Int32.lt_iff_toInt_lt, Int32.le_iff_toInt_le, ← Int32.toInt_inj, Int32.reduceToInt]; omega)), if_neg (by (simp (disch := omega) only [nI_toInt, Int32.lt_iff_toInt_lt, Int32.le_iff_toInt_le, ← Int32.toInt_inj, Int32.reduceToInt]; omega)), if_pos (inb_nI h (by omega)), nI_clamp (by omega)]
theorem ut_set {p : Nat} (h : p < 4096) (v : Int32) (x : Ras) : F_X7_set (nI p) v x = fok () (x_w x, x_g x, upd (x_p x) p v) := by
  unfold F_X7_set
  rw [if_neg (by (simp (disch := omega) only [nI_toInt, Int32.lt_iff_toInt_lt, Int32.le_iff_toInt_le, ← Int32.toInt_inj, Int32.reduceToInt]; omega)), if_neg (by (simp (disch := omega) only [nI_toInt, Int32.lt_iff_toInt_lt, Int32.le_iff_toInt_le, ← Int32.toInt_inj, Int32.reduceToInt]; omega)), if_pos (inb_nI h (by omega)), nI_clamp (by omega)]
theorem ut_count {x : Ras} {W H : Nat} (h1 : x_w x = nI W) (h2 : x_g x = nI H) : F_X7_count x = fok (nI (W * H)) () := by
  unfold F_X7_count
  rw [h1, h2, pk_mul]
/-- N cells of f from b on in dd -/
def blk (dd : A) (b N : Nat) (f : A) : A := fun q => if b ≤ q ∧ q < b + N then f (q - b) else dd q
theorem blk_0 (dd : A) (b : Nat) (f : A) : blk dd b 0 f = dd := by
  funext q; unfold blk; rw [if_neg (by omega)]
theorem blk_s (dd : A) (b j : Nat) (f : A) (v : Int32) (hv : v = f j) : upd (blk dd b j f) (b + j) v = blk dd b (j + 1) f := by
  subst hv
  funext q
  unfold upd blk
  by_cases c : q = b + j
  · subst c; rw [if_pos rfl, if_pos (by omega)]; congr 1; omega
  · rw [if_neg c]
    by_cases c2 : b ≤ q ∧ q < b + j
    · rw [if_pos c2, if_pos (by omega)]
    · rw [if_neg c2, if_neg (by omega)]
theorem blk_in {dd : A} {b N p : Nat} {f : A} (h : p < N) : blk dd b N f (b + p) = f p := by
  unfold blk; rw [if_pos (by omega)]; congr 1; omega
theorem blk_out {dd : A} {b N q : Nat} {f : A} (h : q < b ∨ b + N ≤ q) : blk dd b N f q = dd q := by
  unfold blk; rw [if_neg (by omega)]
theorem Pic_d {x : Ras} {w h : Int32} {d d2 : A} (hp : Pic x w h d) (e : ∀ p, p < 4096 → d p = d2 p) : Pic x w h d2 := by
  obtain ⟨W, H, a1, a2, a3, a4, a5, a6, a7, a8, a9⟩ := hp
  exact ⟨W, H, a1, a2, a3, a4, a5, a6, a7, a8, fun p hp => (a9 p hp).trans (e p (by omega))⟩
theorem RasI_set {q : Nat} {sh : Nat → Nat} {rr : Nat → Ras} {dd wi hi : A} (h : RasI q sh rr dd wi hi) {i : Nat} (hi4 : i < 4) {x2 : Ras} {dd2 wi2 hi2 : A} (h1 : ∀ j, j < 4 → j ≠ i → wi2 j = wi j ∧ hi2 j = hi j ∧ ∀ p, p < 4096 → dd2 (4096 * j + p) = dd (4096 * j + p)) (h2 : Pic x2 (wi2 i) (hi2 i) (fun p => dd2 (4096 * i + p))) : RasI q sh (va_up rr (sh i) x2) dd2 wi2 hi2 := by
  obtain ⟨a1, a2, a3, a4⟩ := h
  refine ⟨a1, a2, a3, fun j hj => ?_⟩
  by_cases c : j = i
  · subst c; rw [va_up_self]; exact h2
  · rw [va_up_ne _ _ (fun e => c (a3 j i hj hi4 e)), (h1 j hj c).1, (h1 j hj c).2.1]
    exact Pic_d (a4 j hj) (fun p hp => ((h1 j hj c).2.2 p hp).symm)
theorem shelf_no {a : Int32} (h : ¬ (0 ≤ a.toInt ∧ a.toInt < 4)) : F_X10_isShelf a = 0 ∧ F_X11_isShelf a = 0 := by
  unfold F_X10_isShelf F_X11_isShelf
  simp only [Int32.lt_iff_toInt_lt, Int32.le_iff_toInt_le, Int32.reduceToInt]
  by_cases c : a.toInt < 0
  · rw [if_pos c]; exact ⟨rfl, rfl⟩
  · rw [if_neg c, if_pos (by omega)]; exact ⟨rfl, rfl⟩
theorem shelf_yes {i : Nat} (h : i < 4) : F_X10_isShelf (nI i) = 1 ∧ F_X11_isShelf (nI i) = 1 := by
  unfold F_X10_isShelf F_X11_isShelf
  rw [if_neg (by (simp (disch := omega) only [nI_toInt, Int32.lt_iff_toInt_lt, Int32.le_iff_toInt_le, ← Int32.toInt_inj, Int32.reduceToInt]; omega)), if_neg (by (simp (disch := omega) only [nI_toInt, Int32.lt_iff_toInt_lt, Int32.le_iff_toInt_le, ← Int32.toInt_inj, Int32.reduceToInt]; omega))]
  exact ⟨rfl, rfl⟩
theorem shelf_c (a : Int32) : (F_X10_isShelf a = 0 ∧ F_X11_isShelf a = 0) ∨ ∃ i : Nat, i < 4 ∧ a = nI i ∧ F_X10_isShelf a = 1 ∧ F_X11_isShelf a = 1 := by
  by_cases c : 0 ≤ a.toInt ∧ a.toInt < 4
  · obtain ⟨i, hi, rfl⟩ := i_of (n := 4) c.1 (by omega)
    exact Or.inr ⟨i, hi, rfl, shelf_yes hi⟩
  · exact Or.inl (shelf_no c)
theorem has_no {a : Int32} (sh : Nat → Nat) (rr : Nat → Ras) (h : F_X10_isShelf a = 0) : F_X10_hasRaster a sh rr = fok 0 () := by
  unfold F_X10_hasRaster; rw [if_pos h]; rfl
theorem has_yes {i : Nat} (h : i < 4) {sh : Nat → Nat} {rr : Nat → Ras} (hr : isR (sh i)) {W : Nat} (hw : x_w (rr (sh i)) = nI W) (hW : W ≤ 4096) : F_X10_hasRaster (nI i) sh rr = fok (if W = 0 then 0 else 1) () := by
  unfold F_X10_hasRaster
  rw [(shelf_yes h).1, if_neg (by decide), if_pos (inb_nI h (by omega)), nI_clamp (by omega), if_pos hr]
  unfold F_X7_isEmpty
  rw [hw]
  by_cases c : W = 0
  · subst c; rw [if_pos (show nI 0 = 0 from rfl), if_pos rfl, fon_fok, if_neg (by decide)]; rfl
  · rw [if_neg (nI_ne0 (by omega) (by omega)), if_neg c, fon_fok, if_pos rfl]
theorem ut_many {i W H : Nat} {wi hi : A} (h : i < 4) (h1 : wi i = nI W) (h2 : hi i = nI H) : F_X11_many (nI i) wi hi = fok (nI (W * H)) () := by
  unfold F_X11_many
  rw [if_pos (inb_nI h (by omega)), if_pos (inb_nI h (by omega)), nI_clamp (by omega), h1, h2, pk_mul]
theorem ix_dd (i p : Nat) : (4096 : Int32) * nI i + nI p = nI (4096 * i + p) := by
  rw [show (4096 : Int32) = nI 4096 from rfl, pk_mul, nI_add]
theorem ut_rowat {k n : Nat} (f : A) (h : k < n) (hn : n ≤ 65536) : F_X1_at (nI k) (nI n, f) = fok (f k &&& 255) () := by
  unfold F_X1_at
  dsimp only [y_n, y_b]
  rw [if_neg (by (simp (disch := omega) only [nI_toInt, Int32.lt_iff_toInt_lt, Int32.le_iff_toInt_le, ← Int32.toInt_inj, Int32.reduceToInt]; omega)), if_neg (by (simp (disch := omega) only [nI_toInt, Int32.lt_iff_toInt_lt, Int32.le_iff_toInt_le, ← Int32.toInt_inj, Int32.reduceToInt]; omega)), if_pos (inb_nI (by omega) (by omega)), nI_clamp (by omega)]
theorem ut_rowat0 {k n : Nat} (f : A) (h : n ≤ k) (hn : k < 2 ^ 31) : F_X1_at (nI k) (nI n, f) = fok (-1) () := by
  unfold F_X1_at F_X1_at_25
  dsimp only [y_n, y_b]
  rw [if_neg (by (simp (disch := omega) only [nI_toInt, Int32.lt_iff_toInt_lt, Int32.le_iff_toInt_le, ← Int32.toInt_inj, Int32.reduceToInt]; omega)), if_pos (by (simp (disch := omega) only [nI_toInt, Int32.lt_iff_toInt_lt, Int32.le_iff_toInt_le, ← Int32.toInt_inj, Int32.reduceToInt]; omega))]
theorem i_out {x : Int32} {n : Nat} (h : ¬ (0 ≤ x.toInt ∧ x.toInt < n)) (hn : n < 2 ^ 31) : x < 0 ∨ ¬ x < 0 ∧ nI n ≤ x ∧ ¬ x < nI n := by
  simp (disch := omega) only [nI_toInt, Int32.lt_iff_toInt_lt, Int32.le_iff_toInt_le, Int32.reduceToInt]
  omega
theorem inv_byteAt : S_byteAt Inv := by
  intro m0 sh rr ww so sc pl qo pn bm tg px fa mo mw mr ms mt mu dd wi hi gt sp ta li sr co h x1
  obtain ⟨h1, ⟨hT, ⟨k, hk, d1, d2, hO⟩, hf, hg⟩, h3⟩ := h
  obtain ⟨om, ho, cm⟩ := mw
  dsimp only [mw_om, mw_ho] at d2 hO
  subst d2
  by_cases c : 0 ≤ x1.toInt ∧ x1.toInt < k
  · obtain ⟨j, hj, rfl⟩ := i_of c.1 c.2
    have ho1 : ho = 1 := by rcases hO with ⟨_, e⟩ | ⟨e, _⟩; omega; exact e
    subst ho1
    refine ⟨mu j &&& 255, (), ((mo_taped mo), 0, (mo_tf mo), (mo_t1 mo), (mo_t2 mo), (mo_t3 mo), (mo_fp mo)), ?_, ?_, h1, ⟨hT, ⟨k, hk, d1, rfl, hO⟩, hf, hg⟩, h3⟩
    · unfold F_X10_byteAt
      rw [d1, ut_rowat _ hj hk, fon_fok]
    · unfold F_X11_byteAt
      dsimp only [mw_om, mw_ho]
      rw [if_neg (by decide), if_neg (by (simp (disch := omega) only [nI_toInt, Int32.lt_iff_toInt_lt, Int32.le_iff_toInt_le, ← Int32.toInt_inj, Int32.reduceToInt]; omega)), if_neg (by (simp (disch := omega) only [nI_toInt, Int32.lt_iff_toInt_lt, Int32.le_iff_toInt_le, ← Int32.toInt_inj, Int32.reduceToInt]; omega)), if_pos (inb_nI (by omega) (by omega)), nI_clamp (by omega)]
  · refine ⟨-1, (), ((mo_taped mo), 0, (mo_tf mo), (mo_t1 mo), (mo_t2 mo), (mo_t3 mo), (mo_fp mo)), ?_, ?_, h1, ⟨hT, ⟨k, hk, d1, rfl, hO⟩, hf, hg⟩, h3⟩
    · unfold F_X10_byteAt F_X1_at F_X1_at_25
      rw [d1]
      dsimp only [y_n]
      rcases i_out c (by omega) with c1 | ⟨c1, c2, _⟩
      · rw [if_pos c1, fon_fok]
      · rw [if_neg c1, if_pos c2, fon_fok]
    · unfold F_X11_byteAt F_X11_byteAt_37
      dsimp only [mw_om, mw_ho]
      by_cases c0 : ho = 0
      · rw [if_pos c0]
      · rw [if_neg c0]
        rcases i_out c (by omega) with c1 | ⟨c1, c2, _⟩
        · rw [if_pos c1]
        · rw [if_neg c1, if_pos c2]
theorem ut_bytes (i k : Nat) (hk : k ≤ 65536) (hi : i < k) (mu : A) (a b : Int32) (mo : MO) (ww : Nat → Row) (d1 : ww 14 = (nI k, mu)) : ∃ z : Int64, lp (fun _ _ _ => fno) (F_X10_bytes_30 ww) FU (nI i) 0 0 = fok z () ∧ lp (fun _ _ _ _ => fno) (F_X11_bytes_36 (nI k, a, b) mu) FU (nI i) 0 0 mo = fok z mo := by
  have q := lp_D (z := fun _ _ _ => fno) (f := F_X10_bytes_30 ww) (z2 := fun _ _ _ _ => fno) (f2 := F_X11_bytes_36 (nI k, a, b) mu) (fun m k1 k2 => ∀ j v, j + m = 8 → ∃ z : Int64, k1 (nI i) v (nI j) = fok z () ∧ k2 (nI i) v (nI j) mo = fok z mo) ?_ 8 (by omega)
  · exact q 0 0 (by omega)
  · intro m k1 k2 ih j v hj
    dsimp only [F_X10_bytes_30, F_X11_bytes_36, mw_om]
    by_cases c : m = 0
    · rw [if_pos (by (simp (disch := omega) only [nI_toInt, Int32.lt_iff_toInt_lt, Int32.le_iff_toInt_le, ← Int32.toInt_inj, Int32.reduceToInt]; omega)), if_pos (by (simp (disch := omega) only [nI_toInt, Int32.lt_iff_toInt_lt, Int32.le_iff_toInt_le, ← Int32.toInt_inj, Int32.reduceToInt]; omega))]
      exact ⟨v, rfl, rfl⟩
    · rw [if_neg (by (simp (disch := omega) only [nI_toInt, Int32.lt_iff_toInt_lt, Int32.le_iff_toInt_le, ← Int32.toInt_inj, Int32.reduceToInt]; omega)), if_neg (by (simp (disch := omega) only [nI_toInt, Int32.lt_iff_toInt_lt, Int32.le_iff_toInt_le, ← Int32.toInt_inj, Int32.reduceToInt]; omega)), nI_add, d1]
      by_cases c2 : i + j < k
      · rw [ut_rowat _ c2 hk, fon_fok, if_neg (nI_ge (by omega) (by omega)), if_pos (inb_nI (by omega) (by omega)), nI_clamp (by omega)]
        obtain ⟨y, hy, ey⟩ := pk_andE (mu (i + j)) (m := 255) 8 rfl
        rw [ey, if_neg (by (simp (disch := omega) only [nI_toInt, Int32.lt_iff_toInt_lt, Int32.le_iff_toInt_le, ← Int32.toInt_inj, Int32.reduceToInt]; omega))]
        unfold F_X10_bytes_66 F_X11_bytes_75
        rw [nI_1]
        exact ih (m - 1) (by omega) (j + 1) _ (by omega)
      · rw [ut_rowat0 _ (by omega) (by omega), fon_fok, if_pos (nI_le (by omega) (by omega)), if_pos rfl]
        unfold F_X10_bytes_66 F_X11_bytes_75
        rw [nI_1]
        exact ih (m - 1) (by omega) (j + 1) _ (by omega)
theorem inv_bytes : S_bytes Inv := by
  intro m0 sh rr ww so sc pl qo pn bm tg px fa mo mw mr ms mt mu dd wi hi gt sp ta li sr co h x1
  obtain ⟨h1, ⟨hT, ⟨k, hk, d1, d2, hO⟩, hf, hg⟩, h3⟩ := h
  obtain ⟨om, ho, cm⟩ := mw
  dsimp only [mw_om, mw_ho] at d2 hO
  subst d2
  by_cases c : 0 ≤ x1.toInt ∧ x1.toInt < k
  · obtain ⟨j, hj, rfl⟩ := i_of c.1 c.2
    have ho1 : ho = 1 := by rcases hO with ⟨_, e⟩ | ⟨e, _⟩; omega; exact e
    subst ho1
    obtain ⟨z, z1, z2⟩ := ut_bytes j k hk hj mu 1 cm ((mo_taped mo), 0, (mo_tf mo), (mo_t1 mo), (mo_t2 mo), (mo_t3 mo), (mo_fp mo)) ww d1
    refine ⟨z, ((mo_taped mo), 0, (mo_tf mo), (mo_t1 mo), (mo_t2 mo), (mo_t3 mo), (mo_fp mo)), ?_, Or.inl ⟨(), ?_, rfl, h1, ⟨hT, ⟨k, hk, d1, rfl, hO⟩, hf, hg⟩, h3⟩⟩
    · unfold F_X11_bytes
      dsimp only [mw_om, mw_ho]
      rw [if_neg (by decide), if_neg (by (simp (disch := omega) only [nI_toInt, Int32.lt_iff_toInt_lt, Int32.le_iff_toInt_le, ← Int32.toInt_inj, Int32.reduceToInt]; omega)), if_pos (nI_lt (by omega) (by omega))]
      exact z2
    · unfold F_X10_bytes
      rw [if_neg (by (simp (disch := omega) only [nI_toInt, Int32.lt_iff_toInt_lt, Int32.le_iff_toInt_le, ← Int32.toInt_inj, Int32.reduceToInt]; omega)), d1]
      dsimp only [y_n]
      rw [if_pos (nI_lt (by omega) (by omega))]
      exact z1
  · refine ⟨0, ((mo_taped mo), 1, (mo_tf mo), (mo_t1 mo), (mo_t2 mo), (mo_t3 mo), (mo_fp mo)), ?_, Or.inr ⟨(), ?_, rfl, h1, ⟨hT, ⟨k, hk, d1, rfl, hO⟩, hf, hg⟩, h3⟩⟩
    · unfold F_X11_bytes F_X11_bytes_24
      dsimp only [mw_om, mw_ho]
      by_cases c0 : ho = 0
      · rw [if_pos c0]
      · rw [if_neg c0]
        rcases i_out c (by omega) with c1 | ⟨c1, _, c2⟩
        · rw [if_pos c1]
        · rw [if_neg c1, if_neg c2]
    · unfold F_X10_bytes F_X10_bytes_15
      rw [d1]
      dsimp only [y_n]
      rcases i_out c (by omega) with c1 | ⟨c1, _, c2⟩
      · rw [if_pos c1]
      · rw [if_neg c1, if_neg c2]
