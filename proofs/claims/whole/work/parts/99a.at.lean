/-- the bytes of a list lie from a place on -/
def Ba (sb : A) (p : Nat) (l : List Nat) : Prop := ∀ j, j < l.length → bt sb (p + j) = l.getD j 0 % 256
theorem Ba_0 (f : A) (L : List Nat) : Ba (ap f L) 0 L := fun j hj => by rw [Nat.zero_add]; exact bt_ap hj
theorem Ba_l {sb : A} {p : Nat} {l m : List Nat} (h : Ba sb p (l ++ m)) : Ba sb p l := fun j hj => by
  rw [h j (by rw [List.length_append]; omega), gd_l hj]
theorem Ba_r {sb : A} {p : Nat} {l m : List Nat} (h : Ba sb p (l ++ m)) : Ba sb (p + l.length) m := fun j hj => by
  rw [Nat.add_assoc, h (l.length + j) (by rw [List.length_append]; omega), gd_r]
theorem Ba_g {sb : A} {p : Nat} {l : List Nat} (h : Ba sb p l) (j : Nat) {q v : Nat} (hq : q = p + j) (hj : j < l.length) (e : l.getD j 0 = v) (hv : v < 256) : bt sb q = v := by
  rw [hq, h j hj, e, Nat.mod_eq_of_lt hv]
theorem Ba_c {sb : A} {p x : Nat} {l : List Nat} (h : Ba sb p (x :: l)) : bt sb p = x % 256 ∧ Ba sb (p + 1) l := by
  refine ⟨?_, ?_⟩
  · have := h 0 (by simp)
    exact this
  · exact Ba_r (l := [x]) h
theorem ly_ok {W H : Nat} (hW : W ≤ 4096) (hH : H ≤ 4096) (hT : W * H ≤ 4096) (n p : Nat) (w : Int32) (x : Ras) : F_X8_lay (lN W) (lN H) w x (Sr n p) = fok () ((nI W, nI H, x_p x), Sr n p) := by
  unfold F_X8_lay
  rw [ut_tooL (by omega) (by omega), lN_i, lN_i, if_neg (c := 4096 < W ∨ 4096 < H ∨ 4096 < W * H) (by omega), if_pos rfl]
theorem rgo_ge (N : Nat) (d : A) (u : Int32) (p : Nat) : ∀ k r, r ≤ rgo N d u p k r
  | 0, r => Nat.le_refl _
  | k + 1, r => by
    have e : rgo N d u p (k + 1) r = if 62 ≤ r ∨ N ≤ p + r then r else if d (p + r) = u then rgo N d u p k (r + 1) else r := rfl
    rw [e]
    split
    · exact Nat.le_refl _
    · split
      · have := rgo_ge N d u p k (r + 1); omega
      · exact Nat.le_refl _
theorem qrn_pos {N : Nat} {d : A} {u : Int32} {p : Nat} (h : p < N) (e : d p = u) : 0 < qrn N d u p := by
  have e2 : qrn N d u p = if 62 ≤ 0 ∨ N ≤ p + 0 then 0 else if d (p + 0) = u then rgo N d u p 62 (0 + 1) else 0 := rfl
  rw [e2, if_neg (by omega), if_pos (by rw [Nat.add_zero]; exact e)]
  have := rgo_ge N d u p 62 (0 + 1)
  omega
theorem q_acc {n N : Nat} (sb : A) (hn : n ≤ 65536) (hN : N ≤ 4096) (D : A) (w g f1 f2 f3 : Int32) (p0 : Nat) (u0 v0 : Int32) (pw0 px0 pl0 : A) (hA : Ba sb p0 (qL N D N 0 u0 pw0)) (hl : p0 + (qL N D N 0 u0 pw0).length ≤ n) :
    ∃ c2 px2 v2 pl2, lp (fun _ _ _ _ _ _ _ => fno) (F_X6_readChunks_21 sb) FU 0 (-1) (nI N) 0 (w, g, px0) (Sr n p0) (f1, f2, f3, v0, pl0) = fok c2 ((w, g, px2), Sr n (p0 + (qL N D N 0 u0 pw0).length), (f1, f2, f3, v2, pl2)) := by
  have q := lp_M (z := fun _ _ _ _ _ _ _ => fno) (f := F_X6_readChunks_21 sb) (fun m k1 => ∀ (fu p d : Nat) (u : Int32) (pw : A) (c b v : Int32) (px pl : A), d + m = N → m ≤ fu → Ba sb p (qL N D fu d u pw) → p + (qL N D fu d u pw).length ≤ n → (∀ y, y < 64 → b = nI y → pw y = u) → ∃ c2 px2 v2 pl2, k1 c b (nI N) (nI d) (w, g, px) (Sr n p) (f1, f2, f3, v, pl) = fok c2 ((w, g, px2), Sr n (p + (qL N D fu d u pw).length), (f1, f2, f3, v2, pl2))) ?_ N (by omega)
  · exact q N p0 0 u0 pw0 0 (-1) v0 px0 pl0 (by omega) (by omega) hA hl (fun y hy e => by
      have := congrArg Int32.toInt e
      rw [nI_toInt (by omega)] at this
      exact absurd this (by first | (simp; done) | (simp; omega)))
  · intro m k1 ih fu p d u pw c b v px pl hd hf hat hle hb
    unfold F_X6_readChunks_21
    by_cases c0 : m = 0
    · have : d = N := by omega
      subst this
      rw [if_pos (Int32.le_refl _), qL_0 (Nat.le_refl _)]
      exact ⟨_, _, _, _, rfl⟩
    obtain ⟨k2, rfl⟩ : ∃ k2, fu = k2 + 1 := ⟨fu - 1, by omega⟩
    have hq := qrn_b (N := N) (d := D) (u := u) (p := d) (by omega)
    have e : qL N D (k2 + 1) d u pw = if N ≤ d then [] else if 0 < qrn N D u d then (191 + qrn N D u d) :: qL N D k2 (d + qrn N D u d) u (upd pw (hm u) u) else (if pw (hm (D d)) = D d then [hm (D d)] else qch u (D d)) ++ qL N D k2 (d + 1) (D d) (upd pw (hm (D d)) (D d)) := rfl
    rw [e, if_neg (c := N ≤ d) (by omega)] at hat hle ⊢
    have go : ∀ (t p2 y : Nat) (v2 : Int32) (u' : Int32) (pw' : A) (l : List Nat), 1 ≤ t → d + t ≤ N → Ba sb p2 (qL N D k2 (d + t) u' pw') → p2 + (qL N D k2 (d + t) u' pw').length ≤ n → p2 = p + l.length → y < 256 → (y < 64 → pw' y = u') → ∃ c2 px2 v3 pl2, lp (fun _ _ _ _ _ _ _ _ _ => fno) (F_X6_readChunks_114 sb k1) FU c (nI t) (nI N) (nI d) (nI y) 0 (w, g, px) (Sr n p2) (f1, f2, f3, v2, pl) = fok c2 ((w, g, px2), Sr n (p + (l ++ qL N D k2 (d + t) u' pw').length), (f1, f2, f3, v3, pl2)) := by
      intro t p2 y v2 u' pw' l h1 h2 h3 h4 h5 h6 h7
      rw [c114 sb h2 hN, List.length_append, ← Nat.add_assoc, ← h5]
      exact ih (N - (d + t)) (by omega) k2 p2 (d + t) u' pw' (c + 1) (nI y) v2 _ _ (by omega) (by omega) h3 h4 (fun z hz ez => by
        have : y = z := (nI_inj (by omega) (by omega)).mp ez
        subst this
        exact h7 hz)
    have hlen : 1 ≤ (if 0 < qrn N D u d then (191 + qrn N D u d) :: qL N D k2 (d + qrn N D u d) u (upd pw (hm u) u) else (if pw (hm (D d)) = D d then [hm (D d)] else qch u (D d)) ++ qL N D k2 (d + 1) (D d) (upd pw (hm (D d)) (D d))).length := by
      split
      · simp
      · rw [List.length_append]
        split
        · first | (simp; done) | (simp; omega)
        · rename_i c2
          obtain ⟨l, l1, l2, _, _, _, el⟩ := chunk_eq (f := fun _ => 0) (L := []) u (D d) 0 0 0 0 0 pw c2 (by simp)
          rw [← el]; omega
    rw [if_neg (nI_ge (by omega) (by omega)), nx_ok sb (by omega) hn, fon_fok]
    unfold F_X6_readChunks_66
    by_cases c1 : 0 < qrn N D u d
    · rw [if_pos c1] at hat hle ⊢
      obtain ⟨hy, hat2⟩ := Ba_c hat
      rw [List.length_cons] at hle
      generalize hr : qrn N D u d = r at *
      rw [Nat.mod_eq_of_lt (by omega)] at hy
      rw [hy, if_neg (c := nI (191 + r) < 192) (by (simp (disch := omega) only [nI_toInt, Int32.lt_iff_toInt_lt, Int32.le_iff_toInt_le, ← Int32.toInt_inj, Int32.reduceToInt]; omega)), if_neg (c := 254 ≤ nI (191 + r)) (by (simp (disch := omega) only [nI_toInt, Int32.lt_iff_toInt_lt, Int32.le_iff_toInt_le, ← Int32.toInt_inj, Int32.reduceToInt]; omega)), pk_andN (by omega) (m := 63) 6 rfl, nI_1]
      unfold F_X6_readChunks_67 F_X6_readChunks_100
      rw [pk_sub (by omega), if_neg (nI_nlt (by omega) (by omega)), if_pos (c := 64 ≤ nI (191 + r)) (by (simp (disch := omega) only [nI_toInt, Int32.lt_iff_toInt_lt, Int32.le_iff_toInt_le, ← Int32.toInt_inj, Int32.reduceToInt]; omega)), rp_run sb _ (by omega) (by omega), fon_fok, show (191 + r) % 2 ^ 6 + 1 = r from by omega]
      exact go r (p + 1) (191 + r) v u (upd pw (hm u) u) [191 + r] c1 (by omega) hat2 (by omega) rfl (by omega) (by omega)
    · rw [if_neg c1] at hat hle ⊢
      have hh := hm_lt (D d)
      have hat2 := Ba_r hat
      rw [List.length_append] at hle
      by_cases c2 : pw (hm (D d)) = D d
      · rw [if_pos c2] at hat hat2 hle ⊢
        have hy : bt sb p = hm (D d) := Ba_g hat 0 rfl (by simp) rfl (by omega)
        rw [hy, if_pos (c := nI (hm (D d)) < 192) (by (simp (disch := omega) only [nI_toInt, Int32.lt_iff_toInt_lt, Int32.le_iff_toInt_le, ← Int32.toInt_inj, Int32.reduceToInt]; omega))]
        unfold F_X6_readChunks_67 F_X6_readChunks_100
        rw [pk_sub (by omega), if_neg (c := nI (N - d) < 1) (by (simp (disch := omega) only [nI_toInt, Int32.lt_iff_toInt_lt, Int32.le_iff_toInt_le, ← Int32.toInt_inj, Int32.reduceToInt]; omega)), if_neg (c := 64 ≤ nI (hm (D d))) (by (simp (disch := omega) only [nI_toInt, Int32.lt_iff_toInt_lt, Int32.le_iff_toInt_le, ← Int32.toInt_inj, Int32.reduceToInt]; omega)), if_neg (fun eb => by
          have h1 := hb (hm (D d)) hh eb.symm
          exact c1 (qrn_pos (by omega) (c2.symm.trans h1))), rp_idx sb _ hh, fon_fok]
        exact go 1 (p + 1) (hm (D d)) _ (D d) (upd pw (hm (D d)) (D d)) [hm (D d)] (by omega) (by omega) hat2 (by rw [List.length_singleton] at hle; omega) rfl (by omega) (fun _ => by rw [pk_us])
      · rw [if_neg c2] at hat hat2 hle ⊢
        obtain ⟨l, l1, l2, _, _, lc, el⟩ := chunk_eq (f := fun _ => 0) (L := []) u (D d) 0 0 0 0 0 pw c2 (by simp)
        rw [← el] at hat hat2 hle ⊢
        have hy := Ba_l hat 0 (by omega)
        rw [Nat.add_zero] at hy
        rcases lc with ⟨h5, h6⟩ | ⟨h5, h6⟩ | ⟨h5, h6, h7⟩ | ⟨h5, h6, h7⟩
        · rw [h6] at hy
          rw [hy, show 255 % 256 = 255 from rfl, if_neg (c := nI 255 < 192) (by decide), if_pos (c := 254 ≤ nI 255) (by decide)]
          unfold F_X6_readChunks_67 F_X6_readChunks_100
          rw [pk_sub (by omega), if_neg (c := nI (N - d) < 1) (by (simp (disch := omega) only [nI_toInt, Int32.lt_iff_toInt_lt, Int32.le_iff_toInt_le, ← Int32.toInt_inj, Int32.reduceToInt]; omega)), if_pos (c := 64 ≤ nI 255) (by decide), show nI 255 = 255 from rfl, rp_rgba sb (by omega) hn, if_pos (by omega), fon_fok]
          exact go 1 (p + 1 + 4) 255 _ (D d) (upd pw (hm (D d)) (D d)) l (by omega) (by omega) (by rw [h5] at hat2; exact hat2) (by omega) (by omega) (by omega) (by omega)
        · rw [h6] at hy
          rw [hy, show 254 % 256 = 254 from rfl, if_neg (c := nI 254 < 192) (by decide), if_pos (c := 254 ≤ nI 254) (by decide)]
          unfold F_X6_readChunks_67 F_X6_readChunks_100
          rw [pk_sub (by omega), if_neg (c := nI (N - d) < 1) (by (simp (disch := omega) only [nI_toInt, Int32.lt_iff_toInt_lt, Int32.le_iff_toInt_le, ← Int32.toInt_inj, Int32.reduceToInt]; omega)), if_pos (c := 64 ≤ nI 254) (by decide), show nI 254 = 254 from rfl, rp_rgb sb (by omega) hn, if_pos (by omega), fon_fok]
          exact go 1 (p + 1 + 3) 254 _ (D d) (upd pw (hm (D d)) (D d)) l (by omega) (by omega) (by rw [h5] at hat2; exact hat2) (by omega) (by omega) (by omega) (by omega)
        · rw [Nat.mod_eq_of_lt (by omega)] at hy
          generalize l.getD 0 0 = y at *
          rw [hy, if_pos (c := nI y < 192) (by (simp (disch := omega) only [nI_toInt, Int32.lt_iff_toInt_lt, Int32.le_iff_toInt_le, ← Int32.toInt_inj, Int32.reduceToInt]; omega))]
          unfold F_X6_readChunks_67 F_X6_readChunks_100
          rw [pk_sub (by omega), if_neg (c := nI (N - d) < 1) (by (simp (disch := omega) only [nI_toInt, Int32.lt_iff_toInt_lt, Int32.le_iff_toInt_le, ← Int32.toInt_inj, Int32.reduceToInt]; omega)), if_pos (c := 64 ≤ nI y) (by (simp (disch := omega) only [nI_toInt, Int32.lt_iff_toInt_lt, Int32.le_iff_toInt_le, ← Int32.toInt_inj, Int32.reduceToInt]; omega)), rp_diff sb _ h6 h7, fon_fok]
          exact go 1 (p + 1) y _ (D d) (upd pw (hm (D d)) (D d)) l (by omega) (by omega) (by rw [h5] at hat2; exact hat2) (by omega) (by omega) (by omega) (by omega)
        · rw [Nat.mod_eq_of_lt (by omega)] at hy
          generalize l.getD 0 0 = y at *
          rw [hy, if_pos (c := nI y < 192) (by (simp (disch := omega) only [nI_toInt, Int32.lt_iff_toInt_lt, Int32.le_iff_toInt_le, ← Int32.toInt_inj, Int32.reduceToInt]; omega))]
          unfold F_X6_readChunks_67 F_X6_readChunks_100
          rw [pk_sub (by omega), if_neg (c := nI (N - d) < 1) (by (simp (disch := omega) only [nI_toInt, Int32.lt_iff_toInt_lt, Int32.le_iff_toInt_le, ← Int32.toInt_inj, Int32.reduceToInt]; omega)), if_pos (c := 64 ≤ nI y) (by (simp (disch := omega) only [nI_toInt, Int32.lt_iff_toInt_lt, Int32.le_iff_toInt_le, ← Int32.toInt_inj, Int32.reduceToInt]; omega)), rp_luma sb (by omega) hn h6 h7, if_pos (by omega), fon_fok]
          exact go 1 (p + 1 + 1) y _ (D d) (upd pw (hm (D d)) (D d)) l (by omega) (by omega) (by rw [h5] at hat2; exact hat2) (by omega) (by omega) (by omega) (by omega)
theorem Ba_e {sb : A} {p q : Nat} {l : List Nat} (h : Ba sb p l) (e : p = q) : Ba sb q l := e ▸ h
