theorem a_colour {W H pl : Nat} (hpl : pl = 1 ∨ pl = 3) (hT : W * H ≤ 4096) (px0 col : A) (f1 f2 f3 ver per st : Int32) : ∃ px2, F_X4_colour (nI W, nI H, px0) (f1, f2, f3, ver, nI 8, per, nI pl, st, col) = fok () (nI W, nI H, px2) := by
  unfold F_X4_colour
  rw [ut_count rfl rfl, fon_fok]
  have q := lp_M (z := fun _ _ _ => fno) (f := F_X4_colour_7 (f1, f2, f3, ver, nI 8, per, nI pl, st, col)) (fun m k => ∀ (j : Nat) (px : A), j + m = W * H → ∃ px2, k (nI (W * H)) (nI j) (nI W, nI H, px) = fok () (nI W, nI H, px2)) ?_ (W * H) (by omega)
  · exact q 0 px0 (by omega)
  · intro m k ih j px hj
    unfold F_X4_colour_7 F_X4_colour_74 F_X4_colour_110 F_X4_colour_126
    dsimp only [px_bits, px_planes, px_col]
    by_cases c0 : m = 0
    · have : j = W * H := by omega
      subst this
      rw [if_pos (Int32.le_refl _)]
      exact ⟨_, rfl⟩
    rw [if_neg (nI_ge (by omega) (by omega)), ut_get (by omega), fon_fok, if_pos (c := nI 8 = 8) rfl]
    rcases hpl with rfl | rfl
    · rw [if_neg (c := nI 1 = 3) (by decide), if_neg (c := nI 8 = 1) (by decide), pk_and _ (m := 255) 8 rfl, if_pos (inb_nI (by omega) (by omega)), ut_set (by omega), fon_fok, nI_1]
      exact ih (m - 1) (by omega) (j + 1) _ (by omega)
    · rw [if_pos (c := nI 3 = 3) rfl, ut_set (by omega), fon_fok, nI_1]
      exact ih (m - 1) (by omega) (j + 1) _ (by omega)
theorem a_122 {n W H pl : Nat} (sb : A) (hpl : pl = 1 ∨ pl = 3) (hT : W * H ≤ 4096) (px0 col : A) (f1 f2 f3 ver per st : Int32) : ∃ s, F_X4_decode_122 sb (nI W, nI H, px0) (Sr n n) (f1, f2, f3, ver, nI 8, per, nI pl, st, col) = fok () s := by
  unfold F_X4_decode_122
  obtain ⟨px2, e⟩ := a_colour hpl hT px0 col f1 f2 f3 ver per st
  rw [end_ok, fon_fok, e, fon_fok]
  exact ⟨_, rfl⟩
theorem a_pcx {pl W H : Nat} {l : List Int32} (hpl : pl = 1 ∨ pl = 3) (d f : A) (hl : pl = 1 → l.length ≤ 256 ∧ l.Nodup ∧ ∀ p, p < W * H → d p ∈ l) (hW1 : 1 ≤ W) (hH1 : 1 ≤ H) (hW : W ≤ 4096) (hH : H ≤ 4096) (hT : W * H ≤ 4096) (x : Ras) (px : Pcx) : ∃ s, F_X4_decode x (Sr (pcL pl W H l d).length 0) (ap f (pcL pl W H l d)) px = fok () s := by
  obtain ⟨f1, f2, f3, ve, bi, per, pn, st, col⟩ := px
  have hat := Ba_0 f (pcL pl W H l d)
  have hR := rwP_le hpl hH hT l d
  have hTl := tbP_len l
  have hlen : (pcL pl W H l d).length = 128 + (rwP pl W H l d).length + (if pl = 1 then 769 else 0) := by
    unfold pcL
    rw [List.length_append, List.length_append, pcH_len]
    by_cases c : pl = 1
    · rw [if_pos c, if_pos c, hTl]
    · rw [if_neg c, if_neg c]; rfl
  have hS : W ≤ stP W ∧ stP W ≤ 4098 ∧ stP W % 2 = 0 := by unfold stP; omega
  generalize (pcL pl W H l d).length = n at *
  generalize ap f (pcL pl W H l d) = sb at *
  have hn : n ≤ 65536 := by
    have : (if pl = 1 then 769 else 0) ≤ 769 := by split <;> omega
    omega
  unfold pcL at hat
  have aH := Ba_l (Ba_l hat)
  have aR := Ba_r (Ba_l hat)
  have aT := Ba_r hat
  rw [List.length_append, pcH_len, Nat.zero_add] at aT
  rw [pcH_len, Nat.zero_add] at aR
  have hHl : (pcH pl W H).length = 128 := pcH_len pl W H
  have g0 : bt sb 0 = 10 := Ba_g aH 0 rfl (by omega) rfl (by omega)
  have g1 : bt sb 1 = 5 := Ba_g aH 1 rfl (by omega) rfl (by omega)
  have g2 : bt sb 2 = 1 := Ba_g aH 2 rfl (by omega) rfl (by omega)
  have g3 : bt sb 3 = 8 := Ba_g aH 3 rfl (by omega) rfl (by omega)
  have g4 : bt sb 4 = 0 := Ba_g aH 4 rfl (by omega) rfl (by omega)
  have g5 : bt sb 5 = 0 := Ba_g aH 5 rfl (by omega) rfl (by omega)
  have g6 : bt sb 6 = 0 := Ba_g aH 6 rfl (by omega) rfl (by omega)
  have g7 : bt sb 7 = 0 := Ba_g aH 7 rfl (by omega) rfl (by omega)
  have g8 : bt sb 8 = ch (nI (W - 1)) 0 := Ba_g aH 8 rfl (by omega) rfl (ch_lt _ _)
  have g9 : bt sb 9 = ch (nI (W - 1)) 8 := Ba_g aH 9 rfl (by omega) rfl (ch_lt _ _)
  have g10 : bt sb 10 = ch (nI (H - 1)) 0 := Ba_g aH 10 rfl (by omega) rfl (ch_lt _ _)
  have g11 : bt sb 11 = ch (nI (H - 1)) 8 := Ba_g aH 11 rfl (by omega) rfl (ch_lt _ _)
  have g65 : bt sb 65 = pl := Ba_g aH 65 rfl (by omega) rfl (by omega)
  have g66 : bt sb 66 = ch (nI (stP W)) 0 := Ba_g aH 66 rfl (by omega) rfl (ch_lt _ _)
  have g67 : bt sb 67 = ch (nI (stP W)) 8 := Ba_g aH 67 rfl (by omega) rfl (ch_lt _ _)
  have l2v : ∀ v : Nat, v < 65536 → ch (nI v) 8 * 256 + ch (nI v) 0 = v := by
    intro v hv
    unfold ch
    rw [pk_tn (by omega)]
    omega
  have e4 : L2 sb 4 = 0 := by unfold L2; rw [g4, g5]
  have e6 : L2 sb 6 = 0 := by unfold L2; rw [g6, g7]
  have e8 : L2 sb 8 = W - 1 := by unfold L2; rw [g8, g9, l2v _ (by omega)]
  have e10 : L2 sb 10 = H - 1 := by unfold L2; rw [g10, g11, l2v _ (by omega)]
  have e66 : L2 sb 66 = stP W := by unfold L2; rw [g66, g67, l2v _ (by omega)]
  have hs : ∀ y i u, y < H → smp pl W l d y i u < 256 := fun y i u hy => smp_lt (N := W * H) (P := pl) (W := W) (l := l) (d := d) hl y i u (fun hu => idx_lt hu hy)
  have hSz : F_X4_readSize x (Sr n 4) sb = fok () ((nI W, nI H, x_p x), Sr n 12) := by
    unfold F_X4_readSize
    rw [low2_ok sb (by omega) hn, fon_fok, low2_ok sb (by omega) hn, fon_fok, low2_ok sb (by omega) hn, fon_fok, e4, show L2 sb (4 + 2) = 0 from e6, show L2 sb (4 + 2 + 2) = W - 1 from e8, if_pos (nI_le (by omega) (by omega)), low2_ok sb (by omega) hn, fon_fok, show L2 sb (4 + 2 + 2 + 2) = H - 1 from e10, if_pos (nI_le (by omega) (by omega)), pk_sub (by omega), pk_sub (by omega), nI_1, nI_1, show W - 1 - 0 + 1 = W from by omega, show H - 1 - 0 + 1 = H from by omega, nI_l (by omega), nI_l (by omega), ly_ok hW hH hT, fon_fok]
  have hVe : F_X4_readVersion (Sr n 1) sb (f1, f2, f3, ve, bi, per, pn, st, col) = fok () (Sr n 2, (f1, f2, f3, nI 5, bi, per, pn, st, col)) := by
    unfold F_X4_readVersion
    rw [nx_ok sb (by omega) hn, fon_fok, g1, if_neg (c := 5 < nI 5) (by decide), if_neg (c := nI 5 = 1) (by decide)]
  have hBi : F_X4_readBits (Sr n 3) sb (f1, f2, f3, nI 5, bi, per, pn, st, col) = fok () (Sr n 4, (f1, f2, f3, nI 5, nI 8, nI 1, pn, st, col)) := by
    unfold F_X4_readBits F_X4_readBits_53
    rw [nx_ok sb (by omega) hn, fon_fok, g3, if_neg (c := nI 8 = 1) (by decide), if_neg (c := nI 8 = 2) (by decide), if_neg (c := nI 8 = 4) (by decide), if_pos (c := nI 8 = 8) rfl]
    dsimp only [px_f1, px_f2, px_f3, px_ver, px_bits, px_per, px_planes, px_step, px_col]
    rw [if_pos (c := ¬ nI 8 = 0) (by decide), show (8 : Int32) / nI 8 = nI 1 from by decide]
  obtain ⟨col2, eC, _⟩ := (cols_c (n := n) (p := 16) (N := 16) sb (by omega) hn (by omega) f1 f2 f3 (nI 5) (nI 8) (nI 1) pn st col).1 (by omega)
  have hPl : F_X4_readPlanes (Sr n 65) sb (f1, f2, f3, nI 5, nI 8, nI 1, pn, st, col2) = fok () (Sr n 66, (f1, f2, f3, nI 5, nI 8, nI 1, nI pl, st, col2)) := by
    unfold F_X4_readPlanes
    rw [nx_ok sb (by omega) hn, fon_fok, g65]
    exact (pl_c (n := n) (v := 5) (b := 8) (z := pl) sb (by unfold okP; omega) (by omega) (by omega) f1 f2 f3 (nI 1) st col2).1 ⟨by unfold okBP; omega, fun _ => rfl⟩
  have hSt : F_X4_readStep (nI W) (Sr n 66) sb (f1, f2, f3, nI 5, nI 8, nI 1, nI pl, st, col2) = fok () (Sr n 68, (f1, f2, f3, nI 5, nI 8, nI 1, nI pl, nI (stP W), col2)) := by
    unfold F_X4_readStep
    rw [low2_ok sb (by omega) hn, fon_fok, e66, pk_andN (by omega) (m := 1) 1 rfl, show stP W % 2 ^ 1 = 0 from hS.2.2, if_neg (c := nI 0 = 1) (by decide)]
    dsimp only [px_f1, px_f2, px_f3, px_ver, px_bits, px_per, px_planes, px_step, px_col]
    rw [pk_mul, show nI (W * 8) + 7 = nI (W * 8 + 7) from nI_add _ 7, show (8 : Int32) = nI 8 from rfl, pk_div (by omega) (by omega) (by omega), if_pos (nI_le (by omega) (by omega))]
  unfold F_X4_decode
  rw [wn_ok sb 10 (by omega) hn (by rw [g0]; rfl), fon_fok, show 0 + 1 = 1 from rfl, hVe, fon_fok]
  dsimp only
  rw [wn_ok sb 1 (by omega) hn (by rw [g2]; rfl), fon_fok, show 2 + 1 = 3 from rfl, hBi, fon_fok]
  dsimp only
  rw [hSz, fon_fok]
  dsimp only
  rw [show (4 : Int32) = nI 4 from rfl, pass_ok sb (by omega) hn, fon_fok, show 12 + 4 = 16 from rfl, show (16 : Int32) = nI 16 from rfl, eC, fon_fok]
  dsimp only
  rw [show (1 : Int32) = nI 1 from rfl, pass_ok sb (by omega) hn, fon_fok, show 16 + 3 * 16 + 1 = 65 from rfl, hPl, fon_fok]
  dsimp only [x_w]
  rw [hSt, fon_fok]
  dsimp only
  rw [show (60 : Int32) = nI 60 from rfl, pass_ok sb (by omega) hn, fon_fok, show 68 + 60 = 128 from rfl, ut_fill hT, fon_fok]
  unfold rwP at aR hlen hR aT
  have q := lp_M (z := fun _ _ _ _ => fno) (f := F_X4_decode_70 sb) (fun m k => ∀ (y : Nat) (px : A), y + m = H → ∃ s, k (nI y) (nI W, nI H, px) (Sr n (128 + (cat (fun y => cat (lnP pl W l d y) pl) y).length)) (f1, f2, f3, nI 5, nI 8, nI 1, nI pl, nI (stP W), col2) = fok () s) ?_ H (by omega)
  · exact q 0 _ (by omega)
  · intro m k ih y px hy
    unfold F_X4_decode_70
    dsimp only [x_g, px_bits, px_planes]
    by_cases c0 : m = 0
    · have : y = H := by omega
      subst this
      rw [if_pos (Int32.le_refl _), if_pos (c := nI 8 = 8) rfl]
      rcases hpl with rfl | rfl
      · rw [if_pos rfl] at hlen aT
        unfold tbP at aT
        have g12 := (Ba_c (Ba_l aT)).1
        obtain ⟨col3, eC3, _⟩ := (cols_c (n := n) (p := 128 + (cat (fun y => cat (lnP 1 W l d y) 1) y).length + 1) (N := 256) sb (by omega) hn (by omega) f1 f2 f3 (nI 5) (nI 8) (nI 1) (nI 1) (nI (stP W)) col2).1 (by omega)
        rw [if_pos (c := nI 1 = 1) rfl, wn_ok sb 12 (by omega) hn (by rw [g12]; rfl), fon_fok, show (256 : Int32) = nI 256 from rfl, eC3, fon_fok]
        dsimp only
        rw [show 128 + (cat (fun y => cat (lnP 1 W l d y) 1) y).length + 1 + 3 * 256 = n from by omega]
        exact a_122 sb (Or.inl rfl) hT px col3 f1 f2 f3 _ _ _
      · rw [if_neg (by decide)] at hlen
        rw [if_neg (c := nI 3 = 1) (by decide), show 128 + (cat (fun y => cat (lnP 3 W l d y) 3) y).length = n from by omega]
        exact a_122 sb (Or.inr rfl) hT px col2 f1 f2 f3 _ _ _
    · have h1 := Ba_cat aR y (by omega)
      have h2 := cat_le (fun y => cat (lnP pl W l d y) pl) (j := y + 1) (n := H) (by omega)
      have h3 : (cat (fun y => cat (lnP pl W l d y) pl) (y + 1)).length = (cat (fun y => cat (lnP pl W l d y) pl) y).length + (cat (lnP pl W l d y) pl).length := by rw [cat_s, List.length_append]
      have r := ih (m - 1) (by omega) (y + 1)
      rw [h3, ← Nat.add_assoc] at r
      obtain ⟨px2, e⟩ := a_line (n := n) (y := y) sb hpl hn (by omega) hW hW1 hT (fun i u => hs y i u (by omega)) h1 (by omega) f1 f2 f3 (nI 5) col2 px
      rw [if_neg (nI_ge (by omega) (by omega)), e, fon_fok, nI_1]
      exact r px2 (by omega)
