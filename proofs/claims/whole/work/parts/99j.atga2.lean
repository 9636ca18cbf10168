theorem a_tgH {n W H t m mm dp b fl gr : Nat} (sb : A) (hn : n ≤ 65536) (g0 : bt sb 0 = 0) (g1 : bt sb 1 = m) (g2 : bt sb 2 = t) (g3 : L2 sb 3 = 0) (g5 : L2 sb 5 = mm) (g7 : bt sb 7 = dp) (g12 : L2 sb 12 = W) (g14 : L2 sb 14 = H) (g16 : bt sb 16 = b) (g17 : bt sb 17 = fl)
    (hty : okTy t m m gr) (hm : m = 0 ∧ mm = 0 ∧ dp = 0 ∨ m = 1 ∧ 1 ≤ mm ∧ (dp = 24 ∨ dp = 32)) (hb : nI t &&& 7 = 2 ∧ (b = 24 ∨ b = 32) ∨ ¬ nI t &&& 7 = 2 ∧ b = 8) (hfl : okF fl (if m = 0 then b else dp)) (hmm : mm ≤ 256) (hlen : 18 + mm * ((dp + 7) / 8) ≤ n)
    (hW1 : 1 ≤ W) (hH1 : 1 ≤ H) (hW : W ≤ 4096) (hH : H ≤ 4096) (hT : W * H ≤ 4096) (x : Ras) (f1 f2 f3 mp ty fe mn de bi fg ab ix pa le li : Int32) (ent : A)
    (hP : ∀ ent2, ∃ x2 tg2, F_X9_readPixels (nI W, nI H, x_p x) (Sr n (18 + mm * ((dp + 7) / 8))) sb (f1, f2, f3, nI m, nI t, nI 0, nI mm, nI dp, nI b, nI fl, nI (fl % 16), nI m, pa, le, li, ent2) = fok () (x2, Sr n n, tg2)) :
    ∃ s, F_X9_decode x (Sr n 0) sb (f1, f2, f3, mp, ty, fe, mn, de, bi, fg, ab, ix, pa, le, li, ent) = fok () s := by
  have hm01 : m = 0 ∨ m = 1 := by omega
  have hfl64 : fl ≤ 63 := hfl.1
  have em : nI m = 0 ↔ m = 0 := nI_inj (b := 0) (by omega) (by omega)
  have e5 : nI mm = 0 ↔ mm = 0 := nI_inj (b := 0) (by omega) (by omega)
  have hTy : F_X9_readTypes (Sr n 1) sb (f1, f2, f3, mp, ty, fe, mn, de, bi, fg, ab, ix, pa, le, li, ent) = fok () (Sr n 3, (f1, f2, f3, nI m, nI t, fe, mn, de, bi, fg, ab, nI m, pa, le, li, ent)) := by
    unfold F_X9_readTypes
    dsimp only [tg_f1, tg_f2, tg_f3, tg_map, tg_type, tg_fe, tg_many, tg_deep, tg_bits, tg_flags, tg_ab, tg_idx, tg_packets, tg_left, tg_like, tg_ent, sc_pos]
    rw [nx_ok sb (by omega) hn, fon_fok, g1, if_pos (c := nI m ≤ 1) (nI_le (b := 1) (by omega) (by omega)), nx_ok sb (by omega) hn, fon_fok, show bt sb (1 + 1) = t from g2]
    exact ty_yc sb hty hm01 f1 f2 f3 fe mn de bi fg ab ix pa le li ent
  have hMh : F_X9_readMapHeader (Sr n 3) sb (f1, f2, f3, nI m, nI t, fe, mn, de, bi, fg, ab, nI m, pa, le, li, ent) = fok () (Sr n 8, (f1, f2, f3, nI m, nI t, nI 0, nI mm, nI dp, bi, fg, ab, nI m, pa, le, li, ent)) := by
    have h76 : F_X9_readMapHeader_76 sb (Sr n 7) (f1, f2, f3, nI m, nI t, nI 0, nI mm, de, bi, fg, ab, nI m, pa, le, li, ent) = fok () (Sr n 8, (f1, f2, f3, nI m, nI t, nI 0, nI mm, nI dp, bi, fg, ab, nI m, pa, le, li, ent)) := by
      unfold F_X9_readMapHeader_76 F_X9_readMapHeader_125 F_X9_readMapHeader_130
      dsimp only [tg_f1, tg_f2, tg_f3, tg_map, tg_type, tg_fe, tg_many, tg_deep, tg_bits, tg_flags, tg_ab, tg_idx, tg_packets, tg_left, tg_like, tg_ent, sc_pos]
      rw [nx_ok sb (by omega) hn, fon_fok, g7]
      rcases hm with ⟨rfl, _, rfl⟩ | ⟨rfl, _, rfl | rfl⟩
      · rw [if_neg (by decide), if_neg (by decide), if_neg (by decide), if_neg (by decide), if_pos (by decide), if_pos (by decide)]
      · rw [if_neg (by decide), if_neg (by decide), if_pos (by decide), if_neg (by decide), if_neg (by decide)]
      · rw [if_neg (by decide), if_neg (by decide), if_neg (by decide), if_pos (by decide), if_neg (by decide), if_neg (by decide)]
    have h33 : F_X9_readMapHeader_33 sb (Sr n 5) (f1, f2, f3, nI m, nI t, nI 0, mn, de, bi, fg, ab, nI m, pa, le, li, ent) = fok () (Sr n 8, (f1, f2, f3, nI m, nI t, nI 0, nI mm, nI dp, bi, fg, ab, nI m, pa, le, li, ent)) := by
      unfold F_X9_readMapHeader_33
      dsimp only [tg_f1, tg_f2, tg_f3, tg_map, tg_type, tg_fe, tg_many, tg_deep, tg_bits, tg_flags, tg_ab, tg_idx, tg_packets, tg_left, tg_like, tg_ent, sc_pos]
      rw [low2_ok sb (by omega) hn, fon_fok, g5, show 5 + 2 = 7 from rfl, h76]
      by_cases c : m = 0
      · rw [if_pos (em.mpr c), if_pos (e5.mpr (by omega))]
      · rw [if_neg (fun e => c (em.mp e)), if_neg (fun e => by have := e5.mp e; omega)]
    unfold F_X9_readMapHeader
    dsimp only [tg_f1, tg_f2, tg_f3, tg_map, tg_type, tg_fe, tg_many, tg_deep, tg_bits, tg_flags, tg_ab, tg_idx, tg_packets, tg_left, tg_like, tg_ent, sc_pos]
    rw [low2_ok sb (by omega) hn, fon_fok, g3, show 3 + 2 = 5 from rfl, h33, if_pos (c := nI 0 = 0) rfl, ite_self]
  have hSz : F_X9_readSize x (Sr n 12) sb = fok () ((nI W, nI H, x_p x), Sr n 16) := by
    unfold F_X9_readSize
    rw [sd_ok sb (by omega) hn (by omega), fon_fok, sd_ok sb (by omega) hn (by show L2 sb 14 ≠ 0; omega), fon_fok, show L2 sb (12 + 2) = H from g14, g12, nI_l (by omega), nI_l (by omega), ly_ok hW hH hT, fon_fok]
  have hBi : F_X9_readBits (Sr n 16) sb (f1, f2, f3, nI m, nI t, nI 0, nI mm, nI dp, bi, fg, ab, nI m, pa, le, li, ent) = fok () (Sr n 17, (f1, f2, f3, nI m, nI t, nI 0, nI mm, nI dp, nI b, fg, ab, nI m, pa, le, li, ent)) := by
    unfold F_X9_readBits F_X9_readBits_29 F_X9_readBits_61 F_X9_readBits_83
    dsimp only [tg_f1, tg_f2, tg_f3, tg_map, tg_type, tg_fe, tg_many, tg_deep, tg_bits, tg_flags, tg_ab, tg_idx, tg_packets, tg_left, tg_like, tg_ent, sc_pos]
    rw [nx_ok sb (by omega) hn, fon_fok, g16]
    rcases hb with ⟨h1, rfl | rfl⟩ | ⟨h1, rfl⟩
    · rw [if_pos h1, if_neg (c := (1 : Int32) = 0) (by decide), if_neg (c := nI 24 = 16) (by decide), if_pos (c := nI 24 = 24) (by decide), if_neg (c := (1 : Int32) = 0) (by decide)]
    · rw [if_pos h1, if_neg (c := (1 : Int32) = 0) (by decide), if_neg (c := nI 32 = 16) (by decide), if_neg (c := nI 32 = 24) (by decide), if_pos (c := nI 32 = 32) (by decide), if_neg (c := (1 : Int32) = 0) (by decide)]
    · rw [if_neg h1, if_pos (c := (0 : Int32) = 0) rfl, if_pos (c := nI 8 = 8) rfl, if_neg (c := (1 : Int32) = 0) (by decide)]
  have hFl : F_X9_readFlags (Sr n 17) sb (f1, f2, f3, nI m, nI t, nI 0, nI mm, nI dp, nI b, fg, ab, nI m, pa, le, li, ent) = fok () (Sr n 18, (f1, f2, f3, nI m, nI t, nI 0, nI mm, nI dp, nI b, nI fl, nI (fl % 16), nI m, pa, le, li, ent)) := by
    unfold F_X9_readFlags
    dsimp only [tg_f1, tg_f2, tg_f3, tg_map, tg_type, tg_fe, tg_many, tg_deep, tg_bits, tg_flags, tg_ab, tg_idx, tg_packets, tg_left, tg_like, tg_ent, sc_pos]
    rw [nx_ok sb (by omega) hn, fon_fok, g17, pk_andN (by omega) (m := 15) 4 rfl]
    have fc := fun co hco => (fl_c (n := n) (fl := fl) (co := co) sb (by omega) hco (f1, f2, f3, nI m, nI t, nI 0, nI mm, nI dp, nI b, nI fl, nI (fl % 2 ^ 4), nI m, pa, le, li, ent) rfl rfl).1
    by_cases c : m = 0
    · rw [if_pos c] at hfl
      rw [if_pos (em.mpr c)]
      exact fc b (by omega) hfl
    · rw [if_neg c] at hfl
      rw [if_neg (fun e => c (em.mp e))]
      exact fc dp (by omega) hfl
  obtain ⟨ent2, eE, _⟩ := (en_c (n := n) (p := 18) (fe := 0) (mn := mm) (d := dp) (ab := fl % 16) sb (by unfold okD; omega) (by omega) hn (Nat.mod_lt _ (by decide)) (by omega) (by omega) f1 f2 f3 (nI m) (nI t) (nI b) (nI fl) (nI m) pa le li ent).1 hlen
  obtain ⟨x2, tg2, eP⟩ := hP ent2
  unfold F_X9_decode
  rw [nx_ok sb (by omega) hn, fon_fok, g0, show 0 + 1 = 1 from rfl, hTy, fon_fok]
  dsimp only
  rw [hMh, fon_fok]
  dsimp only
  rw [show (4 : Int32) = nI 4 from rfl, pass_ok sb (by omega) hn, fon_fok, show 8 + 4 = 12 from rfl, hSz, fon_fok]
  dsimp only
  rw [hBi, fon_fok]
  dsimp only
  rw [hFl, fon_fok]
  dsimp only
  rw [pass_ok (k := 0) sb (by omega) hn, fon_fok, show 18 + 0 = 18 from rfl, eE, fon_fok]
  dsimp only
  rw [eP, fon_fok]
  unfold F_X9_readFooter
  dsimp only [sc_pos, sc_size]
  rw [if_pos rfl, fon_fok]
  exact ⟨_, rfl⟩
theorem a_tga {a D W H : Nat} {l : List Int32} (ha : okA a) (hD : D = 3 ∨ D = 4) (h3 : kT a = 3 → D = 3) (d f : A) (hl : kT a = 1 → l.length ≤ 256 ∧ 1 ≤ l.length ∧ ∀ p, p < W * H → d p ∈ l) (hl0 : kT a ≠ 1 → l = []) (hW1 : 1 ≤ W) (hH1 : 1 ≤ H) (hW : W ≤ 4096) (hH : H ≤ 4096) (hT : W * H ≤ 4096) (x : Ras) (tg : Tga) : ∃ s, F_X9_decode x (Sr (tgL a D l.length W H l d).length 0) (ap f (tgL a D l.length W H l d)) tg = fok () s := by
  obtain ⟨f1, f2, f3, mp, ty, fe, mn, de, bi, fg, ab, ix, pa, le, li, ent⟩ := tg
  have hat := Ba_0 f (tgL a D l.length W H l d)
  have hR := tgR_le (a := a) hD l d hT
  have hTl := tgT_len hD l
  have hll : l.length ≤ 256 := by
    by_cases c : kT a = 1
    · exact (hl c).1
    · rw [hl0 c]; simp
  have h4 : l.length * D ≤ 256 * 4 := Nat.mul_le_mul hll (by omega)
  have hlen : (tgL a D l.length W H l d).length = 18 + l.length * D + (tgR a D W H l d).length := by
    unfold tgL; rw [List.length_append, List.length_append, tgH_len, hTl]
  generalize (tgL a D l.length W H l d).length = n at *
  generalize ap f (tgL a D l.length W H l d) = sb at *
  have hn : n ≤ 65536 := by omega
  unfold tgL at hat
  have aH := Ba_l (Ba_l hat)
  have aR := Ba_r hat
  rw [List.length_append, tgH_len, hTl, Nat.zero_add] at aR
  have hHl : (tgH a D l.length W H).length = 18 := tgH_len a D l.length W H
  have hk := okA_K (a := a) hD
  have hK3 := hk.1
  have tlt : tT a < 256 := by unfold tT; split <;> omega
  have g0 : bt sb 0 = 0 := Ba_g aH 0 rfl (by omega) rfl (by omega)
  have g1 : bt sb 1 = if kT a = 1 then 1 else 0 := Ba_g aH 1 rfl (by omega) rfl (by split <;> omega)
  have g2 : bt sb 2 = tT a := Ba_g aH 2 rfl (by omega) rfl tlt
  have g3a : bt sb 3 = 0 := Ba_g aH 3 rfl (by omega) rfl (by omega)
  have g3b : bt sb 4 = 0 := Ba_g aH 4 rfl (by omega) rfl (by omega)
  have g5a : bt sb 5 = ch (nI l.length) 0 := Ba_g aH 5 rfl (by omega) rfl (ch_lt _ _)
  have g5b : bt sb 6 = ch (nI l.length) 8 := Ba_g aH 6 rfl (by omega) rfl (ch_lt _ _)
  have g7 : bt sb 7 = if kT a = 1 then 8 * D else 0 := Ba_g aH 7 rfl (by omega) rfl (by split <;> omega)
  have g12a : bt sb 12 = ch (nI W) 0 := Ba_g aH 12 rfl (by omega) rfl (ch_lt _ _)
  have g12b : bt sb 13 = ch (nI W) 8 := Ba_g aH 13 rfl (by omega) rfl (ch_lt _ _)
  have g14a : bt sb 14 = ch (nI H) 0 := Ba_g aH 14 rfl (by omega) rfl (ch_lt _ _)
  have g14b : bt sb 15 = ch (nI H) 8 := Ba_g aH 15 rfl (by omega) rfl (ch_lt _ _)
  have g16 : bt sb 16 = if kT a = 2 then 8 * D else 8 := Ba_g aH 16 rfl (by omega) rfl (by split <;> omega)
  have g17 : bt sb 17 = if D = 4 then 40 else 32 := Ba_g aH 17 rfl (by omega) rfl (by split <;> omega)
  have l2v : ∀ v : Nat, v < 65536 → ch (nI v) 8 * 256 + ch (nI v) 0 = v := by
    intro v hv
    unfold ch
    rw [pk_tn (by omega)]
    omega
  have g3 : L2 sb 3 = 0 := by unfold L2; rw [g3a, g3b]
  have g5 : L2 sb 5 = l.length := by unfold L2; rw [g5a, g5b, l2v _ (by omega)]
  have g12 : L2 sb 12 = W := by unfold L2; rw [g12a, g12b, l2v _ (by omega)]
  have g14 : L2 sb 14 = H := by unfold L2; rw [g14a, g14b, l2v _ (by omega)]
  have hdpl : l.length * (((if kT a = 1 then 8 * D else 0) + 7) / 8) = l.length * D := by
    by_cases c : kT a = 1
    · rw [if_pos c, show (8 * D + 7) / 8 = D from by omega]
    · rw [hl0 c]; simp
  refine a_tgH (gr := if kT a = 3 then 1 else 0) sb hn g0 g1 g2 g3 g5 g7 g12 g14 g16 g17 ?_ ?_ ?_ ?_ hll (by rw [hdpl]; omega) hW1 hH1 hW hH hT x f1 f2 f3 mp ty fe mn de bi fg ab ix pa le li ent ?_
  · obtain ⟨a1, a2⟩ := ha
    rcases (by omega : a = 10 ∨ a = 11 ∨ a = 12 ∨ a = 13 ∨ a = 14 ∨ a = 15) with rfl | rfl | rfl | rfl | rfl | rfl <;> (unfold okTy; decide)
  · by_cases c : kT a = 1
    · rw [if_pos c, if_pos c]; exact Or.inr ⟨rfl, (hl c).2.1, by omega⟩
    · rw [if_neg c, if_neg c, hl0 c]; exact Or.inl ⟨rfl, rfl, rfl⟩
  · obtain ⟨a1, a2⟩ := ha
    rcases (by omega : a = 10 ∨ a = 11 ∨ a = 12 ∨ a = 13 ∨ a = 14 ∨ a = 15) with rfl | rfl | rfl | rfl | rfl | rfl <;> rcases hD with rfl | rfl <;> decide
  · obtain ⟨a1, a2⟩ := ha
    rcases (by omega : a = 10 ∨ a = 11 ∨ a = 12 ∨ a = 13 ∨ a = 14 ∨ a = 15) with rfl | rfl | rfl | rfl | rfl | rfl <;> rcases hD with rfl | rfl <;> first | (unfold okF; decide) | exact absurd (h3 rfl) (by decide)
  · intro ent2
    rw [hdpl]
    generalize hB : 18 + l.length * D = B at *
    have hf : (if D = 4 then 40 else 32) = 32 ∨ (if D = 4 then 40 else 32) = 40 := by rcases hD with rfl | rfl <;> decide
    generalize (if D = 4 then 40 else 32) = fl at *
    unfold tgR at aR hlen hR
    generalize (if kT a = 1 then 8 * D else 0) = dp at *
    unfold F_X9_readPixels
    dsimp only [tg_f1, tg_f2, tg_f3, tg_map, tg_type, tg_fe, tg_many, tg_deep, tg_bits, tg_flags, tg_ab, tg_idx, tg_packets, tg_left, tg_like, tg_ent]
    have q := lp_M (z := fun _ _ _ _ _ => fno) (f := F_X9_readPixels_15 sb) (fun m2 k15 => ∀ (k : Nat) (v pa li : Int32) (px : A), k + m2 = H → ∃ x2 tg2, k15 v (nI k) (nI W, nI H, px) (Sr n (B + (cat (rowT a D W l d) k).length)) (tgW f1 f2 f3 (nI (if kT a = 1 then 1 else 0)) (kT a) D (tT a) l.length (nI dp) fl pa 0 li ent2) = fok () (x2, Sr n n, tg2)) ?_ H (by omega)
    · exact q 0 0 0 li (x_p x) (by omega)
    · intro m2 k15 ih k v pa li px hk2
      unfold F_X9_readPixels_15 F_X9_readPixels_48
      dsimp only [x_g, x_w, tg_flags]
      by_cases c0 : m2 = 0
      · have : k = H := by omega
        subst this
        rw [if_pos (Int32.le_refl _), ← hlen]
        exact ⟨_, _, rfl⟩
      have hfl32 : ¬ nI fl &&& 32 = 0 := by rcases hf with rfl | rfl <;> decide
      rw [if_neg (nI_ge (by omega) (by omega)), if_neg hfl32, pk_mul]
      have h1 := Ba_cat aR k (by omega)
      have h2 := cat_le (rowT a D W l d) (j := k + 1) (n := H) (by omega)
      have h5 : (cat (rowT a D W l d) (k + 1)).length = (cat (rowT a D W l d) k).length + (rowT a D W l d k).length := by rw [cat_s, List.length_append]
      have hyW := yx_lt (W := W) (show k < H by omega)
      have hlr : kT a = 1 → l.length = l.length ∧ l.length ≤ 256 ∧ ∀ x, x < W → (fun v => d (k * W + v)) x ∈ l := fun hc => ⟨rfl, hll, fun x hx => (hl hc).2.2 _ (by omega)⟩
      have h15 : ∀ v px pa li, ∃ x2 tg2, k15 v (nI (k + 1)) (nI W, nI H, px) (Sr n (B + (cat (rowT a D W l d) k).length + (rowT a D W l d k).length)) (tgW f1 f2 f3 (nI (if kT a = 1 then 1 else 0)) (kT a) D (tT a) l.length (nI dp) fl pa 0 li ent2) = fok () (x2, Sr n n, tg2) := by
        intro v px pa li
        have r := ih (m2 - 1) (by omega) (k + 1) v pa li px (by omega)
        rw [h5, ← Nat.add_assoc] at r
        exact r
      by_cases c2 : a % 2 = 1
      · have er : rowT a D W l d k = pkL (kT a) D W l (fun v => d (k * W + v)) W 0 := if_pos c2
        have t8 : 8 < tT a := by unfold tT; rw [if_pos c2]; omega
        rw [er] at h1 h5 h15
        exact a_pkT (d := fun v => d (k * W + v)) sb hk t8 tlt hn hW hH hT (by omega) h1 rfl (by omega) hlr hf f1 f2 f3 _ (nI dp) pa li ent2 (fun o => ∃ x2 tg2, o = fok () (x2, Sr n n, tg2)) k15 h15 v px
      · have er : rowT a D W l d k = cat (fun x => pxT (kT a) D l (d (k * W + x))) W := if_neg c2
        have t8 : tT a ≤ 8 := by unfold tT; rw [if_neg c2]; omega
        have el : (cat (fun x => pxT (kT a) D l (d (k * W + x))) W).length = W * pz (kT a) D := cat_len _ _ (fun j _ => pz_len hk l _)
        rw [er] at h1 h5 h15
        rw [el] at h5 h15
        exact a_rawT (d := fun v => d (k * W + v)) sb hk t8 hn hW hH hT (by omega) h1 rfl (by omega) hlr hf f1 f2 f3 _ (nI dp) pa li ent2 (fun o => ∃ x2 tg2, o = fok () (x2, Sr n n, tg2)) k15 h15 v px
