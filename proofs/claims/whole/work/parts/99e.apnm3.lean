theorem a_132 {n : Nat} (sb : A) (x : Ras) (pn : Pnm) : F_X5_decode_132 sb x (Sr n n) pn = fok () (x, Sr n n, pn) := by
  unfold F_X5_decode_132
  rw [end_ok, fon_fok]
theorem a_pnm {a W H : Nat} (ha : 1 ≤ a ∧ a ≤ 6) (d f : A) (hW1 : 1 ≤ W) (hH1 : 1 ≤ H) (hW : W ≤ 4096) (hH : H ≤ 4096) (hT : W * H ≤ 4096) (x : Ras) (pn : Pnm) : ∃ s, F_X5_decode x (Sr (pnH a W H ++ pnB a W H d).length 0) (ap f (pnH a W H ++ pnB a W H d)) pn = fok () s := by
  have hat := Ba_0 f (pnH a W H ++ pnB a W H d)
  have hb := pnB_le (a := a) d hT
  have h1 := dg_le W; have h2 := dg_le H; have h3 := pnH_le a W H
  have hl : (pnH a W H ++ pnB a W H d).length = (pnH a W H).length + (pnB a W H d).length := List.length_append
  have hN : 1 ≤ W * H := Nat.mul_pos hW1 hH1
  generalize (pnH a W H ++ pnB a W H d).length = n at *
  generalize ap f (pnH a W H ++ pnB a W H d) = sb at *
  have hn : n ≤ 65536 := by omega
  have aB := Ba_r hat
  have aH := Ba_l hat
  rw [Nat.zero_add] at aB
  have hp : (pnH a W H).length = 3 + (dg W).length + 1 + (dg H).length + 1 := by unfold pnH; simp only [List.length_append, List.length_cons, List.length_nil]
  rw [hp] at aB hl
  unfold pnH at aH
  have k0 := Ba_c (Ba_l (Ba_l (Ba_l (Ba_l aH))))
  have k1 := Ba_c k0.2
  have k2 := Ba_c k1.2
  have aW : Ba sb (2 + 1) (dg W) := Ba_e (Ba_r (Ba_l (Ba_l (Ba_l aH)))) rfl
  have kS : bt sb (2 + 1 + (dg W).length) = 32 := (Ba_c (Ba_e (Ba_r (Ba_l (Ba_l aH))) (by simp only [List.length_append, List.length_cons, List.length_nil]; omega))).1
  have aG : Ba sb (2 + 1 + (dg W).length + 1) (dg H) := Ba_e (Ba_r (Ba_l aH)) (by simp only [List.length_append, List.length_cons, List.length_nil]; omega)
  have kE : bt sb (2 + 1 + (dg W).length + 1 + (dg H).length) = 10 := (Ba_c (Ba_e (Ba_r aH) (by simp only [List.length_append, List.length_cons, List.length_nil]; omega))).1
  have g0 : bt sb 0 = 80 := k0.1
  have g1 : bt sb 1 = 48 + a := by rw [show 1 = 0 + 1 from rfl, k1.1]; omega
  have g2 : bt sb 2 = 10 := k2.1
  obtain ⟨w1, w2⟩ := rd_num (n := n) (p := 2) (v := W) sb hn (Or.inl g2) (by omega) aW (by omega) (Or.inr kS) (nI a, (pn_f2 pn), (pn_f3 pn), (pn_np pn))
  obtain ⟨v1, v2⟩ := rd_num (n := n) (p := 2 + 1 + (dg W).length) (v := H) sb hn (Or.inr kS) (by omega) aG (by omega) (Or.inl kE) (nI a, (pn_f2 pn), (pn_f3 pn), nI (2 + 1))
  have hk : F_X5_readKind (Sr n 1) sb pn = fok () (Sr n 2, (nI a, (pn_f2 pn), (pn_f3 pn), (pn_np pn))) := by
    unfold F_X5_readKind
    rw [nx_ok sb (by omega) hn, fon_fok, g1, show (48 : Int32) = nI 48 from rfl, pk_sub (by omega), show 48 + a - 48 = a from by omega, if_neg (c := nI a < 1) (by (simp (disch := omega) only [nI_toInt, Int32.lt_iff_toInt_lt, Int32.le_iff_toInt_le, ← Int32.toInt_inj, Int32.reduceToInt]; omega)), if_pos (c := nI a ≤ 6) (by (simp (disch := omega) only [nI_toInt, Int32.lt_iff_toInt_lt, Int32.le_iff_toInt_le, ← Int32.toInt_inj, Int32.reduceToInt]; omega))]
  have hsz : F_X5_readSize x (Sr n 2) sb (nI a, (pn_f2 pn), (pn_f3 pn), (pn_np pn)) = fok () ((nI W, nI H, x_p x), Sr n (2 + 1 + (dg W).length + 1 + (dg H).length), (nI a, (pn_f2 pn), (pn_f3 pn), nI (2 + 1 + (dg W).length + 1))) := by
    unfold F_X5_readSize
    rw [w1, fon_fok, w2, fon_fok]
    dsimp only [pn_f1, pn_f2, pn_f3, pn_np] at v2 ⊢
    rw [ask_ok _ _ 1000000 (M := 1000000) rfl hW1 (by omega) (by omega), fon_fok, if_pos (c := nI W ≤ 4096) (by (simp (disch := omega) only [nI_toInt, Int32.lt_iff_toInt_lt, Int32.le_iff_toInt_le, ← Int32.toInt_inj, Int32.reduceToInt]; omega)), v1, fon_fok, v2, fon_fok]
    dsimp only
    rw [ask_ok _ _ 1000000 (M := 1000000) rfl hH1 (by omega) (by omega), fon_fok, nI_l (by omega), nI_l (by omega), ly_ok hW hH hT, fon_fok]
  unfold F_X5_decode
  rw [wn_ok sb 80 (by omega) hn (by rw [g0]; rfl), fon_fok, show 0 + 1 = 1 from rfl, hk, fon_fok]
  dsimp only
  rw [hsz, fon_fok]
  dsimp only [pn_f1, pn_f2, pn_f3, pn_np]
  generalize hE : 2 + 1 + (dg W).length + 1 + (dg H).length = E at *
  clear w1 w2 v1 v2 hk hsz k0 k1 k2 aW aG hat aH
  have r1 : nI a = 1 ↔ a = 1 := nI_inj (b := 1) (by omega) (by omega)
  have r4 : nI a = 4 ↔ a = 4 := nI_inj (b := 4) (by omega) (by omega)
  have r3 : nI a = 3 ↔ a = 3 := nI_inj (b := 3) (by omega) (by omega)
  have r6 : nI a = 6 ↔ a = 6 := nI_inj (b := 6) (by omega) (by omega)
  have l3 : nI a ≤ 3 ↔ a ≤ 3 := by (simp (disch := omega) only [nI_toInt, Int32.lt_iff_toInt_lt, Int32.le_iff_toInt_le, ← Int32.toInt_inj, Int32.reduceToInt]; omega)
  have g3 : 3 < nI a ↔ 3 < a := by (simp (disch := omega) only [nI_toInt, Int32.lt_iff_toInt_lt, Int32.le_iff_toInt_le, ← Int32.toInt_inj, Int32.reduceToInt]; omega)
  unfold pnB at aB hl
  by_cases c1 : a = 1
  · rw [if_pos c1] at aB hl
    have eC : cat (fun y => cat (sgn W d y) W) H = cat (fun k => sgn W d (k / W) (k % W)) (W * H) := by
      rw [Nat.mul_comm W H, ← cat_rows]
      refine cat_cong (fun y _ => cat_cong (fun u hu => ?_))
      rw [yx_mod hu, yx_div hu]
    rw [eC] at aB hl
    obtain ⟨px2, q2, hq, hs, r⟩ := a_sgn (B := E + 1) sb hn hT d aB hl.symm (nI W) (nI H) (x_p x)
    rw [if_pos (r1.mpr c1)]
    unfold F_X5_decode_62 F_X5_decode_74 F_X5_readSigns
    dsimp only [pn_f1, pn_f2, pn_f3, pn_np]
    have hd : 48 ≤ bt sb (E + 1) ∧ bt sb (E + 1) ≤ 57 := by
      have := (Ba_c (Ba_cat aB 0 (by omega))).1
      rw [show E + 1 + (cat (fun k => sgn W d (k / W) (k % W)) 0).length = E + 1 from rfl] at this
      rw [this]
      split <;> omega
    have hE1 : E + 1 < n := by
      have h5 := cat_lt (fun k => sgn W d (k / W) (k % W)) (j := 0) (n := W * H) (by omega)
      have h6 : 1 ≤ (sgn W d (0 / W) (0 % W)).length := by rw [sgn_len]; split <;> omega
      omega
    rw [if_pos (l3.mpr (by omega)), if_pos (r1.mpr c1), gap_1 sb (by omega) hn (Or.inl kE), sk_d hE1 hd, fon_fok, ut_count rfl rfl, fon_fok, r, fon_fok]
    unfold F_X5_decode_120
    dsimp only [pn_f1]
    rw [if_neg (fun e => by have := g3.mp e; omega), c_skip sb hq hn, hs, fon_fok, a_132]
    exact ⟨_, rfl⟩
  rw [if_neg c1] at aB hl
  by_cases c4 : a = 4
  · rw [if_pos c4] at aB hl
    rw [cat_len (fun y => cat (gB W d y) W) ((W + 7) / 8) (fun y _ => by rw [gB_len d y W (Nat.le_refl _), if_pos rfl])] at hl
    obtain ⟨px2, r⟩ := a_bits (n := n) (B := E + 1) sb hn hW hH hT hl.symm (x_p x)
    rw [if_neg (fun e => c1 (r1.mp e)), if_pos (r4.mpr c4)]
    unfold F_X5_decode_62 F_X5_decode_74
    dsimp only [pn_f1, pn_f2, pn_f3, pn_np]
    rw [if_neg (fun e => by have := l3.mp e; omega), ob_ok sb (by omega) hn (by unfold isbl; omega), fon_fok, if_neg (fun e => c1 (r1.mp e)), if_pos (r4.mpr c4), r, fon_fok]
    unfold F_X5_decode_120
    dsimp only [pn_f1]
    rw [if_pos (g3.mpr (by omega)), a_132]
    exact ⟨_, rfl⟩
  rw [if_neg c4] at aB hl
  have a255 := Ba_l (Ba_l aB)
  have k255 : bt sb (E + 1 + (dg 255).length) = 10 := (Ba_c (Ba_r (Ba_l aB))).1
  have aS : Ba sb (E + 1 + (dg 255).length + 1) (cat (fun p => gS a (d p)) (W * H)) := Ba_e (Ba_r aB) (by simp only [List.length_append, List.length_cons, List.length_nil]; omega)
  have hl2 : n = E + 1 + (dg 255).length + 1 + (cat (fun p => gS a (d p)) (W * H)).length := by
    rw [hl]; exact (by simp only [List.length_append, List.length_cons, List.length_nil]; omega)
  obtain ⟨u1, u2⟩ := rd_num (n := n) (p := E) (v := 255) sb hn (Or.inl kE) (by omega) a255 (by omega) (Or.inl k255) (nI a, 1, pn.2.2.1, nI (2 + 1 + (dg W).length + 1))
  rw [if_neg (fun e => c1 (r1.mp e)), if_neg (fun e => c4 (r4.mp e)), u1, fon_fok, u2, fon_fok]
  dsimp only [pn_f1, pn_f2, pn_f3, pn_np]
  rw [ask_ok _ _ 65535 (M := 65535) rfl (by omega) (by omega) (by omega), fon_fok]
  generalize E + 1 + (dg 255).length = B at *
  unfold F_X5_decode_62 F_X5_decode_74
  dsimp only [pn_f1, pn_f2, pn_f3, pn_np]
  rw [if_neg (c := nI a = 1) (fun e => c1 (r1.mp e)), if_neg (c := nI a = 4) (fun e => c4 (r4.mp e))]
  unfold F_X5_readSamples F_X5_readSamples_17 F_X5_readSamples_22
  dsimp only [pn_f1, pn_f2, pn_f3, pn_np, sc_pos]
  rw [ut_count rfl rfl, fon_fok, fon_fok]
  rcases (by omega : a = 2 ∨ a = 3 ∨ a = 5 ∨ a = 6) with rfl | rfl | rfl | rfl
  · obtain ⟨px2, np2, h10, r⟩ := a_T0 (n := n) (B := B) sb hn hT d k255 aS hl2.symm (nI W) (nI H) (nI 2) (nI B) (nI (E + 1)) (by decide) (x_p x)
    rw [if_pos (c := nI 2 ≤ 3) (by decide), if_neg (c := nI 2 = 3) (by decide), if_neg (c := nI 2 = 6) (by decide), r, fon_fok]
    unfold F_X5_decode_120
    dsimp only [pn_f1]
    rw [if_neg (by decide), c_skip sb (by omega) hn, sk_1 (by omega) (Or.inl h10), show n - (n - 1 + 1) = 0 from by omega, fon_fok, show sk sb n 0 0 = n from rfl, a_132]
    exact ⟨_, rfl⟩
  · obtain ⟨px2, np2, h10, r⟩ := a_T1 (n := n) (B := B) sb hn hT d k255 aS hl2.symm (nI W) (nI H) (nI 3) (nI B) (nI (E + 1)) (by decide) (x_p x)
    rw [if_pos (c := nI 3 ≤ 3) (by decide), if_pos (c := nI 3 = 3) (by decide), r, fon_fok]
    unfold F_X5_decode_120
    dsimp only [pn_f1]
    rw [if_neg (by decide), c_skip sb (by omega) hn, sk_1 (by omega) (Or.inl h10), show n - (n - 1 + 1) = 0 from by omega, fon_fok, show sk sb n 0 0 = n from rfl, a_132]
    exact ⟨_, rfl⟩
  · rw [cat_len (fun p => gS 5 (d p)) 1 (fun p _ => rfl)] at hl2
    obtain ⟨px2, r⟩ := a_B0 (n := n) (B := B + 1) (N := W * H) sb hn hT (by omega) (nI W) (nI H) (nI 5) (nI (B + 1)) (nI (E + 1)) (by decide) (x_p x)
    rw [if_neg (c := nI 5 ≤ 3) (by decide), ob_ok sb (by omega) hn (by unfold isbl; omega), fon_fok]
    dsimp only
    rw [if_neg (c := nI 5 = 1) (by decide), if_neg (c := nI 5 = 4) (by decide), if_neg (c := nI 5 = 3) (by decide), if_neg (c := nI 5 = 6) (by decide), fon_fok, r, fon_fok]
    unfold F_X5_decode_120
    dsimp only [pn_f1]
    rw [if_pos (by decide), a_132]
    exact ⟨_, rfl⟩
  · rw [cat_len (fun p => gS 6 (d p)) 3 (fun p _ => rfl)] at hl2
    obtain ⟨px2, r⟩ := a_B1 (n := n) (B := B + 1) (N := W * H) sb hn hT (by omega) (nI W) (nI H) (nI 6) (nI (B + 1)) (nI (E + 1)) (by decide) (x_p x)
    rw [if_neg (c := nI 6 ≤ 3) (by decide), ob_ok sb (by omega) hn (by unfold isbl; omega), fon_fok]
    dsimp only
    rw [if_neg (c := nI 6 = 1) (by decide), if_neg (c := nI 6 = 4) (by decide), if_neg (c := nI 6 = 3) (by decide), if_pos (c := nI 6 = 6) (by decide), fon_fok, r, fon_fok]
    unfold F_X5_decode_120
    dsimp only [pn_f1]
    rw [if_pos (by decide), a_132]
    exact ⟨_, rfl⟩
