theorem dec_pcx {n : Nat} (sb : A) (hn : n ≤ 65536) (x : Ras) (px : Pcx) (gw gh a b c : Int32) (gt ta li : A) : DRw n (F_X4_decode x (Sr n 0) sb px) (F_X11_readPlanes sb (Mr n 0 gw gh a b c) gt ta li) px_f1 px_f2 px_f3 (fun q => q.1) := by
  obtain ⟨f1, f2, f3, ver, bi, per, pl, st, col⟩ := px
  unfold F_X4_decode F_X11_readPlanes
  have b1 := bt_lt sb 1; have b3 := bt_lt sb 3; have b65 := bt_lt sb 65
  have l4 := L2_lt sb 4; have l6 := L2_lt sb 6; have l8 := L2_lt sb 8; have l10 := L2_lt sb 10; have l66 := L2_lt sb 66
  rcases d_want (n := n) (p := 0) sb 10 gw gh a b c (by omega) hn with ⟨c0, _, e1, e2⟩ | ⟨u, u2, k, w, hk, e1, e2⟩
  case inr =>
    rw [e1, fon_fex, e2, fon_fok, if_pos rfl]
    exact w_bad rfl rfl (b_bad _ _ _ _ _ _ _ _ _ _ hk)
  rw [e1, fon_fok, e2, fon_fok, if_neg (c := (1 : Int32) = 0) (by decide)]
  unfold F_X4_readVersion F_X4_readVersion_29 F_X11_readPlanes_37
  try dsimp only [px_f1, px_f2, px_f3, px_ver, px_bits, px_per, px_planes, px_step, px_col, mr_size, mr_pos, mr_kind, mr_whr, mr_gw, mr_gh, mr_one, mr_two, mr_three, sc_pos, x_w, x_g, x_p]
  by_cases c1 : 0 + 1 + 1 ≤ n
  case neg => rw [nx_no sb (by omega) (by omega), fon_fex, fon_fex, wt_no 1 1 rfl _ _ _ _ _ (by omega) (by omega), fon_fok, if_pos rfl]; exact w_bad rfl rfl (b_bad _ _ _ _ _ _ _ _ _ _ (by decide))
  rw [nx_ok sb (by omega) hn, fon_fok, wt_ok 1 1 rfl _ _ _ _ _ c1 (by omega), fon_fok, if_neg (c := (1 : Int32) = 0) (by decide), show F_X11_b 1 sb = fok (nI (bt sb 1)) () from b_ok (p := 1) sb (by omega), fon_fok, show 0 + 1 = 1 from rfl, show 1 + 1 = 2 from rfl, rf_eq, fon_fex, wr_eq, fon_fok, if_pos (c := isB 0) (Or.inl rfl)]
  try dsimp only [px_f1, px_f2, px_f3, px_ver, px_bits, px_per, px_planes, px_step, px_col, mr_size, mr_pos, mr_kind, mr_whr, mr_gw, mr_gh, mr_one, mr_two, mr_three, sc_pos, x_w, x_g, x_p]
  generalize bt sb 1 = v at *
  by_cases d1 : ¬ v = 1 ∧ v ≤ 5
  case neg => rw [((ver_c b1 _ _).2 d1).1, fon_fex, ((ver_c b1 _ _).2 d1).2]; exact w_bad rfl rfl (b_bad _ _ _ _ _ _ _ _ _ _ (by decide))
  rw [((ver_c b1 _ _).1 d1).1, fon_fok, ((ver_c b1 _ _).1 d1).2]
  try dsimp only [px_f1, px_f2, px_f3, px_ver, px_bits, px_per, px_planes, px_step, px_col, mr_size, mr_pos, mr_kind, mr_whr, mr_gw, mr_gh, mr_one, mr_two, mr_three, sc_pos, x_w, x_g, x_p]
  rcases d_want (n := n) (p := 2) sb 1 gw gh a b c (by omega) hn with ⟨c2, _, e1, e2⟩ | ⟨u, u2, k, w, hk, e1, e2⟩
  case inr =>
    rw [e1, fon_fex, show F_X11_sign 1 sb (nI n, 2, 0, -1, gw, gh, a, b, c) = _ from e2, fon_fok, if_pos rfl]
    exact w_bad rfl rfl (b_bad _ _ _ _ _ _ _ _ _ _ hk)
  rw [e1, fon_fok, show F_X11_sign 1 sb (nI n, 2, 0, -1, gw, gh, a, b, c) = _ from e2, fon_fok, if_neg (c := (1 : Int32) = 0) (by decide), show 2 + 1 = 3 from rfl]
  unfold F_X4_readBits F_X4_readBits_53
  try dsimp only [px_f1, px_f2, px_f3, px_ver, px_bits, px_per, px_planes, px_step, px_col, mr_size, mr_pos, mr_kind, mr_whr, mr_gw, mr_gh, mr_one, mr_two, mr_three, sc_pos, x_w, x_g, x_p]
  by_cases c3 : 3 + 1 ≤ n
  case neg => rw [nx_no sb (by omega) (by omega), fon_fex, fon_fex, wt_no 1 1 rfl _ _ _ _ _ (by omega) (by omega), fon_fok, if_pos rfl]; exact w_bad rfl rfl (b_bad _ _ _ _ _ _ _ _ _ _ (by decide))
  rw [nx_ok sb (by omega) hn, fon_fok, wt_ok 1 1 rfl _ _ _ _ _ c3 (by omega), fon_fok, if_neg (c := (1 : Int32) = 0) (by decide), show F_X11_b 3 sb = fok (nI (bt sb 3)) () from b_ok (p := 3) sb (by omega), fon_fok, show 3 + 1 = 4 from rfl, rf_eq, fon_fex, wr_eq, fon_fok, if_pos (c := isB 0) (Or.inl rfl)]
  try dsimp only [px_f1, px_f2, px_f3, px_ver, px_bits, px_per, px_planes, px_step, px_col, mr_size, mr_pos, mr_kind, mr_whr, mr_gw, mr_gh, mr_one, mr_two, mr_three, sc_pos, x_w, x_g, x_p]
  generalize bt sb 3 = bb at *
  by_cases d3 : okP bb
  case neg => rw [(bits_4 b3 _ _).2 d3, fon_fex, (bits_4 b3 _ _).2 d3]; exact w_bad rfl rfl (b_bad _ _ _ _ _ _ _ _ _ _ (by decide))
  have hb8 := (per_ok d3).2.2.2.2
  rw [(bits_4 b3 _ _).1 d3, if_pos (c := ¬ nI bb = 0) (nI_ne0 (by omega) (by omega)), fon_fok, (bits_4 b3 _ _).1 d3, (per_ok d3).1]
  unfold F_X4_readSize F_X11_readPlanes_103
  try dsimp only [px_f1, px_f2, px_f3, px_ver, px_bits, px_per, px_planes, px_step, px_col, mr_size, mr_pos, mr_kind, mr_whr, mr_gw, mr_gh, mr_one, mr_two, mr_three, sc_pos, x_w, x_g, x_p]
  by_cases c4 : 4 + 2 ≤ n
  case neg =>
    obtain ⟨e, he⟩ := r108a (n := n) sb (nI v) (nI bb) gw gh a b c gt ta li (by omega) (by omega)
    rw [low2_no sb (by omega) (by omega) hn, fon_fex, fon_fex, he]; exact w_bad rfl rfl (b_bad _ _ _ _ _ _ _ _ _ _ (by decide))
  rw [low2_ok sb c4 hn, fon_fok]
  by_cases c6 : 4 + 2 + 2 ≤ n
  case neg =>
    obtain ⟨e, he⟩ := r108a (n := n) sb (nI v) (nI bb) gw gh a b c gt ta li (by omega) (by omega)
    rw [low2_no sb (by omega) (by omega) hn, fon_fex, fon_fex, he]; exact w_bad rfl rfl (b_bad _ _ _ _ _ _ _ _ _ _ (by decide))
  rw [low2_ok sb c6 hn, fon_fok]
  obtain ⟨k8, e8⟩ := r108b (n := n) sb (nI v) (nI bb) gw gh a b c gt ta li (by omega) hn
  rw [e8]
  unfold F_X11_readPlanes_108
  try dsimp only [px_f1, px_f2, px_f3, px_ver, px_bits, px_per, px_planes, px_step, px_col, mr_size, mr_pos, mr_kind, mr_whr, mr_gw, mr_gh, mr_one, mr_two, mr_three, sc_pos, x_w, x_g, x_p]
  rw [if_pos (c := 8 ≤ nI 8) (by decide), show 4 + 2 + 2 = 8 from rfl, show 4 + 2 = 6 from rfl]
  by_cases c8 : 8 + 2 ≤ n
  case neg => rw [low2_no sb (by omega) (by omega) hn, fon_fex, fon_fex, wq_no 2 (nI 8) 2 rfl (p := 8) rfl _ _ _ _ _ (by omega) (by omega), fon_fok, if_pos rfl]; exact w_bad rfl rfl (b_bad _ _ _ _ _ _ _ _ _ _ (by decide))
  rw [low2_ok sb c8 hn, fon_fok, wq_ok 2 (nI 8) 2 rfl (p := 8) rfl _ _ _ _ _ c8 (by omega), fon_fok, if_neg (c := (1 : Int32) = 0) (by decide), show F_X11_low 8 2 sb = fok (lN (L2 sb 8)) () from lowp2 (p := 8) sb (by omega), fon_fok, show F_X11_low 4 2 sb = fok (lN (L2 sb 4)) () from lowp2 (p := 4) sb (by omega), fon_fok, show 8 + 2 = 10 from rfl]
  try dsimp only [px_f1, px_f2, px_f3, px_ver, px_bits, px_per, px_planes, px_step, px_col, mr_size, mr_pos, mr_kind, mr_whr, mr_gw, mr_gh, mr_one, mr_two, mr_three, sc_pos, x_w, x_g, x_p]
  by_cases d8 : L2 sb 4 ≤ L2 sb 8
  case neg => rw [if_neg (c := nI (L2 sb 4) ≤ nI (L2 sb 8)) (nI_ge (by omega) (by omega)), rf_eq, fon_fex, fon_fex, if_neg (fun e => d8 ((span_ok l8 l4).mp e)), wq_wr, fon_fok, if_pos (c := isB 0) (Or.inl rfl)]; exact w_bad rfl rfl (b_bad _ _ _ _ _ _ _ _ _ _ (by decide))
  rw [if_pos (c := nI (L2 sb 4) ≤ nI (L2 sb 8)) (nI_le d8 (by omega)), if_pos ((span_ok l8 l4).mpr d8)]
  by_cases c10 : 10 + 2 ≤ n
  case neg => rw [low2_no sb (by omega) (by omega) hn, fon_fex, fon_fex, wq_no 2 10 2 rfl (p := 10) rfl _ _ _ _ _ (by omega) (by omega), fon_fok, if_pos rfl]; exact w_bad rfl rfl (b_bad _ _ _ _ _ _ _ _ _ _ (by decide))
  rw [low2_ok sb c10 hn, fon_fok, wq_ok 2 10 2 rfl (p := 10) rfl _ _ _ _ _ c10 (by omega), fon_fok, if_neg (c := (1 : Int32) = 0) (by decide), show F_X11_low 10 2 sb = fok (lN (L2 sb 10)) () from lowp2 (p := 10) sb (by omega), fon_fok, show F_X11_low 6 2 sb = fok (lN (L2 sb 6)) () from lowp2 (p := 6) sb (by omega), fon_fok, show 10 + 2 = 12 from rfl]
  try dsimp only [px_f1, px_f2, px_f3, px_ver, px_bits, px_per, px_planes, px_step, px_col, mr_size, mr_pos, mr_kind, mr_whr, mr_gw, mr_gh, mr_one, mr_two, mr_three, sc_pos, x_w, x_g, x_p]
  by_cases d10 : L2 sb 6 ≤ L2 sb 10
  case neg => rw [if_neg (c := nI (L2 sb 6) ≤ nI (L2 sb 10)) (nI_ge (by omega) (by omega)), rf_eq, fon_fex, fon_fex, if_neg (fun e => d10 ((span_ok l10 l6).mp e)), wq_wr, fon_fok, if_pos (c := isB 0) (Or.inl rfl)]; exact w_bad rfl rfl (b_bad _ _ _ _ _ _ _ _ _ _ (by decide))
  rw [if_pos (c := nI (L2 sb 6) ≤ nI (L2 sb 10)) (nI_le d10 (by omega)), if_pos ((span_ok l10 l6).mpr d10), pk_sub d8, pk_sub d10, nI_1, nI_1, nI_l (by omega), nI_l (by omega), lN_sub d8, lN_sub d10, lN_1, lN_1, show (10 : Int32) = nI 10 from rfl]
  have hW1 : 1 ≤ L2 sb 8 - L2 sb 4 + 1 := by omega
  have hH1 : 1 ≤ L2 sb 10 - L2 sb 6 + 1 := by omega
  have hW2 : L2 sb 8 - L2 sb 4 + 1 ≤ 65536 := by omega
  have hH2 : L2 sb 10 - L2 sb 6 + 1 ≤ 65536 := by omega
  generalize L2 sb 8 - L2 sb 4 + 1 = W at *
  generalize L2 sb 10 - L2 sb 6 + 1 = H at *
  rcases d_lay (n := n) (p := 12) (q := 10) (W := W) (H := H) (by omega) (by omega) (nI 10) x gw gh a b c with ⟨w1, w2, w3, e1, e2⟩ | ⟨e1, e2⟩
  case inr => rw [e1, fon_fex, fon_fex, e2, fon_fok, if_pos rfl]; exact w_bad rfl rfl (b_bad _ _ _ _ _ _ _ _ _ _ (by decide))
  rw [e1, fon_fok, fon_fok, e2, fon_fok, if_neg (c := (1 : Int32) = 0) (by decide)]
  try dsimp only [px_f1, px_f2, px_f3, px_ver, px_bits, px_per, px_planes, px_step, px_col, mr_size, mr_pos, mr_kind, mr_whr, mr_gw, mr_gh, mr_one, mr_two, mr_three, sc_pos, x_w, x_g, x_p]
  rw [show (4 : Int32) = nI 4 from rfl]
  by_cases c12 : 12 + 4 ≤ n
  case neg =>
    obtain ⟨e, he⟩ := r251a (n := n) sb (nI v) (nI bb) (nI W) (nI H) a b c gt ta li (by omega) (by omega)
    rw [pass_no sb (by omega) (by omega) hn (by omega), fon_fex, he]; exact w_bad rfl rfl (b_bad _ _ _ _ _ _ _ _ _ _ (by decide))
  obtain ⟨k16, e16⟩ := r251b (n := n) sb (nI v) (nI bb) (nI W) (nI H) a b c gt ta li (by omega) hn
  rw [pass_ok sb c12 hn, fon_fok, e16]
  unfold F_X11_readPlanes_251
  try dsimp only [px_f1, px_f2, px_f3, px_ver, px_bits, px_per, px_planes, px_step, px_col, mr_size, mr_pos, mr_kind, mr_whr, mr_gw, mr_gh, mr_one, mr_two, mr_three, sc_pos, x_w, x_g, x_p]
  rw [if_pos (c := 16 ≤ nI 16) (by decide), show 12 + 4 = 16 from rfl]
  have CC := cols_c (n := n) (p := 16) (N := 16) sb (by omega) hn (by omega) f1 f2 f3 (nI v) (nI bb) (nI (8 / bb)) pl st col
  rw [show nI 16 = 16 from rfl] at CC
  by_cases c16 : 16 + 3 * 16 ≤ n
  case neg =>
    obtain ⟨col2, e⟩ := CC.2 (by omega)
    rw [e, fon_fex, wq_no 48 (nI 16) 48 rfl (p := 16) rfl _ _ _ _ _ (by omega) (by omega), fon_fok, if_pos rfl]; exact w_bad rfl rfl (b_bad _ _ _ _ _ _ _ _ _ _ (by decide))
  obtain ⟨col2, e, hcol⟩ := CC.1 c16
  rw [e, fon_fok, wq_ok 48 (nI 16) 48 rfl (p := 16) rfl _ _ _ _ _ (by omega) (by omega), fon_fok, if_neg (c := (1 : Int32) = 0) (by decide), show 16 + 3 * 16 = 64 from rfl]
  obtain ⟨k297, ta2, e2, hta⟩ := r297 sb (nI v) (nI bb) (nI n, nI 16, 0, -1, nI W, nI H, a, b, c) gt ta li
  rw [e2]
  unfold F_X11_readPlanes_297
  try dsimp only [px_f1, px_f2, px_f3, px_ver, px_bits, px_per, px_planes, px_step, px_col, mr_size, mr_pos, mr_kind, mr_whr, mr_gw, mr_gh, mr_one, mr_two, mr_three, sc_pos, x_w, x_g, x_p]
  rw [if_pos (c := 16 ≤ nI 16) (by decide)]
  by_cases c64 : 64 + 1 ≤ n
  case neg => rw [show F_X8_pass 1 (Sr n 64) sb = _ from pass_no (k := 1) sb (by omega) (by omega) hn (by omega), fon_fex, wq_no 1 64 1 rfl (p := 64) rfl _ _ _ _ _ (by omega) (by omega), fon_fok, if_pos rfl]; exact w_bad rfl rfl (b_bad _ _ _ _ _ _ _ _ _ _ (by decide))
  rw [show F_X8_pass 1 (Sr n 64) sb = _ from pass_ok (k := 1) sb c64 hn, fon_fok, wq_ok 1 64 1 rfl (p := 64) rfl _ _ _ _ _ (by omega) (by omega), fon_fok, if_neg (c := (1 : Int32) = 0) (by decide), show 64 + 1 = 65 from rfl]
  unfold F_X4_readPlanes
  try dsimp only [px_f1, px_f2, px_f3, px_ver, px_bits, px_per, px_planes, px_step, px_col, mr_size, mr_pos, mr_kind, mr_whr, mr_gw, mr_gh, mr_one, mr_two, mr_three, sc_pos, x_w, x_g, x_p]
  by_cases c65 : 65 + 1 ≤ n
  case neg => rw [nx_no sb (by omega) (by omega), fon_fex, fon_fex, wq_no 1 65 1 rfl (p := 65) rfl _ _ _ _ _ (by omega) (by omega), fon_fok, if_pos rfl]; exact w_bad rfl rfl (b_bad _ _ _ _ _ _ _ _ _ _ (by decide))
  rw [nx_ok sb (by omega) hn, fon_fok, wq_ok 1 65 1 rfl (p := 65) rfl _ _ _ _ _ (by omega) (by omega), fon_fok, if_neg (c := (1 : Int32) = 0) (by decide), show F_X11_b 65 sb = fok (nI (bt sb 65)) () from b_ok (p := 65) sb (by omega), fon_fok, show 65 + 1 = 66 from rfl]
  unfold F_X11_readPlanes_443 F_X11_readPlanes_448
  try dsimp only [px_f1, px_f2, px_f3, px_ver, px_bits, px_per, px_planes, px_step, px_col, mr_size, mr_pos, mr_kind, mr_whr, mr_gw, mr_gh, mr_one, mr_two, mr_three, sc_pos, x_w, x_g, x_p]
  rw [wq_wr, fon_fok, if_pos (c := isB 0) (Or.inl rfl)]
  generalize bt sb 65 = z at *
  have PC := pl_c (n := n) (v := v) (b := bb) (z := z) sb d3 b1 b65 f1 f2 f3 (nI (8 / bb)) st col2
  by_cases d65 : okPV v bb z
  case neg => rw [PC.2 d65, fon_fex, (pl_r d3 b1 b65 _ _).2 d65]; exact w_bad rfl rfl (b_bad _ _ _ _ _ _ _ _ _ _ (by decide))
  rw [PC.1 d65, fon_fok, (pl_r d3 b1 b65 _ _).1 d65]
  unfold F_X4_readStep F_X4_readStep_42 F_X11_readPlanes_456 F_X11_readPlanes_511
  try dsimp only [px_f1, px_f2, px_f3, px_ver, px_bits, px_per, px_planes, px_step, px_col, mr_size, mr_pos, mr_kind, mr_whr, mr_gw, mr_gh, mr_one, mr_two, mr_three, sc_pos, x_w, x_g, x_p]
  by_cases c66 : 66 + 2 ≤ n
  case neg => rw [low2_no sb (by omega) (by omega) hn, fon_fex, fon_fex, wq_no 2 66 2 rfl (p := 66) rfl _ _ _ _ _ (by omega) (by omega), fon_fok, if_pos rfl]; exact w_bad rfl rfl (b_bad _ _ _ _ _ _ _ _ _ _ (by decide))
  rw [low2_ok sb c66 hn, fon_fok, wq_ok 2 66 2 rfl (p := 66) rfl _ _ _ _ _ c66 (by omega), fon_fok, if_neg (c := (1 : Int32) = 0) (by decide), show F_X11_low 66 2 sb = fok (lN (L2 sb 66)) () from lowp2 (p := 66) sb (by omega), fon_fok, lN_i, show 66 + 2 = 68 from rfl, rf_eq, fon_fex, wq_wr, fon_fok, if_pos (c := isB 0) (Or.inl rfl)]
  try dsimp only [px_f1, px_f2, px_f3, px_ver, px_bits, px_per, px_planes, px_step, px_col, mr_size, mr_pos, mr_kind, mr_whr, mr_gw, mr_gh, mr_one, mr_two, mr_three, sc_pos, x_w, x_g, x_p]
  generalize L2 sb 66 = s at *
  have hWb : W * bb ≤ 4096 * 8 := Nat.mul_le_mul w1 hb8.1
  have eL : ((nI W * nI bb) + 7) / 8 = nI (leastP W bb) := by
    rw [pk_mul, show nI (W * bb) + 7 = nI (W * bb + 7) from nI_add _ 7, show (8 : Int32) = nI 8 from rfl, pk_div (by omega) (by omega) (by omega)]
    rfl
  have e7 : nI s &&& 1 = nI (s % 2) := pk_andN (by omega) 1 rfl
  have e9 : nI s - nI s / 2 * 2 = nI (s % 2) := by
    rw [show (2 : Int32) = nI 2 from rfl, pk_div (by omega) (by omega) (by omega), pk_mul, pk_sub (by omega)]
    congr 1; omega
  rw [eL, e7, e9]
  by_cases d66 : s % 2 = 1
  · rw [d66, if_pos (c := nI 1 = 1) rfl, fon_fex, if_pos (c := nI 1 = 1) rfl]; exact w_bad rfl rfl (b_bad _ _ _ _ _ _ _ _ _ _ (by decide))
  rw [if_neg (c := nI (s % 2) = 1) (fun e => d66 ((nI_inj (b := 1) (by omega) (by omega)).mp e)), if_neg (c := nI (s % 2) = 1) (fun e => d66 ((nI_inj (b := 1) (by omega) (by omega)).mp e))]
  have hlp := least_le d3 w1
  by_cases d67 : leastP W bb ≤ s
  case neg => rw [if_neg (c := nI (leastP W bb) ≤ nI s) (nI_ge (by omega) (by omega)), fon_fex, if_neg (c := nI (leastP W bb) ≤ nI s) (nI_ge (by omega) (by omega))]; exact w_bad rfl rfl (b_bad _ _ _ _ _ _ _ _ _ _ (by decide))
  rw [if_pos (c := nI (leastP W bb) ≤ nI s) (nI_le d67 (by omega)), fon_fok, if_pos (c := nI (leastP W bb) ≤ nI s) (nI_le d67 (by omega))]
  try dsimp only [px_f1, px_f2, px_f3, px_ver, px_bits, px_per, px_planes, px_step, px_col, mr_size, mr_pos, mr_kind, mr_whr, mr_gw, mr_gh, mr_one, mr_two, mr_three, sc_pos, x_w, x_g, x_p]
  rw [show (60 : Int32) = nI 60 from rfl]
  by_cases c68 : 68 + 60 ≤ n
  case neg => rw [pass_no sb (by omega) (by omega) hn (by omega), fon_fex, wq_no (nI 60) 68 60 rfl (p := 68) rfl _ _ _ _ _ (by omega) (by omega), fon_fok, if_pos rfl]; exact w_bad rfl rfl (b_bad _ _ _ _ _ _ _ _ _ _ (by decide))
  rw [pass_ok sb c68 hn, fon_fok, ut_fill w3, fon_fok, wq_ok (nI 60) 68 60 rfl (p := 68) rfl _ _ _ _ _ c68 (by omega), fon_fok, if_neg (c := (1 : Int32) = 0) (by decide), show 68 + 60 = 128 from rfl]
  try dsimp only [px_f1, px_f2, px_f3, px_ver, px_bits, px_per, px_planes, px_step, px_col, mr_size, mr_pos, mr_kind, mr_whr, mr_gw, mr_gh, mr_one, mr_two, mr_three, sc_pos, x_w, x_g, x_p]
  exact rows_pcx (p := 128) sb ta2 d65.1 (by omega) hn w1 w2 hW1 hH1 w3 (by omega) d67 f1 f2 f3 (nI v) a b c col2 gt _ li (fun j hj => if_pos hj) (fun k hk => by rw [hcol k hk, hta k hk])
