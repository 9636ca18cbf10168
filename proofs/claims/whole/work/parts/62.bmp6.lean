theorem b_last {n W H : Nat} {one two three : Int32} {C : Out (Ras × Src × Bmp) Unit} {R : Out (MR × A) Int32} (sb tt : A) (hn : n ≤ 65536) (hW1 : 1 ≤ W) (hH1 : 1 ≤ H) (hW : W ≤ 4096) (hH : H ≤ 4096) (hT : W * H ≤ 4096) (h : PStepB n (W * H) (nI W) (nI H) one two three C R KB) :
    DRes n (fon C (fun z97 s97 => F_X0_decode_109 sb s97.1 s97.2.1 s97.2.2) (fun E s97 => fex E (s97.1, s97.2.1, s97.2.2))) (fon R (fun z773 s773 => if isB z773 then (fok (z773 : Int32) (s773.1, s773.2, tt)) else fno) (fun _ _ => fno)) bm_f1 bm_f2 bm_f3 (fun q => q.1) := by
  rcases h with ⟨p, px, gt, bm, hp, h1, h2, h3, e1, e2, hx⟩ | ⟨x, sc, bm, mr, gt, e1, e2, hb⟩
  case inr => rw [e1, fon_fex, e2, fon_fok, if_pos (Or.inl rfl)]; exact d_bad rfl rfl hb
  rw [e1, fon_fok, e2]
  unfold F_X0_decode_109 KB
  dsimp only
  by_cases c : p = n
  · subst c
    rw [end_ok, fon_fok, cl_ok, fon_fok, if_pos (Or.inr rfl), fon_fok, if_pos (Or.inr rfl)]
    exact Or.inl ⟨W, H, px, _, _, _, _, _, hW1, hH1, hW, hH, hT, rfl, rfl, h1, h2, h3, hx⟩
  · rw [end_no (by omega) hn, fon_fex, cl_no _ _ _ _ _ (by omega) hn, fon_fok, if_pos (Or.inl rfl), fon_fok, if_pos (Or.inl rfl)]
    exact d_bad rfl rfl (b_bad _ _ _ _ _ _ _ _ _ _ (by decide))
theorem dec_bmp {n : Nat} (sb : A) (hn : n ≤ 65536) (x : Ras) (bm : Bmp) (gw gh a b c : Int32) (gt ta : A) : DRes n (F_X0_decode x (Sr n 0) sb bm) (F_X11_readRows sb (Mr n 0 gw gh a b c) gt ta) bm_f1 bm_f2 bm_f3 (fun q => q.1) := by
  obtain ⟨f1, f2, f3, tp, bi, cm, us, pk, cl, up, col⟩ := bm
  unfold F_X0_decode F_X11_readRows F_X11_readRows_18
  rcases d_want sb 66 gw gh a b c (Nat.zero_le n) hn with ⟨h1, _, e1, e2⟩ | ⟨_, _, k, ww, hk, e1, e2⟩
  case inr => rw [e1, fon_fex, e2, fon_fok, if_pos rfl]; exact d_bad rfl rfl (b_bad _ _ _ _ _ _ _ _ _ _ hk)
  rw [e1, fon_fok, e2, fon_fok, if_neg (c := (1 : Int32) = 0) (by decide)]
  rcases d_want sb 77 gw gh a b c h1 hn with ⟨h1, _, e1, e2⟩ | ⟨_, _, k, ww, hk, e1, e2⟩
  case inr => rw [e1, fon_fex, e2, fon_fok, if_pos rfl]; exact d_bad rfl rfl (b_bad _ _ _ _ _ _ _ _ _ _ hk)
  rw [e1, fon_fok, e2, fon_fok, if_neg (c := (1 : Int32) = 0) (by decide), show 0 + 1 + 1 = 2 from rfl]
  rw [show 0 + 1 + 1 = 2 from rfl] at h1
  dsimp only [sc_size]
  by_cases c1 : 2 + 4 ≤ n
  case neg => rw [wl_no sb _ (by omega) h1 hn, fon_fex, wt_no 4 4 rfl _ _ _ _ _ (by omega) (by omega), fon_fok, if_pos rfl]; exact d_bad rfl rfl (b_bad _ _ _ _ _ _ _ _ _ _ (by decide))
  rw [wt_ok 4 4 rfl _ _ _ _ _ c1 (by omega), fon_fok, if_neg (c := (1 : Int32) = 0) (by decide), show F_X11_low 2 4 sb = fok (lN (L4 sb 2)) () from lowp4 (p := 2) sb (by omega), fon_fok]
  dsimp only [mr_size, mr_pos, mr_kind, mr_whr, mr_gw, mr_gh, mr_one, mr_two, mr_three]
  rw [nI_l (by omega)]
  have l2 := L4_lt sb 2; have l6 := L4_lt sb 6; have l10 := L4_lt sb 10; have l14 := L4_lt sb 14; have l18 := L4_lt sb 18; have l22 := L4_lt sb 22; have l30 := L4_lt sb 30; have l34 := L4_lt sb 34; have l46 := L4_lt sb 46; have l26 := L2_lt sb 26; have l28 := L2_lt sb 28
  by_cases d1 : L4 sb 2 = n
  case neg => rw [wl_ne sb _ rfl (by omega) c1 hn d1, fon_fex, if_neg (fun e => d1 ((lcE rfl (by omega) (by omega)).mp e)), wr_eq, fon_fok, if_pos (Or.inl rfl)]; exact d_bad rfl rfl (b_bad _ _ _ _ _ _ _ _ _ _ (by decide))
  rw [wl_ok sb _ rfl c1 hn d1, fon_fok, if_pos ((lcE rfl (by omega) (by omega)).mpr d1), show 2 + 4 = 6 from rfl]
  by_cases c2 : 6 + 4 ≤ n
  case neg => rw [wl_no sb _ (by omega) c1 hn, fon_fex, wq_no 4 6 4 rfl (p := 6) rfl _ _ _ _ _ (by omega) (by omega), fon_fok, if_pos rfl]; exact d_bad rfl rfl (b_bad _ _ _ _ _ _ _ _ _ _ (by decide))
  rw [wq_ok 4 6 4 rfl (p := 6) rfl _ _ _ _ _ c2 (by omega), fon_fok, if_neg (c := (1 : Int32) = 0) (by decide), show F_X11_low 6 4 sb = fok (lN (L4 sb 6)) () from lowp4 (p := 6) sb (by omega), fon_fok]
  dsimp only [mr_size, mr_pos, mr_kind, mr_whr, mr_gw, mr_gh, mr_one, mr_two, mr_three]
  by_cases d2 : L4 sb 6 = 0
  case neg => rw [wl_ne (v := 0) sb 0 rfl (by omega) c2 hn d2, fon_fex, if_neg (fun e => d2 ((lcE (b := 0) (B := 0) rfl (by omega) (by omega)).mp e)), wq_wr, fon_fok, if_pos (Or.inl rfl)]; exact d_bad rfl rfl (b_bad _ _ _ _ _ _ _ _ _ _ (by decide))
  rw [wl_ok (v := 0) sb 0 rfl c2 hn d2, fon_fok, if_pos ((lcE (b := 0) (B := 0) rfl (by omega) (by omega)).mpr d2), show 6 + 4 = 10 from rfl]
  by_cases c3 : 10 + 4 ≤ n
  case neg => rw [low4_no sb (by omega) c2 hn, fon_fex, wq_no 4 10 4 rfl (p := 10) rfl _ _ _ _ _ (by omega) (by omega), fon_fok, if_pos rfl]; exact d_bad rfl rfl (b_bad _ _ _ _ _ _ _ _ _ _ (by decide))
  rw [low4_ok sb c3 hn, fon_fok, wq_ok 4 10 4 rfl (p := 10) rfl _ _ _ _ _ c3 (by omega), fon_fok, if_neg (c := (1 : Int32) = 0) (by decide), show F_X11_low 10 4 sb = fok (lN (L4 sb 10)) () from lowp4 (p := 10) sb (by omega), fon_fok, show 10 + 4 = 14 from rfl]
  dsimp only [mr_size, mr_pos, mr_kind, mr_whr, mr_gw, mr_gh, mr_one, mr_two, mr_three]
  by_cases c4 : 14 + 4 ≤ n
  case neg => rw [wl_no sb _ (by omega) c3 hn, fon_fex, wq_no 4 14 4 rfl (p := 14) rfl _ _ _ _ _ (by omega) (by omega), fon_fok, if_pos rfl]; exact d_bad rfl rfl (b_bad _ _ _ _ _ _ _ _ _ _ (by decide))
  rw [wq_ok 4 14 4 rfl (p := 14) rfl _ _ _ _ _ c4 (by omega), fon_fok, if_neg (c := (1 : Int32) = 0) (by decide), show F_X11_low 14 4 sb = fok (lN (L4 sb 14)) () from lowp4 (p := 14) sb (by omega), fon_fok]
  dsimp only [mr_size, mr_pos, mr_kind, mr_whr, mr_gw, mr_gh, mr_one, mr_two, mr_three]
  by_cases d4 : L4 sb 14 = 40
  case neg => rw [wl_ne (v := 40) sb 40 rfl (by omega) c4 hn d4, fon_fex, if_neg (fun e => d4 ((lcE (b := 40) (B := 40) rfl (by omega) (by omega)).mp e)), wq_wr, fon_fok, if_pos (Or.inl rfl)]; exact d_bad rfl rfl (b_bad _ _ _ _ _ _ _ _ _ _ (by decide))
  rw [wl_ok (v := 40) sb 40 rfl c4 hn d4, fon_fok, if_pos ((lcE (b := 40) (B := 40) rfl (by omega) (by omega)).mpr d4), show 14 + 4 = 18 from rfl]
  unfold F_X0_readSize
  dsimp only [bm_f1, bm_f2, bm_f3, bm_top, bm_bits, bm_comp, bm_used, bm_packed, bm_column, bm_up, bm_col, sc_pos]
  by_cases c5 : 18 + 4 ≤ n
  case neg => rw [low4_no sb (by omega) c4 hn, fon_fex, fon_fex, wq_no 4 18 4 rfl (p := 18) rfl _ _ _ _ _ (by omega) (by omega), fon_fok, if_pos rfl]; exact d_bad rfl rfl (b_bad _ _ _ _ _ _ _ _ _ _ (by decide))
  rw [low4_ok sb c5 hn, fon_fok, wq_ok 4 18 4 rfl (p := 18) rfl _ _ _ _ _ c5 (by omega), fon_fok, if_neg (c := (1 : Int32) = 0) (by decide), show F_X11_low 18 4 sb = fok (lN (L4 sb 18)) () from lowp4 (p := 18) sb (by omega), fon_fok, lN_i, show 18 + 4 = 22 from rfl]
  dsimp only [mr_size, mr_pos, mr_kind, mr_whr, mr_gw, mr_gh, mr_one, mr_two, mr_three]
  by_cases d5 : (1 : Int32) ≤ nI (L4 sb 18)
  case neg => rw [if_neg d5, rf_eq, fon_fex, fon_fex, if_neg d5, wq_wr, fon_fok, if_pos (Or.inl rfl)]; exact d_bad rfl rfl (b_bad _ _ _ _ _ _ _ _ _ _ (by decide))
  rw [if_pos d5, if_pos d5]
  have d5b : 1 ≤ L4 sb 18 ∧ L4 sb 18 < 2 ^ 31 := by
    rw [Int32.le_iff_toInt_le, nI_int l18, show (1 : Int32).toInt = 1 from rfl] at d5
    split at d5 <;> omega
  by_cases c6 : 22 + 4 ≤ n
  case neg => rw [low4_no sb (by omega) c5 hn, fon_fex, fon_fex, wq_no 4 22 4 rfl (p := 22) rfl _ _ _ _ _ (by omega) (by omega), fon_fok, if_pos rfl]; exact d_bad rfl rfl (b_bad _ _ _ _ _ _ _ _ _ _ (by decide))
  rw [low4_ok sb c6 hn, fon_fok, wq_ok 4 22 4 rfl (p := 22) rfl _ _ _ _ _ c6 (by omega), fon_fok, if_neg (c := (1 : Int32) = 0) (by decide), show F_X11_low 22 4 sb = fok (lN (L4 sb 22)) () from lowp4 (p := 22) sb (by omega), fon_fok, lN_i, show 22 + 4 = 26 from rfl]
  by_cases d6 : L4 sb 22 = 0
  · rw [d6, if_pos (c := lg_cmp (nI 0).toInt64 0 = 0) (by decide), rf_eq, fon_fex, fon_fex, if_pos (c := lg_cmp (nI 0).toInt64 0 = 0) (by decide), wq_wr, fon_fok, if_pos (Or.inl rfl)]; exact d_bad rfl rfl (b_bad _ _ _ _ _ _ _ _ _ _ (by decide))
  obtain ⟨to, Hh, hto, hH1, hH2, eC, eR⟩ : ∃ to Hh : Nat, (to = 0 ∨ to = 1) ∧ 1 ≤ Hh ∧ Hh < 2 ^ 32 ∧ (∀ (E : Out (Ras × Src × Bmp) Unit), (if (lg_cmp (nI (L4 sb 22)).toInt64 0) = 0 then E else (if 0 ≤ (lg_cmp (nI (L4 sb 22)).toInt64 0) then (F_X0_readSize_61 sb (nI 22) (nI (L4 sb 18)) ((nI (L4 sb 22)).toInt64) (0 : Int32) x (Sr n 26) (f1, f2, f3, tp, bi, cm, us, pk, cl, up, col)) else (F_X0_readSize_61 sb (nI 22) (nI (L4 sb 18)) ((nI (L4 sb 22)).toInt64) (1 : Int32) x (Sr n 26) (f1, f2, f3, tp, bi, cm, us, pk, cl, up, col)))) = F_X0_readSize_84 sb (nI 22) (lN Hh) (lN (L4 sb 18)) x (Sr n 26) (f1, f2, f3, nI to, bi, cm, us, pk, cl, up, col)) ∧ (∀ (E : Out (MR × A × A) Int32) (mr : MR), (if (lg_cmp (nI (L4 sb 22)).toInt64 0) = 0 then E else (if 0 ≤ (lg_cmp (nI (L4 sb 22)).toInt64 0) then (F_X11_readRows_242 sb (lN (L4 sb 10)) (nI (L4 sb 18)) ((nI (L4 sb 22)).toInt64) (0 : Int32) mr gt ta) else (F_X11_readRows_242 sb (lN (L4 sb 10)) (nI (L4 sb 18)) ((nI (L4 sb 22)).toInt64) (1 : Int32) mr gt ta))) = F_X11_readRows_260 sb (lN (L4 sb 10)) (nI to) (lN Hh) (lN (L4 sb 18)) mr gt ta) := by
    by_cases c : L4 sb 22 < 2 ^ 31
    · have z0 : lg_cmp (lN (L4 sb 22)) 0 = 0 ↔ L4 sb 22 = 0 := lcE (b := 0) rfl (by omega) (by omega)
      have zg : 0 ≤ lg_cmp (lN (L4 sb 22)) 0 := by rw [lg_cmp_ge]; exact (pk_lLE (a := 0) (by omega) (by omega)).mpr (Nat.zero_le _)
      refine ⟨0, L4 sb 22, Or.inl rfl, by omega, by omega, fun E => ?_, fun E mr => ?_⟩
      · rw [nI_l c, if_neg (fun e => d6 (z0.mp e)), if_pos zg]
        unfold F_X0_readSize_61
        rw [if_pos (Or.inl rfl), if_pos rfl, nI_l d5b.2]
        rfl
      · rw [nI_l c, if_neg (fun e => d6 (z0.mp e)), if_pos zg]
        unfold F_X11_readRows_242
        rw [if_pos rfl, nI_l d5b.2]
        rfl
    · have ei : (nI (L4 sb 22)).toInt64.toInt = (L4 sb 22 : Int) - 2 ^ 32 := by rw [Int32.toInt_toInt64, nI_int l22, if_neg c]
      have z0 : ¬ lg_cmp (nI (L4 sb 22)).toInt64 0 = 0 := by
        rw [lg_cmp_eq]; intro e; rw [e] at ei; rw [show (0 : Int64).toInt = 0 from rfl] at ei; omega
      have zg : ¬ 0 ≤ lg_cmp (nI (L4 sb 22)).toInt64 0 := by
        rw [lg_cmp_ge, Int64.le_iff_toInt_le, ei, show (0 : Int64).toInt = 0 from rfl]; omega
      refine ⟨1, 2 ^ 32 - L4 sb 22, Or.inr rfl, by omega, by omega, fun E => ?_, fun E mr => ?_⟩
      · rw [if_neg z0, if_neg zg]
        unfold F_X0_readSize_61
        rw [if_pos (Or.inr rfl), if_neg (by decide), neg64 (by omega) l22, nI_l d5b.2]
        rfl
      · rw [if_neg z0, if_neg zg]
        unfold F_X11_readRows_242
        rw [if_neg (by decide), neg64 (by omega) l22, nI_l d5b.2]
        rfl
  rw [eC, eR]
  unfold F_X0_readSize_84 F_X11_readRows_260
  rw [show (22 : Int32) = nI 22 from rfl]
  rcases d_lay (n := n) (p := 26) (q := 22) (W := L4 sb 18) (H := Hh) (by omega) (by omega) (nI 22) x gw gh a b c with ⟨w1, w2, w3, e1, e2⟩ | ⟨e1, e2⟩
  case inr => rw [e1, fon_fex, fon_fex, e2, fon_fok, if_pos rfl]; exact d_bad rfl rfl (b_bad _ _ _ _ _ _ _ _ _ _ (by decide))
  rw [e1, fon_fok, fon_fok, e2, fon_fok, if_neg (c := (1 : Int32) = 0) (by decide)]
  dsimp only [mr_size, mr_pos, mr_kind, mr_whr, mr_gw, mr_gh, mr_one, mr_two, mr_three]
  unfold F_X0_readDepth
  dsimp only [bm_f1, bm_f2, bm_f3, bm_top, bm_bits, bm_comp, bm_used, bm_packed, bm_column, bm_up, bm_col, sc_pos]
  generalize hWe : L4 sb 18 = W at *
  by_cases c7 : 26 + 2 ≤ n
  case neg => rw [low2_no sb (by omega) c6 hn, fon_fex, fon_fex, wq_no 2 26 2 rfl (p := 26) rfl _ _ _ _ _ (by omega) (by omega), fon_fok, if_pos rfl]; exact d_bad rfl rfl (b_bad _ _ _ _ _ _ _ _ _ _ (by decide))
  rw [low2_ok sb c7 hn, fon_fok, wq_ok 2 26 2 rfl (p := 26) rfl _ _ _ _ _ c7 (by omega), fon_fok, if_neg (c := (1 : Int32) = 0) (by decide), show F_X11_low 26 2 sb = fok (lN (L2 sb 26)) () from lowp2 (p := 26) sb (by omega), fon_fok, show 26 + 2 = 28 from rfl]
  dsimp only [mr_size, mr_pos, mr_kind, mr_whr, mr_gw, mr_gh, mr_one, mr_two, mr_three]
  by_cases d7 : L2 sb 26 = 1
  case neg => rw [if_neg (c := nI (L2 sb 26) = 1) (fun e => d7 ((nI_inj (b := 1) (by omega) (by omega)).mp e)), rf_eq, fon_fex, fon_fex, if_neg (fun e => d7 ((lcE (b := 1) (B := 1) rfl (by omega) (by omega)).mp e)), wq_wr, fon_fok, if_pos (Or.inl rfl)]; exact d_bad rfl rfl (b_bad _ _ _ _ _ _ _ _ _ _ (by decide))
  rw [if_pos (c := nI (L2 sb 26) = 1) (by rw [d7]; rfl), if_pos ((lcE (b := 1) (B := 1) rfl (by omega) (by omega)).mpr d7)]
  by_cases c8 : 28 + 2 ≤ n
  case neg => rw [low2_no sb (by omega) c7 hn, fon_fex, fon_fex, wq_no 2 28 2 rfl (p := 28) rfl _ _ _ _ _ (by omega) (by omega), fon_fok, if_pos rfl]; exact d_bad rfl rfl (b_bad _ _ _ _ _ _ _ _ _ _ (by decide))
  rw [low2_ok sb c8 hn, fon_fok, wq_ok 2 28 2 rfl (p := 28) rfl _ _ _ _ _ c8 (by omega), fon_fok, if_neg (c := (1 : Int32) = 0) (by decide), show F_X11_low 28 2 sb = fok (lN (L2 sb 28)) () from lowp2 (p := 28) sb (by omega), fon_fok, lN_i, show 28 + 2 = 30 from rfl]
  by_cases d8 : okB (L2 sb 28)
  case neg => rw [six_n d8 l28, rf_eq, fon_fex, fon_fex, six_n d8 l28, wq_wr, fon_fok, if_pos (Or.inl rfl)]; exact d_bad rfl rfl (b_bad _ _ _ _ _ _ _ _ _ _ (by decide))
  rw [six_y d8, six_y d8]
  generalize L2 sb 28 = bb at *
  by_cases c9 : 30 + 4 ≤ n
  case neg =>
    unfold F_X0_readDepth_90 F_X11_readRows_380
    dsimp only [mr_size, mr_pos, mr_kind, mr_whr, mr_gw, mr_gh, mr_one, mr_two, mr_three]
    rw [low4_no sb (by omega) c8 hn, fon_fex, fon_fex, wq_no 4 30 4 rfl (p := 30) rfl _ _ _ _ _ (by omega) (by omega), fon_fok, if_pos rfl]; exact d_bad rfl rfl (b_bad _ _ _ _ _ _ _ _ _ _ (by decide))
  by_cases d9 : okC (L4 sb 30) bb to
  case neg => rw [cmp_n sb hn c9 d8 _ _ _ _ _ _ _ _ _ hto d9, fon_fex, rcmp_n sb hn c9 d8 _ _ _ _ _ _ _ _ _ hto d9]; exact d_bad rfl rfl (b_bad _ _ _ _ _ _ _ _ _ _ (by decide))
  rw [cmp_y sb hn c9 d8 _ _ _ _ _ _ _ _ _ hto d9, fon_fok, rcmp_y sb hn c9 d8 _ _ _ _ _ _ _ _ _ hto d9]
  unfold F_X11_readRows_454
  dsimp only [mr_size, mr_pos, mr_kind, mr_whr, mr_gw, mr_gh, mr_one, mr_two, mr_three]
  by_cases c10 : 34 + 4 ≤ n
  case neg => rw [low4_no sb (by omega) c9 hn, fon_fex, wq_no 4 34 4 rfl (p := 34) rfl _ _ _ _ _ (by omega) (by omega), fon_fok, if_pos rfl]; exact d_bad rfl rfl (b_bad _ _ _ _ _ _ _ _ _ _ (by decide))
  rw [low4_ok sb c10 hn, fon_fok, wq_ok 4 34 4 rfl (p := 34) rfl _ _ _ _ _ c10 (by omega), fon_fok, if_neg (c := (1 : Int32) = 0) (by decide), show F_X11_low 34 4 sb = fok (lN (L4 sb 34)) () from lowp4 (p := 34) sb (by omega), fon_fok, show 34 + 4 = 38 from rfl]
  dsimp only [mr_size, mr_pos, mr_kind, mr_whr, mr_gw, mr_gh, mr_one, mr_two, mr_three]
  rw [r485 sb hn d8, show (8 : Int32) = nI 8 from rfl]
  by_cases c11 : 38 + 8 ≤ n
  case neg => rw [pass_no sb (by omega) c10 hn (by omega), fon_fex, if_neg (by omega)]; exact d_bad rfl rfl (b_bad _ _ _ _ _ _ _ _ _ _ (by decide))
  rw [pass_ok sb c11 hn, fon_fok, show 38 + 8 = 46 from rfl]
  by_cases c12 : 46 + 4 ≤ n
  case neg =>
    unfold F_X0_readUsed
    rw [low4_no sb (by omega) c11 hn, fon_fex, fon_fex, if_neg c12]; exact d_bad rfl rfl (b_bad _ _ _ _ _ _ _ _ _ _ (by decide))
  rw [if_pos c12]
  by_cases d12 : L4 sb 46 ≤ mU bb
  case neg => rw [us_n sb hn c12 d8 _ _ _ _ _ _ _ _ _ d12, fon_fex, if_neg d12]; exact d_bad rfl rfl (b_bad _ _ _ _ _ _ _ _ _ _ (by decide))
  rw [us_y sb hn c12 d8 _ _ _ _ _ _ _ _ _ d12, fon_fok, if_pos d12]
  have hU : uU bb (L4 sb 46) ≤ 256 := by have := mU_le d8; unfold uU; split <;> omega
  have hU8 : bb ≤ 8 → 1 ≤ uU bb (L4 sb 46) := by
    intro hb8; unfold uU; split
    · unfold mU; rw [if_pos hb8]; exact Nat.two_pow_pos _
    · omega
  generalize uU bb (L4 sb 46) = U at *
  rw [show (4 : Int32) = nI 4 from rfl]
  by_cases c13 : 50 + 4 ≤ n
  case neg =>
    unfold F_X11_readRows_591
    dsimp only [mr_size, mr_pos, mr_kind, mr_whr, mr_gw, mr_gh, mr_one, mr_two, mr_three]
    rw [pass_no sb (by omega) c12 hn (by omega), fon_fex, wq_no 4 50 4 rfl (p := 50) rfl _ _ _ _ _ (by omega) (by omega), fon_fok, if_pos rfl]; exact d_bad rfl rfl (b_bad _ _ _ _ _ _ _ _ _ _ (by decide))
  rw [pass_ok sb c13 hn, fon_fok, show 50 + 4 = 54 from rfl]
  have LC := lay_c (n := n) (o := L4 sb 10) (t := L4 sb 34) (U := U) (c := L4 sb 30) hn l10 l34 l30 hU (f1, f2, f3, nI to, nI bb, nI (L4 sb 30), nI U, pk, cl, up, col) rfl rfl
  have LR := lay_r (n := n) (o := L4 sb 10) (t := L4 sb 34) (U := U) (c := L4 sb 30) (b := bb) sb hn l10 l34 l30 hU c13 (nI to) (nI W) (nI Hh) a b c (nI 46) gt ta
  by_cases d13 : okO (L4 sb 10) U n
  case neg => rw [LC.2.1 d13, fon_fex, LR.2.1 d13]; exact d_bad rfl rfl (b_bad _ _ _ _ _ _ _ _ _ _ (by decide))
  by_cases d14 : okT (L4 sb 34) (L4 sb 10) n (L4 sb 30)
  case neg => rw [LC.2.2 d13 d14, fon_fex, LR.2.2 d13 d14]; exact d_bad rfl rfl (b_bad _ _ _ _ _ _ _ _ _ _ (by decide))
  rw [LC.1 d13 d14, fon_fok, LR.1 d13 d14]
  unfold okO at d13
  rw [col_c sb hn hU (by omega), fon_fok, col_r sb hn hU (by omega) l10 l30]
  dsimp only [bm_comp, sc_size, sc_ft, sc_fp]
  have hcol : ∀ i, i < U → frontN (tbl sb) col U i = frontN (tbl sb) ta U i := fun i hi => by unfold frontN; rw [if_pos hi, if_pos hi]
  have z30 : nI (L4 sb 30) = 0 ↔ L4 sb 30 = 0 := nI_inj (b := 0) l30 (by omega)
  unfold okC at d9
  unfold okB at d8
  by_cases d15 : L4 sb 30 = 0
  · rw [if_pos (z30.mpr d15), if_pos d15]
    refine b_last (one := nI bb) (two := nI (L4 sb 30)) (three := nI U) sb _ hn (by omega) hH1 w1 w2 w3 ?_
    by_cases c8 : bb ≤ 8
    · exact b_ixrows sb (by omega) hto d13.2 hn w1 w2 (by omega) w3 hU _ _ _ _ _ _ _ _ _ _ _ hcol
    · exact b_dirrows sb (by omega) hto d13.2 hn w1 w2 (by omega) w3 hU _ _ _ _ _ _ _ _ _ _ _
  · rw [if_neg (fun e => d15 (z30.mp e)), if_neg d15]
    refine b_last (one := nI bb) (two := nI (L4 sb 30)) (three := nI U) sb _ hn (by omega) hH1 w1 w2 w3 ?_
    have ht0 : to = 0 := by omega
    subst ht0
    have h12 : nI (L4 sb 30) = 1 ↔ bb = 8 := by
      rw [show (1 : Int32) = nI 1 from rfl, nI_inj l30 (by omega)]; omega
    exact b_pairs sb (by omega) _ h12 d13.2 (by omega) hn w1 w2 w3 hU (hU8 (by omega)) _ _ _ _ _ _ _ _ _ _ hcol
