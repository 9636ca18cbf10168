theorem dec_tga {n : Nat} (sb : A) (hn : n ≤ 65536) (x : Ras) (tg : Tga) (gw gh a b c : Int32) (gt ta : A) : DRw n (F_X9_decode x (Sr n 0) sb tg) (F_X11_readTarga sb (Mr n 0 gw gh a b c) gt ta) tg_f1 tg_f2 tg_f3 (fun q => q.1) := by
  obtain ⟨f1, f2, f3, mp, ty, fe, mn, dp, bi, fl, ab, ix, pa, le, li, ent⟩ := tg
  unfold F_X9_decode F_X11_readTarga
  have b0 := bt_lt sb 0; have b1 := bt_lt sb 1; have b2 := bt_lt sb 2; have b7 := bt_lt sb 7; have b16 := bt_lt sb 16; have b17 := bt_lt sb 17
  have l3 := L2_lt sb 3; have l5 := L2_lt sb 5; have l12 := L2_lt sb 12; have l14 := L2_lt sb 14
  by_cases c0 : 0 + 1 ≤ n
  case neg => rw [nx_no sb (by omega) (by omega), fon_fex, wt_no 1 1 rfl _ _ _ _ _ (by omega) (by omega), fon_fok, if_pos rfl]; exact w_bad rfl rfl (b_bad _ _ _ _ _ _ _ _ _ _ (by decide))
  rw [nx_ok sb (by omega) hn, fon_fok, wt_ok 1 1 rfl _ _ _ _ _ c0 (by omega), fon_fok, if_neg (c := (1 : Int32) = 0) (by decide), show F_X11_b 0 sb = fok (nI (bt sb 0)) () from b_ok (p := 0) sb (by omega), fon_fok, show 0 + 1 = 1 from rfl]
  unfold F_X9_readTypes
  try dsimp only [tg_f1, tg_f2, tg_f3, tg_map, tg_type, tg_fe, tg_many, tg_deep, tg_bits, tg_flags, tg_ab, tg_idx, tg_packets, tg_left, tg_like, tg_ent, mr_size, mr_pos, mr_kind, mr_whr, mr_gw, mr_gh, mr_one, mr_two, mr_three, sc_pos]
  by_cases c1 : 1 + 1 ≤ n
  case neg => rw [nx_no sb (by omega) (by omega), fon_fex, fon_fex, wq_no 1 1 1 rfl (p := 1) rfl _ _ _ _ _ (by omega) (by omega), fon_fok, if_pos rfl]; exact w_bad rfl rfl (b_bad _ _ _ _ _ _ _ _ _ _ (by decide))
  rw [nx_ok sb (by omega) hn, fon_fok, wq_ok 1 1 1 rfl (p := 1) rfl _ _ _ _ _ c1 (by omega), fon_fok, if_neg (c := (1 : Int32) = 0) (by decide), show F_X11_b 1 sb = fok (nI (bt sb 1)) () from b_ok (p := 1) sb (by omega), fon_fok, show 1 + 1 = 2 from rfl]
  try dsimp only [mr_size, mr_pos, mr_kind, mr_whr, mr_gw, mr_gh, mr_one, mr_two, mr_three]

  by_cases d1 : bt sb 1 ≤ 1
  case neg => rw [if_neg (c := nI (bt sb 1) ≤ 1) (by (simp (disch := omega) only [nI_toInt, Int32.lt_iff_toInt_lt, Int32.le_iff_toInt_le, ← Int32.toInt_inj, Int32.reduceToInt]; omega)), rf_eq, fon_fex, fon_fex, if_neg (c := nI (bt sb 1) ≤ 1) (by (simp (disch := omega) only [nI_toInt, Int32.lt_iff_toInt_lt, Int32.le_iff_toInt_le, ← Int32.toInt_inj, Int32.reduceToInt]; omega)), wq_wr, fon_fok, if_pos (Or.inl rfl)]; exact w_bad rfl rfl (b_bad _ _ _ _ _ _ _ _ _ _ (by decide))
  rw [if_pos (c := nI (bt sb 1) ≤ 1) (by (simp (disch := omega) only [nI_toInt, Int32.lt_iff_toInt_lt, Int32.le_iff_toInt_le, ← Int32.toInt_inj, Int32.reduceToInt]; omega)), if_pos (c := nI (bt sb 1) ≤ 1) (by (simp (disch := omega) only [nI_toInt, Int32.lt_iff_toInt_lt, Int32.le_iff_toInt_le, ← Int32.toInt_inj, Int32.reduceToInt]; omega))]
  by_cases c2 : 2 + 1 ≤ n
  case neg => rw [nx_no sb (by omega) (by omega), fon_fex, fon_fex, wq_no 1 2 1 rfl (p := 2) rfl _ _ _ _ _ (by omega) (by omega), fon_fok, if_pos rfl]; exact w_bad rfl rfl (b_bad _ _ _ _ _ _ _ _ _ _ (by decide))
  rw [nx_ok sb (by omega) hn, fon_fok, wq_ok 1 2 1 rfl (p := 2) rfl _ _ _ _ _ c2 (by omega), fon_fok, if_neg (c := (1 : Int32) = 0) (by decide), show F_X11_b 2 sb = fok (nI (bt sb 2)) () from b_ok (p := 2) sb (by omega), fon_fok, show 2 + 1 = 3 from rfl]
  try dsimp only [mr_size, mr_pos, mr_kind, mr_whr, mr_gw, mr_gh, mr_one, mr_two, mr_three]

  have hm : bt sb 1 = 0 ∨ bt sb 1 = 1 := by omega
  generalize bt sb 1 = m at *
  generalize bt sb 2 = t at *
  by_cases d2 : ∃ ix gr, okTy t m ix gr
  case neg =>
    obtain ⟨tg2, e⟩ := ty_nc (n := n) sb (fun ix gr h => d2 ⟨ix, gr, h⟩) b2 hm f1 f2 f3 fe mn dp bi fl ab ix pa le li ent
    rw [e, fon_fex, ty_nr sb (fun ix gr h => d2 ⟨ix, gr, h⟩) b2 hm]; exact w_bad rfl rfl (b_bad _ _ _ _ _ _ _ _ _ _ (by decide))
  obtain ⟨ix2, gr, ho⟩ := d2
  rw [ty_yc sb ho hm, fon_fok, ty_yr (n := n) sb ho hm]
  unfold F_X9_readMapHeader F_X11_readTarga_143
  try dsimp only [tg_f1, tg_f2, tg_f3, tg_map, tg_type, tg_fe, tg_many, tg_deep, tg_bits, tg_flags, tg_ab, tg_idx, tg_packets, tg_left, tg_like, tg_ent, mr_size, mr_pos, mr_kind, mr_whr, mr_gw, mr_gh, mr_one, mr_two, mr_three, sc_pos]
  have em : nI m = 0 ↔ m = 0 := nI_inj (b := 0) (by omega) (by omega)
  have z3 : nI (L2 sb 3) = 0 ↔ L2 sb 3 = 0 := nI_inj (b := 0) (by omega) (by omega)
  have z5 : nI (L2 sb 5) = 0 ↔ L2 sb 5 = 0 := nI_inj (b := 0) (by omega) (by omega)
  by_cases c3 : 3 + 2 ≤ n
  case neg => rw [low2_no sb (by omega) (by omega) hn, fon_fex, fon_fex, sh_no 3 (p := 3) rfl _ _ _ _ _ (by omega) (by omega), fon_fok, if_pos rfl]; exact w_bad rfl rfl (b_bad _ _ _ _ _ _ _ _ _ _ (by decide))
  rw [low2_ok sb c3 hn, fon_fok, sh_ok 3 (p := 3) rfl _ _ _ _ _ c3 (by omega), fon_fok, if_neg (c := (1 : Int32) = 0) (by decide), show F_X11_low 3 2 sb = fok (lN (L2 sb 3)) () from lowp2 (p := 3) sb (by omega), fon_fok, lN_i, show 3 + 2 = 5 from rfl]
  try dsimp only [mr_size, mr_pos, mr_kind, mr_whr, mr_gw, mr_gh, mr_one, mr_two, mr_three]

  have one3 : ∀ (α : Type) (D E : α), (¬ (m = 0 ∧ L2 sb 3 ≠ 0)) → (if nI m = 0 then (if nI (L2 sb 3) = 0 then D else E) else D) = D := by
    intro α D E h
    by_cases c : m = 0
    · rw [if_pos (em.mpr c), if_pos (z3.mpr (by omega))]
    · rw [if_neg (fun e => c (em.mp e))]
  by_cases d3 : m = 0 ∧ L2 sb 3 ≠ 0
  · rw [if_pos (em.mpr d3.1), if_neg (fun e => d3.2 (z3.mp e)), rf_eq, fon_fex, fon_fex, if_pos (em.mpr d3.1), if_neg (fun e => d3.2 (z3.mp e)), wq_wr, fon_fok, if_pos (Or.inl rfl)]; exact w_bad rfl rfl (b_bad _ _ _ _ _ _ _ _ _ _ (by decide))
  rw [one3 _ _ _ d3, one3 _ _ _ d3]
  unfold F_X9_readMapHeader_33 F_X11_readTarga_182
  try dsimp only [tg_f1, tg_f2, tg_f3, tg_map, tg_type, tg_fe, tg_many, tg_deep, tg_bits, tg_flags, tg_ab, tg_idx, tg_packets, tg_left, tg_like, tg_ent, mr_size, mr_pos, mr_kind, mr_whr, mr_gw, mr_gh, mr_one, mr_two, mr_three, sc_pos]
  by_cases c5 : 5 + 2 ≤ n
  case neg => rw [low2_no sb (by omega) (by omega) hn, fon_fex, fon_fex, sh_no 5 (p := 5) rfl _ _ _ _ _ (by omega) (by omega), fon_fok, if_pos rfl]; exact w_bad rfl rfl (b_bad _ _ _ _ _ _ _ _ _ _ (by decide))
  rw [low2_ok sb c5 hn, fon_fok, sh_ok 5 (p := 5) rfl _ _ _ _ _ c5 (by omega), fon_fok, if_neg (c := (1 : Int32) = 0) (by decide), show F_X11_low 5 2 sb = fok (lN (L2 sb 5)) () from lowp2 (p := 5) sb (by omega), fon_fok, lN_i, show 5 + 2 = 7 from rfl]
  try dsimp only [mr_size, mr_pos, mr_kind, mr_whr, mr_gw, mr_gh, mr_one, mr_two, mr_three]

  have one5 : ∀ (α : Type) (D E : α), ((m = 0 ↔ L2 sb 5 = 0)) → (if nI m = 0 then (if nI (L2 sb 5) = 0 then D else E) else (if nI (L2 sb 5) = 0 then E else D)) = D := by
    intro α D E h
    by_cases c : m = 0
    · rw [if_pos (em.mpr c), if_pos (z5.mpr (h.mp c))]
    · rw [if_neg (fun e => c (em.mp e)), if_neg (fun e => c (h.mpr (z5.mp e)))]
  have one5n : ∀ (α : Type) (D E : α), (¬ (m = 0 ↔ L2 sb 5 = 0)) → (if nI m = 0 then (if nI (L2 sb 5) = 0 then D else E) else (if nI (L2 sb 5) = 0 then E else D)) = E := by
    intro α D E h
    by_cases c : m = 0
    · rw [if_pos (em.mpr c), if_neg (fun e => h ⟨fun _ => z5.mp e, fun _ => c⟩)]
    · rw [if_neg (fun e => c (em.mp e)), if_pos (z5.mpr (Classical.byContradiction fun e => h ⟨fun q => absurd q c, fun q => absurd q e⟩))]
  by_cases d5 : (m = 0 ↔ L2 sb 5 = 0)
  case neg =>
    unfold F_X9_readMapHeader_70 F_X11_readTarga_222
    rw [one5n _ _ _ d5, rf_eq, fon_fex, fon_fex, one5n _ _ _ d5, wq_wr, fon_fok, if_pos (Or.inl rfl)]; exact w_bad rfl rfl (b_bad _ _ _ _ _ _ _ _ _ _ (by decide))
  rw [one5 _ _ _ d5, one5 _ _ _ d5]
  unfold F_X9_readMapHeader_76 F_X11_readTarga_229
  try dsimp only [tg_f1, tg_f2, tg_f3, tg_map, tg_type, tg_fe, tg_many, tg_deep, tg_bits, tg_flags, tg_ab, tg_idx, tg_packets, tg_left, tg_like, tg_ent, mr_size, mr_pos, mr_kind, mr_whr, mr_gw, mr_gh, mr_one, mr_two, mr_three, sc_pos]
  by_cases c7 : 7 + 1 ≤ n
  case neg => rw [nx_no sb (by omega) (by omega), fon_fex, fon_fex, wq_no 1 7 1 rfl (p := 7) rfl _ _ _ _ _ (by omega) (by omega), fon_fok, if_pos rfl]; exact w_bad rfl rfl (b_bad _ _ _ _ _ _ _ _ _ _ (by decide))
  rw [nx_ok sb (by omega) hn, fon_fok, wq_ok 1 7 1 rfl (p := 7) rfl _ _ _ _ _ c7 (by omega), fon_fok, if_neg (c := (1 : Int32) = 0) (by decide), show F_X11_b 7 sb = fok (nI (bt sb 7)) () from b_ok (p := 7) sb (by omega), fon_fok, show 7 + 1 = 8 from rfl]
  try dsimp only [mr_size, mr_pos, mr_kind, mr_whr, mr_gw, mr_gh, mr_one, mr_two, mr_three]

  unfold F_X9_readMapHeader_125 F_X9_readMapHeader_130 F_X9_readMapHeader_152 F_X11_readTarga_293
  try dsimp only [tg_f1, tg_f2, tg_f3, tg_map, tg_type, tg_fe, tg_many, tg_deep, tg_bits, tg_flags, tg_ab, tg_idx, tg_packets, tg_left, tg_like, tg_ent, mr_size, mr_pos, mr_kind, mr_whr, mr_gw, mr_gh, mr_one, mr_two, mr_three, sc_pos]
  rw [rf_eq, fon_fex, wq_wr, fon_fok, if_pos (c := isB 0) (Or.inl rfl), if_neg (c := (1 : Int32) = 0) (by decide), if_pos (c := (0 : Int32) = 0) rfl]
  have dq : ∀ v : Nat, v < 2 ^ 31 → (nI (bt sb 7) = nI v ↔ bt sb 7 = v) := fun v hv => nI_inj (by omega) (by omega)
  have q0 : nI (bt sb 7) = 0 ↔ bt sb 7 = 0 := dq 0 (by omega)
  have q15 : nI (bt sb 7) = 15 ↔ bt sb 7 = 15 := dq 15 (by omega)
  have q16 : nI (bt sb 7) = 16 ↔ bt sb 7 = 16 := dq 16 (by omega)
  have q24 : nI (bt sb 7) = 24 ↔ bt sb 7 = 24 := dq 24 (by omega)
  have q32 : nI (bt sb 7) = 32 ↔ bt sb 7 = 32 := dq 32 (by omega)
  have dcy : ∀ (D E : Out (Src × Tga) Unit), (m = 0 ∧ bt sb 7 = 0 ∨ m ≠ 0 ∧ okD (bt sb 7)) → (if nI (bt sb 7) = 15 then (if nI m = 0 then (if nI (bt sb 7) = 0 then D else E) else D) else (if nI (bt sb 7) = 16 then (if nI m = 0 then (if nI (bt sb 7) = 0 then D else E) else D) else (if nI (bt sb 7) = 24 then (if nI m = 0 then (if nI (bt sb 7) = 0 then D else E) else D) else (if nI (bt sb 7) = 32 then (if nI m = 0 then (if nI (bt sb 7) = 0 then D else E) else D) else (if nI m = 0 then (if nI (bt sb 7) = 0 then D else E) else E))))) = D := by
    intro D E h
    simp only [q0, q15, q16, q24, q32, em]
    unfold okD at h
    rcases h with h | h
    · rw [if_neg (by omega), if_neg (by omega), if_neg (by omega), if_neg (by omega), if_pos h.1, if_pos h.2]
    · rw [if_neg h.1]
      by_cases k1 : bt sb 7 = 15
      · rw [if_pos k1]
      · rw [if_neg k1]
        by_cases k2 : bt sb 7 = 16
        · rw [if_pos k2]
        · rw [if_neg k2]
          by_cases k3 : bt sb 7 = 24
          · rw [if_pos k3]
          · rw [if_neg k3, if_pos (by omega)]
  have dcn : ∀ (D E : Out (Src × Tga) Unit), ¬ (m = 0 ∧ bt sb 7 = 0 ∨ m ≠ 0 ∧ okD (bt sb 7)) → (if nI (bt sb 7) = 15 then (if nI m = 0 then (if nI (bt sb 7) = 0 then D else E) else D) else (if nI (bt sb 7) = 16 then (if nI m = 0 then (if nI (bt sb 7) = 0 then D else E) else D) else (if nI (bt sb 7) = 24 then (if nI m = 0 then (if nI (bt sb 7) = 0 then D else E) else D) else (if nI (bt sb 7) = 32 then (if nI m = 0 then (if nI (bt sb 7) = 0 then D else E) else D) else (if nI m = 0 then (if nI (bt sb 7) = 0 then D else E) else E))))) = E := by
    intro D E h
    simp only [q0, q15, q16, q24, q32, em]
    unfold okD at h
    by_cases k0 : m = 0
    · rw [if_pos k0, if_neg (c := bt sb 7 = 0) (by omega)]
      simp only [ite_self]
    · rw [if_neg k0, if_neg k0, if_neg (by omega), if_neg (by omega), if_neg (by omega), if_neg (by omega)]
  have dry : ∀ (D E : Out (MR × A × A) Int32), (m = 0 ∧ bt sb 7 = 0 ∨ m ≠ 0 ∧ okD (bt sb 7)) → (if nI m = 0 then (if nI (bt sb 7) = 0 then D else E) else (if nI (bt sb 7) = 15 then D else (if nI (bt sb 7) = 16 then D else (if nI (bt sb 7) = 24 then D else (if nI (bt sb 7) = 32 then D else E))))) = D := by
    intro D E h
    simp only [q0, q15, q16, q24, q32, em]
    unfold okD at h
    rcases h with h | h
    · rw [if_pos h.1, if_pos h.2]
    · rw [if_neg h.1]
      by_cases k1 : bt sb 7 = 15
      · rw [if_pos k1]
      · rw [if_neg k1]
        by_cases k2 : bt sb 7 = 16
        · rw [if_pos k2]
        · rw [if_neg k2]
          by_cases k3 : bt sb 7 = 24
          · rw [if_pos k3]
          · rw [if_neg k3, if_pos (by omega)]
  have drn : ∀ (D E : Out (MR × A × A) Int32), ¬ (m = 0 ∧ bt sb 7 = 0 ∨ m ≠ 0 ∧ okD (bt sb 7)) → (if nI m = 0 then (if nI (bt sb 7) = 0 then D else E) else (if nI (bt sb 7) = 15 then D else (if nI (bt sb 7) = 16 then D else (if nI (bt sb 7) = 24 then D else (if nI (bt sb 7) = 32 then D else E))))) = E := by
    intro D E h
    simp only [q0, q15, q16, q24, q32, em]
    unfold okD at h
    by_cases k0 : m = 0
    · rw [if_pos k0, if_neg (by omega)]
    · rw [if_neg k0, if_neg (by omega), if_neg (by omega), if_neg (by omega), if_neg (by omega)]
  by_cases d7 : m = 0 ∧ bt sb 7 = 0 ∨ m ≠ 0 ∧ okD (bt sb 7)
  case neg => rw [dcn _ _ d7, fon_fex, drn _ _ d7]; exact w_bad rfl rfl (b_bad _ _ _ _ _ _ _ _ _ _ (by decide))
  rw [dcy _ _ d7, fon_fok, dry _ _ d7]
  have hd : okD (bt sb 7) ∨ L2 sb 5 = 0 := by
    rcases d7 with d7 | d7
    · exact Or.inr (d5.mp d7.1)
    · exact Or.inl d7.2
  generalize bt sb 7 = dd at *
  unfold F_X11_readTarga_301
  try dsimp only [mr_size, mr_pos, mr_kind, mr_whr, mr_gw, mr_gh, mr_one, mr_two, mr_three]
  rw [lp_5]
  unfold F_X11_readTarga_307
  try dsimp only [mr_size, mr_pos, mr_kind, mr_whr, mr_gw, mr_gh, mr_one, mr_two, mr_three]
  rw [if_neg (c := (12 : Int32) ≤ 8) (by decide), show (4 : Int32) = nI 4 from rfl]
  by_cases c8 : 8 + 2 ≤ n
  case neg => rw [pass_no sb (by omega) (by omega) hn (by omega), fon_fex, sh_no 8 (p := 8) rfl _ _ _ _ _ (by omega) (by omega), fon_fok, if_pos rfl]; exact w_bad rfl rfl (b_bad _ _ _ _ _ _ _ _ _ _ (by decide))
  rw [sh_ok 8 (p := 8) rfl _ _ _ _ _ c8 (by omega), fon_fok, if_neg (c := (1 : Int32) = 0) (by decide), show (8 : Int32) + 2 = nI 10 from by decide, if_neg (c := 12 ≤ nI 10) (by decide)]
  by_cases c10 : 10 + 2 ≤ n
  case neg => rw [pass_no sb (by omega) (by omega) hn (by omega), fon_fex, sh_no (nI 10) (p := 10) rfl _ _ _ _ _ (by omega) (by omega), fon_fok, if_pos rfl]; exact w_bad rfl rfl (b_bad _ _ _ _ _ _ _ _ _ _ (by decide))
  rw [pass_ok sb (by omega) hn, fon_fok, sh_ok (nI 10) (p := 10) rfl _ _ _ _ _ c10 (by omega), fon_fok, if_neg (c := (1 : Int32) = 0) (by decide), show nI 10 + 2 = nI 12 from by decide, if_pos (c := 12 ≤ nI 12) (by decide), show 8 + 4 = 12 from rfl]
  unfold F_X9_readSize
  try dsimp only [sc_pos]
  by_cases c12 : 12 + 2 ≤ n
  case neg => rw [sd_no sb (by omega) (by omega) hn, fon_fex, fon_fex, sh_no (nI 12) (p := 12) rfl _ _ _ _ _ (by omega) (by omega), fon_fok, if_pos rfl]; exact w_bad rfl rfl (b_bad _ _ _ _ _ _ _ _ _ _ (by decide))
  rw [sh_ok (nI 12) (p := 12) rfl _ _ _ _ _ c12 (by omega), fon_fok, if_neg (c := (1 : Int32) = 0) (by decide), show F_X11_low 12 2 sb = fok (lN (L2 sb 12)) () from lowp2 (p := 12) sb (by omega), fon_fok, lN_i]
  by_cases d12 : L2 sb 12 = 0
  · rw [sd_0 sb c12 hn d12, fon_fex, fon_fex, if_pos (c := nI (L2 sb 12) = 0) (by rw [d12]; rfl), wq_wr, fon_fok, if_pos (Or.inl rfl)]; exact w_bad rfl rfl (b_bad _ _ _ _ _ _ _ _ _ _ (by decide))
  rw [sd_ok sb c12 hn d12, fon_fok, if_neg (c := nI (L2 sb 12) = 0) (nI_ne0 (by omega) (by omega)), show 12 + 2 = 14 from rfl]
  try dsimp only [mr_size, mr_pos, mr_kind, mr_whr, mr_gw, mr_gh, mr_one, mr_two, mr_three]
  by_cases c14 : 14 + 2 ≤ n
  case neg => rw [sd_no sb (by omega) (by omega) hn, fon_fex, fon_fex, sh_no 14 (p := 14) rfl _ _ _ _ _ (by omega) (by omega), fon_fok, if_pos rfl]; exact w_bad rfl rfl (b_bad _ _ _ _ _ _ _ _ _ _ (by decide))
  rw [sh_ok 14 (p := 14) rfl _ _ _ _ _ c14 (by omega), fon_fok, if_neg (c := (1 : Int32) = 0) (by decide), show F_X11_low 14 2 sb = fok (lN (L2 sb 14)) () from lowp2 (p := 14) sb (by omega), fon_fok, lN_i]
  by_cases d14 : L2 sb 14 = 0
  · rw [sd_0 sb c14 hn d14, fon_fex, fon_fex, if_pos (c := nI (L2 sb 14) = 0) (by rw [d14]; rfl), wq_wr, fon_fok, if_pos (Or.inl rfl)]; exact w_bad rfl rfl (b_bad _ _ _ _ _ _ _ _ _ _ (by decide))
  rw [sd_ok sb c14 hn d14, fon_fok, if_neg (c := nI (L2 sb 14) = 0) (nI_ne0 (by omega) (by omega)), show 14 + 2 = 16 from rfl, nI_l (by omega), nI_l (by omega), show (14 : Int32) = nI 14 from rfl]
  generalize L2 sb 12 = W at *
  generalize L2 sb 14 = H at *
  rcases d_lay (n := n) (p := 16) (q := 14) (W := W) (H := H) (by omega) (by omega) (nI 14) x gw gh a b c with ⟨w1, w2, w3, e1, e2⟩ | ⟨e1, e2⟩
  case inr => rw [e1, fon_fex, fon_fex, e2, fon_fok, if_pos rfl]; exact w_bad rfl rfl (b_bad _ _ _ _ _ _ _ _ _ _ (by decide))
  rw [e1, fon_fok, fon_fok, e2, fon_fok, if_neg (c := (1 : Int32) = 0) (by decide)]
  try dsimp only [mr_size, mr_pos, mr_kind, mr_whr, mr_gw, mr_gh, mr_one, mr_two, mr_three]
  unfold F_X9_readBits
  try dsimp only [tg_f1, tg_f2, tg_f3, tg_map, tg_type, tg_fe, tg_many, tg_deep, tg_bits, tg_flags, tg_ab, tg_idx, tg_packets, tg_left, tg_like, tg_ent, mr_size, mr_pos, mr_kind, mr_whr, mr_gw, mr_gh, mr_one, mr_two, mr_three, sc_pos]
  by_cases c16 : 16 + 1 ≤ n
  case neg => rw [nx_no sb (by omega) (by omega), fon_fex, fon_fex, wq_no 1 16 1 rfl (p := 16) rfl _ _ _ _ _ (by omega) (by omega), fon_fok, if_pos rfl]; exact w_bad rfl rfl (b_bad _ _ _ _ _ _ _ _ _ _ (by decide))
  rw [nx_ok sb (by omega) hn, fon_fok, wq_ok 1 16 1 rfl (p := 16) rfl _ _ _ _ _ c16 (by omega), fon_fok, if_neg (c := (1 : Int32) = 0) (by decide), show F_X11_b 16 sb = fok (nI (bt sb 16)) () from b_ok (p := 16) sb (by omega), fon_fok, show 16 + 1 = 17 from rfl]
  try dsimp only [mr_size, mr_pos, mr_kind, mr_whr, mr_gw, mr_gh, mr_one, mr_two, mr_three]

  have okb : ∀ bb, bb < 256 → (okTB t bb ix2 gr ∧ (∀ (E : Out (MR × A × A) Int32) , True)) ∨ ¬ okTB t bb ix2 gr := fun bb _ => by
    by_cases c : okTB t bb ix2 gr
    · exact Or.inl ⟨c, fun _ => trivial⟩
    · exact Or.inr c
  generalize bt sb 16 = bb at *
  have r16 : nI bb = 16 ↔ bb = 16 := nI_inj (b := 16) (by omega) (by omega)
  have r24 : nI bb = 24 ↔ bb = 24 := nI_inj (b := 24) (by omega) (by omega)
  have r32 : nI bb = 32 ↔ bb = 32 := nI_inj (b := 32) (by omega) (by omega)
  have r8 : nI bb = 8 ↔ bb = 8 := nI_inj (b := 8) (by omega) (by omega)
  have bc : ∀ (m2 f v : Int32), (okTB t bb ix2 gr → (if (nI t &&& 7) = 2 then F_X9_readBits_29 sb (nI 16) 1 (Sr n 17) (f1, f2, f3, m2, nI t, nI (L2 sb 3), nI (L2 sb 5), nI dd, nI bb, fl, ab, nI ix2, pa, le, li, ent) else F_X9_readBits_29 sb (nI 16) 0 (Sr n 17) (f1, f2, f3, m2, nI t, nI (L2 sb 3), nI (L2 sb 5), nI dd, nI bb, fl, ab, nI ix2, pa, le, li, ent)) = fok () (Sr n 17, (f1, f2, f3, m2, nI t, nI (L2 sb 3), nI (L2 sb 5), nI dd, nI bb, fl, ab, nI ix2, pa, le, li, ent))) ∧ (¬ okTB t bb ix2 gr → (if (nI t &&& 7) = 2 then F_X9_readBits_29 sb (nI 16) 1 (Sr n 17) (f1, f2, f3, m2, nI t, nI (L2 sb 3), nI (L2 sb 5), nI dd, nI bb, fl, ab, nI ix2, pa, le, li, ent) else F_X9_readBits_29 sb (nI 16) 0 (Sr n 17) (f1, f2, f3, m2, nI t, nI (L2 sb 3), nI (L2 sb 5), nI dd, nI bb, fl, ab, nI ix2, pa, le, li, ent)) = fex ISE ((nI n, nI 17, 2, nI 16), (f1, f2, f3, m2, nI t, nI (L2 sb 3), nI (L2 sb 5), nI dd, nI bb, fl, ab, nI ix2, pa, le, li, ent))) := by
    intro m2 f v
    unfold F_X9_readBits_29 F_X9_readBits_61 F_X9_readBits_83
    try dsimp only [tg_f1, tg_f2, tg_f3, tg_map, tg_type, tg_fe, tg_many, tg_deep, tg_bits, tg_flags, tg_ab, tg_idx, tg_packets, tg_left, tg_like, tg_ent]
    rw [rf_eq, fon_fex, if_neg (c := (1 : Int32) = 0) (by decide), if_pos (c := (0 : Int32) = 0) rfl, if_neg (c := (1 : Int32) = 0) (by decide), if_pos (c := (0 : Int32) = 0) rfl]
    simp only [r16, r24, r32, r8]
    unfold okTB
    rcases ho with ⟨rfl, rfl, ht⟩ | ⟨rfl, rfl, ht⟩ | ⟨rfl, rfl, ht, _⟩
    · have e2 : (nI t &&& 7) = 2 := by rcases ht with rfl | rfl <;> decide
      rw [if_pos e2]
      constructor
      · intro h
        by_cases k1 : bb = 16
        · rw [if_pos k1]
        · rw [if_neg k1]
          by_cases k2 : bb = 24
          · rw [if_pos k2]
          · rw [if_neg k2, if_pos (by omega)]
      · intro h; rw [if_neg (by omega), if_neg (by omega), if_neg (by omega)]
    · have e2 : ¬ (nI t &&& 7) = 2 := by rcases ht with rfl | rfl <;> decide
      rw [if_neg e2]
      constructor
      · intro h; rw [if_pos (by omega)]
      · intro h; rw [if_neg (by omega)]
    · have e2 : ¬ (nI t &&& 7) = 2 := by rcases ht with rfl | rfl <;> decide
      rw [if_neg e2]
      constructor
      · intro h; rw [if_pos (by omega)]
      · intro h; rw [if_neg (by omega)]
  have br : ∀ (D E : Out (MR × A × A) Int32), (okTB t bb ix2 gr → (if nI ix2 = 0 then (if nI gr = 0 then (if nI bb = 16 then D else (if nI bb = 24 then D else (if nI bb = 32 then D else E))) else (if nI bb = 8 then D else E)) else (if nI bb = 8 then D else E)) = D) ∧ (¬ okTB t bb ix2 gr → (if nI ix2 = 0 then (if nI gr = 0 then (if nI bb = 16 then D else (if nI bb = 24 then D else (if nI bb = 32 then D else E))) else (if nI bb = 8 then D else E)) else (if nI bb = 8 then D else E)) = E) := by
    intro D E
    simp only [r16, r24, r32, r8]
    unfold okTB
    rcases ho with ⟨rfl, rfl, ht⟩ | ⟨rfl, rfl, ht⟩ | ⟨rfl, rfl, ht, _⟩
    · rw [if_pos (c := nI 0 = 0) rfl, if_pos (c := nI 0 = 0) rfl]
      constructor
      · intro h
        by_cases k1 : bb = 16
        · rw [if_pos k1]
        · rw [if_neg k1]
          by_cases k2 : bb = 24
          · rw [if_pos k2]
          · rw [if_neg k2, if_pos (by omega)]
      · intro h; rw [if_neg (by omega), if_neg (by omega), if_neg (by omega)]
    · rw [if_pos (c := nI 0 = 0) rfl, if_neg (c := nI 1 = 0) (by decide)]
      constructor
      · intro h; rw [if_pos (by omega)]
      · intro h; rw [if_neg (by omega)]
    · rw [if_neg (c := nI 1 = 0) (by decide)]
      constructor
      · intro h; rw [if_pos (by omega)]
      · intro h; rw [if_neg (by omega)]
  unfold F_X11_readTarga_459 F_X11_readTarga_490
  try dsimp only [mr_size, mr_pos, mr_kind, mr_whr, mr_gw, mr_gh, mr_one, mr_two, mr_three]
  rw [wq_wr, fon_fok, if_pos (c := isB 0) (Or.inl rfl)]
  by_cases d16 : okTB t bb ix2 gr
  case neg => rw [(bc _ 0 0).2 d16, fon_fex, (br _ _).2 d16]; exact w_bad rfl rfl (b_bad _ _ _ _ _ _ _ _ _ _ (by decide))
  rw [(bc _ 0 0).1 d16, fon_fok, (br _ _).1 d16]
  unfold F_X9_readFlags F_X11_readTarga_498
  try dsimp only [tg_f1, tg_f2, tg_f3, tg_map, tg_type, tg_fe, tg_many, tg_deep, tg_bits, tg_flags, tg_ab, tg_idx, tg_packets, tg_left, tg_like, tg_ent, mr_size, mr_pos, mr_kind, mr_whr, mr_gw, mr_gh, mr_one, mr_two, mr_three, sc_pos]
  by_cases c17 : 17 + 1 ≤ n
  case neg => rw [nx_no sb (by omega) (by omega), fon_fex, fon_fex, wq_no 1 17 1 rfl (p := 17) rfl _ _ _ _ _ (by omega) (by omega), fon_fok, if_pos rfl]; exact w_bad rfl rfl (b_bad _ _ _ _ _ _ _ _ _ _ (by decide))
  rw [nx_ok sb (by omega) hn, fon_fok, wq_ok 1 17 1 rfl (p := 17) rfl _ _ _ _ _ c17 (by omega), fon_fok, if_neg (c := (1 : Int32) = 0) (by decide), show F_X11_b 17 sb = fok (nI (bt sb 17)) () from b_ok (p := 17) sb (by omega), fon_fok, show 17 + 1 = 18 from rfl]
  try dsimp only [mr_size, mr_pos, mr_kind, mr_whr, mr_gw, mr_gh, mr_one, mr_two, mr_three]

  rw [pk_andN (by omega) (m := 15) 4 rfl, show 2 ^ 4 = 16 from rfl]
  generalize bt sb 17 = f17 at *
  obtain ⟨co, hco, eC, eR⟩ : ∃ co : Nat, co < 256 ∧ (∀ (f : Int32 → Out (Src × Tga) Unit), (if nI ix2 = 0 then f (nI bb) else f (nI dd)) = f (nI co)) ∧ (∀ (f : Int32 → Out (MR × A × A) Int32), (if nI ix2 = 0 then f (nI bb) else f (nI dd)) = f (nI co)) := by
    by_cases k : nI ix2 = 0
    · exact ⟨bb, b16, fun f => by rw [if_pos k], fun f => by rw [if_pos k]⟩
    · exact ⟨dd, b7, fun f => by rw [if_neg k], fun f => by rw [if_neg k]⟩
  rw [eC (fun t0 => F_X9_readFlags_42 sb (nI 17) t0 (Sr n 18) (f1, f2, f3, nI m, nI t, nI (L2 sb 3), nI (L2 sb 5), nI dd, nI bb, nI f17, nI (f17 % 16), nI ix2, pa, le, li, ent)), eR (fun t0 => F_X11_readTarga_541 sb (nI (bt sb 0)) (nI t) (nI ix2) (nI gr) (nI (L2 sb 3)) (nI (L2 sb 5)) (nI dd) (nI bb) (nI f17) (nI (f17 % 16)) t0 (nI n, 17, 0, -1, nI W, nI H, a, b, c) gt ta)]
  have FC := fl_c (n := n) (fl := f17) (co := co) sb b17 hco (f1, f2, f3, nI m, nI t, nI (L2 sb 3), nI (L2 sb 5), nI dd, nI bb, nI f17, nI (f17 % 16), nI ix2, pa, le, li, ent) rfl rfl
  have FR := fl_r (n := n) (fl := f17) (co := co) sb b17 hco (nI (bt sb 0)) (nI t) (nI ix2) (nI gr) (nI (L2 sb 3)) (nI (L2 sb 5)) (nI dd) (nI bb) 17 (nI W) (nI H) a b c gt ta
  by_cases d17 : okF f17 co
  case neg => rw [FC.2 d17, fon_fex, FR.2 d17]; exact w_bad rfl rfl (b_bad _ _ _ _ _ _ _ _ _ _ (by decide))
  rw [FC.1 d17, fon_fok, FR.1 d17]
  unfold F_X11_readTarga_592
  try dsimp only [mr_size, mr_pos, mr_kind, mr_whr, mr_gw, mr_gh, mr_one, mr_two, mr_three]
  by_cases c18 : 18 + bt sb 0 ≤ n
  case neg => rw [pass_no sb (by omega) (by omega) hn (by omega), fon_fex, wq_no _ 18 (bt sb 0) rfl (p := 18) rfl _ _ _ _ _ (by omega) (by omega), fon_fok, if_pos rfl]; exact w_bad rfl rfl (b_bad _ _ _ _ _ _ _ _ _ _ (by decide))
  rw [pass_ok sb c18 hn, fon_fok, wq_ok _ 18 (bt sb 0) rfl (p := 18) rfl _ _ _ _ _ c18 (by omega), fon_fok, if_neg (c := (1 : Int32) = 0) (by decide)]
  try dsimp only [mr_size, mr_pos, mr_kind, mr_whr, mr_gw, mr_gh, mr_one, mr_two, mr_three]
  have ed : (nI dd + 7) / 8 = nI ((dd + 7) / 8) := by
    rw [show nI dd + 7 = nI (dd + 7) from nI_add _ 7, show (8 : Int32) = nI 8 from rfl, pk_div (by omega) (by omega) (by omega)]
  have hpd : L2 sb 5 * ((dd + 7) / 8) ≤ 65535 * 32 := Nat.mul_le_mul (by omega) (by omega)
  rw [ed, pk_mul, show (18 : Int32) + nI (bt sb 0) = nI (18 + bt sb 0) from nI_add 18 _]
  have EC := en_c (n := n) (p := 18 + bt sb 0) (fe := L2 sb 3) (mn := L2 sb 5) (d := dd) (ab := f17 % 16) sb hd c18 hn (by omega) (by omega) (by omega) f1 f2 f3 (nI m) (nI t) (nI bb) (nI f17) (nI ix2) pa le li ent
  by_cases cE : 18 + bt sb 0 + L2 sb 5 * ((dd + 7) / 8) ≤ n
  case neg =>
    obtain ⟨tg2, e⟩ := EC.2 (by omega)
    rw [e, fon_fex, wt_no _ _ rfl _ _ _ _ _ (by omega) (by omega), fon_fok, if_pos rfl]; exact w_bad rfl rfl (b_bad _ _ _ _ _ _ _ _ _ _ (by decide))
  obtain ⟨ent2, e, hent⟩ := EC.1 cE
  obtain ⟨ta2, r, hta⟩ := en_r (n := n) (p := 18 + bt sb 0) (mn := L2 sb 5) (d := dd) (ab := f17 % 16) sb hd rfl hn (by omega) (by omega) cE (nI t) (nI ix2) (nI gr) (nI (L2 sb 3)) (nI bb) (nI f17) (nI W) (nI H) a b c gt ta
  rw [e, fon_fok, wt_ok _ _ rfl _ _ _ _ _ cE (by omega), fon_fok, if_neg (c := (1 : Int32) = 0) (by decide), r]
  have hee : ix2 = 1 → ∀ k, k < L2 sb 5 → L2 sb 3 + k < 256 → ent2 (L2 sb 3 + k) = ta2 k := by
    intro hi k hk hk2
    rw [hent k hk hk2, hta (by subst hi; decide) k hk]
  rcases t_pix (W := W) (H := H) (fl := f17) (fe := L2 sb 3) (mn := L2 sb 5) (ab := f17 % 16) sb d16 cE hn w1 w2 (by omega) w3 (by omega) (by omega) (by omega) f1 f2 f3 (nI m) (nI dd) pa le li ent2 ta2 (x_p x) gt hee with ⟨q, px, gt2, tg2, hq, g1, g2, r1, r2, hx⟩ | ⟨x2, sc, tg2, mr, gt2, r1, r2, hb⟩
  case inr => rw [r1, fon_fex, r2]; exact w_bad rfl rfl hb
  rw [r1, fon_fok, r2]
  unfold F_X9_readFooter F_X9_readFooter_30 E721 F_X11_readTarga_1102
  try dsimp only [sc_pos, sc_size, mr_size, mr_pos, mr_kind, mr_whr, mr_gw, mr_gh, mr_one, mr_two, mr_three]
  have eqn : nI q = nI n ↔ q = n := nI_eq (by omega) (by omega)
  by_cases k1 : q = n
  · subst k1
    rw [if_pos rfl, fon_fok, if_pos rfl]
    exact Or.inl ⟨W, H, px, _, _, _, by omega, by omega, w1, w2, w3, rfl, rfl, rfl, rfl, g1, g2, rfl, hx⟩
  rw [if_neg (fun e => k1 (eqn.mp e)), if_neg (fun e => k1 (eqn.mp e)), pk_sub hq]
  unfold F_X11_isTail
  try dsimp only [mr_size, mr_pos, mr_kind, mr_whr, mr_gw, mr_gh, mr_one, mr_two, mr_three]
  rw [pk_sub hq, wr_eq, fon_fok, if_pos (c := (0 : Int32) = 0) rfl]
  by_cases k2 : n - q = 26
  · rw [if_pos (c := nI (n - q) = 26) (by rw [k2]; rfl), if_pos (c := nI (n - q) = 26) (by rw [k2]; rfl)]
    rcases foot sb hq hn (by omega) (nI W) (nI H) (nI t) (nI bb) (tg_packets tg2) with ⟨v1, v2⟩ | ⟨e5, v1, v2⟩
    · rw [v1, fon_fok, v2, fon_fok, if_neg (by decide)]
      exact Or.inl ⟨W, H, px, _, _, _, by omega, by omega, w1, w2, w3, rfl, rfl, rfl, rfl, g1, g2, rfl, hx⟩
    · rw [v1, fon_fex, v2, fon_fok, if_pos rfl]; exact w_bad rfl rfl (b_bad _ _ _ _ _ _ _ _ _ _ (by decide))
  · rw [if_neg (c := nI (n - q) = 26) (by (simp (disch := omega) only [nI_toInt, Int32.lt_iff_toInt_lt, Int32.le_iff_toInt_le, ← Int32.toInt_inj, Int32.reduceToInt]; omega)), if_neg (c := nI (n - q) = 26) (by (simp (disch := omega) only [nI_toInt, Int32.lt_iff_toInt_lt, Int32.le_iff_toInt_le, ← Int32.toInt_inj, Int32.reduceToInt]; omega)), fon_fok, if_pos rfl]
    rw [show lp (fun _ _ _ _ => fno) (F_X9_readFooter_33 sb) FU (nI q) 0 0 (Sr n q) = fex ISE (nI n, nI q, 5, nI q) from by
      rw [lp_5]; unfold F_X9_readFooter_33 F_X9_readFooter_106; rw [if_pos rfl, if_pos rfl, rf_eq, fon_fex], fon_fex]
    exact w_bad rfl rfl (b_bad _ _ _ _ _ _ _ _ _ _ (by decide))
