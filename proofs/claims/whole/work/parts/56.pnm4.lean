theorem endK {n p : Nat} (hp : p ≤ n) (hn : n ≤ 65536) (sb : A) (x : Ras) (pn : Pnm) (w g one two three : Int32) (gt : A) :
    (F_X5_decode_132 sb x (Sr n p) pn = fok () (x, Sr n n, pn) ∧ KB (Mr n p w g one two three) gt = fok 1 (Mr n n w g one two three, gt)) ∨
    ∃ sc mr, F_X5_decode_132 sb x (Sr n p) pn = fex ISE (x, sc, pn) ∧ KB (Mr n p w g one two three) gt = fok 0 (mr, gt) ∧ Bad sc mr := by
  unfold F_X5_decode_132 KB
  by_cases c : p = n
  · subst c
    rw [end_ok, fon_fok, cl_ok, fon_fok, if_pos (Or.inr rfl)]
    exact Or.inl ⟨rfl, rfl⟩
  · rw [end_no (by omega) hn, fon_fex, cl_no _ _ _ _ _ (by omega) hn, fon_fok, if_pos (Or.inl rfl)]
    exact Or.inr ⟨_, _, rfl, rfl, b_bad _ _ _ _ _ _ _ _ _ _ (by decide)⟩
theorem endT {n p : Nat} (hp : p ≤ n) (hn : n ≤ 65536) (sb : A) (x : Ras) (pn : Pnm) (hf : ¬ 3 < pn_f1 pn) (w g one two three : Int32) (gt : A) :
    (F_X5_decode_120 sb x (Sr n p) pn = fok () (x, Sr n n, pn) ∧ KT sb (Mr n p w g one two three) gt = fok 1 (Mr n n w g one two three, gt)) ∨
    ∃ sc mr, F_X5_decode_120 sb x (Sr n p) pn = fex ISE (x, sc, pn) ∧ KT sb (Mr n p w g one two three) gt = fok 0 (mr, gt) ∧ Bad sc mr := by
  unfold F_X5_decode_120 KT
  have hs := sk_in sb n (n - p) 0 (by omega)
  rw [if_neg hf, c_skip sb hp hn, fon_fok, r_skip sb hp hn, fon_fok]
  exact endK hs.2 hn sb x pn w g one two three gt
theorem endB {n p : Nat} (hp : p ≤ n) (hn : n ≤ 65536) (sb : A) (x : Ras) (pn : Pnm) (hf : 3 < pn_f1 pn) (w g one two three : Int32) (gt : A) :
    (F_X5_decode_120 sb x (Sr n p) pn = fok () (x, Sr n n, pn) ∧ KB (Mr n p w g one two three) gt = fok 1 (Mr n n w g one two three, gt)) ∨
    ∃ sc mr, F_X5_decode_120 sb x (Sr n p) pn = fex ISE (x, sc, pn) ∧ KB (Mr n p w g one two three) gt = fok 0 (mr, gt) ∧ Bad sc mr := by
  unfold F_X5_decode_120
  rw [if_pos hf]
  exact endK hp hn sb x pn w g one two three gt
/-- from the pixels on -/
theorem pn_body {n W H p M k : Nat} (sb : A) (hp : p ≤ n) (hn : n ≤ 65536) (hW1 : 1 ≤ W) (hH1 : 1 ≤ H) (hW : W ≤ 4096) (hH : H ≤ 4096) (hT : W * H ≤ 4096) (h1 : 1 ≤ M) (h2 : M ≤ 65535) (hk : 1 ≤ k ∧ k ≤ 6) (f3 np three : Int32) (px gt : A) :
    DRes n (F_X5_decode_74 sb (nI W, nI H, px) (Sr n p) (nI k, nI M, f3, np)) (F_X11_readMaps_300 sb (Mr n p (nI W) (nI H) (nI k) (nI M) three) gt) pn_f1 pn_f2 pn_f3 (fun q => q) := by
  have ha : 1 ≤ W * H := Nat.mul_pos hW1 hH1
  unfold F_X5_decode_74 F_X11_readMaps_300
  dsimp only [pn_f1, pn_f2, pn_f3, pn_np, sc_pos, mr_size, mr_pos, mr_kind, mr_whr, mr_gw, mr_gh, mr_one, mr_two, mr_three]
  rcases (by omega : k = 1 ∨ k = 4 ∨ k = 2 ∨ k = 3 ∨ k = 5 ∨ k = 6) with rfl | rfl | rfl | rfl | rfl | rfl
  · rw [if_pos (by decide), if_pos (by decide)]
    rcases pn_signs sb hp hn hT ha (nI 1) (nI M) (nI p) px gt with ⟨q, px2, gt2, hq, e1, e2, hx⟩ | ⟨x, sc, mr, gt2, e1, e2, hb⟩
    case inr => rw [e1, fon_fex, e2, fon_fok, if_pos (Or.inl rfl)]; exact d_bad rfl rfl hb
    rw [e1, fon_fok, e2]
    rcases endT hq hn sb (nI W, nI H, px2) (nI 1, nI M, nI p, np) (by show ¬ (3 : Int32) < nI 1; decide) (nI W) (nI H) (nI 1) (nI M) (nI p) gt2 with ⟨u1, u2⟩ | ⟨sc, mr, u1, u2, hb⟩
    case inr => rw [u1, u2, fon_fok, if_pos (Or.inl rfl)]; exact d_bad rfl rfl hb
    rw [u1, u2, fon_fok, if_pos (Or.inr rfl)]
    exact Or.inl ⟨W, H, px2, _, _, _, _, _, hW1, hH1, hW, hH, hT, rfl, rfl, rfl, rfl, rfl, hx⟩
  · rw [if_neg (c := nI 4 = 1) (by decide), if_pos (c := nI 4 = 4) (by decide), if_neg (c := nI 4 = 1) (by decide), if_pos (c := 4 ≤ nI 4) (by decide), if_pos (c := nI 4 = 4) (by decide)]
    rcases pn_bits sb hp hn hW hH hW1 hT (nI 4) (nI M) (nI p) px gt with ⟨q, px2, gt2, hq, e1, e2, hx⟩ | ⟨x, sc, mr, gt2, e1, e2, hb⟩
    case inr => rw [e1, fon_fex, e2, fon_fok, if_pos (Or.inl rfl)]; exact d_bad rfl rfl hb
    rw [e1, fon_fok, e2]
    rcases endB hq hn sb (nI W, nI H, px2) (nI 4, nI M, nI p, np) (by show (3 : Int32) < nI 4; decide) (nI W) (nI H) (nI 4) (nI M) (nI p) gt2 with ⟨u1, u2⟩ | ⟨sc, mr, u1, u2, hb⟩
    case inr => rw [u1, u2, fon_fok, if_pos (Or.inl rfl)]; exact d_bad rfl rfl hb
    rw [u1, u2, fon_fok, if_pos (Or.inr rfl)]
    exact Or.inl ⟨W, H, px2, _, _, _, _, _, hW1, hH1, hW, hH, hT, rfl, rfl, rfl, rfl, rfl, hx⟩
  · rw [if_neg (c := nI 2 = 1) (by decide), if_neg (c := nI 2 = 4) (by decide), if_neg (c := nI 2 = 1) (by decide)]
    rw [if_neg (c := 4 ≤ nI 2) (by decide)]
    unfold F_X5_readSamples F_X5_readSamples_17 F_X5_readSamples_22 F_X11_readNumbers F_X11_readNumbers_13
    dsimp only [pn_f1, mr_one, mr_two]
    rw [if_neg (c := nI 2 = 3) (by decide), if_neg (c := nI 2 = 6) (by decide), ut_count rfl rfl, fon_fok, if_pos (c := nI 2 = 2) (by decide)]
    rcases pn_T0 sb hp hn hT h1 h2 (nI 2) (nI p) (nI 2) (nI p) np (by show ¬ (3 : Int32) < nI 2; decide) px gt with ⟨q, px2, gt2, np2, hq, e1, e2, hx⟩ | ⟨x, sc, pn, mr, gt2, e1, e2, hb⟩
    case inr => rw [e1, fon_fex, e2, fon_fok, if_pos (Or.inl rfl)]; exact d_bad rfl rfl hb
    rw [e1, fon_fok, e2]
    rcases endT hq hn sb (nI W, nI H, px2) (nI 2, nI M, nI p, np2) (by show ¬ (3 : Int32) < nI 2; decide) (nI W) (nI H) (nI 2) (nI M) (nI p) gt2 with ⟨u1, u2⟩ | ⟨sc, mr, u1, u2, hb⟩
    case inr => rw [u1, u2, fon_fok, if_pos (Or.inl rfl)]; exact d_bad rfl rfl hb
    rw [u1, u2, fon_fok, if_pos (Or.inr rfl)]
    exact Or.inl ⟨W, H, px2, _, _, _, _, _, hW1, hH1, hW, hH, hT, rfl, rfl, rfl, rfl, rfl, hx⟩
  · rw [if_neg (c := nI 3 = 1) (by decide), if_neg (c := nI 3 = 4) (by decide), if_neg (c := nI 3 = 1) (by decide)]
    rw [if_neg (c := 4 ≤ nI 3) (by decide)]
    unfold F_X5_readSamples F_X5_readSamples_17 F_X5_readSamples_22 F_X11_readNumbers F_X11_readNumbers_13
    dsimp only [pn_f1, mr_one, mr_two]
    rw [if_pos (c := nI 3 = 3) (by decide), ut_count rfl rfl, fon_fok, if_neg (c := nI 3 = 2) (by decide)]
    rcases pn_T1 sb hp hn hT h1 h2 (nI 3) (nI p) (nI 3) (nI p) np (by show ¬ (3 : Int32) < nI 3; decide) px gt with ⟨q, px2, gt2, np2, hq, e1, e2, hx⟩ | ⟨x, sc, pn, mr, gt2, e1, e2, hb⟩
    case inr => rw [e1, fon_fex, e2, fon_fok, if_pos (Or.inl rfl)]; exact d_bad rfl rfl hb
    rw [e1, fon_fok, e2]
    rcases endT hq hn sb (nI W, nI H, px2) (nI 3, nI M, nI p, np2) (by show ¬ (3 : Int32) < nI 3; decide) (nI W) (nI H) (nI 3) (nI M) (nI p) gt2 with ⟨u1, u2⟩ | ⟨sc, mr, u1, u2, hb⟩
    case inr => rw [u1, u2, fon_fok, if_pos (Or.inl rfl)]; exact d_bad rfl rfl hb
    rw [u1, u2, fon_fok, if_pos (Or.inr rfl)]
    exact Or.inl ⟨W, H, px2, _, _, _, _, _, hW1, hH1, hW, hH, hT, rfl, rfl, rfl, rfl, rfl, hx⟩
  · rw [if_neg (c := nI 5 = 1) (by decide), if_neg (c := nI 5 = 4) (by decide), if_neg (c := nI 5 = 1) (by decide)]
    rw [if_pos (c := 4 ≤ nI 5) (by decide), if_neg (c := nI 5 = 4) (by decide)]
    unfold F_X5_readSamples F_X5_readSamples_17 F_X5_readSamples_22 F_X11_readSamples F_X11_readSamples_13 F_X11_readSamples_29
    dsimp only [pn_f1, mr_one, mr_two]
    rw [if_neg (c := nI 5 = 3) (by decide), if_neg (c := nI 5 = 6) (by decide), ut_count rfl rfl, fon_fok, if_pos (c := nI 5 = 5) (by decide)]
    have em : (if 256 ≤ nI M then lp (fun _ _ _ _ _ => fno) (F_X11_readSamples_32 sb) FU 1 2 0 (Mr n p (nI W) (nI H) (nI 5) (nI M) (nI p)) gt else lp (fun _ _ _ _ _ => fno) (F_X11_readSamples_32 sb) FU 1 1 0 (Mr n p (nI W) (nI H) (nI 5) (nI M) (nI p)) gt) = lp (fun _ _ _ _ _ => fno) (F_X11_readSamples_32 sb) FU 1 (if 256 ≤ M then 2 else 1) 0 (Mr n p (nI W) (nI H) (nI 5) (nI M) (nI p)) gt := by
      by_cases c : 256 ≤ M
      · rw [if_pos (by (simp (disch := omega) only [nI_toInt, Int32.lt_iff_toInt_lt, Int32.le_iff_toInt_le, ← Int32.toInt_inj, Int32.reduceToInt]; omega)), if_pos c]
      · rw [if_neg (by (simp (disch := omega) only [nI_toInt, Int32.lt_iff_toInt_lt, Int32.le_iff_toInt_le, ← Int32.toInt_inj, Int32.reduceToInt]; omega)), if_neg c]
    rw [em]
    rcases pn_B0 sb hp hn hT h1 h2 (nI 5) (nI p) (nI 5) (nI p) np (by show (3 : Int32) < nI 5; decide) px gt with ⟨q, px2, gt2, np2, hq, e1, e2, hx⟩ | ⟨x, sc, pn, mr, gt2, e1, e2, hb⟩
    case inr => rw [e1, fon_fex, e2, fon_fok, if_pos (Or.inl rfl)]; exact d_bad rfl rfl hb
    rw [e1, fon_fok, e2]
    rcases endB hq hn sb (nI W, nI H, px2) (nI 5, nI M, nI p, np2) (by show (3 : Int32) < nI 5; decide) (nI W) (nI H) (nI 5) (nI M) (nI p) gt2 with ⟨u1, u2⟩ | ⟨sc, mr, u1, u2, hb⟩
    case inr => rw [u1, u2, fon_fok, if_pos (Or.inl rfl)]; exact d_bad rfl rfl hb
    rw [u1, u2, fon_fok, if_pos (Or.inr rfl)]
    exact Or.inl ⟨W, H, px2, _, _, _, _, _, hW1, hH1, hW, hH, hT, rfl, rfl, rfl, rfl, rfl, hx⟩
  · rw [if_neg (c := nI 6 = 1) (by decide), if_neg (c := nI 6 = 4) (by decide), if_neg (c := nI 6 = 1) (by decide)]
    rw [if_pos (c := 4 ≤ nI 6) (by decide), if_neg (c := nI 6 = 4) (by decide)]
    unfold F_X5_readSamples F_X5_readSamples_17 F_X5_readSamples_22 F_X11_readSamples F_X11_readSamples_13 F_X11_readSamples_29
    dsimp only [pn_f1, mr_one, mr_two]
    rw [if_neg (c := nI 6 = 3) (by decide), if_pos (c := nI 6 = 6) (by decide), ut_count rfl rfl, fon_fok, if_neg (c := nI 6 = 5) (by decide)]
    have em : (if 256 ≤ nI M then lp (fun _ _ _ _ _ => fno) (F_X11_readSamples_32 sb) FU 3 2 0 (Mr n p (nI W) (nI H) (nI 6) (nI M) (nI p)) gt else lp (fun _ _ _ _ _ => fno) (F_X11_readSamples_32 sb) FU 3 1 0 (Mr n p (nI W) (nI H) (nI 6) (nI M) (nI p)) gt) = lp (fun _ _ _ _ _ => fno) (F_X11_readSamples_32 sb) FU 3 (if 256 ≤ M then 2 else 1) 0 (Mr n p (nI W) (nI H) (nI 6) (nI M) (nI p)) gt := by
      by_cases c : 256 ≤ M
      · rw [if_pos (by (simp (disch := omega) only [nI_toInt, Int32.lt_iff_toInt_lt, Int32.le_iff_toInt_le, ← Int32.toInt_inj, Int32.reduceToInt]; omega)), if_pos c]
      · rw [if_neg (by (simp (disch := omega) only [nI_toInt, Int32.lt_iff_toInt_lt, Int32.le_iff_toInt_le, ← Int32.toInt_inj, Int32.reduceToInt]; omega)), if_neg c]
    rw [em]
    rcases pn_B1 sb hp hn hT h1 h2 (nI 6) (nI p) (nI 6) (nI p) np (by show (3 : Int32) < nI 6; decide) px gt with ⟨q, px2, gt2, np2, hq, e1, e2, hx⟩ | ⟨x, sc, pn, mr, gt2, e1, e2, hb⟩
    case inr => rw [e1, fon_fex, e2, fon_fok, if_pos (Or.inl rfl)]; exact d_bad rfl rfl hb
    rw [e1, fon_fok, e2]
    rcases endB hq hn sb (nI W, nI H, px2) (nI 6, nI M, nI p, np2) (by show (3 : Int32) < nI 6; decide) (nI W) (nI H) (nI 6) (nI M) (nI p) gt2 with ⟨u1, u2⟩ | ⟨sc, mr, u1, u2, hb⟩
    case inr => rw [u1, u2, fon_fok, if_pos (Or.inl rfl)]; exact d_bad rfl rfl hb
    rw [u1, u2, fon_fok, if_pos (Or.inr rfl)]
    exact Or.inl ⟨W, H, px2, _, _, _, _, _, hW1, hH1, hW, hH, hT, rfl, rfl, rfl, rfl, rfl, hx⟩
theorem ob_ok {n p : Nat} (sb : A) (h : p < n) (hn : n ≤ 65536) (hb : isbl (bt sb p)) : F_X5_readOneBlank (Sr n p) sb = fok () (Sr n (p + 1)) := by
  unfold F_X5_readOneBlank
  rw [nx_ok sb h hn, fon_fok, blank_eq, blank_y hb (bt_lt _ _), if_neg (by decide)]
theorem pn_62 {n W H p M k : Nat} (sb : A) (hp : p ≤ n) (hn : n ≤ 65536) (hW1 : 1 ≤ W) (hH1 : 1 ≤ H) (hW : W ≤ 4096) (hH : H ≤ 4096) (hT : W * H ≤ 4096) (h1 : 1 ≤ M) (h2 : M ≤ 65535) (hk : 1 ≤ k ∧ k ≤ 6) (f3 np three : Int32) (px gt : A) :
    DRes n (F_X5_decode_62 sb (nI W, nI H, px) (Sr n p) (nI k, nI M, f3, np)) (F_X11_readMaps_247 sb (Mr n p (nI W) (nI H) (nI k) (nI M) three) gt) pn_f1 pn_f2 pn_f3 (fun q => q) := by
  unfold F_X5_decode_62 F_X11_readMaps_247
  dsimp only [pn_f1, mr_one]
  by_cases c : k ≤ 3
  · rw [if_pos (c := nI k ≤ 3) (by (simp (disch := omega) only [nI_toInt, Int32.lt_iff_toInt_lt, Int32.le_iff_toInt_le, ← Int32.toInt_inj, Int32.reduceToInt]; omega)), if_pos (c := nI k ≤ 3) (by (simp (disch := omega) only [nI_toInt, Int32.lt_iff_toInt_lt, Int32.le_iff_toInt_le, ← Int32.toInt_inj, Int32.reduceToInt]; omega))]
    exact pn_body sb hp hn hW1 hH1 hW hH hT h1 h2 hk f3 np three px gt
  · rw [if_neg (c := nI k ≤ 3) (by (simp (disch := omega) only [nI_toInt, Int32.lt_iff_toInt_lt, Int32.le_iff_toInt_le, ← Int32.toInt_inj, Int32.reduceToInt]; omega)), if_neg (c := nI k ≤ 3) (by (simp (disch := omega) only [nI_toInt, Int32.lt_iff_toInt_lt, Int32.le_iff_toInt_le, ← Int32.toInt_inj, Int32.reduceToInt]; omega))]
    have hb := bt_lt sb p
    by_cases c1 : p + 1 ≤ n
    · rw [wt_ok 1 1 rfl _ _ _ _ _ c1 (by omega), fon_fok, if_neg (c := (1 : Int32) = 0) (by decide)]
      dsimp only [mr_size, mr_pos, mr_kind, mr_whr, mr_gw, mr_gh, mr_one, mr_two, mr_three]
      rw [b_ok sb (by omega), fon_fok]
      by_cases c2 : isbl (bt sb p)
      · rw [ob_ok sb c1 hn c2, fon_fok, blank_y c2 hb, if_neg (by decide), nI_1]
        exact pn_body sb c1 hn hW1 hH1 hW hH hT h1 h2 hk f3 np three px gt
      · unfold F_X5_readOneBlank
        rw [nx_ok sb (by omega) hn, fon_fok, blank_eq, blank_n c2 hb, if_pos rfl, rf_eq, fon_fex, fon_fex, if_pos rfl, wr_eq, fon_fok, if_pos (Or.inl rfl)]
        exact d_bad rfl rfl (b_bad _ _ _ _ _ _ _ _ _ _ (by decide))
    · unfold F_X5_readOneBlank
      rw [nx_no sb (by omega) (by omega), fon_fex, fon_fex, wt_no 1 1 rfl _ _ _ _ _ (by omega) (by omega), fon_fok, if_pos rfl]
      exact d_bad rfl rfl (b_bad _ _ _ _ _ _ _ _ _ _ (by decide))
theorem ask_ok {v M : Nat} (sc : Src) (pn : Pnm) (A1 : Int32) (hA : A1 = nI M) (h1 : 1 ≤ v) (h2 : v ≤ M) (hM : M < 2 ^ 31) : F_X5_askNumber (nI v) A1 sc pn = fok () sc := by
  subst hA
  unfold F_X5_askNumber
  rw [if_neg (by (simp (disch := omega) only [nI_toInt, Int32.lt_iff_toInt_lt, Int32.le_iff_toInt_le, ← Int32.toInt_inj, Int32.reduceToInt]; omega)), if_pos (nI_le h2 hM)]
theorem ask_no {n p v M : Nat} (f1 f2 f3 np : Int32) (A1 : Int32) (hA : A1 = nI M) (h : v < 1 ∨ M < v) (hM : M < 2 ^ 31) (hv : v < 2 ^ 31) : F_X5_askNumber (nI v) A1 (Sr n p) (f1, f2, f3, np) = fex ISE (nI n, nI p, 2, np) := by
  subst hA
  unfold F_X5_askNumber F_X5_askNumber_10
  dsimp only [pn_np]
  rw [rf_eq, fon_fex]
  by_cases c : v < 1
  · rw [if_pos (by (simp (disch := omega) only [nI_toInt, Int32.lt_iff_toInt_lt, Int32.le_iff_toInt_le, ← Int32.toInt_inj, Int32.reduceToInt]; omega))]
  · rw [if_neg (by (simp (disch := omega) only [nI_toInt, Int32.lt_iff_toInt_lt, Int32.le_iff_toInt_le, ← Int32.toInt_inj, Int32.reduceToInt]; omega)), if_neg (nI_ge (by omega) hv)]
theorem dec_pnm {n : Nat} (sb : A) (hn : n ≤ 65536) (x : Ras) (pn : Pnm) (gw gh a b c : Int32) (gt : A) : DRes n (F_X5_decode x (Sr n 0) sb pn) (F_X11_readMaps sb (Mr n 0 gw gh a b c) gt) pn_f1 pn_f2 pn_f3 (fun q => q) := by
  obtain ⟨f1, f2, f3, np⟩ := pn
  unfold F_X5_decode F_X11_readMaps F_X11_readMaps_17 F_X11_readMaps_51
  rcases d_want sb 80 gw gh a b c (Nat.zero_le n) hn with ⟨h1, _, e1, e2⟩ | ⟨_, _, k, ww, hk, e1, e2⟩
  case inr => rw [e1, fon_fex, e2, fon_fok, if_pos rfl]; exact d_bad rfl rfl (b_bad _ _ _ _ _ _ _ _ _ _ hk)
  rw [e1, fon_fok, e2, fon_fok, if_neg (by decide), show 0 + 1 = 1 from rfl]
  unfold F_X5_readKind F_X5_readKind_33
  dsimp only [pn_f1, pn_f2, pn_f3, pn_np, sc_pos]
  by_cases c1 : 1 + 1 ≤ n
  case neg => rw [nx_no sb (by omega) (by omega), fon_fex, fon_fex, wt_no 1 1 rfl _ _ _ _ _ (by omega) (by omega), fon_fok, if_pos rfl]; exact d_bad rfl rfl (b_bad _ _ _ _ _ _ _ _ _ _ (by decide))
  rw [nx_ok sb (by omega) hn, fon_fok, wt_ok 1 1 rfl _ _ _ _ _ c1 (by omega), fon_fok, if_neg (c := (1 : Int32) = 0) (by decide)]
  dsimp only [mr_size, mr_pos, mr_kind, mr_whr, mr_gw, mr_gh, mr_one, mr_two, mr_three]
  rw [b_ok sb (by omega), fon_fok]
  have hb := bt_lt sb 1
  by_cases ck : 49 ≤ bt sb 1 ∧ bt sb 1 ≤ 54
  case neg =>
    have e : nI (bt sb 1) - 48 < 1 ∨ ¬ nI (bt sb 1) - 48 < 1 ∧ ¬ nI (bt sb 1) - 48 ≤ 6 := by
      have := pk_sub_toInt (a := bt sb 1) (b := 48) (by omega) (by omega)
      rw [show nI 48 = 48 from rfl] at this
      simp only [Int32.lt_iff_toInt_lt, Int32.le_iff_toInt_le, this, Int32.reduceToInt]
      omega
    rw [rf_eq, fon_fex, wr_eq, fon_fok, if_pos (c := isB 0) (Or.inl rfl)]
    rcases e with e | ⟨e, e2⟩
    · rw [if_pos e, fon_fex, if_pos e]; exact d_bad rfl rfl (b_bad _ _ _ _ _ _ _ _ _ _ (by decide))
    · rw [if_neg e, if_neg e2, fon_fex, if_neg e, if_neg e2]; exact d_bad rfl rfl (b_bad _ _ _ _ _ _ _ _ _ _ (by decide))
  obtain ⟨k, hk, hke⟩ : ∃ k, (1 ≤ k ∧ k ≤ 6) ∧ nI (bt sb 1) - 48 = nI k := ⟨bt sb 1 - 48, by omega, pk_sub (b := 48) (by omega)⟩
  rw [hke, if_neg (c := nI k < 1) (by (simp (disch := omega) only [nI_toInt, Int32.lt_iff_toInt_lt, Int32.le_iff_toInt_le, ← Int32.toInt_inj, Int32.reduceToInt]; omega)), if_pos (c := nI k ≤ 6) (by (simp (disch := omega) only [nI_toInt, Int32.lt_iff_toInt_lt, Int32.le_iff_toInt_le, ← Int32.toInt_inj, Int32.reduceToInt]; omega)), fon_fok, if_neg (c := nI k < 1) (by (simp (disch := omega) only [nI_toInt, Int32.lt_iff_toInt_lt, Int32.le_iff_toInt_le, ← Int32.toInt_inj, Int32.reduceToInt]; omega)), if_pos (c := nI k ≤ 6) (by (simp (disch := omega) only [nI_toInt, Int32.lt_iff_toInt_lt, Int32.le_iff_toInt_le, ← Int32.toInt_inj, Int32.reduceToInt]; omega)), nI_1]
  unfold F_X5_readSize
  dsimp only [pn_f1, pn_f2, pn_f3, pn_np]
  rcases d_gap sb c1 hn gw gh (nI k) b c with ⟨g1, g2, e1, e2⟩ | ⟨kk, ww, hkk, e1, e2⟩
  case inr => rw [e1, fon_fex, fon_fex, e2, fon_fok, if_pos rfl]; exact d_bad rfl rfl (b_bad _ _ _ _ _ _ _ _ _ _ hkk)
  rw [e1, fon_fok, e2, fon_fok, if_neg (c := (1 : Int32) = 0) (by decide)]
  generalize sk sb n (n - (1 + 1)) 0 = p2 at *
  rcases d_num sb g2 hn (nI k, f2, f3, np) gw gh (nI k) b c with ⟨m1, m2, m3, u1, u2⟩ | ⟨e, kk, ww, hkk, u1, u2⟩
  case inr => rw [u1, fon_fex, fon_fex, u2, fon_fok, if_neg (c := (0 : Int32) ≤ -1) (by decide)]; exact d_bad rfl rfl (b_bad _ _ _ _ _ _ _ _ _ _ hkk)
  rw [u1, fon_fok, u2, fon_fok, if_pos (c := (0 : Int32) ≤ nI _) (nI_pos' (by omega))]
  dsimp only [pn_f1, pn_f2, pn_f3, pn_np, mr_size, mr_pos, mr_kind, mr_whr, mr_gw, mr_gh, mr_one, mr_two, mr_three]
  generalize (num sb n p2).1 = W at *
  generalize (num sb n p2).2 = p3 at *
  by_cases cW : W = 0
  · subst cW
    rw [ask_no _ _ _ _ 1000000 (M := 1000000) rfl (Or.inl (by omega)) (by omega) (by omega), fon_fex, fon_fex, if_pos (c := nI 0 = 0) rfl, wr_eq, fon_fok, if_pos (Or.inl rfl)]; exact d_bad rfl rfl (b_bad _ _ _ _ _ _ _ _ _ _ (by decide))
  rw [ask_ok _ _ 1000000 (M := 1000000) rfl (by omega) (by omega) (by omega), fon_fok, if_neg (c := nI W = 0) (nI_ne0 (by omega) (by omega))]
  by_cases cW2 : W ≤ 4096
  case neg => rw [if_neg (c := nI W ≤ 4096) (by (simp (disch := omega) only [nI_toInt, Int32.lt_iff_toInt_lt, Int32.le_iff_toInt_le, ← Int32.toInt_inj, Int32.reduceToInt]; omega)), rf_eq, fon_fex, fon_fex, if_neg (c := nI W ≤ 4096) (by (simp (disch := omega) only [nI_toInt, Int32.lt_iff_toInt_lt, Int32.le_iff_toInt_le, ← Int32.toInt_inj, Int32.reduceToInt]; omega)), wr_eq, fon_fok, if_pos (Or.inl rfl)]; exact d_bad rfl rfl (b_bad _ _ _ _ _ _ _ _ _ _ (by decide))
  rw [if_pos (c := nI W ≤ 4096) (by (simp (disch := omega) only [nI_toInt, Int32.lt_iff_toInt_lt, Int32.le_iff_toInt_le, ← Int32.toInt_inj, Int32.reduceToInt]; omega)), if_pos (c := nI W ≤ 4096) (by (simp (disch := omega) only [nI_toInt, Int32.lt_iff_toInt_lt, Int32.le_iff_toInt_le, ← Int32.toInt_inj, Int32.reduceToInt]; omega))]
  rcases d_gap sb m2 hn gw gh (nI k) b c with ⟨g3, g4, e1, e2⟩ | ⟨kk, ww, hkk, e1, e2⟩
  case inr => rw [e1, fon_fex, fon_fex, e2, fon_fok, if_pos rfl]; exact d_bad rfl rfl (b_bad _ _ _ _ _ _ _ _ _ _ hkk)
  rw [e1, fon_fok, e2, fon_fok, if_neg (c := (1 : Int32) = 0) (by decide)]
  generalize sk sb n (n - p3) 0 = p4 at *
  rcases d_num sb g4 hn (nI k, f2, f3, nI p2) gw gh (nI k) b c with ⟨n1, n2, n3, u1, u2⟩ | ⟨e, kk, ww, hkk, u1, u2⟩
  case inr => rw [u1, fon_fex, fon_fex, u2, fon_fok, if_neg (c := (0 : Int32) ≤ -1) (by decide)]; exact d_bad rfl rfl (b_bad _ _ _ _ _ _ _ _ _ _ hkk)
  rw [u1, fon_fok, u2, fon_fok, if_pos (c := (0 : Int32) ≤ nI _) (nI_pos' (by omega))]
  dsimp only [pn_f1, pn_f2, pn_f3, pn_np, mr_size, mr_pos, mr_kind, mr_whr, mr_gw, mr_gh, mr_one, mr_two, mr_three]
  generalize (num sb n p4).1 = H at *
  generalize (num sb n p4).2 = p5 at *
  by_cases cH : H = 0
  · subst cH
    rw [ask_no _ _ _ _ 1000000 (M := 1000000) rfl (Or.inl (by omega)) (by omega) (by omega), fon_fex, fon_fex, if_pos (c := nI 0 = 0) rfl, wr_eq, fon_fok, if_pos (Or.inl rfl)]; exact d_bad rfl rfl (b_bad _ _ _ _ _ _ _ _ _ _ (by decide))
  rw [ask_ok _ _ 1000000 (M := 1000000) rfl (by omega) (by omega) (by omega), fon_fok, if_neg (c := nI H = 0) (nI_ne0 (by omega) (by omega)), nI_l (by omega), nI_l (by omega)]
  rcases d_lay (n := n) (p := p5) (q := p5) (W := W) (H := H) (by omega) (by omega) (nI p4) x gw gh (nI k) b c with ⟨w1, w2, w3, e1, e2⟩ | ⟨e1, e2⟩
  case inr => rw [e1, fon_fex, fon_fex, e2, fon_fok, if_pos rfl]; exact d_bad rfl rfl (b_bad _ _ _ _ _ _ _ _ _ _ (by decide))
  rw [e1, fon_fok, fon_fok, e2, fon_fok, if_neg (c := (1 : Int32) = 0) (by decide)]
  dsimp only [pn_f1, pn_f2, pn_f3, pn_np, mr_size, mr_pos, mr_kind, mr_whr, mr_gw, mr_gh, mr_one, mr_two, mr_three]
  by_cases k1 : k = 1
  · subst k1
    rw [if_pos (by decide), if_pos (by decide)]
    exact pn_62 (M := 1) sb n2 hn (by omega) (by omega) w1 w2 w3 (by omega) (by omega) hk _ _ _ _ _
  rw [if_neg (c := nI k = 1) (by (simp (disch := omega) only [nI_toInt, Int32.lt_iff_toInt_lt, Int32.le_iff_toInt_le, ← Int32.toInt_inj, Int32.reduceToInt]; omega)), if_neg (c := nI k = 1) (by (simp (disch := omega) only [nI_toInt, Int32.lt_iff_toInt_lt, Int32.le_iff_toInt_le, ← Int32.toInt_inj, Int32.reduceToInt]; omega))]
  by_cases k4 : k = 4
  · subst k4
    rw [if_pos (by decide), if_pos (by decide)]
    exact pn_62 (M := 1) sb n2 hn (by omega) (by omega) w1 w2 w3 (by omega) (by omega) hk _ _ _ _ _
  rw [if_neg (c := nI k = 4) (by (simp (disch := omega) only [nI_toInt, Int32.lt_iff_toInt_lt, Int32.le_iff_toInt_le, ← Int32.toInt_inj, Int32.reduceToInt]; omega)), if_neg (c := nI k = 4) (by (simp (disch := omega) only [nI_toInt, Int32.lt_iff_toInt_lt, Int32.le_iff_toInt_le, ← Int32.toInt_inj, Int32.reduceToInt]; omega))]
  rcases d_gap sb n2 hn (nI W) (nI H) (nI k) 1 c with ⟨g5, g6, e1, e2⟩ | ⟨kk, ww, hkk, e1, e2⟩
  case inr => rw [e1, fon_fex, e2, fon_fok, if_pos rfl]; exact d_bad rfl rfl (b_bad _ _ _ _ _ _ _ _ _ _ hkk)
  rw [e1, fon_fok, e2, fon_fok, if_neg (c := (1 : Int32) = 0) (by decide)]
  generalize sk sb n (n - p5) 0 = p6 at *
  rcases d_num sb g6 hn (nI k, 1, f3, nI p4) (nI W) (nI H) (nI k) 1 c with ⟨o1, o2, o3, u1, u2⟩ | ⟨e, kk, ww, hkk, u1, u2⟩
  case inr => rw [u1, fon_fex, u2, fon_fok, if_neg (c := (0 : Int32) ≤ -1) (by decide)]; exact d_bad rfl rfl (b_bad _ _ _ _ _ _ _ _ _ _ hkk)
  rw [u1, fon_fok, u2, fon_fok, if_pos (c := (0 : Int32) ≤ nI _) (nI_pos' (by omega))]
  dsimp only [pn_f1, pn_f2, pn_f3, pn_np, mr_size, mr_pos, mr_kind, mr_whr, mr_gw, mr_gh, mr_one, mr_two, mr_three]
  generalize (num sb n p6).1 = M at *
  generalize (num sb n p6).2 = p7 at *
  unfold F_X11_readMaps_240
  rw [wr_eq, fon_fok, if_pos (c := isB 0) (Or.inl rfl)]
  by_cases cM : M < 1
  · rw [ask_no _ _ _ _ 65535 (M := 65535) rfl (Or.inl cM) (by omega) (by omega), fon_fex, if_pos (c := nI M < 1) (by (simp (disch := omega) only [nI_toInt, Int32.lt_iff_toInt_lt, Int32.le_iff_toInt_le, ← Int32.toInt_inj, Int32.reduceToInt]; omega))]; exact d_bad rfl rfl (b_bad _ _ _ _ _ _ _ _ _ _ (by decide))
  rw [if_neg (c := nI M < 1) (by (simp (disch := omega) only [nI_toInt, Int32.lt_iff_toInt_lt, Int32.le_iff_toInt_le, ← Int32.toInt_inj, Int32.reduceToInt]; omega))]
  by_cases cM2 : M ≤ 65535
  case neg => rw [ask_no _ _ _ _ 65535 (M := 65535) rfl (Or.inr (by omega)) (by omega) (by omega), fon_fex, if_neg (c := nI M ≤ 65535) (by (simp (disch := omega) only [nI_toInt, Int32.lt_iff_toInt_lt, Int32.le_iff_toInt_le, ← Int32.toInt_inj, Int32.reduceToInt]; omega))]; exact d_bad rfl rfl (b_bad _ _ _ _ _ _ _ _ _ _ (by decide))
  rw [ask_ok _ _ 65535 (M := 65535) rfl (by omega) cM2 (by omega), fon_fok, if_pos (c := nI M ≤ 65535) (by (simp (disch := omega) only [nI_toInt, Int32.lt_iff_toInt_lt, Int32.le_iff_toInt_le, ← Int32.toInt_inj, Int32.reduceToInt]; omega))]
  exact pn_62 sb o2 hn (by omega) (by omega) w1 w2 w3 (by omega) cM2 hk _ _ _ _ _
