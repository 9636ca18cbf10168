def mU (b : Nat) : Nat := if b ≤ 8 then 2 ^ b else 0
def uU (b u : Nat) : Nat := if u = 0 then mU b else u
theorem mU_le {b : Nat} (h : okB b) : mU b ≤ 256 := by
  rcases h with rfl | rfl | rfl | rfl | rfl | rfl <;> decide
theorem us_y {n b to : Nat} (sb : A) (hn : n ≤ 65536) (h : 46 + 4 ≤ n) (hb : okB b) (f1 f2 f3 cm us pk cl up : Int32) (col : A) (hu : L4 sb 46 ≤ mU b) : F_X0_readUsed (Sr n 46) sb (f1, f2, f3, nI to, nI b, cm, us, pk, cl, up, col) = fok () (Sr n 50, (f1, f2, f3, nI to, nI b, cm, nI (uU b (L4 sb 46)), pk, cl, up, col)) := by
  have hm := mU_le hb
  unfold F_X0_readUsed F_X0_readUsed_32
  rw [low4_ok sb h hn, fon_fok]
  dsimp only [bm_f1, bm_f2, bm_f3, bm_top, bm_bits, bm_comp, bm_used, bm_packed, bm_column, bm_up, bm_col, sc_pos]
  have e : ∀ (f : Int32 → Out (Src × Bmp) Unit), (if 8 < nI b then f 0 else f (1 <<< (nI b &&& 31))) = f (nI (mU b)) := by
    intro f
    rcases hb with rfl | rfl | rfl | rfl | rfl | rfl <;> rfl
  rw [e (fun t0 => if nI (L4 sb 46) < 0 then F_X0_readUsed_48 sb (nI 46) (Sr n (46 + 4)) (f1, f2, f3, nI to, nI b, cm, nI (L4 sb 46), pk, cl, up, col) else if nI (L4 sb 46) ≤ t0 then (if nI (L4 sb 46) = 0 then fok () (Sr n (46 + 4), (f1, f2, f3, nI to, nI b, cm, t0, pk, cl, up, col)) else fok () (Sr n (46 + 4), (f1, f2, f3, nI to, nI b, cm, nI (L4 sb 46), pk, cl, up, col))) else F_X0_readUsed_48 sb (nI 46) (Sr n (46 + 4)) (f1, f2, f3, nI to, nI b, cm, nI (L4 sb 46), pk, cl, up, col))]
  rw [if_neg (nI_pos (by omega)), if_pos (nI_le hu (by omega))]
  unfold uU
  by_cases c : L4 sb 46 = 0
  · rw [if_pos (by rw [c]; rfl), if_pos c]
  · rw [if_neg (nI_ne0 (by omega) (by omega)), if_neg c]
theorem us_n {n b to : Nat} (sb : A) (hn : n ≤ 65536) (h : 46 + 4 ≤ n) (hb : okB b) (f1 f2 f3 cm us pk cl up : Int32) (col : A) (hu : ¬ L4 sb 46 ≤ mU b) : F_X0_readUsed (Sr n 46) sb (f1, f2, f3, nI to, nI b, cm, us, pk, cl, up, col) = fex ISE ((nI n, nI 50, 2, nI 46), (f1, f2, f3, nI to, nI b, cm, nI (L4 sb 46), pk, cl, up, col)) := by
  have hm := mU_le hb
  have hl := L4_lt sb 46
  unfold F_X0_readUsed F_X0_readUsed_32
  rw [low4_ok sb h hn, fon_fok]
  dsimp only [bm_f1, bm_f2, bm_f3, bm_top, bm_bits, bm_comp, bm_used, bm_packed, bm_column, bm_up, bm_col, sc_pos]
  have e : ∀ (f : Int32 → Out (Src × Bmp) Unit), (if 8 < nI b then f 0 else f (1 <<< (nI b &&& 31))) = f (nI (mU b)) := by
    intro f
    rcases hb with rfl | rfl | rfl | rfl | rfl | rfl <;> rfl
  rw [e (fun t0 => if nI (L4 sb 46) < 0 then F_X0_readUsed_48 sb (nI 46) (Sr n (46 + 4)) (f1, f2, f3, nI to, nI b, cm, nI (L4 sb 46), pk, cl, up, col) else if nI (L4 sb 46) ≤ t0 then (if nI (L4 sb 46) = 0 then fok () (Sr n (46 + 4), (f1, f2, f3, nI to, nI b, cm, t0, pk, cl, up, col)) else fok () (Sr n (46 + 4), (f1, f2, f3, nI to, nI b, cm, nI (L4 sb 46), pk, cl, up, col))) else F_X0_readUsed_48 sb (nI 46) (Sr n (46 + 4)) (f1, f2, f3, nI to, nI b, cm, nI (L4 sb 46), pk, cl, up, col))]
  unfold F_X0_readUsed_48
  rw [rf_eq, fon_fex]
  by_cases c : nI (L4 sb 46) < 0
  · rw [if_pos c]
  · rw [if_neg c, if_neg]
    rw [Int32.lt_iff_toInt_lt, show (0 : Int32).toInt = 0 from rfl, nI_int hl] at c
    rw [Int32.le_iff_toInt_le, nI_toInt (show mU b < 2 ^ 31 by omega), nI_int hl]
    split at c <;> (split <;> omega)
theorem r485 {n b : Nat} (sb : A) (hn : n ≤ 65536) (hb : okB b) (v1 v8 v10 : Int64) (v6 gw gh a b2 c : Int32) (gt ta : A) : lp (fun _ _ _ _ _ _ _ _ => fno) (F_X11_readRows_485 sb) FU v1 v6 (nI b) v8 v10 (nI n, 38, 0, -1, gw, gh, a, b2, c) gt ta =
    if 46 + 4 ≤ n then (if L4 sb 46 ≤ mU b then F_X11_readRows_591 sb v1 v6 (nI b) v8 v10 (lN (uU b (L4 sb 46))) (nI n, nI 46, 0, -1, gw, gh, a, b2, c) gt ta else fok 0 ((nI n, nI 46, 2, 46, gw, gh, a, b2, c), gt, ta)) else fok 0 ((nI n, if 38 + 4 ≤ n then (if 42 + 4 ≤ n then nI 46 else nI 42) else 38, 1, nI n, gw, gh, a, b2, c), gt, ta) := by
  have hm := mU_le hb
  have hl := L4_lt sb 46
  rw [lp_5]
  unfold F_X11_readRows_485 F_X11_readRows_563
  dsimp only [mr_size, mr_pos, mr_kind, mr_whr, mr_gw, mr_gh, mr_one, mr_two, mr_three]
  rw [if_neg (by decide)]
  by_cases c1 : 38 + 4 ≤ n
  case neg => rw [wq_no 4 38 4 rfl (p := 38) rfl _ _ _ _ _ (by omega) (by omega), fon_fok, if_pos rfl, if_neg (by omega), if_neg c1]
  rw [wq_ok 4 38 4 rfl (p := 38) rfl _ _ _ _ _ c1 (by omega), fon_fok, if_neg (c := (1 : Int32) = 0) (by decide), show (38 : Int32) + 4 = nI 42 from by decide, if_neg (by decide)]
  by_cases c2 : 42 + 4 ≤ n
  case neg => rw [wq_no 4 (nI 42) 4 rfl (p := 42) rfl _ _ _ _ _ (by omega) (by omega), fon_fok, if_pos rfl, if_neg (by omega), if_pos c1, if_neg c2]
  rw [wq_ok 4 (nI 42) 4 rfl (p := 42) rfl _ _ _ _ _ c2 (by omega), fon_fok, if_neg (c := (1 : Int32) = 0) (by decide), show nI 42 + 4 = nI 46 from by decide, if_pos (by decide)]
  by_cases c3 : 46 + 4 ≤ n
  case neg => rw [wq_no 4 (nI 46) 4 rfl (p := 46) rfl _ _ _ _ _ (by omega) (by omega), fon_fok, if_pos rfl, if_neg c3, if_pos c1, if_pos c2]
  rw [wq_ok 4 (nI 46) 4 rfl (p := 46) rfl _ _ _ _ _ c3 (by omega), fon_fok, if_neg (c := (1 : Int32) = 0) (by decide), show F_X11_low 46 4 sb = fok (lN (L4 sb 46)) () from lowp4 (p := 46) sb (by omega), fon_fok, if_pos c3]
  dsimp only [mr_size, mr_pos, mr_kind, mr_whr, mr_gw, mr_gh, mr_one, mr_two, mr_three]
  rw [wq_wr, fon_fok, if_pos (c := isB 0) (Or.inl rfl)]
  unfold F_X11_readRows_571
  have z0 := lcE (a := L4 sb 46) (b := 0) (B := 0) rfl (by omega) (by omega)
  by_cases c8 : b ≤ 8
  · have e64 : (1 : Int64) <<< ((nI b).toInt64 &&& 63) = lN (mU b) := by
      rcases hb with rfl | rfl | rfl | rfl | rfl | rfl <;> first | decide | omega
    have h8 : nI b ≤ 8 := by (simp (disch := omega) only [nI_toInt, Int32.lt_iff_toInt_lt, Int32.le_iff_toInt_le, ← Int32.toInt_inj, Int32.reduceToInt]; omega)
    have z1 := lcL (a := L4 sb 46) (b := mU b) rfl (by omega) (by omega)
    rw [if_pos h8, e64, if_neg (c := 8 < nI b) (by (simp (disch := omega) only [nI_toInt, Int32.lt_iff_toInt_lt, Int32.le_iff_toInt_le, ← Int32.toInt_inj, Int32.reduceToInt]; omega))]
    unfold uU
    by_cases c4 : L4 sb 46 ≤ mU b
    · rw [if_pos (z1.mpr c4), if_pos c4]
      by_cases c5 : L4 sb 46 = 0
      · rw [if_pos (z0.mpr c5), if_pos c5]
      · rw [if_neg (fun e => c5 (z0.mp e)), if_neg c5]
    · rw [if_neg (fun e => c4 (z1.mp e)), if_neg c4]
  · have em : mU b = 0 := by unfold mU; rw [if_neg c8]
    have hb3 : b < 2 ^ 31 := by unfold okB at hb; omega
    rw [if_neg (c := nI b ≤ 8) (by (simp (disch := omega) only [nI_toInt, Int32.lt_iff_toInt_lt, Int32.le_iff_toInt_le, ← Int32.toInt_inj, Int32.reduceToInt]; omega)), if_pos (c := 8 < nI b) (by (simp (disch := omega) only [nI_toInt, Int32.lt_iff_toInt_lt, Int32.le_iff_toInt_le, ← Int32.toInt_inj, Int32.reduceToInt]; omega)), em]
    unfold uU
    by_cases c4 : L4 sb 46 = 0
    · rw [if_pos (z0.mpr c4), if_pos (by omega), if_pos c4, em, c4]
    · rw [if_neg (fun e => c4 (z0.mp e)), if_neg (by omega)]
def okO (o U n : Nat) : Prop := 54 + 4 * U ≤ o ∧ o ≤ n
def okT (t o n c : Nat) : Prop := t = n - o ∨ c = 0 ∧ t = 0
theorem lay_c {n o t U c : Nat} (hn : n ≤ 65536) (ho : o < 2 ^ 32) (ht : t < 2 ^ 32) (hc : c < 2 ^ 32) (hU : U ≤ 256) (bm : Bmp) (e1 : bm_used bm = nI U) (e2 : bm_comp bm = nI c) :
    (okO o U n → okT t o n c → F_X0_askLayout (nI o) (nI t) (Sr n 54) bm = fok () (Sr n 54)) ∧ (¬ okO o U n → F_X0_askLayout (nI o) (nI t) (Sr n 54) bm = fex ISE (nI n, nI 54, 2, 10)) ∧ (okO o U n → ¬ okT t o n c → F_X0_askLayout (nI o) (nI t) (Sr n 54) bm = fex ISE (nI n, nI 54, 2, 34)) := by
  have e3 : (54 : Int32) + 4 * nI U = nI (54 + 4 * U) := by rw [show (54 : Int32) = nI 54 from rfl, show (4 : Int32) = nI 4 from rfl, pk_mul, nI_add]
  have ec : nI c = 0 ↔ c = 0 := nI_inj (b := 0) hc (by omega)
  have et : nI t = 0 ↔ t = 0 := nI_inj (b := 0) ht (by omega)
  have u : F_X0_askLayout (nI o) (nI t) (Sr n 54) bm = if nI o < nI (54 + 4 * U) then fex ISE (nI n, nI 54, 2, 10) else (if nI o ≤ nI n then (if nI t = nI n - nI o then fok () (Sr n 54) else (if c = 0 ∧ t = 0 then fok () (Sr n 54) else fex ISE (nI n, nI 54, 2, 34))) else fex ISE (nI n, nI 54, 2, 10)) := by
    unfold F_X0_askLayout F_X0_askLayout_43 F_X0_askLayout_44 F_X0_askLayout_21
    rw [e1, e2, e3, rf_eq, fon_fex, rf_eq, fon_fex]
    dsimp only [sc_size]
    rw [if_neg (c := (1 : Int32) = 0) (by decide), if_pos (c := (0 : Int32) = 0) rfl]
    congr 1
    congr 1
    by_cases c1 : c = 0
    · rw [if_pos (ec.mpr c1)]
      by_cases c2 : t = 0
      · rw [if_pos (et.mpr c2)]; congr 1; rw [if_pos ⟨c1, c2⟩]
      · rw [if_neg (fun e => c2 (et.mp e))]; congr 1; rw [if_neg (fun e => c2 e.2)]
    · rw [if_neg (fun e => c1 (ec.mp e))]; congr 1; rw [if_neg (fun e => c1 e.1)]
  rw [u]
  unfold okO okT
  refine ⟨fun h h2 => ?_, fun h => ?_, fun h h2 => ?_⟩
  · rw [if_neg (nI_nlt (by omega) (by omega)), if_pos (nI_le (by omega) (by omega)), pk_sub h.2]
    rcases h2 with h2 | h2
    · rw [if_pos (by rw [h2])]
    · rw [if_pos h2]; split <;> rfl
  · by_cases c1 : nI o < nI (54 + 4 * U)
    · rw [if_pos c1]
    · rw [if_neg c1, if_neg]
      rw [Int32.lt_iff_toInt_lt, nI_int ho, nI_toInt (by omega)] at c1
      rw [Int32.le_iff_toInt_le, nI_int ho, nI_toInt (by omega)]
      split at c1 <;> (split <;> omega)
  · rw [if_neg (nI_nlt (by omega) (by omega)), if_pos (nI_le (by omega) (by omega)), pk_sub h.2, if_neg (fun e => h2 (Or.inl ((nI_inj ht (by omega)).mp e))), if_neg (fun e => h2 (Or.inr e))]
theorem lay_r {n o t U c b : Nat} (sb : A) (hn : n ≤ 65536) (ho : o < 2 ^ 32) (ht : t < 2 ^ 32) (hc : c < 2 ^ 32) (hU : U ≤ 256) (h50 : 50 + 4 ≤ n) (v6 gw gh a b2 c2 P : Int32) (gt ta : A) :
    (okO o U n → okT t o n c → F_X11_readRows_591 sb (lN o) v6 (nI b) (lN c) (lN t) (lN U) (nI n, P, 0, -1, gw, gh, a, b2, c2) gt ta = F_X11_readRows_675 sb (lN o) v6 (nI b) (lN c) (lN U) (nI n, 50, 0, -1, gw, gh, a, b2, c2) gt ta) ∧ (¬ okO o U n → F_X11_readRows_591 sb (lN o) v6 (nI b) (lN c) (lN t) (lN U) (nI n, P, 0, -1, gw, gh, a, b2, c2) gt ta = fok 0 ((nI n, 50, 2, 10, gw, gh, a, b2, c2), gt, ta)) ∧ (okO o U n → ¬ okT t o n c → F_X11_readRows_591 sb (lN o) v6 (nI b) (lN c) (lN t) (lN U) (nI n, P, 0, -1, gw, gh, a, b2, c2) gt ta = fok 0 ((nI n, 50, 2, 34, gw, gh, a, b2, c2), gt, ta)) := by
  have e3 : (54 : Int64) + 4 * lN U = lN (54 + 4 * U) := by rw [show (54 : Int64) = lN 54 from rfl, show (4 : Int64) = lN 4 from rfl, lN_mul, lN_add]
  have zc := lcE (a := c) (b := 0) (B := 0) rfl (by omega) (by omega)
  have zt := lcE (a := t) (b := 0) (B := 0) rfl (by omega) (by omega)
  have zo := lcT (a := o) (b := 54 + 4 * U) rfl (by omega) (by omega)
  have zn := lcL (a := o) (b := n) rfl (by omega) (by omega)
  have u : F_X11_readRows_591 sb (lN o) v6 (nI b) (lN c) (lN t) (lN U) (nI n, P, 0, -1, gw, gh, a, b2, c2) gt ta = if o < 54 + 4 * U then fok 0 ((nI n, 50, 2, 10, gw, gh, a, b2, c2), gt, ta) else (if o ≤ n then (if lg_cmp (lN t) (lN n - lN o) = 0 then F_X11_readRows_675 sb (lN o) v6 (nI b) (lN c) (lN U) (nI n, 50, 0, -1, gw, gh, a, b2, c2) gt ta else (if c = 0 then (if t = 0 then F_X11_readRows_675 sb (lN o) v6 (nI b) (lN c) (lN U) (nI n, 50, 0, -1, gw, gh, a, b2, c2) gt ta else fok 0 ((nI n, 50, 2, 34, gw, gh, a, b2, c2), gt, ta)) else fok 0 ((nI n, 50, 2, 34, gw, gh, a, b2, c2), gt, ta))) else fok 0 ((nI n, 50, 2, 10, gw, gh, a, b2, c2), gt, ta)) := by
    unfold F_X11_readRows_591 F_X11_readRows_632 F_X11_readRows_667
    dsimp only [mr_size, mr_pos, mr_kind, mr_whr, mr_gw, mr_gh, mr_one, mr_two, mr_three]
    rw [wq_ok 4 50 4 rfl (p := 50) rfl _ _ _ _ _ h50 (by omega), fon_fok, if_neg (c := (1 : Int32) = 0) (by decide), e3]
    dsimp only [mr_size, mr_pos, mr_kind, mr_whr, mr_gw, mr_gh, mr_one, mr_two, mr_three]
    rw [nI_l (by omega), wq_wr, fon_fok, wq_wr, fon_fok]
    simp only [if_pos (show isB 0 from Or.inl rfl), zo, zn, zc, zt]
  rw [u]
  unfold okO okT
  refine ⟨fun h h2 => ?_, fun h => ?_, fun h h2 => ?_⟩
  · rw [if_neg (by omega), if_pos h.2, lN_sub h.2]
    rcases h2 with h2 | h2
    · rw [if_pos ((lcE rfl (by omega) (by omega)).mpr h2)]
    · rw [if_pos h2.1, if_pos h2.2]; split <;> rfl
  · by_cases c1 : o < 54 + 4 * U
    · rw [if_pos c1]
    · rw [if_neg c1, if_neg (by omega)]
  · rw [if_neg (by omega), if_pos h.2, lN_sub h.2, if_neg (fun e => h2 (Or.inl ((lcE rfl (by omega) (by omega)).mp e)))]
    by_cases c1 : c = 0
    · rw [if_pos c1, if_neg (fun e => h2 (Or.inr ⟨c1, e⟩))]
    · rw [if_neg c1]
/-- the file's colours -/
def tbl (sb : A) (k : Nat) : Int32 := F_X11_mix (nI (bt sb (54 + 4 * k + 2))) (nI (bt sb (54 + 4 * k + 1))) (nI (bt sb (54 + 4 * k))) 255
theorem col_c {n U : Nat} (sb : A) (hn : n ≤ 65536) (hU : U ≤ 256) (h : 54 + 4 * U ≤ n) (f1 f2 f3 to b c pk cl up : Int32) (col : A) : F_X0_readColours (Sr n 54) sb (f1, f2, f3, to, b, c, nI U, pk, cl, up, col) = fok () (Sr n (54 + 4 * U), (f1, f2, f3, to, b, c, nI U, pk, cl, up, frontN (tbl sb) col U)) := by
  unfold F_X0_readColours
  dsimp only [bm_used]
  rw [show (256 : Int32) = nI 256 from rfl, i_minL hU (by omega)]
  have q := lp_M (z := fun _ _ _ _ => fno) (f := F_X0_readColours_13 sb) (fun m k => ∀ j, j + m = U → k (nI U) (nI j) (Sr n (54 + 4 * j)) (f1, f2, f3, to, b, c, nI U, pk, cl, up, frontN (tbl sb) col j) = fok () (Sr n (54 + 4 * U), (f1, f2, f3, to, b, c, nI U, pk, cl, up, frontN (tbl sb) col U))) ?_ U (by omega)
  · have := q 0 (by omega)
    rw [show frontN (tbl sb) col 0 = col from by funext j; simp [frontN]] at this
    exact this
  · intro m k ih j hj
    unfold F_X0_readColours_13
    by_cases c0 : m = 0
    · have : j = U := by omega
      subst this
      rw [if_pos (Int32.le_refl _)]
    · rw [if_neg (nI_ge (by omega) (by omega)), bf_eq sb (by omega) hn, if_pos (by omega), fon_fok, if_pos (inb_nI (by omega) (by omega)), nx_ok sb (by omega) hn, fon_fok, nI_clamp (by omega), nI_1]
      dsimp only [bm_f1, bm_f2, bm_f3, bm_top, bm_bits, bm_comp, bm_used, bm_packed, bm_column, bm_up, bm_col]
      have hf := frontN_s (tbl sb) col j
      have r := ih (m - 1) (by omega) (j + 1) (by omega)
      rw [← hf] at r
      rw [show 54 + 4 * j + 3 + 1 = 54 + 4 * (j + 1) from by omega]
      exact r
theorem col_r {n U o c b : Nat} (sb : A) (hn : n ≤ 65536) (hU : U ≤ 256) (h : 54 + 4 * U ≤ n) (ho : o < 2 ^ 32) (hc : c < 2 ^ 32) (v6 gw gh a b2 c2 P : Int32) (gt ta : A) : F_X11_readRows_675 sb (lN o) v6 (nI b) (lN c) (lN U) (nI n, P, 0, -1, gw, gh, a, b2, c2) gt ta = if c = 0 then (fon (F_X11_readPlainRows v6 sb (Mr n o gw gh (nI b) (nI c) (nI U)) gt (frontN (tbl sb) ta U)) (fun z773 s773 => if isB z773 then (fok (z773 : Int32) (s773.1, s773.2, (frontN (tbl sb) ta U))) else fno) (fun _ _ => fno)) else (fon (F_X11_readPairs sb (Mr n o gw gh (nI b) (nI c) (nI U)) gt (frontN (tbl sb) ta U)) (fun z780 s780 => if isB z780 then (fok (z780 : Int32) (s780.1, s780.2, (frontN (tbl sb) ta U))) else fno) (fun _ _ => fno)) := by
  unfold F_X11_readRows_675
  have zc := lcE (a := c) (b := 0) (B := 0) rfl (by omega) (by omega)
  have q := lp_M (z := fun _ _ _ _ _ _ _ _ _ => fno) (f := F_X11_readRows_678 sb) (fun m k => ∀ j, j + m = U → k (lN o) v6 (nI b) (lN c) (lN U) (nI j) (nI n, P, 0, -1, gw, gh, a, b2, c2) gt (frontN (tbl sb) ta j) = if c = 0 then (fon (F_X11_readPlainRows v6 sb (Mr n o gw gh (nI b) (nI c) (nI U)) gt (frontN (tbl sb) ta U)) (fun z773 s773 => if isB z773 then (fok (z773 : Int32) (s773.1, s773.2, (frontN (tbl sb) ta U))) else fno) (fun _ _ => fno)) else (fon (F_X11_readPairs sb (Mr n o gw gh (nI b) (nI c) (nI U)) gt (frontN (tbl sb) ta U)) (fun z780 s780 => if isB z780 then (fok (z780 : Int32) (s780.1, s780.2, (frontN (tbl sb) ta U))) else fno) (fun _ _ => fno))) ?_ U (by omega)
  · have := q 0 (by omega)
    rw [show frontN (tbl sb) ta 0 = ta from by funext j; simp [frontN]] at this
    exact this
  · intro m k ih j hj
    unfold F_X11_readRows_678
    dsimp only [mr_size, mr_pos, mr_kind, mr_whr, mr_gw, mr_gh, mr_one, mr_two, mr_three]
    rw [nI_l (by omega), lN_i, lN_i, lN_i]
    by_cases c0 : m = 0
    · have : j = U := by omega
      subst this
      rw [if_pos ((lg_cmp_ge _ _).mpr (Int64.le_refl _))]
      by_cases c1 : c = 0
      · rw [if_pos (zc.mpr c1), if_pos c1]
      · rw [if_neg (fun e => c1 (zc.mp e)), if_neg c1]
    · have e4 : (54 : Int32) + 4 * nI j = nI (54 + 4 * j) := by rw [show (54 : Int32) = nI 54 from rfl, show (4 : Int32) = nI 4 from rfl, pk_mul, nI_add]
      rw [if_neg (fun e => by rw [lg_cmp_ge, pk_lLE (by omega) (by omega)] at e; omega), e4, show nI (54 + 4 * j) + 2 = nI (54 + 4 * j + 2) from nI_add _ 2, show nI (54 + 4 * j) + 1 = nI (54 + 4 * j + 1) from nI_1 _, b_ok sb (by omega), fon_fok, b_ok sb (by omega), fon_fok, b_ok sb (by omega), fon_fok, if_pos (inb_nI (by omega) (by omega)), nI_clamp (by omega), nI_1]
      have hf := frontN_s (tbl sb) ta j
      have r := ih (m - 1) (by omega) (j + 1) (by omega)
      rw [← hf] at r
      exact r
