theorem nI_inj {a b : Nat} (ha : a < 2 ^ 32) (hb : b < 2 ^ 32) : nI a = nI b ↔ a = b := by
  constructor
  · intro e
    have := congrArg (fun z => z.toBitVec.toNat) e
    simpa only [pk_tn ha, pk_tn hb] using this
  · intro e; rw [e]
theorem nI_int {a : Nat} (ha : a < 2 ^ 32) : (nI a).toInt = if a < 2 ^ 31 then (a : Int) else (a : Int) - 2 ^ 32 := by
  have := toI_cond (nI a)
  rwa [pk_tn ha] at this
theorem wq_ok {n p : Nat} (K P : Int32) (k : Nat) (hK : K = nI k) (hP : P = nI p) (gw gh a b c : Int32) (h : p + k ≤ n) (hn : n < 2 ^ 30) : F_X11_want K (nI n, P, 0, -1, gw, gh, a, b, c) = fok 1 (nI n, P, 0, -1, gw, gh, a, b, c) := by
  subst hP; exact wt_ok K k hK gw gh a b c h hn
theorem wq_no {n p : Nat} (K P : Int32) (k : Nat) (hK : K = nI k) (hP : P = nI p) (gw gh a b c : Int32) (h : n < p + k) (hn : p + k < 2 ^ 31) : F_X11_want K (nI n, P, 0, -1, gw, gh, a, b, c) = fok 0 (nI n, P, 1, nI n, gw, gh, a, b, c) := by
  subst hP; exact wt_no K k hK gw gh a b c h hn
theorem wq_wr (k w P : Int32) (n : Nat) (gw gh a b c : Int32) : F_X11_wrong k w (nI n, P, 0, -1, gw, gh, a, b, c) = fok 0 (nI n, P, k, w, gw, gh, a, b, c) := rfl
theorem wl_ok {n p v : Nat} (sb : A) (V : Int32) (hV : V = nI v) (h : p + 4 ≤ n) (hn : n ≤ 65536) (e : L4 sb p = v) : F_X8_wantLow4 V (Sr n p) sb = fok () (Sr n (p + 4)) := by
  unfold F_X8_wantLow4
  rw [low4_ok sb h hn, fon_fok, if_pos (by rw [hV, e])]
theorem wl_ne {n p v : Nat} (sb : A) (V : Int32) (hV : V = nI v) (hv : v < 2 ^ 32) (h : p + 4 ≤ n) (hn : n ≤ 65536) (e : ¬ L4 sb p = v) : F_X8_wantLow4 V (Sr n p) sb = fex ISE (nI n, nI (p + 4), 2, nI p) := by
  unfold F_X8_wantLow4
  rw [low4_ok sb h hn, fon_fok, if_neg (fun q => e ((nI_inj (L4_lt sb p) hv).mp (q.trans hV))), rf_eq, fon_fex]
theorem wl_no {n p : Nat} (sb : A) (V : Int32) (h : n < p + 4) (hp : p ≤ n) (hn : n ≤ 65536) : F_X8_wantLow4 V (Sr n p) sb = fex ISE (nI n, nI n, 1, nI n) := by
  unfold F_X8_wantLow4
  rw [low4_no sb h hp hn, fon_fex]
theorem lcE {a b : Nat} {B : Int64} (hB : B = lN b) (ha : a < 2 ^ 63) (hb : b < 2 ^ 63) : (lg_cmp (lN a) B = 0) ↔ a = b := by
  subst hB; rw [lg_cmp_eq]; exact pk_lEQ ha hb
theorem lcL {a b : Nat} {B : Int64} (hB : B = lN b) (ha : a < 2 ^ 63) (hb : b < 2 ^ 63) : (lg_cmp (lN a) B ≤ 0) ↔ a ≤ b := by
  subst hB; rw [lg_cmp_le]; exact pk_lLE ha hb
theorem lcT {a b : Nat} {B : Int64} (hB : B = lN b) (ha : a < 2 ^ 63) (hb : b < 2 ^ 63) : (lg_cmp (lN a) B < 0) ↔ a < b := by
  subst hB; rw [lg_cmp_lt]; exact pk_lLT ha hb
theorem neg64 {h : Nat} (h1 : 2 ^ 31 ≤ h) (h2 : h < 2 ^ 32) : -(nI h).toInt64 = lN (2 ^ 32 - h) := by
  apply Int64.toInt_inj.mp
  rw [Int64.toInt_neg, Int32.toInt_toInt64, nI_int h2, if_neg (by omega), pk_lT (by omega), Int.bmod_def]
  omega
/-- the bits of a pixel that may be -/
def okB (b : Nat) : Prop := b = 1 ∨ b = 4 ∨ b = 8 ∨ b = 16 ∨ b = 24 ∨ b = 32
theorem six_y {α : Type} {b : Nat} (h : okB b) (D E : α) : (if nI b = 1 then D else (if nI b = 4 then D else (if nI b = 8 then D else (if nI b = 16 then D else (if nI b = 24 then D else (if nI b = 32 then D else E)))))) = D := by
  rcases h with rfl | rfl | rfl | rfl | rfl | rfl <;> rfl
theorem six_n {α : Type} {b : Nat} (h : ¬ okB b) (hb : b < 65536) (D E : α) : (if nI b = 1 then D else (if nI b = 4 then D else (if nI b = 8 then D else (if nI b = 16 then D else (if nI b = 24 then D else (if nI b = 32 then D else E)))))) = E := by
  unfold okB at h
  rw [if_neg (by (simp (disch := omega) only [nI_toInt, Int32.lt_iff_toInt_lt, Int32.le_iff_toInt_le, ← Int32.toInt_inj, Int32.reduceToInt]; omega)), if_neg (by (simp (disch := omega) only [nI_toInt, Int32.lt_iff_toInt_lt, Int32.le_iff_toInt_le, ← Int32.toInt_inj, Int32.reduceToInt]; omega)), if_neg (by (simp (disch := omega) only [nI_toInt, Int32.lt_iff_toInt_lt, Int32.le_iff_toInt_le, ← Int32.toInt_inj, Int32.reduceToInt]; omega)), if_neg (by (simp (disch := omega) only [nI_toInt, Int32.lt_iff_toInt_lt, Int32.le_iff_toInt_le, ← Int32.toInt_inj, Int32.reduceToInt]; omega)), if_neg (by (simp (disch := omega) only [nI_toInt, Int32.lt_iff_toInt_lt, Int32.le_iff_toInt_le, ← Int32.toInt_inj, Int32.reduceToInt]; omega)), if_neg (by (simp (disch := omega) only [nI_toInt, Int32.lt_iff_toInt_lt, Int32.le_iff_toInt_le, ← Int32.toInt_inj, Int32.reduceToInt]; omega))]
def okC (c b to : Nat) : Prop := c = 0 ∨ to = 0 ∧ (c = 1 ∧ b = 8 ∨ c = 2 ∧ b = 4)
theorem cmp_y {n b to : Nat} (sb : A) (hn : n ≤ 65536) (h : 30 + 4 ≤ n) (hb : okB b) (f1 f2 f3 cm us pk cl up : Int32) (col : A) (hto : to = 0 ∨ to = 1) (hc : okC (L4 sb 30) b to) : F_X0_readDepth_90 sb (Sr n 30) (f1, f2, f3, nI to, nI b, cm, us, pk, cl, up, col) = fok () (Sr n 34, (f1, f2, f3, nI to, nI b, nI (L4 sb 30), us, pk, cl, up, col)) := by
  have hl := L4_lt sb 30
  unfold F_X0_readDepth_90 F_X0_readDepth_120 F_X0_readDepth_136 F_X0_readDepth_140 F_X0_readDepth_141
  rw [low4_ok sb h hn, fon_fok]
  dsimp only [bm_f1, bm_f2, bm_f3, bm_top, bm_bits, bm_comp, bm_used, bm_packed, bm_column, bm_up, bm_col]
  rcases hc with hc | ⟨rfl, hc | hc⟩
  · rw [hc]
    rw [if_neg (c := nI 0 = 1) (by decide), if_neg (c := nI 0 = 2) (by decide), if_pos (c := nI 0 = 0) (by decide)]
  · rw [hc.1, hc.2]; rfl
  · rw [hc.1, hc.2]; rfl
theorem cmp_n {n b to : Nat} (sb : A) (hn : n ≤ 65536) (h : 30 + 4 ≤ n) (hb : okB b) (f1 f2 f3 cm us pk cl up : Int32) (col : A) (hto : to = 0 ∨ to = 1) (hc : ¬ okC (L4 sb 30) b to) : F_X0_readDepth_90 sb (Sr n 30) (f1, f2, f3, nI to, nI b, cm, us, pk, cl, up, col) = fex ISE ((nI n, nI 34, 2, nI 30), (f1, f2, f3, nI to, nI b, nI (L4 sb 30), us, pk, cl, up, col)) := by
  have hl := L4_lt sb 30
  have hb2 : b < 2 ^ 32 := by unfold okB at hb; omega
  unfold okC at hc
  unfold F_X0_readDepth_90 F_X0_readDepth_120 F_X0_readDepth_136 F_X0_readDepth_140 F_X0_readDepth_141 F_X0_readDepth_160
  rw [low4_ok sb h hn, fon_fok]
  dsimp only [bm_f1, bm_f2, bm_f3, bm_top, bm_bits, bm_comp, bm_used, bm_packed, bm_column, bm_up, bm_col, sc_pos]
  rw [rf_eq, fon_fex]
  have h0 : ¬ nI (L4 sb 30) = 0 := fun e => hc (Or.inl ((nI_inj (b := 0) hl (by omega)).mp e))
  have e1 := nI_inj (b := 1) hl (by omega)
  have e2 := nI_inj (b := 2) hl (by omega)
  have e8 := nI_inj (b := 8) hb2 (by omega)
  have e4 := nI_inj (b := 4) hb2 (by omega)
  have et := nI_inj (a := to) (b := 0) (by omega) (by omega)
  rw [show nI 1 = 1 from rfl] at e1
  rw [show nI 2 = 2 from rfl] at e2
  rw [show nI 8 = 8 from rfl] at e8
  rw [show nI 4 = 4 from rfl] at e4
  rw [show nI 0 = 0 from rfl] at et
  simp only [if_neg h0, if_pos (rfl : (0 : Int32) = 0), if_neg (show ¬ (1 : Int32) = 0 by decide), e1, e2, e8, e4, et]
  split
  · split
    · rw [if_neg (by omega)]
    · split
      · split
        · rw [if_neg (by omega)]
        · rfl
      · rfl
  · split
    · split
      · rw [if_neg (by omega)]
      · rfl
    · rfl
theorem rcmp_y {n b to : Nat} (sb : A) (hn : n ≤ 65536) (h : 30 + 4 ≤ n) (hb : okB b) (v1 : Int64) (gw gh a b2 c P : Int32) (gt ta : A) (hto : to = 0 ∨ to = 1) (hc : okC (L4 sb 30) b to) : F_X11_readRows_380 sb v1 (nI to) (nI b) (nI n, P, 0, -1, gw, gh, a, b2, c) gt ta = F_X11_readRows_454 sb v1 (nI to) (nI b) (lN (L4 sb 30)) (nI n, 30, 0, -1, gw, gh, a, b2, c) gt ta := by
  have hl := L4_lt sb 30
  unfold F_X11_readRows_380 F_X11_readRows_431
  dsimp only [mr_size, mr_pos, mr_kind, mr_whr, mr_gw, mr_gh, mr_one, mr_two, mr_three]
  rw [wq_ok 4 30 4 rfl (p := 30) rfl _ _ _ _ _ h (by omega), fon_fok, if_neg (c := (1 : Int32) = 0) (by decide), show F_X11_low 30 4 sb = fok (lN (L4 sb 30)) () from lowp4 (p := 30) sb (by omega), fon_fok]
  have hb2 : b < 2 ^ 31 := by unfold okB at hb; omega
  unfold okC at hc
  have l0 := lcE (a := L4 sb 30) (b := 0) (B := 0) rfl (by omega) (by omega)
  have l1 := lcE (a := L4 sb 30) (b := 1) (B := 1) rfl (by omega) (by omega)
  have l2 := lcE (a := L4 sb 30) (b := 2) (B := 2) rfl (by omega) (by omega)
  have e8 : nI b = 8 ↔ b = 8 := nI_inj (b := 8) (by omega) (by omega)
  have e4 : nI b = 4 ↔ b = 4 := nI_inj (b := 4) (by omega) (by omega)
  have et : nI to = 0 ↔ to = 0 := nI_inj (a := to) (b := 0) (by omega) (by omega)
  simp only [l0, l1, l2, e8, e4, et]
  split
  · rfl
  · rw [if_pos (by omega)]
    split
    · rw [if_pos (by omega)]
    · rw [if_pos (by omega), if_pos (by omega)]
theorem rcmp_n {n b to : Nat} (sb : A) (hn : n ≤ 65536) (h : 30 + 4 ≤ n) (hb : okB b) (v1 : Int64) (gw gh a b2 c P : Int32) (gt ta : A) (hto : to = 0 ∨ to = 1) (hc : ¬ okC (L4 sb 30) b to) : F_X11_readRows_380 sb v1 (nI to) (nI b) (nI n, P, 0, -1, gw, gh, a, b2, c) gt ta = fok 0 ((nI n, 30, 2, 30, gw, gh, a, b2, c), gt, ta) := by
  have hl := L4_lt sb 30
  have hb2 : b < 2 ^ 31 := by unfold okB at hb; omega
  unfold okC at hc
  unfold F_X11_readRows_380 F_X11_readRows_431 F_X11_readRows_446
  dsimp only [mr_size, mr_pos, mr_kind, mr_whr, mr_gw, mr_gh, mr_one, mr_two, mr_three]
  rw [wq_ok 4 30 4 rfl (p := 30) rfl _ _ _ _ _ h (by omega), fon_fok, if_neg (c := (1 : Int32) = 0) (by decide), show F_X11_low 30 4 sb = fok (lN (L4 sb 30)) () from lowp4 (p := 30) sb (by omega), fon_fok, wq_wr, fon_fok, if_pos (c := isB 0) (Or.inl rfl)]
  rw [if_neg (fun e => by have := (lcE (b := 0) (B := 0) rfl (by omega) (by omega)).mp e; omega)]
  have l1 := lcE (a := L4 sb 30) (b := 1) (B := 1) rfl (by omega) (by omega)
  have l2 := lcE (a := L4 sb 30) (b := 2) (B := 2) rfl (by omega) (by omega)
  have e8 : nI b = 8 ↔ b = 8 := nI_inj (b := 8) (by omega) (by omega)
  have e4 : nI b = 4 ↔ b = 4 := nI_inj (b := 4) (by omega) (by omega)
  have et : nI to = 0 ↔ to = 0 := nI_inj (a := to) (b := 0) (by omega) (by omega)
  simp only [l1, l2, e8, e4, et]
  split
  · split
    · split
      · exfalso; omega
      · split
        · split
          · exfalso; omega
          · rfl
        · rfl
    · split
      · split
        · exfalso; omega
        · rfl
      · rfl
  · rfl
