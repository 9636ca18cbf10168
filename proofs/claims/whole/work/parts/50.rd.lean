/-- a byte of a file -/
def bt (sb : A) (p : Nat) : Nat := ch (sb p) 0
theorem bt_lt (sb : A) (p : Nat) : bt sb p < 256 := ch_lt _ _
theorem bt_and (sb : A) (p : Nat) : sb p &&& 255 = nI (bt sb p) := and_ch _
abbrev Sr (n p : Nat) : Src := (nI n, nI p, 0, -1)
abbrev Mr (n p : Nat) (gw gh a b c : Int32) : MR := (nI n, nI p, 0, -1, gw, gh, a, b, c)
theorem nx_ok {n p : Nat} (sb : A) (h : p < n) (hn : n ≤ 65536) : F_X8_next (Sr n p) sb = fok (nI (bt sb p)) (Sr n (p + 1)) := by
  unfold F_X8_next
  dsimp only [sc_size, sc_pos, sc_ft, sc_fp]
  rw [if_neg (nI_pos (by omega)), if_pos (nI_lt h (by omega)), if_pos (inb_nI (by omega) (by omega)), nI_clamp (by omega), nI_1, bt_and]
theorem nx_no {n p : Nat} (sb : A) (h : n ≤ p) (hn : p ≤ 65536) : F_X8_next (Sr n p) sb = fex ISE (nI n, nI p, 1, nI n) := by
  unfold F_X8_next F_X8_next_18
  dsimp only [sc_size, sc_pos, sc_ft, sc_fp]
  rw [if_neg (nI_pos (by omega)), if_neg (nI_nlt h (by omega))]
theorem b_ok {p : Nat} (sb : A) (h : p < 65536) : F_X11_b (nI p) sb = fok (nI (bt sb p)) () := by
  unfold F_X11_b
  rw [if_pos (inb_nI (by omega) (by omega)), nI_clamp (by omega), bt_and]
theorem wt_ok {n p : Nat} (K : Int32) (k : Nat) (hK : K = nI k) (gw gh a b c : Int32) (h : p + k ≤ n) (hn : n < 2 ^ 30) : F_X11_want K (Mr n p gw gh a b c) = fok 1 (Mr n p gw gh a b c) := by
  subst hK
  unfold F_X11_want F_X11_want_25
  dsimp only [mr_size, mr_pos]
  rw [nI_add, if_pos (nI_le h (by omega))]
theorem wt_no {n p : Nat} (K : Int32) (k : Nat) (hK : K = nI k) (gw gh a b c : Int32) (h : n < p + k) (hn : p + k < 2 ^ 31) : F_X11_want K (Mr n p gw gh a b c) = fok 0 (nI n, nI p, 1, nI n, gw, gh, a, b, c) := by
  subst hK
  unfold F_X11_want F_X11_wrong
  dsimp only [mr_size, mr_pos, mr_kind, mr_whr, mr_gw, mr_gh, mr_one, mr_two, mr_three]
  rw [nI_add, if_neg (nI_ge h (by omega)), fon_fok, if_pos rfl]
theorem wr_eq (k w : Int32) (n p : Nat) (gw gh a b c : Int32) : F_X11_wrong k w (Mr n p gw gh a b c) = fok 0 (nI n, nI p, k, w, gw, gh, a, b, c) := rfl
theorem rf_eq (k w : Int32) (n p : Nat) : F_X8_refuse k w (Sr n p) = fex ISE (nI n, nI p, k, w) := rfl
theorem wn_ok {n p : Nat} (sb : A) (v : Int32) (h : p < n) (hn : n ≤ 65536) (e : nI (bt sb p) = v) : F_X8_want v (Sr n p) sb = fok () (Sr n (p + 1)) := by
  unfold F_X8_want
  rw [nx_ok sb h hn, fon_fok, if_pos e]
theorem wn_ne {n p : Nat} (sb : A) (v : Int32) (h : p < n) (hn : n ≤ 65536) (e : ¬ nI (bt sb p) = v) : F_X8_want v (Sr n p) sb = fex ISE (nI n, nI (p + 1), 2, nI p) := by
  unfold F_X8_want
  rw [nx_ok sb h hn, fon_fok, if_neg e, rf_eq, fon_fex]
theorem wn_no {n p : Nat} (sb : A) (v : Int32) (h : n ≤ p) (hn : p ≤ 65536) : F_X8_want v (Sr n p) sb = fex ISE (nI n, nI p, 1, nI n) := by
  unfold F_X8_want
  rw [nx_no sb h hn, fon_fex]
theorem sg_ok {n p : Nat} (sb : A) (v : Int32) (gw gh a b c : Int32) (h : p < n) (hn : n ≤ 65536) (e : nI (bt sb p) = v) : F_X11_sign v sb (Mr n p gw gh a b c) = fok 1 (Mr n (p + 1) gw gh a b c) := by
  unfold F_X11_sign
  rw [wt_ok 1 1 rfl _ _ _ _ _ h (by omega), fon_fok, if_neg (by decide)]
  dsimp only [mr_size, mr_pos, mr_kind, mr_whr, mr_gw, mr_gh, mr_one, mr_two, mr_three, sc_pos]
  rw [b_ok sb (by omega), fon_fok, if_pos e, nI_1]
theorem sg_ne {n p : Nat} (sb : A) (v : Int32) (gw gh a b c : Int32) (h : p < n) (hn : n ≤ 65536) (e : ¬ nI (bt sb p) = v) : F_X11_sign v sb (Mr n p gw gh a b c) = fok 0 (nI n, nI p, 2, nI p, gw, gh, a, b, c) := by
  unfold F_X11_sign
  rw [wt_ok 1 1 rfl _ _ _ _ _ h (by omega), fon_fok, if_neg (by decide)]
  dsimp only [mr_size, mr_pos, mr_kind, mr_whr, mr_gw, mr_gh, mr_one, mr_two, mr_three, sc_pos]
  rw [b_ok sb (by omega), fon_fok, if_neg e, wr_eq, fon_fok, if_pos (Or.inl rfl)]
theorem sg_no {n p : Nat} (sb : A) (v : Int32) (gw gh a b c : Int32) (h : n ≤ p) (hn : p ≤ 65536) : F_X11_sign v sb (Mr n p gw gh a b c) = fok 0 (nI n, nI p, 1, nI n, gw, gh, a, b, c) := by
  unfold F_X11_sign
  rw [wt_no 1 1 rfl _ _ _ _ _ (by omega) (by omega), fon_fok, if_pos rfl]
/-- one sign -/
theorem d_want {n p : Nat} (sb : A) (v : Int32) (gw gh a b c : Int32) (hp : p ≤ n) (hn : n ≤ 65536) :
    (p + 1 ≤ n ∧ nI (bt sb p) = v ∧ F_X8_want v (Sr n p) sb = fok () (Sr n (p + 1)) ∧ F_X11_sign v sb (Mr n p gw gh a b c) = fok 1 (Mr n (p + 1) gw gh a b c)) ∨
    ∃ e e2 k w, k ≠ 0 ∧ F_X8_want v (Sr n p) sb = fex ISE (nI n, e, k, w) ∧ F_X11_sign v sb (Mr n p gw gh a b c) = fok 0 (nI n, e2, k, w, gw, gh, a, b, c) := by
  by_cases h : p + 1 ≤ n
  · by_cases e : nI (bt sb p) = v
    · exact Or.inl ⟨h, e, wn_ok sb v h hn e, sg_ok sb v _ _ _ _ _ h hn e⟩
    · exact Or.inr ⟨_, _, _, _, by decide, wn_ne sb v h hn e, sg_ne sb v _ _ _ _ _ h hn e⟩
  · exact Or.inr ⟨_, _, _, _, by decide, wn_no sb v (by omega) (by omega), sg_no sb v _ _ _ _ _ (by omega) (by omega)⟩
theorem orN {a b k : Nat} (hb : b < 2 ^ k) (h : a * 2 ^ k + b < 2 ^ 32) : nI (a * 2 ^ k) ||| nI b = nI (a * 2 ^ k + b) := by
  apply Int32.toBitVec_inj.mp
  apply BitVec.eq_of_toNat_eq
  rw [Int32.toBitVec_or, BitVec.toNat_or, pk_tn (by omega), pk_tn (by omega), pk_tn h, ← Nat.shiftLeft_eq, Nat.shiftLeft_add_eq_or_of_lt hb]
theorem or8 {a b : Nat} (hb : b < 256) (ha : a < 2 ^ 24) : (nI a <<< ((8 : Int32) &&& 31)) ||| nI b = nI (a * 256 + b) := by
  rw [pk_shlN _ 8 (by decide) (by omega), orN (by omega) (by omega)]
theorem or16 {a b : Nat} (hb : b < 65536) (ha : a < 65536) : (nI a <<< ((16 : Int32) &&& 31)) ||| nI b = nI (a * 65536 + b) := by
  rw [pk_shlN _ 16 (by decide) (by omega), orN (by omega) (by omega)]
def L2 (sb : A) (p : Nat) : Nat := bt sb (p + 1) * 256 + bt sb p
def L4 (sb : A) (p : Nat) : Nat := (bt sb (p + 3) * 256 + bt sb (p + 2)) * 65536 + (bt sb (p + 1) * 256 + bt sb p)
def H4 (sb : A) (p : Nat) : Nat := ((bt sb p * 256 + bt sb (p + 1)) * 256 + bt sb (p + 2)) * 256 + bt sb (p + 3)
theorem L2_lt (sb : A) (p : Nat) : L2 sb p < 65536 := by have := bt_lt sb p; have := bt_lt sb (p + 1); unfold L2; omega
theorem L4_lt (sb : A) (p : Nat) : L4 sb p < 2 ^ 32 := by have := bt_lt sb p; have := bt_lt sb (p + 1); have := bt_lt sb (p + 2); have := bt_lt sb (p + 3); unfold L4; omega
theorem H4_lt (sb : A) (p : Nat) : H4 sb p < 2 ^ 32 := by
  have := bt_lt sb p; have := bt_lt sb (p + 1); have := bt_lt sb (p + 2); have := bt_lt sb (p + 3); unfold H4; omega
theorem low2_ok {n p : Nat} (sb : A) (h : p + 2 ≤ n) (hn : n ≤ 65536) : F_X8_low2 (Sr n p) sb = fok (nI (L2 sb p)) (Sr n (p + 2)) := by
  unfold F_X8_low2
  rw [nx_ok sb (by omega) hn, fon_fok, nx_ok sb (by omega) hn, fon_fok, or8 (bt_lt _ _) (by have := bt_lt sb (p + 1); omega)]
  rfl
theorem low2_no {n p : Nat} (sb : A) (h : n < p + 2) (hp : p ≤ n) (hn : n ≤ 65536) : F_X8_low2 (Sr n p) sb = fex ISE (nI n, nI n, 1, nI n) := by
  unfold F_X8_low2
  by_cases c : p < n
  · rw [nx_ok sb c hn, fon_fok, nx_no sb (by omega) (by omega), fon_fex, show p + 1 = n from by omega]
  · rw [nx_no sb (by omega) (by omega), fon_fex, show p = n from by omega]
theorem low4_ok {n p : Nat} (sb : A) (h : p + 4 ≤ n) (hn : n ≤ 65536) : F_X8_low4 (Sr n p) sb = fok (nI (L4 sb p)) (Sr n (p + 4)) := by
  unfold F_X8_low4
  rw [low2_ok sb (by omega) hn, fon_fok, low2_ok sb (by omega) hn, fon_fok, or16 (L2_lt _ _) (L2_lt _ _)]
  rfl
theorem low4_no {n p : Nat} (sb : A) (h : n < p + 4) (hp : p ≤ n) (hn : n ≤ 65536) : F_X8_low4 (Sr n p) sb = fex ISE (nI n, nI n, 1, nI n) := by
  unfold F_X8_low4
  by_cases c : p + 2 ≤ n
  · rw [low2_ok sb c hn, fon_fok, low2_no sb (by omega) (by omega) hn, fon_fex]
  · rw [low2_no sb (by omega) (by omega) hn, fon_fex]
theorem high4_ok {n p : Nat} (sb : A) (h : p + 4 ≤ n) (hn : n ≤ 65536) : F_X8_high4 (Sr n p) sb = fok (nI (H4 sb p)) (Sr n (p + 4)) := by
  have := bt_lt sb p; have := bt_lt sb (p + 1); have := bt_lt sb (p + 2); have := bt_lt sb (p + 3)
  unfold F_X8_high4
  rw [lp_5]
  unfold F_X8_high4_4
  rw [if_neg (by decide), nx_ok sb (by omega) hn, fon_fok, if_neg (by decide), nx_ok sb (by omega) hn, fon_fok, if_neg (by decide), nx_ok sb (by omega) hn, fon_fok, if_neg (by decide), nx_ok sb (by omega) hn, fon_fok, if_pos (by decide)]
  rw [show p + 1 + 1 + 1 = p + 3 from rfl, show p + 1 + 1 = p + 2 from rfl, show (0 : Int32) = nI 0 from rfl, or8 (by omega) (by omega), or8 (by omega) (by omega), or8 (by omega) (by omega), or8 (by omega) (by omega)]
  rw [show (0 * 256 + bt sb p) = bt sb p from by omega]
  rfl
theorem high4_no {n p : Nat} (sb : A) (h : n < p + 4) (hp : p ≤ n) (hn : n ≤ 65536) : F_X8_high4 (Sr n p) sb = fex ISE (nI n, nI n, 1, nI n) := by
  unfold F_X8_high4
  rw [lp_5]
  unfold F_X8_high4_4
  rw [if_neg (by decide)]
  by_cases c1 : p < n
  · rw [nx_ok sb c1 hn, fon_fok, if_neg (by decide)]
    by_cases c2 : p + 1 < n
    · rw [nx_ok sb c2 hn, fon_fok, if_neg (by decide)]
      by_cases c3 : p + 1 + 1 < n
      · rw [nx_ok sb c3 hn, fon_fok, if_neg (by decide), nx_no sb (by omega) (by omega), fon_fex, show p + 1 + 1 + 1 = n from by omega]
      · rw [nx_no sb (by omega) (by omega), fon_fex, show p + 1 + 1 = n from by omega]
    · rw [nx_no sb (by omega) (by omega), fon_fex, show p + 1 = n from by omega]
  · rw [nx_no sb (by omega) (by omega), fon_fex, show p = n from by omega]
theorem l256 {a b : Nat} (hb : b < 256) : (256 : Int64) * lN a + (nI b).toInt64 = lN (a * 256 + b) := by
  rw [nI_l (by omega), show (256 : Int64) = lN 256 from rfl, lN_mul, lN_add, Nat.mul_comm]
theorem top4 {p : Nat} (sb : A) (h : p + 4 ≤ 65536) : F_X11_top (nI p) 4 sb = fok (lN (H4 sb p)) () := by
  have := bt_lt sb p; have := bt_lt sb (p + 1); have := bt_lt sb (p + 2); have := bt_lt sb (p + 3)
  unfold F_X11_top
  rw [lp_5]
  unfold F_X11_top_5
  rw [if_neg (by decide), show nI p + 0 = nI p from nI_add p 0, b_ok sb (by omega), fon_fok, if_neg (by decide), show nI p + (0 + 1) = nI (p + 1) from nI_add p 1, b_ok sb (by omega), fon_fok, if_neg (by decide), show nI p + (0 + 1 + 1) = nI (p + 2) from nI_add p 2, b_ok sb (by omega), fon_fok, if_neg (by decide), show nI p + (0 + 1 + 1 + 1) = nI (p + 3) from nI_add p 3, b_ok sb (by omega), fon_fok, if_pos (by decide)]
  rw [show (0 : Int64) = lN 0 from rfl, l256 (by omega), l256 (by omega), l256 (by omega), l256 (by omega), show (0 * 256 + bt sb p) = bt sb p from by omega]
  rfl
theorem top2 {p : Nat} (sb : A) (h : p + 2 ≤ 65536) : F_X11_top (nI p) 2 sb = fok (lN (bt sb p * 256 + bt sb (p + 1))) () := by
  have := bt_lt sb p; have := bt_lt sb (p + 1)
  unfold F_X11_top
  rw [lp_5]
  unfold F_X11_top_5
  rw [if_neg (by decide), show nI p + 0 = nI p from nI_add p 0, b_ok sb (by omega), fon_fok, if_neg (by decide), show nI p + (0 + 1) = nI (p + 1) from nI_add p 1, b_ok sb (by omega), fon_fok, if_pos (by decide)]
  rw [show (0 : Int64) = lN 0 from rfl, l256 (by omega), l256 (by omega), show (0 * 256 + bt sb p) = bt sb p from by omega]
theorem top1 {p : Nat} (sb : A) (h : p + 1 ≤ 65536) : F_X11_top (nI p) 1 sb = fok (lN (bt sb p)) () := by
  have := bt_lt sb p
  unfold F_X11_top
  rw [lp_5]
  unfold F_X11_top_5
  rw [if_neg (by decide), show nI p + 0 = nI p from nI_add p 0, b_ok sb (by omega), fon_fok, if_pos (by decide)]
  rw [show (0 : Int64) = lN 0 from rfl, l256 (by omega), show (0 * 256 + bt sb p) = bt sb p from by omega]
theorem lowp4 {p : Nat} (sb : A) (h : p + 4 ≤ 65536) : F_X11_low (nI p) 4 sb = fok (lN (L4 sb p)) () := by
  have := bt_lt sb p; have := bt_lt sb (p + 1); have := bt_lt sb (p + 2); have := bt_lt sb (p + 3)
  unfold F_X11_low
  rw [lp_5]
  unfold F_X11_low_7
  rw [if_neg (by decide), show nI p + ((4 : Int32) - 1) = nI (p + 3) from nI_add p 3, b_ok sb (by omega), fon_fok, if_neg (by decide), show nI p + ((4 : Int32) - 1 + -1) = nI (p + 2) from nI_add p 2, b_ok sb (by omega), fon_fok, if_neg (by decide), show nI p + ((4 : Int32) - 1 + -1 + -1) = nI (p + 1) from nI_add p 1, b_ok sb (by omega), fon_fok, if_neg (by decide), show nI p + ((4 : Int32) - 1 + -1 + -1 + -1) = nI p from nI_add p 0, b_ok sb (by omega), fon_fok, if_pos (by decide)]
  rw [show (0 : Int64) = lN 0 from rfl, l256 (by omega), l256 (by omega), l256 (by omega), l256 (by omega)]
  rw [show (((0 * 256 + bt sb (p + 3)) * 256 + bt sb (p + 2)) * 256 + bt sb (p + 1)) * 256 + bt sb p = L4 sb p from by unfold L4; omega]
theorem lowp2 {p : Nat} (sb : A) (h : p + 2 ≤ 65536) : F_X11_low (nI p) 2 sb = fok (lN (L2 sb p)) () := by
  have := bt_lt sb p; have := bt_lt sb (p + 1)
  unfold F_X11_low
  rw [lp_5]
  unfold F_X11_low_7
  rw [if_neg (by decide), show nI p + ((2 : Int32) - 1) = nI (p + 1) from nI_add p 1, b_ok sb (by omega), fon_fok, if_neg (by decide), show nI p + ((2 : Int32) - 1 + -1) = nI p from nI_add p 0, b_ok sb (by omega), fon_fok, if_pos (by decide)]
  rw [show (0 : Int64) = lN 0 from rfl, l256 (by omega), l256 (by omega), show (0 * 256 + bt sb (p + 1)) = bt sb (p + 1) from by omega]
  rfl
theorem pass_ok {n p k : Nat} (sb : A) (h : p + k ≤ n) (hn : n ≤ 65536) : F_X8_pass (nI k) (Sr n p) sb = fok () (Sr n (p + k)) := by
  unfold F_X8_pass
  have q := lp_M (z := fun _ _ _ => fno) (f := F_X8_pass_2 sb) (fun m f => ∀ j, j + m = k → f (nI k) (nI j) (Sr n (p + j)) = fok () (Sr n (p + k))) ?_ k (by omega)
  · exact q 0 (by omega)
  · intro m f ih j hj
    unfold F_X8_pass_2
    by_cases c0 : m = 0
    · have : j = k := by omega
      subst this
      rw [if_pos (nI_le (by omega) (by omega))]
    · rw [if_neg (nI_ge (by omega) (by omega)), nx_ok sb (by omega) hn, fon_fok, nI_1]
      exact ih (m - 1) (by omega) (j + 1) (by omega)
theorem pass_no {n p k : Nat} (sb : A) (h : n < p + k) (hp : p ≤ n) (hn : n ≤ 65536) (hk : k < 2 ^ 31) : F_X8_pass (nI k) (Sr n p) sb = fex ISE (nI n, nI n, 1, nI n) := by
  unfold F_X8_pass
  have q := lp_M (z := fun _ _ _ => fno) (f := F_X8_pass_2 sb) (fun m f => ∀ j, p + j + m = n → f (nI k) (nI j) (Sr n (p + j)) = fex ISE (nI n, nI n, 1, nI n)) ?_ (n - p) (by omega)
  · exact q 0 (by omega)
  · intro m f ih j hj
    unfold F_X8_pass_2
    rw [if_neg (nI_ge (by omega) (by omega))]
    by_cases c0 : m = 0
    · rw [nx_no sb (by omega) (by omega), fon_fex, show p + j = n from by omega]
    · rw [nx_ok sb (by omega) hn, fon_fok, nI_1]
      exact ih (m - 1) (by omega) (j + 1) (by omega)
theorem end_ok (n : Nat) : F_X8_wantEnd (Sr n n) = fok () (Sr n n) := by
  unfold F_X8_wantEnd
  dsimp only [sc_size, sc_pos]
  rw [if_pos (Int32.le_refl _)]
theorem end_no {n p : Nat} (h : p < n) (hn : n ≤ 65536) : F_X8_wantEnd (Sr n p) = fex ISE (nI n, nI p, 5, nI p) := by
  unfold F_X8_wantEnd
  dsimp only [sc_size, sc_pos]
  rw [if_neg (nI_ge h (by omega)), rf_eq, fon_fex]
theorem cl_ok (n : Nat) (gw gh a b c : Int32) : F_X11_closes (Mr n n gw gh a b c) = fok 1 (Mr n n gw gh a b c) := by
  unfold F_X11_closes F_X11_closes_23
  dsimp only [mr_size, mr_pos]
  rw [if_pos rfl]
theorem cl_no {n p : Nat} (gw gh a b c : Int32) (h : p < n) (hn : n ≤ 65536) : F_X11_closes (Mr n p gw gh a b c) = fok 0 (nI n, nI p, 5, nI p, gw, gh, a, b, c) := by
  unfold F_X11_closes F_X11_closes_23
  dsimp only [mr_size, mr_pos]
  rw [if_neg (fun e => by have := (nI_eq (by omega) (by omega)).mp e; omega), wr_eq, fon_fok, if_pos rfl]
/-- the size is laid, or too large -/
theorem d_lay {W H n p q : Nat} (hW : W < 2 ^ 32) (hH : H < 2 ^ 32) (w : Int32) (x : Ras) (gw gh a b c : Int32) :
    (W ≤ 4096 ∧ H ≤ 4096 ∧ W * H ≤ 4096 ∧ F_X8_lay (lN W) (lN H) w x (Sr n p) = fok () ((nI W, nI H, x_p x), Sr n p) ∧ F_X11_fits (lN W) (lN H) w (Mr n q gw gh a b c) = fok 1 (Mr n q (nI W) (nI H) a b c)) ∨
    (F_X8_lay (lN W) (lN H) w x (Sr n p) = fex ISE (x, (nI n, nI p, 3, w)) ∧ F_X11_fits (lN W) (lN H) w (Mr n q gw gh a b c) = fok 0 (nI n, nI q, 3, w, gw, gh, a, b, c)) := by
  have u : F_X11_fits (lN W) (lN H) w (Mr n q gw gh a b c) = if 4096 < W ∨ 4096 < H ∨ 4096 < W * H then fok 0 (nI n, nI q, 3, w, gw, gh, a, b, c) else fok 1 (Mr n q (nI W) (nI H) a b c) := by
    unfold F_X11_fits F_X11_fits_26
    dsimp only [mr_size, mr_pos, mr_kind, mr_whr, mr_gw, mr_gh, mr_one, mr_two, mr_three]
    rw [wr_eq, fon_fok, if_pos (c := isB 0) (Or.inl rfl), lN_i, lN_i]
    simp only [lg_cmp_gt, lg_cmp_le]
    rw [show (4096 : Int64) = lN 4096 from rfl, lN_mul]
    by_cases c1 : 4096 < W
    · rw [if_pos ((pk_lLT (by omega) (by omega)).mpr c1), if_pos (Or.inl c1)]
    · rw [if_neg (fun q => c1 ((pk_lLT (by omega) (by omega)).mp q))]
      by_cases c2 : 4096 < H
      · rw [if_pos ((pk_lLT (by omega) (by omega)).mpr c2), if_pos (Or.inr (Or.inl c2))]
      · have hp : W * H ≤ 4096 * 4096 := Nat.mul_le_mul (by omega) (by omega)
        rw [if_neg (fun q => c2 ((pk_lLT (by omega) (by omega)).mp q))]
        by_cases c3 : 4096 < W * H
        · rw [if_neg (fun q => by have := (pk_lLE (by omega) (by omega)).mp q; omega), if_pos (Or.inr (Or.inr c3))]
        · rw [if_pos ((pk_lLE (by omega) (by omega)).mpr (by omega)), if_neg (by omega)]
  rw [u]
  unfold F_X8_lay
  rw [ut_tooL hW hH, lN_i, lN_i]
  by_cases c1 : 4096 < W ∨ 4096 < H ∨ 4096 < W * H
  · rw [if_pos c1, if_neg (by decide), rf_eq, fon_fex, if_pos c1]
    exact Or.inr ⟨rfl, rfl⟩
  · rw [if_neg c1, if_pos rfl, if_neg c1]
    exact Or.inl ⟨by omega, by omega, by omega, rfl, rfl⟩
def Bad (s : Src) (m : MR) : Prop := sc_ft s ≠ 0 ∧ mr_kind m = sc_ft s ∧ mr_whr m = sc_fp s
/-- what two readers come to -/
def DRes {F G : Type} (n : Nat) (C : Out (Ras × Src × F) Unit) (R : Out (MR × G) Int32) (f1 f2 f3 : F → Int32) (g : G → A) : Prop :=
  (∃ (W H : Nat) (px : A) (fm : F) (one two three : Int32) (gg : G), 1 ≤ W ∧ 1 ≤ H ∧ W ≤ 4096 ∧ H ≤ 4096 ∧ W * H ≤ 4096 ∧ C = fok () ((nI W, nI H, px), Sr n n, fm) ∧ R = fok 1 (Mr n n (nI W) (nI H) one two three, gg) ∧ f1 fm = one ∧ f2 fm = two ∧ f3 fm = three ∧ ∀ p, p < W * H → px p = g gg p) ∨
  (∃ (x : Ras) (sc : Src) (fm : F) (mr : MR) (gg : G), C = fex ISE (x, sc, fm) ∧ R = fok 0 (mr, gg) ∧ Bad sc mr)
theorem d_bad {F G : Type} {n : Nat} {C : Out (Ras × Src × F) Unit} {R : Out (MR × G) Int32} {f1 f2 f3 : F → Int32} {g : G → A} {x : Ras} {sc : Src} {fm : F} {mr : MR} {gg : G} (h1 : C = fex ISE (x, sc, fm)) (h2 : R = fok 0 (mr, gg)) (h3 : Bad sc mr) : DRes n C R f1 f2 f3 g := Or.inr ⟨x, sc, fm, mr, gg, h1, h2, h3⟩
