abbrev tgS (f1 f2 f3 mp : Int32) (t fe mn : Nat) (dp : Int32) (b fl ab ix : Nat) (pa : Int32) (le : Nat) (li : Int32) (ent : A) : Tga := (f1, f2, f3, mp, nI t, nI fe, nI mn, dp, nI b, nI fl, nI ab, nI ix, pa, nI le, li, ent)
/-- what type and depth may be -/
def okTB (t b ix gr : Nat) : Prop := (ix = 0 ∧ gr = 0 ∧ (t = 2 ∨ t = 10) ∧ (b = 16 ∨ b = 24 ∨ b = 32)) ∨ (ix = 0 ∧ gr = 1 ∧ (t = 3 ∨ t = 11) ∧ b = 8) ∨ (ix = 1 ∧ gr = 0 ∧ (t = 1 ∨ t = 9) ∧ b = 8)
/-- a pixel of both readers -/
def RP (n p : Nat) (gt ta : A) (C : Out Src Int32) (R : Out (MR × A × A) Int32) (K : Int32 → Nat → Out (MR × A × A) Int32) : Prop :=
  (∃ v q, p ≤ q ∧ q ≤ n ∧ C = fok v (Sr n q) ∧ R = K v q) ∨ (∃ sc mr, C = fex ISE sc ∧ R = fok 0 (mr, gt, ta) ∧ Bad sc mr)
theorem rdpix {n p t fe mn b fl ab ix gr le : Nat} (sb : A) (ho : okTB t b ix gr) (hp : p ≤ n) (hn : n ≤ 65536) (hfe : fe < 65536) (hmn : mn < 65536) (hab : ab < 16) (f1 f2 f3 mp dp pa li : Int32) (ent ta gt : A) (he : ix = 1 → ∀ k, k < mn → fe + k < 256 → ent (fe + k) = ta k) (v16 v17 v18 v19 v20 v21 gw gh one two three : Int32) (k721 : Int32 → Int32 → Int32 → Int32 → Int32 → Int32 → Int32 → Int32 → Int32 → Int32 → Int32 → Int32 → MR → A → A → Out (MR × A × A) Int32) :
    RP n p gt ta (F_X9_readPixel (Sr n p) sb (tgS f1 f2 f3 mp t fe mn dp b fl ab ix pa le li ent)) (F_X11_readTarga_889 sb k721 (nI t) (nI ix) (nI gr) (nI fe) (nI mn) (nI b) (nI fl) (nI ab) v16 v17 v18 v19 v20 v21 1 (Mr n p gw gh one two three) gt ta) (fun v q => F_X11_readTarga_1009 sb k721 (nI t) (nI ix) (nI gr) (nI fe) (nI mn) (nI b) (nI fl) (nI ab) v16 v17 v v19 v20 v21 (Mr n q gw gh one two three) gt ta) := by
  have hb := bt_lt sb p
  unfold F_X9_readPixel F_X9_readPixel_48 F_X11_readTarga_889 F_X11_readTarga_996 F_X11_readTarga_998 F_X11_readTarga_942
  dsimp only [tg_idx, tg_bits, tg_fe, tg_many, tg_ent, sc_pos]
  rw [if_neg (c := (1 : Int32) = 0) (by decide)]
  rcases ho with ⟨rfl, rfl, ht, hbb⟩ | ⟨rfl, rfl, ht, rfl⟩ | ⟨rfl, rfl, ht, rfl⟩
  · have hd : okD b := by unfold okD; omega
    have e8 : nI b / 8 = nI ((b + 7) / 8) := by rcases hbb with rfl | rfl | rfl <;> decide
    rw [if_pos (c := nI 0 = 0) rfl, e8, cv_c sb hd hp hn hab _ rfl]
    by_cases c1 : p + (b + 7) / 8 ≤ n
    · rw [if_pos c1, fon_fok, wt_ok _ ((b + 7) / 8) rfl _ _ _ _ _ c1 (by omega), fon_fok, if_neg (c := (1 : Int32) = 0) (by decide), if_pos (c := nI 0 = 0) rfl, if_pos (c := nI 0 = 0) rfl]
      dsimp only [mr_size, mr_pos, mr_kind, mr_whr, mr_gw, mr_gh, mr_one, mr_two, mr_three]
      rw [cv_r sb hd (by omega) hab, fon_fok, nI_add]
      exact Or.inl ⟨_, _, by omega, c1, rfl, rfl⟩
    · rw [if_neg c1, fon_fex, wt_no _ ((b + 7) / 8) rfl _ _ _ _ _ (by omega) (by omega), fon_fok, if_pos rfl]
      exact Or.inr ⟨_, _, rfl, rfl, b_bad _ _ _ _ _ _ _ _ _ _ (by decide)⟩
  · rw [if_pos (c := nI 0 = 0) rfl, show nI 8 / 8 = nI 1 from by decide]
    unfold F_X9_readColour
    by_cases c1 : p + 1 ≤ n
    · rw [nx_ok sb (by omega) hn, fon_fok, if_pos (c := nI 8 = 8) (by decide), fon_fok, wt_ok _ 1 rfl _ _ _ _ _ c1 (by omega), fon_fok, if_neg (c := (1 : Int32) = 0) (by decide), if_pos (c := nI 0 = 0) rfl, if_neg (c := nI 1 = 0) (by decide)]
      dsimp only [mr_size, mr_pos, mr_kind, mr_whr, mr_gw, mr_gh, mr_one, mr_two, mr_three]
      rw [b_ok sb (by omega), fon_fok, nI_add]
      exact Or.inl ⟨_, _, by omega, c1, rfl, rfl⟩
    · rw [nx_no sb (by omega) (by omega), fon_fex, fon_fex, wt_no _ 1 rfl _ _ _ _ _ (by omega) (by omega), fon_fok, if_pos rfl]
      exact Or.inr ⟨_, _, rfl, rfl, b_bad _ _ _ _ _ _ _ _ _ _ (by decide)⟩
  · rw [if_neg (c := nI 1 = 0) (by decide), show nI 8 / 8 = nI 1 from by decide]
    by_cases c1 : p + 1 ≤ n
    case neg =>
      rw [nx_no sb (by omega) (by omega), fon_fex, wt_no _ 1 rfl _ _ _ _ _ (by omega) (by omega), fon_fok, if_pos rfl]
      exact Or.inr ⟨_, _, rfl, rfl, b_bad _ _ _ _ _ _ _ _ _ _ (by decide)⟩
    rw [nx_ok sb (by omega) hn, fon_fok, wt_ok _ 1 rfl _ _ _ _ _ c1 (by omega), fon_fok, if_neg (c := (1 : Int32) = 0) (by decide), if_neg (c := nI 1 = 0) (by decide)]
    dsimp only [mr_size, mr_pos, mr_kind, mr_whr, mr_gw, mr_gh, mr_one, mr_two, mr_three]
    rw [b_ok sb (by omega), fon_fok, wr_eq, fon_fok, if_pos (c := isB 0) (Or.inl rfl), rf_eq, fon_fex]
    by_cases c2 : bt sb p < fe
    · rw [if_pos (nI_lt c2 (by omega)), if_pos (pk_sneg (by omega) c2)]
      exact Or.inr ⟨_, _, rfl, rfl, b_bad _ _ _ _ _ _ _ _ _ _ (by decide)⟩
    · rw [if_neg (nI_nlt (by omega) (by omega)), pk_sub (by omega), if_neg (nI_pos (by omega))]
      by_cases c3 : bt sb p - fe < mn
      · rw [if_pos (nI_lt c3 (by omega)), if_pos (nI_lt c3 (by omega)), pk_andN (by omega) (m := 255) 8 rfl, show bt sb p % 2 ^ 8 = bt sb p from Nat.mod_eq_of_lt hb, if_pos (inb_nI hb (by omega)), nI_clamp (by omega), if_pos (inb_nI (by omega) (by omega)), nI_clamp (by omega), nI_add]
        have h := he rfl (bt sb p - fe) c3 (by omega)
        rw [show fe + (bt sb p - fe) = bt sb p from by omega] at h
        rw [h]
        exact Or.inl ⟨_, _, by omega, c1, rfl, rfl⟩
      · rw [if_neg (nI_nlt (by omega) (by omega)), if_neg (nI_nlt (by omega) (by omega))]
        exact Or.inr ⟨_, _, rfl, rfl, b_bad _ _ _ _ _ _ _ _ _ _ (by decide)⟩
/-- where the k-th pixel goes -/
def yT (fl H y : Nat) : Nat := if nI fl &&& 32 = 0 then H - 1 - y else y
def xT (fl W x : Nat) : Nat := if nI fl &&& 16 = 0 then x else W - 1 - x
def pT (fl W H k : Nat) : Nat := yT fl H (k / W) * W + xT fl W (k % W)
theorem yT_lt {fl H y : Nat} (h : y < H) : yT fl H y < H := by unfold yT; split <;> omega
theorem xT_lt {fl W x : Nat} (h : x < W) : xT fl W x < W := by unfold xT; split <;> omega
theorem yT_yT {fl H y : Nat} (h : y < H) : yT fl H (yT fl H y) = y := by unfold yT; split <;> omega
theorem xT_xT {fl W x : Nat} (h : x < W) : xT fl W (xT fl W x) = x := by unfold xT; split <;> omega
theorem pT_sur {fl W H i : Nat} (hW : 1 ≤ W) (h : i < W * H) : ∃ k, k < W * H ∧ pT fl W H k = i := by
  have hd : i / W < H := (Nat.div_lt_iff_lt_mul (by omega)).mpr (by rw [Nat.mul_comm]; exact h)
  have hm : i % W < W := Nat.mod_lt _ (by omega)
  refine ⟨yT fl H (i / W) * W + xT fl W (i % W), idx_lt (xT_lt hm) (yT_lt hd), ?_⟩
  unfold pT
  rw [yx_div (xT_lt hm), yx_mod (xT_lt hm), yT_yT hd, xT_xT hm, Nat.mul_comm]
  exact Nat.div_add_mod i W
theorem t1009 {n q W H x y k : Nat} (sb : A) (hx : x < W) (hy : y < H) (hT : W * H ≤ 4096) (fl : Nat) (v3 v4 v5 v6 v7 v11 v13 v16 v17 v one two three : Int32) (gt ta : A) (k721 : Int32 → Int32 → Int32 → Int32 → Int32 → Int32 → Int32 → Int32 → Int32 → Int32 → Int32 → Int32 → MR → A → A → Out (MR × A × A) Int32) :
    F_X11_readTarga_1009 sb k721 v3 v4 v5 v6 v7 v11 (nI fl) v13 v16 v17 v (nI k) (nI x) (nI y) (Mr n q (nI W) (nI H) one two three) gt ta = k721 v3 v4 v5 v6 v7 v11 (nI fl) v13 v16 v17 v (nI (k + 1)) (Mr n q (nI W) (nI H) one two three) (upd gt (yT fl H y * W + xT fl W x) v) ta := by
  have hyl := yT_lt (fl := fl) hy
  have hxl := xT_lt (fl := fl) hx
  have hi := idx_lt hxl hyl
  have u : ∀ y2 x2 : Nat, y2 = yT fl H y → x2 = xT fl W x → F_X11_readTarga_1062 sb k721 v3 v4 v5 v6 v7 v11 (nI fl) v13 v16 v17 v (nI k) (nI x2) (nI W * nI y2) (Mr n q (nI W) (nI H) one two three) gt ta = k721 v3 v4 v5 v6 v7 v11 (nI fl) v13 v16 v17 v (nI (k + 1)) (Mr n q (nI W) (nI H) one two three) (upd gt (yT fl H y * W + xT fl W x) v) ta := by
    intro y2 x2 hy2 hx2
    unfold F_X11_readTarga_1062
    rw [hy2, hx2, pk_mul, nI_add, Nat.mul_comm W, if_pos (inb_nI (by omega) (by omega)), nI_clamp (by omega), nI_1]
  unfold F_X11_readTarga_1009 F_X11_readTarga_1039
  dsimp only [mr_gw, mr_gh]
  rw [show nI H - 1 = nI (H - 1) from pk_sub (b := 1) (by omega), show nI W - 1 = nI (W - 1) from pk_sub (b := 1) (by omega), pk_sub (a := H - 1) (by omega), pk_sub (a := W - 1) (by omega)]
  by_cases c1 : nI fl &&& 32 = 0
  · rw [if_pos c1]
    by_cases c2 : nI fl &&& 16 = 0
    · rw [if_pos c2]; exact u _ _ (by unfold yT; rw [if_pos c1]) (by unfold xT; rw [if_pos c2])
    · rw [if_neg c2]; exact u _ _ (by unfold yT; rw [if_pos c1]) (by unfold xT; rw [if_neg c2])
  · rw [if_neg c1]
    by_cases c2 : nI fl &&& 16 = 0
    · rw [if_pos c2]; exact u _ _ (by unfold yT; rw [if_neg c1]) (by unfold xT; rw [if_pos c2])
    · rw [if_neg c2]; exact u _ _ (by unfold yT; rw [if_neg c1]) (by unfold xT; rw [if_neg c2])
theorem c125 {W H x y : Nat} (sb : A) (hx : x < W) (hy : y < H) (hT : W * H ≤ 4096) (r v : Int32) (px : A) (sc : Src) (f1 f2 f3 mp : Int32) (t fe mn : Nat) (dp : Int32) (b fl ab ix : Nat) (pa : Int32) (le : Nat) (hle : le < 2 ^ 30) (li : Int32) (ent : A) (k15 : Int32 → Int32 → Ras → Src → Tga → Out (Ras × Src × Tga) Unit) (k58 : Int32 → Int32 → Int32 → Int32 → Ras → Src → Tga → Out (Ras × Src × Tga) Unit) :
    F_X9_readPixels_125 sb k15 k58 v r (nI (yT fl H y * W)) (nI x) (nI W, nI H, px) sc (tgS f1 f2 f3 mp t fe mn dp b fl ab ix pa le li ent) = k58 v r (nI (yT fl H y * W)) (nI (x + 1)) (nI W, nI H, upd px (yT fl H y * W + xT fl W x) v) sc (tgS f1 f2 f3 mp t fe mn dp b fl ab ix pa (le - 1) li ent) := by
  have hi := idx_lt (xT_lt (fl := fl) hx) (yT_lt (fl := fl) hy)
  have el : iMax (nI le - 1) 0 = nI (le - 1) := by
    have := pk_sub_toInt (a := le) (b := 1) hle (by omega)
    rw [show nI 1 = 1 from rfl] at this
    by_cases c : le = 0
    · subst c; decide
    · rw [i_maxP (by rw [this]; omega)]; exact pk_sub (b := 1) (by omega)
  unfold F_X9_readPixels_125 F_X9_readPixels_166
  dsimp only [tg_f1, tg_f2, tg_f3, tg_map, tg_type, tg_fe, tg_many, tg_deep, tg_bits, tg_flags, tg_ab, tg_idx, tg_packets, tg_left, tg_like, tg_ent, x_w]
  rw [el, show nI W - 1 = nI (W - 1) from pk_sub (b := 1) (by omega), pk_sub (a := W - 1) (by omega)]
  unfold xT at hi ⊢
  by_cases c2 : nI fl &&& 16 = 0
  · rw [if_pos c2] at hi ⊢
    rw [nI_add, ut_set (by omega), fon_fok, nI_1, if_pos c2]
  · rw [if_neg c2] at hi ⊢
    rw [nI_add, ut_set (by omega), fon_fok, nI_1, if_neg c2]
/-- the reference behind its pixels -/
def E721 (sb : A) (mr : MR) (gt ta : A) : Out (MR × A × A) Int32 := if (mr_pos mr) = (mr_size mr) then (F_X11_readTarga_1102 sb mr gt ta) else (fon (F_X11_isTail sb mr) (fun z1084 s1084 => if z1084 = 0 then (fon (F_X11_wrong 5 (mr_pos mr) mr) (fun z1096 s1096 => if z1096 = 0 then (fok (0 : Int32) (s1096, gt, ta)) else (F_X11_readTarga_1102 sb s1096 gt ta)) (fun _ _ => fno)) else (F_X11_readTarga_1102 sb mr gt ta)) (fun _ _ => fno))
def PStepT (n T : Nat) (sb ta : A) (w g one two : Int32) (C : Out (Ras × Src × Tga) Unit) (R : Out (MR × A × A) Int32) : Prop :=
  (∃ (p : Nat) (px gt : A) (tg : Tga), p ≤ n ∧ tg_type tg = one ∧ tg_bits tg = two ∧ C = fok () ((w, g, px), Sr n p, tg) ∧ R = E721 sb (Mr n p w g one two (tg_packets tg)) gt ta ∧ ∀ i, i < T → px i = gt i) ∨
  (∃ (x : Ras) (sc : Src) (tg : Tga) (mr : MR) (gt : A), C = fex ISE (x, sc, tg) ∧ R = fok 0 (mr, gt, ta) ∧ Bad sc mr)
theorem t_pix {n W H p t fe mn b fl ab ix gr : Nat} (sb : A) (ho : okTB t b ix gr) (hp : p ≤ n) (hn : n ≤ 65536) (hW : W ≤ 4096) (hH : H ≤ 4096) (hW1 : 1 ≤ W) (hT : W * H ≤ 4096) (hfe : fe < 65536) (hmn : mn < 65536) (hab : ab < 16) (f1 f2 f3 mp dp pa0 le0 li0 : Int32) (ent ta px gt : A) (he : ix = 1 → ∀ k, k < mn → fe + k < 256 → ent (fe + k) = ta k) :
    PStepT n (W * H) sb ta (nI W) (nI H) (nI t) (nI b) (F_X9_readPixels (nI W, nI H, px) (Sr n p) sb (f1, f2, f3, mp, nI t, nI fe, nI mn, dp, nI b, nI fl, nI ab, nI ix, pa0, le0, li0, ent)) (lp (fun _ _ _ _ _ _ _ _ _ _ _ _ _ _ _ => fno) (F_X11_readTarga_721 sb) FU (nI t) (nI ix) (nI gr) (nI fe) (nI mn) (nI b) (nI fl) (nI ab) 0 0 0 0 (Mr n p (nI W) (nI H) (nI t) (nI b) 0) gt ta) := by
  have ht12 : t < 12 := by unfold okTB at ho; omega
  unfold F_X9_readPixels
  dsimp only [tg_f1, tg_f2, tg_f3, tg_map, tg_type, tg_fe, tg_many, tg_deep, tg_bits, tg_flags, tg_ab, tg_idx, tg_packets, tg_left, tg_like, tg_ent]
  have outer := lp_M (z := fun _ _ _ _ _ => fno) (f := F_X9_readPixels_15 sb) (fun m k1 => ∀ (y p N le : Nat) (v pa lc lr : Int32) (px gt : A), y + m = H → p ≤ n → W * H - y * W < N → le < 256 → (t < 9 → le = 0) → (le ≠ 0 → lc = lr) → (∀ j, j < y * W → px (pT fl W H j) = gt (pT fl W H j)) → PStepT n (W * H) sb ta (nI W) (nI H) (nI t) (nI b) (k1 v (nI y) (nI W, nI H, px) (Sr n p) (tgS f1 f2 f3 mp t fe mn dp b fl ab ix pa le lc ent)) (lp (fun _ _ _ _ _ _ _ _ _ _ _ _ _ _ _ => fno) (F_X11_readTarga_721 sb) N (nI t) (nI ix) (nI gr) (nI fe) (nI mn) (nI b) (nI fl) (nI ab) (nI le) lr v (nI (y * W)) (Mr n p (nI W) (nI H) (nI t) (nI b) pa) gt ta)) ?_ H (by omega)
  · have r := outer 0 p FU 0 0 0 li0 0 px gt (by omega) hp (by show _ < 100000; omega) (by omega) (fun _ => rfl) (fun h => absurd rfl h) (fun j hj => absurd hj (by omega))
    rw [Nat.zero_mul] at r
    exact r
  · intro m k1 ih y p N le v pa lc lr px gt hy hp hN hle ht9 hl hx
    unfold F_X9_readPixels_15
    dsimp only [x_g, tg_flags]
    by_cases c0 : m = 0
    · have : y = H := by omega
      subst this
      obtain ⟨N1, rfl⟩ : ∃ N1, N = N1 + 1 := ⟨N - 1, by omega⟩
      rw [if_pos (Int32.le_refl _), lp_s]
      unfold F_X11_readTarga_721
      dsimp only [mr_gw, mr_gh]
      rw [pk_mul, if_pos (by rw [Nat.mul_comm]; exact Int32.le_refl _)]
      refine Or.inl ⟨p, px, gt, _, hp, rfl, rfl, rfl, rfl, fun i hi => ?_⟩
      obtain ⟨k, hk, e⟩ := pT_sur (fl := fl) hW1 hi
      rw [← e]
      exact hx k (by rw [Nat.mul_comm]; exact hk)
    have hyH : y < H := by omega
    have hrow := yx_lt (W := W) hyH
    rw [if_neg (nI_ge hyH (by omega))]
    have sel : ∀ (f : Int32 → Out (Ras × Src × Tga) Unit), (if nI fl &&& 32 = 0 then f ((nI H - 1) - nI y) else f (nI y)) = f (nI (yT fl H y)) := by
      intro f
      unfold yT
      by_cases c : nI fl &&& 32 = 0
      · rw [if_pos c, if_pos c, show nI H - 1 = nI (H - 1) from pk_sub (b := 1) (by omega), pk_sub (by omega)]
      · rw [if_neg c, if_neg c]
    rw [sel (fun t0 => F_X9_readPixels_48 sb k1 v (nI y) t0 (nI W, nI H, px) (Sr n p) (tgS f1 f2 f3 mp t fe mn dp b fl ab ix pa le lc ent))]
    unfold F_X9_readPixels_48
    dsimp only [x_w]
    rw [pk_mul]
    have inner := lp_M (z := fun _ _ _ _ _ _ _ => fno) (f := F_X9_readPixels_58 sb k1) (fun m2 k2 => ∀ (x p N le : Nat) (v pa lc lr : Int32) (px gt : A), x + m2 = W → p ≤ n → W * H - (y * W + x) < N → le < 256 → (t < 9 → le = 0) → (le ≠ 0 → lc = lr) → (∀ j, j < y * W + x → px (pT fl W H j) = gt (pT fl W H j)) → PStepT n (W * H) sb ta (nI W) (nI H) (nI t) (nI b) (k2 v (nI y) (nI (yT fl H y * W)) (nI x) (nI W, nI H, px) (Sr n p) (tgS f1 f2 f3 mp t fe mn dp b fl ab ix pa le lc ent)) (lp (fun _ _ _ _ _ _ _ _ _ _ _ _ _ _ _ => fno) (F_X11_readTarga_721 sb) N (nI t) (nI ix) (nI gr) (nI fe) (nI mn) (nI b) (nI fl) (nI ab) (nI le) lr v (nI (y * W + x)) (Mr n p (nI W) (nI H) (nI t) (nI b) pa) gt ta)) ?_ W (by omega)
    · exact inner 0 p N le v pa lc lr px gt (by omega) hp (by omega) hle ht9 hl hx
    · intro m2 k2 ih2 x p N le v pa lc lr px gt hxm hp hN hle ht9 hl hx
      unfold F_X9_readPixels_58
      dsimp only [x_w, tg_left]
      by_cases c1 : m2 = 0
      · have : x = W := by omega
        subst this
        rw [if_pos (Int32.le_refl _), nI_1, ← yx_s]
        exact ih (m - 1) (by omega) (y + 1) p N le v pa lc lr px gt (by omega) hp (by rw [yx_s]; omega) hle ht9 hl (fun j hj => hx j (by rw [← yx_s]; exact hj))
      have hxW : x < W := by omega
      obtain ⟨N1, rfl⟩ : ∃ N1, N = N1 + 1 := ⟨N - 1, by omega⟩
      rw [if_neg (nI_ge hxW (by omega)), lp_s]
      unfold F_X11_readTarga_721
      dsimp only [mr_gw, mr_gh, mr_pos]
      rw [pk_mul, if_neg (nI_ge (by omega) (by omega)), if_pos (nI_ne0 (by omega) (by omega)), if_pos (nI_ne0 (by omega) (by omega)), pk_rem (by omega) (by omega) (by omega), pk_div (by omega) (by omega) (by omega), yx_mod hxW, yx_div hxW]
      -- after a pixel's value is known
      have fin : ∀ (q le2 : Nat) (w pa lc lr : Int32), q ≤ n → le2 < 256 → (t < 9 → le2 = 0) → (le2 ≠ 0 → lc = lr) → PStepT n (W * H) sb ta (nI W) (nI H) (nI t) (nI b) (k2 w (nI y) (nI (yT fl H y * W)) (nI (x + 1)) (nI W, nI H, upd px (yT fl H y * W + xT fl W x) w) (Sr n q) (tgS f1 f2 f3 mp t fe mn dp b fl ab ix pa le2 lc ent)) (lp (fun _ _ _ _ _ _ _ _ _ _ _ _ _ _ _ => fno) (F_X11_readTarga_721 sb) N1 (nI t) (nI ix) (nI gr) (nI fe) (nI mn) (nI b) (nI fl) (nI ab) (nI le2) lr w (nI (y * W + x + 1)) (Mr n q (nI W) (nI H) (nI t) (nI b) pa) (upd gt (yT fl H y * W + xT fl W x) w) ta) := by
        intro q le2 w pa lc lr hq h1 h2 h3
        refine ih2 (m2 - 1) (by omega) (x + 1) q N1 le2 w pa lc lr _ _ (by omega) hq (by omega) h1 h2 h3 (fun j hj => ?_)
        unfold upd; split
        · rfl
        · rename_i hne
          by_cases cj : j = y * W + x
          · subst cj
            unfold pT at hne
            rw [yx_div hxW, yx_mod hxW] at hne
            exact absurd rfl hne
          · exact hx j (by omega)
      -- a pixel is read
      have rd : ∀ (q le1 : Nat) (v16 pa lc lr : Int32), q ≤ n → le1 ≤ 256 → v16 = nI (le1 - 1) → (t < 9 → le1 ≤ 1) → (le1 - 1 ≠ 0 → lc = lr) → PStepT n (W * H) sb ta (nI W) (nI H) (nI t) (nI b) (F_X9_readPixels_119 sb k1 k2 (nI y) (nI (yT fl H y * W)) (nI x) (nI W, nI H, px) (Sr n q) (tgS f1 f2 f3 mp t fe mn dp b fl ab ix pa le1 lc ent)) (F_X11_readTarga_889 sb (lp (fun _ _ _ _ _ _ _ _ _ _ _ _ _ _ _ => fno) (F_X11_readTarga_721 sb) N1) (nI t) (nI ix) (nI gr) (nI fe) (nI mn) (nI b) (nI fl) (nI ab) v16 lr v (nI (y * W + x)) (nI x) (nI y) 1 (Mr n q (nI W) (nI H) (nI t) (nI b) pa) gt ta) := by
        intro q le1 v16 pa lc lr hq h1 hv h2 h3
        unfold F_X9_readPixels_119
        rcases rdpix (fl := fl) (le := le1) sb ho hq hn hfe hmn hab f1 f2 f3 mp dp pa lc ent ta gt he v16 lr v (nI (y * W + x)) (nI x) (nI y) (nI W) (nI H) (nI t) (nI b) pa (lp (fun _ _ _ _ _ _ _ _ _ _ _ _ _ _ _ => fno) (F_X11_readTarga_721 sb) N1) with ⟨w, q2, a1, a2, r1, r2⟩ | ⟨sc, mr, r1, r2, hb⟩
        · rw [r1, fon_fok, r2, c125 sb hxW hyH hT _ _ _ _ _ _ _ _ _ _ _ _ _ _ _ _ _ _ (by omega)]
          dsimp only
          rw [t1009 sb hxW hyH hT, hv]
          exact fin q2 (le1 - 1) w pa lc lr a2 (by omega) (fun h => by have := h2 h; omega) h3
        · rw [r1, fon_fex, r2]
          exact Or.inr ⟨_, _, _, _, _, rfl, rfl, hb⟩
      by_cases cle : le = 0
      · subst cle
        rw [if_pos (c := nI 0 = 0) rfl]
        unfold F_X9_readPixels_79 F_X9_readPixels_107
        rw [if_neg (c := (1 : Int32) = 0) (by decide)]
        dsimp only [tg_type, x_w]
        by_cases c9 : t < 9
        · rw [if_pos (c := nI t ≤ 8) (by (simp (disch := omega) only [nI_toInt, Int32.lt_iff_toInt_lt, Int32.le_iff_toInt_le, ← Int32.toInt_inj, Int32.reduceToInt]; omega)), if_pos (c := nI t < 9) (by (simp (disch := omega) only [nI_toInt, Int32.lt_iff_toInt_lt, Int32.le_iff_toInt_le, ← Int32.toInt_inj, Int32.reduceToInt]; omega))]
          exact rd p 0 _ pa lc lr hp (by omega) rfl (fun _ => by omega) (fun h => absurd rfl h)
        · rw [if_neg (c := nI t ≤ 8) (by (simp (disch := omega) only [nI_toInt, Int32.lt_iff_toInt_lt, Int32.le_iff_toInt_le, ← Int32.toInt_inj, Int32.reduceToInt]; omega)), if_neg (c := nI t < 9) (by (simp (disch := omega) only [nI_toInt, Int32.lt_iff_toInt_lt, Int32.le_iff_toInt_le, ← Int32.toInt_inj, Int32.reduceToInt]; omega)), if_pos (c := nI 0 = 0) rfl]
          unfold F_X9_readPacketHead
          have hb := bt_lt sb p
          by_cases c2 : p + 1 ≤ n
          case neg =>
            rw [nx_no sb (by omega) (by omega), fon_fex, fon_fex, wt_no 1 1 rfl _ _ _ _ _ (by omega) (by omega), fon_fok, if_pos rfl]
            exact Or.inr ⟨_, _, _, _, _, rfl, rfl, b_bad _ _ _ _ _ _ _ _ _ _ (by decide)⟩
          rw [nx_ok sb (by omega) hn, fon_fok, wt_ok 1 1 rfl _ _ _ _ _ c2 (by omega), fon_fok, if_neg (c := (1 : Int32) = 0) (by decide)]
          unfold F_X9_readPacketHead_24 F_X11_readTarga_796 F_X11_readTarga_827 F_X11_readTarga_886
          dsimp only [tg_f1, tg_f2, tg_f3, tg_map, tg_type, tg_fe, tg_many, tg_deep, tg_bits, tg_flags, tg_ab, tg_idx, tg_packets, tg_left, tg_like, tg_ent, sc_pos, mr_size, mr_pos, mr_kind, mr_whr, mr_gw, mr_gh, mr_one, mr_two, mr_three]
          rw [b_ok sb (by omega)]
          simp only [fon_fok, rf_eq, fon_fex, wr_eq, if_pos (show isB 0 from Or.inl rfl), if_pos (show isB 1 from Or.inr rfl)]
          rw [pk_andN (by omega) (m := 127) 7 rfl, nI_1, nI_1, nI_1, show (127 : Int32) = nI 127 from rfl, pk_sub (Nat.le_of_lt hxW)]
          have both : ∀ (l : Nat) (le2 : Nat), (l = 0 ∨ l = 1) → le2 = bt sb p % 2 ^ 7 + 1 → PStepT n (W * H) sb ta (nI W) (nI H) (nI t) (nI b) (fon (if nI le2 ≤ nI (W - x) then (fok () (Sr n (p + 1), (tgS f1 f2 f3 mp t fe mn dp b fl ab ix (pa + 1) le2 (nI l) ent))) else (fex ISE ((nI n, nI (p + 1), 4, nI p), (tgS f1 f2 f3 mp t fe mn dp b fl ab ix pa le2 (nI l) ent)))) (fun z104 s104 => if (1 : Int32) = 0 then (if tg_like s104.2 = 0 then (F_X9_readPixels_119 sb k1 k2 (nI y) (nI (yT fl H y * W)) (nI x) (nI W, nI H, px) s104.1 s104.2) else (F_X9_readPixels_125 sb k1 k2 v (nI y) (nI (yT fl H y * W)) (nI x) (nI W, nI H, px) s104.1 s104.2)) else (F_X9_readPixels_119 sb k1 k2 (nI y) (nI (yT fl H y * W)) (nI x) (nI W, nI H, px) s104.1 s104.2)) (fun E s104 => fex E ((nI W, nI H, px), s104.1, s104.2))) (if (nI x + nI le2) ≤ nI W then F_X11_readTarga_889 sb (lp (fun _ _ _ _ _ _ _ _ _ _ _ _ _ _ _ => fno) (F_X11_readTarga_721 sb) N1) (nI t) (nI ix) (nI gr) (nI fe) (nI mn) (nI b) (nI fl) (nI ab) (nI le2 + -1) (nI l) v (nI (y * W + x)) (nI x) (nI y) 1 (nI n, nI (p + 1), 0, -1, nI W, nI H, nI t, nI b, pa + 1) gt ta else fok 0 ((nI n, nI p, 4, nI p, nI W, nI H, nI t, nI b, pa), gt, ta)) := by
            intro l le2 hl0 hle2
            have h128 : bt sb p % 2 ^ 7 < 128 := Nat.mod_lt _ (by decide)
            rw [nI_add]
            by_cases cr : x + le2 ≤ W
            · rw [if_pos (nI_le (by omega) (by omega)), fon_fok, if_pos (nI_le cr (by omega)), if_neg (c := (1 : Int32) = 0) (by decide)]
              exact rd (p + 1) le2 _ (pa + 1) (nI l) (nI l) c2 (by omega) (sb_m1 (by omega)) (fun h => absurd h c9) (fun _ => rfl)
            · rw [if_neg (nI_ge (by omega) (by omega)), fon_fex, if_neg (nI_ge (by omega) (by omega))]
              exact Or.inr ⟨_, _, _, _, _, rfl, rfl, b_bad _ _ _ _ _ _ _ _ _ _ (by decide)⟩
          by_cases c128 : bt sb p < 128
          · rw [if_pos (c := nI (bt sb p) ≤ nI 127) (by (simp (disch := omega) only [nI_toInt, Int32.lt_iff_toInt_lt, Int32.le_iff_toInt_le, ← Int32.toInt_inj, Int32.reduceToInt]; omega)), if_pos (c := nI (bt sb p) < 128) (by (simp (disch := omega) only [nI_toInt, Int32.lt_iff_toInt_lt, Int32.le_iff_toInt_le, ← Int32.toInt_inj, Int32.reduceToInt]; omega)), if_pos (c := True) trivial, show bt sb p + 1 = bt sb p % 2 ^ 7 + 1 from by omega]
            exact both 0 _ (Or.inl rfl) rfl
          · rw [if_neg (c := nI (bt sb p) ≤ nI 127) (by (simp (disch := omega) only [nI_toInt, Int32.lt_iff_toInt_lt, Int32.le_iff_toInt_le, ← Int32.toInt_inj, Int32.reduceToInt]; omega)), if_neg (c := nI (bt sb p) < 128) (by (simp (disch := omega) only [nI_toInt, Int32.lt_iff_toInt_lt, Int32.le_iff_toInt_le, ← Int32.toInt_inj, Int32.reduceToInt]; omega)), if_neg (c := (1 : Int32) = 0) (by decide), pk_sub (by omega), show bt sb p - 127 = bt sb p % 2 ^ 7 + 1 from by omega]
            exact both 1 _ (Or.inr rfl) rfl
      · have h9 : ¬ t < 9 := fun h => cle (ht9 h)
        have hlc := hl cle
        subst hlc
        rw [if_neg (c := nI le = 0) (nI_ne0 (by omega) (by omega)), if_neg (c := nI t < 9) (by (simp (disch := omega) only [nI_toInt, Int32.lt_iff_toInt_lt, Int32.le_iff_toInt_le, ← Int32.toInt_inj, Int32.reduceToInt]; omega)), if_neg (c := nI le = 0) (nI_ne0 (by omega) (by omega))]
        unfold F_X9_readPixels_79 F_X9_readPixels_107 F_X11_readTarga_884 F_X11_readTarga_886
        rw [if_pos (c := (0 : Int32) = 0) rfl]
        dsimp only [tg_like]
        by_cases cl : lc = 0
        · rw [if_pos cl, if_pos cl]
          exact rd p le _ pa lc lc hp (by omega) (sb_m1 (by omega)) (fun h => absurd h h9) (fun _ => rfl)
        · rw [if_neg cl, if_neg cl, c125 sb hxW hyH hT _ _ _ _ _ _ _ _ _ _ _ _ _ _ _ _ _ _ (by omega)]
          unfold F_X11_readTarga_889
          rw [if_pos rfl, t1009 sb hxW hyH hT, sb_m1 (by omega)]
          exact fin p (le - 1) v pa lc lc hp (by omega) (fun h => absurd h h9) (fun _ => rfl)
