theorem mixN {r g b a : Nat} (hr : r < 256) (hg : g < 256) (hb : b < 256) (ha : a < 256) : F_X11_mix (nI r) (nI g) (nI b) (nI a) = nI (((r * 256 + g) * 256 + b) * 256 + a) := by
  unfold F_X11_mix
  rw [pk_shlN _ 24 (by decide) (by omega), pk_shlN _ 16 (by decide) (by omega), pk_shlN _ 8 (by decide) (by omega), orN (k := 24) (by omega) (by omega)]
  rw [show r * 2 ^ 24 + g * 2 ^ 16 = (r * 256 + g) * 2 ^ 16 from by omega, orN (k := 16) (by omega) (by omega)]
  rw [show (r * 256 + g) * 2 ^ 16 + b * 2 ^ 8 = ((r * 256 + g) * 256 + b) * 2 ^ 8 from by omega, orN (k := 8) (by omega) (by omega)]
theorem sk_idem (sb : A) (n : Nat) : ∀ m i, m ≤ n → sk sb n (n - sk sb n m i) 0 = sk sb n m i
  | 0, i, _ => by
    show sk sb n (n - n) 0 = n
    rw [show n - n = 0 from by omega]; rfl
  | m + 1, i, h => by
    rw [sk_s]
    split
    · split <;> exact sk_idem sb n m _ (by omega)
    · rename_i ci
      split
      · exact sk_idem sb n m _ (by omega)
      · rename_i c1
        split
        · exact sk_idem sb n m _ (by omega)
        · rename_i c2
          exact sk_stay (by omega) c1 c2
/-- two readers of pixels, up to what follows -/
def PStep (n T : Nat) (w g one two three : Int32) (C : Out (Ras × Src) Unit) (R : Out (MR × A) Int32) (K : MR → A → Out (MR × A) Int32) : Prop :=
  (∃ (p : Nat) (px gt : A), p ≤ n ∧ C = fok () ((w, g, px), Sr n p) ∧ R = K (Mr n p w g one two three) gt ∧ ∀ i, i < T → px i = gt i) ∨
  (∃ (x : Ras) (sc : Src) (mr : MR) (gt : A), C = fex ISE (x, sc) ∧ R = fok 0 (mr, gt) ∧ Bad sc mr)
theorem p_bad {n T : Nat} {w g one two three : Int32} {C : Out (Ras × Src) Unit} {R : Out (MR × A) Int32} {K : MR → A → Out (MR × A) Int32} {x : Ras} {sc : Src} {mr : MR} {gt : A} (h1 : C = fex ISE (x, sc)) (h2 : R = fok 0 (mr, gt)) (h3 : Bad sc mr) : PStep n T w g one two three C R K := Or.inr ⟨x, sc, mr, gt, h1, h2, h3⟩
/-- the reference's last step of a text -/
def KT (sb : A) (mr : MR) (gt : A) : Out (MR × A) Int32 := fon (F_X11_skip sb mr) (fun z124 s124 => fon (F_X11_closes s124) (fun z128 s128 => if isB z128 then (fok (z128 : Int32) (s128, gt)) else fno) (fun _ _ => fno)) (fun _ _ => fno)
def KB (mr : MR) (gt : A) : Out (MR × A) Int32 := fon (F_X11_closes mr) (fun z96 s96 => if isB z96 then (fok (z96 : Int32) (s96, gt)) else fno) (fun _ _ => fno)
theorem gr0 : F_X11_gray 0 = 255 := by decide
theorem gr255 : F_X11_gray 255 = -1 := by decide
theorem pn_signs {n W H p : Nat} (sb : A) (hp : p ≤ n) (hn : n ≤ 65536) (hT : W * H ≤ 4096) (h1 : 1 ≤ W * H) (one two three : Int32) (px gt : A) : PStep n (W * H) (nI W) (nI H) one two three (F_X5_readSigns (nI W, nI H, px) (Sr n p) sb) (F_X11_readSigns sb (Mr n p (nI W) (nI H) one two three) gt) (KT sb) := by
  unfold F_X5_readSigns F_X11_readSigns
  have step : ∀ (m : Nat) (k1 : Int32 → Int32 → Ras → Src → Out (Ras × Src) Unit) (k2 : Int32 → MR → A → Out (MR × A) Int32), (∀ j, j < m → ∀ (p d : Nat) (px gt : A), d + j = W * H → 0 < d → p ≤ n → (∀ i, i < d → px i = gt i) → PStep n (W * H) (nI W) (nI H) one two three (k1 (nI (W * H)) (nI d) (nI W, nI H, px) (Sr n p)) (k2 (nI d) (Mr n p (nI W) (nI H) one two three) gt) (KT sb)) → ∀ (q d : Nat) (px gt : A), d + m = W * H → 1 ≤ m → q ≤ n → (∀ i, i < d → px i = gt i) → PStep n (W * H) (nI W) (nI H) one two three (fon (F_X8_next (Sr n q) sb) (fun z27 s27 => if z27 = 48 then (F_X5_readSigns_53 sb k1 (nI (W * H)) (nI d) z27 (nI W, nI H, px) s27) else (if z27 = 49 then (F_X5_readSigns_53 sb k1 (nI (W * H)) (nI d) z27 (nI W, nI H, px) s27) else (fon (F_X8_refuse 2 (nI q) s27) (fun _ _ => fno) (fun E s50 => fex E ((nI W, nI H, px), s50))))) (fun E s27 => fex E ((nI W, nI H, px), s27))) (F_X11_readSigns_32 sb k2 (nI d) (Mr n q (nI W) (nI H) one two three) gt) (KT sb) := by
    intro m k1 k2 ih q d px gt hd hm hq hx
    unfold F_X11_readSigns_32
    by_cases c1 : q + 1 ≤ n
    case neg =>
      rw [nx_no sb (by omega) (by omega), fon_fex, wt_no 1 1 rfl _ _ _ _ _ (by omega) (by omega), fon_fok, if_pos rfl]
      exact p_bad rfl rfl (b_bad _ _ _ _ _ _ _ _ _ _ (by decide))
    have hb := bt_lt sb q
    rw [nx_ok sb (by omega) hn, fon_fok, wt_ok 1 1 rfl _ _ _ _ _ (by omega) (by omega), fon_fok, if_neg (c := (1 : Int32) = 0) (by decide)]
    unfold F_X11_readSigns_78 F_X11_readSigns_103 F_X5_readSigns_53 F_X5_readSigns_69
    dsimp only [mr_size, mr_pos, mr_kind, mr_whr, mr_gw, mr_gh, mr_one, mr_two, mr_three]
    rw [b_ok sb (by omega), fon_fok, fon_fok, fon_fok, ut_set (by omega), ut_set (by omega), fon_fok, fon_fok, if_pos (inb_nI (by omega) (by omega)), if_pos (inb_nI (by omega) (by omega)), nI_clamp (by omega), nI_1, nI_1, gr0, gr255]
    dsimp only [x_w, x_g, x_p]
    have fin : ∀ v, PStep n (W * H) (nI W) (nI H) one two three (k1 (nI (W * H)) (nI (d + 1)) (nI W, nI H, upd px d v) (Sr n (q + 1))) (k2 (nI (d + 1)) (Mr n (q + 1) (nI W) (nI H) one two three) (upd gt d v)) (KT sb) := fun v => ih (m - 1) (by omega) (q + 1) (d + 1) _ _ (by omega) (by omega) (by omega) (fun i hi => by
      unfold upd; split
      · rfl
      · exact hx i (by omega))
    by_cases c48 : bt sb q = 48
    · rw [if_pos (by rw [c48]; rfl), if_neg (by rw [c48]; decide), if_pos (by rw [c48]; rfl), if_neg (by rw [c48]; decide)]
      exact fin _
    · rw [if_neg (c := nI (bt sb q) = 48) (by (simp (disch := omega) only [nI_toInt, Int32.lt_iff_toInt_lt, Int32.le_iff_toInt_le, ← Int32.toInt_inj, Int32.reduceToInt]; omega)), if_neg (c := nI (bt sb q) = 48) (by (simp (disch := omega) only [nI_toInt, Int32.lt_iff_toInt_lt, Int32.le_iff_toInt_le, ← Int32.toInt_inj, Int32.reduceToInt]; omega))]
      by_cases c49 : bt sb q = 49
      · simp only [if_pos (show nI (bt sb q) = 49 by rw [c49]; rfl)]
        exact fin _
      · rw [if_neg (c := nI (bt sb q) = 49) (by (simp (disch := omega) only [nI_toInt, Int32.lt_iff_toInt_lt, Int32.le_iff_toInt_le, ← Int32.toInt_inj, Int32.reduceToInt]; omega)), if_neg (c := nI (bt sb q) = 49) (by (simp (disch := omega) only [nI_toInt, Int32.lt_iff_toInt_lt, Int32.le_iff_toInt_le, ← Int32.toInt_inj, Int32.reduceToInt]; omega)), rf_eq, fon_fex, wr_eq, fon_fok, if_pos (Or.inl rfl)]
        exact p_bad rfl rfl (b_bad _ _ _ _ _ _ _ _ _ _ (by decide))
  have hst : ∀ (m : Nat) (k1 : Int32 → Int32 → Ras → Src → Out (Ras × Src) Unit) (k2 : Int32 → MR → A → Out (MR × A) Int32), (∀ j, j < m → ∀ (p d : Nat) (px gt : A), d + j = W * H → 0 < d → p ≤ n → (∀ i, i < d → px i = gt i) → PStep n (W * H) (nI W) (nI H) one two three (k1 (nI (W * H)) (nI d) (nI W, nI H, px) (Sr n p)) (k2 (nI d) (Mr n p (nI W) (nI H) one two three) gt) (KT sb)) → ∀ (p d : Nat) (px gt : A), d + m = W * H → 0 < d → p ≤ n → (∀ i, i < d → px i = gt i) → PStep n (W * H) (nI W) (nI H) one two three (F_X5_readSigns_11 sb k1 (nI (W * H)) (nI d) (nI W, nI H, px) (Sr n p)) (F_X11_readSigns_2 sb k2 (nI d) (Mr n p (nI W) (nI H) one two three) gt) (KT sb) := by
    intro m k1 k2 ih p d px gt hd h0 hp hx
    unfold F_X5_readSigns_11 F_X11_readSigns_2
    dsimp only [mr_gw, mr_gh]
    rw [pk_mul]
    by_cases c0 : m = 0
    · have : d = W * H := by omega
      subst this
      rw [if_pos (Int32.le_refl _), if_pos (Int32.le_refl _)]
      exact Or.inl ⟨p, px, gt, hp, rfl, rfl, hx⟩
    · have hs := sk_in sb n (n - p) 0 (by omega)
      rw [if_neg (nI_ge (by omega) (by omega)), if_neg (nI_ge (by omega) (by omega)), c_skip sb hp hn, fon_fok, if_neg (c := nI d = 0) (nI_ne0 h0 (by omega)), r_skip sb hp hn, fon_fok]
      dsimp only [sc_pos]
      exact step m k1 k2 ih _ d px gt hd (by omega) hs.2 hx
  rw [show lp (fun _ _ _ => fno) (F_X11_readSigns_2 sb) FU = F_X11_readSigns_2 sb (lp (fun _ _ _ => fno) (F_X11_readSigns_2 sb) 99999) from rfl, show lp (fun _ _ _ _ => fno) (F_X5_readSigns_11 sb) FU = F_X5_readSigns_11 sb (lp (fun _ _ _ _ => fno) (F_X5_readSigns_11 sb) 99999) from rfl]
  unfold F_X11_readSigns_2
  dsimp only [mr_gw, mr_gh]
  rw [pk_mul, if_neg (c := nI (W * H) ≤ 0) (nI_nle (by omega) (by omega)), if_pos rfl]
  rcases d_gap sb hp hn (nI W) (nI H) one two three with ⟨g1, g2, e1, e2⟩ | ⟨k, ww, hk, e1, e2⟩
  case inr => rw [e1, fon_fex, e2, fon_fok, if_pos rfl]; exact p_bad rfl rfl (b_bad _ _ _ _ _ _ _ _ _ _ hk)
  rw [e1, fon_fok, e2, fon_fok, if_neg (by decide), ut_count rfl rfl, fon_fok]
  unfold F_X5_readSigns_11
  rw [if_neg (c := nI (W * H) ≤ 0) (nI_nle (by omega) (by omega)), c_skip sb g2 hn, fon_fok, sk_idem sb n _ _ (by omega)]
  dsimp only [sc_pos]
  refine step (W * H) _ _ (fun j hj => ?_) _ 0 px gt (by omega) h1 g2 (fun i hi => absurd hi (by omega))
  exact lp_2 (z := fun _ _ _ _ => fno) (f := F_X5_readSigns_11 sb) (z2 := fun _ _ _ => fno) (f2 := F_X11_readSigns_2 sb) (fun m k1 k2 => ∀ (p d : Nat) (px gt : A), d + m = W * H → 0 < d → p ≤ n → (∀ i, i < d → px i = gt i) → PStep n (W * H) (nI W) (nI H) one two three (k1 (nI (W * H)) (nI d) (nI W, nI H, px) (Sr n p)) (k2 (nI d) (Mr n p (nI W) (nI H) one two three) gt) (KT sb)) hst 99999 j (by omega)
