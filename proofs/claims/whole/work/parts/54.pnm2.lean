theorem bit_f : ∀ B, B < 256 → ∀ s, s < 8 → (((nI (B * 2 ^ s)) &&& 128 = 0) ↔ ¬ ((nI B >>> ((7 - nI s) &&& 31)) &&& 1 = 1)) := by decide +kernel
theorem bit_z {B s : Nat} (hB : B < 256) (hs : s < 8) : ((nI (B * 2 ^ s)) &&& 128 = 0) ↔ ¬ ((nI B >>> ((7 - nI s) &&& 31)) &&& 1 = 1) := bit_f B hB s hs
theorem yx_mod {x y W : Nat} (hx : x < W) : (y * W + x) % W = x := by
  rw [Nat.mul_comm, Nat.mul_add_mod, Nat.mod_eq_of_lt hx]
theorem yx_div {x y W : Nat} (hx : x < W) : (y * W + x) / W = y := by
  rw [Nat.mul_comm, Nat.mul_add_div (by omega), Nat.div_eq_of_lt hx, Nat.add_zero]
theorem yx_lt {y W H : Nat} (hy : y < H) : y * W + W ≤ W * H := by
  have h1 : (y + 1) * W ≤ H * W := Nat.mul_le_mul_right W hy
  rw [Nat.succ_mul] at h1
  rw [Nat.mul_comm W H]
  exact h1
theorem yx_s (y W : Nat) : (y + 1) * W = y * W + W := Nat.succ_mul y W
theorem sh1 {B s : Nat} (hB : B < 256) (hs : s < 8) : nI (B * 2 ^ s) <<< ((1 : Int32) &&& 31) = nI (B * 2 ^ (s + 1)) := by
  have h : B * 2 ^ s ≤ 255 * 2 ^ 7 := Nat.mul_le_mul (by omega) (Nat.pow_le_pow_right (by decide) (by omega))
  rw [pk_shlN _ 1 (by decide) (by omega)]
  rw [show B * 2 ^ s * 2 ^ 1 = B * 2 ^ (s + 1) from by rw [Nat.mul_assoc, ← Nat.pow_add]]
theorem pn_bits {n W H p : Nat} (sb : A) (hp : p ≤ n) (hn : n ≤ 65536) (hW : W ≤ 4096) (hH : H ≤ 4096) (hW1 : 1 ≤ W) (hT : W * H ≤ 4096) (one two three : Int32) (px gt : A) : PStep n (W * H) (nI W) (nI H) one two three (F_X5_readBits (nI W, nI H, px) (Sr n p) sb) (F_X11_readBits sb (Mr n p (nI W) (nI H) one two three) gt) KB := by
  unfold F_X5_readBits F_X11_readBits
  have outer := lp_M (z := fun _ _ _ _ _ => fno) (f := F_X5_readBits_7 sb) (fun m k1 => ∀ (y p N : Nat) (bi : Int32) (px gt : A), y + m = H → p ≤ n → W * H - y * W < N → (∀ i, i < y * W → px i = gt i) → PStep n (W * H) (nI W) (nI H) one two three (k1 (nI (y * W)) bi (nI y) (nI W, nI H, px) (Sr n p)) (lp (fun _ _ _ => fno) (F_X11_readBits_2 sb) N (nI (y * W)) (Mr n p (nI W) (nI H) one two three) gt) KB) ?_ H (by omega)
  · have := outer 0 p FU 0 px gt (by omega) hp (by show _ < 100000; omega) (fun i hi => absurd hi (by omega))
    rw [Nat.zero_mul] at this
    exact this
  · intro m k1 ih y p N bi px gt hy hp hN hx
    unfold F_X5_readBits_7
    dsimp only [x_g]
    by_cases c0 : m = 0
    · have : y = H := by omega
      subst this
      obtain ⟨N1, rfl⟩ : ∃ N1, N = N1 + 1 := ⟨N - 1, by omega⟩
      rw [if_pos (Int32.le_refl _), lp_s]
      unfold F_X11_readBits_2
      dsimp only [mr_gw, mr_gh]
      rw [pk_mul, if_pos (by rw [Nat.mul_comm]; exact Int32.le_refl _)]
      exact Or.inl ⟨p, px, gt, hp, rfl, rfl, fun i hi => hx i (by rw [Nat.mul_comm]; exact hi)⟩
    · have hyH : y < H := by omega
      have hrow := yx_lt (W := W) hyH
      rw [if_neg (nI_ge hyH (by omega))]
      have inner := lp_M (z := fun _ _ _ _ _ _ => fno) (f := F_X5_readBits_19 sb k1) (fun m2 k2 => ∀ (x p N : Nat) (bi : Int32) (px gt : A), x + m2 = W → p ≤ n → W * H - (y * W + x) < N → (∀ i, i < y * W + x → px i = gt i) → (x % 8 ≠ 0 → 0 < p ∧ bi = nI (bt sb (p - 1) * 2 ^ ((x - 1) % 8))) → PStep n (W * H) (nI W) (nI H) one two three (k2 (nI (y * W + x)) bi (nI y) (nI x) (nI W, nI H, px) (Sr n p)) (lp (fun _ _ _ => fno) (F_X11_readBits_2 sb) N (nI (y * W + x)) (Mr n p (nI W) (nI H) one two three) gt) KB) ?_ W (by omega)
      · exact inner 0 p N bi px gt (by omega) hp (by omega) hx (fun h => absurd rfl h)
      · intro m2 k2 ih2 x p N bi px gt hxm hp hN hx hbi
        unfold F_X5_readBits_19
        dsimp only [x_w]
        by_cases c1 : m2 = 0
        · have : x = W := by omega
          subst this
          rw [if_pos (Int32.le_refl _), nI_1, ← yx_s]
          exact ih (m - 1) (by omega) (y + 1) p N bi px gt (by omega) hp (by rw [yx_s]; omega) (fun i hi => hx i (by rw [← yx_s]; exact hi))
        · have hxW : x < W := by omega
          obtain ⟨N1, rfl⟩ : ∃ N1, N = N1 + 1 := ⟨N - 1, by omega⟩
          have hm : x % 8 < 8 := Nat.mod_lt _ (by decide)
          have go : ∀ (q : Nat) (px gt : A), 0 < q → q ≤ n → (∀ i, i < y * W + x → px i = gt i) → PStep n (W * H) (nI W) (nI H) one two three (F_X5_readBits_46 sb k1 k2 (nI (y * W + x)) (nI y) (nI x) (nI (bt sb (q - 1) * 2 ^ (x % 8))) (nI W, nI H, px) (Sr n q)) (F_X11_readBits_49 sb (lp (fun _ _ _ => fno) (F_X11_readBits_2 sb) N1) (nI (y * W + x)) (nI x) (Mr n q (nI W) (nI H) one two three) gt) KB := by
            intro q px gt hq0 hq hx
            have hB := bt_lt sb (q - 1)
            unfold F_X5_readBits_46 F_X5_readBits_64 F_X11_readBits_49 F_X11_readBits_85
            dsimp only [mr_pos]
            rw [show nI q - 1 = nI (q - 1) from pk_sub (b := 1) hq0, b_ok sb (by omega), fon_fok, ut_set (by omega), ut_set (by omega), fon_fok, fon_fok, if_pos (inb_nI (by omega) (by omega)), if_pos (inb_nI (by omega) (by omega)), nI_clamp (by omega), nI_1, nI_1, gr0, gr255, show (8 : Int32) = nI 8 from rfl, pk_rem (by omega) (by omega) (by omega)]
            dsimp only [x_w, x_g, x_p]
            have fin : ∀ v, PStep n (W * H) (nI W) (nI H) one two three (k2 (nI (y * W + x + 1)) (nI (bt sb (q - 1) * 2 ^ (x % 8))) (nI y) (nI (x + 1)) (nI W, nI H, upd px (y * W + x) v) (Sr n q)) (lp (fun _ _ _ => fno) (F_X11_readBits_2 sb) N1 (nI (y * W + x + 1)) (Mr n q (nI W) (nI H) one two three) (upd gt (y * W + x) v)) KB := by
              intro v
              have r := ih2 (m2 - 1) (by omega) (x + 1) q N1 (nI (bt sb (q - 1) * 2 ^ (x % 8))) (upd px (y * W + x) v) (upd gt (y * W + x) v) (by omega) hq (by omega) (fun i hi => by
                unfold upd; split
                · rfl
                · exact hx i (by omega)) (fun _ => ⟨hq0, by rw [Nat.add_sub_cancel]⟩)
              exact r
            have hz := bit_z hB hm
            by_cases cz : nI (bt sb (q - 1) * 2 ^ (x % 8)) &&& 128 = 0
            · rw [if_pos cz, if_neg (hz.mp cz)]
              exact fin _
            · rw [if_neg cz, if_pos (Classical.byContradiction fun e => cz (hz.mpr e))]
              exact fin _
          rw [if_neg (nI_ge hxW (by omega)), lp_s]
          unfold F_X11_readBits_2
          dsimp only [mr_gw, mr_gh]
          rw [pk_mul, if_neg (nI_ge (by omega) (by omega)), if_pos (nI_ne0 (by omega) (by omega)), pk_rem (by omega) (by omega) (by omega), yx_mod hxW, show (8 : Int32) = nI 8 from rfl, pk_rem (by omega) (by omega) (by omega), pk_andN (by omega) (m := 7) 3 rfl, show 2 ^ 3 = 8 from rfl]
          by_cases c8 : x % 8 = 0
          · rw [if_pos (c := nI (x % 8) = 0) (by rw [c8]; rfl), if_pos (c := nI (x % 8) = 0) (by rw [c8]; rfl)]
            by_cases c2 : p + 1 ≤ n
            · rw [nx_ok sb (by omega) hn, fon_fok, wt_ok 1 1 rfl _ _ _ _ _ c2 (by omega), fon_fok, if_neg (by decide)]
              dsimp only [mr_size, mr_pos, mr_kind, mr_whr, mr_gw, mr_gh, mr_one, mr_two, mr_three]
              rw [nI_1]
              have r := go (p + 1) px gt (by omega) c2 hx
              rw [c8, Nat.pow_zero, Nat.mul_one, Nat.add_sub_cancel] at r
              exact r
            · rw [nx_no sb (by omega) (by omega), fon_fex, wt_no 1 1 rfl _ _ _ _ _ (by omega) (by omega), fon_fok, if_pos rfl]
              exact p_bad rfl rfl (b_bad _ _ _ _ _ _ _ _ _ _ (by decide))
          · rw [if_neg (c := nI (x % 8) = 0) (nI_ne0 (by omega) (by omega)), if_neg (c := nI (x % 8) = 0) (nI_ne0 (by omega) (by omega))]
            obtain ⟨hp0, rfl⟩ := hbi c8
            rw [sh1 (bt_lt _ _) (Nat.mod_lt _ (by decide)), show (x - 1) % 8 + 1 = x % 8 from by omega]
            exact go p px gt hp0 hp hx
theorem scaled_ok {v M : Nat} (hv : v ≤ M) (h1 : 1 ≤ M) (h2 : M ≤ 65535) : ∃ s, s < 256 ∧ (510 * nI v + nI M) / (2 * nI M) = nI s ∧ (2 : Int32) * nI M ≠ 0 := by
  have e1 : (510 : Int32) * nI v + nI M = nI (510 * v + M) := by rw [show (510 : Int32) = nI 510 from rfl, pk_mul, nI_add]
  have e2 : (2 : Int32) * nI M = nI (2 * M) := by rw [show (2 : Int32) = nI 2 from rfl, pk_mul]
  rw [e1, e2]
  refine ⟨(510 * v + M) / (2 * M), ?_, pk_div (by omega) (by omega) (by omega), nI_ne0 (by omega) (by omega)⟩
  exact (Nat.div_lt_iff_lt_mul (by omega)).mpr (by omega)
/-- one sample of a text, in the reference -/
def RSt (sb : A) (mr : MR) (gt : A) (KK : Int32 → MR → Out (MR × A) Int32) : Out (MR × A) Int32 := fon (F_X11_gap sb mr) (fun z41 s41 => if z41 = 0 then (fok (0 : Int32) (s41, gt)) else (fon (F_X11_number sb s41) (fun z56 s56 => if 0 ≤ z56 then (if z56 ≤ (mr_two s56) then (fon (F_X11_scaled z56 (mr_two s56)) (fun z96 s96 => KK z96 s56) (fun _ _ => fno)) else (fon (F_X11_wrong 6 (mr_pos s41) s56) (fun z82 s82 => if isB z82 then (fok (z82 : Int32) (s82, gt)) else fno) (fun _ _ => fno))) else (fok (0 : Int32) (s56, gt))) (fun _ _ => fno))) (fun _ _ => fno)
/-- one sample of bytes, in the reference -/
def RSb (sb : A) (v2 : Int32) (mr : MR) (gt : A) (KK : Int32 → MR → Out (MR × A) Int32) : Out (MR × A) Int32 := fon (F_X11_want v2 mr) (fun z59 s59 => if z59 = 0 then (fok (0 : Int32) (s59, gt)) else (fon (F_X11_top (mr_pos s59) v2 sb) (fun z73 s73 => if (z73).toInt32 ≤ (mr_two s59) then (fon (F_X11_scaled ((z73).toInt32) (mr_two s59)) (fun z110 s110 => KK z110 ((mr_size s59), ((mr_pos s59) + v2), (mr_kind s59), (mr_whr s59), (mr_gw s59), (mr_gh s59), (mr_one s59), (mr_two s59), (mr_three s59))) (fun _ _ => fno)) else (fon (F_X11_wrong 6 (mr_pos s59) s59) (fun z95 s95 => if isB z95 then (fok (z95 : Int32) (s95, gt)) else fno) (fun _ _ => fno))) (fun _ _ => fno))) (fun _ _ => fno)
def Sam (n p M : Nat) (w g one three f1 f3 : Int32) (gt : A) (C : Out (Src × Pnm) Int32) (R : (Int32 → MR → Out (MR × A) Int32) → Out (MR × A) Int32) : Prop :=
  (∃ (q s : Nat) (np : Int32), p ≤ q ∧ q ≤ n ∧ s < 256 ∧ C = fok (nI s) (Sr n q, (f1, nI M, f3, np)) ∧ ∀ KK, R KK = KK (nI s) (Mr n q w g one (nI M) three)) ∨
  (∃ (sc : Src) (pn : Pnm) (mr : MR), C = fex ISE (sc, pn) ∧ (∀ KK, R KK = fok 0 (mr, gt)) ∧ Bad sc mr)
theorem s56_ok {v M n q : Nat} (sb : A) (hv : v ≤ M) (h1 : 1 ≤ M) (h2 : M ≤ 65535) (w f1 f3 np : Int32) {s : Nat} (e : (510 * nI v + nI M) / (2 * nI M) = nI s) (e2 : (2 : Int32) * nI M ≠ 0) : F_X5_readSample_56 sb (nI v) w (Sr n q) (f1, nI M, f3, np) = fok (nI s) (Sr n q, (f1, nI M, f3, np)) := by
  unfold F_X5_readSample_56
  dsimp only [pn_f2]
  rw [if_pos (nI_le hv (by omega)), if_pos (by (simp (disch := omega) only [nI_toInt, Int32.lt_iff_toInt_lt, Int32.le_iff_toInt_le, ← Int32.toInt_inj, Int32.reduceToInt]; omega)), if_pos e2, e]
theorem s56_no {v M n q : Nat} (sb : A) (hv : M < v) (h2 : v < 2 ^ 31) (w f1 f3 np : Int32) : F_X5_readSample_56 sb (nI v) w (Sr n q) (f1, nI M, f3, np) = fex ISE ((nI n, nI q, 6, w), (f1, nI M, f3, np)) := by
  unfold F_X5_readSample_56
  dsimp only [pn_f2]
  rw [if_neg (nI_ge hv h2), rf_eq, fon_fex]
theorem samT {n p M : Nat} (sb : A) (hp : p ≤ n) (hn : n ≤ 65536) (h1 : 1 ≤ M) (h2 : M ≤ 65535) (w g one three f1 f3 np : Int32) (hf : ¬ 3 < f1) (gt : A) : Sam n p M w g one three f1 f3 gt (F_X5_readSample (Sr n p) sb (f1, nI M, f3, np)) (RSt sb (Mr n p w g one (nI M) three) gt) := by
  unfold F_X5_readSample RSt
  dsimp only [pn_f1]
  rw [if_neg hf]
  rcases d_gap sb hp hn w g one (nI M) three with ⟨g1, g2, e1, e2⟩ | ⟨k, ww, hk, e1, e2⟩
  case inr => rw [e1, fon_fex]; exact Or.inr ⟨_, _, _, rfl, fun KK => by dsimp only; rw [e2, fon_fok, if_pos rfl], b_bad _ _ _ _ _ _ _ _ _ _ hk⟩
  rw [e1, fon_fok]
  rcases d_num sb g2 hn (f1, nI M, f3, np) w g one (nI M) three with ⟨m1, m2, m3, u1, u2⟩ | ⟨e, k, ww, hk, u1, u2⟩
  case inr => rw [u1, fon_fex]; exact Or.inr ⟨_, _, _, rfl, fun KK => by dsimp only; rw [e2, fon_fok, if_neg (by decide), u2, fon_fok, if_neg (by decide)], b_bad _ _ _ _ _ _ _ _ _ _ hk⟩
  rw [u1, fon_fok]
  dsimp only [pn_f1, pn_f2, pn_f3, pn_np]
  by_cases c : (num sb n (sk sb n (n - p) 0)).1 ≤ M
  · obtain ⟨s, hs, s1, s2⟩ := scaled_ok c h1 h2
    rw [s56_ok sb c h1 h2 _ _ _ _ s1 s2]
    refine Or.inl ⟨_, s, _, by omega, m2, hs, rfl, fun KK => ?_⟩
    dsimp only
    rw [e2, fon_fok, if_neg (by decide), u2, fon_fok, if_pos (nI_pos' (by omega))]
    dsimp only [mr_two]
    rw [if_pos (nI_le c (by omega))]
    unfold F_X11_scaled
    rw [if_pos s2, fon_fok, s1]
  · rw [s56_no sb (by omega) (by omega)]
    refine Or.inr ⟨_, _, _, rfl, fun KK => ?_, b_bad 6 _ _ (nI (num sb n (sk sb n (n - p) 0)).2) n w g one (nI M) three (by decide)⟩
    dsimp only
    rw [e2, fon_fok, if_neg (by decide), u2, fon_fok, if_pos (nI_pos' (by omega))]
    dsimp only [mr_two, mr_pos]
    rw [if_neg (nI_ge (by omega) (by omega)), wr_eq, fon_fok, if_pos (Or.inl rfl)]
theorem samB {n p M : Nat} (sb : A) (hp : p ≤ n) (hn : n ≤ 65536) (h1 : 1 ≤ M) (h2 : M ≤ 65535) (w g one three f1 f3 np : Int32) (hf : 3 < f1) (gt : A) : Sam n p M w g one three f1 f3 gt (F_X5_readSample (Sr n p) sb (f1, nI M, f3, np)) (RSb sb (if 256 ≤ M then 2 else 1) (Mr n p w g one (nI M) three) gt) := by
  unfold F_X5_readSample RSb
  dsimp only [pn_f1, pn_f2, sc_pos]
  rw [if_pos hf]
  have hb0 := bt_lt sb p
  have hb1 := bt_lt sb (p + 1)
  have fin : ∀ (k v : Nat) (K : Int32), K = nI k → p + k ≤ n → v < 65536 → F_X11_top (nI p) K sb = fok (lN v) () → Sam n p M w g one three f1 f3 gt (F_X5_readSample_56 sb (nI v) (nI p) (Sr n (p + k)) (f1, nI M, f3, np)) (fun KK => fon (F_X11_want K (Mr n p w g one (nI M) three)) (fun z59 s59 => if z59 = 0 then (fok (0 : Int32) (s59, gt)) else (fon (F_X11_top (mr_pos s59) K sb) (fun z73 s73 => if (z73).toInt32 ≤ (mr_two s59) then (fon (F_X11_scaled ((z73).toInt32) (mr_two s59)) (fun z110 s110 => KK z110 ((mr_size s59), ((mr_pos s59) + K), (mr_kind s59), (mr_whr s59), (mr_gw s59), (mr_gh s59), (mr_one s59), (mr_two s59), (mr_three s59))) (fun _ _ => fno)) else (fon (F_X11_wrong 6 (mr_pos s59) s59) (fun z95 s95 => if isB z95 then (fok (z95 : Int32) (s95, gt)) else fno) (fun _ _ => fno))) (fun _ _ => fno))) (fun _ _ => fno)) := by
    intro k v K hK hk hv ht
    by_cases c : v ≤ M
    · obtain ⟨s, hs, s1, s2⟩ := scaled_ok c h1 h2
      rw [s56_ok sb c h1 h2 _ _ _ _ s1 s2]
      refine Or.inl ⟨_, s, _, by omega, hk, hs, rfl, fun KK => ?_⟩
      dsimp only
      rw [wt_ok K k hK _ _ _ _ _ hk (by omega), fon_fok, if_neg (by decide)]
      dsimp only [mr_size, mr_pos, mr_kind, mr_whr, mr_gw, mr_gh, mr_one, mr_two, mr_three]
      rw [ht, fon_fok, lN_i, if_pos (nI_le c (by omega))]
      unfold F_X11_scaled
      rw [if_pos s2, fon_fok, s1, hK, nI_add]
    · rw [s56_no sb (by omega) (by omega)]
      refine Or.inr ⟨_, _, _, rfl, fun KK => ?_, b_bad 6 _ _ (nI p) n w g one (nI M) three (by decide)⟩
      dsimp only
      rw [wt_ok K k hK _ _ _ _ _ hk (by omega), fon_fok, if_neg (by decide)]
      dsimp only [mr_size, mr_pos, mr_kind, mr_whr, mr_gw, mr_gh, mr_one, mr_two, mr_three]
      rw [ht, fon_fok, lN_i, if_neg (nI_ge (by omega) (by omega)), wr_eq, fon_fok, if_pos (Or.inl rfl)]
  by_cases c256 : 256 ≤ M
  · rw [if_pos c256]
    by_cases c1 : p + 1 ≤ n
    · rw [nx_ok sb (by omega) hn, fon_fok, if_neg (c := nI M ≤ 255) (by (simp (disch := omega) only [nI_toInt, Int32.lt_iff_toInt_lt, Int32.le_iff_toInt_le, ← Int32.toInt_inj, Int32.reduceToInt]; omega))]
      by_cases c2 : p + 2 ≤ n
      · rw [nx_ok sb (by omega) hn, fon_fok, or8 (by omega) (by omega)]
        exact fin 2 _ 2 rfl c2 (by omega) (top2 sb (by omega))
      · rw [nx_no sb (by omega) (by omega), fon_fex]
        exact Or.inr ⟨_, _, _, rfl, fun KK => by dsimp only; rw [wt_no 2 2 rfl _ _ _ _ _ (by omega) (by omega), fon_fok, if_pos rfl], b_bad _ _ _ _ _ _ _ _ _ _ (by decide)⟩
    · rw [nx_no sb (by omega) (by omega), fon_fex]
      exact Or.inr ⟨_, _, _, rfl, fun KK => by dsimp only; rw [wt_no 2 2 rfl _ _ _ _ _ (by omega) (by omega), fon_fok, if_pos rfl], b_bad _ _ _ _ _ _ _ _ _ _ (by decide)⟩
  · rw [if_neg c256]
    by_cases c1 : p + 1 ≤ n
    · rw [nx_ok sb (by omega) hn, fon_fok, if_pos (c := nI M ≤ 255) (by (simp (disch := omega) only [nI_toInt, Int32.lt_iff_toInt_lt, Int32.le_iff_toInt_le, ← Int32.toInt_inj, Int32.reduceToInt]; omega))]
      exact fin 1 _ 1 rfl c1 (by omega) (top1 sb (by omega))
    · rw [nx_no sb (by omega) (by omega), fon_fex]
      exact Or.inr ⟨_, _, _, rfl, fun KK => by dsimp only; rw [wt_no 1 1 rfl _ _ _ _ _ (by omega) (by omega), fon_fok, if_pos rfl], b_bad _ _ _ _ _ _ _ _ _ _ (by decide)⟩
