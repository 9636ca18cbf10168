theorem bf_eq {n p : Nat} (sb : A) (hp : p ≤ n) (hn : n ≤ 65536) : F_X0_readBlueFirst (Sr n p) sb = if p + 3 ≤ n then fok (F_X11_mix (nI (bt sb (p + 2))) (nI (bt sb (p + 1))) (nI (bt sb p)) 255) (Sr n (p + 3)) else fex ISE (nI n, nI n, 1, nI n) := by
  unfold F_X0_readBlueFirst
  by_cases c1 : p < n
  · rw [nx_ok sb c1 hn, fon_fok]
    by_cases c2 : p + 1 < n
    · rw [nx_ok sb c2 hn, fon_fok]
      by_cases c3 : p + 1 + 1 < n
      · rw [nx_ok sb c3 hn, fon_fok, if_pos (by omega)]; rfl
      · rw [nx_no sb (by omega) (by omega), fon_fex, if_neg (by omega), show p + 1 + 1 = n from by omega]
    · rw [nx_no sb (by omega) (by omega), fon_fex, if_neg (by omega), show p + 1 = n from by omega]
  · rw [nx_no sb (by omega) (by omega), fon_fex, if_neg (by omega), show p = n from by omega]
/-- rows of colours -/
theorem b_dirrows {n W H p u b to : Nat} (sb : A) (hb : b = 16 ∨ b = 24 ∨ b = 32) (hto : to = 0 ∨ to = 1) (hp : p ≤ n) (hn : n ≤ 65536) (hW : W ≤ 4096) (hH : H ≤ 4096) (hW1 : 1 ≤ W) (hT : W * H ≤ 4096) (hu : u ≤ 256) (two f1 f2 f3 pk cl up : Int32) (col ta px gt : A) :
    PStepB n (W * H) (nI W) (nI H) (nI b) two (nI u) (F_X0_readRows (nI W, nI H, px) (Sr n p) sb (f1, f2, f3, nI to, nI b, two, nI u, pk, cl, up, col)) (F_X11_readPlainRows (nI to) sb (Mr n p (nI W) (nI H) (nI b) two (nI u)) gt ta) KB := by
  have hWb : W * b ≤ 4096 * 32 := Nat.mul_le_mul hW (by omega)
  unfold F_X0_readRows F_X11_readPlainRows
  dsimp only [x_w, bm_bits, mr_gw, mr_one]
  have e1 : (nI W * nI b + 7) / 8 = nI ((W * b + 7) / 8) := by
    rw [pk_mul, show nI (W * b) + 7 = nI (W * b + 7) from nI_add _ 7, show (8 : Int32) = nI 8 from rfl, pk_div (by omega) (by omega) (by omega)]
  have e2 : (nI W * nI b + 31) / 32 * 4 = nI ((W * b + 31) / 32 * 4) := by
    rw [pk_mul, show nI (W * b) + 31 = nI (W * b + 31) from nI_add _ 31, show (32 : Int32) = nI 32 from rfl, pk_div (by omega) (by omega) (by omega), show (4 : Int32) = nI 4 from rfl, pk_mul]
  rw [e1, e2]
  have row : ∀ r, r < H → ∃ y, y < H ∧ (if to = 0 then H - 1 - r else r) = y := by
    intro r hr; by_cases c : to = 0
    · exact ⟨_, by omega, if_pos c⟩
    · exact ⟨_, by omega, if_neg c⟩
  have outer := lp_D (z := fun _ _ _ _ _ => fno) (f := F_X0_readRows_19 sb) (z2 := fun _ _ _ _ _ => fno) (f2 := F_X11_readPlainRows_20 sb ta) (fun m k1 k2 => ∀ (r p : Nat) (pk : Int32) (px gt : A), r + m = H → p ≤ n → (∀ i, i < W * H → (if to = 0 then H - 1 - i / W else i / W) < r → px i = gt i) → PStepB n (W * H) (nI W) (nI H) (nI b) two (nI u) (k1 (nI ((W * b + 7) / 8)) (nI r) (nI W, nI H, px) (Sr n p) (f1, f2, f3, nI to, nI b, two, nI u, pk, cl, up, col)) (k2 (nI to) (nI ((W * b + 31) / 32 * 4)) (nI r) (Mr n p (nI W) (nI H) (nI b) two (nI u)) gt) KB) ?_ H (by omega)
  · exact outer 0 p pk px gt (by omega) hp (fun i hi h => absurd h (by omega))
  · intro m k1 k2 ih r p pk px gt hr hp hx
    unfold F_X0_readRows_19 F_X11_readPlainRows_20
    dsimp only [x_g, bm_top, mr_gh]
    by_cases c0 : m = 0
    · have : r = H := by omega
      subst this
      rw [if_pos (Int32.le_refl _), if_pos (Int32.le_refl _)]
      refine Or.inl ⟨p, px, gt, _, hp, rfl, rfl, rfl, rfl, rfl, fun i hi => hx i hi ?_⟩
      have : i / W < r := (Nat.div_lt_iff_lt_mul (by omega)).mpr (by rw [Nat.mul_comm]; exact hi)
      generalize i / W = t at *
      split <;> omega
    have hrH : r < H := by omega
    rw [if_neg (nI_ge hrH (by omega)), if_neg (nI_ge hrH (by omega))]
    obtain ⟨y, hy, hye⟩ := row r hrH
    have sel : ∀ (α : Type) (f : Int32 → α), (if nI to = 0 then f ((nI H - 1) - nI r) else f (nI r)) = f (nI y) := by
      intro α f
      rcases hto with rfl | rfl
      · rw [if_pos (by rfl), show nI H - 1 = nI (H - 1) from pk_sub (b := 1) (by omega), pk_sub (by omega)]
        rw [if_pos rfl] at hye; rw [hye]
      · rw [if_neg (by decide)]
        rw [if_neg (by decide)] at hye; rw [hye]
    rw [sel _ (fun t => F_X0_readRows_49 sb k1 (nI ((W * b + 7) / 8)) (nI r) t (nI W, nI H, px) (Sr n p) (f1, f2, f3, nI to, nI b, two, nI u, pk, cl, up, col)), sel _ (fun t => F_X11_readPlainRows_44 sb ta k2 (nI to) (nI ((W * b + 31) / 32 * 4)) (nI r) t (Mr n p (nI W) (nI H) (nI b) two (nI u)) gt)]
    unfold F_X0_readRows_49 F_X11_readPlainRows_44
    dsimp only [x_w, mr_pos]
    rw [pk_mul]
    have hyW := yx_lt (W := W) hy
    have inner := lp_D (z := fun _ _ _ _ _ _ _ => fno) (f := F_X0_readRows_59 sb k1) (z2 := fun _ _ _ _ _ _ _ _ => fno) (f2 := F_X11_readPlainRows_55 sb ta k2) (fun m2 j1 j2 => ∀ (x q : Nat) (pk : Int32) (px gt : A), x + m2 = W → q = p + (x * b + 7) / 8 → q ≤ n → (∀ i, i < W * H → ((if to = 0 then H - 1 - i / W else i / W) < r ∨ i / W = y ∧ i % W < x) → px i = gt i) → PStepB n (W * H) (nI W) (nI H) (nI b) two (nI u) (j1 (nI ((W * b + 7) / 8)) (nI r) (nI (y * W)) (nI x) (nI W, nI H, px) (Sr n q) (f1, f2, f3, nI to, nI b, two, nI u, pk, cl, up, col)) (j2 (nI to) (nI ((W * b + 31) / 32 * 4)) (nI r) (nI y) (nI p) (nI x) (Mr n q (nI W) (nI H) (nI b) two (nI u)) gt) KB) ?_ W (by omega)
    · exact inner 0 p pk px gt (by omega) (by omega) hp (fun i hi h => by
        rcases h with h | h
        · exact hx i hi h
        · omega)
    · intro m2 j1 j2 ih2 x q pk px gt hxm hq hqn hx
      unfold F_X0_readRows_59 F_X11_readPlainRows_55
      dsimp only [x_w, bm_bits, mr_gw, mr_one, mr_pos]
      by_cases c1 : m2 = 0
      · have : x = W := by omega
        subst this
        have hc4 : (4 - (x * b + 7) / 8 % 4) % 4 = (x * b + 31) / 32 * 4 - (x * b + 7) / 8 := by omega
        rw [if_pos (Int32.le_refl _), if_pos (Int32.le_refl _), neg3 (by omega), pk_sub (a := q) (by omega), show q - p = (x * b + 7) / 8 from by omega, pk_sub (by omega), ← hc4]
        generalize hcd : (4 - (x * b + 7) / 8 % 4) % 4 = cd
        by_cases c2 : q + cd ≤ n
        · rw [pass_ok sb c2 hn, fon_fok, wt_ok _ cd rfl _ _ _ _ _ c2 (by omega), fon_fok, if_neg (by decide)]
          dsimp only [mr_size, mr_pos, mr_kind, mr_whr, mr_gw, mr_gh, mr_one, mr_two, mr_three]
          rw [nI_1, nI_add]
          refine ih (m - 1) (by omega) (r + 1) (q + cd) pk px gt (by omega) c2 (fun i hi h => hx i hi ?_)
          have hdiv : i / x < H := (Nat.div_lt_iff_lt_mul (by omega)).mpr (by rw [Nat.mul_comm]; exact hi)
          have hmod : i % x < x := Nat.mod_lt _ (by omega)
          by_cases c3 : (if to = 0 then H - 1 - i / x else i / x) < r
          · exact Or.inl c3
          · refine Or.inr ⟨?_, hmod⟩
            by_cases ct : to = 0
            · rw [if_pos ct] at h c3 hye; omega
            · rw [if_neg ct] at h c3 hye; omega
        · rw [pass_no sb (by omega) hqn hn (by omega), fon_fex, wt_no _ cd rfl _ _ _ _ _ (by omega) (by omega), fon_fok, if_pos rfl]
          exact pb_bad rfl rfl (b_bad _ _ _ _ _ _ _ _ _ _ (by decide))
      have hxW : x < W := by omega
      have hxb : x * b ≤ 4096 * 32 := Nat.mul_le_mul (by omega) (by omega)
      have hix := idx_lt hxW hy
      rw [if_neg (nI_ge hxW (by omega)), if_pos (c := 8 < nI b) (by rcases hb with rfl | rfl | rfl <;> decide), if_neg (nI_ge hxW (by omega)), if_pos (c := 8 < nI b) (by rcases hb with rfl | rfl | rfl <;> decide)]
      have fin : ∀ (k : Nat) (v : Int32), q + k ≤ n → b = 8 * k → PStepB n (W * H) (nI W) (nI H) (nI b) two (nI u) (F_X0_readRows_98 sb k1 j1 (nI ((W * b + 7) / 8)) (nI r) (nI (y * W)) (nI x) v (nI (y * W) + nI x) (nI W, nI H, px) (Sr n (q + k)) (f1, f2, f3, nI to, nI b, two, nI u, pk, cl, up, col)) (F_X11_readPlainRows_317 sb ta k2 j2 (nI to) (nI ((W * b + 31) / 32 * 4)) (nI r) (nI y) (nI p) (nI x) (nI k) v ((nI W * nI y) + nI x) (Mr n q (nI W) (nI H) (nI b) two (nI u)) gt) KB := by
        intro k v hk hbk
        unfold F_X11_readPlainRows_317 F_X11_readPlainRows_329 F_X0_readRows_98
        dsimp only [mr_size, mr_pos, mr_kind, mr_whr, mr_gw, mr_gh, mr_one, mr_two, mr_three]
        rw [pk_mul, nI_add, nI_add, Nat.mul_comm W y, ut_set (by omega), fon_fok, if_pos (inb_nI (by omega) (by omega)), nI_clamp (by omega), nI_1, nI_add]
        dsimp only [x_w, x_g, x_p]
        refine ih2 (m2 - 1) (by omega) (x + 1) (q + k) _ _ _ (by omega) (by rcases hb with rfl | rfl | rfl <;> omega) hk (fun l hl h => ?_)
        unfold upd; split
        · rfl
        · rename_i hne
          refine hx l hl ?_
          rcases h with h | ⟨h1, h2⟩
          · exact Or.inl h
          · refine Or.inr ⟨h1, ?_⟩
            have := Nat.div_add_mod l W
            rw [h1, Nat.mul_comm] at this
            omega
      unfold F_X0_readDirect F_X0_readDirect_39
      dsimp only [bm_bits]
      rcases hb with rfl | rfl | rfl
      · rw [if_pos (c := nI 16 = 16) (by decide), show nI 16 / 8 = nI 2 from by decide]
        by_cases c2 : q + 2 ≤ n
        · rw [low2_ok sb c2 hn, fon_fok, fon_fok, wt_ok _ 2 rfl _ _ _ _ _ c2 (by omega), fon_fok, if_neg (c := (1 : Int32) = 0) (by decide)]
          dsimp only [mr_pos]
          rw [lowp2 sb (by omega), fon_fok, if_pos (c := nI 2 = 2) (by decide), lN_i]
          exact fin 2 _ c2 (by omega)
        · rw [low2_no sb (by omega) hqn hn, fon_fex, fon_fex, wt_no _ 2 rfl _ _ _ _ _ (by omega) (by omega), fon_fok, if_pos rfl]
          exact pb_bad rfl rfl (b_bad _ _ _ _ _ _ _ _ _ _ (by decide))
      · rw [if_neg (c := nI 24 = 16) (by decide), bf_eq sb hqn hn, show nI 24 / 8 = nI 3 from by decide]
        by_cases c2 : q + 3 ≤ n
        · rw [if_pos c2, fon_fok, if_neg (c := nI 24 = 32) (by decide), fon_fok, wt_ok _ 3 rfl _ _ _ _ _ c2 (by omega), fon_fok, if_neg (c := (1 : Int32) = 0) (by decide)]
          dsimp only [mr_pos]
          rw [lowp2 sb (by omega), fon_fok, if_neg (c := nI 3 = 2) (by decide), show nI q + 2 = nI (q + 2) from nI_add _ 2, b_ok sb (by omega), fon_fok, nI_1, b_ok sb (by omega), fon_fok, b_ok sb (by omega), fon_fok]
          exact fin 3 _ c2 (by omega)
        · rw [if_neg c2, fon_fex, fon_fex, wt_no _ 3 rfl _ _ _ _ _ (by omega) (by omega), fon_fok, if_pos rfl]
          exact pb_bad rfl rfl (b_bad _ _ _ _ _ _ _ _ _ _ (by decide))
      · rw [if_neg (c := nI 32 = 16) (by decide), bf_eq sb hqn hn, show nI 32 / 8 = nI 4 from by decide]
        by_cases c2 : q + 4 ≤ n
        · rw [if_pos (by omega), fon_fok, if_pos (c := nI 32 = 32) (by decide), nx_ok sb (by omega) hn, fon_fok, fon_fok, wt_ok _ 4 rfl _ _ _ _ _ c2 (by omega), fon_fok, if_neg (c := (1 : Int32) = 0) (by decide)]
          dsimp only [mr_pos]
          rw [lowp2 sb (by omega), fon_fok, if_neg (c := nI 4 = 2) (by decide), show nI q + 2 = nI (q + 2) from nI_add _ 2, b_ok sb (by omega), fon_fok, nI_1, b_ok sb (by omega), fon_fok, b_ok sb (by omega), fon_fok]
          exact fin 4 _ c2 (by omega)
        · rw [wt_no _ 4 rfl _ _ _ _ _ (by omega) (by omega), fon_fok, if_pos rfl]
          by_cases c3 : q + 3 ≤ n
          · rw [if_pos c3, fon_fok, if_pos (c := nI 32 = 32) (by decide), nx_no sb (by omega) (by omega), fon_fex, fon_fex]
            exact pb_bad rfl rfl (b_bad _ _ _ _ _ _ _ _ _ _ (by decide))
          · rw [if_neg c3, fon_fex, fon_fex]
            exact pb_bad rfl rfl (b_bad _ _ _ _ _ _ _ _ _ _ (by decide))
