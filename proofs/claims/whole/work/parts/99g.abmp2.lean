/-- rows of 24 bits are taken -/
theorem a_row24 {n B m W H : Nat} (sb : A) (hn : n ≤ 65536) (hW : W ≤ 4096) (hH : H ≤ 4096) (hT : W * H ≤ 4096) (he : B + H * (W * 3 + pad4 (W * 3)) = n) (f1 f2 f3 pk cl up : Int32) (col px0 : A) :
    ∃ px2, F_X0_readRows (nI W, nI H, px0) (Sr n B) sb (f1, f2, f3, 0, nI 24, 0, nI m, pk, cl, up, col) = fok () ((nI W, nI H, px2), Sr n n, (f1, f2, f3, 0, nI 24, 0, nI m, pk, cl, up, col)) := by
  unfold F_X0_readRows
  dsimp only [x_w, bm_bits]
  rw [pk_mul, show nI (W * 24) + 7 = nI (W * 24 + 7) from nI_add _ 7, show (8 : Int32) = nI 8 from rfl, pk_div (by omega) (by omega) (by omega), show (W * 24 + 7) / 8 = W * 3 from by omega]
  have hP : pad4 (W * 3) < 4 := Nat.mod_lt _ (by decide)
  have eP : (-nI (W * 3)) &&& 3 = nI (pad4 (W * 3)) := neg3 (by omega)
  generalize pad4 (W * 3) = P at *
  generalize hRd : W * 3 + P = R at *
  have outer := lp_M (z := fun _ _ _ _ _ => fno) (f := F_X0_readRows_19 sb) (fun m2 k1 => ∀ (k p : Nat) (px : A), k + m2 = H → p + m2 * R = n → ∃ px2, k1 (nI (W * 3)) (nI k) (nI W, nI H, px) (Sr n p) (f1, f2, f3, 0, nI 24, 0, nI m, pk, cl, up, col) = fok () ((nI W, nI H, px2), Sr n n, (f1, f2, f3, 0, nI 24, 0, nI m, pk, cl, up, col))) ?_ H (by omega)
  · exact outer 0 B px0 (by omega) he
  · intro m2 k1 ih k p px hk hp
    unfold F_X0_readRows_19 F_X0_readRows_49
    dsimp only [x_g, x_w, bm_top]
    by_cases c0 : m2 = 0
    · have : k = H := by omega
      subst this; subst c0
      rw [if_pos (Int32.le_refl _), show p = n from by omega]
      exact ⟨_, rfl⟩
    obtain ⟨m', rfl⟩ : ∃ m', m2 = m' + 1 := ⟨m2 - 1, by omega⟩
    rw [Nat.succ_mul] at hp
    have hyW := yx_lt (W := W) (show H - 1 - k < H by omega)
    rw [if_neg (nI_ge (by omega) (by omega)), if_pos rfl, show nI H - 1 = nI (H - 1) from pk_sub (b := 1) (by omega), pk_sub (by omega), pk_mul]
    generalize hmk : m' * R = mk at hp
    have inner := lp_M (z := fun _ _ _ _ _ _ _ => fno) (f := F_X0_readRows_59 sb k1) (fun m3 j1 => ∀ (u : Nat) (px : A), u + m3 = W → ∃ px2, j1 (nI (W * 3)) (nI k) (nI ((H - 1 - k) * W)) (nI u) (nI W, nI H, px) (Sr n (p + 3 * u)) (f1, f2, f3, 0, nI 24, 0, nI m, pk, cl, up, col) = fok () ((nI W, nI H, px2), Sr n n, (f1, f2, f3, 0, nI 24, 0, nI m, pk, cl, up, col))) ?_ W (by omega)
    · exact inner 0 px (by omega)
    · intro m3 j1 ih2 u px hu
      unfold F_X0_readRows_59
      dsimp only [x_w, bm_bits]
      by_cases c1 : m3 = 0
      · have : u = W := by omega
        subst this
        rw [if_pos (Int32.le_refl _), eP, pass_ok sb (by omega) hn, fon_fok, nI_1]
        exact ih m' (by omega) (k + 1) _ px (by omega) (by omega)
      · rw [if_neg (nI_ge (by omega) (by omega)), if_pos (c := 8 < nI 24) (by decide)]
        unfold F_X0_readDirect F_X0_readDirect_39 F_X0_readRows_98
        dsimp only [bm_bits]
        rw [if_neg (c := nI 24 = 16) (by decide), bf_eq sb (by omega) hn, if_pos (by omega), fon_fok, if_neg (c := nI 24 = 32) (by decide), fon_fok, nI_add, ut_set (by omega), fon_fok, nI_1]
        exact ih2 (m3 - 1) (by omega) (u + 1) _ (by omega)
/-- rows of indices are taken -/
theorem a_row8 {n B m W H : Nat} (sb : A) (hn : n ≤ 65536) (hW : W ≤ 4096) (hH : H ≤ 4096) (hT : W * H ≤ 4096) (hm : m ≤ 256) (he : B + H * (W + pad4 W) = n) (hB : ∀ k u, k < H → u < W → bt sb (B + k * (W + pad4 W) + u) < m) (f1 f2 f3 pk0 cl up : Int32) (col px0 : A) :
    ∃ px2 pk2, F_X0_readRows (nI W, nI H, px0) (Sr n B) sb (f1, f2, f3, 0, nI 8, 0, nI m, pk0, cl, up, col) = fok () ((nI W, nI H, px2), Sr n n, (f1, f2, f3, 0, nI 8, 0, nI m, pk2, cl, up, col)) := by
  unfold F_X0_readRows
  dsimp only [x_w, bm_bits]
  rw [pk_mul, show nI (W * 8) + 7 = nI (W * 8 + 7) from nI_add _ 7, show (8 : Int32) = nI 8 from rfl, pk_div (by omega) (by omega) (by omega), show (W * 8 + 7) / 8 = W from by omega]
  have hP : pad4 W < 4 := Nat.mod_lt _ (by decide)
  have eP : (-nI W) &&& 3 = nI (pad4 W) := neg3 (by omega)
  generalize pad4 W = P at *
  generalize hRd : W + P = R at *
  have outer := lp_M (z := fun _ _ _ _ _ => fno) (f := F_X0_readRows_19 sb) (fun m2 k1 => ∀ (k : Nat) (pk : Int32) (px : A), k + m2 = H → B + k * R + m2 * R = n → ∃ px2 pk2, k1 (nI W) (nI k) (nI W, nI H, px) (Sr n (B + k * R)) (f1, f2, f3, 0, nI 8, 0, nI m, pk, cl, up, col) = fok () ((nI W, nI H, px2), Sr n n, (f1, f2, f3, 0, nI 8, 0, nI m, pk2, cl, up, col))) ?_ H (by omega)
  · have r := outer 0 pk0 px0 (by omega) (by omega)
    rw [Nat.zero_mul] at r
    exact r
  · intro m2 k1 ih k pk px hk hp
    unfold F_X0_readRows_19 F_X0_readRows_49
    dsimp only [x_g, x_w, bm_top]
    by_cases c0 : m2 = 0
    · have : k = H := by omega
      subst this; subst c0
      rw [if_pos (Int32.le_refl _), show B + k * R = n from by omega]
      exact ⟨_, _, rfl⟩
    obtain ⟨m', rfl⟩ : ∃ m', m2 = m' + 1 := ⟨m2 - 1, by omega⟩
    rw [Nat.succ_mul] at hp
    have hyW := yx_lt (W := W) (show H - 1 - k < H by omega)
    rw [if_neg (nI_ge (by omega) (by omega)), if_pos rfl, show nI H - 1 = nI (H - 1) from pk_sub (b := 1) (by omega), pk_sub (by omega), pk_mul]
    have hBk := hB k
    have r := ih m' (by omega) (k + 1)
    rw [Nat.succ_mul] at r
    generalize hq : B + k * R = q at *
    have r2 := fun pk px => r pk px (by omega) (by omega)
    rw [show B + (k * R + R) = q + R from by omega] at r2
    clear r
    have inner := lp_M (z := fun _ _ _ _ _ _ _ => fno) (f := F_X0_readRows_59 sb k1) (fun m3 j1 => ∀ (u : Nat) (pk : Int32) (px : A), u + m3 = W → ∃ px2 pk2, j1 (nI W) (nI k) (nI ((H - 1 - k) * W)) (nI u) (nI W, nI H, px) (Sr n (q + u)) (f1, f2, f3, 0, nI 8, 0, nI m, pk, cl, up, col) = fok () ((nI W, nI H, px2), Sr n n, (f1, f2, f3, 0, nI 8, 0, nI m, pk2, cl, up, col))) ?_ W (by omega)
    · exact inner 0 pk px (by omega)
    · intro m3 j1 ih2 u pk px hu
      unfold F_X0_readRows_59
      dsimp only [x_w, bm_bits]
      by_cases c1 : m3 = 0
      · have : u = W := by omega
        subst this
        rw [if_pos (Int32.le_refl _), eP, pass_ok sb (by omega) hn, fon_fok, nI_1, show q + u + P = q + R from by omega]
        exact r2 pk px
      · have hbb := hBk u (by omega) (by omega)
        rw [if_neg (nI_ge (by omega) (by omega)), if_neg (c := 8 < nI 8) (by decide)]
        unfold F_X0_readIndexed F_X0_readIndexed_22 F_X0_readRows_98
        dsimp only [bm_f1, bm_f2, bm_f3, bm_top, bm_bits, bm_comp, bm_used, bm_packed, bm_column, bm_up, bm_col]
        rw [pk_mul, pk_andN (by omega) (m := 7) 3 rfl, show u * 8 % 2 ^ 3 = 0 from by omega, if_pos (c := nI 0 = 0) rfl, nx_ok sb (by omega) hn, fon_fok, show ((nI (bt sb (q + u)) >>> (((8 - nI 8) - nI 0) &&& 31)) &&& ((1 <<< (nI 8 &&& 31)) - 1)) = nI (bt sb (q + u)) from ix8 _ (bt_lt _ _), co_ok hbb (bt_lt _ _) (by omega) _ _ rfl, fon_fok, fon_fok, nI_add, ut_set (by omega), fon_fok, nI_1]
        exact ih2 (m3 - 1) (by omega) (u + 1) _ _ (by omega)
/-- equal pixels of a run are taken -/
theorem a_like {n W H X Y c v u q : Nat} (hv : v < u) (hu : u ≤ 256) (hc : c < 256) (hXc : X + c ≤ W) (hY : Y < H) (hW : W ≤ 4096) (hT : W * H ≤ 4096) (f1 f2 f3 pk two : Int32) (col px0 : A) :
    ∃ px2, F_X0_readLike (nI c) (nI v) (nI W, nI H, px0) (Sr n q) (bmS f1 f2 f3 pk 8 X Y u two col) = fok () ((nI W, nI H, px2), Sr n q, bmS f1 f2 f3 pk 8 (X + c) Y u two col) := by
  unfold F_X0_readLike
  have w := lp_M (z := fun _ _ _ _ _ _ => fno) (f := F_X0_readLike_3) (fun m k1 => ∀ (i : Nat) (px : A), i + m = c → ∃ px2, k1 (nI c) (nI v) (nI i) (nI W, nI H, px) (Sr n q) (bmS f1 f2 f3 pk 8 (X + i) Y u two col) = fok () ((nI W, nI H, px2), Sr n q, bmS f1 f2 f3 pk 8 (X + c) Y u two col)) ?_ c (by omega)
  · exact w 0 px0 (by omega)
  · intro m k1 ih i px hi
    unfold F_X0_readLike_3
    by_cases c0 : m = 0
    · have : i = c := by omega
      subst this
      rw [if_pos (Int32.le_refl _)]
      exact ⟨_, rfl⟩
    rw [if_neg (nI_ge (by omega) (by omega)), part_eq (Or.inl rfl) (by omega) (by omega), fon_fok]
    have e : pI 8 v i = v := if_pos rfl
    rw [e, co_ok hv (by omega) (by omega) _ _ rfl, fon_fok, paint_eq (by omega) hY hT, fon_fok, nI_1]
    exact ih (m - 1) (by omega) (i + 1) _ (by omega)
/-- where a run ends -/
theorem run_ex {W M : Nat} {d : A} {v : Int32 → Nat} (hM : 1 ≤ M) : ∀ (k x j : Nat), x + j + k = W → 0 < k → rcn W M d (x + j) = j → cat (gR W M d v) (x + j) = cat (gR W M d v) x →
    ∃ c, 1 ≤ c ∧ c ≤ M ∧ x + c ≤ W ∧ rcn W M d (x + c) = 0 ∧ cat (gR W M d v) (x + c) = cat (gR W M d v) x ++ [c, v (d (x + c - 1))]
  | 0, x, j, _, h, _, _ => absurd h (by omega)
  | k + 1, x, j, h1, _, h3, h4 => by
    have hlt := rcn_lt (W := W) (M := M) (d := d) hM (x + j)
    by_cases c : x + j + 1 = W ∨ d (x + j + 1) ≠ d (x + j) ∨ rcn W M d (x + j) + 1 = M
    · refine ⟨j + 1, by omega, by omega, by omega, rcn_e (x := x + j) c, ?_⟩
      have e : gR W M d v (x + j) = [rcn W M d (x + j) + 1, v (d (x + j))] := if_pos c
      rw [show x + (j + 1) = x + j + 1 from rfl, cat_s, h4, e, h3, show x + j + 1 - 1 = x + j from rfl]
    · have e : gR W M d v (x + j) = [] := if_neg c
      have hne : ¬ x + j + 1 = W := fun e => c (Or.inl e)
      have r := run_ex (W := W) (d := d) (v := v) hM k x (j + 1) (by omega) (by omega) (by rw [show x + (j + 1) = x + j + 1 from rfl, rcn_n (x := x + j) c, h3]) (by rw [show x + (j + 1) = x + j + 1 from rfl, cat_s, e, List.append_nil, h4])
      exact r
