abbrev bmS (f1 f2 f3 pk : Int32) (b X Y u : Nat) (two : Int32) (col : A) : Bmp := (f1, f2, f3, 0, nI b, two, nI u, pk, nI X, nI Y, col)
/-- an index out of a pair -/
def pI (b d i : Nat) : Nat := if b = 8 then d else (if i % 2 = 0 then d / 16 else d % 16)
theorem pI_lt {b d i : Nat} (hd : d < 256) : pI b d i < 256 := by
  unfold pI; split
  · exact hd
  · split <;> omega
theorem part_eq {b d i X Y u : Nat} (hb : b = 8 ∨ b = 4) (hd : d < 256) (hi : i < 256) (f1 f2 f3 pk two : Int32) (col : A) : F_X0_part (nI d) (nI i) (bmS f1 f2 f3 pk b X Y u two col) = fok (nI (pI b d i)) () := by
  unfold F_X0_part pI
  dsimp only [bm_bits]
  rcases hb with rfl | rfl
  · rw [if_pos (by decide), if_pos rfl]
  · rw [if_neg (c := nI 4 = 8) (by decide), if_neg (c := 4 = 8) (by decide), pk_andN (by omega) (m := 1) 1 rfl, show 2 ^ 1 = 2 from rfl, pk_shrN (by omega) _ 4 (by decide), pk_andN (by omega) (m := 15) 4 rfl]
    by_cases c : i % 2 = 0
    · rw [if_pos (by rw [c]; rfl), if_pos c]
    · rw [if_neg (nI_ne0 (by omega) (by omega)), if_neg c]
theorem rpart {b d i : Nat} {α : Type} (hb : b = 8 ∨ b = 4) (two : Int32) (htwo : two = 1 ↔ b = 8) (hd : d < 256) (hi : i < 256) (f : Int32 → α) : (if two = 1 then f (nI d) else (if (nI i - nI i / 2 * 2) = 0 then f (nI d >>> ((4 : Int32) &&& 31)) else f (nI d &&& 15))) = f (nI (pI b d i)) := by
  unfold pI
  rcases hb with rfl | rfl
  · rw [if_pos (htwo.mpr rfl), if_pos rfl]
  · rw [if_neg (fun e => absurd (htwo.mp e) (by decide)), if_neg (c := 4 = 8) (by decide), show (2 : Int32) = nI 2 from rfl, pk_rem (by omega) (by omega) (by omega), pk_shrN (by omega) _ 4 (by decide), pk_andN (by omega) (m := 15) 4 rfl]
    by_cases c : i % 2 = 0
    · rw [if_pos (by rw [c]; rfl), if_pos c]
    · rw [if_neg (nI_ne0 (by omega) (by omega)), if_neg c]
theorem paint_eq {W H X Y u b : Nat} (hX : X < W) (hY : Y < H) (hT : W * H ≤ 4096) (v : Int32) (px : A) (f1 f2 f3 pk two : Int32) (col : A) : F_X0_paint v (nI W, nI H, px) (bmS f1 f2 f3 pk b X Y u two col) = fok () ((nI W, nI H, upd px ((H - 1 - Y) * W + X) v), bmS f1 f2 f3 pk b (X + 1) Y u two col) := by
  have := idx_lt hX (show H - 1 - Y < H by omega)
  unfold F_X0_paint
  dsimp only [x_w, x_g, bm_f1, bm_f2, bm_f3, bm_top, bm_bits, bm_comp, bm_used, bm_packed, bm_column, bm_up, bm_col]
  rw [show nI H - 1 = nI (H - 1) from pk_sub (b := 1) (by omega), pk_sub (by omega), pk_mul, nI_add, ut_set (by omega), fon_fok, nI_1]
theorem put_eq {W H X Y n p i : Nat} (hX : X < W) (hY : Y < H) (hT : W * H ≤ 4096) (hi : i < 256) (one two three : Int32) (gt ta : A) : F_X11_put (nI X) (nI Y) (nI i) (Mr n p (nI W) (nI H) one two three) gt ta = fok () (upd gt ((H - 1 - Y) * W + X) (ta i)) := by
  have := idx_lt hX (show H - 1 - Y < H by omega)
  unfold F_X11_put
  dsimp only [mr_gw, mr_gh]
  rw [show nI H - 1 = nI (H - 1) from pk_sub (b := 1) (by omega), pk_sub (by omega), pk_mul, nI_add, if_pos (inb_nI (by omega) (by omega)), Nat.mul_comm W, if_pos (inb_nI (by omega) (by omega)), nI_clamp (by omega), nI_clamp (by omega)]
/-- one run of like pixels, or of unlike ones, up to what follows -/
def Run (n W H : Nat) (C : Out (Ras × Src × Bmp) Unit) (R : Out (MR × A) Int32) (f1 f2 f3 : Int32) (b X Y u lo : Nat) (one two three : Int32) (col : A) (k39 : Int32 → Int32 → Int32 → MR → A → Out (MR × A) Int32) : Prop :=
  (∃ (q : Nat) (px gt : A) (pk : Int32), lo ≤ q ∧ q ≤ n ∧ C = fok () ((nI W, nI H, px), Sr n q, bmS f1 f2 f3 pk b X Y u two col) ∧ R = k39 (nI X) (nI Y) 1 (Mr n q (nI W) (nI H) one two three) gt ∧ ∀ i, i < W * H → px i = gt i) ∨
  (∃ (x : Ras) (sc : Src) (bm : Bmp) (mr : MR) (gt : A), C = fex ISE (x, sc, bm) ∧ R = fok 0 (mr, gt) ∧ Bad sc mr)
theorem b_like {n W H X Y c d u b q : Nat} (sb : A) (hb : b = 8 ∨ b = 4) (two : Int32) (htwo : two = 1 ↔ b = 8) (hd : d < 256) (hc256 : c < 256) (hq : q ≤ n) (hq0 : 1 ≤ q) (hn : n ≤ 65536) (hXc : X + c ≤ W) (hY : Y < H) (hW : W ≤ 4096) (hT : W * H ≤ 4096) (hu : u ≤ 256) (f1 f2 f3 pk : Int32) (col ta px gt : A) (hc : ∀ i, i < u → col i = ta i) (hx : ∀ i, i < W * H → px i = gt i) (k39 : Int32 → Int32 → Int32 → MR → A → Out (MR × A) Int32) :
    Run n W H (F_X0_readLike (nI c) (nI d) (nI W, nI H, px) (Sr n q) (bmS f1 f2 f3 pk b X Y u two col)) (lp (fun _ _ _ _ _ _ _ _ _ => fno) (F_X11_readPairs_126 sb ta k39) FU (nI X) (nI Y) 1 (nI (q - 2)) (nI c) (nI d) 0 (Mr n q (nI W) (nI H) (nI b) two (nI u)) gt) f1 f2 f3 b (X + c) Y u q (nI b) two (nI u) col k39 ∨ q < 2 := by
  by_cases hq2 : q < 2
  · exact Or.inr hq2
  refine Or.inl ?_
  unfold F_X0_readLike
  have w := lp_D (z := fun _ _ _ _ _ _ => fno) (f := F_X0_readLike_3) (z2 := fun _ _ _ _ _ _ _ _ _ => fno) (f2 := F_X11_readPairs_126 sb ta k39) (fun m k1 k2 => ∀ (i : Nat) (px gt : A), i + m = c → (∀ i, i < W * H → px i = gt i) → Run n W H (k1 (nI c) (nI d) (nI i) (nI W, nI H, px) (Sr n q) (bmS f1 f2 f3 pk b (X + i) Y u two col)) (k2 (nI (X + i)) (nI Y) 1 (nI (q - 2)) (nI c) (nI d) (nI i) (Mr n q (nI W) (nI H) (nI b) two (nI u)) gt) f1 f2 f3 b (X + c) Y u q (nI b) two (nI u) col k39) ?_ c (by omega)
  · exact w 0 px gt (by omega) hx
  · intro m k1 k2 ih i px gt hi hx
    unfold F_X0_readLike_3 F_X11_readPairs_126
    by_cases c0 : m = 0
    · have : i = c := by omega
      subst this
      rw [if_pos (Int32.le_refl _), if_pos (Int32.le_refl _)]
      exact Or.inl ⟨q, px, gt, pk, Nat.le_refl _, hq, rfl, rfl, hx⟩
    rw [if_neg (nI_ge (by omega) (by omega)), if_neg (nI_ge (by omega) (by omega)), part_eq hb hd (by omega), fon_fok]
    dsimp only [mr_two, sc_pos]
    rw [rpart hb two htwo hd (by omega) (fun t => F_X11_readPairs_165 sb ta k39 k2 (nI (X + i)) (nI Y) 1 (nI (q - 2)) (nI c) (nI d) (nI i) t (Mr n q (nI W) (nI H) (nI b) two (nI u)) gt)]
    have hp := pI_lt (b := b) (i := i) hd
    generalize pI b d i = j at hp
    unfold F_X11_readPairs_165
    dsimp only [mr_three]
    rw [show nI q - 1 = nI (q - 1) from pk_sub (b := 1) hq0, show nI (q - 2) + 1 = nI (q - 1) from by rw [nI_1]; congr 1; omega]
    by_cases cu : j < u
    · rw [co_ok cu hp (by omega) _ _ rfl, fon_fok, paint_eq (by omega) hY hT, fon_fok, if_pos (nI_lt cu (by omega)), put_eq (by omega) hY hT hp, fon_fok, nI_1, nI_1]
      dsimp only [bm_col]
      refine ih (m - 1) (by omega) (i + 1) _ _ (by omega) (fun l hl => ?_)
      rw [hc j cu]
      unfold upd; split
      · rfl
      · exact hx l hl
    · rw [co_no (by omega) hp _ _ rfl, fon_fex, if_neg (nI_nlt (by omega) (by omega)), wr_eq, fon_fok, if_pos (Or.inl rfl)]
      exact Or.inr ⟨_, _, _, _, _, rfl, rfl, b_bad _ _ _ _ _ _ _ _ _ _ (by decide)⟩
/-- bytes taken for i pixels -/
def tk (b i : Nat) : Nat := if b = 8 then i else (i + 1) / 2
theorem b_unlike {n W H X Y d u b q : Nat} (sb : A) (hb : b = 8 ∨ b = 4) (two : Int32) (htwo : two = 1 ↔ b = 8) (hd : d < 256) (hq : q ≤ n) (hn : n ≤ 65536) (hXc : X + d ≤ W) (hY : Y < H) (hW : W ≤ 4096) (hT : W * H ≤ 4096) (hu : u ≤ 256) (f1 f2 f3 pk : Int32) (col ta px gt : A) (hc : ∀ i, i < u → col i = ta i) (hx : ∀ i, i < W * H → px i = gt i) (k39 : Int32 → Int32 → Int32 → MR → A → Out (MR × A) Int32) :
    Run n W H (F_X0_readUnlike (nI d) (nI W, nI H, px) (Sr n q) sb (bmS f1 f2 f3 pk b X Y u two col)) (lp (fun _ _ _ _ _ _ _ _ => fno) (F_X11_readPairs_372 sb ta k39) FU (nI X) (nI Y) 1 (nI d) (nI (tk b d)) 0 (Mr n q (nI W) (nI H) (nI b) two (nI u)) gt) f1 f2 f3 b (X + d) Y u q (nI b) two (nI u) col k39 := by
  have htk : tk b d < 256 := by unfold tk; split <;> omega
  unfold F_X0_readUnlike
  have w := lp_D (z := fun _ _ _ _ _ _ _ => fno) (f := F_X0_readUnlike_9 sb) (z2 := fun _ _ _ _ _ _ _ _ => fno) (f2 := F_X11_readPairs_372 sb ta k39) (fun m k1 k2 => ∀ (i r : Nat) (by_ : Int32) (px gt : A), i + m = d → r = q + tk b i → r ≤ n → (b = 4 → i % 2 = 1 → by_ = nI (bt sb (r - 1))) → (∀ i, i < W * H → px i = gt i) → Run n W H (k1 (nI d) (nI (tk b i)) by_ (nI i) (nI W, nI H, px) (Sr n r) (bmS f1 f2 f3 pk b (X + i) Y u two col)) (k2 (nI (X + i)) (nI Y) 1 (nI d) (nI (tk b d)) (nI i) (Mr n r (nI W) (nI H) (nI b) two (nI u)) gt) f1 f2 f3 b (X + d) Y u q (nI b) two (nI u) col k39) ?_ d (by omega)
  · have r := w 0 q 0 px gt (by omega) (by unfold tk; split <;> omega) hq (fun _ h => absurd h (by decide)) hx
    rw [show tk b 0 = 0 from by unfold tk; split <;> rfl] at r
    exact r
  · intro m k1 k2 ih i r by_ px gt hi hr hrn hby hx
    unfold F_X0_readUnlike_9 F_X11_readPairs_372
    by_cases c0 : m = 0
    · have : i = d := by omega
      subst this
      rw [if_pos (Int32.le_refl _), if_pos (Int32.le_refl _), pk_andN (by omega) (m := 1) 1 rfl, show 2 ^ 1 = 2 from rfl, show (2 : Int32) = nI 2 from rfl, pk_rem (by omega) (by omega) (by omega)]
      unfold F_X11_readPairs_527
      by_cases c1 : tk b i % 2 = 1
      · rw [c1, if_pos (c := nI 1 = 1) rfl]
        by_cases c2 : r + 1 ≤ n
        · rw [pass_ok sb c2 hn, fon_fok, wt_ok 1 1 rfl _ _ _ _ _ c2 (by omega), fon_fok, if_neg (c := (1 : Int32) = 0) (by decide)]
          dsimp only [mr_size, mr_pos, mr_kind, mr_whr, mr_gw, mr_gh, mr_one, mr_two, mr_three]
          rw [nI_1]
          exact Or.inl ⟨r + 1, px, gt, pk, by omega, c2, rfl, rfl, hx⟩
        · rw [pass_no sb (by omega) hrn hn (by omega), fon_fex, wt_no 1 1 rfl _ _ _ _ _ (by omega) (by omega), fon_fok, if_pos rfl]
          exact Or.inr ⟨_, _, _, _, _, rfl, rfl, b_bad _ _ _ _ _ _ _ _ _ _ (by decide)⟩
      · rw [show tk b i % 2 = 0 from by omega, if_neg (c := nI 0 = 1) (by decide), pass_ok (k := 0) sb (by omega) hn, fon_fok]
        exact Or.inl ⟨r, px, gt, pk, by omega, hrn, rfl, rfl, hx⟩
    rw [if_neg (nI_ge (by omega) (by omega)), if_neg (nI_ge (by omega) (by omega))]
    have go : ∀ (r2 B : Nat), r2 = q + tk b (i + 1) → 0 < r2 → r2 ≤ n → B = bt sb (r2 - 1) → Run n W H (F_X0_readUnlike_40 sb k1 (nI d) (nI (tk b (i + 1))) (nI B) (nI i) (nI W, nI H, px) (Sr n r2) (bmS f1 f2 f3 pk b (X + i) Y u two col)) (F_X11_readPairs_414 sb ta k39 k2 (nI (X + i)) (nI Y) 1 (nI d) (nI (tk b d)) (nI i) (Mr n r2 (nI W) (nI H) (nI b) two (nI u)) gt) f1 f2 f3 b (X + d) Y u q (nI b) two (nI u) col k39 := by
      intro r2 B hr2 h0 hrn2 hB
      have hB256 : B < 256 := by rw [hB]; exact bt_lt _ _
      unfold F_X0_readUnlike_40 F_X11_readPairs_414
      dsimp only [mr_pos, mr_two, sc_pos]
      rw [show nI r2 - 1 = nI (r2 - 1) from pk_sub (b := 1) h0, b_ok sb (by omega), fon_fok, ← hB, part_eq hb hB256 (by omega), fon_fok, rpart hb two htwo hB256 (by omega) (fun t => F_X11_readPairs_458 sb ta k39 k2 (nI (X + i)) (nI Y) 1 (nI d) (nI (tk b d)) (nI i) t (Mr n r2 (nI W) (nI H) (nI b) two (nI u)) gt)]
      have hp := pI_lt (b := b) (i := i) hB256
      generalize pI b B i = j at hp
      unfold F_X11_readPairs_458
      dsimp only [mr_three, mr_pos]
      rw [show nI r2 - 1 = nI (r2 - 1) from pk_sub (b := 1) h0]
      by_cases cu : j < u
      · rw [co_ok cu hp (by omega) _ _ rfl, fon_fok, paint_eq (by omega) hY hT, fon_fok, if_pos (nI_lt cu (by omega)), put_eq (by omega) hY hT hp, fon_fok, nI_1, nI_1]
        dsimp only [bm_col]
        refine ih (m - 1) (by omega) (i + 1) r2 _ _ _ (by omega) hr2 hrn2 (fun _ _ => by rw [hB]) (fun l hl => ?_)
        rw [hc j cu]
        unfold upd; split
        · rfl
        · exact hx l hl
      · rw [co_no (by omega) hp _ _ rfl, fon_fex, if_neg (nI_nlt (by omega) (by omega)), wr_eq, fon_fok, if_pos (Or.inl rfl)]
        exact Or.inr ⟨_, _, _, _, _, rfl, rfl, b_bad _ _ _ _ _ _ _ _ _ _ (by decide)⟩
    have rd : b = 8 ∨ i % 2 = 0 → Run n W H (F_X0_readUnlike_31 sb k1 (nI d) (nI (tk b i)) (nI i) (nI W, nI H, px) (Sr n r) (bmS f1 f2 f3 pk b (X + i) Y u two col)) (F_X11_readPairs_394 sb ta k39 k2 (nI (X + i)) (nI Y) 1 (nI d) (nI (tk b d)) (nI i) (Mr n r (nI W) (nI H) (nI b) two (nI u)) gt) f1 f2 f3 b (X + d) Y u q (nI b) two (nI u) col k39 := by
      intro hcase
      have ht : tk b (i + 1) = tk b i + 1 := by
        unfold tk
        rcases hb with rfl | rfl
        · rw [if_pos rfl, if_pos rfl]
        · rw [if_neg (by decide), if_neg (by decide)]; omega
      unfold F_X0_readUnlike_31 F_X11_readPairs_394
      by_cases c2 : r + 1 ≤ n
      · rw [nx_ok sb (by omega) hn, fon_fok, wt_ok 1 1 rfl _ _ _ _ _ c2 (by omega), fon_fok, if_neg (c := (1 : Int32) = 0) (by decide)]
        dsimp only [mr_size, mr_pos, mr_kind, mr_whr, mr_gw, mr_gh, mr_one, mr_two, mr_three]
        rw [nI_1, nI_1, ← ht]
        exact go (r + 1) (bt sb r) (by omega) (by omega) c2 (by rw [Nat.add_sub_cancel])
      · rw [nx_no sb (by omega) (by omega), fon_fex, wt_no 1 1 rfl _ _ _ _ _ (by omega) (by omega), fon_fok, if_pos rfl]
        exact Or.inr ⟨_, _, _, _, _, rfl, rfl, b_bad _ _ _ _ _ _ _ _ _ _ (by decide)⟩
    dsimp only [bm_bits, mr_two]
    rcases hb with rfl | rfl
    · rw [if_pos (c := nI 8 = 8) (by decide), if_pos (c := two = 1) (htwo.mpr rfl)]
      exact rd (Or.inl rfl)
    · rw [if_neg (c := nI 4 = 8) (by decide), if_neg (c := two = 1) (fun e => absurd (htwo.mp e) (by decide)), pk_andN (by omega) (m := 1) 1 rfl, show 2 ^ 1 = 2 from rfl, show (2 : Int32) = nI 2 from rfl, pk_rem (by omega) (by omega) (by omega)]
      by_cases c2 : i % 2 = 0
      · rw [c2, if_pos (c := nI 0 = 0) rfl, if_pos (c := nI 0 = 0) rfl]
        exact rd (Or.inr c2)
      · have ht : tk 4 (i + 1) = tk 4 i := by unfold tk; rw [if_neg (by decide), if_neg (by decide)]; omega
        have h1 : 1 ≤ tk 4 i := by unfold tk; rw [if_neg (by decide)]; omega
        rw [show i % 2 = 1 from by omega, if_neg (c := nI 1 = 0) (by decide), if_neg (c := nI 1 = 0) (by decide), hby rfl (by omega), ← ht]
        exact go r _ (by omega) (by omega) hrn rfl
theorem rfillp {n p W H : Nat} (sb ta : A) (hT : W * H ≤ 4096) (one two three : Int32) (gt : A) : F_X11_readPairs sb (Mr n p (nI W) (nI H) one two three) gt ta = lp (fun _ _ _ _ _ => fno) (F_X11_readPairs_39 sb ta) FU 0 0 1 (Mr n p (nI W) (nI H) one two three) (fillN gt (W * H) (ta 0)) := by
  unfold F_X11_readPairs
  have q := lp_M (z := fun _ _ _ => fno) (f := F_X11_readPairs_2 sb ta) (fun m k => ∀ j, j + m = W * H → k (nI j) (Mr n p (nI W) (nI H) one two three) (fillN gt j (ta 0)) = lp (fun _ _ _ _ _ => fno) (F_X11_readPairs_39 sb ta) FU 0 0 1 (Mr n p (nI W) (nI H) one two three) (fillN gt (W * H) (ta 0))) ?_ (W * H) (by omega)
  · have := q 0 (by omega)
    rw [fillN_0] at this
    exact this
  · intro m k ih j hj
    unfold F_X11_readPairs_2
    dsimp only [mr_gw, mr_gh]
    rw [pk_mul]
    by_cases c0 : m = 0
    · have : j = W * H := by omega
      subst this
      rw [if_pos (Int32.le_refl _)]
    · rw [if_neg (nI_ge (by omega) (by omega)), if_pos (by decide), if_pos (inb_nI (by omega) (by omega)), nI_clamp (by omega), sb_cl0, fillN_s, nI_1]
      exact ih (m - 1) (by omega) (j + 1) (by omega)
theorem b_pairs {n W H p u b : Nat} (sb : A) (hb : b = 8 ∨ b = 4) (two : Int32) (htwo : two = 1 ↔ b = 8) (hp : p ≤ n) (hn1 : 1 ≤ n) (hn : n ≤ 65536) (hW : W ≤ 4096) (hH : H ≤ 4096) (hT : W * H ≤ 4096) (hu : u ≤ 256) (hu1 : 1 ≤ u) (f1 f2 f3 pk : Int32) (cl up : Int32) (col ta px gt : A) (hc : ∀ i, i < u → col i = ta i) :
    PStepB n (W * H) (nI W) (nI H) (nI b) two (nI u) (F_X0_readPairs (nI W, nI H, px) (Sr n p) sb (f1, f2, f3, 0, nI b, two, nI u, pk, cl, up, col)) (F_X11_readPairs sb (Mr n p (nI W) (nI H) (nI b) two (nI u)) gt ta) KB := by
  unfold F_X0_readPairs
  dsimp only [bm_f1, bm_f2, bm_f3, bm_top, bm_bits, bm_comp, bm_used, bm_packed, bm_column, bm_up, bm_col]
  rw [if_pos (by decide), sb_cl0, ut_fill hT, fon_fok, rfillp sb ta hT, hc 0 hu1]
  have w := lp_D (z := fun _ _ _ _ _ => fno) (f := F_X0_readPairs_25 sb) (z2 := fun _ _ _ _ _ => fno) (f2 := F_X11_readPairs_39 sb ta) (fun m k1 k2 => (∀ (a : Int32) (x : Ras) (sc : Src) (bm : Bmp), k1 0 a x sc bm = fok () (x, sc, bm)) ∧ (∀ (a c : Int32) (mr : MR) (gt : A), k2 a c 0 mr gt = KB mr gt) ∧ ∀ (q pr X Y : Nat) (pk : Int32) (px gt : A), q + m = n → 2 * pr ≤ q → X ≤ W → Y ≤ H → (∀ i, i < W * H → px i = gt i) → PStepB n (W * H) (nI W) (nI H) (nI b) two (nI u) (k1 1 (nI pr) (nI W, nI H, px) (Sr n q) (bmS f1 f2 f3 pk b X Y u two col)) (k2 (nI X) (nI Y) 1 (Mr n q (nI W) (nI H) (nI b) two (nI u)) gt) KB) ?_ (n - p) (by omega)
  · exact w.2.2 p 0 0 0 pk _ _ (by omega) (by omega) (by omega) (by omega) (fun i hi => by unfold fillN; rw [if_pos hi, if_pos hi])
  · intro m k1 k2 ih
    refine ⟨fun a x sc bm => ?_, fun a c mr gt => ?_, fun q pr X Y pk px gt hq hpr hX hY hx => ?_⟩
    · unfold F_X0_readPairs_25; rw [if_pos rfl]
    · unfold F_X11_readPairs_39; rw [if_pos rfl]; rfl
    unfold F_X0_readPairs_25 F_X11_readPairs_39
    dsimp only [sc_size, sc_pos]
    rw [if_neg (c := (1 : Int32) = 0) (by decide), if_neg (nI_ge (by omega) (by omega)), if_neg (c := (1 : Int32) = 0) (by decide)]
    by_cases c2 : q + 2 ≤ n
    case neg =>
      rw [wt_no 2 2 rfl _ _ _ _ _ (by omega) (by omega), fon_fok, if_pos rfl]
      by_cases c1 : q + 1 ≤ n
      · rw [nx_ok sb (by omega) hn, fon_fok, nx_no sb (by omega) (by omega), fon_fex]; exact pb_bad rfl rfl (b_bad _ _ _ _ _ _ _ _ _ _ (by decide))
      · rw [nx_no sb (by omega) (by omega), fon_fex]; exact pb_bad rfl rfl (b_bad _ _ _ _ _ _ _ _ _ _ (by decide))
    have hb0 := bt_lt sb q
    have hb1 := bt_lt sb (q + 1)
    rw [nx_ok sb (by omega) hn, fon_fok, nx_ok sb (by omega) hn, fon_fok, wt_ok 2 2 rfl _ _ _ _ _ c2 (by omega), fon_fok, if_neg (c := (1 : Int32) = 0) (by decide)]
    dsimp only [mr_size, mr_pos, mr_kind, mr_whr, mr_gw, mr_gh, mr_one, mr_two, mr_three]
    rw [b_ok sb (by omega), fon_fok, nI_1, b_ok sb (by omega), fon_fok, show nI q + 2 = nI (q + 2) from nI_add _ 2, show q + 1 + 1 = q + 2 from rfl]
    generalize bt sb q = c at hb0
    generalize bt sb (q + 1) = d at hb1
    unfold F_X0_readPairs_132 F_X11_readPairs_527 F_X11_readPairs_115 F_X11_readPairs_340 F_X11_readPairs_313
    rw [nI_1]
    have next : ∀ (q2 X2 Y2 : Nat) (pk : Int32) (px gt : A), q + 2 ≤ q2 → q2 ≤ n → X2 ≤ W → Y2 ≤ H → (∀ i, i < W * H → px i = gt i) → PStepB n (W * H) (nI W) (nI H) (nI b) two (nI u) (k1 1 (nI (pr + 1)) (nI W, nI H, px) (Sr n q2) (bmS f1 f2 f3 pk b X2 Y2 u two col)) (k2 (nI X2) (nI Y2) 1 (Mr n q2 (nI W) (nI H) (nI b) two (nI u)) gt) KB := fun q2 X2 Y2 pk px gt h1 h2 h3 h4 h5 => (ih (n - q2) (by omega)).2.2 q2 (pr + 1) X2 Y2 pk px gt (by omega) (by omega) h3 h4 h5
    have room : ∀ (e : Nat) (w : Int32), e < 256 → F_X0_askRoom (nI e) w (nI W, nI H, px) (Sr n (q + 2)) (bmS f1 f2 f3 pk b X Y u two col) = if H ≤ Y then fex ISE (nI n, nI (q + 2), 4, w) else (if X + e ≤ W then fok () (Sr n (q + 2)) else fex ISE (nI n, nI (q + 2), 4, w)) := by
      intro e w he
      unfold F_X0_askRoom F_X0_askRoom_24
      dsimp only [x_w, x_g, bm_up, bm_column]
      rw [rf_eq, fon_fex, pk_sub hX]
      by_cases cy : H ≤ Y
      · rw [if_pos (nI_le cy (by omega)), if_pos cy]
      · rw [if_neg (nI_ge (by omega) (by omega)), if_neg cy]
        by_cases cx : X + e ≤ W
        · rw [if_pos (nI_le (by omega) (by omega)), if_pos cx]
        · rw [if_neg (nI_ge (by omega) (by omega)), if_neg cx]
    by_cases cc : c = 0
    · subst cc
      rw [if_pos (c := nI 0 ≤ 0) (by decide), if_pos (c := nI 0 ≤ 0) (by decide)]
      by_cases d0 : d = 0
      · subst d0
        rw [if_pos (c := nI 0 ≤ 2) (by decide), if_neg (c := nI 0 = 1) (by decide), if_pos (c := nI 0 = 0) (by decide)]
        unfold F_X0_move
        dsimp only [x_g, bm_f1, bm_f2, bm_f3, bm_top, bm_bits, bm_comp, bm_used, bm_packed, bm_column, bm_up, bm_col]
        rw [if_pos (c := nI 0 = 0) (by decide)]
        by_cases cy : Y < H
        · rw [if_pos (nI_lt cy (by omega)), fon_fok, if_pos (nI_lt cy (by omega)), nI_1]
          exact next (q + 2) 0 (Y + 1) pk px gt (by omega) c2 (by omega) (by omega) hx
        · rw [if_neg (nI_nlt (by omega) (by omega)), rf_eq, fon_fex, fon_fex, if_neg (nI_nlt (by omega) (by omega)), wr_eq, fon_fok, if_pos (Or.inl rfl)]
          exact pb_bad rfl rfl (b_bad _ _ _ _ _ _ _ _ _ _ (by decide))
      rw [if_neg (c := nI d = 0) (by (simp (disch := omega) only [nI_toInt, Int32.lt_iff_toInt_lt, Int32.le_iff_toInt_le, ← Int32.toInt_inj, Int32.reduceToInt]; omega))]
      by_cases d1 : d = 1
      · subst d1
        rw [if_pos (c := nI 1 ≤ 2) (by decide), if_pos (c := nI 1 = 1) (by decide), if_pos (c := nI 1 = 1) (by decide), (ih 0 (by omega)).1, (ih 0 (by omega)).2.1]
        exact Or.inl ⟨q + 2, px, gt, _, c2, rfl, rfl, rfl, rfl, rfl, hx⟩
      rw [if_neg (c := nI d = 1) (by (simp (disch := omega) only [nI_toInt, Int32.lt_iff_toInt_lt, Int32.le_iff_toInt_le, ← Int32.toInt_inj, Int32.reduceToInt]; omega)), if_neg (c := nI d = 1) (by (simp (disch := omega) only [nI_toInt, Int32.lt_iff_toInt_lt, Int32.le_iff_toInt_le, ← Int32.toInt_inj, Int32.reduceToInt]; omega))]
      by_cases d2 : d = 2
      · subst d2
        rw [if_pos (c := nI 2 ≤ 2) (by decide), if_pos (c := nI 2 = 2) (by decide)]
        unfold F_X0_move F_X0_move_86
        dsimp only [x_g, x_w, bm_f1, bm_f2, bm_f3, bm_top, bm_bits, bm_comp, bm_used, bm_packed, bm_column, bm_up, bm_col]
        rw [if_neg (c := nI 2 = 0) (by decide)]
        by_cases c4 : q + 2 + 2 ≤ n
        · have e0 := bt_lt sb (q + 2)
          have e1 := bt_lt sb (q + 2 + 1)
          rw [nx_ok sb (by omega) hn, fon_fok, nx_ok sb (by omega) hn, fon_fok, wt_ok 2 2 rfl _ _ _ _ _ c4 (by omega), fon_fok, if_neg (c := (1 : Int32) = 0) (by decide)]
          dsimp only [mr_size, mr_pos, mr_kind, mr_whr, mr_gw, mr_gh, mr_one, mr_two, mr_three]
          rw [b_ok sb (by omega), fon_fok, show nI (q + 2) + 1 = nI (q + 2 + 1) from nI_1 _, b_ok sb (by omega), fon_fok, nI_add, nI_add, show nI (q + 2) + 2 = nI (q + 2 + 2) from nI_add _ 2, show q + 2 + 1 + 1 = q + 2 + 2 from rfl, rf_eq, fon_fex, wr_eq, fon_fok, if_pos (c := isB 0) (Or.inl rfl)]
          by_cases cx : W < X + bt sb (q + 2)
          · rw [if_pos (nI_lt cx (by omega)), fon_fex, if_pos (nI_lt cx (by omega))]
            exact pb_bad rfl rfl (b_bad _ _ _ _ _ _ _ _ _ _ (by decide))
          · rw [if_neg (nI_nlt (by omega) (by omega)), if_neg (c := nI W < nI (X + bt sb (q + 2))) (nI_nlt (by omega) (by omega))]
            by_cases cy : Y + bt sb (q + 2 + 1) < H
            · rw [if_pos (nI_lt cy (by omega)), fon_fok, if_pos (nI_lt cy (by omega))]
              exact next (q + 2 + 2) _ _ pk px gt (by omega) c4 (by omega) (by omega) hx
            · rw [if_neg (nI_nlt (by omega) (by omega)), fon_fex, if_neg (c := nI (Y + bt sb (q + 2 + 1)) < nI H) (nI_nlt (by omega) (by omega))]
              exact pb_bad rfl rfl (b_bad _ _ _ _ _ _ _ _ _ _ (by decide))
        · rw [wt_no 2 2 rfl _ _ _ _ _ (by omega) (by omega), fon_fok, if_pos rfl]
          by_cases c3 : q + 2 + 1 ≤ n
          · rw [nx_ok sb (by omega) hn, fon_fok, nx_no sb (by omega) (by omega), fon_fex, fon_fex]
            exact pb_bad rfl rfl (b_bad _ _ _ _ _ _ _ _ _ _ (by decide))
          · rw [nx_no sb (by omega) (by omega), fon_fex, fon_fex]
            exact pb_bad rfl rfl (b_bad _ _ _ _ _ _ _ _ _ _ (by decide))
      rw [if_neg (c := nI d ≤ 2) (by (simp (disch := omega) only [nI_toInt, Int32.lt_iff_toInt_lt, Int32.le_iff_toInt_le, ← Int32.toInt_inj, Int32.reduceToInt]; omega)), if_neg (c := nI d = 2) (by (simp (disch := omega) only [nI_toInt, Int32.lt_iff_toInt_lt, Int32.le_iff_toInt_le, ← Int32.toInt_inj, Int32.reduceToInt]; omega)), room d _ hb1, wr_eq, fon_fok, if_pos (c := isB 0) (Or.inl rfl)]
      by_cases cy : H ≤ Y
      · rw [if_pos cy, fon_fex, if_pos (nI_le cy (by omega))]
        exact pb_bad rfl rfl (b_bad _ _ _ _ _ _ _ _ _ _ (by decide))
      rw [if_neg cy, if_neg (nI_ge (by omega) (by omega)), nI_add]
      by_cases cx : X + d ≤ W
      · rw [if_pos cx, fon_fok, if_pos (nI_le cx (by omega))]
        unfold F_X11_readPairs_367
        have et : ∀ (f : Int32 → Out (MR × A) Int32), (if two = 1 then f (nI d) else f ((nI d + 1) / 2)) = f (nI (tk b d)) := by
          intro f
          unfold tk
          rcases hb with rfl | rfl
          · rw [if_pos (htwo.mpr rfl), if_pos rfl]
          · rw [if_neg (fun e => absurd (htwo.mp e) (by decide)), if_neg (by decide), nI_1, show (2 : Int32) = nI 2 from rfl, pk_div (by omega) (by omega) (by omega)]
        rw [et (fun t => lp (fun _ _ _ _ _ _ _ _ => fno) (F_X11_readPairs_372 sb ta k2) FU (nI X) (nI Y) 1 (nI d) t 0 (Mr n (q + 2) (nI W) (nI H) (nI b) two (nI u)) gt)]
        rcases b_unlike (Y := Y) (H := H) sb hb two htwo hb1 c2 hn cx (by omega) hW hT hu f1 f2 f3 pk col ta px gt hc hx k2 with ⟨q2, px2, gt2, pk2, r0, r1, r2, r3, r4⟩ | ⟨x2, sc2, bm2, mr2, gt2, r1, r2, r3⟩
        · rw [r2, fon_fok, r3]; exact next q2 _ _ pk2 px2 gt2 r0 r1 cx (by omega) r4
        · rw [r1, fon_fex, r2]; exact pb_bad rfl rfl r3
      · rw [if_neg cx, fon_fex, if_neg (nI_ge (by omega) (by omega))]
        exact pb_bad rfl rfl (b_bad _ _ _ _ _ _ _ _ _ _ (by decide))
    · rw [if_neg (c := nI c ≤ 0) (nI_nle (by omega) (by omega)), if_neg (c := nI c ≤ 0) (nI_nle (by omega) (by omega)), room c _ hb0, wr_eq, fon_fok, if_pos (c := isB 0) (Or.inl rfl)]
      by_cases cy : H ≤ Y
      · rw [if_pos cy, fon_fex, if_pos (nI_le cy (by omega))]
        exact pb_bad rfl rfl (b_bad _ _ _ _ _ _ _ _ _ _ (by decide))
      rw [if_neg cy, if_neg (nI_ge (by omega) (by omega)), nI_add]
      by_cases cx : X + c ≤ W
      · rw [if_pos cx, fon_fok, if_pos (nI_le cx (by omega))]
        rcases b_like (c := c) (d := d) (Y := Y) (H := H) sb hb two htwo hb1 hb0 c2 (by omega) hn cx (by omega) hW hT hu f1 f2 f3 pk col ta px gt hc hx k2 with (⟨q2, px2, gt2, pk2, r0, r1, r2, r3, r4⟩ | ⟨x2, sc2, bm2, mr2, gt2, r1, r2, r3⟩) | bad
        · rw [Nat.add_sub_cancel] at r3
          rw [r2, fon_fok, r3]; exact next q2 _ _ pk2 px2 gt2 r0 r1 cx (by omega) r4
        · rw [Nat.add_sub_cancel] at r2
          rw [r1, fon_fex, r2]; exact pb_bad rfl rfl r3
        · omega
      · rw [if_neg cx, fon_fex, if_neg (nI_ge (by omega) (by omega))]
        exact pb_bad rfl rfl (b_bad _ _ _ _ _ _ _ _ _ _ (by decide))
