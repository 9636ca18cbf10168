theorem pm_r {i W H a : Nat} {f dd wi hi : A} {cm h : Int32} (hi4 : i < 4) (hW : W ≤ 4096) (hH : H ≤ 4096) (hT : W * H ≤ 4096) (b3 : wi i = nI W) (b4 : hi i = nI H) (g : Nat → Nat → List Nat) (c : Nat → Nat → Int32) (hc : ∀ y, c y 0 = 0)
    (step : ∀ (y x : Nat) (L : List Nat) (k77 : Int32 → Int32 → Int32 → MW → A → Out (MW × A) Unit) (k93 : Int32 → Int32 → Int32 → Int32 → Int32 → MW → A → Out (MW × A) Unit), y < H → x < W → L.length + (g y x).length ≤ 65536 → F_X11_writeMaps_132 dd wi hi k77 k93 (nI i) (nI a) (nI y) (c y x) (nI x) (dd (4096 * i + (y * W + x))) (if x + 1 = W then 1 else 0) (MwL h cm L) (ap f L) = k93 (nI i) (nI a) (nI y) (c y (x + 1)) (nI (x + 1)) (MwL h cm (L ++ g y x)) (ap f (L ++ g y x)))
    {L : List Nat} (hB : L.length + (cat (fun y => cat (g y) W) H).length ≤ 65536) :
    F_X11_writeMaps_75 dd wi hi (nI i) (nI a) (MwL h cm L) (ap f L) = fok () (MwL h cm (L ++ cat (fun y => cat (g y) W) H), ap f (L ++ cat (fun y => cat (g y) W) H)) := by
  unfold F_X11_writeMaps_75
  have q := lp_M (z := fun _ _ _ _ _ => fno) (f := F_X11_writeMaps_77 dd wi hi) (fun m k77 => ∀ y, y + m = H → k77 (nI i) (nI a) (nI y) (MwL h cm (L ++ cat (fun y => cat (g y) W) y)) (ap f (L ++ cat (fun y => cat (g y) W) y)) = fok () (MwL h cm (L ++ cat (fun y => cat (g y) W) H), ap f (L ++ cat (fun y => cat (g y) W) H))) ?_ H (by omega)
  · have r := q 0 (by omega)
    rw [show cat (fun y => cat (g y) W) 0 = [] from rfl, List.append_nil] at r
    exact r
  · intro m k77 ih y hy
    unfold F_X11_writeMaps_77
    rw [if_pos (inb_nI hi4 (by omega)), nI_clamp (by omega), b4]
    by_cases c0 : m = 0
    · have : y = H := by omega
      subst this
      rw [if_pos (Int32.le_refl _)]
    rw [if_neg (nI_ge (by omega) (by omega))]
    have q2 := lp_M (z := fun _ _ _ _ _ _ _ => fno) (f := F_X11_writeMaps_93 dd wi hi k77) (fun m2 k93 => ∀ u, u + m2 = W → k93 (nI i) (nI a) (nI y) (c y u) (nI u) (MwL h cm (L ++ cat (fun y => cat (g y) W) y ++ cat (g y) u)) (ap f (L ++ cat (fun y => cat (g y) W) y ++ cat (g y) u)) = fok () (MwL h cm (L ++ cat (fun y => cat (g y) W) H), ap f (L ++ cat (fun y => cat (g y) W) H))) ?_ W (by omega)
    · have r := q2 0 (by omega)
      rw [hc, show cat (g y) 0 = [] from rfl, List.append_nil] at r
      exact r
    · intro m2 k93 ih2 u hu
      unfold F_X11_writeMaps_93
      rw [if_pos (inb_nI hi4 (by omega)), nI_clamp (by omega), b3]
      by_cases c1 : m2 = 0
      · have : u = W := by omega
        subst this
        rw [if_pos (Int32.le_refl _), rows_e, nI_1]
        exact ih (m - 1) (by omega) (y + 1) (by omega)
      have hb := rows_b g (show u < W by omega) (show y < H by omega)
      have r := ih2 (m2 - 1) (by omega) (u + 1) (by omega)
      rw [← rows_x] at r
      rw [if_neg (nI_ge (by omega) (by omega)), at_eq hi4 (show u < W by omega) (show y < H by omega) hT b3, fon_fok, if_pos (inb_nI hi4 (by omega)), show nI W - 1 = nI (W - 1) from pk_sub (b := 1) (by omega)]
      have s := step y u (L ++ cat (fun y => cat (g y) W) y ++ cat (g y) u) k77 k93 (by omega) (by omega) (by rw [List.length_append, List.length_append]; omega)
      rw [r] at s
      by_cases c2 : u + 1 = W
      · rw [if_pos c2] at s
        rw [if_pos (by rw [← c2]; rfl)]
        exact s
      · rw [if_neg c2] at s
        rw [if_neg (fun e => c2 (by have := (nI_inj (by omega) (by omega)).mp e; omega))]
        exact s
/-- the pixels behind the head of a PNM file -/
def pnB (a W H : Nat) (d : A) : List Nat := if a = 1 then cat (fun y => cat (sgn W d y) W) H else if a = 4 then cat (fun y => cat (gB W d y) W) H else dg 255 ++ [10] ++ cat (fun p => gS a (d p)) (W * H)
def pnH (a W H : Nat) : List Nat := [80, 48 + a, 10] ++ dg W ++ [32] ++ dg H ++ [10]
theorem pnH_le (a W H : Nat) : (pnH a W H).length ≤ 13 := by
  have h1 := dg_le W; have h2 := dg_le H
  unfold pnH
  simp only [List.length_append, List.length_cons, List.length_nil]
  omega
theorem pnB_le {a W H : Nat} (d : A) (hT : W * H ≤ 4096) : (pnB a W H d).length ≤ 49160 := by
  unfold pnB
  by_cases c1 : a = 1
  · rw [if_pos c1]
    have h := cat_max (fun y => cat (sgn W d y) W) (W * 2) (n := H) (fun j _ => cat_max _ 2 (fun x _ => by rw [sgn_len]; split <;> omega))
    rw [← Nat.mul_assoc, Nat.mul_comm H] at h
    omega
  rw [if_neg c1]
  by_cases c4 : a = 4
  · rw [if_pos c4]
    have h := cat_max (fun y => cat (gB W d y) W) (W * 1) (n := H) (fun j _ => cat_max _ 1 (fun x _ => by unfold gB; split <;> simp))
    rw [← Nat.mul_assoc, Nat.mul_comm H] at h
    omega
  rw [if_neg c4]
  have h := cat_max (fun p => gS a (d p)) 12 (n := W * H) (fun j _ => gS_12 a _)
  have h2 := dg_3 (show 255 < 256 by omega)
  simp only [List.length_append, List.length_cons, List.length_nil]
  omega
theorem c_pnm {x : Ras} {W H a : Nat} {f : A} (ha : 1 ≤ a ∧ a ≤ 6) (b1 : x_w x = nI W) (b2 : x_g x = nI H) (hW : W ≤ 4096) (hH : H ≤ 4096) (hT : W * H ≤ 4096) :
    F_X5_encode (nI a) x (RwC f []) = fok () (RwC f (pnH a W H ++ pnB a W H (x_p x))) := by
  have hb := pnB_le (a := a) (x_p x) hT
  have h1 := dg_le W; have h2 := dg_le H; have h3 := pnH_le a W H
  unfold F_X5_encode
  rw [b1, b2, show (48 : Int32) + nI a = nI (48 + a) from nI_add 48 a]
  rw [c_add _ (by decide), fon_fok, c_add _ (by simp), fon_fok, c_add _ (by simp), fon_fok, c_dec (by omega) (by simp only [List.length_append, List.length_cons, List.length_nil]; omega), fon_fok, c_add _ (by simp only [List.length_append, List.length_cons, List.length_nil]; omega), fon_fok, c_dec (by omega) (by simp only [List.length_append, List.length_cons, List.length_nil]; omega), fon_fok, c_add _ (by simp only [List.length_append, List.length_cons, List.length_nil]; omega), fon_fok, show ch 80 0 = 80 from by decide, ch_nI (by omega), show ch 10 0 = 10 from by decide, show ch 32 0 = 32 from by decide]
  rw [show (([] : List Nat) ++ [80] ++ [48 + a] ++ [10] ++ dg W ++ [32] ++ dg H ++ [10]) = pnH a W H from rfl]
  have hh : (pnH a W H).length + (pnB a W H (x_p x)).length ≤ 65536 := by omega
  unfold pnB at hh ⊢
  by_cases c1 : a = 1
  · rw [if_pos c1] at hh ⊢
    rw [if_pos (c := nI a = 1) (by rw [c1]; rfl), c_sgn b1 b2 hW hH hT hh, fon_fok]
  rw [if_neg c1] at hh ⊢
  rw [if_neg (c := nI a = 1) (fun e => c1 ((nI_inj (b := 1) (by omega) (by omega)).mp e))]
  by_cases c4 : a = 4
  · rw [if_pos c4] at hh ⊢
    rw [if_pos (c := nI a = 4) (by rw [c4]; rfl), c_bits b1 b2 hW hH hT hh, fon_fok]
  rw [if_neg c4] at hh ⊢
  rw [if_neg (c := nI a = 4) (fun e => c4 ((nI_inj (b := 4) (by omega) (by omega)).mp e)), c_samp (by omega) b1 b2 hT hh, fon_fok]
theorem r_pnm {i W H a : Nat} {f d dd wi hi : A} {cm h : Int32} (ha : 1 ≤ a ∧ a ≤ 6) (hi4 : i < 4) (hW : W ≤ 4096) (hH : H ≤ 4096) (hT : W * H ≤ 4096) (b3 : wi i = nI W) (b4 : hi i = nI H) (hd : ∀ p, p < W * H → d p = dd (4096 * i + p)) (hF : a = 1 ∨ a = 4 → ∀ p, p < W * H → d p = 255 ∨ d p = -1) :
    F_X11_writeMaps (nI i) (nI a) (MwL h cm []) (ap f []) dd wi hi = fok () (MwL h cm (pnH a W H ++ pnB a W H d), ap f (pnH a W H ++ pnB a W H d)) := by
  have hb := pnB_le (a := a) d hT
  have h1 := dg_le W; have h2 := dg_le H; have h3 := pnH_le a W H
  have hh : (pnH a W H).length + (pnB a W H d).length ≤ 65536 := by omega
  unfold F_X11_writeMaps
  rw [nI_clamp (by omega), b3, b4, show (48 : Int32) + nI a = nI (48 + a) from nI_add 48 a]
  rw [r_put _ _ _ (by decide), fon_fok]
  dsimp only
  rw [r_put _ _ _ (by simp), fon_fok]
  dsimp only
  rw [r_put _ _ _ (by simp), fon_fok]
  dsimp only
  rw [if_pos (inb_nI hi4 (by omega)), r_dec _ _ (by omega) (by simp only [List.length_append, List.length_cons, List.length_nil]; omega), fon_fok]
  dsimp only
  rw [r_put _ _ _ (by simp only [List.length_append, List.length_cons, List.length_nil]; omega), fon_fok]
  dsimp only
  rw [if_pos (inb_nI hi4 (by omega)), r_dec _ _ (by omega) (by simp only [List.length_append, List.length_cons, List.length_nil]; omega), fon_fok]
  dsimp only
  rw [r_put _ _ _ (by simp only [List.length_append, List.length_cons, List.length_nil]; omega), fon_fok]
  dsimp only
  rw [show ch 80 0 = 80 from by decide, ch_nI (by omega), show ch 10 0 = 10 from by decide, show ch 32 0 = 32 from by decide]
  rw [show (([] : List Nat) ++ [80] ++ [48 + a] ++ [10] ++ dg W ++ [32] ++ dg H ++ [10]) = pnH a W H from rfl]
  unfold pnB at hh ⊢
  by_cases c1 : a = 1
  · rw [if_pos c1] at hh ⊢
    rw [if_pos (c := nI a = 1) (by rw [c1]; rfl)]
    refine pm_r hi4 hW hH hT b3 b4 (sgn W d) (fun _ _ => 0) (fun _ => rfl) ?_ hh
    intro y x L k77 k93 hy hx hL
    have hi := idx_lt hx hy
    have hp := hF (Or.inl c1) (y * W + x) hi
    rw [← hd _ hi]
    rw [sgn_len] at hL
    unfold F_X11_writeMaps_132 F_X11_writeMaps_153 F_X11_writeMaps_171 F_X11_writeMaps_349
    rw [if_pos (c := nI a = 1) (by rw [c1]; rfl)]
    have e70 : nI x - nI x / 70 * 70 = nI (x % 70) := by
      rw [show (70 : Int32) = nI 70 from rfl, pk_div (by omega) (by omega) (by omega), pk_mul, pk_sub (by omega)]
      congr 1; omega
    have k70 : nI (x % 70) = 69 ↔ x % 70 = 69 := nI_inj (b := 69) (by omega) (by omega)
    rw [e70, nI_1]
    have fin : ∀ (t : Int32) (t2 : Nat), ch t 0 = t2 → (if d (y * W + x) = 255 then 49 else 48) = t2 → fon (F_X11_put_ t (MwL h cm L) (ap f L)) (fun z153 s153 => if (if x + 1 = W then (1 : Int32) else 0) = 0 then (if nI (x % 70) = 69 then (fon (F_X11_put_ 10 s153.1 s153.2) (fun z174 s174 => k93 (nI i) (nI a) (nI y) 0 (nI (x + 1)) s174.1 s174.2) (fun _ _ => fno)) else (k93 (nI i) (nI a) (nI y) 0 (nI (x + 1)) s153.1 s153.2)) else (fon (F_X11_put_ 10 s153.1 s153.2) (fun z174 s174 => k93 (nI i) (nI a) (nI y) 0 (nI (x + 1)) s174.1 s174.2) (fun _ _ => fno))) (fun _ _ => fno) = k93 (nI i) (nI a) (nI y) 0 (nI (x + 1)) (MwL h cm (L ++ sgn W d y x)) (ap f (L ++ sgn W d y x)) := by
      intro t t2 g1 g2
      unfold sgn
      rw [g2, r_put _ _ _ (by split at hL <;> omega), fon_fok, g1]
      dsimp only
      by_cases c2 : x + 1 = W
      · rw [if_pos (Or.inr c2)] at hL
        rw [if_pos c2, if_neg (by decide), if_pos (Or.inr c2), r_put _ _ _ (by simp only [List.length_append, List.length_cons, List.length_nil]; omega), fon_fok, List.append_assoc]
        rfl
      · rw [if_neg c2, if_pos rfl]
        by_cases c3 : x % 70 = 69
        · rw [if_pos (by omega)] at hL
          rw [if_pos (k70.mpr c3), if_pos (by omega), r_put _ _ _ (by simp only [List.length_append, List.length_cons, List.length_nil]; omega), fon_fok, List.append_assoc]
          rfl
        · rw [if_neg (fun e => c3 (k70.mp e)), if_neg (by omega)]
    rcases hp with e | e
    · rw [e, if_neg (by decide)]
      exact fin 49 49 (by decide) (by rw [if_pos e])
    · rw [e, if_pos rfl]
      exact fin 48 48 (by decide) (by rw [e]; rfl)
  rw [if_neg c1] at hh ⊢
  have n1 : ¬ nI a = 1 := fun e => c1 ((nI_inj (b := 1) (by omega) (by omega)).mp e)
  rw [if_neg n1]
  by_cases c4 : a = 4
  · rw [if_pos c4] at hh ⊢
    rw [if_pos (c := nI a = 4) (by rw [c4]; rfl)]
    refine pm_r hi4 hW hH hT b3 b4 (gB W d) (cB W d) (fun _ => rfl) ?_ hh
    intro y x L k77 k93 hy hx hL
    have hi := idx_lt hx hy
    have hp := hF (Or.inr c4) (y * W + x) hi
    rw [← hd _ hi]
    unfold F_X11_writeMaps_132 F_X11_writeMaps_205 F_X11_writeMaps_220 F_X11_writeMaps_349
    rw [if_neg n1, if_pos (c := nI a = 4) (by rw [c4]; rfl)]
    have e8 : nI x - nI x / 8 * 8 = nI (x % 8) := by
      rw [show (8 : Int32) = nI 8 from rfl, pk_div (by omega) (by omega) (by omega), pk_mul, pk_sub (by omega)]
      congr 1; omega
    have k8 : nI (x % 8) = 7 ↔ x % 8 = 7 := nI_inj (b := 7) (by omega) (by omega)
    rw [e8, nI_1]
    have fin : ∀ (t : Int32), cN W d y x (cB W d y x) = t → (if (if x + 1 = W then (1 : Int32) else 0) = 0 then (if nI (x % 8) = 7 then (fon (F_X11_put_ t (MwL h cm L) (ap f L)) (fun z223 s223 => k93 (nI i) (nI a) (nI y) 0 (nI (x + 1)) s223.1 s223.2) (fun _ _ => fno)) else (k93 (nI i) (nI a) (nI y) t (nI (x + 1)) (MwL h cm L) (ap f L))) else (fon (F_X11_put_ t (MwL h cm L) (ap f L)) (fun z223 s223 => k93 (nI i) (nI a) (nI y) 0 (nI (x + 1)) s223.1 s223.2) (fun _ _ => fno))) = k93 (nI i) (nI a) (nI y) (cB W d y (x + 1)) (nI (x + 1)) (MwL h cm (L ++ gB W d y x)) (ap f (L ++ gB W d y x)) := by
      intro t ht
      show _ = k93 (nI i) (nI a) (nI y) (if x % 8 = 7 ∨ x + 1 = W then 0 else cN W d y x (cB W d y x)) (nI (x + 1)) (MwL h cm (L ++ gB W d y x)) (ap f (L ++ gB W d y x))
      unfold gB at hL ⊢
      rw [ht] at hL ⊢
      by_cases c2 : x + 1 = W
      · rw [if_pos (Or.inr c2)] at hL
        rw [if_pos c2, if_neg (by decide), if_pos (Or.inr c2), if_pos (Or.inr c2), r_put _ _ _ (by rw [List.length_singleton] at hL; omega), fon_fok]
      · rw [if_neg c2, if_pos rfl]
        by_cases c3 : x % 8 = 7
        · rw [if_pos (Or.inl c3)] at hL
          rw [if_pos (k8.mpr c3), if_pos (Or.inl c3), if_pos (Or.inl c3), r_put _ _ _ (by rw [List.length_singleton] at hL; omega), fon_fok]
        · rw [if_neg (fun e => c3 (k8.mp e)), if_neg (by omega), if_neg (by omega), List.append_nil]
    rcases hp with e | e
    · rw [e, if_neg (by decide)]
      exact fin _ (by unfold cN; rw [if_pos e])
    · rw [e, if_pos rfl]
      exact fin _ (by unfold cN; rw [if_neg (by rw [e]; decide)])
  rw [if_neg c4] at hh ⊢
  have n4 : ¬ nI a = 4 := fun e => c4 ((nI_inj (b := 4) (by omega) (by omega)).mp e)
  rw [if_neg n4]
  simp only [List.length_append] at hh
  rw [show (255 : Int32) = nI 255 from rfl, r_dec _ _ (by omega) (by omega), fon_fok]
  dsimp only
  rw [r_put _ _ _ (by rw [List.length_append]; rw [List.length_singleton] at hh; omega), fon_fok]
  dsimp only
  rw [show ch 10 0 = 10 from by decide]
  rw [← List.append_assoc, ← List.append_assoc, Nat.mul_comm W, ← cat_rows]
  rw [Nat.mul_comm W, ← cat_rows] at hh
  have hB2 : (pnH a W H ++ dg 255 ++ [10]).length + (cat (fun y => cat (fun x => gS a (d (y * W + x))) W) H).length ≤ 65536 := by
    rw [List.length_append, List.length_append]; omega
  generalize pnH a W H ++ dg 255 ++ [10] = M at *
  refine pm_r hi4 hW hH hT b3 b4 (fun y x => gS a (d (y * W + x))) (fun _ _ => 0) (fun _ => rfl) ?_ hB2
  intro y x L k77 k93 hy hx hL
  have hi := idx_lt hx hy
  rw [← hd _ hi]
  unfold F_X11_writeMaps_132 F_X11_writeMaps_349
  rw [if_neg n1, if_neg n4, us_24, sh16_ch, sh8_ch, nI_1]
  have l1 := ch_lt (d (y * W + x)) 24; have l2 := ch_lt (d (y * W + x)) 16; have l3 := ch_lt (d (y * W + x)) 8
  try dsimp only at hL ⊢
  have s24 : ch (d (y * W + x) >>> ((24 : Int32) &&& 31)) 0 = ch (d (y * W + x)) 24 := by
    show (d (y * W + x) >>> ((24 : Int32) &&& 31)).toBitVec.toNat / 2 ^ 0 % 256 = _
    rw [Nat.pow_zero, Nat.div_one, shr_tn _ _ 24 (by decide) (by decide)]
  have s16 : ch (d (y * W + x) >>> ((16 : Int32) &&& 31)) 0 = ch (d (y * W + x)) 16 := by
    show (d (y * W + x) >>> ((16 : Int32) &&& 31)).toBitVec.toNat / 2 ^ 0 % 256 = _
    rw [Nat.pow_zero, Nat.div_one, shr_tn _ _ 16 (by decide) (by decide)]
  have s8 : ch (d (y * W + x) >>> ((8 : Int32) &&& 31)) 0 = ch (d (y * W + x)) 8 := by
    show (d (y * W + x) >>> ((8 : Int32) &&& 31)).toBitVec.toNat / 2 ^ 0 % 256 = _
    rw [Nat.pow_zero, Nat.div_one, shr_tn _ _ 8 (by decide) (by decide)]
  unfold gS at hL ⊢
  rcases (by omega : a = 2 ∨ a = 3 ∨ a = 5 ∨ a = 6) with rfl | rfl | rfl | rfl
  · rw [if_pos rfl] at hL
    rw [List.length_append, List.length_singleton] at hL
    rw [if_pos (c := nI 2 = 2) rfl, if_pos (c := 2 = 2) rfl, r_dec _ _ (by omega) (by omega), fon_fok]
    dsimp only
    rw [r_put _ _ _ (by rw [List.length_append]; omega), fon_fok, show ch 10 0 = 10 from by decide, List.append_assoc]
  · rw [if_neg (by decide), if_pos rfl] at hL
    simp only [List.length_append, List.length_singleton] at hL
    rw [if_neg (c := nI 3 = 2) (by decide), if_pos (c := nI 3 = 3) rfl, if_neg (c := 3 = 2) (by decide), if_pos (c := 3 = 3) rfl, r_dec _ _ (by omega) (by omega), fon_fok]
    dsimp only
    rw [r_put _ _ _ (by rw [List.length_append]; omega), fon_fok]
    dsimp only
    rw [r_dec _ _ (by omega) (by simp only [List.length_append, List.length_singleton]; omega), fon_fok]
    dsimp only
    rw [r_put _ _ _ (by simp only [List.length_append, List.length_singleton]; omega), fon_fok]
    dsimp only
    rw [r_dec _ _ (by omega) (by simp only [List.length_append, List.length_singleton]; omega), fon_fok]
    dsimp only
    rw [r_put _ _ _ (by simp only [List.length_append, List.length_singleton]; omega), fon_fok, show ch 10 0 = 10 from by decide, show ch 32 0 = 32 from by decide]
    simp only [List.append_assoc]
  · rw [if_neg (by decide), if_neg (by decide), if_pos rfl] at hL
    rw [List.length_singleton] at hL
    rw [if_neg (c := nI 5 = 2) (by decide), if_neg (c := nI 5 = 3) (by decide), if_neg (c := 5 = 2) (by decide), if_neg (c := 5 = 3) (by decide), if_pos (c := 5 = 5) rfl, r_put _ _ _ (by omega), fon_fok, if_neg (c := nI 5 = 6) (by decide), s24]
  · rw [if_neg (by decide), if_neg (by decide), if_neg (by decide)] at hL
    simp only [List.length_cons, List.length_nil] at hL
    rw [if_neg (c := nI 6 = 2) (by decide), if_neg (c := nI 6 = 3) (by decide), if_neg (c := 6 = 2) (by decide), if_neg (c := 6 = 3) (by decide), if_neg (c := 6 = 5) (by decide), r_put _ _ _ (by omega), fon_fok, if_pos (c := nI 6 = 6) rfl]
    dsimp only
    rw [r_put _ _ _ (by simp only [List.length_append, List.length_singleton]; omega), fon_fok]
    dsimp only
    rw [r_put _ _ _ (by simp only [List.length_append, List.length_singleton]; omega), fon_fok, s24, s16, s8, List.append_assoc, List.append_assoc]
    rfl
