theorem dn_s {H k : Nat} (h : k < H) : nI (H - 1 - k) + -1 = if k + 1 < H then nI (H - 1 - (k + 1)) else -1 := by
  by_cases c : k + 1 < H
  · rw [if_pos c, show H - 1 - k = H - 1 - (k + 1) + 1 from by omega]
    generalize H - 1 - (k + 1) = j
    rw [← nI_1, Int32.add_assoc, show (1 : Int32) + -1 = 0 from by decide, Int32.add_zero]
  · rw [if_neg c, show H - 1 - k = 0 from by omega]; decide
theorem bmM_len {a n W H : Nat} (d : A) (l : List Int32) : (bmM a n W H d l).length = 54 + l.length * 4 + (bmR a W H d l).length := by
  unfold bmM
  rw [List.length_append, List.length_append, bmH_len, bmT_len]
theorem c_bmp88 {x : Ras} {W H a n : Nat} {f : A} {l : List Int32} {pl : Pal} {t0 : Int32} (hn4 : n = l.length) (hl : l.length ≤ 256) (hrow : ∀ (y : Nat) (L : List Nat), y < H → L.length + (rowB a W (x_p x) l y).length ≤ 65536 → (if nI a = 9 then F_X0_writeRuns (nI y) x (RwC f L) pl else F_X0_writeRow (nI y) t0 x (RwC f L) pl) = fok () (RwC f (L ++ rowB a W (x_p x) l y))) (b1 : x_w x = nI W) (b2 : x_g x = nI H) (hH1 : 1 ≤ H) (hH : H ≤ 4096) (hT : W * H ≤ 4096) :
    lp (fun _ _ _ _ _ _ => fno) (F_X0_encode_88 x) FU (nI a) t0 (nI n) (nI (H - 1)) (RwC f (bmH a n W H ++ bmT l)) pl = fok () (RwC f (bmL a n W H (x_p x) l), pl) := by
  have hR := bmR_le (a := a) (x_p x) l hH hT
  have hM := bmM_len (a := a) (n := n) (W := W) (H := H) (x_p x) l
  have q := lp_M (z := fun _ _ _ _ _ _ => fno) (f := F_X0_encode_88 x) (fun m k => ∀ (j : Nat) (v : Int32), j + m = H → v = (if j < H then nI (H - 1 - j) else -1) → k (nI a) t0 (nI n) v (RwC f (bmH a n W H ++ bmT l ++ cat (fun k => rowB a W (x_p x) l (H - 1 - k)) j)) pl = fok () (RwC f (bmL a n W H (x_p x) l), pl)) ?_ H (by omega)
  · have r := q 0 (nI (H - 1)) (by omega) (by rw [if_pos (by omega), Nat.sub_zero])
    rw [show cat (fun k => rowB a W (x_p x) l (H - 1 - k)) 0 = [] from rfl, List.append_nil] at r
    exact r
  · intro m k ih j v hj hv
    unfold F_X0_encode_88 F_X0_encode_120
    by_cases c0 : m = 0
    · have : j = H := by omega
      subst this
      rw [if_neg (by omega)] at hv
      rw [hv, if_pos (by decide), show bmH a n W j ++ bmT l ++ cat (fun k => rowB a W (x_p x) l (j - 1 - k)) j = bmM a n W j (x_p x) l from rfl]
      dsimp only [y_n]
      rw [show F_X1_setLow4 2 (nI (bmM a n W j (x_p x) l).length) (RwC f (bmM a n W j (x_p x) l)) = _ from c_set4 (p := 2) _ (by omega) (by omega), fon_fok]
      dsimp only [y_n]
      rw [set4_len, show (nI (bmM a n W j (x_p x) l).length - 54) - 4 * nI n = nI ((bmM a n W j (x_p x) l).length - 54 - 4 * n) from by
        rw [show (4 : Int32) = nI 4 from rfl, pk_mul, show (54 : Int32) = nI 54 from rfl, pk_sub (by omega), pk_sub (by omega)]]
      rw [show F_X1_setLow4 34 (nI ((bmM a n W j (x_p x) l).length - 54 - 4 * n)) (RwC f (set4 (bmM a n W j (x_p x) l) 2 (nI (bmM a n W j (x_p x) l).length))) = _ from c_set4 (p := 34) _ (by rw [set4_len]; omega) (by rw [set4_len]; omega), fon_fok]
      rfl
    rw [if_pos (by omega)] at hv
    rw [hv, if_neg (nI_pos (by omega))]
    have hb := cat_lt (fun k => rowB a W (x_p x) l (H - 1 - k)) (show j < H by omega)
    have hb2 : (cat (fun k => rowB a W (x_p x) l (H - 1 - k)) j).length + (rowB a W (x_p x) l (H - 1 - j)).length ≤ (bmR a W H (x_p x) l).length := hb
    have s := hrow (H - 1 - j) (bmH a n W H ++ bmT l ++ cat (fun k => rowB a W (x_p x) l (H - 1 - k)) j) (by omega) (by
      rw [List.length_append, List.length_append, bmH_len, bmT_len]; omega)
    have r := ih (m - 1) (by omega) (j + 1) (nI (H - 1 - j) + -1) (by omega) (dn_s (by omega))
    rw [cat_s, ← List.append_assoc] at r
    by_cases c9 : nI a = 9
    · rw [if_pos c9] at s
      rw [if_pos c9, s, fon_fok]
      exact r
    · rw [if_neg c9] at s
      rw [if_neg c9, s, fon_fok]
      exact r
theorem c_bmp {x : Ras} {W H a : Nat} {f : A} (ha : a = 7 ∨ a = 8 ∨ a = 9) (b1 : x_w x = nI W) (b2 : x_g x = nI H) (hW : W ≤ 4096) (hH : H ≤ 4096) (hH1 : 1 ≤ H) (hT : W * H ≤ 4096) (pl : Pal) (hl : a = 8 ∨ a = 9 → (dl (x_p x) (W * H)).length ≤ 256) :
    ∃ pl2, F_X0_encode (nI a) x (RwC f []) pl = fok () (RwC f (if a = 7 then bmL a 0 W H (x_p x) [] else bmL a (dl (x_p x) (W * H)).length W H (x_p x) (dl (x_p x) (W * H))), pl2) := by
  unfold F_X0_encode F_X0_encode_11 F_X0_encode_38
  rcases ha with rfl | ha
  · rw [if_pos (c := nI 7 = 7) rfl, if_pos (c := (0 : Int32) = 0) rfl, show (0 : Int32) = nI 0 from rfl, c_bmH (Or.inl rfl) b1 b2, fon_fok, if_pos rfl]
    refine ⟨pl, ?_⟩
    rw [show FU = 99999 + 1 from rfl, lp_s]
    unfold F_X0_encode_49
    rw [if_pos (Int32.le_refl _), b2, show nI H - 1 = nI (H - 1) from pk_sub (b := 1) (by omega)]
    have r := c_bmp88 (x := x) (a := 7) (n := 0) (f := f) (l := []) (pl := pl) (t0 := nI 0) rfl (by simp) (fun y L hy hL => by
      rw [if_neg (c := nI 7 = 9) (by decide)]
      exact c_brow7 b1 hy hW hT pl hL []) b1 b2 hH1 hH hT
    rw [show bmH 7 0 W H ++ bmT [] = bmH 7 0 W H from List.append_nil _] at r
    exact r
  · have h8 := hl ha
    have ha2 : a = 7 ∨ a = 8 ∨ a = 9 := Or.inr ha
    obtain ⟨pl2, e, hP⟩ := ut_gather b1 b2 hT pl
    have hnd := dl_nd (x_p x) (W * H)
    have hmem : ∀ p, p < W * H → x_p x p ∈ dl (x_p x) (W * H) := fun p hp => (dl_mem (x_p x) _).mpr ⟨p, hp, rfl⟩
    generalize hdl : dl (x_p x) (W * H) = l at *
    rw [if_neg (c := nI a = 7) (fun e => by have := (nI_inj (b := 7) (by omega) (by omega)).mp e; omega), if_neg (c := (1 : Int32) = 0) (by decide), e, fon_fok, hP.1, c_bmH ha2 b1 b2, fon_fok, if_neg (show ¬ a = 7 by omega)]
    refine ⟨pl2, ?_⟩
    have q := lp_M (z := fun _ _ _ _ _ _ => fno) (f := F_X0_encode_49 x) (fun m k => ∀ j, j + m = l.length → k (nI a) 1 (nI l.length) (nI j) (RwC f (bmH a l.length W H ++ cat (fun j => bgr (l.getD j 0) ++ [0]) j)) pl2 = fok () (RwC f (bmL a l.length W H (x_p x) l), pl2)) ?_ l.length (by omega)
    · have r := q 0 (by omega)
      rw [show cat (fun j => bgr (l.getD j 0) ++ [0]) 0 = [] from rfl, List.append_nil] at r
      exact r
    · intro m k ih j hj
      unfold F_X0_encode_49
      by_cases c0 : m = 0
      · have : j = l.length := by omega
        subst this
        rw [if_pos (Int32.le_refl _), b2, show nI H - 1 = nI (H - 1) from pk_sub (b := 1) (by omega)]
        exact c_bmp88 (x := x) (l := l) (pl := pl2) (t0 := 1) rfl h8 (fun y L hy hL => by
          rcases ha with rfl | rfl
          · rw [if_neg (c := nI 8 = 9) (by decide)]
            exact c_brow8 hP h8 hnd hmem b1 hy hW hT hL
          · rw [if_pos (c := nI 9 = 9) rfl]
            exact c_brow9 hP h8 hnd hmem b1 hy hW hH hT hL) b1 b2 hH1 hH hT
      have hb := cat_lt (fun j => bgr (l.getD j 0) ++ [0]) (show j < l.length by omega)
      have hT2 := bmT_len l
      have hb2 : (cat (fun j => bgr (l.getD j 0) ++ [0]) j).length + 4 ≤ (bmT l).length := hb
      have r := ih (m - 1) (by omega) (j + 1) (by omega)
      rw [cat_s, ← List.append_assoc] at r
      rw [if_neg (nI_ge (by omega) (by omega)), ut_palget hP (by omega) (by omega), fon_fok, c_bgr _ (by rw [List.length_append, bmH_len]; omega), fon_fok, c_add _ (by rw [List.length_append, List.length_append, bmH_len]; show _ + 3 < _; omega), fon_fok, nI_1, show ch 0 0 = 0 from by decide, List.append_assoc (_ ++ _)]
      exact r
