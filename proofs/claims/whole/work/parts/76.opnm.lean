theorem rows_b (g : Nat → Nat → List Nat) {W H x y : Nat} (hx : x < W) (hy : y < H) : (cat (fun y => cat (g y) W) y).length + (cat (g y) x).length + (g y x).length ≤ (cat (fun y => cat (g y) W) H).length := by
  have h1 := cat_lt (fun y => cat (g y) W) hy
  have h2 := cat_lt (g y) hx
  omega
theorem rows_e (g : Nat → Nat → List Nat) (L : List Nat) (W y : Nat) : L ++ cat (fun y => cat (g y) W) y ++ cat (g y) W = L ++ cat (fun y => cat (g y) W) (y + 1) := by
  rw [cat_s, List.append_assoc]
theorem rows_x (g : Nat → Nat → List Nat) (L : List Nat) (W y x : Nat) : L ++ cat (fun y => cat (g y) W) y ++ cat (g y) x ++ g y x = L ++ cat (fun y => cat (g y) W) y ++ cat (g y) (x + 1) := by
  rw [cat_s, List.append_assoc]
theorem at_eq {i W H x y : Nat} {dd wi : A} (hi4 : i < 4) (hx : x < W) (hy : y < H) (hT : W * H ≤ 4096) (hw : wi i = nI W) : F_X11_at (nI i) (nI x) (nI y) dd wi = fok (dd (4096 * i + (y * W + x))) () := by
  have := idx_lt hx hy
  unfold F_X11_at
  rw [if_pos (inb_nI hi4 (by omega)), nI_clamp (by omega), hw, pk_mul, ix_dd, nI_add, if_pos (inb_nI (by rw [Nat.mul_comm W]; omega) (by omega)), nI_clamp (by rw [Nat.mul_comm W]; omega), Nat.mul_comm W, Nat.add_assoc]
def sgn (W : Nat) (d : A) (y x : Nat) : List Nat := (if d (y * W + x) = 255 then 49 else 48) :: (if (x + 1) % 70 = 0 ∨ x + 1 = W then [10] else [])
theorem sgn_len (W : Nat) (d : A) (y x : Nat) : (sgn W d y x).length = if (x + 1) % 70 = 0 ∨ x + 1 = W then 2 else 1 := by
  unfold sgn
  by_cases c : (x + 1) % 70 = 0 ∨ x + 1 = W
  · rw [if_pos c, if_pos c]; rfl
  · rw [if_neg c, if_neg c]; rfl
theorem c_sgn {x : Ras} {W H : Nat} {f : A} {L : List Nat} (b1 : x_w x = nI W) (b2 : x_g x = nI H) (hW : W ≤ 4096) (hH : H ≤ 4096) (hT : W * H ≤ 4096) (hB : L.length + (cat (fun y => cat (sgn W (x_p x) y) W) H).length ≤ 65536) :
    F_X5_writeSigns x (RwC f L) = fok () (RwC f (L ++ cat (fun y => cat (sgn W (x_p x) y) W) H)) := by
  unfold F_X5_writeSigns
  have q := lp_M (z := fun _ _ _ => fno) (f := F_X5_writeSigns_4 x) (fun m k4 => ∀ y, y + m = H → k4 (nI (y * W)) (nI y) (RwC f (L ++ cat (fun y => cat (sgn W (x_p x) y) W) y)) = fok () (RwC f (L ++ cat (fun y => cat (sgn W (x_p x) y) W) H))) ?_ H (by omega)
  · have r := q 0 (by omega)
    rw [Nat.zero_mul] at r
    rw [show cat (fun y => cat (sgn W (x_p x) y) W) 0 = [] from rfl, List.append_nil] at r
    exact r
  · intro m k4 ih y hy
    unfold F_X5_writeSigns_4
    rw [b2]
    by_cases c0 : m = 0
    · have : y = H := by omega
      subst this
      rw [if_pos (Int32.le_refl _)]
    rw [if_neg (nI_ge (by omega) (by omega))]
    have q2 := lp_M (z := fun _ _ _ _ => fno) (f := F_X5_writeSigns_15 x k4) (fun m2 k15 => ∀ u, u + m2 = W → k15 (nI (y * W + u)) (nI y) (nI (u + 1)) (RwC f (L ++ cat (fun y => cat (sgn W (x_p x) y) W) y ++ cat (sgn W (x_p x) y) u)) = fok () (RwC f (L ++ cat (fun y => cat (sgn W (x_p x) y) W) H))) ?_ W (by omega)
    · have r := q2 0 (by omega)
      rw [show cat (sgn W (x_p x) y) 0 = [] from rfl, List.append_nil] at r
      exact r
    · intro m2 k15 ih2 u hu
      unfold F_X5_writeSigns_15
      rw [b1]
      by_cases c1 : m2 = 0
      · have : u = W := by omega
        subst this
        rw [if_pos (nI_lt (by omega) (by omega)), rows_e, nI_1, ← yx_s]
        exact ih (m - 1) (by omega) (y + 1) (by omega)
      have hb := rows_b (sgn W (x_p x)) (show u < W by omega) (show y < H by omega)
      have hi := idx_lt (show u < W by omega) (show y < H by omega)
      have r := ih2 (m2 - 1) (by omega) (u + 1) (by omega)
      rw [← rows_x] at r
      rw [sgn_len] at hb
      rw [if_neg (nI_nlt (by omega) (by omega)), ut_get (by omega), fon_fok]
      unfold F_X5_writeSigns_43 F_X5_writeSigns_66 F_X5_writeSigns_72
      have e70 : nI (u + 1) - nI (u + 1) / 70 * 70 = nI ((u + 1) % 70) := by
        rw [show (70 : Int32) = nI 70 from rfl, pk_div (by omega) (by omega) (by omega), pk_mul, pk_sub (by omega)]
        congr 1; omega
      have k70 : nI ((u + 1) % 70) = 0 ↔ (u + 1) % 70 = 0 := nI_inj (b := 0) (by omega) (by omega)
      have kW : nI (u + 1) = nI W ↔ u + 1 = W := nI_inj (by omega) (by omega)
      rw [b1, e70]
      have fin : ∀ (t : Int32) (t2 : Nat), ch t 0 = t2 → (if x_p x (y * W + u) = 255 then 49 else 48) = t2 → fon (F_X1_add t (RwC f (L ++ cat (fun y => cat (sgn W (x_p x) y) W) y ++ cat (sgn W (x_p x) y) u))) (fun z43 s43 => if nI ((u + 1) % 70) = 0 then (fon (F_X1_add 10 s43) (fun z69 s69 => k15 (nI (y * W + u) + 1) (nI y) (nI (u + 1) + 1) s69) (fun _ _ => fno)) else (if nI (u + 1) = nI W then (fon (F_X1_add 10 s43) (fun z69 s69 => k15 (nI (y * W + u) + 1) (nI y) (nI (u + 1) + 1) s69) (fun _ _ => fno)) else (k15 (nI (y * W + u) + 1) (nI y) (nI (u + 1) + 1) s43))) (fun _ _ => fno) = fok () (RwC f (L ++ cat (fun y => cat (sgn W (x_p x) y) W) H)) := by
        intro t t2 h1 h2
        unfold sgn at r
        rw [h2] at r
        change k15 _ _ _ (RwC f (_ ++ cat (sgn W (x_p x) y) u ++ _)) = fok () (RwC f (L ++ cat (fun y => cat (sgn W (x_p x) y) W) H)) at r
        rw [c_add _ (by rw [List.length_append, List.length_append]; split at hb <;> omega), fon_fok, h1, nI_1, nI_1]
        by_cases c2 : (u + 1) % 70 = 0
        · rw [if_pos (Or.inl c2)] at r hb
          rw [if_pos (k70.mpr c2), c_add _ (by rw [List.length_append, List.length_append, List.length_append, List.length_singleton]; omega), fon_fok, List.append_assoc (_ ++ cat (sgn W (x_p x) y) u)]
          exact r
        · rw [if_neg (fun e => c2 (k70.mp e))]
          by_cases c3 : u + 1 = W
          · rw [if_pos (Or.inr c3)] at r hb
            rw [if_pos (kW.mpr c3), c_add _ (by rw [List.length_append, List.length_append, List.length_append, List.length_singleton]; omega), fon_fok, List.append_assoc (_ ++ cat (sgn W (x_p x) y) u)]
            exact r
          · rw [if_neg (by omega)] at r
            rw [if_neg (fun e => c3 (kW.mp e))]
            exact r
      by_cases c4 : x_p x (y * W + u) = 255
      · rw [if_pos c4]
        exact fin 49 49 (by decide) (by rw [if_pos c4])
      · rw [if_neg c4]
        exact fin 48 48 (by decide) (by rw [if_neg c4])
def cN (W : Nat) (d : A) (y x : Nat) (c : Int32) : Int32 := if d (y * W + x) = 255 then c ||| (128 >>> (nI (x % 8) &&& 31)) else c
def cB (W : Nat) (d : A) (y : Nat) : Nat → Int32
  | 0 => 0
  | x + 1 => if x % 8 = 7 ∨ x + 1 = W then 0 else cN W d y x (cB W d y x)
def gB (W : Nat) (d : A) (y x : Nat) : List Nat := if x % 8 = 7 ∨ x + 1 = W then [ch (cN W d y x (cB W d y x)) 0] else []
theorem c_bits {x : Ras} {W H : Nat} {f : A} {L : List Nat} (b1 : x_w x = nI W) (b2 : x_g x = nI H) (hW : W ≤ 4096) (hH : H ≤ 4096) (hT : W * H ≤ 4096) (hB : L.length + (cat (fun y => cat (gB W (x_p x) y) W) H).length ≤ 65536) :
    F_X5_writeBits x (RwC f L) = fok () (RwC f (L ++ cat (fun y => cat (gB W (x_p x) y) W) H)) := by
  unfold F_X5_writeBits
  have q := lp_M (z := fun _ _ _ => fno) (f := F_X5_writeBits_4 x) (fun m k4 => ∀ y, y + m = H → k4 (nI (y * W)) (nI y) (RwC f (L ++ cat (fun y => cat (gB W (x_p x) y) W) y)) = fok () (RwC f (L ++ cat (fun y => cat (gB W (x_p x) y) W) H))) ?_ H (by omega)
  · have r := q 0 (by omega)
    rw [Nat.zero_mul] at r
    rw [show cat (fun y => cat (gB W (x_p x) y) W) 0 = [] from rfl, List.append_nil] at r
    exact r
  · intro m k4 ih y hy
    unfold F_X5_writeBits_4
    rw [b2]
    by_cases c0 : m = 0
    · have : y = H := by omega
      subst this
      rw [if_pos (Int32.le_refl _)]
    rw [if_neg (nI_ge (by omega) (by omega))]
    have q2 := lp_M (z := fun _ _ _ _ _ => fno) (f := F_X5_writeBits_18 x k4) (fun m2 k18 => ∀ u, u + m2 = W → k18 (nI (y * W + u)) (nI y) (cB W (x_p x) y u) (nI u) (RwC f (L ++ cat (fun y => cat (gB W (x_p x) y) W) y ++ cat (gB W (x_p x) y) u)) = fok () (RwC f (L ++ cat (fun y => cat (gB W (x_p x) y) W) H))) ?_ W (by omega)
    · have r := q2 0 (by omega)
      rw [show cat (gB W (x_p x) y) 0 = [] from rfl, List.append_nil] at r
      exact r
    · intro m2 k18 ih2 u hu
      unfold F_X5_writeBits_18
      rw [b1]
      by_cases c1 : m2 = 0
      · have : u = W := by omega
        subst this
        rw [if_pos (Int32.le_refl _), rows_e, nI_1, ← yx_s]
        exact ih (m - 1) (by omega) (y + 1) (by omega)
      have hb := rows_b (gB W (x_p x)) (show u < W by omega) (show y < H by omega)
      have hi := idx_lt (show u < W by omega) (show y < H by omega)
      have r := ih2 (m2 - 1) (by omega) (u + 1) (by omega)
      rw [← rows_x] at r
      rw [if_neg (nI_ge (by omega) (by omega)), ut_get (by omega), fon_fok]
      have e7 : nI u &&& 7 = nI (u % 8) := pk_andN (by omega) 3 rfl
      have k7 : nI (u % 8) = 7 ↔ u % 8 = 7 := nI_inj (b := 7) (by omega) (by omega)
      have eW : nI W - 1 = nI (W - 1) := pk_sub (b := 1) (by omega)
      have kW : nI u = nI (W - 1) ↔ u + 1 = W := by rw [nI_inj (by omega) (by omega)]; omega
      have sel : ∀ (g : Int32 → Out Row Unit), (if x_p x (y * W + u) = 255 then g (cB W (x_p x) y u ||| (128 >>> (nI (u % 8) &&& 31))) else g (cB W (x_p x) y u)) = g (cN W (x_p x) y u (cB W (x_p x) y u)) := by
        intro g; unfold cN; split <;> rfl
      rw [e7, sel (fun t => F_X5_writeBits_52 x k4 k18 (nI (y * W + u)) (nI y) t (nI u) _)]
      unfold F_X5_writeBits_52 F_X5_writeBits_76 F_X5_writeBits_85
      rw [e7, b1, eW, nI_1, nI_1]
      unfold gB at hb
      have fin : (u % 8 = 7 ∨ u + 1 = W) → fon (F_X1_add (cN W (x_p x) y u (cB W (x_p x) y u)) (RwC f (L ++ cat (fun y => cat (gB W (x_p x) y) W) y ++ cat (gB W (x_p x) y) u))) (fun z79 s79 => k18 (nI (y * W + u + 1)) (nI y) 0 (nI (u + 1)) s79) (fun _ _ => fno) = fok () (RwC f (L ++ cat (fun y => cat (gB W (x_p x) y) W) H)) := by
        intro hc
        rw [if_pos hc] at hb
        rw [show cB W (x_p x) y (u + 1) = 0 from if_pos hc, show gB W (x_p x) y u = [ch (cN W (x_p x) y u (cB W (x_p x) y u)) 0] from if_pos hc] at r
        have hb2 : (cat (fun y => cat (gB W (x_p x) y) W) y).length + (cat (gB W (x_p x) y) u).length + 1 ≤ (cat (fun y => cat (gB W (x_p x) y) W) H).length := hb
        rw [c_add _ (by rw [List.length_append, List.length_append]; omega), fon_fok]
        exact r
      by_cases c2 : u % 8 = 7
      · rw [if_pos (k7.mpr c2)]; exact fin (Or.inl c2)
      · rw [if_neg (fun e => c2 (k7.mp e))]
        by_cases c3 : u + 1 = W
        · rw [if_pos (kW.mpr c3)]; exact fin (Or.inr c3)
        · rw [if_neg (fun e => c3 (kW.mp e))]
          have hc : ¬ (u % 8 = 7 ∨ u + 1 = W) := by omega
          rw [show cB W (x_p x) y (u + 1) = cN W (x_p x) y u (cB W (x_p x) y u) from if_neg hc, show gB W (x_p x) y u = [] from if_neg hc, List.append_nil] at r
          exact r
/-- a pixel's samples -/
def gS (a : Nat) (v : Int32) : List Nat := if a = 2 then dg (ch v 24) ++ [10] else if a = 3 then dg (ch v 24) ++ [32] ++ dg (ch v 16) ++ [32] ++ dg (ch v 8) ++ [10] else if a = 5 then [ch v 24] else [ch v 24, ch v 16, ch v 8]
theorem gS_le (a : Nat) (v : Int32) : (gS a v).length ≤ 15 := by
  have h1 := dg_le (ch v 24); have h2 := dg_le (ch v 16); have h3 := dg_le (ch v 8)
  unfold gS
  repeat' split
  all_goals simp only [List.length_append, List.length_cons, List.length_nil]
  all_goals omega
theorem dg_3 {n : Nat} (h : n < 256) : (dg n).length ≤ 3 := by
  rw [dg_len]; repeat' split
  all_goals omega
theorem gS_12 (a : Nat) (v : Int32) : (gS a v).length ≤ 12 := by
  have h1 := dg_3 (ch_lt v 24); have h2 := dg_3 (ch_lt v 16); have h3 := dg_3 (ch_lt v 8)
  unfold gS
  repeat' split
  all_goals simp only [List.length_append, List.length_cons, List.length_nil]
  all_goals omega
theorem c_samp {x : Ras} {W H a : Nat} {f : A} {L : List Nat} (ha : a = 2 ∨ a = 3 ∨ a = 5 ∨ a = 6) (b1 : x_w x = nI W) (b2 : x_g x = nI H) (hT : W * H ≤ 4096) (hB : L.length + (dg 255 ++ [10] ++ cat (fun p => gS a (x_p x p)) (W * H)).length ≤ 65536) :
    F_X5_writeSamples (nI a) x (RwC f L) = fok () (RwC f (L ++ (dg 255 ++ [10] ++ cat (fun p => gS a (x_p x p)) (W * H)))) := by
  rw [List.length_append, List.length_append] at hB
  unfold F_X5_writeSamples
  rw [show (255 : Int32) = nI 255 from rfl, c_dec (by omega) (by omega), fon_fok, c_add _ (by rw [List.length_append]; rw [List.length_singleton] at hB; omega), fon_fok, ut_count b1 b2, fon_fok, show ch 10 0 = 10 from by decide]
  rw [← List.append_assoc, ← List.append_assoc]
  have hB2 : (L ++ dg 255 ++ [10]).length + (cat (fun p => gS a (x_p x p)) (W * H)).length ≤ 65536 := by
    rw [List.length_append, List.length_append]; omega
  generalize L ++ dg 255 ++ [10] = M at *
  have q := lp_M (z := fun _ _ _ _ => fno) (f := F_X5_writeSamples_21 x) (fun m k => ∀ j, j + m = W * H → k (nI a) (nI (W * H)) (nI j) (RwC f (M ++ cat (fun p => gS a (x_p x p)) j)) = fok () (RwC f (M ++ cat (fun p => gS a (x_p x p)) (W * H)))) ?_ (W * H) (by omega)
  · have r := q 0 (by omega)
    rw [show cat (fun p => gS a (x_p x p)) 0 = [] from rfl, List.append_nil] at r
    exact r
  · intro m k ih j hj
    unfold F_X5_writeSamples_21
    by_cases c0 : m = 0
    · have : j = W * H := by omega
      subst this
      rw [if_pos (Int32.le_refl _)]
    have r := ih (m - 1) (by omega) (j + 1) (by omega)
    rw [cat_s, ← List.append_assoc] at r
    have hb := cat_lt (fun p => gS a (x_p x p)) (show j < W * H by omega)
    rw [if_neg (nI_ge (by omega) (by omega)), ut_get (by omega), fon_fok]
    unfold F_X5_writeSamples_72 F_X5_writeSamples_52 F_X5_writeSamples_76 F_X5_writeBytes F_X5_writeNumbers F_X5_writeNumbers_40
    rw [red_ch, green_ch, blue_ch, nI_1]
    have hM : (M ++ cat (fun p => gS a (x_p x p)) j).length + (gS a (x_p x j)).length ≤ 65536 := by
      rw [List.length_append]; omega
    generalize M ++ cat (fun p => gS a (x_p x p)) j = N at *
    have l1 := ch_lt (x_p x j) 24; have l2 := ch_lt (x_p x j) 16; have l3 := ch_lt (x_p x j) 8
    unfold gS at r hM
    generalize ch (x_p x j) 24 = r1 at *
    generalize ch (x_p x j) 16 = r2 at *
    generalize ch (x_p x j) 8 = r3 at *
    rcases ha with rfl | rfl | rfl | rfl
    · rw [if_pos rfl] at r hM
      rw [List.length_append, List.length_singleton] at hM
      rw [if_neg (c := 3 < nI 2) (by decide), if_neg (c := nI 2 = 3) (by decide), c_dec (by omega) (by omega), fon_fok, if_pos (c := (0 : Int32) = 0) rfl, c_add _ (by rw [List.length_append]; omega), fon_fok, fon_fok, show ch 10 0 = 10 from by decide, List.append_assoc]
      exact r
    · rw [if_neg (by decide), if_pos rfl] at r hM
      simp only [List.length_append, List.length_singleton] at hM
      rw [if_neg (c := 3 < nI 3) (by decide), if_pos (c := nI 3 = 3) rfl, c_dec (by omega) (by omega), fon_fok, if_neg (c := (1 : Int32) = 0) (by decide), c_add _ (by simp only [List.length_append]; omega), fon_fok, c_dec (by omega) (by simp only [List.length_append, List.length_singleton]; omega), fon_fok, c_add _ (by simp only [List.length_append, List.length_singleton]; omega), fon_fok, c_dec (by omega) (by simp only [List.length_append, List.length_singleton]; omega), fon_fok, c_add _ (by simp only [List.length_append, List.length_singleton]; omega), fon_fok, fon_fok, show ch 10 0 = 10 from by decide, show ch 32 0 = 32 from by decide]
      rw [show N ++ dg r1 ++ [32] ++ dg r2 ++ [32] ++ dg r3 ++ [10] = N ++ (dg r1 ++ [32] ++ dg r2 ++ [32] ++ dg r3 ++ [10]) from by simp only [List.append_assoc]]
      exact r
    · rw [if_neg (by decide), if_neg (by decide), if_pos rfl] at r hM
      rw [List.length_singleton] at hM
      rw [if_pos (c := 3 < nI 5) (by decide), if_neg (c := nI 5 = 6) (by decide), c_add _ (by omega), fon_fok, if_pos (c := (0 : Int32) = 0) rfl, fon_fok, ch_nI l1]
      exact r
    · rw [if_neg (by decide), if_neg (by decide), if_neg (by decide)] at r hM
      simp only [List.length_cons, List.length_nil] at hM
      rw [if_pos (c := 3 < nI 6) (by decide), if_pos (c := nI 6 = 6) rfl, c_add _ (by omega), fon_fok, if_neg (c := (1 : Int32) = 0) (by decide), c_add _ (by simp only [List.length_append, List.length_singleton]; omega), fon_fok, c_add _ (by simp only [List.length_append, List.length_singleton]; omega), fon_fok, fon_fok, ch_nI l1, ch_nI l2, ch_nI l3, List.append_assoc, List.append_assoc]
      exact r
