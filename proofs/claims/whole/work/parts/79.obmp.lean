def pad4 (n : Nat) : Nat := (4 - n % 4) % 4
theorem pad_c {W c : Nat} (h : W * c ≤ 16384) : (-(nI W) * nI c) &&& 3 = nI (pad4 (W * c)) := by
  rw [Int32.neg_mul, pk_mul, pk_and _ (m := 3) 2 rfl]
  congr 1
  rw [Int32.toBitVec_neg, BitVec.toNat_neg, pk_tn (by omega)]
  unfold pad4
  omega
/-- the length of a run so far -/
def rcn (W M : Nat) (d : A) : Nat → Nat
  | 0 => 0
  | x + 1 => if x + 1 = W ∨ d (x + 1) ≠ d x ∨ rcn W M d x + 1 = M then 0 else rcn W M d x + 1
def em (W M : Nat) (d : A) (x : Nat) : Prop := x + 1 = W ∨ d (x + 1) ≠ d x ∨ rcn W M d x + 1 = M
theorem rcn_e {W M : Nat} {d : A} {x : Nat} (h : em W M d x) : rcn W M d (x + 1) = 0 := if_pos h
theorem rcn_n {W M : Nat} {d : A} {x : Nat} (h : ¬ em W M d x) : rcn W M d (x + 1) = rcn W M d x + 1 := if_neg h
theorem rcn_lt {W M : Nat} {d : A} (hM : 1 ≤ M) : ∀ x, rcn W M d x < M
  | 0 => hM
  | x + 1 => by
    have := rcn_lt (W := W) (d := d) hM x
    show (if _ then 0 else _) < M
    by_cases c : x + 1 = W ∨ d (x + 1) ≠ d x ∨ rcn W M d x + 1 = M
    · rw [if_pos c]; omega
    · rw [if_neg c]; omega
theorem rcn_le {W M : Nat} {d : A} : ∀ x, rcn W M d x ≤ x
  | 0 => Nat.le_refl _
  | x + 1 => by
    have := rcn_le (W := W) (M := M) (d := d) x
    show (if _ then 0 else _) ≤ x + 1
    by_cases c : x + 1 = W ∨ d (x + 1) ≠ d x ∨ rcn W M d x + 1 = M
    · rw [if_pos c]; omega
    · rw [if_neg c]; omega
def gR (W M : Nat) (d : A) (v : Int32 → Nat) (x : Nat) : List Nat := if x + 1 = W ∨ d (x + 1) ≠ d x ∨ rcn W M d x + 1 = M then [rcn W M d x + 1, v (d x)] else []
def bmH (a n W H : Nat) : List Nat := [66, 77] ++ List.replicate 8 0 ++ le4 (nI (54 + 4 * n)) ++ le4 40 ++ le4 (nI W) ++ le4 (nI H) ++ le2 1 ++ le2 (if a = 7 then 24 else 8) ++ le4 (if a = 9 then 1 else 0) ++ le4 0 ++ le4 2835 ++ le4 2835 ++ le4 (nI n) ++ le4 0
theorem bmH_len (a n W H : Nat) : (bmH a n W H).length = 54 := by
  unfold bmH le4 le2
  simp only [List.length_append, List.length_cons, List.length_nil, List.length_replicate]
def bmT (l : List Int32) : List Nat := cat (fun j => bgr (l.getD j 0) ++ [0]) l.length
theorem bmT_len (l : List Int32) : (bmT l).length = l.length * 4 := cat_len _ 4 (fun _ _ => rfl)
def rowB (a W : Nat) (d : A) (l : List Int32) (y : Nat) : List Nat := if a = 7 then cat (fun x => bgr (d (y * W + x))) W ++ List.replicate (pad4 (W * 3)) 0 else if a = 8 then cat (fun x => [ixo l (d (y * W + x))]) W ++ List.replicate (pad4 (W * 1)) 0 else cat (gR W 255 (fun x => d (y * W + x)) (ixo l)) W ++ [0, if y = 0 then 1 else 0]
theorem c_brow7 {x : Ras} {W H y : Nat} {f : A} {L : List Nat} (b1 : x_w x = nI W) (hy : y < H) (hW : W ≤ 4096) (hT : W * H ≤ 4096) (pl : Pal) (hB : L.length + (rowB 7 W (x_p x) [] y).length ≤ 65536) (l : List Int32) :
    F_X0_writeRow (nI y) 0 x (RwC f L) pl = fok () (RwC f (L ++ rowB 7 W (x_p x) l y)) := by
  have hB : L.length + (cat (fun u => bgr (x_p x (y * W + u))) W ++ List.replicate (pad4 (W * 3)) 0).length ≤ 65536 := hB
  rw [List.length_append, List.length_replicate] at hB
  unfold F_X0_writeRow
  show _ = fok () (RwC f (L ++ (cat (fun u => bgr (x_p x (y * W + u))) W ++ List.replicate (pad4 (W * 3)) 0)))
  have q := lp_M (z := fun _ _ _ _ => fno) (f := F_X0_writeRow_3 x pl) (fun m k => ∀ u, u + m = W → k (nI y) 0 (nI u) (RwC f (L ++ cat (fun u => bgr (x_p x (y * W + u))) u)) = fok () (RwC f (L ++ (cat (fun u => bgr (x_p x (y * W + u))) W ++ List.replicate (pad4 (W * 3)) 0)))) ?_ W (by omega)
  · have r := q 0 (by omega)
    rw [show cat (fun u => bgr (x_p x (y * W + u))) 0 = [] from rfl, List.append_nil] at r
    exact r
  · intro m k ih u hu
    unfold F_X0_writeRow_3 F_X0_writeRow_77 F_X0_writeRow_55
    rw [b1]
    by_cases c0 : m = 0
    · have : u = W := by omega
      subst this
      rw [if_pos (Int32.le_refl _), if_pos (c := (0 : Int32) = 0) rfl, show (-nI u * 3) &&& 3 = nI (pad4 (u * 3)) from pad_c (c := 3) (by omega), c_zero (by unfold pad4; omega) (by rw [List.length_append]; omega), fon_fok, List.append_assoc]
    have hb := cat_lt (fun u => bgr (x_p x (y * W + u))) (show u < W by omega)
    have hb2 : (cat (fun u => bgr (x_p x (y * W + u))) u).length + 3 ≤ (cat (fun u => bgr (x_p x (y * W + u))) W).length := hb
    have hi := idx_lt (show u < W by omega) hy
    have r := ih (m - 1) (by omega) (u + 1) (by omega)
    rw [cat_s, ← List.append_assoc] at r
    rw [if_neg (nI_ge (by omega) (by omega)), pk_mul, nI_add, ut_get (by omega), fon_fok, if_pos (c := (0 : Int32) = 0) rfl, c_bgr _ (by rw [List.length_append]; omega), fon_fok, nI_1]
    exact r
theorem nb_eq {l : List Int32} {pl : Pal} (hP : PalI l pl) (hl : l.length ≤ 256) (hn : l.Nodup) {v : Int32} (hv : v ∈ l) : F_X3_numberOf v pl = fok (nI (ixo l v)) () := by
  obtain ⟨h1, h2⟩ := ixo_in hv
  have := ut_number hP (by omega) hn h1
  rw [h2] at this
  exact this
theorem c_brow8 {x : Ras} {W H y : Nat} {f : A} {L : List Nat} {l : List Int32} {pl : Pal} (hP : PalI l pl) (hl : l.length ≤ 256) (hn : l.Nodup) (hm : ∀ p, p < W * H → x_p x p ∈ l) (b1 : x_w x = nI W) (hy : y < H) (hW : W ≤ 4096) (hT : W * H ≤ 4096) (hB : L.length + (rowB 8 W (x_p x) l y).length ≤ 65536) :
    F_X0_writeRow (nI y) 1 x (RwC f L) pl = fok () (RwC f (L ++ rowB 8 W (x_p x) l y)) := by
  have hB : L.length + (cat (fun u => [ixo l (x_p x (y * W + u))]) W ++ List.replicate (pad4 (W * 1)) 0).length ≤ 65536 := hB
  rw [List.length_append, List.length_replicate] at hB
  unfold F_X0_writeRow
  show _ = fok () (RwC f (L ++ (cat (fun u => [ixo l (x_p x (y * W + u))]) W ++ List.replicate (pad4 (W * 1)) 0)))
  have q := lp_M (z := fun _ _ _ _ => fno) (f := F_X0_writeRow_3 x pl) (fun m k => ∀ u, u + m = W → k (nI y) 1 (nI u) (RwC f (L ++ cat (fun u => [ixo l (x_p x (y * W + u))]) u)) = fok () (RwC f (L ++ (cat (fun u => [ixo l (x_p x (y * W + u))]) W ++ List.replicate (pad4 (W * 1)) 0)))) ?_ W (by omega)
  · have r := q 0 (by omega)
    rw [show cat (fun u => [ixo l (x_p x (y * W + u))]) 0 = [] from rfl, List.append_nil] at r
    exact r
  · intro m k ih u hu
    unfold F_X0_writeRow_3 F_X0_writeRow_77 F_X0_writeRow_55
    rw [b1]
    by_cases c0 : m = 0
    · have : u = W := by omega
      subst this
      rw [if_pos (Int32.le_refl _), if_neg (c := (1 : Int32) = 0) (by decide), show (1 : Int32) = nI 1 from rfl, pad_c (by omega), c_zero (by unfold pad4; omega) (by rw [List.length_append]; omega), fon_fok, List.append_assoc]
    have hb := cat_lt (fun u => [ixo l (x_p x (y * W + u))]) (show u < W by omega)
    rw [List.length_singleton] at hb
    have hi := idx_lt (show u < W by omega) hy
    have hx := hm _ hi
    have r := ih (m - 1) (by omega) (u + 1) (by omega)
    rw [cat_s, ← List.append_assoc] at r
    rw [if_neg (nI_ge (by omega) (by omega)), pk_mul, nI_add, ut_get (by omega), fon_fok, if_neg (c := (1 : Int32) = 0) (by decide), nb_eq hP hl hn hx, fon_fok, c_add _ (by rw [List.length_append]; omega), fon_fok, nI_1, ch_nI (by have := (ixo_in hx).1; omega)]
    exact r
theorem c_brow9 {x : Ras} {W H y : Nat} {f : A} {L : List Nat} {l : List Int32} {pl : Pal} (hP : PalI l pl) (hl : l.length ≤ 256) (hn : l.Nodup) (hm : ∀ p, p < W * H → x_p x p ∈ l) (b1 : x_w x = nI W) (hy : y < H) (hW : W ≤ 4096) (hH : H ≤ 4096) (hT : W * H ≤ 4096) (hB : L.length + (rowB 9 W (x_p x) l y).length ≤ 65536) :
    F_X0_writeRuns (nI y) x (RwC f L) pl = fok () (RwC f (L ++ rowB 9 W (x_p x) l y)) := by
  have e9 : rowB 9 W (x_p x) l y = cat (gR W 255 (fun u => x_p x (y * W + u)) (ixo l)) W ++ [0, if y = 0 then 1 else 0] := rfl
  rw [e9] at hB ⊢
  rw [List.length_append, show [0, if y = 0 then 1 else 0].length = 2 from rfl] at hB
  unfold F_X0_writeRuns
  rw [b1, pk_mul]
  have q := lp_M (z := fun _ _ _ _ _ => fno) (f := F_X0_writeRuns_14 x pl) (fun m k => ∀ u, u + m = W → k (nI y) (nI (y * W)) (nI (rcn W 255 (fun u => x_p x (y * W + u)) u)) (nI u) (RwC f (L ++ cat (gR W 255 (fun u => x_p x (y * W + u)) (ixo l)) u)) = fok () (RwC f (L ++ (cat (gR W 255 (fun u => x_p x (y * W + u)) (ixo l)) W ++ [0, if y = 0 then 1 else 0])))) ?_ W (by omega)
  · have r := q 0 (by omega)
    rw [show cat (gR W 255 (fun u => x_p x (y * W + u)) (ixo l)) 0 = [] from rfl, List.append_nil] at r
    exact r
  · intro m k ih u hu
    unfold F_X0_writeRuns_14 F_X0_writeRuns_127
    rw [b1]
    by_cases c0 : m = 0
    · have : u = W := by omega
      subst this
      rw [if_pos (Int32.le_refl _), c_add _ (by rw [List.length_append]; omega), fon_fok, show ch 0 0 = 0 from by decide]
      by_cases cy : y = 0
      · rw [if_pos (c := nI y = 0) (by rw [cy]; rfl), if_pos cy, c_add _ (by rw [List.length_append, List.length_append, List.length_singleton]; omega), fon_fok, show ch 1 0 = 1 from by decide, List.append_assoc, List.append_assoc]
        rfl
      · rw [if_neg (c := nI y = 0) (nI_ne0 (by omega) (by omega)), if_neg cy, c_add _ (by rw [List.length_append, List.length_append, List.length_singleton]; omega), fon_fok, show ch 0 0 = 0 from by decide, List.append_assoc, List.append_assoc]
        rfl
    have hb := cat_lt (gR W 255 (fun u => x_p x (y * W + u)) (ixo l)) (show u < W by omega)
    have hi := idx_lt (show u < W by omega) hy
    have hx := hm _ hi
    have hlt := rcn_lt (W := W) (d := fun u => x_p x (y * W + u)) (show 1 ≤ 255 by omega) u
    have r := ih (m - 1) (by omega) (u + 1) (by omega)
    rw [cat_s, ← List.append_assoc] at r
    have rE : em W 255 (fun u => x_p x (y * W + u)) u → F_X0_writeRuns_84 x pl k (nI y) (nI (y * W)) (nI (rcn W 255 (fun u => x_p x (y * W + u)) u + 1)) (nI u) (x_p x (y * W + u)) (RwC f (L ++ cat (gR W 255 (fun u => x_p x (y * W + u)) (ixo l)) u)) = fok () (RwC f (L ++ (cat (gR W 255 (fun u => x_p x (y * W + u)) (ixo l)) W ++ [0, if y = 0 then 1 else 0]))) := by
      intro he
      rw [rcn_e he] at r
      have eg : gR W 255 (fun u => x_p x (y * W + u)) (ixo l) u = [rcn W 255 (fun u => x_p x (y * W + u)) u + 1, ixo l (x_p x (y * W + u))] := if_pos he
      rw [eg] at r hb
      have hb2 : (cat (gR W 255 (fun u => x_p x (y * W + u)) (ixo l)) u).length + 2 ≤ (cat (gR W 255 (fun u => x_p x (y * W + u)) (ixo l)) W).length := hb
      unfold F_X0_writeRuns_84 F_X0_writeRuns_106
      rw [c_add _ (by rw [List.length_append]; omega), fon_fok, nb_eq hP hl hn hx, fon_fok, c_add _ (by rw [List.length_append, List.length_append, List.length_singleton]; omega), fon_fok, nI_1, ch_nI (by omega), ch_nI (by have := (ixo_in hx).1; omega), List.append_assoc]
      exact r
    have rN : ¬ em W 255 (fun u => x_p x (y * W + u)) u → F_X0_writeRuns_106 x pl k (nI y) (nI (y * W)) (nI (rcn W 255 (fun u => x_p x (y * W + u)) u + 1)) (nI u) (RwC f (L ++ cat (gR W 255 (fun u => x_p x (y * W + u)) (ixo l)) u)) = fok () (RwC f (L ++ (cat (gR W 255 (fun u => x_p x (y * W + u)) (ixo l)) W ++ [0, if y = 0 then 1 else 0]))) := by
      intro he
      rw [rcn_n he] at r
      have eg : gR W 255 (fun u => x_p x (y * W + u)) (ixo l) u = [] := if_neg he
      rw [eg, List.append_nil] at r
      unfold F_X0_writeRuns_106
      rw [nI_1]
      exact r
    rw [if_neg (nI_ge (by omega) (by omega)), nI_add, ut_get (by omega), fon_fok, show nI W - 1 = nI (W - 1) from pk_sub (b := 1) (by omega), nI_1]
    unfold F_X0_writeRuns_64 F_X0_writeRuns_69
    rw [if_neg (c := (1 : Int32) = 0) (by decide), if_pos (c := (0 : Int32) = 0) rfl]
    by_cases c1 : u + 1 = W
    · rw [if_pos (by rw [← c1]; rfl)]
      exact rE (Or.inl c1)
    rw [if_neg (fun e => c1 (by have := (nI_inj (by omega) (by omega)).mp e; omega)), nI_1, ut_get (by have := idx_lt (show u + 1 < W by omega) hy; omega), fon_fok]
    by_cases c2 : x_p x (y * W + u + 1) = x_p x (y * W + u)
    · rw [if_pos c2]
      by_cases c3 : rcn W 255 (fun u => x_p x (y * W + u)) u + 1 = 255
      · rw [if_pos (by rw [c3]; rfl)]
        exact rE (Or.inr (Or.inr c3))
      · rw [if_neg (c := nI (rcn W 255 (fun u => x_p x (y * W + u)) u + 1) = 255) (fun e => c3 ((nI_inj (b := 255) (by omega) (by omega)).mp e))]
        refine rN (fun he => ?_)
        rcases he with e | e | e
        · exact c1 e
        · exact e (by show x_p x (y * W + (u + 1)) = _; rw [← Nat.add_assoc]; exact c2)
        · exact c3 e
    · rw [if_neg c2]
      exact rE (Or.inr (Or.inl (by show x_p x (y * W + (u + 1)) ≠ _; rw [← Nat.add_assoc]; exact c2)))
theorem rowB_le {a W : Nat} (d : A) (l : List Int32) (y : Nat) : (rowB a W d l y).length ≤ W * 3 + 3 := by
  unfold rowB
  have hp : pad4 (W * 3) ≤ 3 := by unfold pad4; omega
  have hp1 : pad4 (W * 1) ≤ 3 := by unfold pad4; omega
  by_cases c7 : a = 7
  · rw [if_pos c7, List.length_append, List.length_replicate, cat_len _ 3 (fun _ _ => rfl)]; omega
  rw [if_neg c7]
  by_cases c8 : a = 8
  · rw [if_pos c8, List.length_append, List.length_replicate, cat_len _ 1 (fun _ _ => rfl)]; omega
  rw [if_neg c8, List.length_append]
  have h := cat_max (gR W 255 (fun x => d (y * W + x)) (ixo l)) 2 (n := W) (fun j _ => by unfold gR; split <;> simp)
  show _ + 2 ≤ _
  omega
def bmR (a W H : Nat) (d : A) (l : List Int32) : List Nat := cat (fun k => rowB a W d l (H - 1 - k)) H
theorem bmR_le {a W H : Nat} (d : A) (l : List Int32) (hH : H ≤ 4096) (hT : W * H ≤ 4096) : (bmR a W H d l).length ≤ 24576 := by
  have h := cat_max (fun k => rowB a W d l (H - 1 - k)) (W * 3 + 3) (n := H) (fun j _ => rowB_le d l _)
  have e : H * (W * 3 + 3) = (W * H) * 3 + H * 3 := by rw [Nat.mul_add, ← Nat.mul_assoc, Nat.mul_comm H W]
  rw [e] at h
  unfold bmR
  omega
def bmM (a n W H : Nat) (d : A) (l : List Int32) : List Nat := bmH a n W H ++ bmT l ++ bmR a W H d l
def bmL (a n W H : Nat) (d : A) (l : List Int32) : List Nat := set4 (set4 (bmM a n W H d l) 2 (nI (bmM a n W H d l).length)) 34 (nI ((bmM a n W H d l).length - 54 - 4 * n))
theorem c_bmH {x : Ras} {a n W H : Nat} {f : A} (ha : a = 7 ∨ a = 8 ∨ a = 9) (b1 : x_w x = nI W) (b2 : x_g x = nI H) : F_X0_writeHeader (nI a) (nI n) x (RwC f []) = fok () (RwC f (bmH a n W H)) := by
  unfold F_X0_writeHeader F_X0_writeHeader_69 F_X0_writeHeader_84
  rw [b1, b2, show (54 : Int32) + 4 * nI n = nI (54 + 4 * n) from by rw [show (4 : Int32) = nI 4 from rfl, pk_mul]; exact nI_add 54 _]
  rw [c_add _ (by decide), fon_fok, c_add _ (by simp), fon_fok, show (8 : Int32) = nI 8 from rfl, c_zero (by omega) (by simp), fon_fok, c_low4 _ (by simp), fon_fok, c_low4 _ (by simp [le4]), fon_fok, c_low4 _ (by simp [le4]), fon_fok, c_low4 _ (by simp [le4]), fon_fok, c_low2 _ (by simp [le4]), fon_fok]
  have fin : ∀ (t u : Int32), t = (if a = 7 then 24 else 8) → u = (if a = 9 then 1 else 0) → fon (F_X1_addLow2 t (RwC f ([] ++ [ch 66 0] ++ [ch 77 0] ++ List.replicate 8 0 ++ le4 (nI (54 + 4 * n)) ++ le4 40 ++ le4 (nI W) ++ le4 (nI H) ++ le2 1))) (fun z69 s69 => fon (F_X1_addLow4 u s69) (fun z84 s84 => fon (F_X1_addLow4 0 s84) (fun z89 s89 => fon (F_X1_addLow4 2835 s89) (fun z96 s96 => fon (F_X1_addLow4 2835 s96) (fun z103 s103 => fon (F_X1_addLow4 (nI n) s103) (fun z108 s108 => fon (F_X1_addLow4 0 s108) (fun z113 s113 => fok () s113) (fun _ _ => fno)) (fun _ _ => fno)) (fun _ _ => fno)) (fun _ _ => fno)) (fun _ _ => fno)) (fun _ _ => fno)) (fun _ _ => fno) = fok () (RwC f (bmH a n W H)) := by
    intro t u ht hu
    rw [c_low2 _ (by simp [le4, le2]), fon_fok, c_low4 _ (by simp [le4, le2]), fon_fok, c_low4 _ (by simp [le4, le2]), fon_fok, c_low4 _ (by simp [le4, le2]), fon_fok, c_low4 _ (by simp [le4, le2]), fon_fok, c_low4 _ (by simp [le4, le2]), fon_fok, c_low4 _ (by simp [le4, le2]), fon_fok, ht, hu]
    rfl
  rcases ha with rfl | rfl | rfl
  · rw [if_pos (c := nI 7 = 7) rfl]
    exact fin 24 0 rfl rfl
  · rw [if_neg (c := nI 8 = 7) (by decide)]
    exact fin (nI 8) 0 rfl rfl
  · rw [if_neg (c := nI 9 = 7) (by decide)]
    exact fin (nI 8) 1 rfl rfl
