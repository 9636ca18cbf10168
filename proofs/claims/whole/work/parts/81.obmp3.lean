theorem rowB_4 {a W : Nat} (ha : a = 7 ∨ a = 8) (d : A) (l : List Int32) (y : Nat) : (rowB a W d l y).length % 4 = 0 := by
  unfold rowB
  rcases ha with rfl | rfl
  · rw [if_pos rfl, List.length_append, List.length_replicate, cat_len _ 3 (fun _ _ => rfl)]; unfold pad4; omega
  · rw [if_neg (by decide), if_pos rfl, List.length_append, List.length_replicate, cat_len _ 1 (fun _ _ => rfl)]; unfold pad4; omega
theorem rows_4 {a W H : Nat} (ha : a = 7 ∨ a = 8) (d : A) (l : List Int32) : ∀ j, (cat (fun k => rowB a W d l (H - 1 - k)) j).length % 4 = 0
  | 0 => rfl
  | j + 1 => by
    have h1 := rows_4 (H := H) ha d l (W := W) j
    have h2 := rowB_4 ha d l (W := W) (H - 1 - j)
    rw [cat_s, List.length_append]; omega
theorem r_pad {i st y p : Nat} {a : Int32} {f dd wi hi co : A} {h cm : Int32} {L : List Nat} (k204 : Int32 → Int32 → Int32 → Int32 → MW → A → A → Out (MW × A × A) Unit) (hs : st ≤ L.length) (hL : L.length + p ≤ 65536) (hp : p = pad4 (L.length - st)) :
    lp (fun _ _ _ _ _ _ _ => fno) (F_X11_writeRows_358 dd wi hi k204) FU (nI i) a (nI st) (nI y) (MwL h cm L) (ap f L) co = k204 (nI i) a (nI st) (nI y + -1) (MwL h cm (L ++ List.replicate p 0)) (ap f (L ++ List.replicate p 0)) co := by
  have hp3 : p ≤ 3 := by rw [hp]; unfold pad4; omega
  have q := lp_M (z := fun _ _ _ _ _ _ _ => fno) (f := F_X11_writeRows_358 dd wi hi k204) (fun m k => ∀ j, j + m = p → k (nI i) a (nI st) (nI y) (MwL h cm (L ++ List.replicate j 0)) (ap f (L ++ List.replicate j 0)) co = k204 (nI i) a (nI st) (nI y + -1) (MwL h cm (L ++ List.replicate p 0)) (ap f (L ++ List.replicate p 0)) co) ?_ p (by omega)
  · have r := q 0 (by omega)
    rw [List.replicate_zero, List.append_nil] at r
    exact r
  · intro m k ih j hj
    unfold F_X11_writeRows_358 F_X11_writeRows_378
    dsimp only [mw_om]
    have e : (nI (L ++ List.replicate j 0).length - nI st) - (nI (L ++ List.replicate j 0).length - nI st) / 4 * 4 = nI ((L.length + j - st) % 4) := by
      rw [List.length_append, List.length_replicate, pk_sub (by omega), show (4 : Int32) = nI 4 from rfl, pk_div (by omega) (by omega) (by omega), pk_mul, pk_sub (by omega)]
      congr 1; omega
    rw [e]
    unfold pad4 at hp
    by_cases c0 : m = 0
    · have : j = p := by omega
      subst this
      rw [if_pos (by rw [show (L.length + j - st) % 4 = 0 from by omega]; rfl)]
    · rw [if_neg (nI_ne0 (by omega) (by omega)), r_put _ _ _ (by rw [List.length_append, List.length_replicate]; omega), fon_fok, show ch 0 0 = 0 from by decide]
      have r := ih (m - 1) (by omega) (j + 1) (by omega)
      rw [List.replicate_succ', ← List.append_assoc] at r
      exact r
theorem r_brow7 {i W H st y : Nat} {f d dd wi hi co : A} {h cm : Int32} {L : List Nat} {l : List Int32} (hi4 : i < 4) (hW : W ≤ 4096) (hT : W * H ≤ 4096) (hy : y < H) (b3 : wi i = nI W) (hd : ∀ p, p < W * H → d p = dd (4096 * i + p)) (k204 : Int32 → Int32 → Int32 → Int32 → MW → A → A → Out (MW × A × A) Unit) (hs : st ≤ L.length) (h4 : (L.length - st) % 4 = 0) (hB : L.length + (rowB 7 W d l y).length ≤ 65536) :
    lp (fun _ _ _ _ _ _ _ _ => fno) (F_X11_writeRows_212 dd wi hi k204) FU (nI i) (nI 7) (nI st) (nI y) 0 (MwL h cm L) (ap f L) co = k204 (nI i) (nI 7) (nI st) (nI y + -1) (MwL h cm (L ++ rowB 7 W d l y)) (ap f (L ++ rowB 7 W d l y)) co := by
  have e7 : rowB 7 W d l y = cat (fun u => bgr (d (y * W + u))) W ++ List.replicate (pad4 (W * 3)) 0 := rfl
  rw [e7] at hB ⊢
  rw [List.length_append, List.length_replicate] at hB
  have hlen : ∀ j, (cat (fun u => bgr (d (y * W + u))) j).length = j * 3 := fun j => cat_len _ 3 (fun _ _ => rfl)
  have q := lp_M (z := fun _ _ _ _ _ _ _ _ => fno) (f := F_X11_writeRows_212 dd wi hi k204) (fun m k => ∀ u, u + m = W → k (nI i) (nI 7) (nI st) (nI y) (nI u) (MwL h cm (L ++ cat (fun u => bgr (d (y * W + u))) u)) (ap f (L ++ cat (fun u => bgr (d (y * W + u))) u)) co = k204 (nI i) (nI 7) (nI st) (nI y + -1) (MwL h cm (L ++ (cat (fun u => bgr (d (y * W + u))) W ++ List.replicate (pad4 (W * 3)) 0))) (ap f (L ++ (cat (fun u => bgr (d (y * W + u))) W ++ List.replicate (pad4 (W * 3)) 0))) co) ?_ W (by omega)
  · have r := q 0 (by omega)
    rw [show cat (fun u => bgr (d (y * W + u))) 0 = [] from rfl, List.append_nil] at r
    exact r
  · intro m k ih u hu
    unfold F_X11_writeRows_212 F_X11_writeRows_294 F_X11_writeRows_320
    rw [if_pos (inb_nI hi4 (by omega)), nI_clamp (by omega), b3]
    by_cases c0 : m = 0
    · have : u = W := by omega
      subst this
      rw [if_pos (Int32.le_refl _), if_neg (c := nI 7 = 9) (by decide), r_pad k204 (p := pad4 (u * 3)) (by rw [List.length_append]; omega) (by rw [List.length_append]; omega) (by rw [List.length_append, hlen]; unfold pad4; omega), List.append_assoc]
    have hi := idx_lt (show u < W by omega) hy
    have h1 := hlen u; have h2 := hlen W
    have r := ih (m - 1) (by omega) (u + 1) (by omega)
    rw [cat_s, ← List.append_assoc] at r
    rw [if_neg (nI_ge (by omega) (by omega)), at_eq hi4 (show u < W by omega) hy hT b3, fon_fok, if_neg (c := nI 7 = 9) (by decide), if_pos (c := nI 7 = 7) rfl, ← hd _ hi, r_bgr _ _ _ (by rw [List.length_append]; omega), fon_fok, nI_1]
    exact r
theorem r_brow8 {i W H st y : Nat} {f d dd wi hi co : A} {h : Int32} {L : List Nat} {l : List Int32} (hl : l.length ≤ 256) (hc : inA l co) (hm : ∀ p, p < W * H → d p ∈ l) (hi4 : i < 4) (hW : W ≤ 4096) (hT : W * H ≤ 4096) (hy : y < H) (b3 : wi i = nI W) (hd : ∀ p, p < W * H → d p = dd (4096 * i + p)) (k204 : Int32 → Int32 → Int32 → Int32 → MW → A → A → Out (MW × A × A) Unit) (hs : st ≤ L.length) (h4 : (L.length - st) % 4 = 0) (hB : L.length + (rowB 8 W d l y).length ≤ 65536) :
    lp (fun _ _ _ _ _ _ _ _ => fno) (F_X11_writeRows_212 dd wi hi k204) FU (nI i) (nI 8) (nI st) (nI y) 0 (MwL h (nI l.length) L) (ap f L) co = k204 (nI i) (nI 8) (nI st) (nI y + -1) (MwL h (nI l.length) (L ++ rowB 8 W d l y)) (ap f (L ++ rowB 8 W d l y)) co := by
  have e7 : rowB 8 W d l y = cat (fun u => [ixo l (d (y * W + u))]) W ++ List.replicate (pad4 (W * 1)) 0 := rfl
  rw [e7] at hB ⊢
  rw [List.length_append, List.length_replicate] at hB
  have hlen : ∀ j, (cat (fun u => [ixo l (d (y * W + u))]) j).length = j * 1 := fun j => cat_len _ 1 (fun _ _ => rfl)
  have q := lp_M (z := fun _ _ _ _ _ _ _ _ => fno) (f := F_X11_writeRows_212 dd wi hi k204) (fun m k => ∀ u, u + m = W → k (nI i) (nI 8) (nI st) (nI y) (nI u) (MwL h (nI l.length) (L ++ cat (fun u => [ixo l (d (y * W + u))]) u)) (ap f (L ++ cat (fun u => [ixo l (d (y * W + u))]) u)) co = k204 (nI i) (nI 8) (nI st) (nI y + -1) (MwL h (nI l.length) (L ++ (cat (fun u => [ixo l (d (y * W + u))]) W ++ List.replicate (pad4 (W * 1)) 0))) (ap f (L ++ (cat (fun u => [ixo l (d (y * W + u))]) W ++ List.replicate (pad4 (W * 1)) 0))) co) ?_ W (by omega)
  · have r := q 0 (by omega)
    rw [show cat (fun u => [ixo l (d (y * W + u))]) 0 = [] from rfl, List.append_nil] at r
    exact r
  · intro m k ih u hu
    unfold F_X11_writeRows_212 F_X11_writeRows_294 F_X11_writeRows_320
    rw [if_pos (inb_nI hi4 (by omega)), nI_clamp (by omega), b3]
    by_cases c0 : m = 0
    · have : u = W := by omega
      subst this
      rw [if_pos (Int32.le_refl _), if_neg (c := nI 8 = 9) (by decide), r_pad k204 (p := pad4 (u * 1)) (by rw [List.length_append]; omega) (by rw [List.length_append]; omega) (by rw [List.length_append, hlen]; unfold pad4; omega), List.append_assoc]
    have hi := idx_lt (show u < W by omega) hy
    have hx := hm _ hi
    have h1 := hlen u; have h2 := hlen W
    have r := ih (m - 1) (by omega) (u + 1) (by omega)
    rw [cat_s, ← List.append_assoc] at r
    rw [if_neg (nI_ge (by omega) (by omega)), at_eq hi4 (show u < W by omega) hy hT b3, fon_fok, if_neg (c := nI 8 = 9) (by decide), if_neg (c := nI 8 = 7) (by decide), ← hd _ hi, co_eq hl hc, fon_fok, if_pos hx, r_put _ _ _ (by rw [List.length_append]; omega), fon_fok, nI_1, ch_nI (by have := (ixo_in hx).1; omega)]
    exact r
theorem r_brow9 {i W H st y : Nat} {f d dd wi hi co : A} {h : Int32} {L : List Nat} {l : List Int32} (hl : l.length ≤ 256) (hc : inA l co) (hm : ∀ p, p < W * H → d p ∈ l) (hi4 : i < 4) (hW : W ≤ 4096) (hH : H ≤ 4096) (hT : W * H ≤ 4096) (hy : y < H) (b3 : wi i = nI W) (hd : ∀ p, p < W * H → d p = dd (4096 * i + p)) (k204 : Int32 → Int32 → Int32 → Int32 → MW → A → A → Out (MW × A × A) Unit) (hB : L.length + (rowB 9 W d l y).length ≤ 65536) :
    lp (fun _ _ _ _ _ _ _ _ => fno) (F_X11_writeRows_212 dd wi hi k204) FU (nI i) (nI 9) (nI st) (nI y) 0 (MwL h (nI l.length) L) (ap f L) co = k204 (nI i) (nI 9) (nI st) (nI y + -1) (MwL h (nI l.length) (L ++ rowB 9 W d l y)) (ap f (L ++ rowB 9 W d l y)) co := by
  have e9 : rowB 9 W d l y = cat (gR W 255 (fun u => d (y * W + u)) (ixo l)) W ++ [0, if y = 0 then 1 else 0] := rfl
  rw [e9] at hB ⊢
  rw [List.length_append, show [0, if y = 0 then 1 else 0].length = 2 from rfl] at hB
  generalize hF : k204 (nI i) (nI 9) (nI st) (nI y + -1) (MwL h (nI l.length) (L ++ (cat (gR W 255 (fun u => d (y * W + u)) (ixo l)) W ++ [0, if y = 0 then 1 else 0]))) (ap f (L ++ (cat (gR W 255 (fun u => d (y * W + u)) (ixo l)) W ++ [0, if y = 0 then 1 else 0]))) co = FIN
  have q := lp_M (z := fun _ _ _ _ _ _ _ _ => fno) (f := F_X11_writeRows_212 dd wi hi k204) (fun m k => ∀ u, u + m = W → rcn W 255 (fun u => d (y * W + u)) u = 0 → k (nI i) (nI 9) (nI st) (nI y) (nI u) (MwL h (nI l.length) (L ++ cat (gR W 255 (fun u => d (y * W + u)) (ixo l)) u)) (ap f (L ++ cat (gR W 255 (fun u => d (y * W + u)) (ixo l)) u)) co = FIN) ?_ W (by omega)
  · have r := q 0 (by omega) rfl
    rw [show cat (gR W 255 (fun u => d (y * W + u)) (ixo l)) 0 = [] from rfl, List.append_nil] at r
    exact r
  · intro m k ih u hu hr0
    unfold F_X11_writeRows_212 F_X11_writeRows_352 F_X11_writeRows_378
    rw [if_pos (inb_nI hi4 (by omega)), nI_clamp (by omega), b3]
    by_cases c0 : m = 0
    · have : u = W := by omega
      subst this
      rw [if_pos (Int32.le_refl _), if_pos (c := nI 9 = 9) rfl, r_put _ _ _ (by rw [List.length_append]; omega), fon_fok, show ch 0 0 = 0 from by decide]
      dsimp only
      by_cases cy : y = 0
      · rw [if_pos cy] at hF
        rw [if_pos (c := nI y = 0) (by rw [cy]; rfl), r_put _ _ _ (by rw [List.length_append, List.length_append, List.length_singleton]; omega), fon_fok, show ch 1 0 = 1 from by decide, List.append_assoc, List.append_assoc]
        exact hF
      · rw [if_neg cy] at hF
        rw [if_neg (c := nI y = 0) (nI_ne0 (by omega) (by omega)), r_put _ _ _ (by rw [List.length_append, List.length_append, List.length_singleton]; omega), fon_fok, show ch 0 0 = 0 from by decide, List.append_assoc, List.append_assoc]
        exact hF
    have hix := idx_lt (show u < W by omega) hy
    have hx := hm _ hix
    rw [if_neg (nI_ge (by omega) (by omega)), at_eq hi4 (show u < W by omega) hy hT b3, fon_fok, if_pos (c := nI 9 = 9) rfl, ← hd _ hix]
    have q2 := lp_M (z := fun _ _ _ _ _ _ _ _ _ _ => fno) (f := F_X11_writeRows_243 dd wi hi k204 k) (fun m2 k2 => ∀ s, u + s + 1 + m2 = W → rcn W 255 (fun u => d (y * W + u)) (u + s) = s → d (y * W + (u + s)) = d (y * W + u) → cat (gR W 255 (fun u => d (y * W + u)) (ixo l)) (u + s) = cat (gR W 255 (fun u => d (y * W + u)) (ixo l)) u → k2 (nI i) (nI 9) (nI st) (nI y) (nI u) (d (y * W + u)) (nI (s + 1)) (MwL h (nI l.length) (L ++ cat (gR W 255 (fun u => d (y * W + u)) (ixo l)) u)) (ap f (L ++ cat (gR W 255 (fun u => d (y * W + u)) (ixo l)) u)) co = FIN) ?_ (W - u - 1) (by omega)
    · exact q2 0 (by omega) hr0 rfl rfl
    · intro m2 k2 ih2 s hs hrs hds hcs
      have hlt := rcn_lt (W := W) (d := fun u => d (y * W + u)) (show 1 ≤ 255 by omega) (u + s)
      rw [hrs] at hlt
      have hb := cat_lt (gR W 255 (fun u => d (y * W + u)) (ixo l)) (show u + s < W by omega)
      have stop : em W 255 (fun u => d (y * W + u)) (u + s) → F_X11_writeRows_288 dd wi hi k204 k (nI i) (nI 9) (nI st) (nI y) (nI u) (d (y * W + u)) (nI (s + 1)) (MwL h (nI l.length) (L ++ cat (gR W 255 (fun u => d (y * W + u)) (ixo l)) u)) (ap f (L ++ cat (gR W 255 (fun u => d (y * W + u)) (ixo l)) u)) co = FIN := by
        intro he
        have eg : gR W 255 (fun u => d (y * W + u)) (ixo l) (u + s) = [s + 1, ixo l (d (y * W + u))] := by
          rw [show gR W 255 (fun u => d (y * W + u)) (ixo l) (u + s) = [rcn W 255 (fun u => d (y * W + u)) (u + s) + 1, ixo l (d (y * W + (u + s)))] from if_pos he, hrs, hds]
        rw [eg, hcs] at hb
        have hb2 : (cat (gR W 255 (fun u => d (y * W + u)) (ixo l)) u).length + 2 ≤ (cat (gR W 255 (fun u => d (y * W + u)) (ixo l)) W).length := hb
        have r := ih (W - (u + s + 1)) (by omega) (u + s + 1) (by omega) (rcn_e he)
        rw [cat_s, eg, hcs, ← List.append_assoc] at r
        unfold F_X11_writeRows_288 F_X11_writeRows_294 F_X11_writeRows_320
        rw [r_put _ _ _ (by rw [List.length_append]; omega), fon_fok, if_neg (c := nI 9 = 7) (by decide)]
        dsimp only
        rw [co_eq hl hc, fon_fok, if_pos hx, r_put _ _ _ (by rw [List.length_append, List.length_append, List.length_singleton]; omega), fon_fok, nI_add, ch_nI (by omega), ch_nI (by have := (ixo_in hx).1; omega), List.append_assoc (_ ++ _)]
        exact r
      unfold F_X11_writeRows_243
      by_cases c1 : s + 1 = 255
      · rw [if_pos (c := 255 ≤ nI (s + 1)) (by rw [c1]; decide)]
        exact stop (Or.inr (Or.inr (by rw [hrs]; exact c1)))
      rw [if_neg (c := 255 ≤ nI (s + 1)) (nI_ge (b := 255) (by omega) (by omega)), if_pos (inb_nI hi4 (by omega)), nI_clamp (by omega), b3, nI_add]
      by_cases c2 : u + s + 1 = W
      · rw [if_pos (nI_le (by omega) (by omega))]
        exact stop (Or.inl c2)
      have hi2 := idx_lt (show u + (s + 1) < W by omega) hy
      rw [if_neg (nI_ge (by omega) (by omega)), at_eq hi4 (show u + (s + 1) < W by omega) hy hT b3, fon_fok, ← hd _ hi2, nI_1]
      by_cases c3 : d (y * W + (u + (s + 1))) = d (y * W + u)
      · rw [if_pos c3]
        have hne : ¬ em W 255 (fun u => d (y * W + u)) (u + s) := by
          intro he
          rcases he with e | e | e
          · exact c2 e
          · exact e (by show d (y * W + (u + s + 1)) = d (y * W + (u + s)); rw [hds]; exact c3)
          · rw [hrs] at e; exact c1 e
        refine ih2 (m2 - 1) (by omega) (s + 1) (by omega) ?_ c3 ?_
        · rw [← Nat.add_assoc, rcn_n hne, hrs]
        · rw [← Nat.add_assoc, cat_s, hcs, show gR W 255 (fun u => d (y * W + u)) (ixo l) (u + s) = [] from if_neg hne, List.append_nil]
      · rw [if_neg c3]
        exact stop (Or.inr (Or.inl (by show d (y * W + (u + s + 1)) ≠ d (y * W + (u + s)); rw [hds]; exact c3)))
