theorem r_b204 {i W H a st : Nat} {f d dd wi hi co : A} {h cm : Int32} {l : List Int32} (hst : st = 54 + l.length * 4) (ha : a = 7 ∨ a = 8 ∨ a = 9) (hl : l.length ≤ 256) (hc : inA l co) (hi4 : i < 4) (hW : W ≤ 4096) (hH : H ≤ 4096) (hH1 : 1 ≤ H) (hT : W * H ≤ 4096) (b3 : wi i = nI W) (b4 : hi i = nI H)
    (hrow : ∀ (y st : Nat) (L : List Nat) (k204 : Int32 → Int32 → Int32 → Int32 → MW → A → A → Out (MW × A × A) Unit), y < H → st ≤ L.length → (a = 9 ∨ (L.length - st) % 4 = 0) → L.length + (rowB a W d l y).length ≤ 65536 → lp (fun _ _ _ _ _ _ _ _ => fno) (F_X11_writeRows_212 dd wi hi k204) FU (nI i) (nI a) (nI st) (nI y) 0 (MwL h cm L) (ap f L) co = k204 (nI i) (nI a) (nI st) (nI y + -1) (MwL h cm (L ++ rowB a W d l y)) (ap f (L ++ rowB a W d l y)) co) :
    lp (fun _ _ _ _ _ _ _ => fno) (F_X11_writeRows_204 dd wi hi) FU (nI i) (nI a) (nI st) (nI (H - 1)) (MwL h cm (bmH a l.length W H ++ bmT l)) (ap f (bmH a l.length W H ++ bmT l)) co = fok () (MwL h cm (bmL a l.length W H d l), ap f (bmL a l.length W H d l), co) := by
  have hR := bmR_le (a := a) d l hH hT
  have hM := bmM_len (a := a) (n := l.length) (W := W) (H := H) d l
  have hT2 := bmT_len l
  have q2 := lp_M (z := fun _ _ _ _ _ _ _ => fno) (f := F_X11_writeRows_204 dd wi hi) (fun m k => ∀ (j : Nat) (v : Int32), j + m = H → v = (if j < H then nI (H - 1 - j) else -1) → k (nI i) (nI a) (nI st) v (MwL h cm (bmH a l.length W H ++ bmT l ++ cat (fun k => rowB a W d l (H - 1 - k)) j)) (ap f (bmH a l.length W H ++ bmT l ++ cat (fun k => rowB a W d l (H - 1 - k)) j)) co = fok () (MwL h cm (bmL a l.length W H d l), ap f (bmL a l.length W H d l), co)) ?_ H (by omega)
  · have r := q2 0 (nI (H - 1)) (by omega) (by rw [if_pos (by omega), Nat.sub_zero])
    rw [show cat (fun k => rowB a W d l (H - 1 - k)) 0 = [] from rfl, List.append_nil] at r
    exact r
  · intro m k ih j v hj hv
    unfold F_X11_writeRows_204
    dsimp only [mw_om]
    by_cases c0 : m = 0
    · have : j = H := by omega
      subst this
      rw [if_neg (by omega)] at hv
      rw [hv, if_pos (by decide), show bmH a l.length W j ++ bmT l ++ cat (fun k => rowB a W d l (j - 1 - k)) j = bmM a l.length W j d l from rfl]
      rw [show F_X11_mend 2 (nI (bmM a l.length W j d l).length) (ap f (bmM a l.length W j d l)) = _ from r_mend (p := 2) _ (by omega) (by omega), fon_fok, pk_sub (by omega)]
      rw [show F_X11_mend 34 (nI ((bmM a l.length W j d l).length - st)) (ap f (set4 (bmM a l.length W j d l) 2 (nI (bmM a l.length W j d l).length))) = _ from r_mend (p := 34) _ (by rw [set4_len]; omega) (by rw [set4_len]; omega), fon_fok]
      unfold bmL
      rw [show (bmM a l.length W j d l).length - st = (bmM a l.length W j d l).length - 54 - 4 * l.length from by omega]
      show fok () ((nI (bmM a l.length W j d l).length, h, cm), _, _) = fok () ((nI (set4 _ _ _).length, h, cm), _, _)
      rw [set4_len, set4_len]
    rw [if_pos (by omega)] at hv
    rw [hv, if_neg (nI_pos (by omega))]
    have hb := cat_lt (fun k => rowB a W d l (H - 1 - k)) (show j < H by omega)
    have hb2 : (cat (fun k => rowB a W d l (H - 1 - k)) j).length + (rowB a W d l (H - 1 - j)).length ≤ (bmR a W H d l).length := hb
    have s := hrow (H - 1 - j) st (bmH a l.length W H ++ bmT l ++ cat (fun k => rowB a W d l (H - 1 - k)) j) k (by omega) (by
      rw [List.length_append, List.length_append, bmH_len, bmT_len]; omega) (by
      by_cases c9 : a = 9
      · exact Or.inl c9
      · refine Or.inr ?_
        have := rows_4 (H := H) (W := W) (show a = 7 ∨ a = 8 by omega) d l j
        rw [List.length_append, List.length_append, bmH_len, bmT_len]; omega) (by
      rw [List.length_append, List.length_append, bmH_len, bmT_len]; omega)
    have r := ih (m - 1) (by omega) (j + 1) (nI (H - 1 - j) + -1) (by omega) (dn_s (by omega))
    rw [cat_s, ← List.append_assoc] at r
    rw [s]
    exact r
theorem r_b159 {i W H a : Nat} {f d dd wi hi co : A} {h cm : Int32} {l : List Int32} (ha : a = 7 ∨ a = 8 ∨ a = 9) (hl : l.length ≤ 256) (hc : inA l co) (hi4 : i < 4) (hW : W ≤ 4096) (hH : H ≤ 4096) (hH1 : 1 ≤ H) (hT : W * H ≤ 4096) (b3 : wi i = nI W) (b4 : hi i = nI H)
    (hrow : ∀ (y st : Nat) (L : List Nat) (k204 : Int32 → Int32 → Int32 → Int32 → MW → A → A → Out (MW × A × A) Unit), y < H → st ≤ L.length → (a = 9 ∨ (L.length - st) % 4 = 0) → L.length + (rowB a W d l y).length ≤ 65536 → lp (fun _ _ _ _ _ _ _ _ => fno) (F_X11_writeRows_212 dd wi hi k204) FU (nI i) (nI a) (nI st) (nI y) 0 (MwL h cm L) (ap f L) co = k204 (nI i) (nI a) (nI st) (nI y + -1) (MwL h cm (L ++ rowB a W d l y)) (ap f (L ++ rowB a W d l y)) co) :
    lp (fun _ _ _ _ _ _ _ => fno) (F_X11_writeRows_159 dd wi hi) FU (nI i) (nI a) (nI l.length) 0 (MwL h cm (bmH a l.length W H)) (ap f (bmH a l.length W H)) co = fok () (MwL h cm (bmL a l.length W H d l), ap f (bmL a l.length W H d l), co) := by
  have hT2 := bmT_len l
  have q := lp_M (z := fun _ _ _ _ _ _ _ => fno) (f := F_X11_writeRows_159 dd wi hi) (fun m k => ∀ j, j + m = l.length → k (nI i) (nI a) (nI l.length) (nI j) (MwL h cm (bmH a l.length W H ++ cat (fun j => bgr (l.getD j 0) ++ [0]) j)) (ap f (bmH a l.length W H ++ cat (fun j => bgr (l.getD j 0) ++ [0]) j)) co = fok () (MwL h cm (bmL a l.length W H d l), ap f (bmL a l.length W H d l), co)) ?_ l.length (by omega)
  · have r := q 0 (by omega)
    rw [show cat (fun j => bgr (l.getD j 0) ++ [0]) 0 = [] from rfl, List.append_nil] at r
    exact r
  · intro m k ih j hj
    unfold F_X11_writeRows_159
    by_cases c0 : m = 0
    · have : j = l.length := by omega
      subst this
      rw [if_pos (Int32.le_refl _), if_pos (inb_nI hi4 (by omega)), nI_clamp (by omega), b4, show nI H - 1 = nI (H - 1) from pk_sub (b := 1) (by omega)]
      exact r_b204 (st := (bmH a l.length W H ++ bmT l).length) (by rw [List.length_append, bmH_len, hT2]) ha hl hc hi4 hW hH hH1 hT b3 b4 hrow
    have hb := cat_lt (fun j => bgr (l.getD j 0) ++ [0]) (show j < l.length by omega)
    have hb2 : (cat (fun j => bgr (l.getD j 0) ++ [0]) j).length + 4 ≤ (bmT l).length := hb
    have r := ih (m - 1) (by omega) (j + 1) (by omega)
    rw [cat_s, ← List.append_assoc] at r
    rw [if_neg (nI_ge (by omega) (by omega)), if_pos (inb_nI (by omega) (by omega)), nI_clamp (by omega), hc j (by omega), r_bgr _ _ _ (by rw [List.length_append, bmH_len]; omega), fon_fok]
    dsimp only
    rw [r_put _ _ _ (by rw [List.length_append, List.length_append, bmH_len]; show _ + 3 < _; omega), fon_fok, nI_1, show ch 0 0 = 0 from by decide, List.append_assoc (_ ++ _)]
    exact r
theorem r_bmp18 {i W H a : Nat} {f d dd wi hi co : A} {h cm : Int32} {l : List Int32} (ha : a = 7 ∨ a = 8 ∨ a = 9) (hl : l.length ≤ 256) (hc : inA l co) (hi4 : i < 4) (hW : W ≤ 4096) (hH : H ≤ 4096) (hH1 : 1 ≤ H) (hT : W * H ≤ 4096) (b3 : wi i = nI W) (b4 : hi i = nI H)
    (hrow : ∀ (y st : Nat) (L : List Nat) (k204 : Int32 → Int32 → Int32 → Int32 → MW → A → A → Out (MW × A × A) Unit), y < H → st ≤ L.length → (a = 9 ∨ (L.length - st) % 4 = 0) → L.length + (rowB a W d l y).length ≤ 65536 → lp (fun _ _ _ _ _ _ _ _ => fno) (F_X11_writeRows_212 dd wi hi k204) FU (nI i) (nI a) (nI st) (nI y) 0 (MwL h cm L) (ap f L) co = k204 (nI i) (nI a) (nI st) (nI y + -1) (MwL h cm (L ++ rowB a W d l y)) (ap f (L ++ rowB a W d l y)) co) :
    F_X11_writeRows_18 dd wi hi (nI i) (nI a) (nI l.length) (MwL h cm []) (ap f []) co = fok () (MwL h cm (bmL a l.length W H d l), ap f (bmL a l.length W H d l), co) := by
  have hR := bmR_le (a := a) d l hH hT
  have hM := bmM_len (a := a) (n := l.length) (W := W) (H := H) d l
  have hT2 := bmT_len l
  unfold F_X11_writeRows_18 F_X11_writeRows_102 F_X11_writeRows_118
  rw [nI_clamp (by omega), b3, b4, show (54 : Int32) + 4 * nI l.length = nI (54 + 4 * l.length) from by rw [show (4 : Int32) = nI 4 from rfl, pk_mul]; exact nI_add 54 _]
  rw [r_put _ _ _ (by decide), fon_fok]
  dsimp only
  rw [r_put _ _ _ (by simp), fon_fok]
  dsimp only
  rw [r_low4 _ _ _ (by simp), fon_fok]
  dsimp only
  rw [r_low4 _ _ _ (by simp [le4]), fon_fok]
  dsimp only
  rw [r_low4 _ _ _ (by simp [le4]), fon_fok]
  dsimp only
  rw [r_low4 _ _ _ (by simp [le4]), fon_fok, if_pos (inb_nI hi4 (by omega))]
  dsimp only
  rw [r_low4 _ _ _ (by simp [le4]), fon_fok, if_pos (inb_nI hi4 (by omega))]
  dsimp only
  rw [r_low4 _ _ _ (by simp [le4]), fon_fok]
  dsimp only
  rw [r_low2 _ _ _ (by simp [le4]), fon_fok]
  dsimp only
  have fin : ∀ (t u : Int32), t = (if a = 7 then 24 else 8) → u = (if a = 9 then 1 else 0) → fon (F_X11_putLow t 2 (MwL h cm ([] ++ [ch 66 0] ++ [ch 77 0] ++ le4 0 ++ le4 0 ++ le4 (nI (54 + 4 * l.length)) ++ le4 40 ++ le4 (nI W) ++ le4 (nI H) ++ le2 1)) (ap f ([] ++ [ch 66 0] ++ [ch 77 0] ++ le4 0 ++ le4 0 ++ le4 (nI (54 + 4 * l.length)) ++ le4 40 ++ le4 (nI W) ++ le4 (nI H) ++ le2 1))) (fun z103 s103 => fon (F_X11_putLow u 4 s103.1 s103.2) (fun z119 s119 => fon (F_X11_putLow 0 4 s119.1 s119.2) (fun z125 s125 => fon (F_X11_putLow 2835 4 s125.1 s125.2) (fun z133 s133 => fon (F_X11_putLow 2835 4 s133.1 s133.2) (fun z141 s141 => fon (F_X11_putLow (nI l.length) 4 s141.1 s141.2) (fun z147 s147 => fon (F_X11_putLow 0 4 s147.1 s147.2) (fun z153 s153 => lp (fun _ _ _ _ _ _ _ => fno) (F_X11_writeRows_159 dd wi hi) FU (nI i) (nI a) (nI l.length) 0 s153.1 s153.2 co) (fun _ _ => fno)) (fun _ _ => fno)) (fun _ _ => fno)) (fun _ _ => fno)) (fun _ _ => fno)) (fun _ _ => fno)) (fun _ _ => fno) = fok () (MwL h cm (bmL a l.length W H d l), ap f (bmL a l.length W H d l), co) := by
    intro t u ht hu
    rw [r_low2 _ _ _ (by simp [le4, le2]), fon_fok]
    dsimp only
    rw [r_low4 _ _ _ (by simp [le4, le2]), fon_fok]
    dsimp only
    rw [r_low4 _ _ _ (by simp [le4, le2]), fon_fok]
    dsimp only
    rw [r_low4 _ _ _ (by simp [le4, le2]), fon_fok]
    dsimp only
    rw [r_low4 _ _ _ (by simp [le4, le2]), fon_fok]
    dsimp only
    rw [r_low4 _ _ _ (by simp [le4, le2]), fon_fok]
    dsimp only
    rw [r_low4 _ _ _ (by simp [le4, le2]), fon_fok]
    dsimp only
    rw [ht, hu]
    exact r_b159 ha hl hc hi4 hW hH hH1 hT b3 b4 hrow
  rcases ha with rfl | rfl | rfl
  · rw [if_pos (c := nI 7 = 7) rfl]
    exact fin 24 0 rfl rfl
  · rw [if_neg (c := nI 8 = 7) (by decide)]
    exact fin 8 0 rfl rfl
  · rw [if_neg (c := nI 9 = 7) (by decide)]
    exact fin 8 1 rfl rfl
theorem r_bmp {i W H a : Nat} {f d dd wi hi co : A} {h cm : Int32} (ha : a = 7 ∨ a = 8 ∨ a = 9) (hi4 : i < 4) (hW : W ≤ 4096) (hH : H ≤ 4096) (hH1 : 1 ≤ H) (hT : W * H ≤ 4096) (b3 : wi i = nI W) (b4 : hi i = nI H) (hd : ∀ p, p < W * H → d p = dd (4096 * i + p)) (hl : a = 8 ∨ a = 9 → (dl d (W * H)).length ≤ 256) :
    ∃ cm2 co2, F_X11_writeRows (nI i) (nI a) (MwL h cm []) (ap f []) dd wi hi co = fok () (MwL h cm2 (if a = 7 then bmL a 0 W H d [] else bmL a (dl d (W * H)).length W H d (dl d (W * H))), ap f (if a = 7 then bmL a 0 W H d [] else bmL a (dl d (W * H)).length W H d (dl d (W * H))), co2) := by
  unfold F_X11_writeRows
  by_cases c7 : a = 7
  · subst c7
    rw [if_pos (c := nI 7 = 7) rfl, if_pos rfl]
    exact ⟨cm, co, r_bmp18 (l := []) (Or.inl rfl) (by simp) (fun j hj => absurd hj (Nat.not_lt_zero _)) hi4 hW hH hH1 hT b3 b4 (fun y st L k204 hy hs h4 hB => r_brow7 hi4 hW hT hy b3 hd k204 hs (by rcases h4 with e | e; exact absurd e (by decide); exact e) hB)⟩
  · have h8 := hl (by omega)
    have hmem : ∀ p, p < W * H → d p ∈ dl d (W * H) := fun p hp => (dl_mem d _).mpr ⟨p, hp, rfl⟩
    obtain ⟨co2, e, hc⟩ := li_eq (co := co) hi4 hT b3 b4 hd h8 (nI ([] : List Nat).length) h cm
    rw [if_neg (c := nI a = 7) (fun e => c7 ((nI_inj (b := 7) (by omega) (by omega)).mp e)), if_neg c7, e, fon_fok]
    refine ⟨nI (dl d (W * H)).length, co2, ?_⟩
    dsimp only [mw_cm]
    generalize dl d (W * H) = l at *
    refine r_bmp18 (l := l) ha h8 hc hi4 hW hH hH1 hT b3 b4 (fun y st L k204 hy hs h4 hB => ?_)
    rcases ha with rfl | rfl | rfl
    · exact absurd rfl c7
    · exact r_brow8 h8 hc hmem hi4 hW hT hy b3 hd k204 hs (by rcases h4 with e | e; exact absurd e (by decide); exact e) hB
    · exact r_brow9 h8 hc hmem hi4 hW hH hT hy b3 hd k204 hB
