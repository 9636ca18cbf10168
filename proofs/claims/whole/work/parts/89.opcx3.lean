theorem r_line {P i W H y p : Nat} {l : List Int32} {f d dd wi hi co : A} {h cm : Int32} {L : List Nat} (a : Int32) (hP13 : P = 1 ∨ P = 3) (hi4 : i < 4) (hW : W ≤ 4096) (hT : W * H ≤ 4096) (b3 : wi i = nI W) (hd : ∀ q, q < W * H → d q = dd (4096 * i + q)) (hl : palT P (W * H) d l) (hc : P = 1 → inA l co ∧ cm = nI l.length) (hp : p < 3) (hy : y < H) (k170 : Int32 → Int32 → Int32 → Int32 → Int32 → MW → A → A → Out (MW × A × A) Unit) (k184 : Int32 → Int32 → Int32 → Int32 → Int32 → Int32 → MW → A → A → Out (MW × A × A) Unit) (hB : L.length + (lnP P W l d y p).length ≤ 65536) :
    lp (fun _ _ _ _ _ _ _ _ _ _ => fno) (F_X11_writePlanes_193 dd wi hi k170 k184) FU (nI i) a (nI P) (nI (stP W)) (nI y) (nI p) 0 (MwL h cm L) (ap f L) co = k184 (nI i) a (nI P) (nI (stP W)) (nI y) (nI (p + 1)) (MwL h cm (L ++ lnP P W l d y p)) (ap f (L ++ lnP P W l d y p)) co := by
  have hS : stP W ≤ W + 1 := by unfold stP; omega
  have s256 : ∀ u, smp P W l d y p u < 256 := fun u => smp_lt hl y p u (fun c => idx_lt c hy)
  have cs := fun (om ho : Int32) u (hu : u ≤ W + 1) => r_smp (om := om) (ho := ho) (u := u) hP13 hi4 hW hT b3 hd hl hc hp hy hu
  unfold lnP at hB ⊢
  generalize smp P W l d y p = s at *
  generalize stP W = S at *
  generalize hF : k184 (nI i) a (nI P) (nI S) (nI y) (nI (p + 1)) (MwL h cm (L ++ cat (gP S s) S)) (ap f (L ++ cat (gP S s) S)) co = FIN
  have q := lp_M (z := fun _ _ _ _ _ _ _ _ _ _ => fno) (f := F_X11_writePlanes_193 dd wi hi k170 k184) (fun m k => ∀ u, u + m = S → rcn S 63 (fun v => nI (s v)) u = 0 → k (nI i) a (nI P) (nI S) (nI y) (nI p) (nI u) (MwL h cm (L ++ cat (gP S s) u)) (ap f (L ++ cat (gP S s) u)) co = FIN) ?_ S (by omega)
  · have r := q 0 (by omega) rfl
    rw [show cat (gP S s) 0 = [] from rfl, List.append_nil] at r
    exact r
  · intro m k ih u hu hr0
    unfold F_X11_writePlanes_193
    by_cases c0 : m = 0
    · have : u = S := by omega
      subst this
      rw [if_pos (Int32.le_refl _), nI_1]
      exact hF
    have h256 := s256 u
    rw [if_neg (nI_ge (by omega) (by omega)), cs _ _ u (by omega), fon_fok]
    have q2 := lp_M (z := fun _ _ _ _ _ _ _ _ _ _ _ _ => fno) (f := F_X11_writePlanes_217 dd wi hi k170 k184 k) (fun m2 k2 => ∀ v, u + v + 1 + m2 = S → rcn S 63 (fun v => nI (s v)) (u + v) = v → nI (s (u + v)) = nI (s u) → cat (gP S s) (u + v) = cat (gP S s) u → k2 (nI i) a (nI P) (nI S) (nI y) (nI p) (nI u) (nI (s u)) (nI (v + 1)) (MwL h cm (L ++ cat (gP S s) u)) (ap f (L ++ cat (gP S s) u)) co = FIN) ?_ (S - u - 1) (by omega)
    · exact q2 0 (by omega) hr0 rfl rfl
    · intro m2 k2 ih2 v hs hrs hds hcs
      have hlt := rcn_lt (W := S) (d := fun v => nI (s v)) (show 1 ≤ 63 by omega) (u + v)
      rw [hrs] at hlt
      have hsv : s (u + v) = s u := (nI_inj (by have := s256 (u + v); omega) (by omega)).mp hds
      have hb := cat_lt (gP S s) (show u + v < S by omega)
      have stop : em S 63 (fun v => nI (s v)) (u + v) → F_X11_writePlanes_260 dd wi hi k170 k184 k (nI i) a (nI P) (nI S) (nI y) (nI p) (nI u) (nI (s u)) (nI (v + 1)) (MwL h cm (L ++ cat (gP S s) u)) (ap f (L ++ cat (gP S s) u)) co = FIN := by
        intro he
        have eg : gP S s (u + v) = (if 1 < v + 1 ∨ 192 ≤ s u then [192 + (v + 1), s u] else [s u]) := by
          rw [show gP S s (u + v) = (if 1 < rcn S 63 (fun v => nI (s v)) (u + v) + 1 ∨ 192 ≤ s (u + v) then [192 + (rcn S 63 (fun v => nI (s v)) (u + v) + 1), s (u + v)] else [s (u + v)]) from if_pos he, hrs, hsv]
        rw [eg, hcs] at hb
        have r := ih (S - (u + v + 1)) (by omega) (u + v + 1) (by omega) (rcn_e he)
        rw [cat_s, eg, hcs, ← List.append_assoc] at r
        have two : (1 < v + 1 ∨ 192 ≤ s u) → F_X11_writePlanes_274 dd wi hi k170 k184 k (nI i) a (nI P) (nI S) (nI y) (nI p) (nI u) (nI (s u)) (nI (v + 1)) (MwL h cm (L ++ cat (gP S s) u)) (ap f (L ++ cat (gP S s) u)) co = FIN := by
          intro hc2
          rw [if_pos hc2] at r hb
          have hb2 : (cat (gP S s) u).length + 2 ≤ (cat (gP S s) S).length := hb
          unfold F_X11_writePlanes_274 F_X11_writePlanes_284
          rw [show (192 : Int32) + nI (v + 1) = nI (192 + (v + 1)) from nI_add 192 _, r_put _ _ _ (by rw [List.length_append]; omega), fon_fok]
          dsimp only
          rw [r_put _ _ _ (by rw [List.length_append, List.length_append, List.length_singleton]; omega), fon_fok, nI_add, ch_nI (by omega), ch_nI h256, List.append_assoc (_ ++ _)]
          exact r
        unfold F_X11_writePlanes_260
        by_cases c1 : 1 < v + 1
        · rw [if_pos (c := 1 < nI (v + 1)) (nI_lt (a := 1) c1 (by omega))]
          exact two (Or.inl c1)
        · rw [if_neg (c := 1 < nI (v + 1)) (nI_nlt (b := v + 1) (a := 1) (by omega) (by omega))]
          by_cases c2 : 192 ≤ s u
          · rw [if_neg (c := nI (s u) < 192) (nI_nlt (b := 192) c2 (by omega))]
            exact two (Or.inr c2)
          · rw [if_neg (by omega)] at r hb
            rw [List.length_singleton] at hb
            rw [if_pos (c := nI (s u) < 192) (nI_lt (b := 192) (by omega) (by omega))]
            unfold F_X11_writePlanes_284
            rw [r_put _ _ _ (by rw [List.length_append]; omega), fon_fok, nI_add, ch_nI h256]
            exact r
      unfold F_X11_writePlanes_217
      by_cases c1 : v + 1 = 63
      · rw [if_pos (c := 63 ≤ nI (v + 1)) (by rw [c1]; decide)]
        exact stop (Or.inr (Or.inr (by rw [hrs]; exact c1)))
      rw [if_neg (c := 63 ≤ nI (v + 1)) (nI_ge (b := 63) (by omega) (by omega)), nI_add]
      by_cases c2 : u + v + 1 = S
      · rw [if_pos (nI_le (by omega) (by omega))]
        exact stop (Or.inl c2)
      rw [if_neg (nI_ge (by omega) (by omega)), cs _ _ (u + (v + 1)) (by omega), fon_fok, nI_1]
      by_cases c3 : nI (s (u + (v + 1))) = nI (s u)
      · rw [if_pos c3]
        have hne : ¬ em S 63 (fun v => nI (s v)) (u + v) := by
          intro he
          rcases he with e | e | e
          · exact c2 e
          · exact e (by show nI (s (u + v + 1)) = nI (s (u + v)); rw [hds]; exact c3)
          · rw [hrs] at e; exact c1 e
        refine ih2 (m2 - 1) (by omega) (v + 1) (by omega) ?_ c3 ?_
        · rw [← Nat.add_assoc, rcn_n hne, hrs]
        · rw [← Nat.add_assoc, cat_s, hcs, show gP S s (u + v) = [] from if_neg hne, List.append_nil]
      · rw [if_neg c3]
        exact stop (Or.inr (Or.inl (by show nI (s (u + v + 1)) ≠ nI (s (u + v)); rw [hds]; exact c3)))
theorem r_pc167 {P i W H a : Nat} {l : List Int32} {f d dd wi hi co : A} {h cm : Int32} (ha : (a = 16 ∧ P = 3) ∨ (a = 17 ∧ P = 1)) (hi4 : i < 4) (hW : W ≤ 4096) (hH : H ≤ 4096) (hT : W * H ≤ 4096) (b3 : wi i = nI W) (b4 : hi i = nI H) (hd : ∀ q, q < W * H → d q = dd (4096 * i + q)) (hl : palT P (W * H) d l) (hc : P = 1 → inA l co ∧ cm = nI l.length) :
    F_X11_writePlanes_167 dd wi hi (nI i) (nI a) (nI P) (nI (stP W)) (MwL h cm (pcH P W H)) (ap f (pcH P W H)) co = fok () (MwL h cm (pcL P W H l d), ap f (pcL P W H l d), co) := by
  have hP13 : P = 1 ∨ P = 3 := by omega
  have hR := rwP_le hP13 hH hT l d
  unfold F_X11_writePlanes_167
  have q := lp_M (z := fun _ _ _ _ _ _ _ _ => fno) (f := F_X11_writePlanes_170 dd wi hi) (fun m k => ∀ y, y + m = H → k (nI i) (nI a) (nI P) (nI (stP W)) (nI y) (MwL h cm (pcH P W H ++ cat (fun y => cat (lnP P W l d y) P) y)) (ap f (pcH P W H ++ cat (fun y => cat (lnP P W l d y) P) y)) co = fok () (MwL h cm (pcL P W H l d), ap f (pcL P W H l d), co)) ?_ H (by omega)
  · have r := q 0 (by omega)
    rw [show cat (fun y => cat (lnP P W l d y) P) 0 = [] from rfl, List.append_nil] at r
    exact r
  · intro m k170 ih y hy
    unfold F_X11_writePlanes_170
    rw [if_pos (inb_nI hi4 (by omega)), nI_clamp (by omega), b4]
    by_cases c0 : m = 0
    · have : y = H := by omega
      subst this
      rw [if_pos (Int32.le_refl _), show pcH P W y ++ cat (fun y => cat (lnP P W l d y) P) y = pcH P W y ++ rwP P W y l d from rfl]
      have hM : (pcH P W y ++ rwP P W y l d).length ≤ 49280 := by rw [List.length_append, pcH_len]; omega
      unfold pcL
      generalize pcH P W y ++ rwP P W y l d = M at *
      rcases ha with ⟨rfl, rfl⟩ | ⟨rfl, rfl⟩
      · rw [if_neg (c := nI 16 = 17) (by decide), if_neg (c := 3 = 1) (by decide), List.append_nil]
      · obtain ⟨hco, hcm⟩ := hc rfl
        have hl2 := (hl rfl).1
        rw [if_pos (c := nI 17 = 17) rfl, if_pos (c := 1 = 1) rfl, r_put _ _ _ (by omega), fon_fok, show ch 12 0 = 12 from by decide]
        unfold tbP
        rw [← List.append_assoc]
        have hM2 : (M ++ [12]).length ≤ 49281 := by rw [List.length_append, List.length_singleton]; omega
        generalize M ++ [12] = N at *
        dsimp only
        have hlen : ∀ j, (cat (fun j => rgb3 (l.getD j 0)) j).length = j * 3 := fun j => cat_len _ 3 (fun _ _ => rfl)
        have q3 := lp_M (z := fun _ _ _ _ => fno) (f := F_X11_writePlanes_327 dd wi hi) (fun m k => ∀ j, j + m = 256 → k (nI j) (MwL h cm (N ++ cat (fun j => rgb3 (l.getD j 0)) j)) (ap f (N ++ cat (fun j => rgb3 (l.getD j 0)) j)) co = fok () (MwL h cm (N ++ cat (fun j => rgb3 (l.getD j 0)) 256), ap f (N ++ cat (fun j => rgb3 (l.getD j 0)) 256), co)) ?_ 256 (by omega)
        · have r := q3 0 (by omega)
          rw [show cat (fun j => rgb3 (l.getD j 0)) 0 = [] from rfl, List.append_nil] at r
          exact r
        · intro m k ih j hj
          unfold F_X11_writePlanes_327 F_X11_writePlanes_355
          dsimp only [mw_cm]
          by_cases c0 : m = 0
          · have : j = 256 := by omega
            subst this
            rw [if_pos (c := 256 ≤ nI 256) (by decide)]
          have h1 := hlen j
          have r := ih (m - 1) (by omega) (j + 1) (by omega)
          rw [cat_s, ← List.append_assoc] at r
          have fin : ∀ t : Int32, t = l.getD j 0 → fon (F_X11_put_ (t >>> ((24 : Int32) &&& 31)) (MwL h cm (N ++ cat (fun j => rgb3 (l.getD j 0)) j)) (ap f (N ++ cat (fun j => rgb3 (l.getD j 0)) j))) (fun z363 s363 => fon (F_X11_put_ (t >>> ((16 : Int32) &&& 31)) s363.1 s363.2) (fun z372 s372 => fon (F_X11_put_ (t >>> ((8 : Int32) &&& 31)) s372.1 s372.2) (fun z381 s381 => k (nI j + 1) s381.1 s381.2 co) (fun _ _ => fno)) (fun _ _ => fno)) (fun _ _ => fno) = fok () (MwL h cm (N ++ cat (fun j => rgb3 (l.getD j 0)) 256), ap f (N ++ cat (fun j => rgb3 (l.getD j 0)) 256), co) := by
            intro t ht
            rw [ht, r_put _ _ _ (by rw [List.length_append]; omega), fon_fok]
            dsimp only
            rw [r_put _ _ _ (by simp only [List.length_append, List.length_singleton]; omega), fon_fok]
            dsimp only
            rw [r_put _ _ _ (by simp only [List.length_append, List.length_singleton]; omega), fon_fok, nI_1, ch_shr _ _ 24 (by decide) (by decide), ch_shr _ _ 16 (by decide) (by decide), ch_shr _ _ 8 (by decide) (by decide), List.append_assoc (_ ++ _ ++ _), List.append_assoc (_ ++ _)]
            exact r
          rw [if_neg (c := 256 ≤ nI j) (nI_ge (b := 256) (by omega) (by omega)), hcm]
          rw [hcm] at fin
          by_cases c : j < l.length
          · rw [if_neg (nI_ge c (by omega)), if_pos (inb_nI (by omega) (by omega)), nI_clamp (by omega)]
            exact fin _ (hco j c)
          · rw [if_pos (nI_le (by omega) (by omega))]
            exact fin 0 (by rw [List.getD_eq_getElem?_getD, List.getElem?_eq_none (by omega)]; rfl)
    have hyH : y < H := by omega
    rw [if_neg (nI_ge hyH (by omega))]
    have q2 := lp_M (z := fun _ _ _ _ _ _ _ _ _ => fno) (f := F_X11_writePlanes_184 dd wi hi k170) (fun m2 k => ∀ p, p + m2 = P → k (nI i) (nI a) (nI P) (nI (stP W)) (nI y) (nI p) (MwL h cm (pcH P W H ++ cat (fun y => cat (lnP P W l d y) P) y ++ cat (lnP P W l d y) p)) (ap f (pcH P W H ++ cat (fun y => cat (lnP P W l d y) P) y ++ cat (lnP P W l d y) p)) co = fok () (MwL h cm (pcL P W H l d), ap f (pcL P W H l d), co)) ?_ P (by omega)
    · have r := q2 0 (by omega)
      rw [show cat (lnP P W l d y) 0 = [] from rfl, List.append_nil] at r
      exact r
    · intro m2 k184 ih2 p hp
      unfold F_X11_writePlanes_184
      by_cases c2 : m2 = 0
      · have : p = P := by omega
        subst this
        rw [if_pos (Int32.le_refl _), rows_e, nI_1]
        exact ih (m - 1) (by omega) (y + 1) (by omega)
      have hb := rows_b (lnP P W l d) (show p < P by omega) hyH
      have hb2 : (cat (fun y => cat (lnP P W l d y) P) y).length + (cat (lnP P W l d y) p).length + (lnP P W l d y p).length ≤ (rwP P W H l d).length := hb
      have r := ih2 (m2 - 1) (by omega) (p + 1) (by omega)
      rw [← rows_x] at r
      rw [if_neg (nI_ge (by omega) (by omega)), r_line (nI a) hP13 hi4 hW hT b3 hd hl hc (by omega) hyH k170 k184 (by rw [List.length_append, List.length_append, pcH_len]; omega)]
      exact r
