def pcA (W H : Nat) : List Nat := [10, 5, 1, 8] ++ le4 0 ++ le2 (nI (W - 1)) ++ le2 (nI (H - 1)) ++ le2 72 ++ le2 72
theorem pcA_len (W H : Nat) : (pcA W H).length = 16 := by
  unfold pcA le4 le2
  simp only [List.length_append, List.length_cons, List.length_nil]
theorem r_pc100 {i a P S : Nat} {f dd wi hi co : A} {h cm : Int32} (hP : P < 256) {M : List Nat} (hM : M.length ≤ 1000) :
    lp (fun _ _ _ _ _ _ _ _ => fno) (F_X11_writePlanes_100 dd wi hi) FU (nI i) (nI a) (nI P) (nI S) 0 (MwL h cm M) (ap f M) co = lp (fun _ _ _ _ _ _ _ _ => fno) (F_X11_writePlanes_138 dd wi hi) FU (nI i) (nI a) (nI P) (nI S) 0 (MwL h cm (M ++ List.replicate 49 0 ++ [P] ++ le2 (nI S) ++ [1])) (ap f (M ++ List.replicate 49 0 ++ [P] ++ le2 (nI S) ++ [1])) co := by
  generalize hF : lp (fun _ _ _ _ _ _ _ _ => fno) (F_X11_writePlanes_138 dd wi hi) FU (nI i) (nI a) (nI P) (nI S) 0 (MwL h cm (M ++ List.replicate 49 0 ++ [P] ++ le2 (nI S) ++ [1])) (ap f (M ++ List.replicate 49 0 ++ [P] ++ le2 (nI S) ++ [1])) co = FIN
  have q := lp_M (z := fun _ _ _ _ _ _ _ _ => fno) (f := F_X11_writePlanes_100 dd wi hi) (fun m k => ∀ j, j + m = 49 → k (nI i) (nI a) (nI P) (nI S) (nI j) (MwL h cm (M ++ List.replicate j 0)) (ap f (M ++ List.replicate j 0)) co = FIN) ?_ 49 (by omega)
  · have r := q 0 (by omega)
    rw [List.replicate_zero, List.append_nil] at r
    exact r
  · intro m k ih j hj
    unfold F_X11_writePlanes_100
    by_cases c0 : m = 0
    · have : j = 49 := by omega
      subst this
      rw [if_pos (c := 49 ≤ nI 49) (by decide), r_put _ _ _ (by rw [List.length_append, List.length_replicate]; omega), fon_fok]
      dsimp only
      rw [r_low2 _ _ _ (by simp only [List.length_append, List.length_replicate, List.length_singleton]; omega), fon_fok]
      dsimp only
      rw [r_put _ _ _ (by simp only [List.length_append, List.length_replicate, List.length_singleton, le2, List.length_cons, List.length_nil]; omega), fon_fok, ch_nI hP, show ch 1 0 = 1 from by decide]
      exact hF
    · rw [if_neg (c := 49 ≤ nI j) (nI_ge (b := 49) (by omega) (by omega)), r_put _ _ _ (by rw [List.length_append, List.length_replicate]; omega), fon_fok, show ch 0 0 = 0 from by decide, nI_1]
      have r := ih (m - 1) (by omega) (j + 1) (by omega)
      rw [List.replicate_succ', ← List.append_assoc] at r
      exact r
theorem r_pc138 {i a P S : Nat} {f dd wi hi co : A} {h cm : Int32} {M : List Nat} (hM : M.length ≤ 2000) :
    lp (fun _ _ _ _ _ _ _ _ => fno) (F_X11_writePlanes_138 dd wi hi) FU (nI i) (nI a) (nI P) (nI S) 0 (MwL h cm M) (ap f M) co = (if nI a = 17 then (fon (F_X11_listColours (nI i) (MwL h cm (M ++ List.replicate 59 0)) dd wi hi co) (fun z164 s164 => F_X11_writePlanes_167 dd wi hi (nI i) (nI a) (nI P) (nI S) s164.1 (ap f (M ++ List.replicate 59 0)) s164.2) (fun _ _ => fno)) else (F_X11_writePlanes_167 dd wi hi (nI i) (nI a) (nI P) (nI S) (MwL h cm (M ++ List.replicate 59 0)) (ap f (M ++ List.replicate 59 0)) co)) := by
  generalize hF : (if nI a = 17 then (fon (F_X11_listColours (nI i) (MwL h cm (M ++ List.replicate 59 0)) dd wi hi co) (fun z164 s164 => F_X11_writePlanes_167 dd wi hi (nI i) (nI a) (nI P) (nI S) s164.1 (ap f (M ++ List.replicate 59 0)) s164.2) (fun _ _ => fno)) else (F_X11_writePlanes_167 dd wi hi (nI i) (nI a) (nI P) (nI S) (MwL h cm (M ++ List.replicate 59 0)) (ap f (M ++ List.replicate 59 0)) co)) = FIN
  have q := lp_M (z := fun _ _ _ _ _ _ _ _ => fno) (f := F_X11_writePlanes_138 dd wi hi) (fun m k => ∀ j, j + m = 59 → k (nI i) (nI a) (nI P) (nI S) (nI j) (MwL h cm (M ++ List.replicate j 0)) (ap f (M ++ List.replicate j 0)) co = FIN) ?_ 59 (by omega)
  · have r := q 0 (by omega)
    rw [List.replicate_zero, List.append_nil] at r
    exact r
  · intro m k ih j hj
    unfold F_X11_writePlanes_138
    by_cases c0 : m = 0
    · have : j = 59 := by omega
      subst this
      rw [if_pos (c := 59 ≤ nI 59) (by decide)]
      exact hF
    · rw [if_neg (c := 59 ≤ nI j) (nI_ge (b := 59) (by omega) (by omega)), r_put _ _ _ (by rw [List.length_append, List.length_replicate]; omega), fon_fok, show ch 0 0 = 0 from by decide, nI_1]
      have r := ih (m - 1) (by omega) (j + 1) (by omega)
      rw [List.replicate_succ', ← List.append_assoc] at r
      exact r
theorem r_pc11 {i W H a P : Nat} {f dd wi hi co : A} {h cm : Int32} (hP : P < 256) (hi4 : i < 4) (hW : W ≤ 4096) (hW1 : 1 ≤ W) (hH1 : 1 ≤ H) (b3 : wi i = nI W) (b4 : hi i = nI H) :
    F_X11_writePlanes_11 dd wi hi (nI i) (nI a) (nI P) (MwL h cm []) (ap f []) co = (if nI a = 17 then (fon (F_X11_listColours (nI i) (MwL h cm (pcH P W H)) dd wi hi co) (fun z164 s164 => F_X11_writePlanes_167 dd wi hi (nI i) (nI a) (nI P) (nI (stP W)) s164.1 (ap f (pcH P W H)) s164.2) (fun _ _ => fno)) else (F_X11_writePlanes_167 dd wi hi (nI i) (nI a) (nI P) (nI (stP W)) (MwL h cm (pcH P W H)) (ap f (pcH P W H)) co)) := by
  unfold F_X11_writePlanes_11
  have e2 : nI W + (nI W - nI W / 2 * 2) = nI (stP W) := by
    rw [show (2 : Int32) = nI 2 from rfl, pk_div (by omega) (by omega) (by omega), pk_mul, pk_sub (by omega), nI_add]
    congr 1
    unfold stP
    omega
  rw [nI_clamp (by omega), b3, b4, e2, show nI W - 1 = nI (W - 1) from pk_sub (b := 1) hW1, show nI H - 1 = nI (H - 1) from pk_sub (b := 1) hH1, if_pos (inb_nI hi4 (by omega)), if_pos (inb_nI hi4 (by omega))]
  rw [r_put _ _ _ (by decide), fon_fok]
  dsimp only
  rw [r_put _ _ _ (by simp), fon_fok]
  dsimp only
  rw [r_put _ _ _ (by simp), fon_fok]
  dsimp only
  rw [r_put _ _ _ (by simp), fon_fok]
  dsimp only
  rw [r_low4 _ _ _ (by simp), fon_fok, if_pos (inb_nI hi4 (by omega))]
  dsimp only
  rw [r_low2 _ _ _ (by simp [le4]), fon_fok, if_pos (inb_nI hi4 (by omega))]
  dsimp only
  rw [r_low2 _ _ _ (by simp [le4, le2]), fon_fok]
  dsimp only
  rw [r_low2 _ _ _ (by simp [le4, le2]), fon_fok]
  dsimp only
  rw [r_low2 _ _ _ (by simp [le4, le2]), fon_fok]
  dsimp only
  rw [show ([] ++ [ch 10 0] ++ [ch 5 0] ++ [ch 1 0] ++ [ch 8 0] ++ le4 0 ++ le2 (nI (W - 1)) ++ le2 (nI (H - 1)) ++ le2 72 ++ le2 72) = pcA W H from rfl]
  have hA := pcA_len W H
  rw [r_pc100 hP (by omega), r_pc138 (by simp only [List.length_append, List.length_replicate, List.length_singleton, le2, List.length_cons, List.length_nil]; omega)]
  rfl
theorem r_pcx {i W H a : Nat} {f d dd wi hi co : A} {h cm : Int32} (ha : a = 16 ∨ a = 17) (hi4 : i < 4) (hW : W ≤ 4096) (hH : H ≤ 4096) (hW1 : 1 ≤ W) (hH1 : 1 ≤ H) (hT : W * H ≤ 4096) (b3 : wi i = nI W) (b4 : hi i = nI H) (hd : ∀ q, q < W * H → d q = dd (4096 * i + q)) (hl : a = 17 → (dl d (W * H)).length ≤ 256) :
    ∃ cm2 co2, F_X11_writePlanes (nI i) (nI a) (MwL h cm []) (ap f []) dd wi hi co = fok () (MwL h cm2 (if a = 16 then pcL 3 W H [] d else pcL 1 W H (dl d (W * H)) d), ap f (if a = 16 then pcL 3 W H [] d else pcL 1 W H (dl d (W * H)) d), co2) := by
  unfold F_X11_writePlanes
  rcases ha with rfl | rfl
  · refine ⟨cm, co, ?_⟩
    rw [if_pos (c := nI 16 = 16) rfl, show (3 : Int32) = nI 3 from rfl, r_pc11 (by omega) hi4 hW hW1 hH1 b3 b4, if_neg (c := nI 16 = 17) (by decide), if_pos rfl]
    exact r_pc167 (l := []) (Or.inl ⟨rfl, rfl⟩) hi4 hW hH hT b3 b4 hd (fun e => absurd e (by decide)) (fun e => absurd e (by decide))
  · have h8 := hl rfl
    obtain ⟨co2, e, hc⟩ := li_eq (co := co) hi4 hT b3 b4 hd h8 (nI (pcH 1 W H).length) h cm
    refine ⟨nI (dl d (W * H)).length, co2, ?_⟩
    rw [if_neg (c := nI 17 = 16) (by decide), show (1 : Int32) = nI 1 from rfl, r_pc11 (by omega) hi4 hW hW1 hH1 b3 b4, if_pos (c := nI 17 = 17) rfl, show F_X11_listColours (nI i) (MwL h cm (pcH 1 W H)) dd wi hi co = _ from e, fon_fok, if_neg (c := 17 = 16) (by decide)]
    exact r_pc167 (Or.inr ⟨rfl, rfl⟩) hi4 hW hH hT b3 b4 hd (fun _ => ⟨h8, dl_nd _ _, fun p hp => (dl_mem d _).mpr ⟨p, hp, rfl⟩⟩) (fun _ => ⟨hc, rfl⟩)
