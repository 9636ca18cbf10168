theorem r_tgH {a D n i W H : Nat} {f dd wi hi co : A} {h cm : Int32} (ha : okA a) (hD : D = 3 ∨ D = 4) (hg : kT a = 3 → D = 3) (hn : kT a = 1 → cm = nI n) (hn0 : kT a ≠ 1 → n = 0) (hi4 : i < 4) (b3 : wi i = nI W) (b4 : hi i = nI H) :
    F_X11_writeTarga_56 dd wi hi (nI i) (nI a) (nI D) (nI (p4 (kT a))) (nI (g5 (kT a))) (MwL h cm []) (ap f []) co = (if kT a = 1 then lp (fun _ _ _ _ _ _ _ _ _ => fno) (F_X11_writeTarga_254 dd wi hi) FU (nI i) (nI a) (nI D) (nI (p4 (kT a))) (nI (g5 (kT a))) 0 (MwL h cm (tgH a D n W H)) (ap f (tgH a D n W H)) co else F_X11_writeTarga_281 dd wi hi (nI i) (nI a) (nI D) (nI (p4 (kT a))) (nI (g5 (kT a))) (MwL h cm (tgH a D n W H)) (ap f (tgH a D n W H)) co) := by
  obtain ⟨h1, h2⟩ := ha
  unfold F_X11_writeTarga_56 F_X11_writeTarga_72 F_X11_writeTarga_130 F_X11_writeTarga_153 F_X11_writeTarga_171 F_X11_writeTarga_213 F_X11_writeTarga_222 F_X11_writeTarga_241 F_X11_writeTarga_243
  have fin : ∀ (t0 t1 t2 t3 t4 : Int32) (tn : MW → Int32) (kk : MW → A → Out (MW × A × A) Unit), ch t0 0 = (if kT a = 1 then 1 else 0) → ch t1 0 = tT a → (∀ L, tn (MwL h cm L) = nI n) → ch t2 0 = (if kT a = 1 then 8 * D else 0) → ch t3 0 = (if kT a = 2 then 8 * D else 8) → ch t4 0 = (if D = 4 then 40 else 32) → fon (F_X11_put_ 0 (MwL h cm []) (ap f [])) (fun z58 s58 => fon (F_X11_put_ t0 s58.1 s58.2) (fun z72 s72 => fon (F_X11_put_ t1 s72.1 s72.2) (fun z130 s130 => fon (F_X11_putLow 0 2 s130.1 s130.2) (fun z136 s136 => fon (F_X11_putLow (tn s136.1) 2 s136.1 s136.2) (fun z154 s154 => fon (F_X11_put_ t2 s154.1 s154.2) (fun z171 s171 => fon (F_X11_putLow 0 4 s171.1 s171.2) (fun z177 s177 => if inb (nI i) 4 then (fon (F_X11_putLow (wi (Int32.toNatClampNeg (nI i))) 2 s177.1 s177.2) (fun z188 s188 => if inb (nI i) 4 then (fon (F_X11_putLow (hi (Int32.toNatClampNeg (nI i))) 2 s188.1 s188.2) (fun z199 s199 => fon (F_X11_put_ t3 s199.1 s199.2) (fun z222 s222 => fon (F_X11_put_ t4 s222.1 s222.2) (fun z243 s243 => kk s243.1 s243.2) (fun _ _ => fno)) (fun _ _ => fno)) (fun _ _ => fno)) else fno) (fun _ _ => fno)) else fno) (fun _ _ => fno)) (fun _ _ => fno)) (fun _ _ => fno)) (fun _ _ => fno)) (fun _ _ => fno)) (fun _ _ => fno)) (fun _ _ => fno) = kk (MwL h cm (tgH a D n W H)) (ap f (tgH a D n W H)) := by
    intro t0 t1 t2 t3 t4 tn kk e0 e1 en e2 e3 e4
    rw [nI_clamp (by omega), b3, b4]
    rw [r_put _ _ _ (by decide), fon_fok]
    dsimp only
    rw [r_put _ _ _ (by simp), fon_fok]
    dsimp only
    rw [r_put _ _ _ (by simp), fon_fok]
    dsimp only
    rw [r_low2 _ _ _ (by simp), fon_fok]
    dsimp only
    rw [en, r_low2 _ _ _ (by simp [le2]), fon_fok]
    dsimp only
    rw [r_put _ _ _ (by simp [le2]), fon_fok]
    dsimp only
    rw [r_low4 _ _ _ (by simp [le2]), fon_fok, if_pos (inb_nI hi4 (by omega))]
    dsimp only
    rw [r_low2 _ _ _ (by simp [le2, le4]), fon_fok, if_pos (inb_nI hi4 (by omega))]
    dsimp only
    rw [r_low2 _ _ _ (by simp [le2, le4]), fon_fok]
    dsimp only
    rw [r_put _ _ _ (by simp [le2, le4]), fon_fok]
    dsimp only
    rw [r_put _ _ _ (by simp [le2, le4]), fon_fok, e0, e1, e2, e3, e4, show ch 0 0 = 0 from by decide]
    rfl
  rcases (by omega : a = 10 ∨ a = 11 ∨ a = 12 ∨ a = 13 ∨ a = 14 ∨ a = 15) with rfl | rfl | rfl | rfl | rfl | rfl
  · have hn2 := hn0 (by decide); subst hn2
    rw [if_neg (c := kT 10 = 1) (by decide)]
    rcases hD with rfl | rfl
    · exact fin 0 2 0 24 32 (fun _ => 0) (fun mw mu => F_X11_writeTarga_281 dd wi hi (nI i) (nI 10) (nI 3) (nI (p4 (kT 10))) (nI (g5 (kT 10))) mw mu co) (by decide) (by decide) (fun _ => rfl) (by decide) (by decide) (by decide)
    · exact fin 0 2 0 32 40 (fun _ => 0) (fun mw mu => F_X11_writeTarga_281 dd wi hi (nI i) (nI 10) (nI 4) (nI (p4 (kT 10))) (nI (g5 (kT 10))) mw mu co) (by decide) (by decide) (fun _ => rfl) (by decide) (by decide) (by decide)
  · have hn2 := hn0 (by decide); subst hn2
    rw [if_neg (c := kT 11 = 1) (by decide)]
    rcases hD with rfl | rfl
    · exact fin 0 10 0 24 32 (fun _ => 0) (fun mw mu => F_X11_writeTarga_281 dd wi hi (nI i) (nI 11) (nI 3) (nI (p4 (kT 11))) (nI (g5 (kT 11))) mw mu co) (by decide) (by decide) (fun _ => rfl) (by decide) (by decide) (by decide)
    · exact fin 0 10 0 32 40 (fun _ => 0) (fun mw mu => F_X11_writeTarga_281 dd wi hi (nI i) (nI 11) (nI 4) (nI (p4 (kT 11))) (nI (g5 (kT 11))) mw mu co) (by decide) (by decide) (fun _ => rfl) (by decide) (by decide) (by decide)
  · have hn2 := hn0 (by decide); subst hn2
    rw [if_neg (c := kT 12 = 1) (by decide)]
    have hD3 := hg (by decide); subst hD3
    exact fin 0 3 0 8 32 (fun _ => 0) (fun mw mu => F_X11_writeTarga_281 dd wi hi (nI i) (nI 12) (nI 3) (nI (p4 (kT 12))) (nI (g5 (kT 12))) mw mu co) (by decide) (by decide) (fun _ => rfl) (by decide) (by decide) (by decide)
  · have hn2 := hn0 (by decide); subst hn2
    rw [if_neg (c := kT 13 = 1) (by decide)]
    have hD3 := hg (by decide); subst hD3
    exact fin 0 11 0 8 32 (fun _ => 0) (fun mw mu => F_X11_writeTarga_281 dd wi hi (nI i) (nI 13) (nI 3) (nI (p4 (kT 13))) (nI (g5 (kT 13))) mw mu co) (by decide) (by decide) (fun _ => rfl) (by decide) (by decide) (by decide)
  · have hn2 := hn (by decide); subst hn2
    rw [if_pos (c := kT 14 = 1) (by decide)]
    rcases hD with rfl | rfl
    · exact fin 1 1 24 8 32 mw_cm (fun mw mu => lp (fun _ _ _ _ _ _ _ _ _ => fno) (F_X11_writeTarga_254 dd wi hi) FU (nI i) (nI 14) (nI 3) (nI (p4 (kT 14))) (nI (g5 (kT 14))) 0 mw mu co) (by decide) (by decide) (fun _ => rfl) (by decide) (by decide) (by decide)
    · exact fin 1 1 32 8 40 mw_cm (fun mw mu => lp (fun _ _ _ _ _ _ _ _ _ => fno) (F_X11_writeTarga_254 dd wi hi) FU (nI i) (nI 14) (nI 4) (nI (p4 (kT 14))) (nI (g5 (kT 14))) 0 mw mu co) (by decide) (by decide) (fun _ => rfl) (by decide) (by decide) (by decide)
  · have hn2 := hn (by decide); subst hn2
    rw [if_pos (c := kT 15 = 1) (by decide)]
    rcases hD with rfl | rfl
    · exact fin 1 9 24 8 32 mw_cm (fun mw mu => lp (fun _ _ _ _ _ _ _ _ _ => fno) (F_X11_writeTarga_254 dd wi hi) FU (nI i) (nI 15) (nI 3) (nI (p4 (kT 15))) (nI (g5 (kT 15))) 0 mw mu co) (by decide) (by decide) (fun _ => rfl) (by decide) (by decide) (by decide)
    · exact fin 1 9 32 8 40 mw_cm (fun mw mu => lp (fun _ _ _ _ _ _ _ _ _ => fno) (F_X11_writeTarga_254 dd wi hi) FU (nI i) (nI 15) (nI 4) (nI (p4 (kT 15))) (nI (g5 (kT 15))) 0 mw mu co) (by decide) (by decide) (fun _ => rfl) (by decide) (by decide) (by decide)
theorem r_281 {a D i W H : Nat} {l : List Int32} {f d dd wi hi co : A} {h cm : Int32} {M : List Nat} (ha : okA a) (hr : refT (kT a) D i W H l d dd wi hi co cm) (hM : M.length ≤ 2000) :
    F_X11_writeTarga_281 dd wi hi (nI i) (nI a) (nI D) (nI (p4 (kT a))) (nI (g5 (kT a))) (MwL h cm M) (ap f M) co = fok () (MwL h cm (M ++ tgR a D W H l d), ap f (M ++ tgR a D W H l d), co) := by
  obtain ⟨hk, hi4, hW, hH, hT, b3, b4, hd, hl, hc, hg⟩ := id hr
  have hR := tgR_le (a := a) hk.2 l d hT
  unfold F_X11_writeTarga_281
  have q := lp_M (z := fun _ _ _ _ _ _ _ _ _ => fno) (f := F_X11_writeTarga_284 dd wi hi) (fun m k => ∀ y, y + m = H → k (nI i) (nI a) (nI D) (nI (p4 (kT a))) (nI (g5 (kT a))) (nI y) (MwL h cm (M ++ cat (rowT a D W l d) y)) (ap f (M ++ cat (rowT a D W l d) y)) co = fok () (MwL h cm (M ++ tgR a D W H l d), ap f (M ++ tgR a D W H l d), co)) ?_ H (by omega)
  · have r := q 0 (by omega)
    rw [show cat (rowT a D W l d) 0 = [] from rfl, List.append_nil] at r
    exact r
  · intro m k ih y hy
    unfold F_X11_writeTarga_284
    rw [if_pos (inb_nI hi4 (by omega)), nI_clamp (by omega), b4]
    by_cases c0 : m = 0
    · have : y = H := by omega
      subst this
      rw [if_pos (Int32.le_refl _)]
      rfl
    have hb := cat_le (rowT a D W l d) (show y ≤ H by omega)
    have hb2 : (cat (rowT a D W l d) y).length ≤ (tgR a D W H l d).length := hb
    have r := ih (m - 1) (by omega) (y + 1) (by omega)
    rw [cat_s, ← List.append_assoc] at r
    rw [if_neg (nI_ge (by omega) (by omega)), r_rowT (by unfold okA at ha; omega) hr (by omega) k (by rw [List.length_append]; omega)]
    exact r
theorem r_tga {i W H a : Nat} {f d dd wi hi co : A} {h cm : Int32} (ha : okA a) (z : Int32) (hz : F_X11_isOpaque (nI i) dd wi hi = fok z ()) (hz3 : kT a = 3 → z ≠ 0) (hg : kT a = 3 → ∀ p, p < W * H → ch (d p) 24 = ch (d p) 8) (hi4 : i < 4) (hW : W ≤ 4096) (hH : H ≤ 4096) (hT : W * H ≤ 4096) (b3 : wi i = nI W) (b4 : hi i = nI H) (hd : ∀ p, p < W * H → d p = dd (4096 * i + p)) (hl : kT a = 1 → (dl d (W * H)).length ≤ 256) :
    ∃ cm2 co2, F_X11_writeTarga (nI i) (nI a) (MwL h cm []) (ap f []) dd wi hi co = fok () (MwL h cm2 (tgL a (if z = 0 then 4 else 3) (if kT a = 1 then dl d (W * H) else []).length W H (if kT a = 1 then dl d (W * H) else []) d), ap f (tgL a (if z = 0 then 4 else 3) (if kT a = 1 then dl d (W * H) else []).length W H (if kT a = 1 then dl d (W * H) else []) d), co2) := by
  have hD : (if z = 0 then 4 else 3) = 3 ∨ (if z = 0 then 4 else 3) = 4 := by split <;> omega
  have hD3 : kT a = 3 → (if z = 0 then 4 else 3) = 3 := fun e => if_neg (hz3 e)
  have e1 : F_X11_writeTarga (nI i) (nI a) (MwL h cm []) (ap f []) dd wi hi co = F_X11_writeTarga_13 dd wi hi (nI i) (nI a) (nI (if z = 0 then 4 else 3)) (MwL h cm []) (ap f []) co := by
    unfold F_X11_writeTarga
    rw [hz, fon_fok]
    by_cases c : z = 0
    · rw [if_pos c, if_pos c]; rfl
    · rw [if_neg c, if_neg c]; rfl
  rw [e1]
  generalize (if z = 0 then 4 else 3) = D at *
  have e2 : F_X11_writeTarga_13 dd wi hi (nI i) (nI a) (nI D) (MwL h cm []) (ap f []) co = F_X11_writeTarga_44 dd wi hi (nI i) (nI a) (nI D) (nI (p4 (kT a))) (nI (g5 (kT a))) (MwL h cm []) (ap f []) co := by
    unfold okA at ha
    unfold F_X11_writeTarga_13 F_X11_writeTarga_25 F_X11_writeTarga_39
    rcases (by omega : a = 10 ∨ a = 11 ∨ a = 12 ∨ a = 13 ∨ a = 14 ∨ a = 15) with rfl | rfl | rfl | rfl | rfl | rfl
    · rw [if_pos (c := nI 10 < 14) (by decide), if_neg (c := nI 10 = 12) (by decide), if_neg (c := nI 10 = 13) (by decide)]; rfl
    · rw [if_pos (c := nI 11 < 14) (by decide), if_neg (c := nI 11 = 12) (by decide), if_neg (c := nI 11 = 13) (by decide)]; rfl
    · rw [if_pos (c := nI 12 < 14) (by decide), if_pos (c := nI 12 = 12) (by decide)]; rfl
    · rw [if_pos (c := nI 13 < 14) (by decide), if_neg (c := nI 13 = 12) (by decide), if_pos (c := nI 13 = 13) (by decide)]; rfl
    · rw [if_neg (c := nI 14 < 14) (by decide), if_neg (c := nI 14 = 12) (by decide), if_neg (c := nI 14 = 13) (by decide)]; rfl
    · rw [if_neg (c := nI 15 < 14) (by decide), if_neg (c := nI 15 = 12) (by decide), if_neg (c := nI 15 = 13) (by decide)]; rfl
  rw [e2]
  unfold F_X11_writeTarga_44
  by_cases c1 : kT a = 1
  · have h8 := hl c1
    obtain ⟨co2, e, hc⟩ := li_eq (co := co) hi4 hT b3 b4 hd h8 (nI ([] : List Nat).length) h cm
    have hnd := dl_nd d (W * H)
    have hmem : ∀ p, p < W * H → d p ∈ dl d (W * H) := fun p hp => (dl_mem d _).mpr ⟨p, hp, rfl⟩
    rw [if_pos c1, if_neg (c := nI (p4 (kT a)) = 0) (by rw [c1]; decide), e, fon_fok]
    generalize dl d (W * H) = l at *
    refine ⟨nI l.length, co2, ?_⟩
    have hr : refT (kT a) D i W H l d dd wi hi co2 (nI l.length) := ⟨okA_K hD, hi4, hW, hH, hT, b3, b4, hd, fun _ => ⟨h8, hnd, hmem⟩, fun _ => ⟨hc, rfl⟩, hg⟩
    dsimp only
    rw [show F_X11_writeTarga_56 dd wi hi (nI i) (nI a) (nI D) (nI (p4 (kT a))) (nI (g5 (kT a))) (nI ([] : List Nat).length, h, nI l.length) (ap f []) co2 = _ from r_tgH (n := l.length) ha hD hD3 (fun _ => rfl) (fun e => absurd c1 e) hi4 b3 b4, if_pos c1]
    have hTl := tgT_len hD l
    have hl4 : l.length * D ≤ 256 * 4 := Nat.mul_le_mul h8 (by omega)
    have q := lp_M (z := fun _ _ _ _ _ _ _ _ _ => fno) (f := F_X11_writeTarga_254 dd wi hi) (fun m k => ∀ j, j + m = l.length → k (nI i) (nI a) (nI D) (nI (p4 (kT a))) (nI (g5 (kT a))) (nI j) (MwL h (nI l.length) (tgH a D l.length W H ++ cat (fun j => colT D (l.getD j 0)) j)) (ap f (tgH a D l.length W H ++ cat (fun j => colT D (l.getD j 0)) j)) co2 = fok () (MwL h (nI l.length) (tgL a D l.length W H l d), ap f (tgL a D l.length W H l d), co2)) ?_ l.length (by omega)
    · have r := q 0 (by omega)
      rw [show cat (fun j => colT D (l.getD j 0)) 0 = [] from rfl, List.append_nil] at r
      exact r
    · intro m k ih j hj
      unfold F_X11_writeTarga_254
      dsimp only [mw_cm]
      by_cases c0 : m = 0
      · have : j = l.length := by omega
        subst this
        rw [if_pos (Int32.le_refl _)]
        exact r_281 (M := tgH a D l.length W H ++ tgT D l) ha hr (by rw [List.length_append, tgH_len, hTl]; omega)
      have hb := cat_lt (fun j => colT D (l.getD j 0)) (show j < l.length by omega)
      have hb2 : (cat (fun j => colT D (l.getD j 0)) j).length + (colT D (l.getD j 0)).length ≤ (tgT D l).length := hb
      have r := ih (m - 1) (by omega) (j + 1) (by omega)
      rw [cat_s, ← List.append_assoc] at r
      rw [if_neg (nI_ge (by omega) (by omega)), if_pos (inb_nI (by omega) (by omega)), nI_clamp (by omega), hc j (by omega), r_colT hD _ _ _ (by rw [List.length_append, tgH_len]; omega), fon_fok, nI_1]
      exact r
  · rw [if_neg c1, if_pos (c := nI (p4 (kT a)) = 0) (by unfold p4; rw [if_neg c1]; rfl)]
    refine ⟨cm, co, ?_⟩
    have hr : refT (kT a) D i W H [] d dd wi hi co cm := ⟨okA_K hD, hi4, hW, hH, hT, b3, b4, hd, fun e => absurd e c1, fun e => absurd e c1, hg⟩
    rw [r_tgH (n := 0) ha hD hD3 (fun e => absurd e c1) (fun _ => rfl) hi4 b3 b4, if_neg c1, r_281 (M := tgH a D 0 W H) ha hr (by rw [tgH_len]; omega)]
    have e3 : tgL a D ([] : List Int32).length W H [] d = tgH a D 0 W H ++ tgR a D W H [] d := by
      unfold tgL
      rw [show tgT D [] = [] from rfl, List.append_nil]
      rfl
    rw [e3]
