def ixo : List Int32 → Int32 → Nat
  | [], _ => 0
  | a :: l, v => if a = v then 0 else ixo l v + 1
theorem ixo_in {v : Int32} : ∀ {l : List Int32}, v ∈ l → ixo l v < l.length ∧ l.getD (ixo l v) 0 = v
  | [], h => by cases h
  | a :: l, h => by
    show (if a = v then 0 else ixo l v + 1) < l.length + 1 ∧ (a :: l).getD (if a = v then 0 else ixo l v + 1) 0 = v
    by_cases c : a = v
    · rw [if_pos c]; exact ⟨by omega, c⟩
    · rw [if_neg c]
      have h2 : v ∈ l := by
        cases h with
        | head => exact absurd rfl c
        | tail _ h => exact h
      obtain ⟨h3, h4⟩ := ixo_in h2
      exact ⟨by omega, h4⟩
theorem ixo_lt {v : Int32} : ∀ {l : List Int32} {j : Nat}, j < ixo l v → l.getD j 0 ≠ v
  | [], j, h => absurd h (Nat.not_lt_zero _)
  | a :: l, j, h => by
    have h : j < (if a = v then 0 else ixo l v + 1) := h
    by_cases c : a = v
    · rw [if_pos c] at h; omega
    · rw [if_neg c] at h
      cases j with
      | zero => exact c
      | succ j => exact ixo_lt (l := l) (by omega)
theorem co_eq {l : List Int32} {co : A} (hl : l.length ≤ 256) (hc : inA l co) (om ho v : Int32) : F_X11_colourOf v (om, ho, nI l.length) co = fok (if v ∈ l then nI (ixo l v) else -1) () := by
  unfold F_X11_colourOf
  have q := lp_M (z := fun _ _ => fno) (f := F_X11_colourOf_2 (om, ho, nI l.length) co) (fun m k => ∀ j, j + m = l.length → (∀ u, u < j → l.getD u 0 ≠ v) → k v (nI j) = fok (if v ∈ l then nI (ixo l v) else -1) ()) ?_ l.length (by omega)
  · exact q 0 (by omega) (fun u hu => absurd hu (by omega))
  · intro m k ih j hj hu
    unfold F_X11_colourOf_2
    dsimp only [mw_cm]
    by_cases c0 : m = 0
    · have : j = l.length := by omega
      subst this
      rw [if_pos (Int32.le_refl _), if_neg (fun h => by
        obtain ⟨h1, h2⟩ := ixo_in h
        exact hu _ h1 h2)]
    rw [if_neg (nI_ge (by omega) (by omega)), if_pos (inb_nI (by omega) (by omega)), nI_clamp (by omega), hc j (by omega)]
    by_cases c : l.getD j 0 = v
    · have hm : v ∈ l := by rw [← c]; exact getD_mem (by omega)
      rw [if_pos c, if_pos hm]
      have e : ixo l v = j := by
        obtain ⟨h1, h2⟩ := ixo_in hm
        rcases Nat.lt_trichotomy (ixo l v) j with e | e | e
        · exact absurd h2 (hu _ e)
        · exact e
        · exact absurd c (ixo_lt e)
      rw [e]
    · rw [if_neg c, nI_1]
      exact ih (m - 1) (by omega) (j + 1) (by omega) (fun u hu2 => by
        by_cases cu : u = j
        · rw [cu]; exact c
        · exact hu u (by omega))
theorem li_eq {i W H : Nat} {d dd wi hi co : A} (hi4 : i < 4) (hT : W * H ≤ 4096) (b3 : wi i = nI W) (b4 : hi i = nI H) (hd : ∀ p, p < W * H → d p = dd (4096 * i + p)) (hl : (dl d (W * H)).length ≤ 256) (om ho cm : Int32) :
    ∃ co2, F_X11_listColours (nI i) (om, ho, cm) dd wi hi co = fok () ((om, ho, nI (dl d (W * H)).length), co2) ∧ inA (dl d (W * H)) co2 := by
  unfold F_X11_listColours
  dsimp only [mw_om, mw_ho]
  have mono : ∀ j, j ≤ W * H → (dl d j).length ≤ (dl d (W * H)).length := by
    intro j hj
    have : ∀ k, (dl d j).length ≤ (dl d (j + k)).length := by
      intro k
      induction k with
      | zero => exact Nat.le_refl _
      | succ k ih =>
        rw [← Nat.add_assoc, dl_s]
        split
        · exact ih
        · rw [List.length_append]; omega
    have h2 := this (W * H - j)
    rw [show j + (W * H - j) = W * H from by omega] at h2
    exact h2
  have q := lp_M (z := fun _ _ _ _ => fno) (f := F_X11_listColours_7 dd wi hi) (fun m k => ∀ (j : Nat) (c : A), j + m = W * H → inA (dl d j) c → ∃ co2, k (nI i) (nI j) (om, ho, nI (dl d j).length) c = fok () ((om, ho, nI (dl d (W * H)).length), co2) ∧ inA (dl d (W * H)) co2) ?_ (W * H) (by omega)
  · exact q 0 co (by omega) (fun j hj => absurd hj (Nat.not_lt_zero _))
  · intro m k ih j c hj hc
    unfold F_X11_listColours_7 F_X11_listColours_57
    rw [ut_many hi4 b3 b4, fon_fok]
    by_cases c0 : m = 0
    · have : j = W * H := by omega
      subst this
      rw [if_pos (Int32.le_refl _)]
      exact ⟨c, rfl, hc⟩
    have hlj := mono j (by omega)
    have hlj1 := mono (j + 1) (by omega)
    have r := ih (m - 1) (by omega) (j + 1)
    rw [if_neg (nI_ge (by omega) (by omega)), ix_dd, if_pos (inb_nI (by omega) (by omega)), nI_clamp (by omega), ← hd j (by omega), co_eq (by omega) hc, fon_fok, nI_1]
    rw [dl_s] at r hlj1
    by_cases cm2 : d j ∈ dl d j
    · rw [if_pos cm2] at r hlj1
      rw [if_pos cm2, if_pos (nI_pos' (by have := (ixo_in cm2).1; omega))]
      exact r c (by omega) hc
    · rw [if_neg cm2] at r hlj1
      rw [List.length_append, List.length_singleton] at r hlj1
      dsimp only [mw_cm, mw_om, mw_ho]
      rw [if_neg cm2, if_neg (by decide), if_pos (inb_nI (by omega) (by omega)), nI_clamp (by omega), nI_1]
      exact r _ (by omega) (inA_snoc hc _)
theorem ch_shr (v s : Int32) (k : Nat) (hk : k ≤ 24) (hs : (s.toBitVec.smod 32).toNat = k) : ch (v >>> s) 0 = ch v k := by
  show (v >>> s).toBitVec.toNat / 2 ^ 0 % 256 = _
  rw [Nat.pow_zero, Nat.div_one, shr_tn v s k hk hs]
theorem ch_16_8 (v : Int32) : ch ((v >>> ((16 : Int32) &&& 31)) >>> ((8 : Int32) &&& 31)) 0 = ch v 24 := by
  rw [ch_shr _ _ 8 (by decide) (by decide)]
  have h := pk_shr v ((16 : Int32) &&& 31) 16 (by decide)
  have a1 := toI_cond (v >>> ((16 : Int32) &&& 31))
  have a2 := toI_cond v
  have b1 := tn_lt (v >>> ((16 : Int32) &&& 31))
  have b2 := tn_lt v
  rw [Int.shiftRight_eq_div_pow] at h
  unfold ch
  omega
def le4 (v : Int32) : List Nat := [ch v 0, ch v 8, ch v 16, ch v 24]
def le2 (v : Int32) : List Nat := [ch v 0, ch v 8]
theorem c_low2 {f : A} {L : List Nat} (v : Int32) (h : L.length + 2 ≤ 65536) : F_X1_addLow2 v (RwC f L) = fok () (RwC f (L ++ le2 v)) := by
  unfold F_X1_addLow2
  rw [c_add _ (by omega), fon_fok, c_add _ (by simp only [List.length_append, List.length_cons, List.length_nil]; omega), fon_fok, ch_shr _ _ 8 (by decide) (by decide), List.append_assoc]
  rfl
theorem c_low4 {f : A} {L : List Nat} (v : Int32) (h : L.length + 4 ≤ 65536) : F_X1_addLow4 v (RwC f L) = fok () (RwC f (L ++ le4 v)) := by
  unfold F_X1_addLow4 F_X1_addLow2
  rw [c_add _ (by omega), fon_fok, c_add _ (by simp only [List.length_append, List.length_cons, List.length_nil]; omega), fon_fok, fon_fok, c_add _ (by simp only [List.length_append, List.length_cons, List.length_nil]; omega), fon_fok, c_add _ (by simp only [List.length_append, List.length_cons, List.length_nil]; omega), fon_fok, fon_fok, ch_shr _ _ 8 (by decide) (by decide), ch_shr _ _ 16 (by decide) (by decide), ch_16_8, List.append_assoc, List.append_assoc, List.append_assoc]
  rfl
theorem r_low4 {f : A} {L : List Nat} (v a b : Int32) (h : L.length + 4 ≤ 65536) : F_X11_putLow v 4 (MwL a b L) (ap f L) = fok () (MwL a b (L ++ le4 v), ap f (L ++ le4 v)) := by
  unfold F_X11_putLow
  rw [lp_5]
  unfold F_X11_putLow_2
  rw [if_neg (c := (4 : Int32) ≤ 0) (by decide), r_put _ _ _ (by omega), fon_fok]
  dsimp only
  rw [if_neg (c := (4 : Int32) ≤ 0 + 1) (by decide), r_put _ _ _ (by simp only [List.length_append, List.length_cons, List.length_nil]; omega), fon_fok]
  dsimp only
  rw [if_neg (c := (4 : Int32) ≤ 0 + 1 + 1) (by decide), r_put _ _ _ (by simp only [List.length_append, List.length_cons, List.length_nil]; omega), fon_fok]
  dsimp only
  rw [if_neg (c := (4 : Int32) ≤ 0 + 1 + 1 + 1) (by decide), r_put _ _ _ (by simp only [List.length_append, List.length_cons, List.length_nil]; omega), fon_fok]
  dsimp only
  rw [if_pos (c := (4 : Int32) ≤ 0 + 1 + 1 + 1 + 1) (by decide), ch_shr _ _ 0 (by decide) (by decide), ch_shr _ _ 8 (by decide) (by decide), ch_shr _ _ 16 (by decide) (by decide), ch_shr _ _ 24 (by decide) (by decide), List.append_assoc, List.append_assoc, List.append_assoc]
  rfl
theorem r_low2 {f : A} {L : List Nat} (v a b : Int32) (h : L.length + 2 ≤ 65536) : F_X11_putLow v 2 (MwL a b L) (ap f L) = fok () (MwL a b (L ++ le2 v), ap f (L ++ le2 v)) := by
  unfold F_X11_putLow
  rw [lp_5]
  unfold F_X11_putLow_2
  rw [if_neg (c := (2 : Int32) ≤ 0) (by decide), r_put _ _ _ (by omega), fon_fok]
  dsimp only
  rw [if_neg (c := (2 : Int32) ≤ 0 + 1) (by decide), r_put _ _ _ (by simp only [List.length_append, List.length_cons, List.length_nil]; omega), fon_fok]
  dsimp only
  rw [if_pos (c := (2 : Int32) ≤ 0 + 1 + 1) (by decide), ch_shr _ _ 0 (by decide) (by decide), ch_shr _ _ 8 (by decide) (by decide), List.append_assoc]
  rfl
theorem c_zero {f : A} {L : List Nat} {n : Nat} (hn : n ≤ 4096) (h : L.length + n ≤ 65536) : F_X1_addZeros (nI n) (RwC f L) = fok () (RwC f (L ++ List.replicate n 0)) := by
  unfold F_X1_addZeros
  have q := lp_M (z := fun _ _ _ => fno) (f := F_X1_addZeros_2) (fun m k => ∀ j, j + m = n → k (nI n) (nI j) (RwC f (L ++ List.replicate j 0)) = fok () (RwC f (L ++ List.replicate n 0))) ?_ n (by omega)
  · have r := q 0 (by omega)
    rw [List.replicate_zero, List.append_nil] at r
    exact r
  · intro m k ih j hj
    unfold F_X1_addZeros_2
    by_cases c0 : m = 0
    · have : j = n := by omega
      subst this
      rw [if_pos (Int32.le_refl _)]
    · rw [if_neg (nI_ge (by omega) (by omega)), c_add _ (by rw [List.length_append, List.length_replicate]; omega), fon_fok, nI_1, show ch 0 0 = 0 from by decide]
      have r := ih (m - 1) (by omega) (j + 1) (by omega)
      rw [List.replicate_succ', ← List.append_assoc] at r
      exact r
def bgr (v : Int32) : List Nat := [ch v 8, ch v 16, ch v 24]
theorem c_bgr {f : A} {L : List Nat} (v : Int32) (h : L.length + 3 ≤ 65536) : F_X0_writeBlueFirst v (RwC f L) = fok () (RwC f (L ++ bgr v)) := by
  unfold F_X0_writeBlueFirst
  rw [c_add _ (by omega), fon_fok, c_add _ (by simp only [List.length_append, List.length_cons, List.length_nil]; omega), fon_fok, c_add _ (by simp only [List.length_append, List.length_cons, List.length_nil]; omega), fon_fok, red_ch, green_ch, blue_ch, ch_nI (ch_lt _ _), ch_nI (ch_lt _ _), ch_nI (ch_lt _ _), List.append_assoc, List.append_assoc]
  rfl
theorem r_bgr {f : A} {L : List Nat} (v a b : Int32) (h : L.length + 3 ≤ 65536) : F_X11_putBack v 3 (MwL a b L) (ap f L) = fok () (MwL a b (L ++ bgr v), ap f (L ++ bgr v)) := by
  unfold F_X11_putBack
  rw [r_put _ _ _ (by omega), fon_fok]
  dsimp only
  rw [r_put _ _ _ (by simp only [List.length_append, List.length_cons, List.length_nil]; omega), fon_fok]
  dsimp only
  rw [r_put _ _ _ (by simp only [List.length_append, List.length_cons, List.length_nil]; omega), fon_fok, if_neg (by decide), ch_shr _ _ 8 (by decide) (by decide), ch_shr _ _ 16 (by decide) (by decide), ch_shr _ _ 24 (by decide) (by decide), List.append_assoc, List.append_assoc]
  rfl
theorem r_bgra {f : A} {L : List Nat} (v a b : Int32) (h : L.length + 4 ≤ 65536) : F_X11_putBack v 4 (MwL a b L) (ap f L) = fok () (MwL a b (L ++ (bgr v ++ [ch v 0])), ap f (L ++ (bgr v ++ [ch v 0]))) := by
  unfold F_X11_putBack
  rw [r_put _ _ _ (by omega), fon_fok]
  dsimp only
  rw [r_put _ _ _ (by simp only [List.length_append, List.length_cons, List.length_nil]; omega), fon_fok]
  dsimp only
  rw [r_put _ _ _ (by simp only [List.length_append, List.length_cons, List.length_nil]; omega), fon_fok, if_pos (c := (4 : Int32) = 4) rfl]
  dsimp only
  rw [r_put _ _ _ (by simp only [List.length_append, List.length_cons, List.length_nil]; omega), fon_fok, ch_shr _ _ 8 (by decide) (by decide), ch_shr _ _ 16 (by decide) (by decide), ch_shr _ _ 24 (by decide) (by decide), List.append_assoc, List.append_assoc, List.append_assoc]
  rfl
/-- four bytes set anew -/
def set4 (L : List Nat) (p : Nat) (v : Int32) : List Nat := (((L.set p (ch v 0)).set (p + 1) (ch v 8)).set (p + 2) (ch v 16)).set (p + 3) (ch v 24)
theorem set4_len (L : List Nat) (p : Nat) (v : Int32) : (set4 L p v).length = L.length := by
  unfold set4; rw [List.length_set, List.length_set, List.length_set, List.length_set]
theorem ap_set {f : A} {L : List Nat} {p : Nat} (h : p < L.length) (v : Int32) (n : Nat) (hv : ch v 0 = n) : upd (ap f L) p (b8 v) = ap f (L.set p n) := by
  funext q
  unfold upd ap
  rw [List.length_set]
  by_cases c : q = p
  · subst c
    rw [if_pos rfl, if_pos h, List.getD_eq_getElem?_getD, List.getElem?_set_self h, ← hv]
    exact b8_0 v
  · rw [if_neg c, List.getD_eq_getElem?_getD, List.getD_eq_getElem?_getD, List.getElem?_set_ne (Ne.symm c)]
theorem c_set4 {f : A} {L : List Nat} {p : Nat} (v : Int32) (h : p + 4 ≤ L.length) (hL : L.length ≤ 65536) : F_X1_setLow4 (nI p) v (RwC f L) = fok () (RwC f (set4 L p v)) := by
  unfold F_X1_setLow4
  dsimp only [y_n]
  rw [if_neg (nI_pos (by omega)), show nI L.length - 4 = nI (L.length - 4) from pk_sub (b := 4) (by omega), if_pos (nI_le (by omega) (by omega)), lp_5]
  unfold F_X1_setLow4_17
  dsimp only [y_n, y_b]
  rw [if_neg (c := (4 : Int32) ≤ 0) (by decide), if_neg (c := (4 : Int32) ≤ 0 + 1) (by decide), if_neg (c := (4 : Int32) ≤ 0 + 1 + 1) (by decide), if_neg (c := (4 : Int32) ≤ 0 + 1 + 1 + 1) (by decide), if_pos (c := (4 : Int32) ≤ 0 + 1 + 1 + 1 + 1) (by decide)]
  rw [show nI p + 0 = nI p from nI_add p 0, show nI p + (0 + 1) = nI (p + 1) from nI_add p 1, show nI p + (0 + 1 + 1) = nI (p + 2) from nI_add p 2, show nI p + (0 + 1 + 1 + 1) = nI (p + 3) from nI_add p 3, if_pos (inb_nI (by omega) (by omega)), if_pos (inb_nI (by omega) (by omega)), if_pos (inb_nI (by omega) (by omega)), if_pos (inb_nI (by omega) (by omega)), nI_clamp (by omega), nI_clamp (by omega), nI_clamp (by omega), nI_clamp (by omega)]
  show fok () (nI L.length, upd (upd (upd (upd (ap f L) p (b8 (v >>> ((8 * 0 : Int32) &&& 31)))) (p + 1) (b8 (v >>> ((8 * (0 + 1) : Int32) &&& 31)))) (p + 2) (b8 (v >>> ((8 * (0 + 1 + 1) : Int32) &&& 31)))) (p + 3) (b8 (v >>> ((8 * (0 + 1 + 1 + 1) : Int32) &&& 31)))) = fok () (nI (set4 L p v).length, ap f (set4 L p v))
  rw [set4_len, ap_set (by omega) _ _ (ch_shr v _ 0 (by decide) (by decide)), ap_set (by rw [List.length_set]; omega) _ _ (ch_shr v _ 8 (by decide) (by decide)), ap_set (by rw [List.length_set, List.length_set]; omega) _ _ (ch_shr v _ 16 (by decide) (by decide)), ap_set (by rw [List.length_set, List.length_set, List.length_set]; omega) _ _ (ch_shr v _ 24 (by decide) (by decide))]
  rfl
theorem r_mend {f : A} {L : List Nat} {p : Nat} (v : Int32) (h : p + 4 ≤ L.length) (hL : L.length ≤ 65536) : F_X11_mend (nI p) v (ap f L) = fok () (ap f (set4 L p v)) := by
  unfold F_X11_mend
  rw [lp_5]
  unfold F_X11_mend_2
  rw [if_neg (c := (4 : Int32) ≤ 0) (by decide), if_neg (c := (4 : Int32) ≤ 0 + 1) (by decide), if_neg (c := (4 : Int32) ≤ 0 + 1 + 1) (by decide), if_neg (c := (4 : Int32) ≤ 0 + 1 + 1 + 1) (by decide), if_pos (c := (4 : Int32) ≤ 0 + 1 + 1 + 1 + 1) (by decide)]
  rw [show nI p + 0 = nI p from nI_add p 0, show nI p + (0 + 1) = nI (p + 1) from nI_add p 1, show nI p + (0 + 1 + 1) = nI (p + 2) from nI_add p 2, show nI p + (0 + 1 + 1 + 1) = nI (p + 3) from nI_add p 3, if_pos (inb_nI (by omega) (by omega)), if_pos (inb_nI (by omega) (by omega)), if_pos (inb_nI (by omega) (by omega)), if_pos (inb_nI (by omega) (by omega)), nI_clamp (by omega), nI_clamp (by omega), nI_clamp (by omega), nI_clamp (by omega)]
  show fok () (upd (upd (upd (upd (ap f L) p (b8 (v >>> ((8 * 0 : Int32) &&& 31)))) (p + 1) (b8 (v >>> ((8 * (0 + 1) : Int32) &&& 31)))) (p + 2) (b8 (v >>> ((8 * (0 + 1 + 1) : Int32) &&& 31)))) (p + 3) (b8 (v >>> ((8 * (0 + 1 + 1 + 1) : Int32) &&& 31)))) = fok () (ap f (set4 L p v))
  rw [ap_set (by omega) _ _ (ch_shr v _ 0 (by decide) (by decide)), ap_set (by rw [List.length_set]; omega) _ _ (ch_shr v _ 8 (by decide) (by decide)), ap_set (by rw [List.length_set, List.length_set]; omega) _ _ (ch_shr v _ 16 (by decide) (by decide)), ap_set (by rw [List.length_set, List.length_set, List.length_set]; omega) _ _ (ch_shr v _ 24 (by decide) (by decide))]
  rfl
