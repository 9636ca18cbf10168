theorem st_d : ∀ a, a < 65 → ∀ b, b < 64 → (nI (64 * a + b) + 1) &&& (-2) = nI (stP (64 * a + b)) := by decide +kernel
theorem st_c (W : Nat) (h : W < 4097) : (nI W + 1) &&& (-2) = nI (stP W) := by
  have := st_d (W / 64) (by omega) (W % 64) (by omega)
  rw [show 64 * (W / 64) + W % 64 = W from by omega] at this
  exact this
theorem c_pcH {x : Ras} {P W H : Nat} {f : A} (hP : P = 1 ∨ P = 3) (b1 : x_w x = nI W) (b2 : x_g x = nI H) (hW1 : 1 ≤ W) (hH1 : 1 ≤ H) : F_X4_writeHeader (nI P) (nI (stP W)) x (RwC f []) = fok () (RwC f (pcH P W H)) := by
  unfold F_X4_writeHeader
  rw [b1, b2, show nI W - 1 = nI (W - 1) from pk_sub (b := 1) hW1, show nI H - 1 = nI (H - 1) from pk_sub (b := 1) hH1]
  rw [c_add _ (by decide), fon_fok, c_add _ (by simp), fon_fok, c_add _ (by simp), fon_fok, c_add _ (by simp), fon_fok, c_low4 _ (by simp), fon_fok, c_low2 _ (by simp [le4]), fon_fok, c_low2 _ (by simp [le4, le2]), fon_fok, c_low2 _ (by simp [le4, le2]), fon_fok, c_low2 _ (by simp [le4, le2]), fon_fok, show (49 : Int32) = nI 49 from rfl, c_zero (by omega) (by simp [le4, le2]), fon_fok, c_add _ (by simp [le4, le2]), fon_fok, c_low2 _ (by simp [le4, le2]), fon_fok, c_add _ (by simp [le4, le2]), fon_fok, show (59 : Int32) = nI 59 from rfl, c_zero (by omega) (by simp [le4, le2]), fon_fok, ch_nI (n := P) (by omega)]
  rfl
theorem c_tbP {l : List Int32} {pl : Pal} {f : A} {L : List Nat} (hP : PalI l pl) (hl : l.length ≤ 256) (hB : L.length + 769 ≤ 65536) : F_X4_writeTable (RwC f L) pl = fok () (RwC f (L ++ tbP l)) := by
  unfold F_X4_writeTable tbP
  rw [c_add _ (by omega), fon_fok, show ch 12 0 = 12 from by decide, ← List.append_assoc]
  have hM : (L ++ [12]).length + 768 ≤ 65536 := by rw [List.length_append, List.length_singleton]; omega
  generalize L ++ [12] = M at *
  have hlen : ∀ j, (cat (fun j => rgb3 (l.getD j 0)) j).length = j * 3 := fun j => cat_len _ 3 (fun _ _ => rfl)
  have q := lp_M (z := fun _ _ => fno) (f := F_X4_writeTable_8 pl) (fun m k => ∀ j, j + m = 256 → k (nI j) (RwC f (M ++ cat (fun j => rgb3 (l.getD j 0)) j)) = fok () (RwC f (M ++ cat (fun j => rgb3 (l.getD j 0)) 256))) ?_ 256 (by omega)
  · have r := q 0 (by omega)
    rw [show cat (fun j => rgb3 (l.getD j 0)) 0 = [] from rfl, List.append_nil] at r
    exact r
  · intro m k ih j hj
    unfold F_X4_writeTable_8
    by_cases c0 : m = 0
    · have : j = 256 := by omega
      subst this
      rw [if_pos (c := 256 ≤ nI 256) (by decide)]
    have h1 := hlen j
    have r := ih (m - 1) (by omega) (j + 1) (by omega)
    rw [cat_s, ← List.append_assoc] at r
    have eg : F_X3_get (nI j) pl = fok (l.getD j 0) () := by
      by_cases c : j < l.length
      · exact ut_palget hP (by omega) c
      · rw [ut_palget0 hP (by omega) (by omega) (by omega), List.getD_eq_getElem?_getD, List.getElem?_eq_none (by omega)]
        rfl
    rw [if_neg (c := 256 ≤ nI j) (nI_ge (b := 256) (by omega) (by omega)), eg, fon_fok, red_ch, green_ch, blue_ch, c_add _ (by rw [List.length_append]; omega), fon_fok, c_add _ (by simp only [List.length_append, List.length_singleton]; omega), fon_fok, c_add _ (by simp only [List.length_append, List.length_singleton]; omega), fon_fok, nI_1, ch_nI (ch_lt _ _), ch_nI (ch_lt _ _), ch_nI (ch_lt _ _), List.append_assoc (_ ++ _ ++ _), List.append_assoc (_ ++ _)]
    exact r
theorem c_pc50 {x : Ras} {P W H : Nat} {l : List Int32} {pl : Pal} {f : A} (hP13 : P = 1 ∨ P = 3) (hP : P = 1 → PalI l pl) (hl : palT P (W * H) (x_p x) l) (b1 : x_w x = nI W) (b2 : x_g x = nI H) (hW : W ≤ 4096) (hW1 : 1 ≤ W) (hH : H ≤ 4096) (hT : W * H ≤ 4096) :
    lp (fun _ _ _ _ _ => fno) (F_X4_encode_50 x) FU (nI P) (nI (stP W)) 0 (RwC f (pcH P W H)) pl = fok () (RwC f (pcL P W H l (x_p x)), pl) := by
  have hR := rwP_le hP13 hH hT l (x_p x)
  have e1 : nI P = 1 ↔ P = 1 := nI_inj (b := 1) (by omega) (by omega)
  have q := lp_M (z := fun _ _ _ _ _ => fno) (f := F_X4_encode_50 x) (fun m k => ∀ y, y + m = H → k (nI P) (nI (stP W)) (nI y) (RwC f (pcH P W H ++ cat (fun y => cat (lnP P W l (x_p x) y) P) y)) pl = fok () (RwC f (pcL P W H l (x_p x)), pl)) ?_ H (by omega)
  · have r := q 0 (by omega)
    rw [show cat (fun y => cat (lnP P W l (x_p x) y) P) 0 = [] from rfl, List.append_nil] at r
    exact r
  · intro m k50 ih y hy
    unfold F_X4_encode_50
    rw [b2]
    by_cases c0 : m = 0
    · have : y = H := by omega
      subst this
      rw [if_pos (Int32.le_refl _)]
      unfold pcL
      by_cases c1 : P = 1
      · rw [if_pos (e1.mpr c1), c_tbP (hP c1) (hl c1).1 (by
          rw [List.length_append, pcH_len]
          have : (cat (fun y => cat (lnP P W l (x_p x) y) P) y).length ≤ 49152 := hR
          omega), fon_fok, if_pos c1]
        rfl
      · rw [if_neg (fun e => c1 (e1.mp e)), if_neg c1, List.append_nil]
        rfl
    have hyH : y < H := by omega
    rw [if_neg (nI_ge hyH (by omega))]
    have q2 := lp_M (z := fun _ _ _ _ _ _ => fno) (f := F_X4_encode_62 x k50) (fun m2 k => ∀ p, p + m2 = P → k (nI P) (nI (stP W)) (nI y) (nI p) (RwC f (pcH P W H ++ cat (fun y => cat (lnP P W l (x_p x) y) P) y ++ cat (lnP P W l (x_p x) y) p)) pl = fok () (RwC f (pcL P W H l (x_p x)), pl)) ?_ P (by omega)
    · have r := q2 0 (by omega)
      rw [show cat (lnP P W l (x_p x) y) 0 = [] from rfl, List.append_nil] at r
      exact r
    · intro m2 k62 ih2 p hp
      unfold F_X4_encode_62 F_X4_encode_85
      by_cases c2 : m2 = 0
      · have : p = P := by omega
        subst this
        rw [if_pos (Int32.le_refl _), rows_e, nI_1]
        exact ih (m - 1) (by omega) (y + 1) (by omega)
      have hb := rows_b (lnP P W l (x_p x)) (show p < P by omega) hyH
      have hb2 : (cat (fun y => cat (lnP P W l (x_p x) y) P) y).length + (cat (lnP P W l (x_p x) y) p).length + (lnP P W l (x_p x) y p).length ≤ (rwP P W H l (x_p x)).length := hb
      have r := ih2 (m2 - 1) (by omega) (p + 1) (by omega)
      rw [← rows_x] at r
      have ln := c_line (x := x) (p := p) (f := f) (L := pcH P W H ++ cat (fun y => cat (lnP P W l (x_p x) y) P) y ++ cat (lnP P W l (x_p x) y) p) hP hl (by omega) b1 hW hW1 hT hyH (by rw [List.length_append, List.length_append, pcH_len]; omega)
      rw [if_neg (nI_ge (by omega) (by omega))]
      by_cases c1 : P = 1
      · rw [if_pos c1] at ln
        rw [if_pos (e1.mpr c1), ln, fon_fok, nI_1]
        exact r
      · rw [if_neg c1] at ln
        rw [if_neg (fun e => c1 (e1.mp e)), ln, fon_fok, nI_1]
        exact r
theorem c_pcx {x : Ras} {W H a : Nat} {f : A} (ha : a = 16 ∨ a = 17) (b1 : x_w x = nI W) (b2 : x_g x = nI H) (hW : W ≤ 4096) (hH : H ≤ 4096) (hW1 : 1 ≤ W) (hH1 : 1 ≤ H) (hT : W * H ≤ 4096) (pl : Pal) (hl : a = 17 → (dl (x_p x) (W * H)).length ≤ 256) :
    ∃ pl2, F_X4_encode (nI a) x (RwC f []) pl = fok () (RwC f (if a = 16 then pcL 3 W H [] (x_p x) else pcL 1 W H (dl (x_p x) (W * H)) (x_p x)), pl2) := by
  unfold F_X4_encode F_X4_encode_11 F_X4_encode_38
  rw [b1, st_c W (by omega)]
  rcases ha with rfl | rfl
  · refine ⟨pl, ?_⟩
    rw [if_pos (c := nI 16 = 16) rfl, if_neg (c := (3 : Int32) = 1) (by decide), show (3 : Int32) = nI 3 from rfl, c_pcH (P := 3) (Or.inr rfl) b1 b2 hW1 hH1, fon_fok, if_pos rfl]
    exact c_pc50 (l := []) (Or.inr rfl) (fun e => absurd e (by decide)) (fun e => absurd e (by decide)) b1 b2 hW hW1 hH hT
  · obtain ⟨pl2, e, hP⟩ := ut_gather b1 b2 hT pl
    refine ⟨pl2, ?_⟩
    rw [if_neg (c := nI 17 = 16) (by decide), if_pos (c := (1 : Int32) = 1) rfl, e, fon_fok, show (1 : Int32) = nI 1 from rfl, c_pcH (P := 1) (Or.inl rfl) b1 b2 hW1 hH1, fon_fok, if_neg (c := 17 = 16) (by decide)]
    exact c_pc50 (Or.inl rfl) (fun _ => hP) (fun _ => ⟨hl rfl, dl_nd _ _, fun p hp => (dl_mem (x_p x) _).mpr ⟨p, hp, rfl⟩⟩) b1 b2 hW hW1 hH hT
theorem r_smp {P i W H y p u : Nat} {l : List Int32} {d dd wi co : A} {om ho cm : Int32} (hP13 : P = 1 ∨ P = 3) (hi4 : i < 4) (hW : W ≤ 4096) (hT : W * H ≤ 4096) (b3 : wi i = nI W) (hd : ∀ q, q < W * H → d q = dd (4096 * i + q)) (hl : palT P (W * H) d l) (hc : P = 1 → inA l co ∧ cm = nI l.length) (hp : p < 3) (hy : y < H) (hu : u ≤ W + 1) : F_X11_sample (nI i) (nI u) (nI y) (nI p) (nI P) (om, ho, cm) dd wi co = fok (nI (smp P W l d y p u)) () := by
  unfold F_X11_sample smp
  rw [if_pos (inb_nI hi4 (by omega)), nI_clamp (by omega), b3]
  by_cases c : u < W
  · have hi := idx_lt c hy
    rw [if_pos (nI_lt c (by omega)), if_pos c, at_eq hi4 c hy hT b3, fon_fok, ← hd _ hi]
    rcases hP13 with rfl | rfl
    · obtain ⟨h1, h2, h3⟩ := hl rfl
      obtain ⟨hco, hcm⟩ := hc rfl
      rw [if_pos (c := nI 1 = 1) rfl, if_pos (c := 1 = 1) rfl, hcm, co_eq h1 hco, fon_fok, if_pos (h3 _ hi)]
    · rw [if_neg (c := nI 3 = 1) (by decide), if_neg (c := 3 = 1) (by decide)]
      congr 1
      rcases (by omega : p = 0 ∨ p = 1 ∨ p = 2) with rfl | rfl | rfl
      · exact shr_ch _ _ 24 (by decide) (by decide)
      · exact shr_ch _ _ 16 (by decide) (by decide)
      · exact shr_ch _ _ 8 (by decide) (by decide)
  · rw [if_neg (nI_nlt (by omega) (by omega)), if_neg c]
    rfl
