theorem gV_cV {b pl a : Nat} {ta col : A} (h : okBP b pl) (hn : ¬ (b = 8 ∧ pl = 1)) (ha : a < 2 ^ (b * pl)) (hc : ∀ k, k < 16 → col k = ta k) : gV b pl ta a = cV b pl col a := by
  unfold gV cV
  by_cases c1 : b = 8
  · have c3 : pl = 3 := by unfold okBP at h; omega
    rw [if_pos c1, if_neg (by omega), if_pos ⟨c1, c3⟩]
  · rw [if_neg c1, if_neg (c := b = 8 ∧ pl = 3) (fun e => c1 e.1)]
    by_cases c2 : b = 1 ∧ pl = 1
    · rw [if_pos c2, if_pos c2]
    · rw [if_neg c2, if_neg c2]
      have ha16 : a < 16 := by
        have : 2 ^ (b * pl) ≤ 2 ^ 4 := Nat.pow_le_pow_right (by decide) (by
          rcases h with ⟨rfl, h⟩ | ⟨rfl | rfl, rfl⟩ | ⟨rfl, _⟩ <;> omega)
        omega
      rw [Nat.mod_eq_of_lt (by omega), hc a ha16]
theorem fin_pcx {n p W H b pl : Nat} (sb ta li : A) (hn : n ≤ 65536) (hp : p ≤ n) (h : okBP b pl) (hW : W ≤ 4096) (hH : H ≤ 4096) (hW1 : 1 ≤ W) (hH1 : 1 ≤ H) (hT : W * H ≤ 4096) (px gt col : A) (f1 f2 f3 ver per st one two three : Int32) (hg : ∀ j, j < W * H → ∃ a, a < 2 ^ (b * pl) ∧ px j = nI a ∧ gt j = cV b pl col a) :
    DRw n (F_X4_decode_122 sb (nI W, nI H, px) (Sr n p) (f1, f2, f3, ver, nI b, per, nI pl, st, col)) (F_X11_readPlanes_698 sb (nI b) (nI pl) st (Mr n p (nI W) (nI H) one two three) gt ta li) px_f1 px_f2 px_f3 (fun q => q.1) := by
  unfold F_X4_decode_122 F_X11_readPlanes_698
  dsimp only [mr_size, mr_pos, mr_kind, mr_whr, mr_gw, mr_gh]
  by_cases c : p = n
  · subst c
    obtain ⟨px2, e, hx⟩ := col_pcx h hT px gt col f1 f2 f3 ver per st hg
    rw [end_ok, fon_fok, e, fon_fok, cl_ok, fon_fok, if_pos (Or.inr rfl)]
    exact Or.inl ⟨W, H, px2, _, _, _, hW1, hH1, hW, hH, hT, rfl, rfl, rfl, rfl, rfl, rfl, rfl, hx⟩
  · rw [end_no (by omega) hn, fon_fex, cl_no _ _ _ _ _ (by omega) hn, fon_fok, if_pos (Or.inl rfl)]
    exact w_bad rfl rfl (b_bad _ _ _ _ _ _ _ _ _ _ (by decide))
theorem map_pcx {n p W H : Nat} (sb ta li gt px : A) (hn : n ≤ 65536) (hp : p + 768 ≤ n) (hT : W * H ≤ 4096) (v2 v7 v8 one two three : Int32) (hg : ∀ j, j < W * H → ∃ a, a < 256 ∧ px j = nI a ∧ gt j = nI a) :
    ∃ g2, lp (fun _ _ _ _ _ _ _ _ => fno) (F_X11_readPlanes_615 sb) FU v2 v7 v8 0 (Mr n p (nI W) (nI H) one two three) gt ta li = F_X11_readPlanes_698 sb v2 v7 v8 (Mr n (p + 768) (nI W) (nI H) one two three) g2 ta li ∧ ∀ j, j < W * H → ∃ a, a < 256 ∧ px j = nI a ∧ g2 j = tri sb (p + 3 * a) := by
  have q := lp_M (z := fun _ _ _ _ _ _ _ _ => fno) (f := F_X11_readPlanes_615 sb) (fun m f => ∀ (j : Nat) (g : A), j + m = W * H → (∀ i, i < j → ∃ a, a < 256 ∧ px i = nI a ∧ g i = tri sb (p + 3 * a)) → (∀ i, j ≤ i → g i = gt i) → ∃ g2, f v2 v7 v8 (nI j) (Mr n p (nI W) (nI H) one two three) g ta li = F_X11_readPlanes_698 sb v2 v7 v8 (Mr n (p + 768) (nI W) (nI H) one two three) g2 ta li ∧ ∀ j, j < W * H → ∃ a, a < 256 ∧ px j = nI a ∧ g2 j = tri sb (p + 3 * a)) ?_ (W * H) (by omega)
  · exact q 0 gt (by omega) (fun i hi => absurd hi (by omega)) (fun _ _ => rfl)
  · intro m f ih j g hj h1 h2
    unfold F_X11_readPlanes_615
    dsimp only [mr_size, mr_pos, mr_kind, mr_whr, mr_gw, mr_gh, mr_one, mr_two, mr_three]
    rw [pk_mul]
    by_cases c0 : m = 0
    · have : j = W * H := by omega
      subst this
      rw [if_pos (Int32.le_refl _), show nI p + 768 = nI (p + 768) from nI_add p 768]
      exact ⟨g, rfl, h1⟩
    obtain ⟨a, ha, e1, e2⟩ := hg j (by omega)
    rw [if_neg (nI_ge (by omega) (by omega)), if_pos (inb_nI (by omega) (by omega)), nI_clamp (by omega), h2 j (by omega), e2, show (3 : Int32) * nI a = nI (3 * a) from pk_mul 3 a, nI_add, nI_1, show nI (p + 3 * a) + 2 = nI (p + 3 * a + 2) from nI_add _ 2, b_ok sb (by omega), fon_fok, b_ok sb (by omega), fon_fok, b_ok sb (by omega), fon_fok, if_pos (inb_nI (by omega) (by omega)), nI_1]
    refine ih (m - 1) (by omega) (j + 1) _ (by omega) (fun i hi => ?_) (fun i hi => ?_)
    · by_cases c : i = j
      · subst c
        exact ⟨a, ha, e1, by rw [pk_us]; rfl⟩
      · rw [pk_un c]; exact h1 i (by omega)
    · rw [pk_un (by omega), h2 i (by omega)]
theorem rows_pcx {n p W H b st pl : Nat} (sb ta : A) (h : okBP b pl) (hp : p ≤ n) (hn : n ≤ 65536) (hW : W ≤ 4096) (hH : H ≤ 4096) (hW1 : 1 ≤ W) (hH1 : 1 ≤ H) (hT : W * H ≤ 4096) (hst : st < 65536) (hl : leastP W b ≤ st) (f1 f2 f3 ver one two three : Int32) (col gt px0 li0 : A) (h0 : ∀ j, j < W * H → px0 j = 0) (hc : ∀ k, k < 16 → col k = ta k) :
    DRw n (lp (fun _ _ _ _ => fno) (F_X4_decode_70 sb) FU 0 (nI W, nI H, px0) (Sr n p) (f1, f2, f3, ver, nI b, nI (8 / b), nI pl, nI st, col)) (lp (fun _ _ _ _ _ _ _ _ _ => fno) (F_X11_readPlanes_546 sb) FU (nI b) (nI pl) (nI st) (nI (leastP W b)) 0 (Mr n p (nI W) (nI H) one two three) gt ta li0) px_f1 px_f2 px_f3 (fun q => q.1) := by
  have hb := okBP_P h
  have hb8 := (per_ok hb).2.2.2.2
  have h4 := okBP_4 h
  have r8 : nI b = 8 ↔ b = 8 := nI_inj (b := 8) (by omega) (by omega)
  have s1 : nI pl = 1 ↔ pl = 1 := nI_inj (b := 1) (by omega) (by omega)
  have q := lp_D (z := fun _ _ _ _ => fno) (z2 := fun _ _ _ _ _ _ _ _ _ => fno) (f := F_X4_decode_70 sb) (f2 := F_X11_readPlanes_546 sb) (fun m c1 c2 => ∀ (y p : Nat) (px gt li : A), y + m = H → p ≤ n → (∀ j, j < y * W → ∃ a, a < 2 ^ (b * pl) ∧ px j = nI a ∧ gt j = gV b pl ta a) → (∀ j, y * W ≤ j → j < W * H → px j = 0) → DRw n (c1 (nI y) (nI W, nI H, px) (Sr n p) (f1, f2, f3, ver, nI b, nI (8 / b), nI pl, nI st, col)) (c2 (nI b) (nI pl) (nI st) (nI (leastP W b)) (nI y) (Mr n p (nI W) (nI H) one two three) gt ta li) px_f1 px_f2 px_f3 (fun q => q.1)) ?_ H (by omega)
  · exact q 0 p px0 gt li0 (by omega) hp (fun j hj => absurd hj (by omega)) (fun j _ hj => h0 j hj)
  · intro m c1 c2 ih y p px gt li hy hp hx hz
    unfold F_X4_decode_70 F_X11_readPlanes_546 F_X11_readPlanes_610
    dsimp only [x_g, mr_gh, px_bits, px_planes]
    by_cases c0 : m = 0
    · have : y = H := by omega
      subst this
      rw [if_pos (Int32.le_refl _), if_pos (Int32.le_refl _)]
      rw [Nat.mul_comm y] at hx
      by_cases k8 : b = 8 ∧ pl = 1
      · obtain ⟨rfl, rfl⟩ := k8
        rw [if_pos (c := nI 8 = 8) rfl, if_pos (c := nI 1 = 1) rfl, if_pos (c := nI 8 = 8) rfl, if_pos (c := nI 1 = 1) rfl]
        rcases d_want (n := n) (p := p) sb 12 (nI W) (nI y) one two three hp hn with ⟨k1, _, e1, e2⟩ | ⟨u, u2, k, w, hk, e1, e2⟩
        case inr =>
          rw [e1, fon_fex, e2, fon_fok, if_pos rfl]
          exact w_bad rfl rfl (b_bad _ _ _ _ _ _ _ _ _ _ hk)
        rw [e1, fon_fok, e2, fon_fok, if_neg (c := (1 : Int32) = 0) (by decide)]
        have CC := cols_c (n := n) (p := p + 1) (N := 256) sb (by omega) hn (by omega) f1 f2 f3 ver (nI 8) (nI (8 / 8)) (nI 1) (nI st) col
        rw [show nI 256 = 256 from rfl] at CC
        by_cases k2 : p + 1 + 768 ≤ n
        · obtain ⟨col2, e3, hcol⟩ := CC.1 (by omega)
          have hx2 : ∀ j, j < W * y → ∃ a, a < 256 ∧ px j = nI a ∧ gt j = nI a := fun j hj => by
            obtain ⟨a, u1, u2, u3⟩ := hx j hj
            exact ⟨a, u1, u2, by rw [u3]; rfl⟩
          obtain ⟨g2, e4, hg2⟩ := map_pcx (n := n) (p := p + 1) sb ta li gt px hn k2 hT (nI 8) (nI 1) (nI st) one two three hx2
          rw [e3, fon_fok, wt_ok 768 768 rfl _ _ _ _ _ k2 (by omega), fon_fok, if_neg (c := (1 : Int32) = 0) (by decide), e4]
          exact fin_pcx sb ta li hn (by omega) h hW hH hW1 hH1 hT px g2 col2 f1 f2 f3 ver _ _ _ _ _ (fun j hj => by
            obtain ⟨a, u1, u2, u3⟩ := hg2 j hj
            refine ⟨a, u1, u2, ?_⟩
            rw [u3]
            unfold cV
            rw [if_neg (by decide), if_neg (by decide), Nat.mod_eq_of_lt u1, hcol a u1])
        · obtain ⟨col2, e3⟩ := CC.2 (by omega)
          rw [e3, fon_fex, wt_no 768 768 rfl _ _ _ _ _ (by omega) (by omega), fon_fok, if_pos rfl]
          exact w_bad rfl rfl (b_bad _ _ _ _ _ _ _ _ _ _ (by decide))
      · have F := fin_pcx sb ta li hn hp h hW hH hW1 hH1 hT px gt col f1 f2 f3 ver (nI (8 / b)) (nI st) one two three (fun j hj => by
          obtain ⟨a, u1, u2, u3⟩ := hx j hj
          exact ⟨a, u1, u2, by rw [u3]; exact gV_cV h k8 u1 hc⟩)
        by_cases c8 : b = 8
        · rw [if_pos (r8.mpr c8), if_neg (fun e => k8 ⟨c8, s1.mp e⟩), if_pos (r8.mpr c8), if_neg (fun e => k8 ⟨c8, s1.mp e⟩)]
          exact F
        · rw [if_neg (fun e => c8 (r8.mp e)), if_neg (fun e => c8 (r8.mp e))]
          exact F
    · have hrow := yx_lt (W := W) (show y < H by omega)
      rw [if_neg (nI_ge (by omega) (by omega)), if_neg (nI_ge (by omega) (by omega))]
      rcases line_pcx (n := n) (p := p) (H := H) (y := y) sb ta hb hp hn (by omega) hW hW1 hT h4.2 hst hl f1 f2 f3 ver one two three col gt px li (fun x hx2 => hz _ (by omega) (by omega)) with ⟨p2, px2, li2, u1, u2, hJ, e1, e2⟩ | ⟨x2, sc, mr, li2, e1, e2, hbad⟩
      case inr =>
        rw [e1, fon_fex, e2, fon_fok, if_pos rfl]
        exact w_bad rfl rfl hbad
      obtain ⟨gt2, e3, hg, hk⟩ := conv_pcx (n := n) (p := p2) (H := H) (y := y) sb ta gt li2 h (by omega) hW hT hl one two three
      rw [e1, fon_fok, e2, e3, fon_fok, if_neg (c := (1 : Int32) = 0) (by decide), nI_1]
      refine ih (m - 1) (by omega) (y + 1) p2 px2 gt2 li2 (by omega) u2 (fun j hj => ?_) (fun j hj hj2 => ?_)
      · rw [yx_s] at hj
        by_cases c : j < y * W
        · obtain ⟨a, v1, v2, v3⟩ := hx j c
          exact ⟨a, v1, by rw [hJ.2 j (Or.inl c), v2], by rw [hk j c, v3]⟩
        · obtain ⟨a, v1, v2, v3⟩ := hg (j - y * W) (by omega)
          have := hJ.1 (j - y * W) (by omega)
          rw [show y * W + (j - y * W) = j from by omega] at this v3
          exact ⟨a, v1, by rw [this, v2], v3⟩
      · rw [yx_s] at hj
        rw [hJ.2 j (Or.inr hj)]
        exact hz j (by omega) hj2
