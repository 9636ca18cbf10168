theorem Ba_pre {sb : A} {p : Nat} {g : Nat → List Nat} : ∀ {N : Nat}, Ba sb p (cat g N) → ∀ k, k ≤ N → Ba sb p (cat g k)
  | 0, h, k, hk => by
    have : k = 0 := by omega
    subst this; exact h
  | N + 1, h, k, hk => by
    by_cases c : k = N + 1
    · subst c; exact h
    · rw [cat_s] at h
      exact Ba_pre (Ba_l h) k (by omega)
/-- pairs are taken -/
theorem a_pairs {n B m W H : Nat} (sb : A) {l : List Int32} {d : A} (hm : m = l.length) (hl : l.length ≤ 256) (hmem : ∀ p, p < W * H → d p ∈ l) (hn : n ≤ 65536) (hW : W ≤ 4096) (hH : H ≤ 4096) (hH1 : 1 ≤ H) (hT : W * H ≤ 4096) (hA : Ba sb B (cat (fun k => rowB 9 W d l (H - 1 - k)) H)) (he : B + (cat (fun k => rowB 9 W d l (H - 1 - k)) H).length = n) (f1 f2 f3 pk0 cl up : Int32) (col px0 : A) :
    ∃ px2 bm2, F_X0_readPairs (nI W, nI H, px0) (Sr n B) sb (f1, f2, f3, 0, nI 8, 1, nI m, pk0, cl, up, col) = fok () ((nI W, nI H, px2), Sr n n, bm2) := by
  unfold F_X0_readPairs
  dsimp only [bm_f1, bm_f2, bm_f3, bm_top, bm_bits, bm_comp, bm_used, bm_packed, bm_column, bm_up, bm_col]
  rw [if_pos (by decide), ut_fill hT, fon_fok]
  have hrow : ∀ k, rowB 9 W d l (H - 1 - k) = cat (gR W 255 (fun x => d ((H - 1 - k) * W + x)) (ixo l)) W ++ [0, if H - 1 - k = 0 then 1 else 0] := by
    intro k; unfold rowB; rw [if_neg (by decide), if_neg (by decide)]
  have hrs : ∀ k, k < H → Ba sb (B + (cat (fun k => rowB 9 W d l (H - 1 - k)) k).length) (rowB 9 W d l (H - 1 - k)) ∧ (cat (fun k => rowB 9 W d l (H - 1 - k)) (k + 1)).length = (cat (fun k => rowB 9 W d l (H - 1 - k)) k).length + (cat (gR W 255 (fun x => d ((H - 1 - k) * W + x)) (ixo l)) W).length + 2 ∧ (cat (fun k => rowB 9 W d l (H - 1 - k)) (k + 1)).length ≤ (cat (fun k => rowB 9 W d l (H - 1 - k)) H).length := by
    intro k hk
    refine ⟨Ba_cat hA k hk, ?_, cat_le _ hk⟩
    rw [cat_s, List.length_append, hrow k, List.length_append]
    simp only [List.length_cons, List.length_nil]
    omega
  generalize hRW : (fun k => (cat (fun k => rowB 9 W d l (H - 1 - k)) k).length) = S at *
  have hSe : ∀ k, (cat (fun k => rowB 9 W d l (H - 1 - k)) k).length = S k := fun k => by rw [← hRW]
  simp only [hSe] at hrs he
  have hS0 : S 0 = 0 := by rw [← hSe]; rfl
  have w := lp_M (z := fun _ _ _ _ _ => fno) (f := F_X0_readPairs_25 sb) (fun mm k1 => (∀ (a : Int32) (x : Ras) (sc : Src) (bm : Bmp), k1 0 a x sc bm = fok () (x, sc, bm)) ∧ ∀ (k x pr p : Nat) (pk : Int32) (px : A), k < H → x ≤ W → rcn W 255 (fun x => d ((H - 1 - k) * W + x)) x = 0 → p = B + S k + (cat (gR W 255 (fun x => d ((H - 1 - k) * W + x)) (ixo l)) x).length → p + mm = n → pr ≤ p → ∃ px2 bm2, k1 1 (nI pr) (nI W, nI H, px) (Sr n p) (bmS f1 f2 f3 pk 8 x k m 1 col) = fok () ((nI W, nI H, px2), Sr n n, bm2)) ?_ (n - B) (by omega)
  · exact w.2 0 0 0 B pk0 _ (by omega) (by omega) rfl (by rw [hS0]; rfl) (by omega) (by omega)
  · intro mm k1 ih
    refine ⟨fun a x sc bm => ?_, fun k x pr p pk px hk hx hr hp hpm hpr => ?_⟩
    · unfold F_X0_readPairs_25; rw [if_pos rfl]
    obtain ⟨r1, r2, r3⟩ := hrs k hk
    rw [hrow k] at r1
    have aC := Ba_l r1
    have aE := Ba_r r1
    unfold F_X0_readPairs_25 F_X0_readPairs_132
    dsimp only [sc_size, sc_pos]
    have hle := cat_le (gR W 255 (fun x => d ((H - 1 - k) * W + x)) (ixo l)) hx
    rw [if_neg (c := (1 : Int32) = 0) (by decide), if_neg (nI_ge (by omega) (by omega)), nx_ok sb (by omega) hn, fon_fok, nx_ok sb (by omega) hn, fon_fok, nI_1]
    by_cases cx : x = W
    · subst cx
      rw [← hp] at aE
      obtain ⟨g0, aE2⟩ := Ba_c aE
      obtain ⟨g1, _⟩ := Ba_c aE2
      rw [g0, g1, if_pos (c := nI (0 % 256) ≤ 0) (by decide)]
      by_cases ck : H - 1 - k = 0
      · rw [if_pos ck, if_pos (c := nI (1 % 256) ≤ 2) (by decide), if_pos (c := nI (1 % 256) = 1) (by decide), (ih 0 (by omega)).1]
        have hkH : k + 1 = H := by omega
        rw [hkH] at r2
        rw [show p + 1 + 1 = n from by omega]
        exact ⟨_, _, rfl⟩
      · rw [if_neg ck, if_pos (c := nI (0 % 256) ≤ 2) (by decide), if_neg (c := nI (0 % 256) = 1) (by decide)]
        unfold F_X0_move
        dsimp only [bm_f1, bm_f2, bm_f3, bm_top, bm_bits, bm_comp, bm_used, bm_packed, bm_column, bm_up, bm_col, x_g]
        rw [if_pos (c := nI (0 % 256) = 0) (by decide), if_pos (nI_lt hk (by omega)), fon_fok, nI_1]
        exact (ih (mm - 2) (by omega)).2 (k + 1) 0 (pr + 1) (p + 1 + 1) pk px (by omega) (by omega) rfl (by rw [r2]; show _ = _ + 0; omega) (by omega) (by omega)
    · obtain ⟨c, c1, c2, c3, c4, c5⟩ := run_ex (W := W) (M := 255) (d := fun x => d ((H - 1 - k) * W + x)) (v := ixo l) (by omega) (W - x) x 0 (by omega) (by omega) hr rfl
      have aP := Ba_pre aC (x + c) c3
      have hle2 := cat_le (gR W 255 (fun x => d ((H - 1 - k) * W + x)) (ixo l)) c3
      have hyW := yx_lt (W := W) (show H - 1 - k < H by omega)
      have hin := ixo_in (hmem ((H - 1 - k) * W + (x + c - 1)) (by omega))
      rw [c5] at aP hle2
      have aQ := Ba_r aP
      rw [← hp] at aQ
      obtain ⟨g0, aE2⟩ := Ba_c aQ
      obtain ⟨g1, _⟩ := Ba_c aE2
      rw [List.length_append] at hle2
      simp only [List.length_cons, List.length_nil] at hle2
      have hc5 : (cat (gR W 255 (fun x => d ((H - 1 - k) * W + x)) (ixo l)) (x + c)).length = (cat (gR W 255 (fun x => d ((H - 1 - k) * W + x)) (ixo l)) x).length + 2 := by rw [c5, List.length_append]; rfl
      rw [Nat.mod_eq_of_lt (by omega)] at g0
      rw [Nat.mod_eq_of_lt (by omega)] at g1
      rw [g0, g1, if_neg (c := nI c ≤ 0) (nI_nle c1 (by omega))]
      unfold F_X0_askRoom
      dsimp only [x_w, x_g, bm_up, bm_column]
      rw [if_neg (nI_ge hk (by omega)), pk_sub hx, if_pos (nI_le (by omega) (by omega)), fon_fok]
      obtain ⟨px3, e3⟩ := a_like (n := n) (X := x) (Y := k) (c := c) (v := ixo l (d ((H - 1 - k) * W + (x + c - 1)))) (u := m) (q := p + 1 + 1) (by omega) (by omega) (by omega) c3 hk hW hT f1 f2 f3 pk 1 col px
      rw [e3, fon_fok]
      exact (ih (mm - 2) (by omega)).2 k (x + c) (pr + 1) (p + 1 + 1) pk px3 hk c3 c4 (by rw [hc5]; omega) (by omega) (by omega)
theorem a_109 {n : Nat} (sb : A) (x : Ras) (bm : Bmp) : ∃ s, F_X0_decode_109 sb x (Sr n n) bm = fok () s := by
  unfold F_X0_decode_109
  rw [end_ok, fon_fok]
  exact ⟨_, rfl⟩
theorem a_bmp {a m W H : Nat} {l : List Int32} (ha : a = 7 ∨ a = 8 ∨ a = 9) (hm : m = l.length) (hl : l.length ≤ 256) (d f : A) (hm7 : a = 7 → m = 0) (hmem : a ≠ 7 → ∀ p, p < W * H → d p ∈ l) (hW1 : 1 ≤ W) (hH1 : 1 ≤ H) (hW : W ≤ 4096) (hH : H ≤ 4096) (hT : W * H ≤ 4096) (x : Ras) (bm : Bmp) : ∃ s, F_X0_decode x (Sr (bmL a m W H d l).length 0) (ap f (bmL a m W H d l)) bm = fok () s := by
  obtain ⟨f1, f2, f3, tp, bi, cm, us, pk, cl, up, col⟩ := bm
  have hat := Ba_0 f (bmL a m W H d l)
  have hR := bmR_le (a := a) d l hH hT
  have hN : 1 ≤ W * H := Nat.mul_pos hW1 hH1
  have hl1 : a ≠ 7 → 1 ≤ m := fun h => by
    have := (ixo_in (hmem h 0 (by omega))).1
    omega
  have hlen : (bmL a m W H d l).length = 54 + 4 * m + (bmR a W H d l).length := by
    unfold bmL; rw [set4_len, set4_len, bmM_len, hm]; omega
  obtain ⟨_, _, _, aR⟩ := bm_bytes hm hl hR hat
  rw [hlen]
  generalize ap f (bmL a m W H d l) = sb at *
  obtain ⟨colx, e⟩ := a_bmH ha hm hm7 hl1 hl hR hat rfl hW1 hH1 hW hH hT x f1 f2 f3 tp bi cm us pk cl up col
  rw [e]
  have hn : 54 + 4 * m + (bmR a W H d l).length ≤ 65536 := by omega
  unfold bmR at aR hn ⊢
  rcases ha with rfl | rfl | rfl
  · rw [if_neg (by decide), if_pos rfl]
    have hc : (cat (fun k => rowB 7 W d l (H - 1 - k)) H).length = H * (W * 3 + pad4 (W * 3)) := cat_len _ _ (fun k _ => by
      unfold rowB; rw [if_pos rfl, List.length_append, List.length_replicate, cat_len _ 3 (fun _ _ => rfl)])
    obtain ⟨px2, r⟩ := a_row24 (n := 54 + 4 * m + (cat (fun k => rowB 7 W d l (H - 1 - k)) H).length) (B := 54 + 4 * m) (m := m) sb hn hW hH hT (by rw [hc]) f1 f2 f3 pk cl up colx (x_p x)
    rw [r, fon_fok]
    exact a_109 sb _ _
  · rw [if_neg (by decide), if_neg (by decide)]
    have hrl : ∀ k, (rowB 8 W d l (H - 1 - k)).length = W + pad4 W := fun k => by
      unfold rowB; rw [if_neg (by decide), if_pos rfl, List.length_append, List.length_replicate, cat_len _ 1 (fun _ _ => rfl), Nat.mul_one]
    have hcl : ∀ j, (cat (fun k => rowB 8 W d l (H - 1 - k)) j).length = j * (W + pad4 W) := fun j => cat_len _ _ (fun k _ => hrl k)
    obtain ⟨px2, pk2, r⟩ := a_row8 (n := 54 + 4 * m + (cat (fun k => rowB 8 W d l (H - 1 - k)) H).length) (B := 54 + 4 * m) (m := m) sb hn hW hH hT (by omega) (by rw [hcl]) (fun k u hk hu => by
      have h1 := Ba_cat aR k hk
      rw [hcl] at h1
      have e8 : rowB 8 W d l (H - 1 - k) = cat (fun x => [ixo l (d ((H - 1 - k) * W + x))]) W ++ List.replicate (pad4 (W * 1)) 0 := by unfold rowB; rw [if_neg (by decide), if_pos rfl]
      rw [e8] at h1
      have h2 := Ba_cat (Ba_l h1) u hu
      rw [cat_len _ 1 (fun _ _ => rfl), Nat.mul_one] at h2
      have h3 := (Ba_c h2).1
      have hyW := yx_lt (W := W) (show H - 1 - k < H by omega)
      have hin := ixo_in (hmem (by decide) ((H - 1 - k) * W + u) (by omega))
      rw [h3, Nat.mod_eq_of_lt (by omega)]
      omega) f1 f2 f3 pk cl up colx (x_p x)
    rw [r, fon_fok]
    exact a_109 sb _ _
  · rw [if_pos rfl]
    obtain ⟨px2, bm2, r⟩ := a_pairs (n := 54 + 4 * m + (cat (fun k => rowB 9 W d l (H - 1 - k)) H).length) (B := 54 + 4 * m) (m := m) sb hm hl (hmem (by decide)) hn hW hH hH1 hT aR rfl f1 f2 f3 pk cl up colx (x_p x)
    rw [r, fon_fok]
    exact a_109 sb _ _
