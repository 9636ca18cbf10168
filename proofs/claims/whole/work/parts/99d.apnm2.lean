/-- the signs are taken -/
theorem a_sgn {n B N W : Nat} (sb : A) (hn : n ≤ 65536) (hN : N ≤ 4096) (d : A) (hA : Ba sb B (cat (fun k => sgn W d (k / W) (k % W)) N)) (he : B + (cat (fun k => sgn W d (k / W) (k % W)) N).length = n) (w g : Int32) (px0 : A) :
    ∃ px2 q2, q2 ≤ n ∧ sk sb n (n - q2) 0 = n ∧ lp (fun _ _ _ _ => fno) (F_X5_readSigns_11 sb) FU (nI N) 0 (w, g, px0) (Sr n B) = fok () ((w, g, px2), Sr n q2) := by
  have hS : ∀ k, k < N → (bt sb (B + (cat (fun k => sgn W d (k / W) (k % W)) k).length) = 48 ∨ bt sb (B + (cat (fun k => sgn W d (k / W) (k % W)) k).length) = 49) ∧ (cat (fun k => sgn W d (k / W) (k % W)) (k + 1)).length ≤ (cat (fun k => sgn W d (k / W) (k % W)) N).length ∧ ((cat (fun k => sgn W d (k / W) (k % W)) (k + 1)).length = (cat (fun k => sgn W d (k / W) (k % W)) k).length + 1 ∨ (cat (fun k => sgn W d (k / W) (k % W)) (k + 1)).length = (cat (fun k => sgn W d (k / W) (k % W)) k).length + 2 ∧ bt sb (B + (cat (fun k => sgn W d (k / W) (k % W)) k).length + 1) = 10) := by
    intro k hk
    have h1 := Ba_cat hA k hk
    have h2 := cat_le (fun k => sgn W d (k / W) (k % W)) (j := k + 1) (n := N) hk
    have h3 : (cat (fun k => sgn W d (k / W) (k % W)) (k + 1)).length = (cat (fun k => sgn W d (k / W) (k % W)) k).length + (sgn W d (k / W) (k % W)).length := by rw [cat_s, List.length_append]
    refine ⟨?_, h2, ?_⟩
    · have h4 := (Ba_c h1).1
      rw [h4]
      split
      · exact Or.inr rfl
      · exact Or.inl rfl
    · rw [h3, sgn_len]
      by_cases c : (k % W + 1) % 70 = 0 ∨ k % W + 1 = W
      · rw [if_pos c]
        refine Or.inr ⟨rfl, ?_⟩
        have h4 := (Ba_c h1).2
        rw [if_pos c] at h4
        exact (Ba_c h4).1
      · rw [if_neg c]; exact Or.inl rfl
  generalize hG : (fun k => sgn W d (k / W) (k % W)) = G at *
  have hst : ∀ k, k ≤ N → sk sb n (n - (B + (cat G k).length)) 0 = B + (cat G k).length := by
    intro k hk
    by_cases c : k = N
    · subst c; rw [he, Nat.sub_self]; rfl
    · have := hS k (by omega)
      have h2 := cat_lt G (j := k) (n := N) (by omega)
      have h3 : (cat G (k + 1)).length = (cat G k).length + (G k).length := by rw [cat_s, List.length_append]
      exact sk_d (by omega) (by omega)
  have q := lp_M (z := fun _ _ _ _ => fno) (f := F_X5_readSigns_11 sb) (fun m k11 => ∀ (k q : Nat) (px : A), k + m = N → q ≤ n → sk sb n (n - q) 0 = B + (cat G k).length → ∃ px2 q2, q2 ≤ n ∧ sk sb n (n - q2) 0 = n ∧ k11 (nI N) (nI k) (w, g, px) (Sr n q) = fok () ((w, g, px2), Sr n q2)) ?_ N (by omega)
  · exact q 0 B px0 (by omega) (by omega) (hst 0 (by omega))
  · intro m k11 ih k q px hk hq hs
    unfold F_X5_readSigns_11
    by_cases c0 : m = 0
    · have : k = N := by omega
      subst this
      rw [if_pos (Int32.le_refl _)]
      exact ⟨px, q, hq, by rw [hs, he], rfl⟩
    obtain ⟨s1, s2, s3⟩ := hS k (by omega)
    rw [if_neg (nI_ge (by omega) (by omega)), c_skip sb hq hn, hs, fon_fok, nx_ok sb (by omega) hn, fon_fok]
    unfold F_X5_readSigns_53 F_X5_readSigns_69
    have fin : ∀ v, ∃ px2 q2, q2 ≤ n ∧ sk sb n (n - q2) 0 = n ∧ fon (F_X7_set (nI k) v (w, g, px)) (fun z69 s69 => k11 (nI N) (nI k + 1) s69 (Sr n (B + (cat G k).length + 1))) (fun _ _ => fno) = fok () ((w, g, px2), Sr n q2) := by
      intro v
      rw [ut_set (by omega), fon_fok, nI_1]
      dsimp only [x_w, x_g, x_p]
      refine ih (m - 1) (by omega) (k + 1) _ _ (by omega) (by omega) ?_
      have h5 := hst (k + 1) (by omega)
      rcases s3 with s3 | ⟨s3, s4⟩
      · rw [s3] at h5 ⊢; exact h5
      · rw [sk_1 (by omega) (Or.inl s4)]
        rw [s3] at h5 ⊢; exact h5
    rcases s1 with s1 | s1
    · rw [s1, if_pos (c := nI 48 = 48) rfl, if_neg (c := nI 48 = 49) (by decide)]; exact fin _
    · rw [s1, if_neg (c := nI 49 = 48) (by decide), if_pos (c := nI 49 = 49) rfl, if_pos (c := nI 49 = 49) rfl]; exact fin _
/-- the bits are taken -/
theorem gB_len {W : Nat} (d : A) (y : Nat) : ∀ x, x ≤ W → (cat (gB W d y) x).length = if x = W then (W + 7) / 8 else x / 8
  | 0, _ => by
    show 0 = _
    split <;> omega
  | x + 1, h => by
    rw [cat_s, List.length_append, gB_len d y x (by omega)]
    unfold gB
    split
    · omega
    · split
      · rw [List.length_singleton]; split <;> omega
      · rw [List.length_nil]; split <;> omega
theorem a_bits {n B W H : Nat} (sb : A) (hn : n ≤ 65536) (hW : W ≤ 4096) (hH : H ≤ 4096) (hT : W * H ≤ 4096) (he : B + H * ((W + 7) / 8) = n) (px0 : A) :
    ∃ px2, F_X5_readBits (nI W, nI H, px0) (Sr n B) sb = fok () ((nI W, nI H, px2), Sr n n) := by
  unfold F_X5_readBits
  generalize hK : (W + 7) / 8 = K at *
  have outer := lp_M (z := fun _ _ _ _ _ => fno) (f := F_X5_readBits_7 sb) (fun m k1 => ∀ (y p : Nat) (bi : Int32) (px : A), y + m = H → p + m * K = n → ∃ px2, k1 (nI (y * W)) bi (nI y) (nI W, nI H, px) (Sr n p) = fok () ((nI W, nI H, px2), Sr n n)) ?_ H (by omega)
  · have := outer 0 B 0 px0 (by omega) he
    rw [Nat.zero_mul] at this
    exact this
  · intro m k1 ih y p bi px hy hp
    unfold F_X5_readBits_7
    dsimp only [x_g]
    by_cases c0 : m = 0
    · have : y = H := by omega
      subst this; subst c0
      rw [if_pos (Int32.le_refl _), show p = n from by omega]
      exact ⟨_, rfl⟩
    obtain ⟨m', rfl⟩ : ∃ m', m = m' + 1 := ⟨m - 1, by omega⟩
    rw [Nat.succ_mul] at hp
    generalize hmk : m' * K = mk at hp
    have hrow := yx_lt (W := W) (show y < H by omega)
    rw [if_neg (nI_ge (by omega) (by omega))]
    have inner := lp_M (z := fun _ _ _ _ _ _ => fno) (f := F_X5_readBits_19 sb k1) (fun m2 k2 => ∀ (x : Nat) (bi : Int32) (px : A), x + m2 = W → ∃ px2, k2 (nI (y * W + x)) bi (nI y) (nI x) (nI W, nI H, px) (Sr n (p + (x + 7) / 8)) = fok () ((nI W, nI H, px2), Sr n n)) ?_ W (by omega)
    · exact inner 0 bi px (by omega)
    · intro m2 k2 ih2 x bi px hx
      unfold F_X5_readBits_19
      dsimp only [x_w]
      by_cases c1 : m2 = 0
      · have : x = W := by omega
        subst this
        rw [if_pos (Int32.le_refl _), nI_1, ← yx_s, hK]
        exact ih m' (by omega) (y + 1) (p + K) bi px (by omega) (by omega)
      rw [if_neg (nI_ge (by omega) (by omega)), pk_andN (by omega) (m := 7) 3 rfl]
      have fin : ∀ (t v : Int32), (∃ px2, fon (F_X7_set (nI (y * W + x)) v (nI W, nI H, px)) (fun z64 s64 => k2 (nI (y * W + x) + 1) t (nI y) (nI x + 1) s64 (Sr n (p + (x + 1 + 7) / 8))) (fun _ _ => fno) = fok () ((nI W, nI H, px2), Sr n n)) := by
        intro t v
        rw [ut_set (by omega), fon_fok, nI_1, nI_1]
        exact ih2 (m2 - 1) (by omega) (x + 1) t _ (by omega)
      by_cases c2 : x % 2 ^ 3 = 0
      · rw [if_pos (by rw [c2]; rfl), nx_ok sb (by omega) hn, fon_fok, show p + (x + 7) / 8 + 1 = p + (x + 1 + 7) / 8 from by omega]
        unfold F_X5_readBits_46 F_X5_readBits_64
        split
        · exact fin _ _
        · exact fin _ _
      · rw [if_neg (c := nI (x % 2 ^ 3) = 0) (nI_ne0 (by omega) (by omega)), show p + (x + 7) / 8 = p + (x + 1 + 7) / 8 from by omega]
        unfold F_X5_readBits_46 F_X5_readBits_64
        split
        · exact fin _ _
        · exact fin _ _
/-- the samples are taken -/
theorem a_T0 {n B N : Nat} (sb : A) (hn : n ≤ 65536) (hN : N ≤ 4096) (d : A) (h0 : bt sb B = 10) (hA : Ba sb (B + 1) (cat (fun k => gS 2 (d k)) N)) (he : B + 1 + (cat (fun k => gS 2 (d k)) N).length = n) (w g f1 f3 np0 : Int32) (hf : ¬ 3 < f1) (px0 : A) :
    ∃ px2 np2, bt sb (n - 1) = 10 ∧ lp (fun _ _ _ _ _ _ => fno) (F_X5_readSamples_32 sb) FU 0 (nI N) 0 (w, g, px0) (Sr n B) (f1, nI 255, f3, np0) = fok () ((w, g, px2), Sr n (n - 1), (f1, nI 255, f3, np2)) := by
  have q := lp_M (z := fun _ _ _ _ _ _ => fno) (f := F_X5_readSamples_32 sb) (fun m k1 => ∀ (k : Nat) (px : A) (np : Int32), k + m = N → bt sb (B + (cat (fun k => gS 2 (d k)) k).length) = 10 → ∃ px2 np2, bt sb (n - 1) = 10 ∧ k1 0 (nI N) (nI k) (w, g, px) (Sr n (B + (cat (fun k => gS 2 (d k)) k).length)) (f1, nI 255, f3, np) = fok () ((w, g, px2), Sr n (n - 1), (f1, nI 255, f3, np2))) ?_ N (by omega)
  · exact q 0 px0 np0 (by omega) h0
  · intro m k1 ih k px np hk h1
    unfold F_X5_readSamples_32
    by_cases c0 : m = 0
    · have : k = N := by omega
      subst this
      rw [if_pos (Int32.le_refl _), show B + (cat (fun k => gS 2 (d k)) k).length = n - 1 from by omega]
      rw [show B + (cat (fun k => gS 2 (d k)) k).length = n - 1 from by omega] at h1
      exact ⟨px, np, h1, rfl⟩
    have hc := ch_lt (d k) 24
    have h2 := Ba_cat hA k (by omega)
    have h3 := cat_le (fun k => gS 2 (d k)) (j := k + 1) (n := N) (by omega)
    have eg : gS 2 (d k) = dg (ch (d k) 24) ++ [10] := if_pos rfl
    have h4 : (cat (fun k => gS 2 (d k)) (k + 1)).length = (cat (fun k => gS 2 (d k)) k).length + ((dg (ch (d k) 24)).length + 1) := by rw [cat_s, List.length_append, eg, List.length_append, List.length_singleton]
    have r := ih (m - 1) (by omega) (k + 1)
    rw [h4] at r h3
    rw [eg] at h2
    generalize (cat (fun k => gS 2 (d k)) k).length = S at *
    rw [show B + 1 + S = B + S + 1 from by omega] at h2
    have h5 : bt sb (B + S + 1 + (dg (ch (d k) 24)).length) = 10 := (Ba_c (Ba_r h2)).1
    obtain ⟨s, e1⟩ := sam_T sb hn (Or.inl h1) hc (Ba_l h2) (by omega) (Or.inl h5) f1 f3 np hf
    rw [if_neg (nI_ge (by omega) (by omega)), e1, fon_fok, if_pos rfl]
    unfold F_X5_readSamples_60 F_X5_readSamples_76
    rw [if_pos rfl, ut_set (by omega), fon_fok, nI_1]
    dsimp only [x_w, x_g, x_p]
    rw [show B + (S + ((dg (ch (d k) 24)).length + 1)) = B + S + 1 + (dg (ch (d k) 24)).length from by omega] at r
    exact r _ _ (by omega) h5
theorem a_T1 {n B N : Nat} (sb : A) (hn : n ≤ 65536) (hN : N ≤ 4096) (d : A) (h0 : bt sb B = 10) (hA : Ba sb (B + 1) (cat (fun k => gS 3 (d k)) N)) (he : B + 1 + (cat (fun k => gS 3 (d k)) N).length = n) (w g f1 f3 np0 : Int32) (hf : ¬ 3 < f1) (px0 : A) :
    ∃ px2 np2, bt sb (n - 1) = 10 ∧ lp (fun _ _ _ _ _ _ => fno) (F_X5_readSamples_32 sb) FU 1 (nI N) 0 (w, g, px0) (Sr n B) (f1, nI 255, f3, np0) = fok () ((w, g, px2), Sr n (n - 1), (f1, nI 255, f3, np2)) := by
  have q := lp_M (z := fun _ _ _ _ _ _ => fno) (f := F_X5_readSamples_32 sb) (fun m k1 => ∀ (k : Nat) (px : A) (np : Int32), k + m = N → bt sb (B + (cat (fun k => gS 3 (d k)) k).length) = 10 → ∃ px2 np2, bt sb (n - 1) = 10 ∧ k1 1 (nI N) (nI k) (w, g, px) (Sr n (B + (cat (fun k => gS 3 (d k)) k).length)) (f1, nI 255, f3, np) = fok () ((w, g, px2), Sr n (n - 1), (f1, nI 255, f3, np2))) ?_ N (by omega)
  · exact q 0 px0 np0 (by omega) h0
  · intro m k1 ih k px np hk h1
    unfold F_X5_readSamples_32
    by_cases c0 : m = 0
    · have : k = N := by omega
      subst this
      rw [if_pos (Int32.le_refl _), show B + (cat (fun k => gS 3 (d k)) k).length = n - 1 from by omega]
      rw [show B + (cat (fun k => gS 3 (d k)) k).length = n - 1 from by omega] at h1
      exact ⟨px, np, h1, rfl⟩
    have hc1 := ch_lt (d k) 24; have hc2 := ch_lt (d k) 16; have hc3 := ch_lt (d k) 8
    have h2 := Ba_cat hA k (by omega)
    have h3 := cat_le (fun k => gS 3 (d k)) (j := k + 1) (n := N) (by omega)
    have eg : gS 3 (d k) = dg (ch (d k) 24) ++ [32] ++ dg (ch (d k) 16) ++ [32] ++ dg (ch (d k) 8) ++ [10] := by unfold gS; rw [if_neg (by decide), if_pos rfl]
    have h4 : (cat (fun k => gS 3 (d k)) (k + 1)).length = (cat (fun k => gS 3 (d k)) k).length + ((dg (ch (d k) 24)).length + 1 + (dg (ch (d k) 16)).length + 1 + (dg (ch (d k) 8)).length + 1) := by
      rw [cat_s, List.length_append, eg]
      simp only [List.length_append, List.length_cons, List.length_nil, Nat.zero_add]
    have r := ih (m - 1) (by omega) (k + 1)
    rw [h4] at r h3
    rw [eg] at h2
    generalize (cat (fun k => gS 3 (d k)) k).length = S at *
    rw [show B + 1 + S = B + S + 1 from by omega] at h2
    generalize ch (d k) 24 = cr at *
    generalize ch (d k) 16 = cg at *
    generalize ch (d k) 8 = cb at *
    have a1 := Ba_l (Ba_l (Ba_l (Ba_l (Ba_l h2))))
    have b1 : bt sb (B + S + 1 + (dg cr).length) = 32 := (Ba_c (Ba_r (Ba_l (Ba_l (Ba_l (Ba_l h2)))))).1
    have a2 : Ba sb (B + S + 1 + (dg cr).length + 1) (dg cg) := Ba_e (Ba_r (Ba_l (Ba_l (Ba_l h2)))) (by simp only [List.length_append, List.length_cons, List.length_nil]; omega)
    have b2 : bt sb (B + S + 1 + (dg cr).length + 1 + (dg cg).length) = 32 := (Ba_c (Ba_e (Ba_r (Ba_l (Ba_l h2))) (by simp only [List.length_append, List.length_cons, List.length_nil]; omega))).1
    have a3 : Ba sb (B + S + 1 + (dg cr).length + 1 + (dg cg).length + 1) (dg cb) := Ba_e (Ba_r (Ba_l h2)) (by simp only [List.length_append, List.length_cons, List.length_nil]; omega)
    have b3 : bt sb (B + S + 1 + (dg cr).length + 1 + (dg cg).length + 1 + (dg cb).length) = 10 := (Ba_c (Ba_e (Ba_r h2) (by simp only [List.length_append, List.length_cons, List.length_nil]; omega))).1
    obtain ⟨s1, e1⟩ := sam_T sb hn (Or.inl h1) hc1 a1 (by omega) (Or.inr b1) f1 f3 np hf
    obtain ⟨s2, e2⟩ := sam_T sb hn (Or.inr b1) hc2 a2 (by omega) (Or.inr b2) f1 f3 (nI (B + S + 1)) hf
    obtain ⟨s3, e3⟩ := sam_T sb hn (Or.inr b2) hc3 a3 (by omega) (Or.inl b3) f1 f3 (nI (B + S + 1 + (dg cr).length + 1)) hf
    rw [if_neg (nI_ge (by omega) (by omega)), e1, fon_fok, if_neg (by decide)]
    dsimp only
    rw [e2, fon_fok]
    unfold F_X5_readSamples_60 F_X5_readSamples_76
    dsimp only
    rw [if_neg (by decide), e3, fon_fok, ut_set (by omega), fon_fok, nI_1]
    dsimp only [x_w, x_g, x_p]
    rw [show B + (S + ((dg cr).length + 1 + (dg cg).length + 1 + (dg cb).length + 1)) = B + S + 1 + (dg cr).length + 1 + (dg cg).length + 1 + (dg cb).length from by omega] at r
    exact r _ _ (by omega) b3
theorem a_B0 {n B N : Nat} (sb : A) (hn : n ≤ 65536) (hN : N ≤ 4096) (he : B + N = n) (w g f1 f3 np : Int32) (hf : 3 < f1) (px0 : A) :
    ∃ px2, lp (fun _ _ _ _ _ _ => fno) (F_X5_readSamples_32 sb) FU 0 (nI N) 0 (w, g, px0) (Sr n B) (f1, nI 255, f3, np) = fok () ((w, g, px2), Sr n n, (f1, nI 255, f3, np)) := by
  have q := lp_M (z := fun _ _ _ _ _ _ => fno) (f := F_X5_readSamples_32 sb) (fun m k1 => ∀ (k : Nat) (px : A), k + m = N → ∃ px2, k1 0 (nI N) (nI k) (w, g, px) (Sr n (B + k)) (f1, nI 255, f3, np) = fok () ((w, g, px2), Sr n n, (f1, nI 255, f3, np))) ?_ N (by omega)
  · exact q 0 px0 (by omega)
  · intro m k1 ih k px hk
    unfold F_X5_readSamples_32
    by_cases c0 : m = 0
    · have : k = N := by omega
      subst this
      rw [if_pos (Int32.le_refl _), he]
      exact ⟨px, rfl⟩
    obtain ⟨s, e1⟩ := sam_B (n := n) (p := B + k) sb (by omega) hn f1 f3 np hf
    rw [if_neg (nI_ge (by omega) (by omega)), e1, fon_fok, if_pos rfl]
    unfold F_X5_readSamples_60 F_X5_readSamples_76
    rw [if_pos rfl, ut_set (by omega), fon_fok, nI_1]
    exact ih (m - 1) (by omega) (k + 1) _ (by omega)
theorem a_B1 {n B N : Nat} (sb : A) (hn : n ≤ 65536) (hN : N ≤ 4096) (he : B + 3 * N = n) (w g f1 f3 np : Int32) (hf : 3 < f1) (px0 : A) :
    ∃ px2, lp (fun _ _ _ _ _ _ => fno) (F_X5_readSamples_32 sb) FU 1 (nI N) 0 (w, g, px0) (Sr n B) (f1, nI 255, f3, np) = fok () ((w, g, px2), Sr n n, (f1, nI 255, f3, np)) := by
  have q := lp_M (z := fun _ _ _ _ _ _ => fno) (f := F_X5_readSamples_32 sb) (fun m k1 => ∀ (k : Nat) (px : A), k + m = N → ∃ px2, k1 1 (nI N) (nI k) (w, g, px) (Sr n (B + 3 * k)) (f1, nI 255, f3, np) = fok () ((w, g, px2), Sr n n, (f1, nI 255, f3, np))) ?_ N (by omega)
  · exact q 0 px0 (by omega)
  · intro m k1 ih k px hk
    unfold F_X5_readSamples_32
    by_cases c0 : m = 0
    · have : k = N := by omega
      subst this
      rw [if_pos (Int32.le_refl _), he]
      exact ⟨px, rfl⟩
    obtain ⟨s1, e1⟩ := sam_B (n := n) (p := B + 3 * k) sb (by omega) hn f1 f3 np hf
    obtain ⟨s2, e2⟩ := sam_B (n := n) (p := B + 3 * k + 1) sb (by omega) hn f1 f3 np hf
    obtain ⟨s3, e3⟩ := sam_B (n := n) (p := B + 3 * k + 1 + 1) sb (by omega) hn f1 f3 np hf
    rw [if_neg (nI_ge (by omega) (by omega)), e1, fon_fok, if_neg (by decide)]
    dsimp only
    rw [e2, fon_fok]
    unfold F_X5_readSamples_60 F_X5_readSamples_76
    dsimp only
    rw [if_neg (by decide), e3, fon_fok, ut_set (by omega), fon_fok, nI_1]
    exact ih (m - 1) (by omega) (k + 1) _ (by omega)
