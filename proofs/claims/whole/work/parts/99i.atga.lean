def pz (K D : Nat) : Nat := if K = 2 then D else 1
theorem pz_len {K D : Nat} (hk : okTg K D) (l : List Int32) (v : Int32) : (pxT K D l v).length = pz K D := by
  obtain ⟨hK, hD⟩ := hk
  unfold pxT pz
  rcases hK with rfl | rfl | rfl
  · rfl
  · rw [if_neg (by decide), if_neg (by decide), if_pos rfl, colT_len hD]
  · rfl
/-- the reader's kind of a writer's kind -/
abbrev tgW (f1 f2 f3 mp : Int32) (K D t m : Nat) (dp : Int32) (fl : Nat) (pa : Int32) (le : Nat) (li : Int32) (ent : A) : Tga := tgS f1 f2 f3 mp t 0 m dp (if K = 2 then 8 * D else 8) fl (fl % 16) (if K = 1 then 1 else 0) pa le li ent
theorem a_px {n p K D t m fl le : Nat} {l : List Int32} {v : Int32} (sb : A) (hk : okTg K D) (hn : n ≤ 65536) (hA : Ba sb p (pxT K D l v)) (hp : p + pz K D ≤ n) (hl : K = 1 → v ∈ l ∧ m = l.length ∧ l.length ≤ 256) (f1 f2 f3 mp dp pa li : Int32) (ent : A) :
    ∃ u, F_X9_readPixel (Sr n p) sb (tgW f1 f2 f3 mp K D t m dp fl pa le li ent) = fok u (Sr n (p + pz K D)) := by
  obtain ⟨hK, hD⟩ := hk
  unfold F_X9_readPixel
  dsimp only [tg_f1, tg_f2, tg_f3, tg_map, tg_type, tg_fe, tg_many, tg_deep, tg_bits, tg_flags, tg_ab, tg_idx, tg_packets, tg_left, tg_like, tg_ent]
  rcases hK with rfl | rfl | rfl
  · obtain ⟨h1, h2, h3⟩ := hl rfl
    have hin := ixo_in h1
    have hb : bt sb p = ixo l v := Ba_g hA 0 rfl (by simp [pxT]) rfl (by omega)
    have ez : pz 1 D = 1 := rfl
    rw [ez] at hp ⊢
    rw [if_neg (c := nI (if (1 : Nat) = 1 then 1 else 0) = 0) (by decide), nx_ok sb (by omega) hn, fon_fok, hb, if_neg (c := nI (ixo l v) < nI 0) (nI_nlt (by omega) (by omega)), pk_sub (by omega), if_pos (nI_lt (by omega) (by omega)), pk_andN (by omega) (m := 255) 8 rfl, if_pos (inb_nI (by omega) (by omega))]
    exact ⟨_, rfl⟩
  · have ez : pz 2 D = D := rfl
    rw [ez] at hp ⊢
    rw [if_pos (c := nI (if (2 : Nat) = 1 then 1 else 0) = 0) (by decide), show nI (if (2 : Nat) = 2 then 8 * D else 8) = nI (8 * D) from rfl, cv_c (ab := fl % 16) sb (by unfold okD; omega) (by omega) hn (Nat.mod_lt _ (by decide)) _ rfl, show (8 * D + 7) / 8 = D from by omega, if_pos hp, fon_fok]
    exact ⟨_, rfl⟩
  · have ez : pz 3 D = 1 := rfl
    rw [ez] at hp ⊢
    unfold F_X9_readColour
    rw [if_pos (c := nI (if (3 : Nat) = 1 then 1 else 0) = 0) (by decide), nx_ok sb (by omega) hn, fon_fok, if_pos (c := nI (if (3 : Nat) = 2 then 8 * D else 8) = 8) rfl, fon_fok]
    exact ⟨_, rfl⟩
/-- a row of pixels without packets -/
theorem a_rawT {n p e W H k K D t m fl : Nat} {l : List Int32} {d : A} (sb : A) (hk : okTg K D) (ht : t ≤ 8) (hn : n ≤ 65536) (hW : W ≤ 4096) (hH : H ≤ 4096) (hT : W * H ≤ 4096) (hkH : k < H) (hA : Ba sb p (cat (fun x => pxT K D l (d x)) W)) (he : p + W * pz K D = e) (hen : e ≤ n) (hl : K = 1 → m = l.length ∧ l.length ≤ 256 ∧ ∀ x, x < W → d x ∈ l) (hf : fl = 32 ∨ fl = 40) (f1 f2 f3 mp dp pa li : Int32) (ent : A) (P : Out (Ras × Src × Tga) Unit → Prop) (k15 : Int32 → Int32 → Ras → Src → Tga → Out (Ras × Src × Tga) Unit)
    (h15 : ∀ v px pa li, P (k15 v (nI (k + 1)) (nI W, nI H, px) (Sr n e) (tgW f1 f2 f3 mp K D t m dp fl pa 0 li ent))) (v0 : Int32) (px0 : A) :
    P (lp (fun _ _ _ _ _ _ _ => fno) (F_X9_readPixels_58 sb k15) FU v0 (nI k) (nI (k * W)) 0 (nI W, nI H, px0) (Sr n p) (tgW f1 f2 f3 mp K D t m dp fl pa 0 li ent)) := by
  have ey : yT fl H k = k := by unfold yT; rcases hf with rfl | rfl <;> exact if_neg (by decide)
  have hcl : ∀ x, (cat (fun x => pxT K D l (d x)) x).length = x * pz K D := fun x => cat_len _ _ (fun j _ => pz_len hk l _)
  have q := lp_M (z := fun _ _ _ _ _ _ _ => fno) (f := F_X9_readPixels_58 sb k15) (fun m2 k58 => ∀ (x : Nat) (v : Int32) (px : A), x + m2 = W → P (k58 v (nI k) (nI (k * W)) (nI x) (nI W, nI H, px) (Sr n (p + x * pz K D)) (tgW f1 f2 f3 mp K D t m dp fl pa 0 li ent))) ?_ W (by omega)
  · have r := q 0 v0 px0 (by omega)
    rw [Nat.zero_mul] at r
    exact r
  · intro m2 k58 ih x v px hx
    unfold F_X9_readPixels_58
    dsimp only [x_w, tg_left]
    by_cases c0 : m2 = 0
    · have : x = W := by omega
      subst this
      rw [if_pos (Int32.le_refl _), nI_1, he]
      exact h15 _ _ _ _
    unfold F_X9_readPixels_79 F_X9_readPixels_107 F_X9_readPixels_119
    dsimp only [tg_type]
    rw [if_neg (nI_ge (by omega) (by omega)), if_pos (c := nI 0 = 0) rfl, if_neg (c := (1 : Int32) = 0) (by decide), if_pos (c := nI t ≤ 8) (nI_le (b := 8) ht (by omega)), if_neg (c := (1 : Int32) = 0) (by decide)]
    have h1 := Ba_cat hA x (by omega)
    rw [hcl] at h1
    have h2 : x * pz K D + pz K D ≤ W * pz K D := by rw [← Nat.succ_mul]; exact Nat.mul_le_mul_right _ (by omega)
    obtain ⟨u, e1⟩ := a_px (t := t) (m := m) (fl := fl) (le := 0) sb hk hn h1 (by omega) (fun hc => ⟨(hl hc).2.2 x (by omega), (hl hc).1, (hl hc).2.1⟩) f1 f2 f3 mp dp pa li ent
    rw [e1, fon_fok]
    have r := c125 (x := x) (y := k) (W := W) (H := H) sb (by omega) hkH hT (nI k) u px (Sr n (p + x * pz K D + pz K D)) f1 f2 f3 mp t 0 m dp (if K = 2 then 8 * D else 8) fl (fl % 16) (if K = 1 then 1 else 0) pa 0 (by omega) li ent k15 k58
    rw [ey] at r
    rw [r]
    have r2 := ih (m2 - 1) (by omega) (x + 1) u (upd px (k * W + xT fl W x) u) (by omega)
    rw [Nat.succ_mul, ← Nat.add_assoc] at r2
    exact r2
theorem cat_1 (g : Nat → List Nat) (c : Nat) : cat g (c + 1) = g 0 ++ cat (fun j => g (j + 1)) c := by
  rw [Nat.add_comm c 1, cat_add g 1 c]
  show ([] ++ g 0) ++ _ = _
  rw [List.nil_append]
  congr 1
  exact cat_cong (fun j _ => by rw [Nat.add_comm 1 j])
/-- the bytes of a row from within a packet -/
def pkR (K D W : Nat) (l : List Int32) (d : A) (fu x le li : Nat) : List Nat := (if li = 0 then cat (fun j => pxT K D l (d (x + j))) le else []) ++ pkL K D W l d fu (x + le)
/-- a row of packets -/
theorem a_pkT {n p e W H k K D t m fl : Nat} {l : List Int32} {d : A} (sb : A) (hk : okTg K D) (ht : 8 < t) (ht2 : t < 256) (hn : n ≤ 65536) (hW : W ≤ 4096) (hH : H ≤ 4096) (hT : W * H ≤ 4096) (hkH : k < H) (hA : Ba sb p (pkL K D W l d W 0)) (he : p + (pkL K D W l d W 0).length = e) (hen : e ≤ n) (hl : K = 1 → m = l.length ∧ l.length ≤ 256 ∧ ∀ x, x < W → d x ∈ l) (hf : fl = 32 ∨ fl = 40) (f1 f2 f3 mp dp pa0 li0 : Int32) (ent : A) (P : Out (Ras × Src × Tga) Unit → Prop) (k15 : Int32 → Int32 → Ras → Src → Tga → Out (Ras × Src × Tga) Unit)
    (h15 : ∀ v px pa li, P (k15 v (nI (k + 1)) (nI W, nI H, px) (Sr n e) (tgW f1 f2 f3 mp K D t m dp fl pa 0 li ent))) (v0 : Int32) (px0 : A) :
    P (lp (fun _ _ _ _ _ _ _ => fno) (F_X9_readPixels_58 sb k15) FU v0 (nI k) (nI (k * W)) 0 (nI W, nI H, px0) (Sr n p) (tgW f1 f2 f3 mp K D t m dp fl pa0 0 li0 ent)) := by
  have ey : yT fl H k = k := by unfold yT; rcases hf with rfl | rfl <;> exact if_neg (by decide)
  have q := lp_M (z := fun _ _ _ _ _ _ _ => fno) (f := F_X9_readPixels_58 sb k15) (fun m2 k58 => ∀ (x p fu le li : Nat) (v pa li' : Int32) (px : A), x + m2 = W → x + le ≤ W → W - (x + le) ≤ fu → li = 0 ∨ li = 1 → (le = 0 ∨ li' = nI li) → Ba sb p (pkR K D W l d fu x le li) → p + (pkR K D W l d fu x le li).length = e → P (k58 v (nI k) (nI (k * W)) (nI x) (nI W, nI H, px) (Sr n p) (tgW f1 f2 f3 mp K D t m dp fl pa le li' ent))) ?_ W (by omega)
  · have e0 : pkR K D W l d W 0 0 0 = pkL K D W l d W 0 := by
      unfold pkR; rw [if_pos rfl]; rfl
    exact q 0 p W 0 0 v0 pa0 li0 px0 (by omega) (by omega) (by omega) (Or.inl rfl) (Or.inl rfl) (by rw [e0]; exact hA) (by rw [e0]; exact he)
  · intro m2 k58 ih x p fu le li v pa li' px hx hle hfu hli hli' hat hpe
    unfold F_X9_readPixels_58
    dsimp only [x_w, tg_left]
    by_cases c0 : m2 = 0
    · have hxW : x = W := by omega
      have hl0 : le = 0 := by omega
      subst hxW
      subst hl0
      have e0 : pkR K D x l d fu x 0 li = [] := by
        unfold pkR
        rw [show pkL K D x l d fu (x + 0) = [] from by
          cases fu with
          | zero => rfl
          | succ f => exact if_pos (by omega), List.append_nil]
        split <;> rfl
      rw [e0] at hpe
      rw [if_pos (Int32.le_refl _), nI_1, show p = e from hpe]
      exact h15 _ _ _ _
    rw [if_neg (nI_ge (by omega) (by omega))]
    -- one pixel is read
    have one : ∀ (p' fu' le' li2 : Nat) (v' pa' : Int32), x + (le' + 1) ≤ W → W - (x + (le' + 1)) ≤ fu' → li2 = 0 ∨ li2 = 1 → Ba sb p' (pxT K D l (d x) ++ pkR K D W l d fu' (x + 1) le' li2) → p' + (pxT K D l (d x) ++ pkR K D W l d fu' (x + 1) le' li2).length = e → P (F_X9_readPixels_119 sb k15 k58 (nI k) (nI (k * W)) (nI x) (nI W, nI H, px) (Sr n p') (tgW f1 f2 f3 mp K D t m dp fl pa' (le' + 1) (nI li2) ent)) := by
      intro p' fu' le' li2 v' pa' h1 h2 h3 h4 h5
      rw [List.length_append, pz_len hk] at h5
      obtain ⟨u, e1⟩ := a_px (t := t) (m := m) (fl := fl) (le := le' + 1) sb hk hn (Ba_l h4) (by omega) (fun hc => ⟨(hl hc).2.2 x (by omega), (hl hc).1, (hl hc).2.1⟩) f1 f2 f3 mp dp pa' (nI li2) ent
      have h6 := Ba_r h4
      rw [pz_len hk] at h6
      unfold F_X9_readPixels_119
      rw [e1, fon_fok]
      have r := c125 (x := x) (y := k) (W := W) (H := H) sb (by omega) hkH hT (nI k) u px (Sr n (p' + pz K D)) f1 f2 f3 mp t 0 m dp (if K = 2 then 8 * D else 8) fl (fl % 16) (if K = 1 then 1 else 0) pa' (le' + 1) (by omega) (nI li2) ent k15 k58
      rw [ey] at r
      rw [r]
      exact ih (m2 - 1) (by omega) (x + 1) (p' + pz K D) fu' le' li2 u pa' (nI li2) _ (by omega) (by omega) (by omega) h3 (Or.inr rfl) h6 (by omega)
    by_cases cl : le = 0
    · subst cl
      obtain ⟨f', rfl⟩ : ∃ f', fu = f' + 1 := ⟨fu - 1, by omega⟩
      have hps := psz_b (W := W) (d := d) (x := x) (by omega)
      have e0 : pkR K D W l d (f' + 1) x 0 li = pkt K D W l d x ++ pkL K D W l d f' (x + psz W d x) := by
        unfold pkR
        rw [show pkL K D W l d (f' + 1) (x + 0) = pkt K D W l d x ++ pkL K D W l d f' (x + psz W d x) from if_neg (by omega)]
        split <;> rfl
      rw [e0] at hat hpe
      generalize hc : psz W d x = c at *
      obtain ⟨c', rfl⟩ : ∃ c', c = c' + 1 := ⟨c - 1, by omega⟩
      unfold F_X9_readPixels_79 F_X9_readPixels_107
      dsimp only [tg_type, x_w]
      rw [if_pos (c := nI 0 = 0) rfl, if_neg (c := (1 : Int32) = 0) (by decide), if_neg (c := nI t ≤ 8) (nI_ge (a := 8) ht (by omega)), pk_sub (by omega)]
      unfold F_X9_readPacketHead F_X9_readPacketHead_24
      dsimp only [tg_f1, tg_f2, tg_f3, tg_map, tg_type, tg_fe, tg_many, tg_deep, tg_bits, tg_flags, tg_ab, tg_idx, tg_packets, tg_left, tg_like, tg_ent]
      by_cases cb : x + 1 < W ∧ d x = d (x + 1)
      · have ep : pkt K D W l d x = (127 + (c' + 1)) :: pxT K D l (d x) := by unfold pkt; rw [if_pos cb, hc]
        rw [ep] at hat hpe
        rw [List.cons_append] at hat hpe
        obtain ⟨g0, hat2⟩ := Ba_c hat
        rw [List.length_cons] at hpe
        rw [Nat.mod_eq_of_lt (by omega)] at g0
        have hpos : p < n := by omega
        rw [nx_ok sb hpos hn, fon_fok, g0, if_neg (c := nI (127 + (c' + 1)) ≤ 127) (nI_ge (a := 127) (by omega) (by omega)), if_pos (c := isB 1) (Or.inr rfl), pk_andN (by omega) (m := 127) 7 rfl, nI_1, show (127 + (c' + 1)) % 2 ^ 7 + 1 = c' + 1 from by omega, if_pos (nI_le (by omega) (by omega)), fon_fok, if_neg (c := (1 : Int32) = 0) (by decide)]
        have e2 : pkR K D W l d f' (x + 1) c' 1 = pkL K D W l d f' (x + (c' + 1)) := by
          unfold pkR; rw [if_neg (by decide), List.nil_append, show x + 1 + c' = x + (c' + 1) from by omega]
        exact one (p + 1) f' c' 1 v (pa + 1) (by omega) (by omega) (Or.inr rfl) (by rw [e2]; exact hat2) (by rw [e2]; omega)
      · have ep : pkt K D W l d x = (c' + 1 - 1) :: cat (fun j => pxT K D l (d (x + j))) (c' + 1) := by unfold pkt; rw [if_neg cb, hc]
        rw [ep] at hat hpe
        rw [List.cons_append] at hat hpe
        obtain ⟨g0, hat2⟩ := Ba_c hat
        rw [List.length_cons] at hpe
        rw [Nat.mod_eq_of_lt (by omega)] at g0
        have hpos : p < n := by omega
        rw [nx_ok sb hpos hn, fon_fok, g0, if_pos (c := nI (c' + 1 - 1) ≤ 127) (nI_le (b := 127) (by omega) (by omega)), if_pos (c := isB 0) (Or.inl rfl), pk_andN (by omega) (m := 127) 7 rfl, nI_1, show (c' + 1 - 1) % 2 ^ 7 + 1 = c' + 1 from by omega, if_pos (nI_le (by omega) (by omega)), fon_fok, if_neg (c := (1 : Int32) = 0) (by decide)]
        have e2 : pxT K D l (d x) ++ pkR K D W l d f' (x + 1) c' 0 = cat (fun j => pxT K D l (d (x + j))) (c' + 1) ++ pkL K D W l d f' (x + (c' + 1)) := by
          unfold pkR
          rw [if_pos rfl, cat_1, List.append_assoc, show x + 1 + c' = x + (c' + 1) from by omega]
          congr 2
          exact cat_cong (fun j _ => by rw [show x + 1 + j = x + (j + 1) from by omega])
        exact one (p + 1) f' c' 0 v (pa + 1) (by omega) (by omega) (Or.inl rfl) (by rw [e2]; exact hat2) (by rw [e2]; omega)
    · obtain ⟨le', rfl⟩ : ∃ le', le = le' + 1 := ⟨le - 1, by omega⟩
      have hli2 : li' = nI li := by
        rcases hli' with h | h
        · omega
        · exact h
      subst hli2
      unfold F_X9_readPixels_79 F_X9_readPixels_107
      dsimp only [tg_like]
      rw [if_neg (c := nI (le' + 1) = 0) (nI_ne0 (by omega) (by omega)), if_pos (c := (0 : Int32) = 0) rfl, if_pos (c := (0 : Int32) = 0) rfl]
      rcases hli with rfl | rfl
      · rw [if_pos (c := nI 0 = 0) rfl]
        have e2 : pxT K D l (d x) ++ pkR K D W l d fu (x + 1) le' 0 = pkR K D W l d fu x (le' + 1) 0 := by
          unfold pkR
          rw [if_pos rfl, if_pos rfl, cat_1, List.append_assoc, show x + 1 + le' = x + (le' + 1) from by omega]
          congr 2
          exact cat_cong (fun j _ => by rw [show x + 1 + j = x + (j + 1) from by omega])
        exact one p fu le' 0 v pa hle hfu (Or.inl rfl) (by rw [e2]; exact hat) (by rw [e2]; exact hpe)
      · rw [if_neg (c := nI 1 = 0) (by decide)]
        have r := c125 (x := x) (y := k) (W := W) (H := H) sb (by omega) hkH hT (nI k) v px (Sr n p) f1 f2 f3 mp t 0 m dp (if K = 2 then 8 * D else 8) fl (fl % 16) (if K = 1 then 1 else 0) pa (le' + 1) (by omega) (nI 1) ent k15 k58
        rw [ey] at r
        rw [r]
        have e2 : pkR K D W l d fu (x + 1) le' 1 = pkR K D W l d fu x (le' + 1) 1 := by
          unfold pkR
          rw [if_neg (by decide), if_neg (by decide), show x + 1 + le' = x + (le' + 1) from by omega]
        exact ih (m2 - 1) (by omega) (x + 1) p fu le' 1 v pa (nI 1) _ (by omega) (by omega) (by omega) (Or.inr rfl) (Or.inr rfl) (by rw [e2]; exact hat) (by rw [e2]; exact hpe)
