def colT (D : Nat) (v : Int32) : List Nat := if D = 4 then bgr v ++ [ch v 0] else bgr v
def pxT (K D : Nat) (l : List Int32) (v : Int32) : List Nat := if K = 1 then [ixo l v] else if K = 3 then [ch v 24] else colT D v
theorem colT_len {D : Nat} (hD : D = 3 ∨ D = 4) (v : Int32) : (colT D v).length = D := by
  unfold colT
  rcases hD with rfl | rfl <;> rfl
theorem pxT_le {K D : Nat} (hD : D = 3 ∨ D = 4) (l : List Int32) (v : Int32) : 1 ≤ (pxT K D l v).length ∧ (pxT K D l v).length ≤ 4 := by
  unfold pxT
  by_cases c1 : K = 1
  · rw [if_pos c1]; exact ⟨by simp, by simp⟩
  rw [if_neg c1]
  by_cases c3 : K = 3
  · rw [if_pos c3]; exact ⟨by simp, by simp⟩
  rw [if_neg c3, colT_len hD]; omega
def okTg (K D : Nat) : Prop := (K = 1 ∨ K = 2 ∨ K = 3) ∧ (D = 3 ∨ D = 4)
def palT (K N : Nat) (d : A) (l : List Int32) : Prop := K = 1 → l.length ≤ 256 ∧ l.Nodup ∧ ∀ p, p < N → d p ∈ l
theorem c_colT {f : A} {L : List Nat} {D : Nat} (hD : D = 3 ∨ D = 4) (v : Int32) (h : L.length + (colT D v).length ≤ 65536) : F_X9_writeColour v (nI (8 * D)) (RwC f L) = fok () (RwC f (L ++ colT D v)) := by
  rw [colT_len hD] at h
  unfold F_X9_writeColour
  rw [red_ch, green_ch, blue_ch, alpha_ch, c_add _ (by omega), fon_fok, c_add _ (by simp only [List.length_append, List.length_cons, List.length_nil]; omega), fon_fok, c_add _ (by simp only [List.length_append, List.length_cons, List.length_nil]; omega), fon_fok, ch_nI (ch_lt _ _), ch_nI (ch_lt _ _), ch_nI (ch_lt _ _)]
  rcases hD with rfl | rfl
  · rw [if_neg (c := nI (8 * 3) = 32) (by decide), List.append_assoc, List.append_assoc]
    rfl
  · rw [if_pos (c := nI (8 * 4) = 32) (by decide), c_add _ (by simp only [List.length_append, List.length_cons, List.length_nil]; omega), fon_fok, ch_nI (ch_lt _ _), List.append_assoc, List.append_assoc, List.append_assoc]
    rfl
theorem c_pxs {x : Ras} {K D W H s c : Nat} {f : A} {L : List Nat} {l : List Int32} {pl : Pal} (hk : okTg K D) (hP : K = 1 → PalI l pl) (hl : palT K (W * H) (x_p x) l) (hT : W * H ≤ 4096) (hs : s + c ≤ W * H) (hB : L.length + (cat (fun j => pxT K D l (x_p x (s + j))) c).length ≤ 65536) :
    F_X9_writePixels (nI s) (nI c) (nI K) (nI (8 * D)) x (RwC f L) pl = fok () (RwC f (L ++ cat (fun j => pxT K D l (x_p x (s + j))) c)) := by
  unfold F_X9_writePixels
  have q := lp_M (z := fun _ _ _ _ _ _ => fno) (f := F_X9_writePixels_3 x pl) (fun m k => ∀ j, j + m = c → k (nI s) (nI c) (nI K) (nI (8 * D)) (nI j) (RwC f (L ++ cat (fun j => pxT K D l (x_p x (s + j))) j)) = fok () (RwC f (L ++ cat (fun j => pxT K D l (x_p x (s + j))) c))) ?_ c (by omega)
  · have r := q 0 (by omega)
    rw [show cat (fun j => pxT K D l (x_p x (s + j))) 0 = [] from rfl, List.append_nil] at r
    exact r
  · intro m k ih j hj
    unfold F_X9_writePixels_3 F_X9_writePixels_70
    by_cases c0 : m = 0
    · have : j = c := by omega
      subst this
      rw [if_pos (Int32.le_refl _)]
    have hb := cat_lt (fun j => pxT K D l (x_p x (s + j))) (show j < c by omega)
    have r := ih (m - 1) (by omega) (j + 1) (by omega)
    rw [cat_s, ← List.append_assoc] at r
    rw [if_neg (nI_ge (by omega) (by omega)), nI_add, ut_get (by omega), fon_fok, nI_1]
    have hM : (L ++ cat (fun j => pxT K D l (x_p x (s + j))) j).length + (pxT K D l (x_p x (s + j))).length ≤ 65536 := by
      rw [List.length_append]; omega
    generalize L ++ cat (fun j => pxT K D l (x_p x (s + j))) j = N at *
    obtain ⟨hK, hD⟩ := hk
    rcases hK with rfl | rfl | rfl
    · obtain ⟨h1, h2, h3⟩ := hl rfl
      have hx := h3 (s + j) (by omega)
      have e : pxT 1 D l (x_p x (s + j)) = [ixo l (x_p x (s + j))] := rfl
      rw [e] at hM r
      rw [List.length_singleton] at hM
      rw [if_pos (c := nI 1 = 1) rfl, nb_eq (hP rfl) h1 h2 hx, fon_fok, c_add _ (by omega), fon_fok, ch_nI (by have := (ixo_in hx).1; omega)]
      exact r
    · rw [if_neg (c := nI 2 = 1) (by decide), if_neg (c := nI 2 = 3) (by decide), c_colT hD _ hM, fon_fok]
      exact r
    · have e : pxT 3 D l (x_p x (s + j)) = [ch (x_p x (s + j)) 24] := rfl
      rw [e] at hM r
      rw [List.length_singleton] at hM
      rw [if_neg (c := nI 3 = 1) (by decide), if_pos (c := nI 3 = 3) rfl, red_ch, c_add _ (by omega), fon_fok, ch_nI (ch_lt _ _)]
      exact r
/-- packets -/
def lkx (W : Nat) (d : A) (x : Nat) : Prop := x + 1 < W ∧ d x = d (x + 1)
def pgo (W : Nat) (d : A) (b x : Nat) : Nat → Nat → Nat
  | 0, r => r
  | k + 1, r => if 128 ≤ r ∨ W ≤ x + r then r else if b = 0 then (if x + r + 1 < W ∧ d (x + r) = d (x + r + 1) then r else pgo W d b x k (r + 1)) else (if x + r < W ∧ d (x + r - 1) = d (x + r) then pgo W d b x k (r + 1) else r)
theorem pgo_b (W : Nat) (d : A) (b x : Nat) : ∀ k r, r ≤ 128 → x + r ≤ W → r ≤ pgo W d b x k r ∧ pgo W d b x k r ≤ 128 ∧ x + pgo W d b x k r ≤ W
  | 0, r, h1, h2 => ⟨Nat.le_refl _, h1, h2⟩
  | k + 1, r, h1, h2 => by
    show r ≤ (if _ then _ else _) ∧ (if _ then _ else _) ≤ 128 ∧ x + (if _ then _ else _) ≤ W
    by_cases c1 : 128 ≤ r ∨ W ≤ x + r
    · rw [if_pos c1]; exact ⟨Nat.le_refl _, h1, h2⟩
    rw [if_neg c1]
    have ih := pgo_b W d b x k (r + 1) (by omega) (by omega)
    by_cases c2 : b = 0
    · rw [if_pos c2]
      by_cases c3 : x + r + 1 < W ∧ d (x + r) = d (x + r + 1)
      · rw [if_pos c3]; exact ⟨Nat.le_refl _, h1, h2⟩
      · rw [if_neg c3]; omega
    · rw [if_neg c2]
      by_cases c3 : x + r < W ∧ d (x + r - 1) = d (x + r)
      · rw [if_pos c3]; omega
      · rw [if_neg c3]; exact ⟨Nat.le_refl _, h1, h2⟩
def bx (W : Nat) (d : A) (x : Nat) : Nat := if x + 1 < W ∧ d x = d (x + 1) then 1 else 0
def psz (W : Nat) (d : A) (x : Nat) : Nat := pgo W d (bx W d x) x 128 1
theorem psz_b {W : Nat} {d : A} {x : Nat} (h : x < W) : 1 ≤ psz W d x ∧ psz W d x ≤ 128 ∧ x + psz W d x ≤ W := pgo_b W d _ x 128 1 (by omega) (by omega)
theorem c_like {x : Ras} {W H y u : Nat} (b1 : x_w x = nI W) (hW : W ≤ 4096) (hT : W * H ≤ 4096) (hy : y < H) (hu : u < W) : F_X9_isLikeNext (nI y) (nI u) x = fok (if u + 1 < W ∧ x_p x (y * W + u) = x_p x (y * W + (u + 1)) then 1 else 0) () := by
  unfold F_X9_isLikeNext F_X9_isLikeNext_38
  have hi := idx_lt hu hy
  rw [b1, nI_1, pk_mul, nI_add, nI_1]
  by_cases c1 : u + 1 < W
  · have hi2 := idx_lt c1 hy
    rw [if_neg (nI_ge c1 (by omega)), ut_get (by omega), fon_fok, ut_get (by omega), fon_fok, Nat.add_assoc]
    by_cases c2 : x_p x (y * W + u) = x_p x (y * W + (u + 1))
    · rw [if_pos c2, if_pos ⟨c1, c2⟩]
    · rw [if_neg c2, if_neg (fun e => c2 e.2)]
  · rw [if_pos (nI_le (by omega) (by omega)), if_neg (fun e => c1 e.1)]
theorem c_psz {x : Ras} {W H y u b : Nat} (b1 : x_w x = nI W) (hW : W ≤ 4096) (hT : W * H ≤ 4096) (hy : y < H) (hu : u < W) (hb : b = 0 ∨ b = 1) : F_X9_packetSize (nI y) (nI u) (nI b) x = fok (nI (pgo W (fun v => x_p x (y * W + v)) b u 128 1)) () := by
  unfold F_X9_packetSize
  have em2 : iMin 128 (nI W - nI u) = nI (if W - u ≤ 128 then W - u else 128) := by
    rw [pk_sub (by omega)]
    unfold iMin
    by_cases c : W - u < 128
    · rw [if_pos (c := nI (W - u) < 128) (nI_lt (b := 128) c (by omega)), if_pos (show W - u ≤ 128 by omega)]
    · rw [if_neg (c := nI (W - u) < 128) (nI_nlt (b := 128) (by omega) (by omega))]
      by_cases c2 : W - u ≤ 128
      · rw [if_pos c2, show W - u = 128 from by omega]; rfl
      · rw [if_neg c2]; rfl
  rw [b1, em2]
  have q := lp_M (z := fun _ _ _ _ _ => fno) (f := F_X9_packetSize_17 x) (fun m k => ∀ r fu, r + m = (if W - u ≤ 128 then W - u else 128) → m < fu → 1 ≤ r → k (nI y) (nI u) (nI b) (nI (if W - u ≤ 128 then W - u else 128)) (nI r) = fok (nI (pgo W (fun v => x_p x (y * W + v)) b u fu r)) ()) ?_ ((if W - u ≤ 128 then W - u else 128) - 1) (by split <;> omega)
  · exact q 1 128 (by split <;> omega) (by split <;> omega) (by omega)
  · intro m k ih r fu hr hf h1
    obtain ⟨f2, rfl⟩ : ∃ f2, fu = f2 + 1 := ⟨fu - 1, by omega⟩
    unfold F_X9_packetSize_17 F_X9_packetSize_60 F_X9_packetSize_57
    show _ = fok (nI (if 128 ≤ r ∨ W ≤ u + r then r else if b = 0 then (if u + r + 1 < W ∧ x_p x (y * W + (u + r)) = x_p x (y * W + (u + r + 1)) then r else pgo W (fun v => x_p x (y * W + v)) b u f2 (r + 1)) else (if u + r < W ∧ x_p x (y * W + (u + r - 1)) = x_p x (y * W + (u + r)) then pgo W (fun v => x_p x (y * W + v)) b u f2 (r + 1) else r))) ()
    by_cases c0 : m = 0
    · have hm : r = (if W - u ≤ 128 then W - u else 128) := by omega
      rw [← hm, if_pos (Int32.le_refl _), if_pos (by split at hm <;> omega)]
    have hlim : r < (if W - u ≤ 128 then W - u else 128) := by omega
    have hr1 : r < 128 ∧ u + r < W := by split at hlim <;> omega
    rw [if_neg (nI_ge hlim (by split <;> omega)), if_neg (c := 128 ≤ r ∨ W ≤ u + r) (by omega), nI_add, nI_1]
    have rr := ih (m - 1) (by omega) (r + 1) f2 (by omega) (by omega) (by omega)
    rcases hb with rfl | rfl
    · rw [if_pos (c := nI 0 = 0) rfl, if_pos (c := 0 = 0) rfl, c_like b1 hW hT hy (show u + r < W by omega), fon_fok]
      by_cases c2 : u + r + 1 < W ∧ x_p x (y * W + (u + r)) = x_p x (y * W + (u + r + 1))
      · rw [if_pos c2, if_neg (by decide), if_pos c2]
      · rw [if_neg c2, if_pos rfl, if_neg c2]
        exact rr
    · rw [if_neg (c := nI 1 = 0) (by decide), if_neg (c := 1 = 0) (by decide), show nI (u + r) - 1 = nI (u + r - 1) from pk_sub (b := 1) (by omega), c_like b1 hW hT hy (show u + r - 1 < W by omega), fon_fok, show u + r - 1 + 1 = u + r from by omega]
      by_cases c2 : u + r < W ∧ x_p x (y * W + (u + r - 1)) = x_p x (y * W + (u + r))
      · rw [if_pos c2, if_neg (by decide), if_pos c2]
        exact rr
      · rw [if_neg c2, if_pos rfl, if_neg c2]
/-- one packet -/
def pkt (K D W : Nat) (l : List Int32) (d : A) (x : Nat) : List Nat := if x + 1 < W ∧ d x = d (x + 1) then (127 + psz W d x) :: pxT K D l (d x) else (psz W d x - 1) :: cat (fun j => pxT K D l (d (x + j))) (psz W d x)
def pkL (K D W : Nat) (l : List Int32) (d : A) : Nat → Nat → List Nat
  | 0, _ => []
  | k + 1, x => if W ≤ x then [] else pkt K D W l d x ++ pkL K D W l d k (x + psz W d x)
theorem pkt_le {K D W : Nat} {l : List Int32} {d : A} {x : Nat} (hD : D = 3 ∨ D = 4) (h : x < W) : (pkt K D W l d x).length ≤ psz W d x * 5 := by
  have hp := psz_b (d := d) h
  have h2 := pxT_le (K := K) hD l (d x)
  have h3 := cat_max (fun j => pxT K D l (d (x + j))) 4 (n := psz W d x) (fun j _ => (pxT_le (K := K) hD l _).2)
  unfold pkt
  by_cases c : x + 1 < W ∧ d x = d (x + 1)
  · rw [if_pos c, List.length_cons]; omega
  · rw [if_neg c, List.length_cons]; omega
theorem pkL_le {K D W : Nat} {l : List Int32} {d : A} (hD : D = 3 ∨ D = 4) : ∀ k x, x ≤ W → (pkL K D W l d k x).length ≤ (W - x) * 5
  | 0, x, _ => Nat.zero_le _
  | k + 1, x, hx => by
    show (if W ≤ x then [] else _).length ≤ _
    by_cases c : W ≤ x
    · rw [if_pos c]; exact Nat.zero_le _
    · have hp := psz_b (d := d) (show x < W by omega)
      have h1 := pkt_le (K := K) (l := l) hD (show x < W by omega) (d := d)
      have h2 := pkL_le (K := K) (l := l) (d := d) hD k (x + psz W d x) hp.2.2
      rw [if_neg c, List.length_append]
      omega
theorem c_pk {x : Ras} {K D W H y : Nat} {f : A} {L : List Nat} {l : List Int32} {pl : Pal} (hk : okTg K D) (hP : K = 1 → PalI l pl) (hl : palT K (W * H) (x_p x) l) (b1 : x_w x = nI W) (hW : W ≤ 4096) (hT : W * H ≤ 4096) (hy : y < H) (hB : L.length + W * 5 ≤ 65536) :
    F_X9_writePackets (nI y) (nI K) (nI (8 * D)) x (RwC f L) pl = fok () (RwC f (L ++ pkL K D W l (fun v => x_p x (y * W + v)) W 0)) := by
  unfold F_X9_writePackets
  rw [b1, pk_mul]
  have q := lp_M (z := fun _ _ _ _ _ _ => fno) (f := F_X9_writePackets_14 x pl) (fun m k => ∀ (u fu : Nat) (M : List Nat), u + m = W → m ≤ fu → M.length + m * 5 ≤ 65536 → k (nI y) (nI K) (nI (8 * D)) (nI (y * W)) (nI u) (RwC f M) = fok () (RwC f (M ++ pkL K D W l (fun v => x_p x (y * W + v)) fu u))) ?_ W (by omega)
  · exact q 0 W L (by omega) (by omega) hB
  · intro m k ih u fu M hu hf hM
    unfold F_X9_writePackets_14 F_X9_writePackets_108
    rw [b1]
    by_cases c0 : m = 0
    · have : u = W := by omega
      subst this
      rw [if_pos (Int32.le_refl _)]
      have : pkL K D u l (fun v => x_p x (y * u + v)) fu u = [] := by
        cases fu with
        | zero => rfl
        | succ k => exact if_pos (Nat.le_refl _)
      rw [this, List.append_nil]
    obtain ⟨f2, rfl⟩ : ∃ f2, fu = f2 + 1 := ⟨fu - 1, by omega⟩
    have hlt : u < W := by omega
    have hp := psz_b (d := fun v => x_p x (y * W + v)) hlt
    have hpk := pkt_le (K := K) (l := l) hk.2 hlt (d := fun v => x_p x (y * W + v))
    have e : pkL K D W l (fun v => x_p x (y * W + v)) (f2 + 1) u = pkt K D W l (fun v => x_p x (y * W + v)) u ++ pkL K D W l (fun v => x_p x (y * W + v)) f2 (u + psz W (fun v => x_p x (y * W + v)) u) := if_neg (by omega)
    have hrow := yx_lt (W := W) hy
    rw [e, ← List.append_assoc, if_neg (nI_ge (by omega) (by omega)), c_like b1 hW hT hy hlt, fon_fok]
    have r := ih (W - (u + psz W (fun v => x_p x (y * W + v)) u)) (by omega) (u + psz W (fun v => x_p x (y * W + v)) u) f2 (M ++ pkt K D W l (fun v => x_p x (y * W + v)) u) (by omega) (by omega) (by rw [List.length_append]; omega)
    by_cases c1 : u + 1 < W ∧ x_p x (y * W + u) = x_p x (y * W + (u + 1))
    · have eb : psz W (fun v => x_p x (y * W + v)) u = pgo W (fun v => x_p x (y * W + v)) 1 u 128 1 := by
        unfold psz bx; rw [if_pos c1]
      have ek : pkt K D W l (fun v => x_p x (y * W + v)) u = (127 + psz W (fun v => x_p x (y * W + v)) u) :: pxT K D l (x_p x (y * W + u)) := if_pos c1
      rw [ek] at r hpk
      rw [List.length_cons] at hpk
      rw [ek, if_pos c1, if_neg (by decide), show (1 : Int32) = nI 1 from rfl, c_psz b1 hW hT hy hlt (Or.inr rfl), fon_fok, ← eb, show (127 : Int32) + nI (psz W (fun v => x_p x (y * W + v)) u) = nI (127 + psz W (fun v => x_p x (y * W + v)) u) from nI_add 127 _, c_add _ (by omega), fon_fok, nI_add, ch_nI (by omega)]
      have hc1 : cat (fun j => pxT K D l (x_p x (y * W + u + j))) 1 = pxT K D l (x_p x (y * W + u)) := rfl
      rw [c_pxs (c := 1) hk hP hl hT (by omega) (by rw [hc1, List.length_append, List.length_singleton]; omega), fon_fok, hc1, nI_add, List.append_assoc]
      exact r
    · have eb : psz W (fun v => x_p x (y * W + v)) u = pgo W (fun v => x_p x (y * W + v)) 0 u 128 1 := by
        unfold psz bx; rw [if_neg c1]
      have ek : pkt K D W l (fun v => x_p x (y * W + v)) u = (psz W (fun v => x_p x (y * W + v)) u - 1) :: cat (fun j => pxT K D l (x_p x (y * W + (u + j)))) (psz W (fun v => x_p x (y * W + v)) u) := if_neg c1
      rw [ek] at r hpk
      rw [List.length_cons] at hpk
      rw [ek, if_neg c1, if_pos rfl, show F_X9_packetSize (nI y) (nI u) 0 x = _ from c_psz (b := 0) b1 hW hT hy hlt (Or.inl rfl), fon_fok, ← eb, show nI (psz W (fun v => x_p x (y * W + v)) u) - 1 = nI (psz W (fun v => x_p x (y * W + v)) u - 1) from pk_sub (b := 1) (by omega), c_add _ (by omega), fon_fok, nI_add, ch_nI (by omega)]
      have hc1 : cat (fun j => pxT K D l (x_p x (y * W + u + j))) (psz W (fun v => x_p x (y * W + v)) u) = cat (fun j => pxT K D l (x_p x (y * W + (u + j)))) (psz W (fun v => x_p x (y * W + v)) u) := cat_cong (fun j _ => by rw [Nat.add_assoc])
      rw [c_pxs hk hP hl hT (by omega) (by rw [hc1, List.length_append, List.length_singleton]; omega), fon_fok, hc1, nI_add, List.append_assoc]
      exact r
