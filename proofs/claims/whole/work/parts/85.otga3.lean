def p4 (K : Nat) : Nat := if K = 1 then 1 else 0
def g5 (K : Nat) : Nat := if K = 3 then 1 else 0
/-- what the reference's rows know -/
def refT (K D i W H : Nat) (l : List Int32) (d dd wi hi co : A) (cm : Int32) : Prop := okTg K D ∧ i < 4 ∧ W ≤ 4096 ∧ H ≤ 4096 ∧ W * H ≤ 4096 ∧ wi i = nI W ∧ hi i = nI H ∧ (∀ p, p < W * H → d p = dd (4096 * i + p)) ∧ palT K (W * H) d l ∧ (K = 1 → inA l co ∧ cm = nI l.length) ∧ (K = 3 → ∀ p, p < W * H → ch (d p) 24 = ch (d p) 8)
theorem r_colT {f : A} {L : List Nat} {D : Nat} (hD : D = 3 ∨ D = 4) (v a b : Int32) (h : L.length + (colT D v).length ≤ 65536) : F_X11_putBack v (nI D) (MwL a b L) (ap f L) = fok () (MwL a b (L ++ colT D v), ap f (L ++ colT D v)) := by
  rw [colT_len hD] at h
  rcases hD with rfl | rfl
  · exact r_bgr v a b h
  · exact r_bgra v a b h
theorem r_429 {K D i W H y x r b : Nat} {l : List Int32} {f d dd wi hi co : A} {h cm : Int32} {L : List Nat} (a : Int32) (hr : refT K D i W H l d dd wi hi co cm) (hy : y < H) (hx : x + r ≤ W) (h1 : 1 ≤ r) (hb : b = 0 ∨ b = 1) (k284 : Int32 → Int32 → Int32 → Int32 → Int32 → Int32 → MW → A → A → Out (MW × A × A) Unit) (k298 : Int32 → Int32 → Int32 → Int32 → Int32 → Int32 → Int32 → MW → A → A → Out (MW × A × A) Unit) (hB : L.length + (cat (fun j => pxT K D l (d (y * W + (x + j)))) (if b = 0 then r else 1)).length ≤ 65536) :
    F_X11_writeTarga_429 dd wi hi k284 k298 (nI i) a (nI D) (nI (p4 K)) (nI (g5 K)) (nI y) (nI x) (nI r) (nI b) (MwL h cm L) (ap f L) co = k298 (nI i) a (nI D) (nI (p4 K)) (nI (g5 K)) (nI y) (nI (x + r)) (MwL h cm (L ++ cat (fun j => pxT K D l (d (y * W + (x + j)))) (if b = 0 then r else 1))) (ap f (L ++ cat (fun j => pxT K D l (d (y * W + (x + j)))) (if b = 0 then r else 1))) co := by
  obtain ⟨hk, hi4, hW, hH, hT, b3, b4, hd, hl, hc, hg⟩ := hr
  unfold F_X11_writeTarga_429
  have hc1 : (if b = 0 then r else 1) ≤ r := by split <;> omega
  have sel : ∀ (F : Int32 → Out (MW × A × A) Unit), (if nI b = 0 then F (nI r) else F 1) = F (nI (if b = 0 then r else 1)) := by
    intro F
    rcases hb with rfl | rfl
    · rw [if_pos (c := nI 0 = 0) rfl, if_pos (c := 0 = 0) rfl]
    · rw [if_neg (c := nI 1 = 0) (by decide), if_neg (c := 1 = 0) (by decide)]; rfl
  generalize hcc : (if b = 0 then r else 1) = c at *
  have q := lp_M (z := fun _ _ _ _ _ _ _ _ _ _ _ _ _ => fno) (f := F_X11_writeTarga_432 dd wi hi k284 k298) (fun m k => ∀ j, j + m = c → k (nI i) a (nI D) (nI (p4 K)) (nI (g5 K)) (nI y) (nI x) (nI r) (nI b) (nI j) (MwL h cm (L ++ cat (fun j => pxT K D l (d (y * W + (x + j)))) j)) (ap f (L ++ cat (fun j => pxT K D l (d (y * W + (x + j)))) j)) co = k298 (nI i) a (nI D) (nI (p4 K)) (nI (g5 K)) (nI y) (nI (x + r)) (MwL h cm (L ++ cat (fun j => pxT K D l (d (y * W + (x + j)))) c)) (ap f (L ++ cat (fun j => pxT K D l (d (y * W + (x + j)))) c)) co) ?_ c (by omega)
  · have r := q 0 (by omega)
    rw [show cat (fun j => pxT K D l (d (y * W + (x + j)))) 0 = [] from rfl, List.append_nil] at r
    exact r
  · intro m k ih j hj
    unfold F_X11_writeTarga_432
    rw [sel (fun t0 => F_X11_writeTarga_445 dd wi hi k284 k298 k (nI i) a (nI D) (nI (p4 K)) (nI (g5 K)) (nI y) (nI x) (nI r) (nI b) (nI j) t0 (nI j) _ _ co)]
    unfold F_X11_writeTarga_445 F_X11_writeTarga_504
    by_cases c0 : m = 0
    · have : j = c := by omega
      subst this
      rw [if_pos (Int32.le_refl _), nI_add]
    have hix := idx_lt (show x + j < W by omega) hy
    have hbl := cat_lt (fun j => pxT K D l (d (y * W + (x + j)))) (show j < c by omega)
    have rr := ih (m - 1) (by omega) (j + 1) (by omega)
    rw [cat_s, ← List.append_assoc] at rr
    have hM : (L ++ cat (fun j => pxT K D l (d (y * W + (x + j)))) j).length + (pxT K D l (d (y * W + (x + j)))).length ≤ 65536 := by
      rw [List.length_append]; omega
    generalize L ++ cat (fun j => pxT K D l (d (y * W + (x + j)))) j = N at *
    rw [if_neg (nI_ge (by omega) (by omega)), nI_add, at_eq hi4 (show x + j < W by omega) hy hT b3, fon_fok, ← hd _ hix, nI_1]
    obtain ⟨hK, hD⟩ := hk
    rcases hK with rfl | rfl | rfl
    · obtain ⟨l1, l2, l3⟩ := hl rfl
      obtain ⟨hco, hcm⟩ := hc rfl
      have hxm := l3 _ hix
      have e : pxT 1 D l (d (y * W + (x + j))) = [ixo l (d (y * W + (x + j)))] := rfl
      rw [e] at hM rr
      rw [List.length_singleton] at hM
      rw [if_neg (c := nI (p4 1) = 0) (by decide), show MwL h cm N = (nI N.length, h, nI l.length) from by rw [hcm], co_eq l1 hco, fon_fok, if_pos hxm, ← hcm, r_put _ _ _ (by omega), fon_fok, ch_nI (by have := (ixo_in hxm).1; omega)]
      exact rr
    · have e : pxT 2 D l (d (y * W + (x + j))) = colT D (d (y * W + (x + j))) := rfl
      rw [e] at hM rr
      rw [if_pos (c := nI (p4 2) = 0) rfl, if_pos (c := nI (g5 2) = 0) rfl, r_colT hD _ _ _ hM, fon_fok]
      exact rr
    · have e : pxT 3 D l (d (y * W + (x + j))) = [ch (d (y * W + (x + j))) 24] := rfl
      rw [e] at hM rr
      rw [List.length_singleton] at hM
      rw [if_pos (c := nI (p4 3) = 0) rfl, if_neg (c := nI (g5 3) = 0) (by decide), r_put _ _ _ (by omega), fon_fok, ch_shr _ _ 8 (by decide) (by decide), ← hg rfl _ hix]
      exact rr
theorem r_like {i W H x y : Nat} {d dd wi : A} (hi4 : i < 4) (hW : W ≤ 4096) (hT : W * H ≤ 4096) (b3 : wi i = nI W) (hd : ∀ p, p < W * H → d p = dd (4096 * i + p)) (hy : y < H) (hx : x < W) : F_X11_isLike (nI i) (nI x) (nI y) dd wi = fok (if x + 1 < W ∧ d (y * W + x) = d (y * W + (x + 1)) then 1 else 0) () := by
  unfold F_X11_isLike F_X11_isLike_35
  have hi := idx_lt hx hy
  rw [if_pos (inb_nI hi4 (by omega)), nI_clamp (by omega), b3, nI_1]
  by_cases c1 : x + 1 < W
  · have hi2 := idx_lt c1 hy
    rw [if_neg (nI_ge c1 (by omega)), at_eq hi4 c1 hy hT b3, fon_fok, at_eq hi4 hx hy hT b3, fon_fok, ← hd _ hi, ← hd _ hi2]
    by_cases c2 : d (y * W + x) = d (y * W + (x + 1))
    · rw [if_pos c2.symm, if_pos ⟨c1, c2⟩]
    · rw [if_neg (fun e => c2 e.symm), if_neg (fun e => c2 e.2)]
  · rw [if_pos (nI_le (by omega) (by omega)), if_neg (fun e => c1 e.1)]
theorem r_333 {i W H x y b : Nat} {d dd wi hi co : A} {L : MW} {mu : A} (hi4 : i < 4) (hW : W ≤ 4096) (hT : W * H ≤ 4096) (b3 : wi i = nI W) (hd : ∀ p, p < W * H → d p = dd (4096 * i + p)) (hy : y < H) (hx : x < W) (hb : b = 0 ∨ b = 1) (k284 : Int32 → Int32 → Int32 → Int32 → Int32 → Int32 → MW → A → A → Out (MW × A × A) Unit) (k298 : Int32 → Int32 → Int32 → Int32 → Int32 → Int32 → Int32 → MW → A → A → Out (MW × A × A) Unit) (v2 v3 v4 v5 : Int32) :
    lp (fun _ _ _ _ _ _ _ _ _ _ _ _ => fno) (F_X11_writeTarga_333 dd wi hi k284 k298) FU (nI i) v2 v3 v4 v5 (nI y) (nI x) 1 (nI b) L mu co = F_X11_writeTarga_408 dd wi hi k284 k298 (nI i) v2 v3 v4 v5 (nI y) (nI x) (nI (pgo W (fun v => d (y * W + v)) b x 128 1)) (nI b) L mu co := by
  have q := lp_M (z := fun _ _ _ _ _ _ _ _ _ _ _ _ => fno) (f := F_X11_writeTarga_333 dd wi hi k284 k298) (fun m k => ∀ r fu, r + m = 128 → m < fu → 1 ≤ r → (b = 1 → d (y * W + (x + r - 1)) = d (y * W + x)) → k (nI i) v2 v3 v4 v5 (nI y) (nI x) (nI r) (nI b) L mu co = F_X11_writeTarga_408 dd wi hi k284 k298 (nI i) v2 v3 v4 v5 (nI y) (nI x) (nI (pgo W (fun v => d (y * W + v)) b x fu r)) (nI b) L mu co) ?_ 127 (by omega)
  · exact q 1 128 (by omega) (by omega) (by omega) (fun _ => rfl)
  · intro m k ih r fu hr hf h1 hrun
    obtain ⟨f2, rfl⟩ : ∃ f2, fu = f2 + 1 := ⟨fu - 1, by omega⟩
    unfold F_X11_writeTarga_333 F_X11_writeTarga_402
    have eP : pgo W (fun v => d (y * W + v)) b x (f2 + 1) r = (if 128 ≤ r ∨ W ≤ x + r then r else if b = 0 then (if x + r + 1 < W ∧ d (y * W + (x + r)) = d (y * W + (x + r + 1)) then r else pgo W (fun v => d (y * W + v)) b x f2 (r + 1)) else (if x + r < W ∧ d (y * W + (x + r - 1)) = d (y * W + (x + r)) then pgo W (fun v => d (y * W + v)) b x f2 (r + 1) else r)) := rfl
    rw [eP]
    by_cases c0 : 128 ≤ r
    · rw [if_pos (c := 128 ≤ nI r) (nI_le (a := 128) c0 (by omega)), if_pos (Or.inl c0)]
    rw [if_neg (c := 128 ≤ nI r) (nI_ge (b := 128) (by omega) (by omega)), if_pos (inb_nI hi4 (by omega)), nI_clamp (by omega), b3, nI_add, nI_1]
    by_cases c1 : W ≤ x + r
    · rw [if_pos (nI_le c1 (by omega)), if_pos (Or.inr c1)]
    have hxr : x + r < W := by omega
    have hi2 := idx_lt hxr hy
    have hi1 := idx_lt hx hy
    rw [if_neg (nI_ge hxr (by omega)), if_neg (c := 128 ≤ r ∨ W ≤ x + r) (by omega)]
    rcases hb with rfl | rfl
    · rw [if_pos (c := nI 0 = 0) rfl, if_pos (c := 0 = 0) rfl, r_like hi4 hW hT b3 hd hy hxr, fon_fok]
      by_cases c2 : x + r + 1 < W ∧ d (y * W + (x + r)) = d (y * W + (x + r + 1))
      · rw [if_pos c2, if_neg (c := (1 : Int32) = 0) (by decide), if_pos c2]
      · rw [if_neg c2, if_pos (c := (0 : Int32) = 0) rfl, if_neg c2]
        exact ih (m - 1) (by omega) (r + 1) f2 (by omega) (by omega) (by omega) (fun e => absurd e (by decide))
    · have hrn := hrun rfl
      rw [if_neg (c := nI 1 = 0) (by decide), if_neg (c := 1 = 0) (by decide), at_eq hi4 hxr hy hT b3, fon_fok, at_eq hi4 hx hy hT b3, fon_fok, ← hd _ hi1, ← hd _ hi2]
      by_cases c2 : d (y * W + (x + r)) = d (y * W + x)
      · rw [if_pos c2, if_pos ⟨hxr, by rw [hrn, c2]⟩]
        exact ih (m - 1) (by omega) (r + 1) f2 (by omega) (by omega) (by omega) (fun _ => by rw [show x + (r + 1) - 1 = x + r from by omega]; exact c2)
      · rw [if_neg c2, if_neg (fun e => c2 (by rw [← e.2, hrn]))]
theorem r_rowT {a D i W H y : Nat} {l : List Int32} {f d dd wi hi co : A} {h cm : Int32} {L : List Nat} (ha : a < 32) (hr : refT (kT a) D i W H l d dd wi hi co cm) (hy : y < H) (k284 : Int32 → Int32 → Int32 → Int32 → Int32 → Int32 → MW → A → A → Out (MW × A × A) Unit) (hB : L.length + W * 5 ≤ 65536) :
    lp (fun _ _ _ _ _ _ _ _ _ _ => fno) (F_X11_writeTarga_298 dd wi hi k284) FU (nI i) (nI a) (nI D) (nI (p4 (kT a))) (nI (g5 (kT a))) (nI y) 0 (MwL h cm L) (ap f L) co = k284 (nI i) (nI a) (nI D) (nI (p4 (kT a))) (nI (g5 (kT a))) (nI (y + 1)) (MwL h cm (L ++ rowT a D W l d y)) (ap f (L ++ rowT a D W l d y)) co := by
  obtain ⟨hk, hi4, hW, hH, hT, b3, b4, hd, hl, hc, hg⟩ := id hr
  have e2 : nI a - nI a / 2 * 2 = nI (a % 2) := by
    rw [show (2 : Int32) = nI 2 from rfl, pk_div (by omega) (by omega) (by omega), pk_mul, pk_sub (by omega)]
    congr 1; omega
  by_cases c : a % 2 = 1
  · have eR : rowT a D W l d y = pkL (kT a) D W l (fun v => d (y * W + v)) W 0 := if_pos c
    rw [eR]
    generalize kT a = K at *
    have q := lp_M (z := fun _ _ _ _ _ _ _ _ _ _ => fno) (f := F_X11_writeTarga_298 dd wi hi k284) (fun m k => ∀ (u fu : Nat) (M : List Nat), u + m = W → m ≤ fu → M.length + m * 5 ≤ 65536 → k (nI i) (nI a) (nI D) (nI (p4 K)) (nI (g5 K)) (nI y) (nI u) (MwL h cm M) (ap f M) co = k284 (nI i) (nI a) (nI D) (nI (p4 K)) (nI (g5 K)) (nI (y + 1)) (MwL h cm (M ++ pkL K D W l (fun v => d (y * W + v)) fu u)) (ap f (M ++ pkL K D W l (fun v => d (y * W + v)) fu u)) co) ?_ W (by omega)
    · exact q 0 W L (by omega) (by omega) hB
    · intro m k ih u fu M hu hf hM
      unfold F_X11_writeTarga_298
      rw [if_pos (inb_nI hi4 (by omega)), nI_clamp (by omega), b3]
      by_cases c0 : m = 0
      · have : u = W := by omega
        subst this
        rw [if_pos (Int32.le_refl _), nI_1]
        have : pkL K D u l (fun v => d (y * u + v)) fu u = [] := by
          cases fu with
          | zero => rfl
          | succ k => exact if_pos (Nat.le_refl _)
        rw [this, List.append_nil]
      obtain ⟨f2, rfl⟩ : ∃ f2, fu = f2 + 1 := ⟨fu - 1, by omega⟩
      have hlt : u < W := by omega
      have hp := psz_b (d := fun v => d (y * W + v)) hlt
      have hpk := pkt_le (K := K) (l := l) hk.2 hlt (d := fun v => d (y * W + v))
      have e : pkL K D W l (fun v => d (y * W + v)) (f2 + 1) u = pkt K D W l (fun v => d (y * W + v)) u ++ pkL K D W l (fun v => d (y * W + v)) f2 (u + psz W (fun v => d (y * W + v)) u) := if_neg (by omega)
      rw [e, ← List.append_assoc, if_neg (nI_ge (by omega) (by omega)), e2, c, if_pos (c := nI 1 = 1) rfl, r_like hi4 hW hT b3 hd hy hlt, fon_fok]
      have r := ih (W - (u + psz W (fun v => d (y * W + v)) u)) (by omega) (u + psz W (fun v => d (y * W + v)) u) f2 (M ++ pkt K D W l (fun v => d (y * W + v)) u) (by omega) (by omega) (by rw [List.length_append]; omega)
      by_cases c1 : u + 1 < W ∧ d (y * W + u) = d (y * W + (u + 1))
      · have eb : psz W (fun v => d (y * W + v)) u = pgo W (fun v => d (y * W + v)) 1 u 128 1 := by
          unfold psz bx; rw [if_pos c1]
        have ek : pkt K D W l (fun v => d (y * W + v)) u = (127 + psz W (fun v => d (y * W + v)) u) :: pxT K D l (d (y * W + u)) := if_pos c1
        rw [ek] at r hpk
        rw [List.length_cons] at hpk
        rw [ek, if_pos c1, show (1 : Int32) = nI 1 from rfl, show lp (fun _ _ _ _ _ _ _ _ _ _ _ _ => fno) (F_X11_writeTarga_333 dd wi hi k284 k) FU (nI i) (nI a) (nI D) (nI (p4 K)) (nI (g5 K)) (nI y) (nI u) (nI 1) (nI 1) (MwL h cm M) (ap f M) co = _ from r_333 (b := 1) hi4 hW hT b3 hd hy hlt (Or.inr rfl) k284 k _ _ _ _, ← eb]
        unfold F_X11_writeTarga_408 F_X11_writeTarga_426
        rw [if_neg (c := nI 1 = 0) (by decide), show (127 : Int32) + nI (psz W (fun v => d (y * W + v)) u) = nI (127 + psz W (fun v => d (y * W + v)) u) from nI_add 127 _, r_put _ _ _ (by omega), fon_fok, ch_nI (by omega)]
        have hc1 : cat (fun j => pxT K D l (d (y * W + (u + j)))) 1 = pxT K D l (d (y * W + u)) := rfl
        dsimp only
        rw [r_429 (b := 1) (nI a) hr hy (by omega) (by omega) (Or.inr rfl) k284 k (by rw [if_neg (by decide), hc1, List.length_append, List.length_singleton]; omega), if_neg (c := 1 = 0) (by decide), hc1, List.append_assoc]
        exact r
      · have eb : psz W (fun v => d (y * W + v)) u = pgo W (fun v => d (y * W + v)) 0 u 128 1 := by
          unfold psz bx; rw [if_neg c1]
        have ek : pkt K D W l (fun v => d (y * W + v)) u = (psz W (fun v => d (y * W + v)) u - 1) :: cat (fun j => pxT K D l (d (y * W + (u + j)))) (psz W (fun v => d (y * W + v)) u) := if_neg c1
        rw [ek] at r hpk
        rw [List.length_cons] at hpk
        rw [ek, if_neg c1, show lp (fun _ _ _ _ _ _ _ _ _ _ _ _ => fno) (F_X11_writeTarga_333 dd wi hi k284 k) FU (nI i) (nI a) (nI D) (nI (p4 K)) (nI (g5 K)) (nI y) (nI u) 1 0 (MwL h cm M) (ap f M) co = _ from r_333 (b := 0) hi4 hW hT b3 hd hy hlt (Or.inl rfl) k284 k _ _ _ _, ← eb]
        unfold F_X11_writeTarga_408 F_X11_writeTarga_426
        rw [if_pos (c := nI 0 = 0) rfl, show nI (psz W (fun v => d (y * W + v)) u) - 1 = nI (psz W (fun v => d (y * W + v)) u - 1) from pk_sub (b := 1) (by omega), r_put _ _ _ (by omega), fon_fok, ch_nI (by omega)]
        dsimp only
        rw [r_429 (b := 0) (nI a) hr hy (by omega) (by omega) (Or.inl rfl) k284 k (by rw [if_pos rfl, List.length_append, List.length_singleton]; omega), if_pos (c := 0 = 0) rfl, List.append_assoc]
        exact r
  · have eR : rowT a D W l d y = cat (fun x => pxT (kT a) D l (d (y * W + x))) W := if_neg c
    rw [eR]
    generalize kT a = K at *
    have hmx := cat_max (fun x => pxT K D l (d (y * W + x))) 4 (n := W) (fun j _ => (pxT_le (K := K) hk.2 l _).2)
    have q := lp_M (z := fun _ _ _ _ _ _ _ _ _ _ => fno) (f := F_X11_writeTarga_298 dd wi hi k284) (fun m k => ∀ u, u + m = W → k (nI i) (nI a) (nI D) (nI (p4 K)) (nI (g5 K)) (nI y) (nI u) (MwL h cm (L ++ cat (fun x => pxT K D l (d (y * W + x))) u)) (ap f (L ++ cat (fun x => pxT K D l (d (y * W + x))) u)) co = k284 (nI i) (nI a) (nI D) (nI (p4 K)) (nI (g5 K)) (nI (y + 1)) (MwL h cm (L ++ cat (fun x => pxT K D l (d (y * W + x))) W)) (ap f (L ++ cat (fun x => pxT K D l (d (y * W + x))) W)) co) ?_ W (by omega)
    · have r := q 0 (by omega)
      rw [show cat (fun x => pxT K D l (d (y * W + x))) 0 = [] from rfl, List.append_nil] at r
      exact r
    · intro m k ih u hu
      unfold F_X11_writeTarga_298
      rw [if_pos (inb_nI hi4 (by omega)), nI_clamp (by omega), b3]
      by_cases c0 : m = 0
      · have : u = W := by omega
        subst this
        rw [if_pos (Int32.le_refl _), nI_1]
      have hb := cat_lt (fun x => pxT K D l (d (y * W + x))) (show u < W by omega)
      have r := ih (m - 1) (by omega) (u + 1) (by omega)
      rw [cat_s, ← List.append_assoc] at r
      have hc1 : cat (fun j => pxT K D l (d (y * W + (u + j)))) 1 = pxT K D l (d (y * W + u)) := rfl
      rw [if_neg (nI_ge (by omega) (by omega)), e2, show a % 2 = 0 from by omega, if_neg (c := nI 0 = 1) (by decide)]
      rw [show F_X11_writeTarga_429 dd wi hi k284 k (nI i) (nI a) (nI D) (nI (p4 K)) (nI (g5 K)) (nI y) (nI u) 1 0 (MwL h cm (L ++ cat (fun x => pxT K D l (d (y * W + x))) u)) (ap f (L ++ cat (fun x => pxT K D l (d (y * W + x))) u)) co = _ from r_429 (r := 1) (b := 0) (nI a) hr hy (by omega) (by omega) (Or.inl rfl) k284 k (by rw [if_pos rfl, hc1, List.length_append]; omega), if_pos (c := 0 = 0) rfl, hc1]
      exact r
