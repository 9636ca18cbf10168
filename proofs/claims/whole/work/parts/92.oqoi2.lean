def rgo (N : Nat) (d : A) (u : Int32) (p : Nat) : Nat → Nat → Nat
  | 0, r => r
  | k + 1, r => if 62 ≤ r ∨ N ≤ p + r then r else if d (p + r) = u then rgo N d u p k (r + 1) else r
def qrn (N : Nat) (d : A) (u : Int32) (p : Nat) : Nat := rgo N d u p 63 0
theorem rgo_b (N : Nat) (d : A) (u : Int32) (p : Nat) : ∀ k r, r ≤ 62 → p + r ≤ N → (∀ j, j < r → d (p + j) = u) → rgo N d u p k r ≤ 62 ∧ p + rgo N d u p k r ≤ N ∧ ∀ j, j < rgo N d u p k r → d (p + j) = u
  | 0, r, h1, h2, h3 => ⟨h1, h2, h3⟩
  | k + 1, r, h1, h2, h3 => by
    have e : rgo N d u p (k + 1) r = if 62 ≤ r ∨ N ≤ p + r then r else if d (p + r) = u then rgo N d u p k (r + 1) else r := rfl
    rw [e]
    by_cases c1 : 62 ≤ r ∨ N ≤ p + r
    · rw [if_pos c1]; exact ⟨h1, h2, h3⟩
    · rw [if_neg c1]
      by_cases c2 : d (p + r) = u
      · rw [if_pos c2]
        exact rgo_b N d u p k (r + 1) (by omega) (by omega) (fun j hj => by
          by_cases cj : j = r
          · rw [cj]; exact c2
          · exact h3 j (by omega))
      · rw [if_neg c2]; exact ⟨h1, h2, h3⟩
theorem qrn_b {N : Nat} {d : A} {u : Int32} {p : Nat} (h : p ≤ N) : qrn N d u p ≤ 62 ∧ p + qrn N d u p ≤ N ∧ ∀ j, j < qrn N d u p → d (p + j) = u := rgo_b N d u p 63 0 (by omega) (by omega) (fun j hj => absurd hj (by omega))
theorem c_run {x : Ras} {W H p : Nat} (b1 : x_w x = nI W) (b2 : x_g x = nI H) (hT : W * H ≤ 4096) (hp : p ≤ W * H) (f1 f2 f3 u : Int32) (pl : A) : F_X6_runAt (nI p) x (f1, f2, f3, u, pl) = fok (nI (qrn (W * H) (x_p x) u p)) () := by
  unfold F_X6_runAt
  rw [ut_count b1 b2, fon_fok]
  have em2 : iMin 62 (nI (W * H) - nI p) = nI (if W * H - p ≤ 62 then W * H - p else 62) := by
    rw [pk_sub (by omega)]
    unfold iMin
    by_cases c : W * H - p < 62
    · rw [if_pos (c := nI (W * H - p) < 62) (nI_lt (b := 62) c (by omega)), if_pos (show W * H - p ≤ 62 by omega)]
    · rw [if_neg (c := nI (W * H - p) < 62) (nI_nlt (b := 62) (by omega) (by omega))]
      by_cases c2 : W * H - p ≤ 62
      · rw [if_pos c2, show W * H - p = 62 from by omega]; rfl
      · rw [if_neg c2]; rfl
  rw [em2]
  generalize W * H = N at *
  have q := lp_M (z := fun _ _ _ => fno) (f := F_X6_runAt_15 x (f1, f2, f3, u, pl)) (fun m k => ∀ r fu, r + m = (if N - p ≤ 62 then N - p else 62) → m < fu → k (nI p) (nI (if N - p ≤ 62 then N - p else 62)) (nI r) = fok (nI (rgo N (x_p x) u p fu r)) ()) ?_ (if N - p ≤ 62 then N - p else 62) (by split <;> omega)
  · exact q 0 63 (by split <;> omega) (by split <;> omega)
  · intro m k ih r fu hr hf
    obtain ⟨f2', rfl⟩ : ∃ f2', fu = f2' + 1 := ⟨fu - 1, by omega⟩
    unfold F_X6_runAt_15
    have e : rgo N (x_p x) u p (f2' + 1) r = if 62 ≤ r ∨ N ≤ p + r then r else if x_p x (p + r) = u then rgo N (x_p x) u p f2' (r + 1) else r := rfl
    rw [e]
    by_cases c0 : m = 0
    · have hm : r = (if N - p ≤ 62 then N - p else 62) := by omega
      rw [← hm, if_pos (Int32.le_refl _), if_pos (by split at hm <;> omega)]
    have hlim : r < (if N - p ≤ 62 then N - p else 62) := by omega
    have hr1 : r < 62 ∧ p + r < N := by split at hlim <;> omega
    have rr := ih (m - 1) (by omega) (r + 1) f2' (by omega) (by omega)
    rw [if_neg (nI_ge hlim (by split <;> omega)), if_neg (c := 62 ≤ r ∨ N ≤ p + r) (by omega), nI_add, ut_get (by omega), fon_fok, nI_1]
    dsimp only [qo_last]
    by_cases c2 : x_p x (p + r) = u
    · rw [if_pos c2, if_pos c2]; exact rr
    · rw [if_neg c2, if_neg c2]
/-- the chunks from a pixel on -/
def qL (N : Nat) (d : A) : Nat → Nat → Int32 → A → List Nat
  | 0, _, _, _ => []
  | k + 1, p, u, pl => if N ≤ p then [] else if 0 < qrn N d u p then (191 + qrn N d u p) :: qL N d k (p + qrn N d u p) u (upd pl (hm u) u) else (if pl (hm (d p)) = d p then [hm (d p)] else qch u (d p)) ++ qL N d k (p + 1) (d p) (upd pl (hm (d p)) (d p))
theorem qL_0 {N : Nat} {d : A} {k p : Nat} {u : Int32} {pl : A} (h : N ≤ p) : qL N d k p u pl = [] := by
  cases k with
  | zero => rfl
  | succ k => exact if_pos h
theorem im1 {r : Nat} (h : r < 1000) : iMax (nI r) 1 = nI (if r = 0 then 1 else r) := by
  unfold iMax
  by_cases c : r = 0
  · subst c; decide
  · rw [if_neg c]
    by_cases c2 : nI r < 1
    · exact absurd c2 (nI_nlt (b := 1) (by omega) (by omega))
    · rw [if_neg c2]
theorem c_qL {x : Ras} {W H : Nat} {f : A} (b1 : x_w x = nI W) (b2 : x_g x = nI H) (hT : W * H ≤ 4096) (f1 f2 f3 u0 : Int32) (pl0 : A) {L : List Nat} (hB : L.length + 5 * (W * H) ≤ 65536) :
    ∃ qo, lp (fun _ _ _ _ => fno) (F_X6_writeChunks_15 x) FU (nI (W * H)) 0 (RwC f L) (f1, f2, f3, u0, pl0) = fok () (RwC f (L ++ qL (W * H) (x_p x) (W * H) 0 u0 pl0), qo) := by
  have cr := fun p (hp : p ≤ W * H) u pl => c_run (x := x) b1 b2 hT hp f1 f2 f3 u pl
  generalize W * H = N at *
  have q := lp_M (z := fun _ _ _ _ => fno) (f := F_X6_writeChunks_15 x) (fun m k => ∀ (p fu : Nat) (u : Int32) (pl : A) (M : List Nat), p + m = N → m ≤ fu → M.length + 5 * m ≤ 65536 → ∃ qo, k (nI N) (nI p) (RwC f M) (f1, f2, f3, u, pl) = fok () (RwC f (M ++ qL N (x_p x) fu p u pl), qo)) ?_ N (by omega)
  · exact q 0 N u0 pl0 L (by omega) (by omega) hB
  · intro m k ih p fu u pl M hp hf hM
    unfold F_X6_writeChunks_15 F_X6_writeChunks_70
    by_cases c0 : m = 0
    · have : p = N := by omega
      subst this
      rw [if_pos (Int32.le_refl _), qL_0 (Nat.le_refl _), List.append_nil]
      exact ⟨_, rfl⟩
    obtain ⟨k2, rfl⟩ : ∃ k2, fu = k2 + 1 := ⟨fu - 1, by omega⟩
    have hq := qrn_b (N := N) (d := x_p x) (u := u) (p := p) (by omega)
    have e : qL N (x_p x) (k2 + 1) p u pl = if N ≤ p then [] else if 0 < qrn N (x_p x) u p then (191 + qrn N (x_p x) u p) :: qL N (x_p x) k2 (p + qrn N (x_p x) u p) u (upd pl (hm u) u) else (if pl (hm (x_p x p)) = x_p x p then [hm (x_p x p)] else qch u (x_p x p)) ++ qL N (x_p x) k2 (p + 1) (x_p x p) (upd pl (hm (x_p x p)) (x_p x p)) := rfl
    rw [e, if_neg (c := N ≤ p) (by omega), if_neg (nI_ge (by omega) (by omega)), cr p (by omega) u pl, fon_fok, im1 (by omega)]
    by_cases c1 : 0 < qrn N (x_p x) u p
    · rw [if_pos c1, if_neg (nI_nle c1 (by omega)), show (191 : Int32) + nI (qrn N (x_p x) u p) = nI (191 + qrn N (x_p x) u p) from nI_add 191 _, c_add _ (by omega), fon_fok, keep_eq, fon_fok, if_neg (by omega), nI_add, ch_nI (by omega)]
      obtain ⟨qo, r⟩ := ih (N - (p + qrn N (x_p x) u p)) (by omega) (p + qrn N (x_p x) u p) k2 u (upd pl (hm u) u) (M ++ [191 + qrn N (x_p x) u p]) (by omega) (by omega) (by rw [List.length_append, List.length_singleton]; omega)
      rw [List.append_assoc] at r
      exact ⟨qo, r⟩
    · have hz : qrn N (x_p x) u p = 0 := by omega
      rw [if_neg c1, hz, if_pos (by decide), ut_get (by omega), fon_fok, if_pos rfl]
      dsimp only [qo_f1, qo_f2, qo_f3, qo_pl]
      by_cases c2 : pl (hm (x_p x p)) = x_p x p
      · have hh := hm_lt (x_p x p)
        have ew : F_X6_writePixel (x_p x p) (RwC f M) (f1, f2, f3, u, pl) = fok () (RwC f (M ++ [hm (x_p x p)])) := by
          unfold F_X6_writePixel
          dsimp only [qo_pl]
          rw [home_hm, if_pos (inb_nI hh (by omega)), nI_clamp (by omega), if_pos c2, c_add _ (by omega), fon_fok, ch_nI (by omega)]
        rw [ew, fon_fok, fon_fok, keep_eq, fon_fok, nI_add, if_pos c2]
        obtain ⟨qo, r⟩ := ih (m - 1) (by omega) (p + 1) k2 (x_p x p) (upd pl (hm (x_p x p)) (x_p x p)) (M ++ [hm (x_p x p)]) (by omega) (by omega) (by rw [List.length_append, List.length_singleton]; omega)
        rw [List.append_assoc] at r
        exact ⟨qo, r⟩
      · obtain ⟨l, l1, l2, ec, _, _, el⟩ := chunk_eq (f := f) (L := M) u (x_p x p) 0 0 f1 f2 f3 pl c2 (by omega)
        rw [ec, fon_fok, fon_fok, keep_eq, fon_fok, nI_add, if_neg c2, ← el]
        obtain ⟨qo, r⟩ := ih (m - 1) (by omega) (p + 1) k2 (x_p x p) (upd pl (hm (x_p x p)) (x_p x p)) (M ++ l) (by omega) (by omega) (by rw [List.length_append]; omega)
        rw [List.append_assoc] at r
        exact ⟨qo, r⟩
