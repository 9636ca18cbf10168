theorem r_124 {i N p : Nat} {d dd wi hi sp : A} (hi4 : i < 4) (hN : N ≤ 4096) (hp : p < N) (hd : ∀ q, q < N → d q = dd (4096 * i + q)) (u v5 : Int32) (mw : MW) (mu : A) (k100 : Int32 → Int32 → Int32 → Int32 → MW → A → A → Out (MW × A × A) Unit) :
    lp (fun _ _ _ _ _ _ _ _ _ => fno) (F_X11_writeChunks_124 dd wi hi k100) FU (nI i) u (nI N) (nI p) v5 0 mw mu sp = F_X11_writeChunks_166 dd wi hi k100 (nI i) u (nI N) (nI p) v5 (nI (qrn N d u p)) mw mu sp := by
  have q := lp_M (z := fun _ _ _ _ _ _ _ _ _ => fno) (f := F_X11_writeChunks_124 dd wi hi k100) (fun m k => ∀ r fu, r + m = 62 → m < fu → k (nI i) u (nI N) (nI p) v5 (nI r) mw mu sp = F_X11_writeChunks_166 dd wi hi k100 (nI i) u (nI N) (nI p) v5 (nI (rgo N d u p fu r)) mw mu sp) ?_ 62 (by omega)
  · exact q 0 63 (by omega) (by omega)
  · intro m k ih r fu hr hf
    obtain ⟨f2', rfl⟩ : ∃ f2', fu = f2' + 1 := ⟨fu - 1, by omega⟩
    unfold F_X11_writeChunks_124
    have e : rgo N d u p (f2' + 1) r = if 62 ≤ r ∨ N ≤ p + r then r else if d (p + r) = u then rgo N d u p f2' (r + 1) else r := rfl
    rw [e]
    by_cases c0 : 62 ≤ r
    · rw [if_pos (c := 62 ≤ nI r) (nI_le (a := 62) c0 (by omega)), if_pos (Or.inl c0)]
    rw [if_neg (c := 62 ≤ nI r) (nI_ge (b := 62) (by omega) (by omega)), ix_dd, nI_add, nI_add, nI_1]
    by_cases c1 : N ≤ p + r
    · rw [if_pos (nI_le c1 (by omega)), if_pos (Or.inr c1)]
    have rr := ih (m - 1) (by omega) (r + 1) f2' (by omega) (by omega)
    rw [if_neg (nI_ge (by omega) (by omega)), if_neg (c := 62 ≤ r ∨ N ≤ p + r) (by omega), if_pos (inb_nI (by omega) (by omega)), nI_clamp (by omega), Nat.add_assoc, ← hd (p + r) (by omega)]
    by_cases c2 : d (p + r) = u
    · rw [if_pos c2, if_pos c2]; exact rr
    · rw [if_neg c2, if_neg c2]
theorem r_qL {i N : Nat} {f d dd wi hi sp0 pl0 : A} {h cm : Int32} (hi4 : i < 4) (hN : N ≤ 4096) (hd : ∀ q, q < N → d q = dd (4096 * i + q)) (u0 : Int32) (h0 : ∀ j, j < 64 → sp0 j = pl0 j) {L : List Nat} (hB : L.length + 5 * N ≤ 65536) :
    ∃ sp2, lp (fun _ _ _ _ _ _ _ => fno) (F_X11_writeChunks_100 dd wi hi) FU (nI i) u0 (nI N) 0 (MwL h cm L) (ap f L) sp0 = lp (fun _ _ _ _ => fno) (F_X11_writeChunks_249 dd wi hi) FU 0 (MwL h cm (L ++ qL N d N 0 u0 pl0)) (ap f (L ++ qL N d N 0 u0 pl0)) sp2 := by
  have q := lp_M (z := fun _ _ _ _ _ _ _ => fno) (f := F_X11_writeChunks_100 dd wi hi) (fun m k => ∀ (p fu : Nat) (u : Int32) (sp pl : A) (M : List Nat), p + m = N → m ≤ fu → M.length + 5 * m ≤ 65536 → (∀ j, j < 64 → sp j = pl j) → ∃ sp2, k (nI i) u (nI N) (nI p) (MwL h cm M) (ap f M) sp = lp (fun _ _ _ _ => fno) (F_X11_writeChunks_249 dd wi hi) FU 0 (MwL h cm (M ++ qL N d fu p u pl)) (ap f (M ++ qL N d fu p u pl)) sp2) ?_ N (by omega)
  · exact q 0 N u0 sp0 pl0 L (by omega) (by omega) hB h0
  · intro m k ih p fu u sp pl M hp hf hM hs
    unfold F_X11_writeChunks_100
    by_cases c0 : m = 0
    · have : p = N := by omega
      subst this
      rw [if_pos (Int32.le_refl _), qL_0 (Nat.le_refl _), List.append_nil]
      exact ⟨sp, rfl⟩
    obtain ⟨k2, rfl⟩ : ∃ k2, fu = k2 + 1 := ⟨fu - 1, by omega⟩
    have hq := qrn_b (N := N) (d := d) (u := u) (p := p) (by omega)
    have e : qL N d (k2 + 1) p u pl = if N ≤ p then [] else if 0 < qrn N d u p then (191 + qrn N d u p) :: qL N d k2 (p + qrn N d u p) u (upd pl (hm u) u) else (if pl (hm (d p)) = d p then [hm (d p)] else qch u (d p)) ++ qL N d k2 (p + 1) (d p) (upd pl (hm (d p)) (d p)) := rfl
    have hh := hm_lt (d p)
    have hsu : ∀ (v : Int32) j, j < 64 → upd sp (hm v) v j = upd pl (hm v) v j := by
      intro v j hj
      unfold upd
      by_cases c : j = hm v
      · rw [if_pos c, if_pos c]
      · rw [if_neg c, if_neg c, hs j hj]
    rw [e, if_neg (c := N ≤ p) (by omega), if_neg (nI_ge (by omega) (by omega)), ix_dd, if_pos (inb_nI (by omega) (by omega)), nI_clamp (by omega), ← hd p (by omega), r_124 hi4 hN (by omega) hd]
    unfold F_X11_writeChunks_166 F_X11_writeChunks_225 F_X11_writeChunks_228
    rw [spot_hm, if_pos (inb_nI hh (by omega)), nI_clamp (by omega)]
    by_cases c1 : 0 < qrn N d u p
    · have hdp : d p = u := hq.2.2 0 c1
      obtain ⟨sp2, r⟩ := ih (N - (p + qrn N d u p)) (by omega) (p + qrn N d u p) k2 u (upd sp (hm u) u) (upd pl (hm u) u) (M ++ [191 + qrn N d u p]) (by omega) (by omega) (by rw [List.length_append, List.length_singleton]; omega) (hsu u)
      rw [List.append_assoc] at r
      refine ⟨sp2, ?_⟩
      rw [if_pos c1, if_neg (nI_nle c1 (by omega)), show (191 : Int32) + nI (qrn N d u p) = nI (191 + qrn N d u p) from nI_add 191 _, r_put _ _ _ (by omega), fon_fok, nI_add, ch_nI (by omega), hdp]
      rw [hdp] at hh
      rw [if_pos (inb_nI hh (by omega))]
      exact r
    · have hz : qrn N d u p = 0 := by omega
      rw [if_neg c1, hz, if_pos (c := nI 0 ≤ 0) (by decide), hs _ hh, nI_1]
      by_cases c2 : pl (hm (d p)) = d p
      · obtain ⟨sp2, r⟩ := ih (m - 1) (by omega) (p + 1) k2 (d p) (upd sp (hm (d p)) (d p)) (upd pl (hm (d p)) (d p)) (M ++ [hm (d p)]) (by omega) (by omega) (by rw [List.length_append, List.length_singleton]; omega) (hsu (d p))
        rw [List.append_assoc] at r
        refine ⟨sp2, ?_⟩
        rw [if_pos c2, if_pos c2, r_put _ _ _ (by omega), fon_fok, ch_nI (by omega), if_pos (inb_nI hh (by omega))]
        exact r
      · obtain ⟨l, l1, l2, _, er, _, el⟩ := chunk_eq (f := f) (L := M) u (d p) h cm 0 0 0 pl c2 (by omega)
        obtain ⟨sp2, r⟩ := ih (m - 1) (by omega) (p + 1) k2 (d p) (upd sp (hm (d p)) (d p)) (upd pl (hm (d p)) (d p)) (M ++ l) (by omega) (by omega) (by rw [List.length_append]; omega) (hsu (d p))
        rw [List.append_assoc] at r
        refine ⟨sp2, ?_⟩
        rw [if_neg c2, if_neg c2, er, fon_fok, if_pos (inb_nI hh (by omega)), ← el]
        exact r
def hi4L (v : Int32) : List Nat := [ch v 24, ch v 16, ch v 8, ch v 0]
theorem c_hi4 {f : A} {L : List Nat} (v : Int32) (h : L.length + 4 ≤ 65536) : F_X1_addHigh4 v (RwC f L) = fok () (RwC f (L ++ hi4L v)) := by
  unfold F_X1_addHigh4
  rw [c_add _ (by omega), fon_fok, c_add _ (by simp only [List.length_append, List.length_cons, List.length_nil]; omega), fon_fok, c_add _ (by simp only [List.length_append, List.length_cons, List.length_nil]; omega), fon_fok, c_add _ (by simp only [List.length_append, List.length_cons, List.length_nil]; omega), fon_fok, ch_shr _ _ 24 (by decide) (by decide), ch_shr _ _ 16 (by decide) (by decide), ch_shr _ _ 8 (by decide) (by decide)]
  simp only [List.append_assoc]
  rfl
theorem r_hi4 {f : A} {L : List Nat} (v a b : Int32) (h : L.length + 4 ≤ 65536) : F_X11_putTop v (MwL a b L) (ap f L) = fok () (MwL a b (L ++ hi4L v), ap f (L ++ hi4L v)) := by
  unfold F_X11_putTop
  rw [lp_5]
  unfold F_X11_putTop_3
  rw [if_neg (c := (24 : Int32) < 0) (by decide), r_put _ _ _ (by omega), fon_fok]
  dsimp only
  rw [if_neg (c := (24 : Int32) + -8 < 0) (by decide), r_put _ _ _ (by simp only [List.length_append, List.length_cons, List.length_nil]; omega), fon_fok]
  dsimp only
  rw [if_neg (c := (24 : Int32) + -8 + -8 < 0) (by decide), r_put _ _ _ (by simp only [List.length_append, List.length_cons, List.length_nil]; omega), fon_fok]
  dsimp only
  rw [if_neg (c := (24 : Int32) + -8 + -8 + -8 < 0) (by decide), r_put _ _ _ (by simp only [List.length_append, List.length_cons, List.length_nil]; omega), fon_fok]
  dsimp only
  rw [if_pos (c := (24 : Int32) + -8 + -8 + -8 + -8 < 0) (by decide), ch_shr _ _ 24 (by decide) (by decide), ch_shr _ _ 16 (by decide) (by decide), ch_shr _ _ 8 (by decide) (by decide), ch_shr _ _ 0 (by decide) (by decide)]
  simp only [List.append_assoc]
  rfl
def qoH (z : Int32) (W H : Nat) : List Nat := [113, 111, 105, 102] ++ hi4L (nI W) ++ hi4L (nI H) ++ [if z = 0 then 4 else 3] ++ [0]
theorem qoH_len (z : Int32) (W H : Nat) : (qoH z W H).length = 14 := by
  unfold qoH hi4L
  simp only [List.length_append, List.length_cons, List.length_nil]
def qoF (z : Int32) (W H : Nat) (d : A) : List Nat := qoH z W H ++ qL (W * H) d (W * H) 0 255 (fun _ => 0) ++ List.replicate 7 0 ++ [1]
theorem qL_cong {N : Nat} {d : A} : ∀ (k p : Nat) (u : Int32) (pl pl2 : A), (∀ j, j < 64 → pl j = pl2 j) → qL N d k p u pl = qL N d k p u pl2
  | 0, _, _, _, _, _ => rfl
  | k + 1, p, u, pl, pl2, h => by
    have hu : ∀ (v : Int32) j, j < 64 → upd pl (hm v) v j = upd pl2 (hm v) v j := by
      intro v j hj
      unfold upd
      by_cases c : j = hm v
      · rw [if_pos c, if_pos c]
      · rw [if_neg c, if_neg c, h j hj]
    show (if N ≤ p then [] else if 0 < qrn N d u p then (191 + qrn N d u p) :: qL N d k (p + qrn N d u p) u (upd pl (hm u) u) else (if pl (hm (d p)) = d p then [hm (d p)] else qch u (d p)) ++ qL N d k (p + 1) (d p) (upd pl (hm (d p)) (d p))) = (if N ≤ p then [] else if 0 < qrn N d u p then (191 + qrn N d u p) :: qL N d k (p + qrn N d u p) u (upd pl2 (hm u) u) else (if pl2 (hm (d p)) = d p then [hm (d p)] else qch u (d p)) ++ qL N d k (p + 1) (d p) (upd pl2 (hm (d p)) (d p)))
    rw [qL_cong k (p + qrn N d u p) u _ _ (hu u), qL_cong k (p + 1) (d p) _ _ (hu (d p)), h _ (hm_lt (d p))]
