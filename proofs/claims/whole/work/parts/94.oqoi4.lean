theorem qch_le (u v : Int32) : (qch u v).length ≤ 5 := by
  obtain ⟨l, _, h, _, _, _, e⟩ := chunk_eq (f := fun _ => 0) (L := []) u v 0 0 0 0 0 (fun _ => if v = 0 then 1 else 0) (by
    by_cases c : v = 0
    · show (if v = 0 then (1 : Int32) else 0) ≠ v
      rw [if_pos c, c]; decide
    · show (if v = 0 then (1 : Int32) else 0) ≠ v
      rw [if_neg c]; exact fun e => c e.symm) (by simp)
  rw [← e]; exact h
theorem qL_le {N : Nat} {d : A} : ∀ (k p : Nat) (u : Int32) (pl : A), p ≤ N → (qL N d k p u pl).length ≤ 5 * (N - p)
  | 0, _, _, _, _ => Nat.zero_le _
  | k + 1, p, u, pl, hp => by
    show (if N ≤ p then [] else if 0 < qrn N d u p then (191 + qrn N d u p) :: qL N d k (p + qrn N d u p) u (upd pl (hm u) u) else (if pl (hm (d p)) = d p then [hm (d p)] else qch u (d p)) ++ qL N d k (p + 1) (d p) (upd pl (hm (d p)) (d p))).length ≤ _
    by_cases c0 : N ≤ p
    · rw [if_pos c0]; exact Nat.zero_le _
    rw [if_neg c0]
    have hq := qrn_b (N := N) (d := d) (u := u) (p := p) hp
    by_cases c1 : 0 < qrn N d u p
    · rw [if_pos c1, List.length_cons]
      have := qL_le (N := N) (d := d) k (p + qrn N d u p) u (upd pl (hm u) u) hq.2.1
      omega
    · rw [if_neg c1, List.length_append]
      have := qL_le (N := N) (d := d) k (p + 1) (d p) (upd pl (hm (d p)) (d p)) (by omega)
      have h5 := qch_le u (d p)
      have : (if pl (hm (d p)) = d p then [hm (d p)] else qch u (d p)).length ≤ 5 := by
        split
        · simp
        · exact h5
      omega
theorem c_qoi {x : Ras} {W H : Nat} {f : A} (z : Int32) (hz : F_X7_isOpaque x = fok z ()) (b1 : x_w x = nI W) (b2 : x_g x = nI H) (hT : W * H ≤ 4096) (a : Int32) (qo : Qoi) :
    ∃ qo2, F_X6_encode a x (RwC f []) qo = fok () (RwC f (qoF z W H (x_p x)), qo2) := by
  obtain ⟨f1, f2, f3, u, pl⟩ := qo
  have hq := qL_le (N := W * H) (d := x_p x) (W * H) 0 255 (fun _ => 0) (by omega)
  have e53 : ∀ t0 : Int32, ch t0 0 = (if z = 0 then 4 else 3) → ∃ qo2, F_X6_encode_53 x t0 (RwC f ([] ++ [ch 113 0] ++ [ch 111 0] ++ [ch 105 0] ++ [ch 102 0] ++ hi4L (nI W) ++ hi4L (nI H))) (f1, f2, f3, u, pl) = fok () (RwC f (qoF z W H (x_p x)), qo2) := by
    intro t0 ht
    obtain ⟨qo2, r⟩ := c_qL (f := f) b1 b2 hT f1 f2 f3 255 (fillN pl 64 0) (L := qoH z W H) (by rw [qoH_len]; omega)
    refine ⟨qo2, ?_⟩
    unfold F_X6_encode_53
    rw [c_add _ (by simp [hi4L]), fon_fok, c_add _ (by simp [hi4L]), fon_fok, ht, show ch 0 0 = 0 from by decide]
    rw [show ([] ++ [ch 113 0] ++ [ch 111 0] ++ [ch 105 0] ++ [ch 102 0] ++ hi4L (nI W) ++ hi4L (nI H) ++ [if z = 0 then 4 else 3] ++ [0]) = qoH z W H from rfl]
    unfold F_X6_writeChunks F_X6_start
    rw [fon_fok]
    dsimp only [qo_f1, qo_f2, qo_f3, qo_pl]
    rw [ut_count b1 b2, fon_fok, r, fon_fok, qL_cong (W * H) 0 255 (fillN pl 64 0) (fun _ => 0) (fun j hj => if_pos hj)]
    dsimp only
    rw [show (7 : Int32) = nI 7 from rfl, c_zero (by omega) (by rw [List.length_append, qoH_len]; omega), fon_fok, c_add _ (by rw [List.length_append, List.length_append, qoH_len, List.length_replicate]; omega), fon_fok, show ch 1 0 = 1 from by decide]
    rfl
  unfold F_X6_encode
  rw [b1, b2, c_add _ (by decide), fon_fok, c_add _ (by simp), fon_fok, c_add _ (by simp), fon_fok, c_add _ (by simp), fon_fok, c_hi4 _ (by simp), fon_fok, c_hi4 _ (by simp [hi4L]), fon_fok, hz, fon_fok]
  by_cases c : z = 0
  · rw [if_pos c]; exact e53 4 (by rw [if_pos c]; decide)
  · rw [if_neg c]; exact e53 3 (by rw [if_neg c]; decide)
theorem r_68 {i W H : Nat} {dd wi hi : A} (hi4 : i < 4) (b3 : wi i = nI W) (b4 : hi i = nI H) (mw : MW) (mu sp : A) : ∃ sp2, (∀ q, q < 64 → sp2 q = 0) ∧ lp (fun _ _ _ _ _ => fno) (F_X11_writeChunks_68 dd wi hi) FU (nI i) 0 mw mu sp = lp (fun _ _ _ _ _ _ _ => fno) (F_X11_writeChunks_100 dd wi hi) FU (nI i) 255 (nI (W * H)) 0 mw mu sp2 := by
  have q := lp_M (z := fun _ _ _ _ _ => fno) (f := F_X11_writeChunks_68 dd wi hi) (fun m k => ∀ (j : Nat) (s : A), j + m = 64 → (∀ q, q < j → s q = 0) → ∃ sp2, (∀ q, q < 64 → sp2 q = 0) ∧ k (nI i) (nI j) mw mu s = lp (fun _ _ _ _ _ _ _ => fno) (F_X11_writeChunks_100 dd wi hi) FU (nI i) 255 (nI (W * H)) 0 mw mu sp2) ?_ 64 (by omega)
  · exact q 0 sp (by omega) (fun q hq => absurd hq (by omega))
  · intro m k ih j s hj hs
    unfold F_X11_writeChunks_68
    by_cases c0 : m = 0
    · have : j = 64 := by omega
      subst this
      rw [if_pos (c := 64 ≤ nI 64) (by decide), ut_many hi4 b3 b4, fon_fok]
      exact ⟨s, hs, rfl⟩
    · rw [if_neg (c := 64 ≤ nI j) (nI_ge (b := 64) (by omega) (by omega)), if_pos (inb_nI (by omega) (by omega)), nI_clamp (by omega), nI_1]
      exact ih (m - 1) (by omega) (j + 1) _ (by omega) (fun q hq => by
        unfold upd
        by_cases c : q = j
        · rw [if_pos c]
        · rw [if_neg c]; exact hs q (by omega))
theorem r_249 {f dd wi hi sp : A} {h cm : Int32} {M : List Nat} (hM : M.length + 8 ≤ 65536) : lp (fun _ _ _ _ => fno) (F_X11_writeChunks_249 dd wi hi) FU 0 (MwL h cm M) (ap f M) sp = fok () (MwL h cm (M ++ List.replicate 7 0 ++ [1]), ap f (M ++ List.replicate 7 0 ++ [1]), sp) := by
  have q := lp_M (z := fun _ _ _ _ => fno) (f := F_X11_writeChunks_249 dd wi hi) (fun m k => ∀ j, j + m = 7 → k (nI j) (MwL h cm (M ++ List.replicate j 0)) (ap f (M ++ List.replicate j 0)) sp = fok () (MwL h cm (M ++ List.replicate 7 0 ++ [1]), ap f (M ++ List.replicate 7 0 ++ [1]), sp)) ?_ 7 (by omega)
  · have r := q 0 (by omega)
    rw [List.replicate_zero, List.append_nil] at r
    exact r
  · intro m k ih j hj
    unfold F_X11_writeChunks_249
    by_cases c0 : m = 0
    · have : j = 7 := by omega
      subst this
      rw [if_pos (c := 7 ≤ nI 7) (by decide), r_put _ _ _ (by rw [List.length_append, List.length_replicate]; omega), fon_fok, show ch 1 0 = 1 from by decide]
    · rw [if_neg (c := 7 ≤ nI j) (nI_ge (b := 7) (by omega) (by omega)), r_put _ _ _ (by rw [List.length_append, List.length_replicate]; omega), fon_fok, show ch 0 0 = 0 from by decide, nI_1]
      have r := ih (m - 1) (by omega) (j + 1) (by omega)
      rw [List.replicate_succ', ← List.append_assoc] at r
      exact r
theorem r_qoi {i W H : Nat} {f d dd wi hi sp : A} {h cm : Int32} (z : Int32) (hz : F_X11_isOpaque (nI i) dd wi hi = fok z ()) (hi4 : i < 4) (hT : W * H ≤ 4096) (b3 : wi i = nI W) (b4 : hi i = nI H) (hd : ∀ q, q < W * H → d q = dd (4096 * i + q)) :
    ∃ sp2, F_X11_writeChunks (nI i) (MwL h cm []) (ap f []) dd wi hi sp = fok () (MwL h cm (qoF z W H d), ap f (qoF z W H d), sp2) := by
  have hq := qL_le (N := W * H) (d := d) (W * H) 0 255 (fun _ => 0) (by omega)
  have e58 : ∀ t0 : Int32, ch t0 0 = (if z = 0 then 4 else 3) → ∃ sp2, F_X11_writeChunks_58 dd wi hi (nI i) t0 (MwL h cm ([] ++ [ch 113 0] ++ [ch 111 0] ++ [ch 105 0] ++ [ch 102 0] ++ hi4L (nI W) ++ hi4L (nI H))) (ap f ([] ++ [ch 113 0] ++ [ch 111 0] ++ [ch 105 0] ++ [ch 102 0] ++ hi4L (nI W) ++ hi4L (nI H))) sp = fok () (MwL h cm (qoF z W H d), ap f (qoF z W H d), sp2) := by
    intro t0 ht
    unfold F_X11_writeChunks_58
    rw [r_put _ _ _ (by simp [hi4L]), fon_fok]
    dsimp only
    rw [r_put _ _ _ (by simp [hi4L]), fon_fok, ht, show ch 0 0 = 0 from by decide]
    dsimp only
    rw [show ([] ++ [ch 113 0] ++ [ch 111 0] ++ [ch 105 0] ++ [ch 102 0] ++ hi4L (nI W) ++ hi4L (nI H) ++ [if z = 0 then 4 else 3] ++ [0]) = qoH z W H from rfl]
    obtain ⟨sp2, h0, e⟩ := r_68 (dd := dd) hi4 b3 b4 (MwL h cm (qoH z W H)) (ap f (qoH z W H)) sp
    obtain ⟨sp3, e2⟩ := r_qL (f := f) (wi := wi) (hi := hi) (sp0 := sp2) (pl0 := fun _ => 0) (h := h) (cm := cm) hi4 hT hd 255 h0 (L := qoH z W H) (by rw [qoH_len]; omega)
    refine ⟨sp3, ?_⟩
    rw [e, e2, r_249 (by rw [List.length_append, qoH_len]; omega)]
    rfl
  unfold F_X11_writeChunks
  rw [nI_clamp (by omega), b3, b4, r_put _ _ _ (by decide), fon_fok]
  dsimp only
  rw [r_put _ _ _ (by simp), fon_fok]
  dsimp only
  rw [r_put _ _ _ (by simp), fon_fok]
  dsimp only
  rw [r_put _ _ _ (by simp), fon_fok, if_pos (inb_nI hi4 (by omega))]
  dsimp only
  rw [r_hi4 _ _ _ (by simp), fon_fok, if_pos (inb_nI hi4 (by omega))]
  dsimp only
  rw [r_hi4 _ _ _ (by simp [hi4L]), fon_fok, hz, fon_fok]
  by_cases c : z = 0
  · rw [if_pos c]; exact e58 4 (by rw [if_pos c]; decide)
  · rw [if_neg c]; exact e58 3 (by rw [if_neg c]; decide)
