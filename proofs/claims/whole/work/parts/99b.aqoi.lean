theorem gd_rep (n j : Nat) : (List.replicate n (0 : Nat)).getD j 0 = 0 := by
  rw [List.getD_eq_getElem?_getD, List.getElem?_replicate]
  split <;> rfl
theorem tn_h4 (v : Int32) : ((ch v 24 * 256 + ch v 16) * 256 + ch v 8) * 256 + ch v 0 = v.toBitVec.toNat := by
  have := tn_lt v
  unfold ch
  omega
theorem a_tail {n p : Nat} (sb : A) (hn : n ≤ 65536) (hp : p + 8 = n) (h0 : ∀ j, j < 7 → bt sb (p + j) = 0) (h1 : bt sb (p + 7) = 1) (x : Ras) (qo : Qoi) : lp (fun _ _ _ _ => fno) (F_X6_decode_84 sb) FU 0 x (Sr n p) qo = fok () (x, Sr n n, qo) := by
  have q := lp_M (z := fun _ _ _ _ => fno) (f := F_X6_decode_84 sb) (fun m k => ∀ j, j + m = 7 → k (nI j) x (Sr n (p + j)) qo = fok () (x, Sr n n, qo)) ?_ 7 (by omega)
  · exact q 0 (by omega)
  · intro m k ih j hj
    unfold F_X6_decode_84
    by_cases c : m = 0
    · have : j = 7 := by omega
      subst this
      rw [if_pos (by decide), wn_ok sb 1 (by omega) hn (by rw [h1]; rfl), fon_fok, show p + 7 + 1 = n from by omega, end_ok, fon_fok]
    · rw [if_neg (c := 7 ≤ nI j) (by (simp (disch := omega) only [nI_toInt, Int32.lt_iff_toInt_lt, Int32.le_iff_toInt_le, ← Int32.toInt_inj, Int32.reduceToInt]; omega)), wn_ok sb 0 (by omega) hn (by rw [h0 j (by omega)]; rfl), fon_fok, nI_1]
      exact ih (m - 1) (by omega) (j + 1) (by omega)
theorem a_qoi {W H : Nat} (z : Int32) (d f : A) (hW1 : 1 ≤ W) (hH1 : 1 ≤ H) (hW : W ≤ 4096) (hH : H ≤ 4096) (hT : W * H ≤ 4096) (x : Ras) (qo : Qoi) : ∃ s, F_X6_decode x (Sr (qoF z W H d).length 0) (ap f (qoF z W H d)) qo = fok () s := by
  have hat := Ba_0 f (qoF z W H d)
  have hq := qL_le (N := W * H) (d := d) (W * H) 0 255 (fun _ => 0) (by omega)
  have hl : (qoF z W H d).length = 14 + (qL (W * H) d (W * H) 0 255 (fun _ => 0)).length + 8 := by
    unfold qoF
    rw [List.length_append, List.length_append, List.length_append, qoH_len, List.length_replicate, List.length_singleton]
  generalize (qoF z W H d).length = n at *
  generalize ap f (qoF z W H d) = sb at *
  unfold qoF at hat
  have a1 := Ba_l (Ba_l (Ba_l hat))
  have a2 := Ba_r (Ba_l (Ba_l hat))
  have a3 := Ba_r (Ba_l hat)
  have a4 := Ba_r hat
  rw [List.length_append, List.length_append, qoH_len, List.length_replicate] at a4
  rw [List.length_append, qoH_len] at a3
  rw [qoH_len] at a2
  have hz : (if z = 0 then 4 else 3) = 4 ∨ (if z = 0 then 4 else 3) = 3 := by split <;> simp
  have hqe : (qoH z W H).length = 14 := qoH_len z W H
  have g0 : bt sb 0 = 113 := Ba_g a1 0 rfl (by omega) rfl (by omega)
  have g1 : bt sb 1 = 111 := Ba_g a1 1 rfl (by omega) rfl (by omega)
  have g2 : bt sb 2 = 105 := Ba_g a1 2 rfl (by omega) rfl (by omega)
  have g3 : bt sb 3 = 102 := Ba_g a1 3 rfl (by omega) rfl (by omega)
  have w0 : bt sb 4 = ch (nI W) 24 := Ba_g a1 4 rfl (by omega) rfl (ch_lt _ _)
  have w1 : bt sb 5 = ch (nI W) 16 := Ba_g a1 5 rfl (by omega) rfl (ch_lt _ _)
  have w2 : bt sb 6 = ch (nI W) 8 := Ba_g a1 6 rfl (by omega) rfl (ch_lt _ _)
  have w3 : bt sb 7 = ch (nI W) 0 := Ba_g a1 7 rfl (by omega) rfl (ch_lt _ _)
  have v0 : bt sb 8 = ch (nI H) 24 := Ba_g a1 8 rfl (by omega) rfl (ch_lt _ _)
  have v1 : bt sb 9 = ch (nI H) 16 := Ba_g a1 9 rfl (by omega) rfl (ch_lt _ _)
  have v2 : bt sb 10 = ch (nI H) 8 := Ba_g a1 10 rfl (by omega) rfl (ch_lt _ _)
  have v3 : bt sb 11 = ch (nI H) 0 := Ba_g a1 11 rfl (by omega) rfl (ch_lt _ _)
  have g12 : bt sb 12 = if z = 0 then 4 else 3 := Ba_g a1 12 rfl (by omega) rfl (by omega)
  have g13 : bt sb 13 = 0 := Ba_g a1 13 rfl (by omega) rfl (by omega)
  have hw : H4 sb 4 = W := by
    unfold H4
    rw [w0, w1, w2, w3, tn_h4, pk_tn (by omega)]
  have hh : H4 sb 8 = H := by
    unfold H4
    rw [v0, v1, v2, v3, tn_h4, pk_tn (by omega)]
  have hn : n ≤ 65536 := by omega
  rw [Nat.zero_add] at a2
  obtain ⟨c2, px2, u2, pl2, r⟩ := q_acc sb hn hT d (nI W) (nI H) (nI (bt sb 12)) (nI (bt sb 13)) (qo_f3 qo) 14 255 255 (fun _ => 0) (x_p x) (fillN qo.2.2.2.2 64 0) a2 (by omega)
  unfold F_X6_decode
  rw [wn_ok sb 113 (by omega) hn (by rw [g0]; rfl), fon_fok, wn_ok sb 111 (by omega) hn (by rw [g1]; rfl), fon_fok, wn_ok sb 105 (by omega) hn (by rw [g2]; rfl), fon_fok, wn_ok sb 102 (by omega) hn (by rw [g3]; rfl), fon_fok, side_ok sb (by omega) hn (by show H4 sb 4 ≠ 0; omega), fon_fok, side_ok sb (by omega) hn (by show H4 sb 8 ≠ 0; omega), fon_fok]
  rw [show H4 sb (0 + 1 + 1 + 1 + 1) = W from hw, show H4 sb (0 + 1 + 1 + 1 + 1 + 4) = H from hh, ly_ok hW hH hT, fon_fok]
  dsimp only
  rw [show 0 + 1 + 1 + 1 + 1 + 4 + 4 = 12 from rfl, ch_ok sb 3 4 (by omega) hn (by rw [g12]; rcases hz with e | e <;> rw [e] <;> decide), fon_fok, ch_ok sb 0 1 (by omega) hn (by rw [g13]; decide), fon_fok]
  unfold F_X6_readChunks F_X6_start
  rw [fon_fok, ut_count rfl rfl, fon_fok]
  dsimp only [qo_f1, qo_f2, qo_f3, qo_last, qo_pl] at r ⊢
  rw [show 12 + 1 + 1 = 14 from rfl, r, fon_fok]
  dsimp only
  rw [a_tail sb hn (by omega) (fun j hj => Ba_g a3 j (by omega) (by rw [List.length_replicate]; exact hj) (gd_rep 7 j) (by omega)) (Ba_g a4 0 (by omega) (by simp) rfl (by omega))]
  exact ⟨_, rfl⟩
