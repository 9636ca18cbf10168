theorem gd_set {L : List Nat} {p j v : Nat} (h : p < L.length) : (L.set p v).getD j 0 = if j = p then v else L.getD j 0 := by
  rw [List.getD_eq_getElem?_getD, List.getD_eq_getElem?_getD]
  by_cases c : j = p
  · subst c; rw [if_pos rfl, List.getElem?_set_self h]; rfl
  · rw [if_neg c, List.getElem?_set_ne (Ne.symm c)]
theorem set4_get {L : List Nat} {p j : Nat} (v : Int32) (h : p + 4 ≤ L.length) : (set4 L p v).getD j 0 = if j = p + 3 then ch v 24 else if j = p + 2 then ch v 16 else if j = p + 1 then ch v 8 else if j = p then ch v 0 else L.getD j 0 := by
  unfold set4
  rw [gd_set (by simp only [List.length_set]; omega), gd_set (by simp only [List.length_set]; omega), gd_set (by simp only [List.length_set]; omega), gd_set (by omega)]
theorem l4_of {sb : A} {p : Nat} {v : Int32} (h : Ba sb p (le4 v)) : L4 sb p = v.toBitVec.toNat := by
  have e0 : bt sb p = ch v 0 := Ba_g h 0 rfl (by simp [le4]) rfl (ch_lt _ _)
  have e1 : bt sb (p + 1) = ch v 8 := Ba_g h 1 rfl (by simp [le4]) rfl (ch_lt _ _)
  have e2 : bt sb (p + 2) = ch v 16 := Ba_g h 2 rfl (by simp [le4]) rfl (ch_lt _ _)
  have e3 : bt sb (p + 3) = ch v 24 := Ba_g h 3 rfl (by simp [le4]) rfl (ch_lt _ _)
  have h4 := tn_h4 v
  unfold L4
  rw [e0, e1, e2, e3, ← h4]
  clear e0 e1 e2 e3 h4 h
  generalize ch v 0 = c0
  generalize ch v 8 = c1
  generalize ch v 16 = c2
  generalize ch v 24 = c3
  omega
theorem l2_of {sb : A} {p : Nat} {v : Int32} (h : Ba sb p (le2 v)) (hv : v.toBitVec.toNat < 65536) : L2 sb p = v.toBitVec.toNat := by
  have e0 : bt sb p = ch v 0 := Ba_g h 0 rfl (by simp [le2]) rfl (ch_lt _ _)
  have e1 : bt sb (p + 1) = ch v 8 := Ba_g h 1 rfl (by simp [le2]) rfl (ch_lt _ _)
  unfold L2
  rw [e0, e1]
  unfold ch
  omega
theorem le4_len (v : Int32) : (le4 v).length = 4 := rfl
theorem le2_len (v : Int32) : (le2 v).length = 2 := rfl
/-- a head of 54 bytes -/
def hdB (v0 v1 v2 v3 v4 v5 v6 v7 v8 v9 v10 v11 : Int32) : List Nat := ([66, 77] ++ List.replicate 4 0) ++ ((List.replicate 4 0 ++ le4 v0 ++ le4 v1 ++ le4 v2 ++ le4 v3 ++ le2 v4 ++ le2 v5 ++ le4 v6) ++ (le4 v7 ++ (le4 v8 ++ le4 v9 ++ le4 v10 ++ le4 v11)))
theorem hdB_4 {sb : A} (v0 v1 v2 v3 v4 v5 v6 v7 v8 v9 v10 v11 : Int32) (kH : ∀ j, j < 54 → (j < 2 ∨ 6 ≤ j) → (j < 34 ∨ 38 ≤ j) → bt sb j = (hdB v0 v1 v2 v3 v4 v5 v6 v7 v8 v9 v10 v11).getD j 0 % 256) :
    bt sb 0 = 66 ∧ bt sb 1 = 77 ∧ L4 sb 6 = 0 ∧ Ba sb 10 (le4 v0) ∧ Ba sb 14 (le4 v1) ∧ Ba sb 18 (le4 v2) ∧ Ba sb 22 (le4 v3) ∧ Ba sb 26 (le2 v4) ∧ Ba sb 28 (le2 v5) ∧ Ba sb 30 (le4 v6) ∧ Ba sb 46 (le4 v10) := by
  unfold hdB at kH
  have g0 : bt sb 0 = 66 := by
    rw [kH 0 (by omega) (by omega) (by omega), gd_l (by simp), gd_l (by simp)]
    rfl
  have g1 : bt sb 1 = 77 := by
    rw [kH 1 (by omega) (by omega) (by omega), gd_l (by simp), gd_l (by simp)]
    rfl
  have aT : Ba sb 6 (List.replicate 4 0 ++ le4 v0 ++ le4 v1 ++ le4 v2 ++ le4 v3 ++ le2 v4 ++ le2 v5 ++ le4 v6) := by
    intro j hj
    have hj2 : j < 28 := by
      simp only [List.length_append, le4_len, le2_len, List.length_replicate] at hj
      omega
    rw [kH (6 + j) (by omega) (by omega) (by omega), show 6 + j = ([66, 77] ++ List.replicate 4 0).length + j from rfl, gd_r, gd_l hj]
  have aU : Ba sb 38 (le4 v8 ++ le4 v9 ++ le4 v10 ++ le4 v11) := by
    intro j hj
    have hj2 : j < 16 := by
      simp only [List.length_append, le4_len] at hj
      omega
    have e28 : (List.replicate 4 0 ++ le4 v0 ++ le4 v1 ++ le4 v2 ++ le4 v3 ++ le2 v4 ++ le2 v5 ++ le4 v6).length = 28 := by simp only [List.length_append, le4_len, le2_len, List.length_replicate]
    rw [kH (38 + j) (by omega) (by omega) (by omega), show 38 + j = ([66, 77] ++ List.replicate 4 0).length + (28 + (4 + j)) from by simp only [List.length_append, List.length_cons, List.length_nil, List.length_replicate]; omega, gd_r, ← e28, gd_r, ← le4_len v7, gd_r]
  have e6 : L4 sb 6 = 0 := by
    have z := Ba_l (Ba_l (Ba_l (Ba_l (Ba_l (Ba_l (Ba_l aT))))))
    have b2 : bt sb 6 = 0 := Ba_g z 0 rfl (by simp) (gd_rep 4 0) (by omega)
    have b3 : bt sb 7 = 0 := Ba_g z 1 rfl (by simp) (gd_rep 4 1) (by omega)
    have b4 : bt sb 8 = 0 := Ba_g z 2 rfl (by simp) (gd_rep 4 2) (by omega)
    have b5 : bt sb 9 = 0 := Ba_g z 3 rfl (by simp) (gd_rep 4 3) (by omega)
    unfold L4
    rw [b2, b3, b4, b5]
  have h10 : Ba sb 10 (le4 v0) := Ba_e (Ba_r (Ba_l (Ba_l (Ba_l (Ba_l (Ba_l (Ba_l aT))))))) (by simp only [List.length_append, le4_len, le2_len, List.length_replicate])
  have h14 : Ba sb 14 (le4 v1) := Ba_e (Ba_r (Ba_l (Ba_l (Ba_l (Ba_l (Ba_l aT)))))) (by simp only [List.length_append, le4_len, le2_len, List.length_replicate])
  have h18 : Ba sb 18 (le4 v2) := Ba_e (Ba_r (Ba_l (Ba_l (Ba_l (Ba_l aT))))) (by simp only [List.length_append, le4_len, le2_len, List.length_replicate])
  have h22 : Ba sb 22 (le4 v3) := Ba_e (Ba_r (Ba_l (Ba_l (Ba_l aT)))) (by simp only [List.length_append, le4_len, le2_len, List.length_replicate])
  have h26 : Ba sb 26 (le2 v4) := Ba_e (Ba_r (Ba_l (Ba_l aT))) (by simp only [List.length_append, le4_len, le2_len, List.length_replicate])
  have h28 : Ba sb 28 (le2 v5) := Ba_e (Ba_r (Ba_l aT)) (by simp only [List.length_append, le4_len, le2_len, List.length_replicate])
  have h30 : Ba sb 30 (le4 v6) := Ba_e (Ba_r aT) (by simp only [List.length_append, le4_len, le2_len, List.length_replicate])
  have h46 : Ba sb 46 (le4 v10) := Ba_e (Ba_r (Ba_l aU)) (by simp only [List.length_append, le4_len, le2_len, List.length_replicate])
  exact ⟨g0, g1, e6, h10, h14, h18, h22, h26, h28, h30, h46⟩
theorem bm_key {a m W H : Nat} {d : A} {l : List Int32} {sb : A} (hM : 54 ≤ (bmM a m W H d l).length) (hat : Ba sb 0 (bmL a m W H d l)) (j : Nat) (hj : j < (bmM a m W H d l).length) :
    bt sb j = (if j = 37 then ch (nI ((bmM a m W H d l).length - 54 - 4 * m)) 24 else if j = 36 then ch (nI ((bmM a m W H d l).length - 54 - 4 * m)) 16 else if j = 35 then ch (nI ((bmM a m W H d l).length - 54 - 4 * m)) 8 else if j = 34 then ch (nI ((bmM a m W H d l).length - 54 - 4 * m)) 0 else if j = 5 then ch (nI (bmM a m W H d l).length) 24 else if j = 4 then ch (nI (bmM a m W H d l).length) 16 else if j = 3 then ch (nI (bmM a m W H d l).length) 8 else if j = 2 then ch (nI (bmM a m W H d l).length) 0 else (bmM a m W H d l).getD j 0) % 256 := by
  have h1 := hat j (by unfold bmL; rw [set4_len, set4_len]; exact hj)
  rw [Nat.zero_add] at h1
  rw [h1]
  unfold bmL
  rw [set4_get _ (by rw [set4_len]; omega), set4_get _ (by omega)]
theorem bm_l4 {sb : A} {p : Nat} {v : Int32} (b2 : bt sb p = ch v 0) (b3 : bt sb (p + 1) = ch v 8) (b4 : bt sb (p + 2) = ch v 16) (b5 : bt sb (p + 3) = ch v 24) : L4 sb p = v.toBitVec.toNat := by
  rw [← tn_h4 v]
  unfold L4
  rw [b2, b3, b4, b5]
  clear b2 b3 b4 b5
  generalize ch v 0 = c0
  generalize ch v 8 = c1
  generalize ch v 16 = c2
  generalize ch v 24 = c3
  omega
theorem bm_bytes {a m W H : Nat} {d : A} {l : List Int32} {sb : A} (hm : m = l.length) (hl : l.length ≤ 256) (hR : (bmR a W H d l).length ≤ 24576) (hat : Ba sb 0 (bmL a m W H d l)) :
    (bt sb 0 = 66 ∧ bt sb 1 = 77 ∧ L4 sb 6 = 0 ∧ Ba sb 10 (le4 (nI (54 + 4 * m))) ∧ Ba sb 14 (le4 40) ∧ Ba sb 18 (le4 (nI W)) ∧ Ba sb 22 (le4 (nI H)) ∧ Ba sb 26 (le2 1) ∧ Ba sb 28 (le2 (if a = 7 then 24 else 8)) ∧ Ba sb 30 (le4 (if a = 9 then 1 else 0)) ∧ Ba sb 46 (le4 (nI m))) ∧ L4 sb 2 = 54 + 4 * m + (bmR a W H d l).length ∧ L4 sb 34 = (bmR a W H d l).length ∧ Ba sb (54 + 4 * m) (bmR a W H d l) := by
  have hM : (bmM a m W H d l).length = 54 + 4 * m + (bmR a W H d l).length := by rw [bmM_len, hm]; omega
  have key := bm_key (by omega) hat
  have kH : ∀ j, j < 54 → (j < 2 ∨ 6 ≤ j) → (j < 34 ∨ 38 ≤ j) → bt sb j = (bmH a m W H).getD j 0 % 256 := by
    intro j hj h1 h2
    rw [key j (by omega), if_neg (by omega), if_neg (by omega), if_neg (by omega), if_neg (by omega), if_neg (by omega), if_neg (by omega), if_neg (by omega), if_neg (by omega)]
    unfold bmM
    rw [List.append_assoc, gd_l (by rw [bmH_len]; exact hj)]
  have e2 : L4 sb 2 = (bmM a m W H d l).length := by
    generalize (bmM a m W H d l).length = n at *
    have b2 : bt sb 2 = ch (nI n) 0 := by
      rw [key 2 (by omega), if_neg (by decide), if_neg (by decide), if_neg (by decide), if_neg (by decide), if_neg (by decide), if_neg (by decide), if_neg (by decide), if_pos rfl, Nat.mod_eq_of_lt (ch_lt _ _)]
    have b3 : bt sb 3 = ch (nI n) 8 := by
      rw [key 3 (by omega), if_neg (by decide), if_neg (by decide), if_neg (by decide), if_neg (by decide), if_neg (by decide), if_neg (by decide), if_pos rfl, Nat.mod_eq_of_lt (ch_lt _ _)]
    have b4 : bt sb 4 = ch (nI n) 16 := by
      rw [key 4 (by omega), if_neg (by decide), if_neg (by decide), if_neg (by decide), if_neg (by decide), if_neg (by decide), if_pos rfl, Nat.mod_eq_of_lt (ch_lt _ _)]
    have b5 : bt sb 5 = ch (nI n) 24 := by
      rw [key 5 (by omega), if_neg (by decide), if_neg (by decide), if_neg (by decide), if_neg (by decide), if_pos rfl, Nat.mod_eq_of_lt (ch_lt _ _)]
    rw [bm_l4 b2 b3 b4 b5, pk_tn (by omega)]
  have e34 : L4 sb 34 = (bmM a m W H d l).length - 54 - 4 * m := by
    generalize hn2 : (bmM a m W H d l).length - 54 - 4 * m = n at *
    have b2 : bt sb 34 = ch (nI n) 0 := by
      rw [key 34 (by omega), if_neg (by decide), if_neg (by decide), if_neg (by decide), if_pos rfl, Nat.mod_eq_of_lt (ch_lt _ _)]
    have b3 : bt sb 35 = ch (nI n) 8 := by
      rw [key 35 (by omega), if_neg (by decide), if_neg (by decide), if_pos rfl, Nat.mod_eq_of_lt (ch_lt _ _)]
    have b4 : bt sb 36 = ch (nI n) 16 := by
      rw [key 36 (by omega), if_neg (by decide), if_pos rfl, Nat.mod_eq_of_lt (ch_lt _ _)]
    have b5 : bt sb 37 = ch (nI n) 24 := by
      rw [key 37 (by omega), if_pos rfl, Nat.mod_eq_of_lt (ch_lt _ _)]
    rw [bm_l4 b2 b3 b4 b5, pk_tn (by omega)]
  have eH : bmH a m W H = hdB (nI (54 + 4 * m)) 40 (nI W) (nI H) 1 (if a = 7 then 24 else 8) (if a = 9 then 1 else 0) 0 2835 2835 (nI m) 0 := by
    unfold bmH hdB
    rw [show List.replicate 8 (0 : Nat) = List.replicate 4 0 ++ List.replicate 4 0 from rfl]
    simp only [List.append_assoc]
  rw [eH] at kH
  refine ⟨hdB_4 _ _ _ _ _ _ _ _ _ _ _ _ kH, by rw [e2, hM], by rw [e34, hM]; omega, ?_⟩
  intro j hj
  rw [key (54 + 4 * m + j) (by omega), if_neg (by omega), if_neg (by omega), if_neg (by omega), if_neg (by omega), if_neg (by omega), if_neg (by omega), if_neg (by omega), if_neg (by omega)]
  unfold bmM
  have hT : (bmH a m W H ++ bmT l).length = 54 + 4 * m := by rw [List.length_append, bmH_len, bmT_len, hm]; omega
  rw [← hT, gd_r]
/-- the head of a BMP file is taken -/
theorem a_bmH {a m W H n : Nat} {d : A} {l : List Int32} {sb : A} (ha : a = 7 ∨ a = 8 ∨ a = 9) (hm : m = l.length) (hm7 : a = 7 → m = 0) (hm8 : a ≠ 7 → 1 ≤ m) (hl : l.length ≤ 256) (hR : (bmR a W H d l).length ≤ 24576) (hat : Ba sb 0 (bmL a m W H d l)) (hn : n = 54 + 4 * m + (bmR a W H d l).length) (hW1 : 1 ≤ W) (hH1 : 1 ≤ H) (hW : W ≤ 4096) (hH : H ≤ 4096) (hT : W * H ≤ 4096) (x : Ras) (f1 f2 f3 tp bi cm us pk cl up : Int32) (col : A) :
    ∃ colx, F_X0_decode x (Sr n 0) sb (f1, f2, f3, tp, bi, cm, us, pk, cl, up, col) = if a = 9 then (fon (F_X0_readPairs (nI W, nI H, x_p x) (Sr n (54 + 4 * m)) sb (f1, f2, f3, 0, nI 8, 1, nI m, pk, cl, up, colx)) (fun z106 s106 => F_X0_decode_109 sb s106.1 s106.2.1 s106.2.2) (fun E s106 => fex E (s106.1, s106.2.1, s106.2.2))) else (fon (F_X0_readRows (nI W, nI H, x_p x) (Sr n (54 + 4 * m)) sb (f1, f2, f3, 0, nI (if a = 7 then 24 else 8), 0, nI m, pk, cl, up, colx)) (fun z97 s97 => F_X0_decode_109 sb s97.1 s97.2.1 s97.2.2) (fun E s97 => fex E (s97.1, s97.2.1, s97.2.2))) := by
  obtain ⟨⟨g0, g1, g6, g10, g14, g18, g22, g26, g28, g30, g46⟩, g2, g34, _⟩ := bm_bytes hm hl hR hat
  have t10 : L4 sb 10 = 54 + 4 * m := by rw [l4_of g10, pk_tn (by omega)]
  have t14 : L4 sb 14 = 40 := by rw [l4_of g14]; rfl
  have t18 : L4 sb 18 = W := by rw [l4_of g18, pk_tn (by omega)]
  have t22 : L4 sb 22 = H := by rw [l4_of g22, pk_tn (by omega)]
  have t26 : L2 sb 26 = 1 := by rw [l2_of g26 (by decide)]; rfl
  have t28 : L2 sb 28 = if a = 7 then 24 else 8 := by
    by_cases c : a = 7
    · rw [if_pos c] at g28 ⊢; rw [l2_of g28 (by decide)]; rfl
    · rw [if_neg c] at g28 ⊢; rw [l2_of g28 (by decide)]; rfl
  have t30 : L4 sb 30 = if a = 9 then 1 else 0 := by
    by_cases c : a = 9
    · rw [if_pos c] at g30 ⊢; rw [l4_of g30]; rfl
    · rw [if_neg c] at g30 ⊢; rw [l4_of g30]; rfl
  have t46 : L4 sb 46 = m := by rw [l4_of g46, pk_tn (by omega)]
  have hn6 : n ≤ 65536 := by omega
  generalize hb : (if a = 7 then 24 else 8) = b at *
  generalize hc : (if a = 9 then 1 else 0) = c at *
  have hbO : okB b := by unfold okB; rw [← hb]; split <;> omega
  have hcO : okC c b 0 := by
    unfold okC; rw [← hc, ← hb]
    rcases ha with rfl | rfl | rfl <;> decide
  have hU : uU b m = m := by
    unfold uU mU
    rcases ha with rfl | rfl | rfl
    · rw [← hb, hm7 rfl]; rfl
    · rw [if_neg (by have := hm8 (by decide); omega)]
    · rw [if_neg (by have := hm8 (by decide); omega)]
  have hMu : m ≤ mU b := by
    unfold mU
    rw [← hb]
    rcases ha with rfl | rfl | rfl
    · rw [hm7 rfl]; exact Nat.zero_le _
    · show m ≤ 256; omega
    · show m ≤ 256; omega
  have hsz : F_X0_readSize x (Sr n 18) sb (f1, f2, f3, tp, bi, cm, us, pk, cl, up, col) = fok () ((nI W, nI H, x_p x), Sr n 26, (f1, f2, f3, 0, bi, cm, us, pk, cl, up, col)) := by
    have z0 : lg_cmp (lN H) 0 = 0 ↔ H = 0 := lcE (b := 0) rfl (by omega) (by omega)
    have zg : 0 ≤ lg_cmp (lN H) 0 := by rw [lg_cmp_ge]; exact (pk_lLE (a := 0) (by omega) (by omega)).mpr (Nat.zero_le _)
    unfold F_X0_readSize F_X0_readSize_61 F_X0_readSize_84
    rw [low4_ok sb (by omega) hn6, fon_fok, t18, if_pos (c := 1 ≤ nI W) (by (simp (disch := omega) only [nI_toInt, Int32.lt_iff_toInt_lt, Int32.le_iff_toInt_le, ← Int32.toInt_inj, Int32.reduceToInt]; omega)), low4_ok sb (by omega) hn6, fon_fok, show L4 sb (18 + 4) = H from t22, nI_l (by omega), if_neg (fun e => by have := z0.mp e; omega), if_pos zg, if_pos (Or.inl rfl), if_pos rfl, nI_l (by omega), ly_ok hW hH hT, fon_fok]
  have hdp : F_X0_readDepth (Sr n 26) sb (f1, f2, f3, 0, bi, cm, us, pk, cl, up, col) = fok () (Sr n 34, (f1, f2, f3, 0, nI b, nI c, us, pk, cl, up, col)) := by
    unfold F_X0_readDepth
    rw [low2_ok sb (by omega) hn6, fon_fok, t26, if_pos (c := nI 1 = 1) rfl, low2_ok sb (by omega) hn6, fon_fok, show L2 sb (26 + 2) = b from t28, six_y hbO]
    have := cmp_y (to := 0) sb hn6 (by omega) hbO f1 f2 f3 cm us pk cl up col (Or.inl rfl) (by rw [t30]; exact hcO)
    rw [t30] at this
    exact this
  have hus := us_y (to := 0) sb hn6 (by omega) hbO f1 f2 f3 (nI c) us pk cl up col (by rw [t46]; exact hMu)
  rw [t46, hU, show nI 0 = 0 from rfl] at hus
  have hc1 : c ≤ 1 := by rw [← hc]; split <;> omega
  have hly := (lay_c (n := n) (o := 54 + 4 * m) (t := (bmR a W H d l).length) (U := m) (c := c) hn6 (by omega) (by omega) (by omega) (by omega) (f1, f2, f3, 0, nI b, nI c, nI m, pk, cl, up, col) rfl rfl).1 ⟨by omega, by omega⟩ (Or.inl (by omega))
  have hco := col_c (n := n) (U := m) sb hn6 (by omega) (by omega) f1 f2 f3 0 (nI b) (nI c) pk cl up col
  refine ⟨frontN (tbl sb) col m, ?_⟩
  unfold F_X0_decode
  rw [wn_ok sb 66 (by omega) hn6 (by rw [g0]; rfl), fon_fok, wn_ok sb 77 (by omega) hn6 (by rw [g1]; rfl), fon_fok]
  dsimp only [sc_size]
  rw [show 0 + 1 + 1 = 2 from rfl, wl_ok sb (nI n) rfl (by omega) hn6 (by rw [g2, hn]), fon_fok, wl_ok (v := 0) sb 0 rfl (by omega) hn6 (by exact g6), fon_fok, low4_ok sb (by omega) hn6, fon_fok, show L4 sb (2 + 4 + 4) = 54 + 4 * m from t10, wl_ok (v := 40) sb 40 rfl (by omega) hn6 (by exact t14), fon_fok, show 2 + 4 + 4 + 4 + 4 = 18 from rfl, hsz, fon_fok]
  dsimp only
  rw [hdp, fon_fok]
  dsimp only
  rw [low4_ok sb (by omega) hn6, fon_fok, g34, show (8 : Int32) = nI 8 from rfl, pass_ok sb (by omega) hn6, fon_fok, show 34 + 4 + 8 = 46 from rfl, hus, fon_fok]
  dsimp only
  rw [show (4 : Int32) = nI 4 from rfl, pass_ok sb (by omega) hn6, fon_fok, show 50 + 4 = 54 from rfl, hly, fon_fok, hco, fon_fok]
  dsimp only [bm_comp, sc_size, sc_ft, sc_fp]
  by_cases c9 : a = 9
  · have e1 : c = 1 := by rw [← hc, if_pos c9]
    have e8 : b = 8 := by rw [← hb, if_neg (by omega)]
    rw [if_pos c9, e1, e8, if_neg (by decide)]
    rfl
  · have e1 : c = 0 := by rw [← hc, if_neg c9]
    rw [if_neg c9, e1, if_pos (by decide)]
    rfl
