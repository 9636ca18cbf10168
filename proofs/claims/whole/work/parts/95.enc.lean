def fam (n : Nat) : Nat := if n = 0 then 0 else if n < 7 then 1 else if n < 10 then 2 else if n < 16 then 3 else 4
theorem fam_eq : ∀ n, n < 18 → F_X10_familyOf (nI n) = nI (fam n) := by decide +kernel
/-- the file of a form -/
def encL (n : Nat) (z : Int32) (W H : Nat) (d : A) : List Nat := if n = 0 then qoF z W H d else if n < 7 then pnH n W H ++ pnB n W H d else if n < 10 then (if n = 7 then bmL n 0 W H d [] else bmL n (dl d (W * H)).length W H d (dl d (W * H))) else if n < 16 then tgL n (if z = 0 then 4 else 3) (if kT n = 1 then dl d (W * H) else []).length W H (if kT n = 1 then dl d (W * H) else []) d else if n = 16 then pcL 3 W H [] d else pcL 1 W H (dl d (W * H)) d
theorem kT_1 {n : Nat} (h : okA n) : kT n = 1 ↔ n = 14 ∨ n = 15 := by
  unfold okA at h
  unfold kT
  by_cases c : n < 12
  · rw [if_pos c]; omega
  · rw [if_neg c]
    by_cases c2 : n < 14
    · rw [if_pos c2]; omega
    · rw [if_neg c2]; omega
theorem kT_3 {n : Nat} (h : okA n) : kT n = 3 ↔ n = 12 ∨ n = 13 := by
  unfold okA at h
  unfold kT
  by_cases c : n < 12
  · rw [if_pos c]; omega
  · rw [if_neg c]
    by_cases c2 : n < 14
    · rw [if_pos c2]; omega
    · rw [if_neg c2]; omega
theorem encL_b {n : Nat} {z : Int32} {W H : Nat} {d : A} (hn : n ≤ 17) (hH : H ≤ 4096) (hT : W * H ≤ 4096) (hl : n = 8 ∨ n = 9 ∨ n = 14 ∨ n = 15 ∨ n = 17 → (dl d (W * H)).length ≤ 256) : 1 ≤ (encL n z W H d).length ∧ (encL n z W H d).length ≤ 65536 := by
  unfold encL
  by_cases c0 : n = 0
  · rw [if_pos c0]
    have hq := qL_le (N := W * H) (d := d) (W * H) 0 255 (fun _ => 0) (by omega)
    unfold qoF
    rw [List.length_append, List.length_append, List.length_append, qoH_len, List.length_replicate, List.length_singleton]
    omega
  rw [if_neg c0]
  by_cases c1 : n < 7
  · rw [if_pos c1, List.length_append]
    have h1 := pnH_le n W H; have h2 := pnB_le (a := n) d hT
    have h3 : 1 ≤ (pnH n W H).length := by unfold pnH; simp
    omega
  rw [if_neg c1]
  by_cases c2 : n < 10
  · rw [if_pos c2]
    have key : ∀ (m : Nat) (l : List Int32), l.length ≤ 256 → 1 ≤ (bmL n m W H d l).length ∧ (bmL n m W H d l).length ≤ 65536 := by
      intro m l h
      have hR := bmR_le (a := n) d l hH hT
      unfold bmL
      rw [set4_len, set4_len, bmM_len]
      omega
    by_cases c3 : n = 7
    · rw [if_pos c3]; exact key _ _ (by simp)
    · rw [if_neg c3]; exact key _ _ (hl (by omega))
  rw [if_neg c2]
  by_cases c3 : n < 16
  · rw [if_pos c3]
    have hA : okA n := ⟨by omega, by omega⟩
    have hD : (if z = 0 then 4 else 3) = 3 ∨ (if z = 0 then 4 else 3) = 4 := by split <;> omega
    have hl2 : (if kT n = 1 then dl d (W * H) else []).length ≤ 256 := by
      by_cases c : kT n = 1
      · rw [if_pos c]; exact hl (by have := (kT_1 hA).mp c; omega)
      · rw [if_neg c]; simp
    generalize (if kT n = 1 then dl d (W * H) else []) = l at *
    generalize (if z = 0 then 4 else 3) = D at *
    have h1 := tgR_le (a := n) hD l d hT
    have h2 := tgT_len hD l
    have h4 : l.length * D ≤ 256 * 4 := Nat.mul_le_mul hl2 (by omega)
    unfold tgL
    rw [List.length_append, List.length_append, tgH_len, h2]
    omega
  rw [if_neg c3]
  have key : ∀ (P : Nat) (l : List Int32), P = 1 ∨ P = 3 → 1 ≤ (pcL P W H l d).length ∧ (pcL P W H l d).length ≤ 65536 := by
    intro P l hP
    have h1 := rwP_le hP hH hT l d
    have h2 := tbP_len l
    unfold pcL
    rw [List.length_append, List.length_append, pcH_len]
    by_cases c : P = 1
    · rw [if_pos c, h2]; omega
    · rw [if_neg c]; simp only [List.length_nil]; omega
  by_cases c4 : n = 16
  · rw [if_pos c4]; exact key 3 _ (Or.inr rfl)
  · rw [if_neg c4]; exact key 1 _ (Or.inl rfl)
theorem enc_c {r n W H : Nat} {rr : Nat → Ras} {ww : Nat → Row} {mu : A} {m : Int32} {pl pl2 : Pal} (qo : Qoi) (z : Int32) (hn : n ≤ 17) (hw : ww 14 = (m, mu)) (hf : F_X10_fits (nI n) (rr r) pl = fok 1 pl2) (hF : Fact (nI n) (x_p (rr r)) (W * H)) (hz : F_X7_isOpaque (rr r) = fok z ()) (b1 : x_w (rr r) = nI W) (b2 : x_g (rr r) = nI H) (hW : W ≤ 4096) (hH : H ≤ 4096) (hW1 : 1 ≤ W) (hH1 : 1 ≤ H) (hT : W * H ≤ 4096) :
    ∃ pl3 qo3, F_X10_putOut (nI n) r rr ww pl qo = fok 1 (va_up ww 14 (RwC mu (encL n z W H (x_p (rr r)))), pl3, qo3) := by
  have hl : ∀ k, (k = 8 ∨ k = 9 ∨ k = 14 ∨ k = 15 ∨ k = 17) → n = k → (dl (x_p (rr r)) (W * H)).length ≤ 256 := by
    intro k hk e
    subst e
    refine hF.2.2 ?_
    rcases hk with rfl | rfl | rfl | rfl | rfl <;> decide
  have e0 : (0, mu) = RwC mu [] := by show ((0 : Int32), mu) = (nI 0, ap mu []); rw [ap_0]; rfl
  unfold F_X10_putOut F_X10_putOut_10034 F_X10_putOut_20034 F_X10_putOut_30034 F_X10_putOut_40034 F_X10_putOut_50034
  rw [fam_eq n (by omega), hf, fon_fok, if_neg (c := (1 : Int32) = 0) (by decide), va_up_self, hw]
  dsimp only [y_b]
  rw [e0]
  unfold encL fam
  by_cases c0 : n = 0
  · rw [if_pos c0, if_pos c0, if_neg (by decide), if_pos (by decide)]
    obtain ⟨qo2, e⟩ := c_qoi (f := mu) z hz b1 b2 hT (nI n) qo
    rw [e, fon_fok, va_up_up]
    exact ⟨_, _, rfl⟩
  rw [if_neg c0, if_neg c0]
  by_cases c1 : n < 7
  · rw [if_pos c1, if_pos c1, if_neg (by decide), if_neg (by decide), if_pos (by decide), c_pnm ⟨by omega, by omega⟩ b1 b2 hW hH hT, fon_fok, va_up_up]
    exact ⟨_, _, rfl⟩
  rw [if_neg c1, if_neg c1]
  by_cases c2 : n < 10
  · rw [if_pos c2, if_pos c2, if_neg (by decide), if_neg (by decide), if_neg (by decide), if_pos (by decide)]
    obtain ⟨pl3, e⟩ := c_bmp (f := mu) (show n = 7 ∨ n = 8 ∨ n = 9 by omega) b1 b2 hW hH hH1 hT pl2 (fun h => by rcases h with h | h; exact hl 8 (by omega) h; exact hl 9 (by omega) h)
    rw [e, fon_fok, va_up_up]
    exact ⟨_, _, rfl⟩
  rw [if_neg c2, if_neg c2]
  by_cases c3 : n < 16
  · have hA : okA n := ⟨by omega, by omega⟩
    rw [if_pos c3, if_pos c3, if_neg (by decide), if_neg (by decide), if_neg (by decide), if_neg (by decide), if_pos (by decide)]
    obtain ⟨pl3, e⟩ := c_tga (f := mu) hA z hz b1 b2 hW hH hT pl2 (fun h => by rcases (kT_1 hA).mp h with h | h; exact hl 14 (by omega) h; exact hl 15 (by omega) h)
    rw [e, fon_fok, va_up_up]
    exact ⟨_, _, rfl⟩
  · rw [if_neg c3, if_neg c3, if_neg (by decide), if_neg (by decide), if_neg (by decide), if_neg (by decide), if_neg (by decide), if_pos (by decide)]
    obtain ⟨pl3, e⟩ := c_pcx (f := mu) (show n = 16 ∨ n = 17 by omega) b1 b2 hW hH hW1 hH1 hT pl2 (fun h => hl 17 (by omega) h)
    rw [e, fon_fok, va_up_up]
    exact ⟨_, _, rfl⟩
