/-- where a run of a line ends -/
theorem run_eP {S : Nat} {s : Nat → Nat} : ∀ (k x j : Nat), x + j + k = S → 0 < k → rcn S 63 (fun v => nI (s v)) (x + j) = j → cat (gP S s) (x + j) = cat (gP S s) x →
    ∃ c, 1 ≤ c ∧ c ≤ 63 ∧ x + c ≤ S ∧ rcn S 63 (fun v => nI (s v)) (x + c) = 0 ∧ cat (gP S s) (x + c) = cat (gP S s) x ++ (if 1 < c ∨ 192 ≤ s (x + c - 1) then [192 + c, s (x + c - 1)] else [s (x + c - 1)])
  | 0, x, j, _, h, _, _ => absurd h (by omega)
  | k + 1, x, j, h1, _, h3, h4 => by
    have hlt := rcn_lt (W := S) (M := 63) (d := fun v => nI (s v)) (by omega) (x + j)
    by_cases c : x + j + 1 = S ∨ nI (s (x + j + 1)) ≠ nI (s (x + j)) ∨ rcn S 63 (fun v => nI (s v)) (x + j) + 1 = 63
    · refine ⟨j + 1, by omega, by omega, by omega, rcn_e (x := x + j) c, ?_⟩
      have e : gP S s (x + j) = (if 1 < rcn S 63 (fun v => nI (s v)) (x + j) + 1 ∨ 192 ≤ s (x + j) then [192 + (rcn S 63 (fun v => nI (s v)) (x + j) + 1), s (x + j)] else [s (x + j)]) := if_pos c
      rw [show x + (j + 1) = x + j + 1 from rfl, cat_s, h4, e, h3, show x + j + 1 - 1 = x + j from rfl]
    · have e : gP S s (x + j) = [] := if_neg c
      have hne : ¬ x + j + 1 = S := fun e => c (Or.inl e)
      exact run_eP (S := S) (s := s) k x (j + 1) (by omega) (by omega) (by rw [show x + (j + 1) = x + j + 1 from rfl, rcn_n (W := S) (M := 63) (d := fun v => nI (s v)) (x := x + j) c, h3]) (by rw [show x + (j + 1) = x + j + 1 from rfl, cat_s, e, List.append_nil, h4])
/-- the bytes of a run go into the line -/
theorem a_93 {W H y st pl v cnt k0 q0 r0 : Nat} (P : Out (Ras × Src) Unit → Prop) (sb : A) (hv : v < 256) (hy : y < H) (hW : W ≤ 4096) (hT : W * H ≤ 4096) (hpl : pl ≤ 4) (hst : st < 65536) (hc : cnt < 64) (hk : k0 + cnt ≤ pl * st) (f1 f2 f3 ver : Int32) (col : A) (sc : Src) (px0 : A) (tot : Int32)
    (k23 : Int32 → Int32 → Int32 → Int32 → Int32 → Ras → Src → Out (Ras × Src) Unit) (a0 : At k0 q0 r0 st pl)
    (hP : ∀ px q r, At (k0 + cnt) q r st pl → P (k23 (nI y) tot (nI q) (nI r) (nI (k0 + cnt)) (nI W, nI H, px) sc)) :
    P (F_X4_readLine_93 sb (f1, f2, f3, ver, nI 8, nI 1, nI pl, nI st, col) k23 (nI y) tot (nI q0) (nI r0) (nI cnt) (nI k0) (nI v) (nI W, nI H, px0) sc) := by
  have hps : pl * st ≤ 4 * 65535 := Nat.mul_le_mul hpl (by omega)
  have hb : okP 8 := by unfold okP; omega
  unfold F_X4_readLine_93
  have q := lp_M (z := fun _ _ _ _ _ _ _ _ _ _ => fno) (f := F_X4_readLine_96 sb (f1, f2, f3, ver, nI 8, nI 1, nI pl, nI st, col) k23) (fun m c1 => ∀ (j q r : Nat) (px : A), j + m = cnt → At (k0 + j) q r st pl → P (c1 (nI y) tot (nI q) (nI r) (nI cnt) (nI k0) (nI v) (nI j) (nI W, nI H, px) sc)) ?_ cnt (by omega)
  · exact q 0 q0 r0 px0 (by omega) a0
  · intro m c1 ih j q r px hj hA
    unfold F_X4_readLine_96 F_X4_readLine_133
    by_cases c0 : m = 0
    · have : j = cnt := by omega
      subst this
      rw [if_pos (Int32.le_refl _), nI_add]
      exact hP px q r hA
    have hq := hA.2.2 (by omega)
    obtain ⟨e1, hr, _⟩ := id hA
    have hAs := At_s hA (by omega)
    have ea := add_eq (b := 8) (c := r) (i := q) (v := v) hb hv hy hW hT (by omega) (by omega) px f1 f2 f3 ver (nI pl) (nI st) col
    rw [show 8 / 8 = 1 from rfl] at ea
    rw [if_neg (nI_ge (by omega) (by omega)), ea, fon_fok, nI_1, nI_1, nI_1]
    dsimp only [px_step]
    by_cases c3 : r + 1 = st
    · rw [if_pos (by rw [c3])]
      exact ih (m - 1) (by omega) (j + 1) (q + 1) 0 _ (by omega) (hAs.1 c3)
    · rw [if_neg (fun e => c3 ((nI_eq (by omega) (by omega)).mp e))]
      exact ih (m - 1) (by omega) (j + 1) q (r + 1) _ (by omega) (hAs.2 c3)
/-- a line is taken -/
theorem a_line {n p W H y pl : Nat} {l : List Int32} {d : A} (sb : A) (hpl : pl = 1 ∨ pl = 3) (hn : n ≤ 65536) (hy : y < H) (hW : W ≤ 4096) (hW1 : 1 ≤ W) (hT : W * H ≤ 4096) (hs : ∀ i x, smp pl W l d y i x < 256) (hA : Ba sb p (cat (lnP pl W l d y) pl)) (hp : p + (cat (lnP pl W l d y) pl).length ≤ n) (f1 f2 f3 ver : Int32) (col px0 : A) :
    ∃ px2, F_X4_readLine (nI y) (nI W, nI H, px0) (Sr n p) sb (f1, f2, f3, ver, nI 8, nI 1, nI pl, nI (stP W), col) = fok () ((nI W, nI H, px2), Sr n (p + (cat (lnP pl W l d y) pl).length)) := by
  have hS : 1 ≤ stP W ∧ stP W ≤ 4098 := by unfold stP; omega
  unfold F_X4_readLine
  dsimp only [px_planes, px_step]
  rw [pk_mul]
  have hg : ∀ i, lnP pl W l d y i = cat (gP (stP W) (smp pl W l d y i)) (stP W) := fun _ => rfl
  generalize stP W = S at *
  have hps : pl * S ≤ 3 * 4098 := Nat.mul_le_mul (by omega) hS.2
  have q := lp_M (z := fun _ _ _ _ _ _ _ => fno) (f := F_X4_readLine_23 sb (f1, f2, f3, ver, nI 8, nI 1, nI pl, nI S, col)) (fun m c1 => ∀ (k i x q r p2 : Nat) (px : A), k + m = pl * S → k = i * S + x → i < pl → x ≤ S → rcn S 63 (fun v => nI (smp pl W l d y i v)) x = 0 → p2 = p + (cat (lnP pl W l d y) i).length + (cat (gP S (smp pl W l d y i)) x).length → At k q r S pl → ∃ px2, c1 (nI y) (nI (pl * S)) (nI q) (nI r) (nI k) (nI W, nI H, px) (Sr n p2) = fok () ((nI W, nI H, px2), Sr n (p + (cat (lnP pl W l d y) pl).length))) ?_ (pl * S) (by omega)
  · exact q 0 0 0 0 0 p px0 (by omega) (by omega) (by omega) (by omega) rfl rfl ⟨by omega, by omega, fun _ => by omega⟩
  · intro m c1 ih
    -- a line of a plane that isn't at its end
    have go : ∀ (k i x q r p2 : Nat) (px : A), k + m = pl * S → k = i * S + x → i < pl → x < S → rcn S 63 (fun v => nI (smp pl W l d y i v)) x = 0 → p2 = p + (cat (lnP pl W l d y) i).length + (cat (gP S (smp pl W l d y i)) x).length → At k q r S pl → ∃ px2, F_X4_readLine_23 sb (f1, f2, f3, ver, nI 8, nI 1, nI pl, nI S, col) c1 (nI y) (nI (pl * S)) (nI q) (nI r) (nI k) (nI W, nI H, px) (Sr n p2) = fok () ((nI W, nI H, px2), Sr n (p + (cat (lnP pl W l d y) pl).length)) := by
      intro k i x q r p2 px hkm hk hi hx hr hp2 hAt
      have hm0 : m ≠ 0 := by
        intro e
        have := Nat.mul_le_mul_right S (show i + 1 ≤ pl by omega)
        rw [Nat.succ_mul] at this
        omega
      obtain ⟨c, c1', c2, c3, c4, c5⟩ := run_eP (S := S) (s := smp pl W l d y i) (S - x) x 0 (by omega) (by omega) hr rfl
      have aI := Ba_cat hA i hi
      rw [hg i] at aI
      have aP := Ba_pre aI (x + c) c3
      have hle1 := cat_lt (lnP pl W l d y) hi
      rw [hg i] at hle1
      have hle2 := cat_le (gP S (smp pl W l d y i)) c3
      have hkc : k + c ≤ pl * S := by
        have := Nat.mul_le_mul_right S (show i + 1 ≤ pl by omega)
        rw [Nat.succ_mul] at this
        omega
      have hv := hs i (x + c - 1)
      have next : ∀ (px3 : A) (q r : Nat) (p3 : Nat), p3 = p + (cat (lnP pl W l d y) i).length + (cat (gP S (smp pl W l d y i)) (x + c)).length → At (k + c) q r S pl → ∃ px2, c1 (nI y) (nI (pl * S)) (nI q) (nI r) (nI (k + c)) (nI W, nI H, px3) (Sr n p3) = fok () ((nI W, nI H, px2), Sr n (p + (cat (lnP pl W l d y) pl).length)) := fun px3 q r p3 h3 hA3 => ih (m - c) (by omega) (k + c) i (x + c) q r p3 px3 (by omega) (by omega) hi c3 c4 h3 hA3
      rw [c5] at aP hle2
      have aQ := Ba_r aP
      rw [← hp2] at aQ
      have hc5 : (cat (gP S (smp pl W l d y i)) (x + c)).length = (cat (gP S (smp pl W l d y i)) x).length + (if 1 < c ∨ 192 ≤ smp pl W l d y i (x + c - 1) then [192 + c, smp pl W l d y i (x + c - 1)] else [smp pl W l d y i (x + c - 1)]).length := by rw [c5, List.length_append]
      rw [List.length_append] at hle2
      generalize smp pl W l d y i (x + c - 1) = v at *
      unfold F_X4_readLine_23
      rw [if_neg (nI_ge (by omega) (by omega))]
      by_cases cc : 1 < c ∨ 192 ≤ v
      · rw [if_pos cc] at aQ hle2 hc5
        simp only [List.length_cons, List.length_nil] at hle2 hc5
        obtain ⟨g0, aQ2⟩ := Ba_c aQ
        obtain ⟨g1, _⟩ := Ba_c aQ2
        rw [Nat.mod_eq_of_lt (by omega)] at g0
        rw [Nat.mod_eq_of_lt (by omega)] at g1
        rw [nx_ok sb (by omega) hn, fon_fok, g0, if_neg (c := nI (192 + c) = 192) (fun e => by have := (nI_inj (b := 192) (by omega) (by omega)).mp e; omega), mx192 _ (by omega), if_pos (c := 192 < 192 + c) (by omega), pk_sub (by omega), if_pos (nI_le (by omega) (by omega)), if_neg (c := nI (192 + c) ≤ 192) (nI_ge (a := 192) (by omega) (by omega)), nx_ok sb (by omega) hn, fon_fok, g1, show 192 + c - 192 = c from by omega]
        exact a_93 (fun o => ∃ px2, o = fok () ((nI W, nI H, px2), Sr n (p + (cat (lnP pl W l d y) pl).length))) sb hv hy hW hT (by omega) (by omega) (by omega) hkc f1 f2 f3 ver col _ px _ c1 hAt (fun px3 q r hA3 => next px3 q r (p2 + 1 + 1) (by omega) hA3)
      · rw [if_neg cc] at aQ hle2 hc5
        simp only [List.length_cons, List.length_nil] at hle2 hc5
        obtain ⟨g0, _⟩ := Ba_c aQ
        rw [Nat.mod_eq_of_lt (by omega)] at g0
        have hc1 : c = 1 := by omega
        subst hc1
        rw [nx_ok sb (by omega) hn, fon_fok, g0, if_neg (c := nI v = 192) (fun e => by have := (nI_inj (b := 192) (by omega) (by omega)).mp e; omega), mx192 _ (by omega), if_neg (c := 192 < v) (by omega), pk_sub (by omega), if_pos (nI_le (by omega) (by omega)), if_pos (c := nI v ≤ 192) (nI_le (b := 192) (by omega) (by omega))]
        exact a_93 (fun o => ∃ px2, o = fok () ((nI W, nI H, px2), Sr n (p + (cat (lnP pl W l d y) pl).length))) sb hv hy hW hT (by omega) (by omega) (by omega) hkc f1 f2 f3 ver col _ px _ c1 hAt (fun px3 q r hA3 => next px3 q r (p2 + 1) (by omega) hA3)
    intro k i x q r p2 px hkm hk hi hx hr hp2 hAt
    by_cases cx : x = S
    · subst cx
      have hl1 : (cat (lnP pl W l d y) (i + 1)).length = (cat (lnP pl W l d y) i).length + (cat (gP x (smp pl W l d y i)) x).length := by rw [cat_s, List.length_append, hg i]
      by_cases ci : i + 1 = pl
      · have hke : k = pl * x := by rw [← ci, Nat.succ_mul]; exact hk
        unfold F_X4_readLine_23
        rw [ci] at hl1
        rw [hke, if_pos (Int32.le_refl _), hp2, hl1, ← Nat.add_assoc]
        exact ⟨_, rfl⟩
      · exact go k (i + 1) 0 q r p2 px hkm (by rw [Nat.succ_mul]; omega) (by omega) (by omega) rfl (by rw [hl1]; show _ = _ + 0; omega) hAt
    · exact go k i x q r p2 px hkm hk hi (by omega) hr hp2 hAt
