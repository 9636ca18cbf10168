theorem acc_k {li : A} {b st x q r pl : Nat} (hx : xc b x < st) (hr : r < st) (c : ¬ xc b x = r) : acc li b st x (q * st + r + 1) pl = acc li b st x (q * st + r) pl := by
  refine acc_low (fun i _ => ?_)
  rcases Nat.lt_trichotomy i q with e | e | e
  · have : (i + 1) * st ≤ q * st := Nat.mul_le_mul_right st e
    rw [Nat.succ_mul] at this; omega
  · rw [e]; omega
  · have : (q + 1) * st ≤ i * st := Nat.mul_le_mul_right st e
    rw [Nat.succ_mul] at this; omega
def leastP (W b : Nat) : Nat := (W * b + 7) / 8
theorem xc_lt {W b x : Nat} (hb : okP b) (hx : x < W) : xc b x < leastP W b := by
  unfold xc leastP
  rcases hb with rfl | rfl | rfl | rfl
  · show x / 8 < _; omega
  · show x / 4 < _; omega
  · show x / 2 < _; omega
  · show x / 1 < _; omega
theorem xc_iff {b x r : Nat} (hb : okP b) : xc b x = r ↔ r * (8 / b) ≤ x ∧ x < r * (8 / b) + 8 / b := by
  unfold xc
  rcases hb with rfl | rfl | rfl | rfl
  · show x / 8 = r ↔ r * 8 ≤ x ∧ x < r * 8 + 8; omega
  · show x / 4 = r ↔ r * 4 ≤ x ∧ x < r * 4 + 4; omega
  · show x / 2 = r ↔ r * 2 ≤ x ∧ x < r * 2 + 2; omega
  · show x / 1 = r ↔ r * 1 ≤ x ∧ x < r * 1 + 1; omega
theorem least_le {W b : Nat} (hb : okP b) (hW : W ≤ 4096) : leastP W b ≤ 4096 := by
  unfold leastP
  rcases hb with rfl | rfl | rfl | rfl <;> omega
theorem pt_sg {v b x i : Nat} (hb : okP b) (hv : v < 256) : pt (b8 (nI v)) b x i = pt (nI v) b x i := by
  unfold pt
  rw [ix_sg hv hb (Nat.mod_lt _ (by have := (per_ok hb).2.1; omega))]
/-- the line after k bytes -/
def JL (px0 px li : A) (y W b st pl k : Nat) : Prop := (∀ x, x < W → px (y * W + x) = acc li b st x k pl) ∧ ∀ j, j < y * W ∨ y * W + W ≤ j → px j = px0 j
def liN (li : A) (W b q r v : Nat) : A := if leastP W b ≤ r then li else upd li (4096 * q + r) (b8 (nI v))
theorem JL_s {px0 px li : A} {y W b st pl q r v : Nat} (hb : okP b) (hW : W ≤ 4096) (hv : v < 256) (hq : q < pl) (hr : r < st) (hl : leastP W b ≤ st) (h : JL px0 px li y W b st pl (q * st + r)) : JL px0 (aB px y W r (8 / b) b q (nI v)) (liN li W b q r v) y W b st pl (q * st + r + 1) := by
  have hle := least_le hb hW
  refine ⟨fun x hx => ?_, fun j hj => ?_⟩
  · have hc := xc_lt hb hx
    have hi := xc_iff (x := x) (r := r) hb
    have e1 : aB px y W r (8 / b) b q (nI v) (y * W + x) = if xc b x = r then px (y * W + x) ||| pt (nI v) b x q else px (y * W + x) := by
      unfold aB
      by_cases c : xc b x = r
      · rw [if_pos c]
        have := hi.mp c
        rw [if_pos (by omega), show y * W + x - y * W = x from by omega]
      · rw [if_neg c]
        have : ¬ (r * (8 / b) ≤ x ∧ x < r * (8 / b) + 8 / b) := fun e => c (hi.mpr e)
        rw [if_neg (by omega)]
    rw [e1, h.1 x hx]
    unfold liN
    by_cases c2 : leastP W b ≤ r
    · rw [if_pos c2, if_neg (by omega), acc_k (by omega) hr (by omega)]
    · rw [if_neg c2, acc_s (by omega) (by omega) hq hr (by omega), pt_sg hb hv]
  · rw [← h.2 j hj]
    unfold aB
    rw [if_neg (by omega)]
/-- where a byte of the line lies -/
def At (k q r st pl : Nat) : Prop := q * st + r = k ∧ r < st ∧ (k < pl * st → q < pl)
theorem At_s {k q r st pl : Nat} (h : At k q r st pl) (hk : k < pl * st) : (r + 1 = st → At (k + 1) (q + 1) 0 st pl) ∧ (r + 1 ≠ st → At (k + 1) q (r + 1) st pl) := by
  obtain ⟨h1, h2, h3⟩ := h
  refine ⟨fun e => ⟨by rw [Nat.succ_mul]; omega, by omega, fun e2 => ?_⟩, fun e => ⟨by omega, by omega, fun _ => h3 hk⟩⟩
  rcases Nat.lt_or_ge (q + 1) pl with c | c
  · exact c
  · have := Nat.mul_le_mul_right st c
    rw [Nat.succ_mul] at this; omega
theorem in_pcx {W H y b st pl v cnt k0 q0 r0 : Nat} (P : Out (Ras × Src) Unit → Out (MR × A × A) Int32 → Prop) (sb ta : A) (hb : okP b) (hv : v < 256) (hy : y < H) (hW : W ≤ 4096) (hT : W * H ≤ 4096) (hpl : pl ≤ 4) (hst : st < 65536) (hl : leastP W b ≤ st) (hc : cnt < 64) (hk : k0 + cnt ≤ pl * st) (f1 f2 f3 ver : Int32) (col : A) (sc : Src) (mr : MR) (gt px0 px li : A) (tot : Int32)
    (k23 : Int32 → Int32 → Int32 → Int32 → Int32 → Ras → Src → Out (Ras × Src) Unit) (k9 : Int32 → Int32 → Int32 → Int32 → Int32 → Int32 → Int32 → MR → A → A → Out (MR × A × A) Int32) (v1 v2 v3 v6 : Int32) (h0 : JL px0 px li y W b st pl k0) (a0 : At k0 q0 r0 st pl)
    (hP : ∀ px li q r, JL px0 px li y W b st pl (k0 + cnt) → At (k0 + cnt) q r st pl → P (k23 (nI y) tot (nI q) (nI r) (nI (k0 + cnt)) (nI W, nI H, px) sc) (k9 v1 v2 v3 (nI st) (nI (leastP W b)) v6 (nI (k0 + cnt)) mr gt li)) :
    P (F_X4_readLine_93 sb (f1, f2, f3, ver, nI b, nI (8 / b), nI pl, nI st, col) k23 (nI y) tot (nI q0) (nI r0) (nI cnt) (nI k0) (nI v) (nI W, nI H, px) sc) (F_X11_readLine_129 sb ta k9 v1 v2 v3 (nI st) (nI (leastP W b)) v6 (nI k0) (nI v) (nI cnt) mr gt li) := by
  have hle := least_le hb hW
  have hps : pl * st ≤ 4 * 65535 := Nat.mul_le_mul hpl (by omega)
  unfold F_X4_readLine_93 F_X11_readLine_129
  have q := lp_D (z := fun _ _ _ _ _ _ _ _ _ _ => fno) (z2 := fun _ _ _ _ _ _ _ _ _ _ _ _ _ => fno) (f := F_X4_readLine_96 sb (f1, f2, f3, ver, nI b, nI (8 / b), nI pl, nI st, col) k23) (f2 := F_X11_readLine_132 sb ta k9) (fun m c1 c2 => ∀ (j q r : Nat) (px li : A), j + m = cnt → JL px0 px li y W b st pl (k0 + j) → At (k0 + j) q r st pl → P (c1 (nI y) tot (nI q) (nI r) (nI cnt) (nI k0) (nI v) (nI j) (nI W, nI H, px) sc) (c2 v1 v2 v3 (nI st) (nI (leastP W b)) v6 (nI (k0 + j)) (nI v) (nI cnt) (nI j) mr gt li)) ?_ cnt (by omega)
  · exact q 0 q0 r0 px li (by omega) h0 a0
  · intro m c1 c2 ih j q r px li hj hJ hA
    unfold F_X4_readLine_96 F_X11_readLine_132 F_X4_readLine_133 F_X11_readLine_172
    by_cases c0 : m = 0
    · have : j = cnt := by omega
      subst this
      rw [if_pos (Int32.le_refl _), if_pos (Int32.le_refl _), nI_add]
      exact hP px li q r hJ hA
    have hq := hA.2.2 (by omega)
    obtain ⟨e1, hr, _⟩ := id hA
    have hAs := At_s hA (by omega)
    have hst0 : ¬ nI st = 0 := nI_ne0 (by omega) (by omega)
    have ediv : nI (k0 + j) / nI st = nI q := by
      rw [pk_div (by omega) (by omega) (by omega), ← e1, yx_div hr]
    have emod : nI (k0 + j) - nI q * nI st = nI r := by
      rw [pk_mul, pk_sub (by omega), ← e1, Nat.add_sub_cancel_left]
    rw [if_neg (nI_ge (by omega) (by omega)), if_neg (nI_ge (by omega) (by omega)), if_pos hst0, if_pos hst0, if_pos hst0, ediv, emod, add_eq hb hv hy hW hT (by omega) (by omega), fon_fok, ix_dd]
    have hJs := JL_s (v := v) hb hW hv hq hr hl (by rw [e1]; exact hJ)
    rw [e1] at hJs
    have eR : ∀ (f : A → Out (MR × A × A) Int32), (if nI (leastP W b) ≤ nI r then f li else (if inb (nI (4096 * q + r)) 16384 then f (upd li (Int32.toNatClampNeg (nI (4096 * q + r))) (vp_nar .byte (nI v).toInt8.toInt32)) else fno)) = f (liN li W b q r v) := by
      intro f
      unfold liN
      by_cases c2 : leastP W b ≤ r
      · rw [if_pos (nI_le c2 (by omega)), if_pos c2]
      · rw [if_neg (nI_ge (by omega) (by omega)), if_neg c2, if_pos (inb_nI (by omega) (by omega)), nI_clamp (by omega)]
        rfl
    rw [eR (fun l => c2 v1 v2 v3 (nI st) (nI (leastP W b)) v6 (nI (k0 + j) + 1) (nI v) (nI cnt) (nI j + 1) mr gt l), nI_1, nI_1, nI_1, nI_1]
    dsimp only [px_step]
    by_cases c3 : r + 1 = st
    · rw [if_pos (by rw [c3])]
      exact ih (m - 1) (by omega) (j + 1) (q + 1) 0 _ _ (by omega) hJs (hAs.1 c3)
    · rw [if_neg (fun e => c3 ((nI_eq (by omega) (by omega)).mp e))]
      exact ih (m - 1) (by omega) (j + 1) q (r + 1) _ _ (by omega) hJs (hAs.2 c3)
theorem mx192 : ∀ z, z < 256 → iMax (nI z - 192) 1 = nI (if 192 < z then z - 192 else 1) := by decide +kernel
/-- a line of both readers -/
def LineP (n p : Nat) (sb ta gt px0 : A) (y W H b st pl : Nat) (one two three : Int32) (C : Out (Ras × Src) Unit) (R : Out (MR × A × A) Int32) : Prop :=
  (∃ (p2 : Nat) (px li : A), p ≤ p2 ∧ p2 ≤ n ∧ JL px0 px li y W b st pl (pl * st) ∧ C = fok () ((nI W, nI H, px), Sr n p2) ∧ R = lp (fun _ _ _ _ _ _ _ => fno) (F_X11_readLine_187 sb ta) FU (nI y) (nI b) (nI pl) 0 (Mr n p2 (nI W) (nI H) one two three) gt li) ∨
  (∃ (x : Ras) (sc : Src) (mr : MR) (li : A), C = fex ISE (x, sc) ∧ R = fok 0 (mr, gt, li) ∧ Bad sc mr)
theorem line_pcx {n p W H y b st pl : Nat} (sb ta : A) (hb : okP b) (hp : p ≤ n) (hn : n ≤ 65536) (hy : y < H) (hW : W ≤ 4096) (hW1 : 1 ≤ W) (hT : W * H ≤ 4096) (hpl : pl ≤ 4) (hst : st < 65536) (hl : leastP W b ≤ st) (f1 f2 f3 ver one two three : Int32) (col gt px0 li0 : A) (h0 : ∀ x, x < W → px0 (y * W + x) = 0) :
    LineP n p sb ta gt px0 y W H b st pl one two three (F_X4_readLine (nI y) (nI W, nI H, px0) (Sr n p) sb (f1, f2, f3, ver, nI b, nI (8 / b), nI pl, nI st, col)) (F_X11_readLine (nI y) (nI b) (nI pl) (nI st) (nI (leastP W b)) sb (Mr n p (nI W) (nI H) one two three) gt ta li0) := by
  have hps : pl * st ≤ 4 * 65535 := Nat.mul_le_mul hpl (by omega)
  have hst1 : 1 ≤ st := by have := xc_lt hb (show 0 < W by omega); omega
  unfold F_X4_readLine F_X11_readLine
  dsimp only [px_planes, px_step]
  rw [pk_mul]
  have q := lp_D (z := fun _ _ _ _ _ _ _ => fno) (z2 := fun _ _ _ _ _ _ _ _ _ _ => fno) (f := F_X4_readLine_23 sb (f1, f2, f3, ver, nI b, nI (8 / b), nI pl, nI st, col)) (f2 := F_X11_readLine_9 sb ta) (fun m c1 c2 => ∀ (p2 k q r : Nat) (px li : A), p2 + m = n → p ≤ p2 → k ≤ pl * st → JL px0 px li y W b st pl k → At k q r st pl → LineP n p sb ta gt px0 y W H b st pl one two three (c1 (nI y) (nI (pl * st)) (nI q) (nI r) (nI k) (nI W, nI H, px) (Sr n p2)) (c2 (nI y) (nI b) (nI pl) (nI st) (nI (leastP W b)) (nI (pl * st)) (nI k) (Mr n p2 (nI W) (nI H) one two three) gt li)) ?_ (n - p) (by omega)
  · exact q p 0 0 0 px0 li0 (by omega) (by omega) (by omega) ⟨fun x hx => by rw [h0 x hx, acc_0], fun _ _ => rfl⟩ ⟨by omega, by omega, fun h => by
      rcases Nat.eq_zero_or_pos pl with e | e
      · subst e; omega
      · exact e⟩
  · intro m c1 c2 ih p2 k q r px li hm hpp hk hJ hA
    unfold F_X4_readLine_23 F_X11_readLine_9
    by_cases c0 : pl * st ≤ k
    · have : k = pl * st := by omega
      subst this
      rw [if_pos (Int32.le_refl _), if_pos (Int32.le_refl _)]
      exact Or.inl ⟨p2, px, li, hpp, by omega, hJ, rfl, rfl⟩
    rw [if_neg (nI_ge (by omega) (by omega)), if_neg (nI_ge (by omega) (by omega))]
    by_cases cm : m = 0
    · rw [nx_no sb (by omega) (by omega), fon_fex, wt_no 1 1 rfl _ _ _ _ _ (by omega) (by omega), fon_fok, if_pos rfl]
      exact Or.inr ⟨_, _, _, _, rfl, rfl, b_bad _ _ _ _ _ _ _ _ _ _ (by decide)⟩
    have hz := bt_lt sb p2
    rw [nx_ok sb (by omega) hn, fon_fok, wt_ok 1 1 rfl _ _ _ _ _ (by omega) (by omega), fon_fok, if_neg (c := (1 : Int32) = 0) (by decide)]
    unfold F_X11_readLine_54 F_X11_readLine_71 F_X4_readLine_72
    dsimp only [mr_size, mr_pos, mr_kind, mr_whr, mr_gw, mr_gh, mr_one, mr_two, mr_three, sc_pos]
    rw [b_ok sb (by omega), fon_fok, wr_eq, fon_fok, if_pos (c := isB 0) (Or.inl rfl), rf_eq, fon_fex, mx192 _ hz, nI_1]
    generalize bt sb p2 = z at *
    by_cases c192 : z = 192
    · subst c192
      rw [if_pos (c := nI 192 = 192) rfl, if_pos (c := 192 ≤ nI 192) (by decide), if_pos (c := nI 192 - 192 = 0) (by decide)]
      exact Or.inr ⟨_, _, _, _, rfl, rfl, b_bad _ _ _ _ _ _ _ _ _ _ (by decide)⟩
    rw [if_neg (c := nI z = 192) (fun e => c192 ((nI_inj (b := 192) (by omega) (by omega)).mp e))]
    by_cases cg : 192 < z
    · rw [if_pos cg, if_pos (c := 192 ≤ nI z) (nI_le (a := 192) (by omega) (by omega)), show nI z - 192 = nI (z - 192) from pk_sub (b := 192) (by omega), if_neg (c := nI (z - 192) = 0) (nI_ne0 (by omega) (by omega)), pk_sub (by omega), nI_add, if_neg (c := nI z < 192) (nI_nlt (b := 192) (by omega) (by omega)), if_neg (c := nI z ≤ 192) (nI_ge (a := 192) (by omega) (by omega))]
      by_cases cf : k + (z - 192) ≤ pl * st
      · rw [if_pos (nI_le cf (by omega)), if_pos (nI_le (by omega) (by omega))]
        by_cases cm2 : m = 1
        · rw [nx_no sb (by omega) (by omega), fon_fex, wt_no 1 1 rfl _ _ _ _ _ (by omega) (by omega), fon_fok, if_pos rfl]
          exact Or.inr ⟨_, _, _, _, rfl, rfl, b_bad _ _ _ _ _ _ _ _ _ _ (by decide)⟩
        rw [nx_ok sb (by omega) hn, fon_fok, wt_ok 1 1 rfl _ _ _ _ _ (by omega) (by omega), fon_fok, if_neg (c := (1 : Int32) = 0) (by decide)]
        dsimp only [mr_size, mr_pos, mr_kind, mr_whr, mr_gw, mr_gh, mr_one, mr_two, mr_three]
        rw [b_ok sb (by omega), fon_fok, nI_1]
        exact in_pcx (LineP n p sb ta gt px0 y W H b st pl one two three) sb ta hb (bt_lt _ _) hy hW hT hpl hst hl (by omega) cf f1 f2 f3 ver col _ _ gt px0 px li _ c1 c2 _ _ _ _ hJ hA (fun px li q r h1 h2 => ih (m - 2) (by omega) (p2 + 1 + 1) (k + (z - 192)) q r px li (by omega) (by omega) cf h1 h2)
      · rw [if_neg (nI_ge (by omega) (by omega)), if_neg (nI_ge (by omega) (by omega))]
        exact Or.inr ⟨_, _, _, _, rfl, rfl, b_bad _ _ _ _ _ _ _ _ _ _ (by decide)⟩
    · rw [if_neg cg, if_neg (c := 192 ≤ nI z) (nI_ge (b := 192) (by omega) (by omega)), if_neg (c := (1 : Int32) = 0) (by decide), show nI k + 1 = nI (k + 1) from nI_add _ 1, if_pos (nI_le (by omega) (by omega)), pk_sub (by omega), if_pos (nI_le (by omega) (by omega)), if_pos (c := nI z < 192) (nI_lt (b := 192) (by omega) (by omega)), if_pos (c := nI z ≤ 192) (nI_le (b := 192) (by omega) (by omega))]
      exact in_pcx (LineP n p sb ta gt px0 y W H b st pl one two three) sb ta hb hz hy hW hT hpl hst hl (cnt := 1) (by omega) (by omega) f1 f2 f3 ver col _ _ gt px0 px li _ c1 c2 _ _ _ _ hJ hA (fun px li q r h1 h2 => ih (m - 1) (by omega) (p2 + 1) (k + 1) q r px li (by omega) (by omega) (by omega) h1 h2)
