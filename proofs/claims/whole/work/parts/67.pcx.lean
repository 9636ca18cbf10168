def okP (b : Nat) : Prop := b = 1 ∨ b = 2 ∨ b = 4 ∨ b = 8
theorem y1 : ∀ v, v < 256 → ∀ j, j < 8 → ixE ((nI v).toInt8.toInt32) (nI (j * 1)) (nI 1) = ixE (nI v) (nI (j * 1)) (nI 1) ∧ (ixE (nI v) (nI (j * 1)) (nI 1) = nI 0 ∨ ixE (nI v) (nI (j * 1)) (nI 1) = nI 1) := by decide +kernel
theorem y2 : ∀ v, v < 256 → ∀ j, j < 4 → ixE ((nI v).toInt8.toInt32) (nI (j * 2)) (nI 2) = ixE (nI v) (nI (j * 2)) (nI 2) ∧ ixE (nI v) (nI (j * 2)) (nI 2) = nI (v / 4 ^ (3 - j) % 4) := by decide +kernel
theorem y4 : ∀ v, v < 256 → ∀ j, j < 2 → ixE ((nI v).toInt8.toInt32) (nI (j * 4)) (nI 4) = ixE (nI v) (nI (j * 4)) (nI 4) ∧ ixE (nI v) (nI (j * 4)) (nI 4) = nI (v / 16 ^ (1 - j) % 16) := by decide +kernel
theorem y8 : ∀ v, v < 256 → ixE ((nI v).toInt8.toInt32) (nI 0) (nI 8) = ixE (nI v) (nI 0) (nI 8) ∧ ixE (nI v) (nI 0) (nI 8) = nI v := by decide +kernel
theorem ix_sg {v j b : Nat} (hv : v < 256) (hb : okP b) (hj : j < 8 / b) : ixE (b8 (nI v)) (nI (j * b)) (nI b) = ixE (nI v) (nI (j * b)) (nI b) := by
  rw [b8_eq]
  rcases hb with rfl | rfl | rfl | rfl
  · exact (y1 v hv j hj).1
  · exact (y2 v hv j hj).1
  · exact (y4 v hv j hj).1
  · have : j = 0 := by omega
    subst this; exact (y8 v hv).1
theorem per_ok {b : Nat} (hb : okP b) : (8 : Int32) / nI b = nI (8 / b) ∧ 1 ≤ 8 / b ∧ 8 / b * b = 8 ∧ 8 / b ≤ 8 ∧ b ≤ 8 ∧ 1 ≤ b := by
  rcases hb with rfl | rfl | rfl | rfl <;> decide
/-- a byte's part of a pixel, at its plane -/
def pt (L : Int32) (b x i : Nat) : Int32 := ixE L (nI (x % (8 / b) * b)) (nI b) <<< ((nI i * nI b) &&& 31)
/-- the byte of a plane where a pixel lies -/
def xc (b x : Nat) : Nat := x / (8 / b)
/-- a pixel's index after k bytes of the line -/
def acc (li : A) (b st x k : Nat) : Nat → Int32
  | 0 => 0
  | p + 1 => if p * st + xc b x < k then acc li b st x k p ||| pt (li (4096 * p + xc b x)) b x p else acc li b st x k p
theorem acc_0 (li : A) (b st x : Nat) : ∀ p, acc li b st x 0 p = 0
  | 0 => rfl
  | p + 1 => by
    show (if _ < 0 then _ else acc li b st x 0 p) = 0
    rw [if_neg (Nat.not_lt_zero _), acc_0 li b st x p]
theorem acc_low {li : A} {b st x k k2 : Nat} : ∀ {p : Nat}, (∀ i, i < p → (i * st + xc b x < k ↔ i * st + xc b x < k2)) → acc li b st x k p = acc li b st x k2 p
  | 0, _ => rfl
  | p + 1, h => by
    have ih := acc_low (li := li) (b := b) (st := st) (x := x) (k := k) (k2 := k2) (p := p) (fun i hi => h i (by omega))
    have hp := h p (by omega)
    show (if _ then _ else _) = (if _ then _ else _)
    rw [ih]
    by_cases c : p * st + xc b x < k
    · rw [if_pos c, if_pos (hp.mp c)]
    · rw [if_neg c, if_neg (fun e => c (hp.mpr e))]
theorem acc_li {li l2 : A} {b st x k : Nat} : ∀ {p : Nat}, (∀ i, i < p → i * st + xc b x < k → li (4096 * i + xc b x) = l2 (4096 * i + xc b x)) → acc li b st x k p = acc l2 b st x k p
  | 0, _ => rfl
  | p + 1, h => by
    have ih := acc_li (li := li) (l2 := l2) (b := b) (st := st) (x := x) (k := k) (p := p) (fun i hi => h i (by omega))
    show (if _ then _ else _) = (if _ then _ else _)
    rw [ih]
    by_cases c : p * st + xc b x < k
    · rw [if_pos c, if_pos c, h p (by omega) c]
    · rw [if_neg c, if_neg c]
theorem acc_top {li : A} {b st x k : Nat} : ∀ {p q : Nat}, (∀ i, q ≤ i → i < p → ¬ i * st + xc b x < k) → q ≤ p → acc li b st x k p = acc li b st x k q
  | 0, q, _, hq => by have : q = 0 := by omega
                      subst this; rfl
  | p + 1, q, h, hq => by
    by_cases c : q = p + 1
    · subst c; rfl
    · show (if _ then _ else _) = _
      rw [if_neg (h p (by omega) (by omega))]
      exact acc_top (fun i h1 h2 => h i h1 (by omega)) (by omega)
/-- one byte more -/
theorem acc_s {li : A} {b st x q r pl : Nat} {v : Int32} (hx : xc b x < st) (hx2 : xc b x < 4096) (hk : q < pl) (hr : r < st) (hc : r < 4096) :
    acc (upd li (4096 * q + r) v) b st x (q * st + r + 1) pl = if xc b x = r then acc li b st x (q * st + r) pl ||| pt v b x q else acc li b st x (q * st + r) pl := by
  have ord : ∀ i, i < q → i * st + st ≤ q * st := by
    intro i hi
    have : (i + 1) * st ≤ q * st := Nat.mul_le_mul_right st hi
    rw [Nat.succ_mul] at this; omega
  have ord2 : ∀ i, q < i → q * st + st ≤ i * st := by
    intro i hi
    have : (q + 1) * st ≤ i * st := Nat.mul_le_mul_right st hi
    rw [Nat.succ_mul] at this; omega
  by_cases c : xc b x = r
  · rw [if_pos c]
    rw [acc_top (p := pl) (q := q + 1) (fun i h1 _ => by have := ord2 i (by omega); omega) (by omega)]
    rw [acc_top (li := li) (p := pl) (q := q) (fun i h1 _ => by
      by_cases e : i = q
      · rw [e]; omega
      · have := ord2 i (by omega); omega) (by omega)]
    show (if q * st + xc b x < q * st + r + 1 then acc (upd li (4096 * q + r) v) b st x (q * st + r + 1) q ||| pt (upd li (4096 * q + r) v (4096 * q + xc b x)) b x q else _) = _
    rw [if_pos (by omega)]
    rw [acc_li (l2 := li) (fun i hi _ => pk_un (by omega)), acc_low (k2 := q * st + r) (fun i hi => by have := ord i hi; omega), c, pk_us]
  · rw [if_neg c]
    rw [acc_li (l2 := li) (fun i _ _ => pk_un (by omega)), acc_low (k2 := q * st + r) (fun i hi => by
      rcases Nat.lt_trichotomy i q with e | e | e
      · have := ord i e; omega
      · rw [e]; omega
      · have := ord2 i e; omega)]
/-- what a byte adds to its pixels, the first j of them -/
def aB (px : A) (y W c j : Nat) (b i : Nat) (v : Int32) : A := fun q => if y * W + c * (8 / b) ≤ q ∧ q < y * W + c * (8 / b) + j ∧ q < y * W + W then px q ||| pt v b (q - y * W) i else px q
theorem aB_0 (px : A) (y W c b i : Nat) (v : Int32) : aB px y W c 0 b i v = px := by
  funext q; unfold aB; rw [if_neg (by omega)]
theorem add_eq {W H y c i b v : Nat} (hb : okP b) (hv : v < 256) (hy : y < H) (hW : W ≤ 4096) (hT : W * H ≤ 4096) (hc : c < 65536) (hi : i < 4) (px : A) (f1 f2 f3 ver pl st : Int32) (col : A) : F_X4_addBits (nI y) (nI i) (nI c) (nI v) (nI W, nI H, px) (f1, f2, f3, ver, nI b, nI (8 / b), pl, st, col) = fok () (nI W, nI H, aB px y W c (8 / b) b i (nI v)) := by
  obtain ⟨_, p1, p2, p3, p4, p5⟩ := per_ok hb
  have hrow := yx_lt (W := W) hy
  have hcp : c * (8 / b) ≤ 65536 * 8 := Nat.mul_le_mul (by omega) (by omega)
  unfold F_X4_addBits
  dsimp only [px_per, px_bits]
  rw [pk_mul]
  have q := lp_M (z := fun _ _ _ _ _ _ => fno) (f := F_X4_addBits_18 (f1, f2, f3, ver, nI b, nI (8 / b), pl, st, col)) (fun m k => ∀ (j : Nat) (s : Int32), j + m = 8 / b → (s = nI (8 - b - j * b) ∧ j * b + b ≤ 8 ∨ s < 0 ∧ j = 8 / b) → k (nI y) (nI i) (nI v) (nI (c * (8 / b) + j)) s (nI W, nI H, aB px y W c j b i (nI v)) = fok () (nI W, nI H, aB px y W c (8 / b) b i (nI v))) ?_ (8 / b) (by omega)
  · have r := q 0 (nI (8 - b)) (by omega) (Or.inl ⟨by rw [Nat.zero_mul]; rfl, by omega⟩)
    rw [aB_0] at r
    rw [show (8 : Int32) = nI 8 from rfl, pk_sub p4]
    exact r
  · intro m k ih j s hj hs
    unfold F_X4_addBits_18
    dsimp only [x_w, px_bits]
    rcases hs with ⟨rfl, hs⟩ | ⟨hs, rfl⟩
    · rw [if_neg (nI_pos (by omega))]
      by_cases cx : W ≤ c * (8 / b) + j
      · rw [if_pos (nI_le cx (by omega))]
        rw [show aB px y W c j b i (nI v) = aB px y W c (8 / b) b i (nI v) from by
          funext q
          unfold aB
          by_cases c1 : y * W + c * (8 / b) ≤ q ∧ q < y * W + c * (8 / b) + 8 / b ∧ q < y * W + W
          · rw [if_pos c1, if_pos (by omega)]
          · rw [if_neg c1, if_neg (by omega)]]
      · have hjp : j < 8 / b := by
          rcases Nat.lt_or_ge j (8 / b) with h | h
          · exact h
          · have := Nat.mul_le_mul_right b h; omega
        rw [if_neg (nI_ge (by omega) (by omega)), pk_mul, nI_add, ut_get (by omega), fon_fok, ut_set (by omega), fon_fok, nI_1]
        dsimp only [x_w, x_g, x_p]
        have hmod : (c * (8 / b) + j) % (8 / b) = j := by rw [Nat.mul_comm, Nat.mul_add_mod, Nat.mod_eq_of_lt hjp]
        have ept : ((nI v >>> (nI (8 - b - j * b) &&& 31)) &&& ((1 <<< (nI b &&& 31)) - 1)) <<< ((nI i * nI b) &&& 31) = pt (nI v) b (c * (8 / b) + j) i := by
          unfold pt ixE
          rw [hmod, show (8 : Int32) = nI 8 from rfl, pk_sub p4, pk_sub (by omega)]
        have estep : upd (aB px y W c j b i (nI v)) (y * W + (c * (8 / b) + j)) (aB px y W c j b i (nI v) (y * W + (c * (8 / b) + j)) ||| ((nI v >>> (nI (8 - b - j * b) &&& 31)) &&& ((1 <<< (nI b &&& 31)) - 1)) <<< ((nI i * nI b) &&& 31)) = aB px y W c (j + 1) b i (nI v) := by
          rw [ept]
          funext q
          unfold upd aB
          by_cases e : q = y * W + (c * (8 / b) + j)
          · rw [if_pos e, if_neg (by omega), if_pos (by omega), e]
            rw [show y * W + (c * (8 / b) + j) - y * W = c * (8 / b) + j from by omega]
          · rw [if_neg e]
            by_cases c1 : y * W + c * (8 / b) ≤ q ∧ q < y * W + c * (8 / b) + j ∧ q < y * W + W
            · rw [if_pos c1, if_pos (by omega)]
            · rw [if_neg c1, if_neg (by omega)]
        rw [estep, show c * (8 / b) + j + 1 = c * (8 / b) + (j + 1) from by omega]
        refine ih (m - 1) (by omega) (j + 1) _ (by omega) ?_
        by_cases cl : (j + 1) * b + b ≤ 8
        · refine Or.inl ⟨?_, cl⟩
          rw [pk_sub (by rw [Nat.succ_mul] at cl; omega), Nat.succ_mul]
          congr 1
          omega
        · refine Or.inr ⟨?_, ?_⟩
          · rw [Nat.succ_mul] at cl
            refine pk_sneg (by omega) ?_
            omega
          · rcases Nat.lt_or_ge (j + 1) (8 / b) with h | h
            · have := Nat.mul_le_mul_right b (show j + 2 ≤ 8 / b by omega)
              rw [Nat.succ_mul, Nat.succ_mul] at this
              rw [Nat.succ_mul] at cl
              omega
            · omega
    · rw [if_pos hs]
