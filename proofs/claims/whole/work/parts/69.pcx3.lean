def okBP (b pl : Nat) : Prop := (b = 1 ∧ 1 ≤ pl ∧ pl ≤ 4) ∨ ((b = 2 ∨ b = 4) ∧ pl = 1) ∨ (b = 8 ∧ (pl = 1 ∨ pl = 3))
theorem okBP_P {b pl : Nat} (h : okBP b pl) : okP b := by unfold okBP at h; unfold okP; omega
theorem okBP_4 {b pl : Nat} (h : okBP b pl) : 1 ≤ pl ∧ pl ≤ 4 := by unfold okBP at h; omega
theorem ix_d {b : Nat} (hb : okP b) (L s : Int32) : ∃ d, d < 2 ^ b ∧ ixE L s (nI b) = nI d := by
  unfold ixE
  generalize L >>> (((8 - nI b) - s) &&& 31) = y
  rw [← nI_tn y, pk_andN (BitVec.isLt _) b (by rcases hb with rfl | rfl | rfl | rfl <;> decide)]
  exact ⟨_, Nat.mod_lt _ (Nat.two_pow_pos b), rfl⟩
theorem sh_pb : ∀ p, p < 4 → ∀ b, b < 9 → b * p < 32 → (((nI p * nI b) &&& 31).toBitVec.smod 32).toNat = b * p := by decide +kernel
theorem acc_N {li : A} {b st x k : Nat} (hb : okP b) : ∀ p, p ≤ 4 → b * p ≤ 24 → ∃ j, j < 2 ^ (b * p) ∧ acc li b st x k p = nI j
  | 0, _, _ => ⟨0, Nat.two_pow_pos _, rfl⟩
  | p + 1, hp, hbp => by
    have hb9 := (per_ok hb).2.2.2.2
    rw [Nat.mul_succ] at hbp
    obtain ⟨j, hj, e⟩ := acc_N (li := li) (st := st) (x := x) (k := k) hb p (by omega) (by omega)
    have e2 : 2 ^ (b * (p + 1)) = 2 ^ (b * p) * 2 ^ b := by rw [Nat.mul_succ, Nat.pow_add]
    have hpos := Nat.two_pow_pos b
    have h24 : 2 ^ (b * p) * 2 ^ b ≤ 2 ^ 24 := by rw [← Nat.pow_add]; exact Nat.pow_le_pow_right (by decide) hbp
    show ∃ j, j < 2 ^ (b * (p + 1)) ∧ (if p * st + xc b x < k then acc li b st x k p ||| pt (li (4096 * p + xc b x)) b x p else acc li b st x k p) = nI j
    rw [e, e2]
    by_cases c : p * st + xc b x < k
    · rw [if_pos c]
      unfold pt
      obtain ⟨d, hd, e3⟩ := ix_d hb (li (4096 * p + xc b x)) (nI (x % (8 / b) * b))
      have hm : (d + 1) * 2 ^ (b * p) ≤ 2 ^ b * 2 ^ (b * p) := Nat.mul_le_mul_right _ hd
      rw [Nat.succ_mul, Nat.mul_comm (2 ^ b)] at hm
      rw [e3, pk_shlN _ (b * p) (sh_pb p (by omega) b (by omega) (by omega)) (by omega), Int32.or_comm, orN hj (by omega)]
      exact ⟨_, by omega, rfl⟩
    · rw [if_neg c]
      have : 2 ^ (b * p) * 1 ≤ 2 ^ (b * p) * 2 ^ b := Nat.mul_le_mul_left _ hpos
      exact ⟨j, by omega, rfl⟩
theorem okBP_24 {b pl : Nat} (h : okBP b pl) : b * pl ≤ 24 := by
  rcases h with ⟨rfl, h⟩ | ⟨rfl | rfl, rfl⟩ | ⟨rfl, rfl | rfl⟩ <;> omega
/-- what the reference makes of an index -/
def gV (b pl : Nat) (ta : A) (a : Nat) : Int32 := if b = 8 then (if pl = 1 then nI a else F_X11_mix (nI (a % 256)) (nI (a / 256 % 256)) (nI (a / 65536 % 256)) 255) else (if b = 1 ∧ pl = 1 then (if a = 0 then 255 else -1) else ta a)
/-- what the class makes of an index -/
def cV (b pl : Nat) (col : A) (a : Nat) : Int32 := if b = 8 ∧ pl = 3 then F_X11_mix (nI (a % 256)) (nI (a / 256 % 256)) (nI (a / 65536 % 256)) 255 else (if b = 1 ∧ pl = 1 then (if a = 0 then 255 else -1) else col (a % 256))
theorem pt8 (L : Int32) (x i : Nat) : pt L 8 x i = nI (ch L 0) <<< ((nI i * nI 8) &&& 31) := by
  unfold pt ixE
  rw [show 8 / 8 = 1 from rfl, Nat.mod_one, show (((8 : Int32) - nI 8 - nI (0 * 8)) &&& 31) = 0 from by decide, show ((1 : Int32) <<< (nI 8 &&& 31)) - 1 = 255 from by decide, Int32.shiftRight_zero, and_ch]
theorem step187 {n p W H y b st pl x : Nat} (sb ta gt li : A) (h : okBP b pl) (hy : y < H) (hx : x < W) (hW : W ≤ 4096) (hT : W * H ≤ 4096) (hl : leastP W b ≤ st) (one two three : Int32) (k187 : Int32 → Int32 → Int32 → Int32 → MR → A → A → Out (MR × A × A) Int32) :
    ∃ a, a < 2 ^ (b * pl) ∧ acc li b st x (pl * st) pl = nI a ∧ F_X11_readLine_187 sb ta k187 (nI y) (nI b) (nI pl) (nI x) (Mr n p (nI W) (nI H) one two three) gt li = k187 (nI y) (nI b) (nI pl) (nI (x + 1)) (Mr n p (nI W) (nI H) one two three) (upd gt (y * W + x) (gV b pl ta a)) li := by
  have hb := okBP_P h
  have h4 := okBP_4 h
  have hc := xc_lt hb hx
  have hle := least_le hb hW
  have hi := idx_lt hx hy
  have hin : ∀ i, i < pl → i * st + xc b x < pl * st := fun i hi => by
    have := Nat.mul_le_mul_right st hi
    rw [Nat.succ_mul] at this; omega
  unfold F_X11_readLine_187
  dsimp only [mr_gw]
  rw [if_neg (nI_ge hx (by omega)), pk_mul, nI_add, Nat.mul_comm W]
  by_cases c8 : b = 8
  · subst c8
    have hxc : xc 8 x = x := Nat.div_one x
    rw [hxc] at hin hc
    rw [if_pos (c := nI 8 = 8) rfl]
    unfold F_X11_readLine_285 F_X11_readLine_401
    by_cases c1 : pl = 1
    · subst c1
      rw [if_pos (c := nI 1 = 1) rfl, if_pos (inb_nI (by omega) (by omega)), if_pos (inb_nI (by omega) (by omega)), nI_clamp (by omega), nI_clamp (by omega), nI_1, and_ch]
      refine ⟨ch (li x) 0, ch_lt _ _, ?_, ?_⟩
      · show (if 0 * st + xc 8 x < 1 * st then (0 : Int32) ||| pt (li (4096 * 0 + xc 8 x)) 8 x 0 else 0) = _
        rw [hxc, if_pos (hin 0 (by omega)), pt8, show 4096 * 0 + x = x from by omega, pk_shlN _ 0 (by decide) (by have := ch_lt (li x) 0; omega), Int32.zero_or, Nat.pow_zero, Nat.mul_one]
      · unfold gV
        rw [if_pos rfl, if_pos rfl]
    · have c3 : pl = 3 := by unfold okBP at h; omega
      subst c3
      rw [if_neg (c := nI 3 = 1) (by decide), show (4096 : Int32) + nI x = nI (4096 + x) from nI_add 4096 x, show (8192 : Int32) + nI x = nI (8192 + x) from nI_add 8192 x, if_pos (inb_nI (by omega) (by omega)), if_pos (inb_nI (by omega) (by omega)), if_pos (inb_nI (by omega) (by omega)), if_pos (inb_nI (by omega) (by omega)), nI_clamp (by omega), nI_clamp (by omega), nI_clamp (by omega), nI_clamp (by omega), nI_1, and_ch, and_ch, and_ch]
      have h0 := ch_lt (li x) 0; have h1 := ch_lt (li (4096 + x)) 0; have h2 := ch_lt (li (8192 + x)) 0
      refine ⟨ch (li (8192 + x)) 0 * 2 ^ 16 + (ch (li (4096 + x)) 0 * 2 ^ 8 + ch (li x) 0), by omega, ?_, ?_⟩
      · show (if 2 * st + xc 8 x < 3 * st then (if 1 * st + xc 8 x < 3 * st then (if 0 * st + xc 8 x < 3 * st then (0 : Int32) ||| pt (li (4096 * 0 + xc 8 x)) 8 x 0 else 0) ||| pt (li (4096 * 1 + xc 8 x)) 8 x 1 else _) ||| pt (li (4096 * 2 + xc 8 x)) 8 x 2 else _) = _
        rw [hxc, if_pos (hin 2 (by omega)), if_pos (hin 1 (by omega)), if_pos (hin 0 (by omega)), pt8, pt8, pt8, show 4096 * 0 + x = x from by omega, show 4096 * 1 + x = 4096 + x from by omega, show 4096 * 2 + x = 8192 + x from by omega]
        generalize ch (li x) 0 = a0 at *
        generalize ch (li (4096 + x)) 0 = a1 at *
        generalize ch (li (8192 + x)) 0 = a2 at *
        rw [pk_shlN _ 0 (by decide) (by omega), pk_shlN _ 8 (by decide) (by omega), pk_shlN _ 16 (by decide) (by omega), Int32.zero_or, Nat.pow_zero, Nat.mul_one, Int32.or_comm (nI a0), orN (by omega) (by omega), Int32.or_comm, orN (by omega) (by omega)]
      · unfold gV
        rw [if_pos rfl, if_neg (by decide)]
        generalize ch (li x) 0 = a0 at *
        generalize ch (li (4096 + x)) 0 = a1 at *
        generalize ch (li (8192 + x)) 0 = a2 at *
        rw [show (a2 * 2 ^ 16 + (a1 * 2 ^ 8 + a0)) % 256 = a0 from by omega, show (a2 * 2 ^ 16 + (a1 * 2 ^ 8 + a0)) / 256 % 256 = a1 from by omega, show (a2 * 2 ^ 16 + (a1 * 2 ^ 8 + a0)) / 65536 % 256 = a2 from by omega]
  · obtain ⟨a, ha, ea⟩ := acc_N (li := li) (st := st) (x := x) (k := pl * st) hb pl h4.2 (okBP_24 h)
    have hb8 := (per_ok hb).2.2.2.2
    have hper := (per_ok hb).2.1
    have hper8 := (per_ok hb).2.2.2.1
    refine ⟨a, ha, ea, ?_⟩
    rw [if_neg (c := nI b = 8) (fun e => c8 ((nI_inj (b := 8) (by omega) (by omega)).mp e)), if_pos (c := ¬ nI b = 0) (nI_ne0 (by omega) (by omega)), (per_ok hb).1]
    have hdx : nI x / nI (8 / b) = nI (xc b x) := pk_div (by omega) (by omega) (by omega)
    have hmx : nI x - nI (xc b x) * nI (8 / b) = nI (x % (8 / b)) := by
      have hdm := Nat.div_add_mod x (8 / b)
      unfold xc
      rw [pk_mul, Nat.mul_comm, pk_sub (by generalize 8 / b * (x / (8 / b)) = u at *; generalize x % (8 / b) = v at *; omega)]
      congr 1
      generalize 8 / b * (x / (8 / b)) = u at *
      generalize x % (8 / b) = v at *
      omega
    have q := lp_M (z := fun _ _ _ _ _ _ _ _ _ _ _ => fno) (f := F_X11_readLine_301 sb ta k187) (fun m f => ∀ i, i + m = pl → f (nI y) (nI b) (nI pl) (nI x) (nI (y * W + x)) (nI (8 / b)) (acc li b st x (pl * st) i) (nI i) (Mr n p (nI W) (nI H) one two three) gt li = k187 (nI y) (nI b) (nI pl) (nI (x + 1)) (Mr n p (nI W) (nI H) one two three) (upd gt (y * W + x) (gV b pl ta a)) li) ?_ pl (by omega)
    · exact q 0 (by omega)
    · intro m f ih i hi2
      unfold F_X11_readLine_301
      by_cases c0 : m = 0
      · have : i = pl := by omega
        subst this
        rw [if_pos (Int32.le_refl _), ea]
        unfold F_X11_readLine_387 F_X11_readLine_393 F_X11_readLine_400 F_X11_readLine_401
        have hgv : ∀ (u : Int32), gV b i ta a = u → (if inb (nI (y * W + x)) 4096 then k187 (nI y) (nI b) (nI i) (nI x + 1) (Mr n p (nI W) (nI H) one two three) (upd gt (Int32.toNatClampNeg (nI (y * W + x))) u) li else fno) = k187 (nI y) (nI b) (nI i) (nI (x + 1)) (Mr n p (nI W) (nI H) one two three) (upd gt (y * W + x) (gV b i ta a)) li := by
          intro u hu
          rw [if_pos (inb_nI (by omega) (by omega)), nI_clamp (by omega), nI_1, hu]
        have ht : ¬ (b = 1 ∧ i = 1) → (if inb (nI a) 65536 then (if inb (nI (y * W + x)) 4096 then k187 (nI y) (nI b) (nI i) (nI x + 1) (Mr n p (nI W) (nI H) one two three) (upd gt (Int32.toNatClampNeg (nI (y * W + x))) (ta (Int32.toNatClampNeg (nI a)))) li else fno) else fno) = k187 (nI y) (nI b) (nI i) (nI (x + 1)) (Mr n p (nI W) (nI H) one two three) (upd gt (y * W + x) (gV b i ta a)) li := by
          intro hn
          have ha16 : a < 65536 := by
            have : 2 ^ (b * i) ≤ 2 ^ 16 := Nat.pow_le_pow_right (by decide) (by
              rcases h with ⟨rfl, h⟩ | ⟨rfl | rfl, rfl⟩ | ⟨rfl, _⟩ <;> omega)
            omega
          rw [if_pos (inb_nI ha16 (by omega)), nI_clamp (n := a) (by omega)]
          exact hgv _ (by unfold gV; rw [if_neg c8, if_neg hn])
        by_cases c1 : b = 1
        · rw [if_pos (c := nI b = 1) (by rw [c1]; rfl)]
          by_cases c2 : i = 1
          · rw [if_pos (c := nI i = 1) (by rw [c2]; rfl)]
            by_cases c3 : a = 0
            · rw [if_pos (c := nI a = 0) (by rw [c3]; rfl)]
              exact hgv _ (by unfold gV; rw [if_neg c8, if_pos ⟨c1, c2⟩, if_pos c3]; decide)
            · rw [if_neg (c := nI a = 0) (nI_ne0 (by omega) (by rw [c1, c2] at ha; omega))]
              exact hgv _ (by unfold gV; rw [if_neg c8, if_pos ⟨c1, c2⟩, if_neg c3]; decide)
          · rw [if_neg (c := nI i = 1) (fun e => c2 ((nI_inj (b := 1) (by omega) (by omega)).mp e))]
            exact ht (fun e => c2 e.2)
        · rw [if_neg (c := nI b = 1) (fun e => c1 ((nI_inj (b := 1) (by omega) (by omega)).mp e))]
          exact ht (fun e => c1 e.1)
      · have hp0 : ¬ nI (8 / b) = 0 := nI_ne0 (by omega) (by omega)
        rw [if_neg (nI_ge (by omega) (by omega)), if_pos hp0, if_pos hp0, hdx, hmx, ix_dd, if_pos (inb_nI (by omega) (by omega)), nI_clamp (by omega), nI_1, pk_mul]
        have r := ih (m - 1) (by omega) (i + 1) (by omega)
        have e : acc li b st x (pl * st) (i + 1) = acc li b st x (pl * st) i ||| pt (li (4096 * i + xc b x)) b x i := by
          show (if _ then _ else _) = _
          rw [if_pos (hin i (by omega))]
        rw [e] at r
        unfold pt ixE at r
        rw [Int32.mul_comm (nI i)] at r
        exact r
theorem conv_pcx {n p W H y b st pl : Nat} (sb ta gt li : A) (h : okBP b pl) (hy : y < H) (hW : W ≤ 4096) (hT : W * H ≤ 4096) (hl : leastP W b ≤ st) (one two three : Int32) :
    ∃ gt2, lp (fun _ _ _ _ _ _ _ => fno) (F_X11_readLine_187 sb ta) FU (nI y) (nI b) (nI pl) 0 (Mr n p (nI W) (nI H) one two three) gt li = fok 1 (Mr n p (nI W) (nI H) one two three, gt2, li) ∧ (∀ x, x < W → ∃ a, a < 2 ^ (b * pl) ∧ acc li b st x (pl * st) pl = nI a ∧ gt2 (y * W + x) = gV b pl ta a) ∧ ∀ j, j < y * W → gt2 j = gt j := by
  have q := lp_M (z := fun _ _ _ _ _ _ _ => fno) (f := F_X11_readLine_187 sb ta) (fun m f => ∀ (x : Nat) (g : A), x + m = W → (∀ x2, x2 < x → ∃ a, a < 2 ^ (b * pl) ∧ acc li b st x2 (pl * st) pl = nI a ∧ g (y * W + x2) = gV b pl ta a) → (∀ j, j < y * W → g j = gt j) → ∃ gt2, f (nI y) (nI b) (nI pl) (nI x) (Mr n p (nI W) (nI H) one two three) g li = fok 1 (Mr n p (nI W) (nI H) one two three, gt2, li) ∧ (∀ x, x < W → ∃ a, a < 2 ^ (b * pl) ∧ acc li b st x (pl * st) pl = nI a ∧ gt2 (y * W + x) = gV b pl ta a) ∧ ∀ j, j < y * W → gt2 j = gt j) ?_ W (by omega)
  · exact q 0 gt (by omega) (fun x hx => absurd hx (by omega)) (fun _ _ => rfl)
  · intro m f ih x g hxm hx hj
    by_cases c0 : m = 0
    · have : x = W := by omega
      subst this
      unfold F_X11_readLine_187
      dsimp only [mr_gw]
      rw [if_pos (Int32.le_refl _)]
      exact ⟨g, rfl, hx, hj⟩
    · obtain ⟨a, ha, e1, e2⟩ := step187 (n := n) (p := p) (x := x) sb ta g li h hy (by omega) hW hT hl one two three f
      rw [e2]
      refine ih (m - 1) (by omega) (x + 1) _ (by omega) (fun x2 hx2 => ?_) (fun j hj2 => ?_)
      · by_cases c : x2 = x
        · subst c
          exact ⟨a, ha, e1, pk_us⟩
        · obtain ⟨a2, u1, u2, u3⟩ := hx x2 (by omega)
          exact ⟨a2, u1, u2, by rw [pk_un (by omega), u3]⟩
      · rw [pk_un (by omega), hj j hj2]
theorem col_pcx {W H b pl : Nat} (h : okBP b pl) (hT : W * H ≤ 4096) (px gt col : A) (f1 f2 f3 ver per st : Int32) (hg : ∀ j, j < W * H → ∃ a, a < 2 ^ (b * pl) ∧ px j = nI a ∧ gt j = cV b pl col a) :
    ∃ px2, F_X4_colour (nI W, nI H, px) (f1, f2, f3, ver, nI b, per, nI pl, st, col) = fok () (nI W, nI H, px2) ∧ ∀ j, j < W * H → px2 j = gt j := by
  have hb8 := (per_ok (okBP_P h)).2.2.2.2
  have h4 := okBP_4 h
  unfold F_X4_colour
  rw [ut_count rfl rfl, fon_fok]
  have q := lp_M (z := fun _ _ _ => fno) (f := F_X4_colour_7 (f1, f2, f3, ver, nI b, per, nI pl, st, col)) (fun m f => ∀ (j : Nat) (g : A), j + m = W * H → (∀ i, i < j → g i = gt i) → (∀ i, j ≤ i → g i = px i) → ∃ px2, f (nI (W * H)) (nI j) (nI W, nI H, g) = fok () (nI W, nI H, px2) ∧ ∀ j, j < W * H → px2 j = gt j) ?_ (W * H) (by omega)
  · exact q 0 px (by omega) (fun i hi => absurd hi (by omega)) (fun _ _ => rfl)
  · intro m f ih j g hj h1 h2
    unfold F_X4_colour_7
    by_cases c0 : m = 0
    · have : j = W * H := by omega
      subst this
      rw [if_pos (Int32.le_refl _)]
      exact ⟨g, rfl, h1⟩
    obtain ⟨a, ha, e1, e2⟩ := hg j (by omega)
    have ha24 : a < 2 ^ 24 := by
      have : 2 ^ (b * pl) ≤ 2 ^ 24 := Nat.pow_le_pow_right (by decide) (okBP_24 h)
      omega
    have fin : ∀ u, u = gt j → ∃ px2, f (nI (W * H)) (nI (j + 1)) (nI W, nI H, upd g j u) = fok () (nI W, nI H, px2) ∧ ∀ j, j < W * H → px2 j = gt j := by
      intro u hu
      refine ih (m - 1) (by omega) (j + 1) _ (by omega) (fun i hi => ?_) (fun i hi => ?_)
      · by_cases c : i = j
        · rw [c, pk_us, hu]
        · rw [pk_un c, h1 i (by omega)]
      · rw [pk_un (by omega), h2 i (by omega)]
    rw [if_neg (nI_ge (by omega) (by omega)), ut_get (by omega), fon_fok]
    dsimp only [x_p, px_bits, px_planes]
    rw [h2 j (by omega), e1]
    unfold F_X4_colour_74 F_X4_colour_104 F_X4_colour_110 F_X4_colour_126
    dsimp only [px_bits, px_planes, px_col]
    simp only [ut_set (show j < 4096 by omega), fon_fok, nI_1]
    dsimp only [x_w, x_g, x_p]
    have r8 : nI b = 8 ↔ b = 8 := nI_inj (b := 8) (by omega) (by omega)
    have r1 : nI b = 1 ↔ b = 1 := nI_inj (b := 1) (by omega) (by omega)
    have s3 : nI pl = 3 ↔ pl = 3 := nI_inj (b := 3) (by omega) (by omega)
    have s1 : nI pl = 1 ↔ pl = 1 := nI_inj (b := 1) (by omega) (by omega)
    have s0 : nI a = 0 ↔ a = 0 := nI_inj (b := 0) (by omega) (by omega)
    have ea : nI a &&& 255 = nI (a % 256) := pk_andN (by omega) 8 rfl
    have ea2 : nI a >>> ((8 : Int32) &&& 31) &&& 255 = nI (a / 256 % 256) := by
      rw [pk_shrN (by omega) _ 8 (by decide), pk_andN (by omega) 8 rfl]
    have ea3 : nI a >>> ((16 : Int32) &&& 31) &&& 255 = nI (a / 65536 % 256) := by
      rw [pk_shrN (by omega) _ 16 (by decide), pk_andN (by omega) 8 rfl]
    have hin : inb (nI (a % 256)) 256 := inb_nI (Nat.mod_lt _ (by decide)) (by decide)
    rw [ea, ea2, ea3, if_pos hin, nI_clamp (by omega)]
    simp only [r8, r1, s3, s1, s0]
    unfold cV at e2
    by_cases c1 : b = 8
    · rw [if_pos c1]
      by_cases c2 : pl = 3
      · rw [if_pos c2]
        exact fin _ (by rw [e2, if_pos ⟨c1, c2⟩]; rfl)
      · rw [if_neg c2, if_neg (show ¬ b = 1 by omega)]
        exact fin _ (by rw [e2, if_neg (fun e => c2 e.2), if_neg (fun e => by omega)])
    · rw [if_neg c1]
      by_cases c2 : b = 1
      · rw [if_pos c2]
        by_cases c3 : pl = 1
        · rw [if_pos c3]
          by_cases c4 : a = 0
          · rw [if_pos c4]
            exact fin _ (by rw [e2, if_neg (fun e => c1 e.1), if_pos ⟨c2, c3⟩, if_pos c4])
          · rw [if_neg c4]
            exact fin _ (by rw [e2, if_neg (fun e => c1 e.1), if_pos ⟨c2, c3⟩, if_neg c4])
        · rw [if_neg c3]
          exact fin _ (by rw [e2, if_neg (fun e => c1 e.1), if_neg (fun e => c3 e.2)])
      · rw [if_neg c2]
        exact fin _ (by rw [e2, if_neg (fun e => c1 e.1), if_neg (fun e => c2 e.1)])
/-- the colour of three bytes -/
def tri (sb : A) (p : Nat) : Int32 := F_X11_mix (nI (bt sb p)) (nI (bt sb (p + 1))) (nI (bt sb (p + 2))) 255
theorem cols_c {n p N : Nat} (sb : A) (hp : p ≤ n) (hn : n ≤ 65536) (hN : N ≤ 256) (f1 f2 f3 ver b per pl st : Int32) (col : A) :
    (p + 3 * N ≤ n → ∃ col2, F_X4_readColours (nI N) (Sr n p) sb (f1, f2, f3, ver, b, per, pl, st, col) = fok () (Sr n (p + 3 * N), (f1, f2, f3, ver, b, per, pl, st, col2)) ∧ ∀ k, k < N → col2 k = tri sb (p + 3 * k)) ∧
    (n < p + 3 * N → ∃ col2, F_X4_readColours (nI N) (Sr n p) sb (f1, f2, f3, ver, b, per, pl, st, col) = fex ISE ((nI n, nI n, 1, nI n), (f1, f2, f3, ver, b, per, pl, st, col2))) := by
  unfold F_X4_readColours
  have q := lp_M (z := fun _ _ _ _ => fno) (f := F_X4_readColours_2 sb) (fun m f => ∀ (j : Nat) (c : A), j + m = N → p + 3 * j ≤ n → (∀ k, k < j → c k = tri sb (p + 3 * k)) → (p + 3 * N ≤ n → ∃ col2, f (nI N) (nI j) (Sr n (p + 3 * j)) (f1, f2, f3, ver, b, per, pl, st, c) = fok () (Sr n (p + 3 * N), (f1, f2, f3, ver, b, per, pl, st, col2)) ∧ ∀ k, k < N → col2 k = tri sb (p + 3 * k)) ∧ (n < p + 3 * N → ∃ col2, f (nI N) (nI j) (Sr n (p + 3 * j)) (f1, f2, f3, ver, b, per, pl, st, c) = fex ISE ((nI n, nI n, 1, nI n), (f1, f2, f3, ver, b, per, pl, st, col2)))) ?_ N (by omega)
  · exact q 0 col (by omega) (by omega) (fun k hk => absurd hk (by omega))
  · intro m f ih j c hj hpj hc
    unfold F_X4_readColours_2
    by_cases c0 : m = 0
    · have : j = N := by omega
      subst this
      rw [if_pos (Int32.le_refl _)]
      exact ⟨fun _ => ⟨c, rfl, hc⟩, fun e => absurd e (by omega)⟩
    rw [if_neg (nI_ge (by omega) (by omega)), if_neg (c := 256 ≤ nI j) (nI_ge (b := 256) (by omega) (by omega))]
    by_cases a1 : p + 3 * j < n
    case neg =>
      rw [nx_no sb (by omega) (by omega), fon_fex, show p + 3 * j = n from by omega]
      exact ⟨fun e => absurd e (by omega), fun _ => ⟨_, rfl⟩⟩
    rw [nx_ok sb a1 hn, fon_fok]
    by_cases a2 : p + 3 * j + 1 < n
    case neg =>
      rw [nx_no sb (by omega) (by omega), fon_fex, show p + 3 * j + 1 = n from by omega]
      exact ⟨fun e => absurd e (by omega), fun _ => ⟨_, rfl⟩⟩
    rw [nx_ok sb a2 hn, fon_fok]
    by_cases a3 : p + 3 * j + 1 + 1 < n
    case neg =>
      rw [nx_no sb (by omega) (by omega), fon_fex, show p + 3 * j + 1 + 1 = n from by omega]
      exact ⟨fun e => absurd e (by omega), fun _ => ⟨_, rfl⟩⟩
    rw [nx_ok sb a3 hn, fon_fok, if_pos (inb_nI (by omega) (by omega)), nI_clamp (by omega), nI_1]
    dsimp only [px_f1, px_f2, px_f3, px_ver, px_bits, px_per, px_planes, px_step, px_col]
    rw [show p + 3 * j + 1 + 1 + 1 = p + 3 * (j + 1) from by omega]
    refine ih (m - 1) (by omega) (j + 1) _ (by omega) (by omega) (fun k hk => ?_)
    by_cases ck : k = j
    · subst ck; rw [pk_us]; rfl
    · rw [pk_un ck, hc k (by omega)]
