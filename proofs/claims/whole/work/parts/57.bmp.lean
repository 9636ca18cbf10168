/-- readers of pixels with the BMP reader's state -/
def PStepB (n T : Nat) (w g one two three : Int32) (C : Out (Ras × Src × Bmp) Unit) (R : Out (MR × A) Int32) (K : MR → A → Out (MR × A) Int32) : Prop :=
  (∃ (p : Nat) (px gt : A) (bm : Bmp), p ≤ n ∧ bm_bits bm = one ∧ bm_comp bm = two ∧ bm_used bm = three ∧ C = fok () ((w, g, px), Sr n p, bm) ∧ R = K (Mr n p w g one two three) gt ∧ ∀ i, i < T → px i = gt i) ∨
  (∃ (x : Ras) (sc : Src) (bm : Bmp) (mr : MR) (gt : A), C = fex ISE (x, sc, bm) ∧ R = fok 0 (mr, gt) ∧ Bad sc mr)
theorem pb_bad {n T : Nat} {w g one two three : Int32} {C : Out (Ras × Src × Bmp) Unit} {R : Out (MR × A) Int32} {K : MR → A → Out (MR × A) Int32} {x : Ras} {sc : Src} {bm : Bmp} {mr : MR} {gt : A} (h1 : C = fex ISE (x, sc, bm)) (h2 : R = fok 0 (mr, gt)) (h3 : Bad sc mr) : PStepB n T w g one two three C R K := Or.inr ⟨x, sc, bm, mr, gt, h1, h2, h3⟩
def ixE (B bp bits : Int32) : Int32 := (B >>> (((8 - bits) - bp) &&& 31)) &&& ((1 <<< (bits &&& 31)) - 1)
theorem ix1 : ∀ B, B < 256 → ∀ p, p < 8 → ixE (nI B) (nI p) (nI 1) = nI (B / 2 ^ (7 - p) % 2) := by decide +kernel
theorem ix4 : ∀ B, B < 256 → ixE (nI B) (nI 0) (nI 4) = nI (B / 16) ∧ ixE (nI B) (nI 4) (nI 4) = nI (B % 16) := by decide +kernel
theorem ix8 : ∀ B, B < 256 → ixE (nI B) (nI 0) (nI 8) = nI B := by decide +kernel
theorem ix_ok {B x b : Nat} (hB : B < 256) (hb : b = 1 ∨ b = 4 ∨ b = 8) : ∃ i, i < 256 ∧ ixE (nI B) (nI (x * b % 8)) (nI b) = nI i := by
  rcases hb with rfl | rfl | rfl
  · exact ⟨_, by have : B / 2 ^ (7 - x * 1 % 8) % 2 < 2 := Nat.mod_lt _ (by decide); omega, ix1 B hB _ (Nat.mod_lt _ (by decide))⟩
  · rcases (by omega : x * 4 % 8 = 0 ∨ x * 4 % 8 = 4) with e | e
    · rw [e]; exact ⟨_, by omega, (ix4 B hB).1⟩
    · rw [e]; exact ⟨_, by omega, (ix4 B hB).2⟩
  · rw [show x * 8 % 8 = 0 from by omega]; exact ⟨B, hB, ix8 B hB⟩
theorem neg3 {r : Nat} (hr : r < 2 ^ 31) : (-nI r) &&& 3 = nI ((4 - r % 4) % 4) := by
  rw [pk_and (-nI r) (m := 3) 2 rfl]
  congr 1
  rw [Int32.toBitVec_neg, BitVec.toNat_neg, pk_tn (by omega)]
  omega
theorem co_ok {n p i u : Nat} (hi : i < u) (hu : i < 256) (hu31 : u < 2 ^ 31) (w : Int32) (bm : Bmp) (h : bm_used bm = nI u) : F_X0_colourOf (nI i) w (Sr n p) bm = fok (bm_col bm i) (Sr n p) := by
  unfold F_X0_colourOf
  rw [h, if_neg (nI_pos (by omega)), if_neg (nI_ge hi (by omega)), if_pos (by (simp (disch := omega) only [nI_toInt, Int32.lt_iff_toInt_lt, Int32.le_iff_toInt_le, ← Int32.toInt_inj, Int32.reduceToInt]; omega)), if_pos (inb_nI hu (by omega)), nI_clamp (by omega)]
theorem co_no {n p i u : Nat} (hi : u ≤ i) (hu : i < 256) (w : Int32) (bm : Bmp) (h : bm_used bm = nI u) : F_X0_colourOf (nI i) w (Sr n p) bm = fex ISE (nI n, nI p, 6, w) := by
  unfold F_X0_colourOf F_X0_colourOf_19
  rw [h, if_neg (nI_pos (by omega)), if_pos (nI_le hi (by omega)), rf_eq, fon_fex]
/-- indexed rows -/
theorem b_ixrows {n W H p u b to : Nat} (sb : A) (hb : b = 1 ∨ b = 4 ∨ b = 8) (hto : to = 0 ∨ to = 1) (hp : p ≤ n) (hn : n ≤ 65536) (hW : W ≤ 4096) (hH : H ≤ 4096) (hW1 : 1 ≤ W) (hT : W * H ≤ 4096) (hu : u ≤ 256) (two f1 f2 f3 pk cl up : Int32) (col ta px gt : A) (hc : ∀ i, i < u → col i = ta i) :
    PStepB n (W * H) (nI W) (nI H) (nI b) two (nI u) (F_X0_readRows (nI W, nI H, px) (Sr n p) sb (f1, f2, f3, nI to, nI b, two, nI u, pk, cl, up, col)) (F_X11_readPlainRows (nI to) sb (Mr n p (nI W) (nI H) (nI b) two (nI u)) gt ta) KB := by
  have hWb : W * b ≤ 4096 * 8 := Nat.mul_le_mul hW (by omega)
  unfold F_X0_readRows F_X11_readPlainRows
  dsimp only [x_w, bm_bits, mr_gw, mr_one]
  have e1 : (nI W * nI b + 7) / 8 = nI ((W * b + 7) / 8) := by
    rw [pk_mul, show nI (W * b) + 7 = nI (W * b + 7) from nI_add _ 7, show (8 : Int32) = nI 8 from rfl, pk_div (by omega) (by omega) (by omega)]
  have e2 : (nI W * nI b + 31) / 32 * 4 = nI ((W * b + 31) / 32 * 4) := by
    rw [pk_mul, show nI (W * b) + 31 = nI (W * b + 31) from nI_add _ 31, show (32 : Int32) = nI 32 from rfl, pk_div (by omega) (by omega) (by omega), show (4 : Int32) = nI 4 from rfl, pk_mul]
  rw [e1, e2]
  have row : ∀ r, r < H → ∃ y, y < H ∧ (if to = 0 then H - 1 - r else r) = y := by
    intro r hr; by_cases c : to = 0
    · exact ⟨_, by omega, if_pos c⟩
    · exact ⟨_, by omega, if_neg c⟩
  have outer := lp_D (z := fun _ _ _ _ _ => fno) (f := F_X0_readRows_19 sb) (z2 := fun _ _ _ _ _ => fno) (f2 := F_X11_readPlainRows_20 sb ta) (fun m k1 k2 => ∀ (r p : Nat) (pk : Int32) (px gt : A), r + m = H → p ≤ n → (∀ i, i < W * H → (if to = 0 then H - 1 - i / W else i / W) < r → px i = gt i) → PStepB n (W * H) (nI W) (nI H) (nI b) two (nI u) (k1 (nI ((W * b + 7) / 8)) (nI r) (nI W, nI H, px) (Sr n p) (f1, f2, f3, nI to, nI b, two, nI u, pk, cl, up, col)) (k2 (nI to) (nI ((W * b + 31) / 32 * 4)) (nI r) (Mr n p (nI W) (nI H) (nI b) two (nI u)) gt) KB) ?_ H (by omega)
  · exact outer 0 p pk px gt (by omega) hp (fun i hi h => absurd h (by omega))
  · intro m k1 k2 ih r p pk px gt hr hp hx
    unfold F_X0_readRows_19 F_X11_readPlainRows_20
    dsimp only [x_g, bm_top, mr_gh]
    by_cases c0 : m = 0
    · have : r = H := by omega
      subst this
      rw [if_pos (Int32.le_refl _), if_pos (Int32.le_refl _)]
      refine Or.inl ⟨p, px, gt, _, hp, rfl, rfl, rfl, rfl, rfl, fun i hi => hx i hi ?_⟩
      have : i / W < r := (Nat.div_lt_iff_lt_mul (by omega)).mpr (by rw [Nat.mul_comm]; exact hi)
      generalize i / W = t at *
      split <;> omega
    have hrH : r < H := by omega
    rw [if_neg (nI_ge hrH (by omega)), if_neg (nI_ge hrH (by omega))]
    obtain ⟨y, hy, hye⟩ := row r hrH
    have sel : ∀ (α : Type) (f : Int32 → α), (if nI to = 0 then f ((nI H - 1) - nI r) else f (nI r)) = f (nI y) := by
      intro α f
      rcases hto with rfl | rfl
      · rw [if_pos (by rfl), show nI H - 1 = nI (H - 1) from pk_sub (b := 1) (by omega), pk_sub (by omega)]
        rw [if_pos rfl] at hye; rw [hye]
      · rw [if_neg (by decide)]
        rw [if_neg (by decide)] at hye; rw [hye]
    rw [sel _ (fun t => F_X0_readRows_49 sb k1 (nI ((W * b + 7) / 8)) (nI r) t (nI W, nI H, px) (Sr n p) (f1, f2, f3, nI to, nI b, two, nI u, pk, cl, up, col)), sel _ (fun t => F_X11_readPlainRows_44 sb ta k2 (nI to) (nI ((W * b + 31) / 32 * 4)) (nI r) t (Mr n p (nI W) (nI H) (nI b) two (nI u)) gt)]
    unfold F_X0_readRows_49 F_X11_readPlainRows_44
    dsimp only [x_w, mr_pos]
    rw [pk_mul]
    have hyW := yx_lt (W := W) hy
    have inner := lp_D (z := fun _ _ _ _ _ _ _ => fno) (f := F_X0_readRows_59 sb k1) (z2 := fun _ _ _ _ _ _ _ _ => fno) (f2 := F_X11_readPlainRows_55 sb ta k2) (fun m2 j1 j2 => ∀ (x q : Nat) (pk : Int32) (px gt : A), x + m2 = W → q = p + (x * b + 7) / 8 → q ≤ n → (∀ i, i < W * H → ((if to = 0 then H - 1 - i / W else i / W) < r ∨ i / W = y ∧ i % W < x) → px i = gt i) → (x * b % 8 ≠ 0 → 0 < q ∧ pk = nI (bt sb (q - 1))) → PStepB n (W * H) (nI W) (nI H) (nI b) two (nI u) (j1 (nI ((W * b + 7) / 8)) (nI r) (nI (y * W)) (nI x) (nI W, nI H, px) (Sr n q) (f1, f2, f3, nI to, nI b, two, nI u, pk, cl, up, col)) (j2 (nI to) (nI ((W * b + 31) / 32 * 4)) (nI r) (nI y) (nI p) (nI x) (Mr n q (nI W) (nI H) (nI b) two (nI u)) gt) KB) ?_ W (by omega)
    · exact inner 0 p pk px gt (by omega) (by omega) hp (fun i hi h => by
        rcases h with h | h
        · exact hx i hi h
        · omega) (fun h => absurd (by omega) h)
    · intro m2 j1 j2 ih2 x q pk px gt hxm hq hqn hx hpk
      unfold F_X0_readRows_59 F_X11_readPlainRows_55
      dsimp only [x_w, bm_bits, mr_gw, mr_one, mr_pos]
      by_cases c1 : m2 = 0
      · have : x = W := by omega
        subst this
        have hc4 : (4 - (x * b + 7) / 8 % 4) % 4 = (x * b + 31) / 32 * 4 - (x * b + 7) / 8 := by omega
        rw [if_pos (Int32.le_refl _), if_pos (Int32.le_refl _), neg3 (by omega), pk_sub (a := q) (by omega), show q - p = (x * b + 7) / 8 from by omega, pk_sub (by omega), ← hc4]
        generalize hcd : (4 - (x * b + 7) / 8 % 4) % 4 = cd
        by_cases c2 : q + cd ≤ n
        · rw [pass_ok sb c2 hn, fon_fok, wt_ok _ cd rfl _ _ _ _ _ c2 (by omega), fon_fok, if_neg (by decide)]
          dsimp only [mr_size, mr_pos, mr_kind, mr_whr, mr_gw, mr_gh, mr_one, mr_two, mr_three]
          rw [nI_1, nI_add]
          refine ih (m - 1) (by omega) (r + 1) (q + cd) pk px gt (by omega) c2 (fun i hi h => hx i hi ?_)
          have hdiv : i / x < H := (Nat.div_lt_iff_lt_mul (by omega)).mpr (by rw [Nat.mul_comm]; exact hi)
          have hmod : i % x < x := Nat.mod_lt _ (by omega)
          by_cases c3 : (if to = 0 then H - 1 - i / x else i / x) < r
          · exact Or.inl c3
          · refine Or.inr ⟨?_, hmod⟩
            by_cases ct : to = 0
            · rw [if_pos ct] at h c3 hye; omega
            · rw [if_neg ct] at h c3 hye; omega
        · rw [pass_no sb (by omega) hqn hn (by omega), fon_fex, wt_no _ cd rfl _ _ _ _ _ (by omega) (by omega), fon_fok, if_pos rfl]
          exact pb_bad rfl rfl (b_bad _ _ _ _ _ _ _ _ _ _ (by decide))
      have hxW : x < W := by omega
      have hxb : x * b ≤ 4096 * 8 := Nat.mul_le_mul (by omega) (by omega)
      have hix := idx_lt hxW hy
      have e8 : (8 : Int32) / nI b = nI (8 / b) ∧ 1 ≤ 8 / b ∧ x % (8 / b) * b = x * b % 8 := by
        rcases hb with rfl | rfl | rfl
        · exact ⟨by decide, by decide, by omega⟩
        · exact ⟨by decide, by decide, by omega⟩
        · exact ⟨by decide, by decide, by omega⟩
      have hper : 8 / b ≤ 8 := Nat.div_le_self _ _
      rw [if_neg (nI_ge hxW (by omega)), if_neg (c := 8 < nI b) (by rcases hb with rfl | rfl | rfl <;> decide), if_neg (nI_ge hxW (by omega)), if_neg (c := 8 < nI b) (by rcases hb with rfl | rfl | rfl <;> decide), if_pos (nI_ne0 (by omega) (by omega)), e8.1, if_pos (nI_ne0 (by omega) (by omega)), pk_rem (by omega) (by omega) (by omega)]
      have go : ∀ (q2 : Nat) (pk : Int32), q2 = p + ((x + 1) * b + 7) / 8 → 0 < q2 → q2 ≤ n → pk = nI (bt sb (q2 - 1)) → PStepB n (W * H) (nI W) (nI H) (nI b) two (nI u) (fon (F_X0_readIndexed_22 sb (nI (x * b % 8)) (Sr n q2) (f1, f2, f3, nI to, nI b, two, nI u, pk, cl, up, col)) (fun z87 s87 => F_X0_readRows_98 sb k1 j1 (nI ((W * b + 7) / 8)) (nI r) (nI (y * W)) (nI x) z87 (nI (y * W) + nI x) (nI W, nI H, px) s87.1 s87.2) (fun E s87 => fex E ((nI W, nI H, px), s87.1, s87.2))) (F_X11_readPlainRows_122 sb ta k2 j2 (nI to) (nI ((W * b + 31) / 32 * 4)) (nI r) (nI y) (nI p) (nI x) ((nI W * nI y) + nI x) (nI (8 / b)) (Mr n q2 (nI W) (nI H) (nI b) two (nI u)) gt) KB := by
        intro q2 pk hq2 h0 hqn2 hpke
        subst hpke
        obtain ⟨i, hi, hie⟩ := ix_ok (x := x) (bt_lt sb (q2 - 1)) hb
        unfold F_X0_readIndexed_22 F_X11_readPlainRows_122 F_X11_readPlainRows_329 F_X0_readRows_98
        dsimp only [bm_packed, bm_bits, sc_pos, mr_pos, mr_one, mr_three]
        rw [show nI q2 - 1 = nI (q2 - 1) from pk_sub (b := 1) h0, b_ok sb (by omega), fon_fok, if_pos (nI_ne0 (by omega) (by omega)), pk_rem (by omega) (by omega) (by omega), pk_mul, e8.2.2]
        unfold ixE at hie
        rw [hie, pk_mul, nI_add, nI_add, Nat.mul_comm W y]
        by_cases cu : i < u
        · rw [co_ok cu hi (by omega) _ _ rfl, fon_fok, fon_fok, ut_set (by omega), fon_fok, if_pos (nI_lt cu (by omega)), if_pos (inb_nI (by omega) (by omega)), if_pos (inb_nI (by omega) (by omega)), nI_clamp (by omega), nI_clamp (by omega), nI_1]
          dsimp only [x_w, x_g, x_p, bm_col]
          rw [hc i cu]
          refine ih2 (m2 - 1) (by omega) (x + 1) q2 _ _ _ (by omega) hq2 hqn2 (fun l hl h => ?_) (fun _ => ⟨h0, rfl⟩)
          unfold upd; split
          · rfl
          · rename_i hne
            refine hx l hl ?_
            rcases h with h | ⟨h1, h2⟩
            · exact Or.inl h
            · refine Or.inr ⟨h1, ?_⟩
              have := Nat.div_add_mod l W
              rw [h1, Nat.mul_comm] at this
              omega
        · rw [co_no (by omega) hi _ _ rfl, fon_fex, fon_fex, if_neg (nI_nlt (by omega) (by omega)), wr_eq, fon_fok, if_pos (Or.inl rfl)]
          exact pb_bad rfl rfl (b_bad _ _ _ _ _ _ _ _ _ _ (by decide))
      unfold F_X0_readIndexed
      dsimp only [bm_bits, bm_f1, bm_f2, bm_f3, bm_top, bm_comp, bm_used, bm_packed, bm_column, bm_up, bm_col]
      rw [pk_mul, pk_andN (by omega) (m := 7) 3 rfl, show 2 ^ 3 = 8 from rfl]
      have hbp : x % (8 / b) = 0 ↔ x * b % 8 = 0 := by
        rcases hb with rfl | rfl | rfl <;> omega
      by_cases c8 : x * b % 8 = 0
      · rw [if_pos (c := nI (x * b % 8) = 0) (by rw [c8]; rfl), if_pos (c := nI (x % (8 / b)) = 0) (by rw [hbp.mpr c8]; rfl)]
        by_cases c2 : q + 1 ≤ n
        · rw [nx_ok sb (by omega) hn, fon_fok, wt_ok 1 1 rfl _ _ _ _ _ c2 (by omega), fon_fok, if_neg (c := (1 : Int32) = 0) (by decide)]
          dsimp only [mr_size, mr_pos, mr_kind, mr_whr, mr_gw, mr_gh, mr_one, mr_two, mr_three]
          rw [nI_1]
          refine go (q + 1) _ ?_ (by omega) c2 (by rw [Nat.add_sub_cancel])
          rcases hb with rfl | rfl | rfl <;> omega
        · rw [nx_no sb (by omega) (by omega), fon_fex, fon_fex, wt_no 1 1 rfl _ _ _ _ _ (by omega) (by omega), fon_fok, if_pos rfl]
          exact pb_bad rfl rfl (b_bad _ _ _ _ _ _ _ _ _ _ (by decide))
      · have hm8 : x * b % 8 < 8 := Nat.mod_lt _ (by decide)
        rw [if_neg (c := nI (x * b % 8) = 0) (nI_ne0 (by omega) (by omega)), if_neg (c := nI (x % (8 / b)) = 0) (nI_ne0 (by omega) (by have : x % (8 / b) < 8 / b := Nat.mod_lt _ (by omega); omega))]
        obtain ⟨hq0, hpk2⟩ := hpk c8
        refine go q pk ?_ hq0 hqn hpk2
        rcases hb with rfl | rfl | rfl <;> omega
