/-- eight bits of a pixel from bit k on -/
def ch (v : Int32) (k : Nat) : Nat := v.toBitVec.toNat / 2 ^ k % 256
theorem ch_lt (v : Int32) (k : Nat) : ch v k < 256 := Nat.mod_lt _ (by decide)
theorem tn_lt (v : Int32) : v.toBitVec.toNat < 2 ^ 32 := v.toBitVec.isLt
theorem toI_cond (v : Int32) : v.toInt = if v.toBitVec.toNat < 2 ^ 31 then (v.toBitVec.toNat : Int) else (v.toBitVec.toNat : Int) - 2 ^ 32 := by
  have h := BitVec.toInt_eq_toNat_cond v.toBitVec
  rw [Int32.toInt_toBitVec] at h
  rw [h]
  by_cases c : v.toBitVec.toNat < 2 ^ 31
  · rw [if_pos (by omega), if_pos c]
  · rw [if_neg (by omega), if_neg c]; rfl
theorem b8_mod (x : Int32) : b8 x = b8 (nI (x.toBitVec.toNat % 256)) := by
  rw [b8_eq, b8_eq]
  congr 1
  apply Int8.toBitVec_inj.mp
  rw [Int32.toBitVec_toInt8, Int32.toBitVec_toInt8, BitVec.signExtend_eq_setWidth_of_le _ (by decide), BitVec.signExtend_eq_setWidth_of_le _ (by decide)]
  apply BitVec.eq_of_toNat_eq
  rw [BitVec.toNat_setWidth, BitVec.toNat_setWidth, pk_tn (by omega)]
  omega
theorem shr_tn (v s : Int32) (k : Nat) (hk : k ≤ 24) (hs : (s.toBitVec.smod 32).toNat = k) : (v >>> s).toBitVec.toNat % 256 = ch v k := by
  have h := pk_shr v s k hs
  have a1 := toI_cond (v >>> s)
  have a2 := toI_cond v
  have b1 := tn_lt (v >>> s)
  have b2 := tn_lt v
  rw [Int.shiftRight_eq_div_pow] at h
  unfold ch
  rcases (by omega : k = 0 ∨ k = 1 ∨ k = 2 ∨ k = 3 ∨ k = 4 ∨ k = 5 ∨ k = 6 ∨ k = 7 ∨ k = 8 ∨ k = 9 ∨ k = 10 ∨ k = 11 ∨ k = 12 ∨ k = 13 ∨ k = 14 ∨ k = 15 ∨ k = 16 ∨ k = 17 ∨ k = 18 ∨ k = 19 ∨ k = 20 ∨ k = 21 ∨ k = 22 ∨ k = 23 ∨ k = 24) with e | e | e | e | e | e | e | e | e | e | e | e | e | e | e | e | e | e | e | e | e | e | e | e | e <;> subst e <;> simp only [Nat.reducePow, Int.reducePow] at * <;> omega
theorem shr_ch (v s : Int32) (k : Nat) (hk : k ≤ 24) (hs : (s.toBitVec.smod 32).toNat = k) : (v >>> s) &&& 255 = nI (ch v k) := by
  rw [pk_and (v >>> s) (m := 255) 8 rfl, show 2 ^ 8 = 256 from rfl, shr_tn v s k hk hs]
theorem us_tn (v s : Int32) (k : Nat) (hs : ((s.toUInt32 &&& Int32.toUInt32 31).toBitVec % 32).toNat = k) : (us v s).toBitVec.toNat = v.toBitVec.toNat / 2 ^ k := pk_ushr v s k hs
theorem us_ch (v s : Int32) (k : Nat) (hs : ((s.toUInt32 &&& Int32.toUInt32 31).toBitVec % 32).toNat = k) : us v s &&& 255 = nI (ch v k) := by
  rw [pk_and (us v s) (m := 255) 8 rfl, us_tn v s k hs]; rfl
theorem us_24 (v : Int32) : us v 24 = nI (ch v 24) := by
  apply Int32.toBitVec_inj.mp
  apply BitVec.eq_of_toNat_eq
  have := tn_lt v
  rw [us_tn v 24 24 (by decide), pk_tn (by have := ch_lt v 24; omega)]
  unfold ch
  omega
theorem red_ch (v : Int32) : F_X10_redOf v = nI (ch v 24) := us_24 v
theorem green_ch (v : Int32) : F_X10_greenOf v = nI (ch v 16) := us_ch v 16 16 (by decide)
theorem blue_ch (v : Int32) : F_X10_blueOf v = nI (ch v 8) := us_ch v 8 8 (by decide)
theorem alpha_ch (v : Int32) : F_X10_alphaOf v = nI (ch v 0) := by
  unfold F_X10_alphaOf ch
  rw [pk_and v (m := 255) 8 rfl, Nat.pow_zero, Nat.div_one]
theorem and_ch (v : Int32) : v &&& 255 = nI (ch v 0) := alpha_ch v
theorem sh16_ch (v : Int32) : (v >>> ((16 : Int32) &&& 31)) &&& 255 = nI (ch v 16) := shr_ch v _ 16 (by decide) (by decide)
theorem sh8_ch (v : Int32) : (v >>> ((8 : Int32) &&& 31)) &&& 255 = nI (ch v 8) := shr_ch v _ 8 (by decide) (by decide)
theorem b8_0 (v : Int32) : b8 v = b8 (nI (ch v 0)) := by
  rw [b8_mod]; unfold ch; rw [Nat.pow_zero, Nat.div_one]
theorem b8_8 (v : Int32) : b8 (v >>> ((8 : Int32) &&& 31)) = b8 (nI (ch v 8)) := by
  rw [b8_mod, shr_tn v _ 8 (by decide) (by decide)]
theorem b8_16 (v : Int32) : b8 (v >>> ((16 : Int32) &&& 31)) = b8 (nI (ch v 16)) := by
  rw [b8_mod, shr_tn v _ 16 (by decide) (by decide)]
theorem b8_24 (v : Int32) : b8 (v >>> ((24 : Int32) &&& 31)) = b8 (nI (ch v 24)) := by
  rw [b8_mod, shr_tn v _ 24 (by decide) (by decide)]
theorem b8_and {n : Nat} (h : n < 256) : b8 (nI n) &&& 255 = nI n := by rw [b8_eq]; exact sc_k8 n h
theorem ut_opaque {i W H : Nat} (hi4 : i < 4) (hp : W * H ≤ 4096) (x : Ras) (dd wi hi : A) (b1 : x_w x = nI W) (b2 : x_g x = nI H) (b3 : wi i = nI W) (b4 : hi i = nI H) (d : ∀ p, p < W * H → x_p x p = dd (4096 * i + p)) :
    ∃ z, (z = 0 ∨ z = 1) ∧ F_X7_isOpaque x = fok z () ∧ F_X11_isOpaque (nI i) dd wi hi = fok z () := by
  unfold F_X7_isOpaque F_X11_isOpaque
  rw [ut_count b1 b2, fon_fok]
  have q := lp_D (z := fun _ _ => fno) (f := F_X7_isOpaque_7 x) (z2 := fun _ _ => fno) (f2 := F_X11_isOpaque_2 dd wi hi) (fun m k1 k2 => ∀ l, l + m = W * H → ∃ z, (z = 0 ∨ z = 1) ∧ k1 (nI (W * H)) (nI l) = fok z () ∧ k2 (nI i) (nI l) = fok z ()) ?_ (W * H) (by omega)
  · exact q 0 (by omega)
  · intro m k1 k2 ih l hl
    unfold F_X7_isOpaque_7 F_X11_isOpaque_2
    rw [ut_many hi4 b3 b4, fon_fok]
    by_cases c0 : m = 0
    · rw [if_pos (nI_le (by omega) (by omega)), if_pos (nI_le (by omega) (by omega))]
      exact ⟨1, Or.inr rfl, rfl, rfl⟩
    · rw [if_neg (nI_ge (by omega) (by omega)), if_neg (nI_ge (by omega) (by omega)), ut_get (by omega), fon_fok, ix_dd, if_pos (inb_nI (by omega) (by omega)), nI_clamp (by omega), nI_1, d l (by omega)]
      unfold F_X10_alphaOf
      by_cases c : dd (4096 * i + l) &&& 255 = 255
      · rw [if_pos c, if_pos c]
        exact ih (m - 1) (by omega) (l + 1) (by omega)
      · rw [if_neg c, if_neg c]
        exact ⟨0, Or.inl rfl, rfl, rfl⟩
theorem ut_gray {i W H : Nat} (hi4 : i < 4) (hp : W * H ≤ 4096) (x : Ras) (dd wi hi : A) (b1 : x_w x = nI W) (b2 : x_g x = nI H) (b3 : wi i = nI W) (b4 : hi i = nI H) (d : ∀ p, p < W * H → x_p x p = dd (4096 * i + p)) :
    ∃ z, (z = 0 ∨ z = 1) ∧ F_X7_isGray x = fok z () ∧ F_X11_isGrayRaster (nI i) dd wi hi = fok z () ∧ (z = 1 → ∀ p, p < W * H → ch (x_p x p) 24 = ch (x_p x p) 16 ∧ ch (x_p x p) 24 = ch (x_p x p) 8) := by
  unfold F_X7_isGray F_X11_isGrayRaster
  rw [ut_count b1 b2, fon_fok]
  have q := lp_D (z := fun _ _ => fno) (f := F_X7_isGray_7 x) (z2 := fun _ _ => fno) (f2 := F_X11_isGrayRaster_2 dd wi hi) (fun m k1 k2 => ∀ l, l + m = W * H → ∃ z, (z = 0 ∨ z = 1) ∧ k1 (nI (W * H)) (nI l) = fok z () ∧ k2 (nI i) (nI l) = fok z () ∧ (z = 1 → ∀ p, l ≤ p → p < W * H → ch (x_p x p) 24 = ch (x_p x p) 16 ∧ ch (x_p x p) 24 = ch (x_p x p) 8)) ?_ (W * H) (by omega)
  · obtain ⟨z, hz, e1, e2, e3⟩ := q 0 (by omega)
    exact ⟨z, hz, e1, e2, fun c p hp => e3 c p (by omega) hp⟩
  · intro m k1 k2 ih l hl
    unfold F_X7_isGray_7 F_X11_isGrayRaster_2 F_X7_isGray_40 F_X11_isGrayRaster_54
    rw [ut_many hi4 b3 b4, fon_fok]
    by_cases c0 : m = 0
    · rw [if_pos (nI_le (by omega) (by omega)), if_pos (nI_le (by omega) (by omega))]
      exact ⟨1, Or.inr rfl, rfl, rfl, fun _ p h1 h2 => absurd h1 (by omega)⟩
    · rw [if_neg (nI_ge (by omega) (by omega)), if_neg (nI_ge (by omega) (by omega)), ut_get (by omega), fon_fok, ix_dd, if_pos (inb_nI (by omega) (by omega)), nI_clamp (by omega), nI_1, red_ch, green_ch, blue_ch, us_24, sh16_ch, sh8_ch, ← d l (by omega)]
      have l1 := ch_lt (x_p x l) 24
      have l2 := ch_lt (x_p x l) 16
      have l3 := ch_lt (x_p x l) 8
      simp only [nI_eq (show ch (x_p x l) 24 < 2 ^ 31 by omega) (show ch (x_p x l) 16 < 2 ^ 31 by omega), nI_eq (show ch (x_p x l) 16 < 2 ^ 31 by omega) (show ch (x_p x l) 8 < 2 ^ 31 by omega), nI_eq (show ch (x_p x l) 24 < 2 ^ 31 by omega) (show ch (x_p x l) 8 < 2 ^ 31 by omega)]
      by_cases c : ch (x_p x l) 24 = ch (x_p x l) 16
      · rw [if_pos c, if_pos c]
        by_cases c2 : ch (x_p x l) 16 = ch (x_p x l) 8
        · rw [if_pos c2, if_pos (c.trans c2)]
          obtain ⟨z, hz, e1, e2, e3⟩ := ih (m - 1) (by omega) (l + 1) (by omega)
          refine ⟨z, hz, e1, e2, fun cz p h1 h2 => ?_⟩
          by_cases cp : p = l
          · subst cp; exact ⟨c, c.trans c2⟩
          · exact e3 cz p (by omega) h2
        · rw [if_neg c2, if_neg (fun e => c2 (c.symm.trans e))]
          exact ⟨0, Or.inl rfl, rfl, rfl, fun e => absurd e (by decide)⟩
      · rw [if_neg c, if_neg c]
        exact ⟨0, Or.inl rfl, rfl, rfl, fun e => absurd e (by decide)⟩
theorem ut_plain {i W H : Nat} (hi4 : i < 4) (hp : W * H ≤ 4096) (x : Ras) (dd wi hi : A) (b1 : x_w x = nI W) (b2 : x_g x = nI H) (b3 : wi i = nI W) (b4 : hi i = nI H) (d : ∀ p, p < W * H → x_p x p = dd (4096 * i + p)) :
    ∃ z, (z = 0 ∨ z = 1) ∧ F_X7_isPlain x = fok z () ∧ F_X11_isPlain (nI i) dd wi hi = fok z () ∧ (z = 1 → ∀ p, p < W * H → x_p x p = 255 ∨ x_p x p = -1) := by
  unfold F_X7_isPlain F_X11_isPlain
  rw [ut_count b1 b2, fon_fok]
  have q := lp_D (z := fun _ _ => fno) (f := F_X7_isPlain_7 x) (z2 := fun _ _ => fno) (f2 := F_X11_isPlain_2 dd wi hi) (fun m k1 k2 => ∀ l, l + m = W * H → ∃ z, (z = 0 ∨ z = 1) ∧ k1 (nI (W * H)) (nI l) = fok z () ∧ k2 (nI i) (nI l) = fok z () ∧ (z = 1 → ∀ p, l ≤ p → p < W * H → x_p x p = 255 ∨ x_p x p = -1)) ?_ (W * H) (by omega)
  · obtain ⟨z, hz, e1, e2, e3⟩ := q 0 (by omega)
    exact ⟨z, hz, e1, e2, fun c p hp => e3 c p (by omega) hp⟩
  · intro m k1 k2 ih l hl
    unfold F_X7_isPlain_7 F_X11_isPlain_2 F_X7_isPlain_32 F_X11_isPlain_47
    rw [ut_many hi4 b3 b4, fon_fok]
    by_cases c0 : m = 0
    · rw [if_pos (nI_le (by omega) (by omega)), if_pos (nI_le (by omega) (by omega))]
      exact ⟨1, Or.inr rfl, rfl, rfl, fun _ p h1 h2 => absurd h1 (by omega)⟩
    · rw [if_neg (nI_ge (by omega) (by omega)), if_neg (nI_ge (by omega) (by omega)), ut_get (by omega), fon_fok, ix_dd, if_pos (inb_nI (by omega) (by omega)), if_pos (inb_nI (by omega) (by omega)), nI_clamp (by omega), nI_1, ← d l (by omega)]
      obtain ⟨z, hz, e1, e2, e3⟩ := ih (m - 1) (by omega) (l + 1) (by omega)
      by_cases c : x_p x l = 255
      · rw [if_pos c, if_pos c]
        refine ⟨z, hz, e1, e2, fun cz p h1 h2 => ?_⟩
        by_cases cp : p = l
        · subst cp; exact Or.inl c
        · exact e3 cz p (by omega) h2
      · rw [if_neg c, if_neg c]
        by_cases c2 : x_p x l = -1
        · rw [if_pos c2, if_pos c2]
          refine ⟨z, hz, e1, e2, fun cz p h1 h2 => ?_⟩
          by_cases cp : p = l
          · subst cp; exact Or.inr c2
          · exact e3 cz p (by omega) h2
        · rw [if_neg c2, if_neg c2]
          exact ⟨0, Or.inl rfl, rfl, rfl, fun e => absurd e (by decide)⟩
