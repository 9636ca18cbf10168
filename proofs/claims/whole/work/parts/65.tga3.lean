def okTy (t m ix gr : Nat) : Prop := (ix = 0 ∧ gr = 0 ∧ (t = 2 ∨ t = 10)) ∨ (ix = 0 ∧ gr = 1 ∧ (t = 3 ∨ t = 11)) ∨ (ix = 1 ∧ gr = 0 ∧ (t = 1 ∨ t = 9) ∧ m = 1)
theorem ty_yc {n m t ix gr : Nat} (sb : A) (h : okTy t m ix gr) (hm : m = 0 ∨ m = 1) (f1 f2 f3 fe mn dp bi fl ab i0 pa le li : Int32) (ent : A) : (if (nI t &&& 7) = 1 then F_X9_readTypes_59 sb (nI 2) (nI t &&& 7) 1 (Sr n 3) (f1, f2, f3, nI m, nI t, fe, mn, dp, bi, fl, ab, i0, pa, le, li, ent) else F_X9_readTypes_59 sb (nI 2) (nI t &&& 7) 0 (Sr n 3) (f1, f2, f3, nI m, nI t, fe, mn, dp, bi, fl, ab, i0, pa, le, li, ent)) = fok () (Sr n 3, (f1, f2, f3, nI m, nI t, fe, mn, dp, bi, fl, ab, nI ix, pa, le, li, ent)) := by
  rcases h with ⟨rfl, rfl, rfl | rfl⟩ | ⟨rfl, rfl, rfl | rfl⟩ | ⟨rfl, rfl, rfl | rfl, rfl⟩ <;> rfl
theorem ty_yr {n m t ix gr : Nat} (sb : A) (h : okTy t m ix gr) (hm : m = 0 ∨ m = 1) (ld : Int32) (mr : MR) (gt ta : A) : (if nI t = 1 then (F_X11_readTarga_81 sb ld (nI m) (nI t) mr gt ta) else (if nI t = 9 then (F_X11_readTarga_81 sb ld (nI m) (nI t) mr gt ta) else (F_X11_readTarga_86 sb ld (nI m) (nI t) (0 : Int32) mr gt ta))) = F_X11_readTarga_143 sb ld (nI m) (nI t) (nI ix) (nI gr) mr gt ta := by
  rcases h with ⟨rfl, rfl, rfl | rfl⟩ | ⟨rfl, rfl, rfl | rfl⟩ | ⟨rfl, rfl, rfl | rfl, rfl⟩ <;> rfl
theorem ty_59 {n t : Nat} (sb : A) (ht : t < 256) (h : t % 8 < 1 ∨ 3 < t % 8 ∨ 11 < t) (t0 : Int32) (h0 : isB t0) (f1 f2 f3 mm fe mn dp bi fl ab i0 pa le li : Int32) (ent : A) : F_X9_readTypes_59 sb (nI 2) (nI (t % 8)) t0 (Sr n 3) (f1, f2, f3, mm, nI t, fe, mn, dp, bi, fl, ab, i0, pa, le, li, ent) = fex ISE ((nI n, nI 3, 2, nI 2), (f1, f2, f3, mm, nI t, fe, mn, dp, bi, fl, ab, t0, pa, le, li, ent)) := by
  have h8 : t % 8 < 8 := Nat.mod_lt _ (by decide)
  unfold F_X9_readTypes_59 F_X9_readTypes_95
  dsimp only [tg_f1, tg_f2, tg_f3, tg_map, tg_type, tg_fe, tg_many, tg_deep, tg_bits, tg_flags, tg_ab, tg_idx, tg_packets, tg_left, tg_like, tg_ent]
  rw [if_pos h0, rf_eq, fon_fex]
  by_cases c1 : t % 8 < 1
  · rw [if_pos (by (simp (disch := omega) only [nI_toInt, Int32.lt_iff_toInt_lt, Int32.le_iff_toInt_le, ← Int32.toInt_inj, Int32.reduceToInt]; omega))]
  · rw [if_neg (c := nI (t % 8) < 1) (by (simp (disch := omega) only [nI_toInt, Int32.lt_iff_toInt_lt, Int32.le_iff_toInt_le, ← Int32.toInt_inj, Int32.reduceToInt]; omega))]
    by_cases c2 : 3 < t % 8
    · rw [if_pos (by (simp (disch := omega) only [nI_toInt, Int32.lt_iff_toInt_lt, Int32.le_iff_toInt_le, ← Int32.toInt_inj, Int32.reduceToInt]; omega))]
    · rw [if_neg (c := 3 < nI (t % 8)) (by (simp (disch := omega) only [nI_toInt, Int32.lt_iff_toInt_lt, Int32.le_iff_toInt_le, ← Int32.toInt_inj, Int32.reduceToInt]; omega)), if_pos (c := 11 < nI t) (by (simp (disch := omega) only [nI_toInt, Int32.lt_iff_toInt_lt, Int32.le_iff_toInt_le, ← Int32.toInt_inj, Int32.reduceToInt]; omega))]
theorem ty_nc {n m t : Nat} (sb : A) (h : ∀ ix gr, ¬ okTy t m ix gr) (ht : t < 256) (hm : m = 0 ∨ m = 1) (f1 f2 f3 fe mn dp bi fl ab i0 pa le li : Int32) (ent : A) : ∃ tg, (if (nI t &&& 7) = 1 then F_X9_readTypes_59 sb (nI 2) (nI t &&& 7) 1 (Sr n 3) (f1, f2, f3, nI m, nI t, fe, mn, dp, bi, fl, ab, i0, pa, le, li, ent) else F_X9_readTypes_59 sb (nI 2) (nI t &&& 7) 0 (Sr n 3) (f1, f2, f3, nI m, nI t, fe, mn, dp, bi, fl, ab, i0, pa, le, li, ent)) = fex ISE ((nI n, nI 3, 2, nI 2), tg) := by
  have h1 := h 0 0; have h2 := h 0 1; have h3 := h 1 0
  unfold okTy at h1 h2 h3
  by_cases c : t % 8 < 1 ∨ 3 < t % 8 ∨ 11 < t
  · rw [pk_andN (by omega) (m := 7) 3 rfl, show t % 2 ^ 3 = t % 8 from rfl]
    by_cases c1 : nI (t % 8) = 1
    · rw [if_pos c1, ty_59 sb ht c 1 (Or.inr rfl)]; exact ⟨_, rfl⟩
    · rw [if_neg c1, ty_59 sb ht c 0 (Or.inl rfl)]; exact ⟨_, rfl⟩
  · have ht2 : (t = 1 ∨ t = 9) ∧ m = 0 := by omega
    obtain ⟨rfl | rfl, rfl⟩ := ht2
    · exact ⟨_, rfl⟩
    · exact ⟨_, rfl⟩
theorem ty_nr {n m t : Nat} (sb : A) (h : ∀ ix gr, ¬ okTy t m ix gr) (ht : t < 256) (hm : m = 0 ∨ m = 1) (ld P gw gh a b c : Int32) (gt ta : A) : (if nI t = 1 then (F_X11_readTarga_81 sb ld (nI m) (nI t) (nI n, P, 0, -1, gw, gh, a, b, c) gt ta) else (if nI t = 9 then (F_X11_readTarga_81 sb ld (nI m) (nI t) (nI n, P, 0, -1, gw, gh, a, b, c) gt ta) else (F_X11_readTarga_86 sb ld (nI m) (nI t) (0 : Int32) (nI n, P, 0, -1, gw, gh, a, b, c) gt ta))) = fok 0 ((nI n, P, 2, 2, gw, gh, a, b, c), gt, ta) := by
  have h1 := h 0 0; have h2 := h 0 1; have h3 := h 1 0
  unfold okTy at h1 h2 h3
  by_cases c1 : t = 1 ∨ t = 9
  · have hm0 : m = 0 := by omega
    subst hm0
    rcases c1 with rfl | rfl <;> rfl
  · rw [if_neg (c := nI t = 1) (by (simp (disch := omega) only [nI_toInt, Int32.lt_iff_toInt_lt, Int32.le_iff_toInt_le, ← Int32.toInt_inj, Int32.reduceToInt]; omega)), if_neg (c := nI t = 9) (by (simp (disch := omega) only [nI_toInt, Int32.lt_iff_toInt_lt, Int32.le_iff_toInt_le, ← Int32.toInt_inj, Int32.reduceToInt]; omega))]
    unfold F_X11_readTarga_86
    rw [if_neg (c := nI t = 3) (by (simp (disch := omega) only [nI_toInt, Int32.lt_iff_toInt_lt, Int32.le_iff_toInt_le, ← Int32.toInt_inj, Int32.reduceToInt]; omega)), if_neg (c := nI t = 11) (by (simp (disch := omega) only [nI_toInt, Int32.lt_iff_toInt_lt, Int32.le_iff_toInt_le, ← Int32.toInt_inj, Int32.reduceToInt]; omega))]
    unfold F_X11_readTarga_104 F_X11_readTarga_136
    rw [if_pos rfl, if_pos rfl, if_neg (c := nI t = 2) (by (simp (disch := omega) only [nI_toInt, Int32.lt_iff_toInt_lt, Int32.le_iff_toInt_le, ← Int32.toInt_inj, Int32.reduceToInt]; omega)), if_neg (c := nI t = 10) (by (simp (disch := omega) only [nI_toInt, Int32.lt_iff_toInt_lt, Int32.le_iff_toInt_le, ← Int32.toInt_inj, Int32.reduceToInt]; omega)), wq_wr, fon_fok, if_pos (Or.inl rfl)]
theorem sh_ok {n p : Nat} (P : Int32) (hP : P = nI p) (gw gh a b c : Int32) (h : p + 2 ≤ n) (hn : n < 2 ^ 30) : F_X11_readShort (nI n, P, 0, -1, gw, gh, a, b, c) = fok 1 (nI n, P, 0, -1, gw, gh, a, b, c) := by
  unfold F_X11_readShort
  rw [wq_ok 2 P 2 rfl hP _ _ _ _ _ h hn, fon_fok, if_pos (Or.inr rfl)]
theorem sh_no {n p : Nat} (P : Int32) (hP : P = nI p) (gw gh a b c : Int32) (h : n < p + 2) (hn : p + 2 < 2 ^ 31) : F_X11_readShort (nI n, P, 0, -1, gw, gh, a, b, c) = fok 0 (nI n, P, 1, nI n, gw, gh, a, b, c) := by
  unfold F_X11_readShort
  rw [wq_no 2 P 2 rfl hP _ _ _ _ _ h hn, fon_fok, if_pos (Or.inl rfl)]
theorem sd_ok {n p : Nat} (sb : A) (h : p + 2 ≤ n) (hn : n ≤ 65536) (h0 : L2 sb p ≠ 0) : F_X9_readSide (Sr n p) sb = fok (nI (L2 sb p)) (Sr n (p + 2)) := by
  unfold F_X9_readSide
  have := L2_lt sb p
  rw [low2_ok sb h hn, fon_fok, if_neg (nI_ne0 (by omega) (by omega))]
theorem sd_0 {n p : Nat} (sb : A) (h : p + 2 ≤ n) (hn : n ≤ 65536) (h0 : L2 sb p = 0) : F_X9_readSide (Sr n p) sb = fex ISE (nI n, nI (p + 2), 2, nI p) := by
  unfold F_X9_readSide
  rw [low2_ok sb h hn, fon_fok, h0, if_pos (show nI 0 = 0 from rfl), rf_eq, fon_fex]
theorem sd_no {n p : Nat} (sb : A) (h : n < p + 2) (hp : p ≤ n) (hn : n ≤ 65536) : F_X9_readSide (Sr n p) sb = fex ISE (nI n, nI n, 1, nI n) := by
  unfold F_X9_readSide
  rw [low2_no sb h hp hn, fon_fex]
/-- the flags that may be -/
def okF (fl co : Nat) : Prop := fl ≤ 63 ∧ (fl % 16 = 0 ∨ co = 32 ∧ fl % 16 = 8 ∨ co = 16 ∧ fl % 16 = 1)
theorem fl_c {n fl co : Nat} (sb : A) (hfl : fl < 256) (hco : co < 256) (tg : Tga) (h1 : tg_flags tg = nI fl) (h2 : tg_ab tg = nI (fl % 16)) : (okF fl co → F_X9_readFlags_42 sb (nI 17) (nI co) (Sr n 18) tg = fok () (Sr n 18, tg)) ∧ (¬ okF fl co → F_X9_readFlags_42 sb (nI 17) (nI co) (Sr n 18) tg = fex ISE ((nI n, nI 18, 2, nI 17), tg)) := by
  have q1 : nI co = 32 ↔ co = 32 := nI_inj (b := 32) (by omega) (by omega)
  have q2 : nI co = 16 ↔ co = 16 := nI_inj (b := 16) (by omega) (by omega)
  have q3 : 63 < nI fl ↔ 63 < fl := nI_ltI (a := 63) (by omega) (by omega)
  have q4 : nI (fl % 16) = 0 ↔ fl % 16 = 0 := nI_inj (b := 0) (by omega) (by omega)
  have q5 : nI (fl % 16) = 8 ↔ fl % 16 = 8 := nI_inj (b := 8) (by omega) (by omega)
  have q6 : nI (fl % 16) = 1 ↔ fl % 16 = 1 := nI_inj (b := 1) (by omega) (by omega)
  unfold okF F_X9_readFlags_42 F_X9_readFlags_68 F_X9_readFlags_93
  rw [h1, h2, rf_eq, fon_fex]
  simp only [q1, q2, q3, q4, q5, q6]
  constructor
  · intro h
    repeat' (first | split | (exfalso; omega) | rfl)
  · intro h
    repeat' (first | split | (exfalso; omega) | rfl)
theorem a192 : ∀ f, f < 256 → (((nI f &&& 192) = 0) ↔ f ≤ 63) := by decide +kernel
theorem fl_r {n fl co : Nat} (sb : A) (hfl : fl < 256) (hco : co < 256) (v1 v3 v4 v5 v6 v7 v8 v11 P gw gh a b c : Int32) (gt ta : A) : (okF fl co → F_X11_readTarga_541 sb v1 v3 v4 v5 v6 v7 v8 v11 (nI fl) (nI (fl % 16)) (nI co) (nI n, P, 0, -1, gw, gh, a, b, c) gt ta = F_X11_readTarga_592 sb v1 v3 v4 v5 v6 v7 v8 v11 (nI fl) (nI (fl % 16)) (nI n, P, 0, -1, gw, gh, a, b, c) gt ta) ∧ (¬ okF fl co → F_X11_readTarga_541 sb v1 v3 v4 v5 v6 v7 v8 v11 (nI fl) (nI (fl % 16)) (nI co) (nI n, P, 0, -1, gw, gh, a, b, c) gt ta = fok 0 ((nI n, P, 2, 17, gw, gh, a, b, c), gt, ta)) := by
  have q1 : nI co = 32 ↔ co = 32 := nI_inj (b := 32) (by omega) (by omega)
  have q2 : nI co = 16 ↔ co = 16 := nI_inj (b := 16) (by omega) (by omega)
  have q4 : nI (fl % 16) = 0 ↔ fl % 16 = 0 := nI_inj (b := 0) (by omega) (by omega)
  have q5 : nI (fl % 16) = 8 ↔ fl % 16 = 8 := nI_inj (b := 8) (by omega) (by omega)
  have q6 : nI (fl % 16) = 1 ↔ fl % 16 = 1 := nI_inj (b := 1) (by omega) (by omega)
  unfold okF F_X11_readTarga_541 F_X11_readTarga_571 F_X11_readTarga_584
  rw [wq_wr, fon_fok, if_pos (c := isB 0) (Or.inl rfl)]
  simp only [q1, q2, a192 fl hfl, q4, q5, q6]
  constructor
  · intro h
    repeat' (first | split | (exfalso; omega) | rfl)
  · intro h
    repeat' (first | split | (exfalso; omega) | rfl)
