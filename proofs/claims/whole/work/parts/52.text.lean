theorem blank_eq (a : Int32) : F_X5_isBlank a = F_X11_isBlank a := rfl
abbrev isbl (b : Nat) : Prop := 9 ≤ b ∧ b ≤ 13 ∨ b = 32
theorem blank_y {b : Nat} (h : isbl b) (hb : b < 256) : F_X11_isBlank (nI b) = 1 := by
  unfold F_X11_isBlank
  rcases h with h | h
  · rw [if_neg (by (simp (disch := omega) only [nI_toInt, Int32.lt_iff_toInt_lt, Int32.le_iff_toInt_le, ← Int32.toInt_inj, Int32.reduceToInt]; omega)), if_pos (by (simp (disch := omega) only [nI_toInt, Int32.lt_iff_toInt_lt, Int32.le_iff_toInt_le, ← Int32.toInt_inj, Int32.reduceToInt]; omega))]
  · subst h; decide
theorem blank_n {b : Nat} (h : ¬ isbl b) (hb : b < 256) : F_X11_isBlank (nI b) = 0 := by
  unfold isbl at h
  unfold F_X11_isBlank
  by_cases c : b < 9
  · rw [if_pos (by (simp (disch := omega) only [nI_toInt, Int32.lt_iff_toInt_lt, Int32.le_iff_toInt_le, ← Int32.toInt_inj, Int32.reduceToInt]; omega)), if_neg (by (simp (disch := omega) only [nI_toInt, Int32.lt_iff_toInt_lt, Int32.le_iff_toInt_le, ← Int32.toInt_inj, Int32.reduceToInt]; omega))]
  · rw [if_neg (by (simp (disch := omega) only [nI_toInt, Int32.lt_iff_toInt_lt, Int32.le_iff_toInt_le, ← Int32.toInt_inj, Int32.reduceToInt]; omega)), if_neg (by (simp (disch := omega) only [nI_toInt, Int32.lt_iff_toInt_lt, Int32.le_iff_toInt_le, ← Int32.toInt_inj, Int32.reduceToInt]; omega)), if_neg (by (simp (disch := omega) only [nI_toInt, Int32.lt_iff_toInt_lt, Int32.le_iff_toInt_le, ← Int32.toInt_inj, Int32.reduceToInt]; omega))]
theorem pk_ok {n p : Nat} (sb : A) (h : p < n) (hn : n ≤ 65536) : F_X8_peek (Sr n p) sb = fok (nI (bt sb p)) () := by
  unfold F_X8_peek
  dsimp only [sc_size, sc_pos]
  rw [if_neg (nI_pos (by omega)), if_neg (nI_ge h (by omega)), if_pos (inb_nI (by omega) (by omega)), nI_clamp (by omega), bt_and]
theorem pk_no {n p : Nat} (sb : A) (h : n ≤ p) (hn : p ≤ 65536) : F_X8_peek (Sr n p) sb = fok (-1) () := by
  unfold F_X8_peek F_X8_peek_34
  dsimp only [sc_size, sc_pos]
  rw [if_neg (nI_pos (by omega)), if_pos (nI_le h (by omega))]
/-- behind blanks and notes, m bytes before the end; i = 1: within a note -/
def sk (sb : A) (n : Nat) : Nat → Nat → Nat
  | 0, _ => n
  | m + 1, i => if i = 1 then (if bt sb (n - (m + 1)) = 10 then sk sb n m 0 else sk sb n m 1) else (if bt sb (n - (m + 1)) = 35 then sk sb n m 1 else (if 9 ≤ bt sb (n - (m + 1)) ∧ bt sb (n - (m + 1)) ≤ 13 ∨ bt sb (n - (m + 1)) = 32 then sk sb n m 0 else n - (m + 1)))
theorem sk_s (sb : A) (n m i : Nat) : sk sb n (m + 1) i = if i = 1 then (if bt sb (n - (m + 1)) = 10 then sk sb n m 0 else sk sb n m 1) else (if bt sb (n - (m + 1)) = 35 then sk sb n m 1 else (if 9 ≤ bt sb (n - (m + 1)) ∧ bt sb (n - (m + 1)) ≤ 13 ∨ bt sb (n - (m + 1)) = 32 then sk sb n m 0 else n - (m + 1))) := rfl
theorem sk_in (sb : A) (n : Nat) : ∀ m i, m ≤ n → n - m ≤ sk sb n m i ∧ sk sb n m i ≤ n
  | 0, i, _ => ⟨by unfold sk; omega, by unfold sk; omega⟩
  | m + 1, i, h => by
    have h0 := sk_in sb n m 0 (by omega)
    have h1 := sk_in sb n m 1 (by omega)
    rw [sk_s]
    split
    · split <;> omega
    · split
      · omega
      · split <;> omega
theorem sk_go {sb : A} {n p : Nat} (hp : p < n) (h : bt sb p = 35 ∨ isbl (bt sb p)) : p < sk sb n (n - p) 0 := by
  have h0 := sk_in sb n (n - p - 1) 0 (by omega)
  have h1 := sk_in sb n (n - p - 1) 1 (by omega)
  rw [show n - p = (n - p - 1) + 1 from by omega, sk_s, show n - (n - p - 1 + 1) = p from by omega, if_neg (by decide)]
  split
  · omega
  · rename_i c
    rcases h with h | h
    · exact absurd h c
    · rw [if_pos h]; omega
theorem sk_stay {sb : A} {n p : Nat} (hp : p < n) (h1 : bt sb p ≠ 35) (h2 : ¬ isbl (bt sb p)) : sk sb n (n - p) 0 = p := by
  rw [show n - p = (n - p - 1) + 1 from by omega, sk_s, show n - (n - p - 1 + 1) = p from by omega, if_neg (by decide), if_neg h1, if_neg h2]
theorem c_skip {n p : Nat} (sb : A) (hp : p ≤ n) (hn : n ≤ 65536) : F_X5_passBlanks (Sr n p) sb = fok () (Sr n (sk sb n (n - p) 0)) := by
  unfold F_X5_passBlanks
  have q := lp_M (z := fun _ _ => fno) (f := F_X5_passBlanks_2 sb) (fun m k => ∀ p i, p + m = n → (i = 0 ∨ i = 1) → k (nI i) (Sr n p) = fok () (Sr n (sk sb n m i))) ?_ (n - p) (by omega)
  · exact q p 0 (by omega) (Or.inl rfl)
  · intro m k ih p i hm hi
    unfold F_X5_passBlanks_2 F_X5_passBlanks_33 F_X5_passBlanks_56
    dsimp only [sc_size, sc_pos, sc_ft, sc_fp]
    by_cases c0 : m = 0
    · subst c0
      rw [if_pos (nI_le (by omega) (by omega)), show p = n from by omega]; rfl
    · have hb := bt_lt sb p
      obtain ⟨m1, rfl⟩ : ∃ m1, m = m1 + 1 := ⟨m - 1, by omega⟩
      rw [if_neg (nI_ge (by omega) (by omega)), pk_ok sb (by omega) hn, fon_fok, nI_1, sk_s, show n - (m1 + 1) = p from by omega]
      have i0 := ih m1 (by omega) (p + 1) 0 (by omega) (Or.inl rfl)
      have i1 := ih m1 (by omega) (p + 1) 1 (by omega) (Or.inr rfl)
      rw [show nI 0 = 0 from rfl] at i0
      rw [show nI 1 = 1 from rfl] at i1
      rcases hi with rfl | rfl
      · rw [if_pos (c := nI 0 = 0) rfl, if_neg (c := 0 = 1) (by decide)]
        by_cases c1 : bt sb p = 35
        · rw [if_pos (by rw [c1]; rfl), if_pos c1]; exact i1
        · rw [if_neg (by (simp (disch := omega) only [nI_toInt, Int32.lt_iff_toInt_lt, Int32.le_iff_toInt_le, ← Int32.toInt_inj, Int32.reduceToInt]; omega)), if_neg c1]
          by_cases c2 : 9 ≤ bt sb p ∧ bt sb p ≤ 13 ∨ bt sb p = 32
          · rw [blank_eq, blank_y c2 hb, if_neg (by decide), if_pos c2]; exact i0
          · rw [blank_eq, blank_n c2 hb, if_pos rfl, if_neg c2]
      · rw [if_neg (c := nI 1 = 0) (by decide), if_pos (c := 1 = 1) rfl]
        by_cases c1 : bt sb p = 10
        · rw [if_pos (by rw [c1]; rfl), if_pos c1]; exact i0
        · rw [if_neg (by (simp (disch := omega) only [nI_toInt, Int32.lt_iff_toInt_lt, Int32.le_iff_toInt_le, ← Int32.toInt_inj, Int32.reduceToInt]; omega)), if_neg c1]; exact i1
/-- behind a note's end -/
def eol (sb : A) (n : Nat) : Nat → Nat
  | 0 => n
  | m + 1 => if bt sb (n - (m + 1)) = 10 then n - m else eol sb n m
theorem eol_in (sb : A) (n : Nat) : ∀ m, m ≤ n → n - m ≤ eol sb n m ∧ eol sb n m ≤ n
  | 0, _ => ⟨by unfold eol; omega, by unfold eol; omega⟩
  | m + 1, h => by
    have h0 := eol_in sb n m (by omega)
    unfold eol
    split <;> omega
theorem eol_up (sb : A) (n : Nat) : ∀ m, 0 < m → m ≤ n → n - m < eol sb n m
  | 0, h, _ => absurd h (by omega)
  | m + 1, _, h => by
    have h0 := eol_in sb n m (by omega)
    unfold eol
    split <;> omega
theorem sk_eol (sb : A) (n : Nat) : ∀ m, m ≤ n → sk sb n m 1 = sk sb n (n - eol sb n m) 0
  | 0, _ => by unfold eol; rw [show n - n = 0 from by omega]; rfl
  | m + 1, h => by
    rw [sk_s, if_pos rfl]
    unfold eol
    by_cases c : bt sb (n - (m + 1)) = 10
    · rw [if_pos c, if_pos c, show n - (n - m) = m from by omega]
    · rw [if_neg c, if_neg c]; exact sk_eol sb n m (by omega)
theorem r_eol {n p : Nat} (sb : A) (hp : p ≤ n) (hn : n ≤ 65536) (gw gh a b c : Int32) (k2 : Int32 → MR → Out MR Unit) : lp (fun _ _ => fno) (F_X11_skip_58 sb k2) FU 1 (Mr n p gw gh a b c) = k2 1 (Mr n (eol sb n (n - p)) gw gh a b c) := by
  have q := lp_M (z := fun _ _ => fno) (f := F_X11_skip_58 sb k2) (fun m k => ∀ p, p + m = n → k 1 (Mr n p gw gh a b c) = k2 1 (Mr n (eol sb n m) gw gh a b c)) ?_ (n - p) (by omega)
  · exact q p (by omega)
  · intro m k ih p hm
    unfold F_X11_skip_58 F_X11_skip_95
    dsimp only [mr_size, mr_pos, mr_kind, mr_whr, mr_gw, mr_gh, mr_one, mr_two, mr_three]
    by_cases c0 : m = 0
    · subst c0
      rw [if_pos (nI_le (by omega) (by omega)), show p = n from by omega, if_pos (Int32.le_refl _)]; rfl
    · have hb := bt_lt sb p
      obtain ⟨m1, rfl⟩ : ∃ m1, m = m1 + 1 := ⟨m - 1, by omega⟩
      rw [if_neg (nI_ge (by omega) (by omega)), b_ok sb (by omega), fon_fok, nI_1]
      unfold eol
      rw [show n - (m1 + 1) = p from by omega]
      by_cases c1 : bt sb p = 10
      · rw [if_pos (by rw [c1]; rfl), if_pos c1, if_neg (nI_ge (by omega) (by omega)), show p + 1 = n - m1 from by omega]
      · rw [if_neg (by (simp (disch := omega) only [nI_toInt, Int32.lt_iff_toInt_lt, Int32.le_iff_toInt_le, ← Int32.toInt_inj, Int32.reduceToInt]; omega)), if_neg c1]; exact ih m1 (by omega) (p + 1) (by omega)
theorem r_skip {n p : Nat} (sb : A) (hp : p ≤ n) (hn : n ≤ 65536) (gw gh a b c : Int32) : F_X11_skip sb (Mr n p gw gh a b c) = fok () (Mr n (sk sb n (n - p) 0) gw gh a b c) := by
  unfold F_X11_skip
  have q := lp_M (z := fun _ _ => fno) (f := F_X11_skip_2 sb) (fun m k => (∀ p, k 0 (Mr n p gw gh a b c) = fok () (Mr n p gw gh a b c)) ∧ ∀ p, p + m = n → k 1 (Mr n p gw gh a b c) = fok () (Mr n (sk sb n m 0) gw gh a b c)) ?_ (n - p) (by omega)
  · exact q.2 p (by omega)
  · intro m k ih
    refine ⟨fun p => ?_, fun p hm => ?_⟩
    · unfold F_X11_skip_2
      rw [if_pos rfl]
    · unfold F_X11_skip_2
      dsimp only [mr_size, mr_pos, mr_kind, mr_whr, mr_gw, mr_gh, mr_one, mr_two, mr_three]
      rw [if_neg (by decide)]
      by_cases c0 : m = 0
      · subst c0
        rw [if_pos (nI_le (by omega) (by omega)), show p = n from by omega]; rfl
      · have hb := bt_lt sb p
        obtain ⟨m1, rfl⟩ : ∃ m1, m = m1 + 1 := ⟨m - 1, by omega⟩
        rw [if_neg (nI_ge (by omega) (by omega)), b_ok sb (by omega), fon_fok, fon_fok, r_eol sb (by omega) hn, nI_1, sk_s, show n - (m1 + 1) = p from by omega, if_neg (c := 0 = 1) (by decide)]
        by_cases c2 : 9 ≤ bt sb p ∧ bt sb p ≤ 13 ∨ bt sb p = 32
        · rw [blank_y c2 hb, if_neg (by decide), if_neg (by omega), if_pos c2]
          exact (ih m1 (by omega)).2 (p + 1) (by omega)
        · rw [blank_n c2 hb, if_pos rfl, if_neg c2]
          by_cases c1 : bt sb p = 35
          · have e1 : eol sb n (n - p) = eol sb n m1 := by
              rw [show n - p = m1 + 1 from by omega]
              show (if bt sb (n - (m1 + 1)) = 10 then n - m1 else eol sb n m1) = _
              rw [show n - (m1 + 1) = p from by omega, if_neg (by omega)]
            have h2 := eol_in sb n m1 (by omega)
            rw [if_pos (by rw [c1]; rfl), if_pos c1, e1, sk_eol sb n m1 (by omega)]
            exact (ih (n - eol sb n m1) (by omega)).2 _ (by omega)
          · rw [if_neg (by (simp (disch := omega) only [nI_toInt, Int32.lt_iff_toInt_lt, Int32.le_iff_toInt_le, ← Int32.toInt_inj, Int32.reduceToInt]; omega)), if_neg c1]
            exact (ih 0 (by omega)).1 p
theorem d_gap {n p : Nat} (sb : A) (hp : p ≤ n) (hn : n ≤ 65536) (gw gh a b c : Int32) :
    (p < sk sb n (n - p) 0 ∧ sk sb n (n - p) 0 ≤ n ∧ F_X5_passGap (Sr n p) sb = fok () (Sr n (sk sb n (n - p) 0)) ∧ F_X11_gap sb (Mr n p gw gh a b c) = fok 1 (Mr n (sk sb n (n - p) 0) gw gh a b c)) ∨
    ∃ k w, k ≠ 0 ∧ F_X5_passGap (Sr n p) sb = fex ISE (nI n, nI p, k, w) ∧ F_X11_gap sb (Mr n p gw gh a b c) = fok 0 (nI n, nI p, k, w, gw, gh, a, b, c) := by
  have hs := sk_in sb n (n - p) 0 (by omega)
  have ug : F_X11_gap sb (Mr n p gw gh a b c) = if sk sb n (n - p) 0 ≤ p then (if p = n then fok 0 (nI n, nI p, 1, nI n, gw, gh, a, b, c) else fok 0 (nI n, nI p, 2, nI p, gw, gh, a, b, c)) else fok 1 (Mr n (sk sb n (n - p) 0) gw gh a b c) := by
    unfold F_X11_gap
    rw [r_skip sb hp hn, fon_fok]
    dsimp only [mr_size, mr_pos]
    by_cases c1 : sk sb n (n - p) 0 ≤ p
    · have e : sk sb n (n - p) 0 = p := by omega
      rw [if_pos c1, e, if_pos (Int32.le_refl _), wr_eq, fon_fok, wr_eq, fon_fok]
      simp only [if_pos (show isB 0 from Or.inl rfl)]
      by_cases c2 : p = n
      · rw [if_pos c2, if_pos (by rw [c2])]
      · rw [if_neg c2, if_neg (fun e => c2 ((nI_eq (by omega) (by omega)).mp e))]
    · rw [if_neg c1, if_neg (nI_ge (by omega) (by omega))]
  unfold F_X5_passGap F_X5_passGap_41
  dsimp only [sc_size, sc_pos]
  by_cases c0 : p = n
  · subst c0
    rw [pk_no sb (Nat.le_refl _) hn, fon_fok, if_pos rfl, rf_eq, fon_fex, ug, if_pos (by omega), if_pos rfl]
    exact Or.inr ⟨1, nI p, by decide, rfl, rfl⟩
  · have hb := bt_lt sb p
    rw [pk_ok sb (by omega) hn, fon_fok, if_neg (by (simp (disch := omega) only [nI_toInt, Int32.lt_iff_toInt_lt, Int32.le_iff_toInt_le, ← Int32.toInt_inj, Int32.reduceToInt]; omega)), c_skip sb hp hn, fon_fok, rf_eq, fon_fex]
    by_cases c2 : isbl (bt sb p)
    · have := sk_go (n := n) (by omega) (Or.inr c2)
      rw [blank_eq, blank_y c2 hb, if_neg (by decide), ug, if_neg (by omega)]
      exact Or.inl ⟨this, hs.2, rfl, rfl⟩
    · rw [blank_eq, blank_n c2 hb, if_pos rfl]
      by_cases c1 : bt sb p = 35
      · have := sk_go (n := n) (by omega) (Or.inl c1)
        rw [if_pos (by rw [c1]; rfl), ug, if_neg (by omega)]
        exact Or.inl ⟨this, hs.2, rfl, rfl⟩
      · have := sk_stay (n := n) (by omega) c1 c2
        rw [if_neg (by (simp (disch := omega) only [nI_toInt, Int32.lt_iff_toInt_lt, Int32.le_iff_toInt_le, ← Int32.toInt_inj, Int32.reduceToInt]; omega)), ug, if_pos (by omega), if_neg c0]
        exact Or.inr ⟨2, nI p, by decide, rfl, rfl⟩
/-- the digits on, m bytes before the end: value and place -/
def nm (sb : A) (n : Nat) : Nat → Nat → Nat × Nat
  | 0, v => (v, n)
  | m + 1, v => if 48 ≤ bt sb (n - (m + 1)) ∧ bt sb (n - (m + 1)) ≤ 57 then nm sb n m (min (10 * v + bt sb (n - (m + 1)) - 48) 1000000) else (v, n - (m + 1))
theorem nm_s (sb : A) (n m v : Nat) : nm sb n (m + 1) v = if 48 ≤ bt sb (n - (m + 1)) ∧ bt sb (n - (m + 1)) ≤ 57 then nm sb n m (min (10 * v + bt sb (n - (m + 1)) - 48) 1000000) else (v, n - (m + 1)) := rfl
theorem nm_in (sb : A) (n : Nat) : ∀ m v, m ≤ n → v ≤ 1000000 → n - m ≤ (nm sb n m v).2 ∧ (nm sb n m v).2 ≤ n ∧ (nm sb n m v).1 ≤ 1000000
  | 0, v, _, hv => ⟨by unfold nm; omega, by unfold nm; omega, hv⟩
  | m + 1, v, h, hv => by
    have h0 := nm_in sb n m (min (10 * v + bt sb (n - (m + 1)) - 48) 1000000) (by omega) (by omega)
    rw [nm_s]
    split
    · omega
    · exact ⟨by simp, by simp, hv⟩
theorem dig_y {b : Nat} (h : 48 ≤ b ∧ b ≤ 57) : F_X5_isDigit (nI b) = 1 := by
  unfold F_X5_isDigit; rw [if_neg (by (simp (disch := omega) only [nI_toInt, Int32.lt_iff_toInt_lt, Int32.le_iff_toInt_le, ← Int32.toInt_inj, Int32.reduceToInt]; omega)), if_neg (by (simp (disch := omega) only [nI_toInt, Int32.lt_iff_toInt_lt, Int32.le_iff_toInt_le, ← Int32.toInt_inj, Int32.reduceToInt]; omega))]
theorem dig_n {b : Nat} (h : ¬ (48 ≤ b ∧ b ≤ 57)) (hb : b < 256) : F_X5_isDigit (nI b) = 0 := by
  unfold F_X5_isDigit
  by_cases c : b < 48
  · rw [if_pos (by (simp (disch := omega) only [nI_toInt, Int32.lt_iff_toInt_lt, Int32.le_iff_toInt_le, ← Int32.toInt_inj, Int32.reduceToInt]; omega))]
  · rw [if_neg (by (simp (disch := omega) only [nI_toInt, Int32.lt_iff_toInt_lt, Int32.le_iff_toInt_le, ← Int32.toInt_inj, Int32.reduceToInt]; omega)), if_pos (by (simp (disch := omega) only [nI_toInt, Int32.lt_iff_toInt_lt, Int32.le_iff_toInt_le, ← Int32.toInt_inj, Int32.reduceToInt]; omega))]
theorem n10 {v b : Nat} (hb : 48 ≤ b) : (10 : Int32) * nI v + nI b - 48 = nI (10 * v + b - 48) := by
  rw [show (10 : Int32) = nI 10 from rfl, show (48 : Int32) = nI 48 from rfl, pk_mul, nI_add, pk_sub (by omega)]
theorem c_num {n p v : Nat} (sb : A) (hp : p ≤ n) (hn : n ≤ 65536) (hv : v ≤ 1000000) (pn : Pnm) : lp (fun _ _ _ => fno) (F_X5_readNumber_34 sb) FU (nI v) (Sr n p) pn = fok (nI (nm sb n (n - p) v).1) (Sr n (nm sb n (n - p) v).2, pn) := by
  have q := lp_M (z := fun _ _ _ => fno) (f := F_X5_readNumber_34 sb) (fun m k => ∀ p v, p + m = n → v ≤ 1000000 → k (nI v) (Sr n p) pn = fok (nI (nm sb n m v).1) (Sr n (nm sb n m v).2, pn)) ?_ (n - p) (by omega)
  · exact q p v (by omega) hv
  · intro m k ih p v hm hv
    unfold F_X5_readNumber_34 F_X5_readNumber_86
    dsimp only [sc_size, sc_pos, sc_ft, sc_fp]
    by_cases c0 : m = 0
    · subst c0
      rw [if_pos (nI_le (by omega) (by omega)), show p = n from by omega]; rfl
    · have hb := bt_lt sb p
      obtain ⟨m1, rfl⟩ : ∃ m1, m = m1 + 1 := ⟨m - 1, by omega⟩
      rw [if_neg (nI_ge (by omega) (by omega)), pk_ok sb (by omega) hn, fon_fok, fon_fok, nm_s, show n - (m1 + 1) = p from by omega, nI_1]
      by_cases c1 : 48 ≤ bt sb p ∧ bt sb p ≤ 57
      · rw [dig_y c1, if_neg (by decide), if_pos c1, n10 c1.1, ← ih m1 (by omega) (p + 1) _ (by omega) (by omega)]
        congr 1
        unfold iMin
        by_cases c2 : 10 * v + bt sb p - 48 ≤ 1000000
        · rw [if_neg (by (simp (disch := omega) only [nI_toInt, Int32.lt_iff_toInt_lt, Int32.le_iff_toInt_le, ← Int32.toInt_inj, Int32.reduceToInt]; omega)), Nat.min_eq_left c2]
        · rw [if_pos (by (simp (disch := omega) only [nI_toInt, Int32.lt_iff_toInt_lt, Int32.le_iff_toInt_le, ← Int32.toInt_inj, Int32.reduceToInt]; omega)), Nat.min_eq_right (by omega)]; rfl
      · rw [dig_n c1 hb, if_pos rfl, if_neg c1]
theorem r_num {n p v : Nat} (sb : A) (hp : p ≤ n) (hn : n ≤ 65536) (hv : v ≤ 1000000) (gw gh a b c : Int32) : lp (fun _ _ => fno) (F_X11_number_63 sb) FU (nI v) (Mr n p gw gh a b c) = fok (nI (nm sb n (n - p) v).1) (Mr n (nm sb n (n - p) v).2 gw gh a b c) := by
  have q := lp_M (z := fun _ _ => fno) (f := F_X11_number_63 sb) (fun m k => ∀ p v, p + m = n → v ≤ 1000000 → k (nI v) (Mr n p gw gh a b c) = fok (nI (nm sb n m v).1) (Mr n (nm sb n m v).2 gw gh a b c)) ?_ (n - p) (by omega)
  · exact q p v (by omega) hv
  · intro m k ih p v hm hv
    unfold F_X11_number_63 F_X11_number_139 F_X11_number_126
    dsimp only [mr_size, mr_pos, mr_kind, mr_whr, mr_gw, mr_gh, mr_one, mr_two, mr_three]
    by_cases c0 : m = 0
    · subst c0
      rw [if_pos (nI_le (by omega) (by omega)), show p = n from by omega]; rfl
    · have hb := bt_lt sb p
      obtain ⟨m1, rfl⟩ : ∃ m1, m = m1 + 1 := ⟨m - 1, by omega⟩
      rw [if_neg (nI_ge (by omega) (by omega)), b_ok sb (by omega), fon_fok, fon_fok, fon_fok, nm_s, show n - (m1 + 1) = p from by omega, nI_1]
      by_cases c1 : 48 ≤ bt sb p ∧ bt sb p ≤ 57
      · have r := ih m1 (by omega) (p + 1) _ (by omega) (Nat.min_le_right (10 * v + bt sb p - 48) 1000000)
        rw [if_neg (c := nI (bt sb p) < 48) (by (simp (disch := omega) only [nI_toInt, Int32.lt_iff_toInt_lt, Int32.le_iff_toInt_le, ← Int32.toInt_inj, Int32.reduceToInt]; omega)), if_neg (c := 57 < nI (bt sb p)) (by (simp (disch := omega) only [nI_toInt, Int32.lt_iff_toInt_lt, Int32.le_iff_toInt_le, ← Int32.toInt_inj, Int32.reduceToInt]; omega)), if_pos c1, n10 c1.1, ← r]
        by_cases c2 : 10 * v + bt sb p - 48 ≤ 1000000
        · rw [if_pos (by (simp (disch := omega) only [nI_toInt, Int32.lt_iff_toInt_lt, Int32.le_iff_toInt_le, ← Int32.toInt_inj, Int32.reduceToInt]; omega)), Nat.min_eq_left c2]
        · rw [if_neg (by (simp (disch := omega) only [nI_toInt, Int32.lt_iff_toInt_lt, Int32.le_iff_toInt_le, ← Int32.toInt_inj, Int32.reduceToInt]; omega)), Nat.min_eq_right (by omega)]; rfl
      · rw [if_neg c1]
        by_cases c2 : bt sb p < 48
        · rw [if_pos (by (simp (disch := omega) only [nI_toInt, Int32.lt_iff_toInt_lt, Int32.le_iff_toInt_le, ← Int32.toInt_inj, Int32.reduceToInt]; omega))]
        · rw [if_neg (by (simp (disch := omega) only [nI_toInt, Int32.lt_iff_toInt_lt, Int32.le_iff_toInt_le, ← Int32.toInt_inj, Int32.reduceToInt]; omega)), if_pos (by (simp (disch := omega) only [nI_toInt, Int32.lt_iff_toInt_lt, Int32.le_iff_toInt_le, ← Int32.toInt_inj, Int32.reduceToInt]; omega))]
/-- the value and the end of a number at p -/
def num (sb : A) (n p : Nat) : Nat × Nat := nm sb n (n - (p + 1)) (bt sb p - 48)
theorem cn_ok {n p : Nat} (sb : A) (hp : p < n) (hn : n ≤ 65536) (h : 48 ≤ bt sb p ∧ bt sb p ≤ 57) (pn : Pnm) : F_X5_readNumber (Sr n p) sb pn = fok (nI (num sb n p).1) (Sr n (num sb n p).2, ((pn_f1 pn), (pn_f2 pn), (pn_f3 pn), nI p)) := by
  unfold F_X5_readNumber
  dsimp only [sc_pos]
  rw [nx_ok sb hp hn, fon_fok, dig_y h, if_neg (by decide), show (48 : Int32) = nI 48 from rfl, pk_sub h.1, c_num sb (by omega) hn (by omega)]
  rfl
theorem num_in {sb : A} {n p : Nat} (hp : p < n) (h : 48 ≤ bt sb p ∧ bt sb p ≤ 57) : p < (num sb n p).2 ∧ (num sb n p).2 ≤ n ∧ (num sb n p).1 ≤ 1000000 := by
  have := nm_in sb n (n - (p + 1)) (bt sb p - 48) (by omega) (by omega)
  unfold num
  omega
theorem d_num {n p : Nat} (sb : A) (hp : p ≤ n) (hn : n ≤ 65536) (pn : Pnm) (gw gh a b c : Int32) :
    (p < (num sb n p).2 ∧ (num sb n p).2 ≤ n ∧ (num sb n p).1 ≤ 1000000 ∧ F_X5_readNumber (Sr n p) sb pn = fok (nI (num sb n p).1) (Sr n (num sb n p).2, ((pn_f1 pn), (pn_f2 pn), (pn_f3 pn), nI p)) ∧ F_X11_number sb (Mr n p gw gh a b c) = fok (nI (num sb n p).1) (Mr n (num sb n p).2 gw gh a b c)) ∨
    ∃ e k w, k ≠ 0 ∧ F_X5_readNumber (Sr n p) sb pn = fex ISE ((nI n, e, k, w), ((pn_f1 pn), (pn_f2 pn), (pn_f3 pn), nI p)) ∧ F_X11_number sb (Mr n p gw gh a b c) = fok (-1) (nI n, nI p, k, w, gw, gh, a, b, c) := by
  by_cases c0 : p = n
  · subst c0
    refine Or.inr ⟨nI p, 1, nI p, by decide, ?_, ?_⟩
    · unfold F_X5_readNumber
      rw [nx_no sb (Nat.le_refl _) hn, fon_fex]
    · unfold F_X11_number
      dsimp only [mr_size, mr_pos]
      rw [if_pos rfl, wr_eq, fon_fok]
  · have hb := bt_lt sb p
    have ne : ¬ nI p = nI n := fun e => c0 ((nI_eq (by omega) (by omega)).mp e)
    by_cases c1 : 48 ≤ bt sb p ∧ bt sb p ≤ 57
    · have h3 := num_in (n := n) (by omega) c1
      refine Or.inl ⟨h3.1, h3.2.1, h3.2.2, cn_ok sb (by omega) hn c1 pn, ?_⟩
      unfold F_X11_number
      dsimp only [mr_size, mr_pos]
      rw [if_neg ne, b_ok sb (by omega), fon_fok, fon_fok, if_neg (by (simp (disch := omega) only [nI_toInt, Int32.lt_iff_toInt_lt, Int32.le_iff_toInt_le, ← Int32.toInt_inj, Int32.reduceToInt]; omega)), if_pos (by (simp (disch := omega) only [nI_toInt, Int32.lt_iff_toInt_lt, Int32.le_iff_toInt_le, ← Int32.toInt_inj, Int32.reduceToInt]; omega))]
      have r := r_num (v := 0) sb hp hn (by omega) gw gh a b c
      rw [show nI 0 = 0 from rfl] at r
      rw [r, show n - p = (n - (p + 1)) + 1 from by omega, nm_s, show n - (n - (p + 1) + 1) = p from by omega, if_pos c1, show min (10 * 0 + bt sb p - 48) 1000000 = bt sb p - 48 from by omega]
      rfl
    · refine Or.inr ⟨nI (p + 1), 2, nI p, by decide, ?_, ?_⟩
      · unfold F_X5_readNumber
        dsimp only [sc_pos]
        rw [nx_ok sb (by omega) hn, fon_fok, dig_n c1 hb, if_pos rfl, rf_eq, fon_fex]
      · unfold F_X11_number F_X11_number_49
        dsimp only [mr_size, mr_pos]
        rw [if_neg ne, b_ok sb (by omega), fon_fok, fon_fok, wr_eq, fon_fok]
        by_cases c2 : bt sb p < 48
        · rw [if_pos (by (simp (disch := omega) only [nI_toInt, Int32.lt_iff_toInt_lt, Int32.le_iff_toInt_le, ← Int32.toInt_inj, Int32.reduceToInt]; omega))]
        · rw [if_neg (by (simp (disch := omega) only [nI_toInt, Int32.lt_iff_toInt_lt, Int32.le_iff_toInt_le, ← Int32.toInt_inj, Int32.reduceToInt]; omega)), if_neg (by (simp (disch := omega) only [nI_toInt, Int32.lt_iff_toInt_lt, Int32.le_iff_toInt_le, ← Int32.toInt_inj, Int32.reduceToInt]; omega))]
