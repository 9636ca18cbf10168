/-- what two readers come to; the reference may stand anywhere at the end -/
def DRw {F G : Type} (n : Nat) (C : Out (Ras × Src × F) Unit) (R : Out (MR × G) Int32) (f1 f2 f3 : F → Int32) (g : G → A) : Prop :=
  (∃ (W H : Nat) (px : A) (fm : F) (mr : MR) (gg : G), 1 ≤ W ∧ 1 ≤ H ∧ W ≤ 4096 ∧ H ≤ 4096 ∧ W * H ≤ 4096 ∧ C = fok () ((nI W, nI H, px), Sr n n, fm) ∧ R = fok 1 (mr, gg) ∧ mr_gw mr = nI W ∧ mr_gh mr = nI H ∧ f1 fm = mr_one mr ∧ f2 fm = mr_two mr ∧ f3 fm = mr_three mr ∧ ∀ p, p < W * H → px p = g gg p) ∨
  (∃ (x : Ras) (sc : Src) (fm : F) (mr : MR) (gg : G), C = fex ISE (x, sc, fm) ∧ R = fok 0 (mr, gg) ∧ Bad sc mr)
theorem DRw_of {F G : Type} {n : Nat} {C : Out (Ras × Src × F) Unit} {R : Out (MR × G) Int32} {f1 f2 f3 : F → Int32} {g : G → A} (h : DRes n C R f1 f2 f3 g) : DRw n C R f1 f2 f3 g := by
  rcases h with ⟨W, H, px, fm, one, two, three, gg, h1, h2, h3, h4, h5, e1, e2, a1, a2, a3, hx⟩ | h
  · exact Or.inl ⟨W, H, px, fm, _, gg, h1, h2, h3, h4, h5, e1, e2, rfl, rfl, a1, a2, a3, hx⟩
  · exact Or.inr h
theorem w_bad {F G : Type} {n : Nat} {C : Out (Ras × Src × F) Unit} {R : Out (MR × G) Int32} {f1 f2 f3 : F → Int32} {g : G → A} {x : Ras} {sc : Src} {fm : F} {mr : MR} {gg : G} (h1 : C = fex ISE (x, sc, fm)) (h2 : R = fok 0 (mr, gg)) (h3 : Bad sc mr) : DRw n C R f1 f2 f3 g := Or.inr ⟨x, sc, fm, mr, gg, h1, h2, h3⟩
/-- a colour of two, three or four bytes -/
def cv (sb : A) (p d ab : Nat) : Int32 := if d < 24 then F_X11_mix (F_X11_fifth ((nI (L2 sb p) >>> ((10 : Int32) &&& 31)) &&& 31)) (F_X11_fifth ((nI (L2 sb p) >>> ((5 : Int32) &&& 31)) &&& 31)) (F_X11_fifth (nI (L2 sb p) &&& 31)) (if ab = 1 ∧ bt sb (p + 1) < 128 then 0 else 255) else F_X11_mix (nI (bt sb (p + 2))) (nI (bt sb (p + 1))) (nI (bt sb p)) (if d = 32 ∧ ab = 8 then nI (bt sb (p + 3)) else 255)
def okD (d : Nat) : Prop := d = 15 ∨ d = 16 ∨ d = 24 ∨ d = 32
theorem cv_r {p d ab : Nat} (sb : A) (hd : okD d) (h : p + (d + 7) / 8 ≤ 65536) (hab : ab < 16) : F_X11_colour (nI p) (nI d) (nI ab) sb = fok (cv sb p d ab) () := by
  have hb := bt_lt sb p; have hb1 := bt_lt sb (p + 1)
  unfold F_X11_colour F_X11_colour_112 F_X11_colour_109 F_X11_colour_50 F_X11_colour_47 F_X11_colour_112 F_X11_colour_50 cv
  unfold okD at hd
  by_cases c : d < 24
  · rw [if_pos (c := nI d < 24) (by (simp (disch := omega) only [nI_toInt, Int32.lt_iff_toInt_lt, Int32.le_iff_toInt_le, ← Int32.toInt_inj, Int32.reduceToInt]; omega)), if_pos c, lowp2 sb (by omega), fon_fok, lN_i]
    have e15 : (nI (L2 sb p) >>> ((15 : Int32) &&& 31)) = nI (L2 sb p / 2 ^ 15) := pk_shrN (by have := L2_lt sb p; omega) _ 15 (by decide)
    have e3 : nI (L2 sb p / 2 ^ 15) = 0 ↔ bt sb (p + 1) < 128 := by
      rw [show (0 : Int32) = nI 0 from rfl, nI_inj (by have := L2_lt sb p; omega) (by omega)]
      unfold L2; omega
    rw [e15]
    by_cases c1 : ab = 1
    · rw [if_pos (c := nI ab = 1) (by rw [c1]; rfl)]
      by_cases c2 : bt sb (p + 1) < 128
      · rw [if_pos (e3.mpr c2), if_pos ⟨c1, c2⟩]
      · rw [if_neg (fun e => c2 (e3.mp e)), if_neg (fun e => c2 e.2)]
    · rw [if_neg (c := nI ab = 1) (by (simp (disch := omega) only [nI_toInt, Int32.lt_iff_toInt_lt, Int32.le_iff_toInt_le, ← Int32.toInt_inj, Int32.reduceToInt]; omega)), if_neg (fun e => c1 e.1)]
  · rw [if_neg (c := nI d < 24) (by (simp (disch := omega) only [nI_toInt, Int32.lt_iff_toInt_lt, Int32.le_iff_toInt_le, ← Int32.toInt_inj, Int32.reduceToInt]; omega)), if_neg c, show nI p + 2 = nI (p + 2) from nI_add _ 2, nI_1, b_ok sb (by omega), fon_fok, b_ok sb (by omega), fon_fok, b_ok sb (by omega), fon_fok]
    by_cases c1 : d = 32
    · rw [if_pos (c := nI d = 32) (by rw [c1]; rfl)]
      by_cases c2 : ab = 8
      · rw [if_pos (c := nI ab = 8) (by rw [c2]; rfl), show nI p + 3 = nI (p + 3) from nI_add _ 3, b_ok sb (by omega), fon_fok, if_pos ⟨c1, c2⟩]
      · rw [if_neg (c := nI ab = 8) (by (simp (disch := omega) only [nI_toInt, Int32.lt_iff_toInt_lt, Int32.le_iff_toInt_le, ← Int32.toInt_inj, Int32.reduceToInt]; omega)), if_neg (fun e => c2 e.2)]
    · rw [if_neg (c := nI d = 32) (by (simp (disch := omega) only [nI_toInt, Int32.lt_iff_toInt_lt, Int32.le_iff_toInt_le, ← Int32.toInt_inj, Int32.reduceToInt]; omega)), if_neg (fun e => c1 e.1)]
theorem cv_c {n p d ab : Nat} (sb : A) (hd : okD d) (hp : p ≤ n) (hn : n ≤ 65536) (hab : ab < 16) (tg : Tga) (ht : tg_ab tg = nI ab) : F_X9_readColour (nI d) (Sr n p) sb tg = if p + (d + 7) / 8 ≤ n then fok (cv sb p d ab) (Sr n (p + (d + 7) / 8)) else fex ISE (nI n, nI n, 1, nI n) := by
  have hb := bt_lt sb p; have hb1 := bt_lt sb (p + 1)
  unfold okD at hd
  unfold F_X9_readColour F_X9_readColour_96 F_X9_readColour_120 F_X9_readColour_48 F_X9_readColour_49 F_X9_readColour_70
  rw [ht]
  by_cases c1 : p < n
  case neg => rw [nx_no sb (by omega) (by omega), fon_fex, if_neg (by omega), show p = n from by omega]
  rw [nx_ok sb c1 hn, fon_fok, if_neg (c := nI d = 8) (by (simp (disch := omega) only [nI_toInt, Int32.lt_iff_toInt_lt, Int32.le_iff_toInt_le, ← Int32.toInt_inj, Int32.reduceToInt]; omega))]
  by_cases c2 : p + 1 < n
  case neg => rw [nx_no sb (by omega) (by omega), fon_fex, if_neg (by omega), show p + 1 = n from by omega]
  rw [nx_ok sb c2 hn, fon_fok]
  by_cases c : d < 24
  · rw [if_neg (c := 16 < nI d) (by (simp (disch := omega) only [nI_toInt, Int32.lt_iff_toInt_lt, Int32.le_iff_toInt_le, ← Int32.toInt_inj, Int32.reduceToInt]; omega)), if_pos (c := p + (d + 7) / 8 ≤ n) (by omega), or8 hb (by omega)]
    unfold cv
    rw [if_pos c, show p + (d + 7) / 8 = p + 1 + 1 from by omega]
    by_cases c3 : ab = 1
    · rw [if_pos (c := nI ab = 1) (by rw [c3]; rfl)]
      by_cases c4 : bt sb (p + 1) < 128
      · rw [if_neg (c := 128 ≤ nI (bt sb (p + 1))) (by (simp (disch := omega) only [nI_toInt, Int32.lt_iff_toInt_lt, Int32.le_iff_toInt_le, ← Int32.toInt_inj, Int32.reduceToInt]; omega)), if_neg (c := (1 : Int32) = 0) (by decide), if_pos ⟨c3, c4⟩]
        rfl
      · rw [if_pos (c := 128 ≤ nI (bt sb (p + 1))) (by (simp (disch := omega) only [nI_toInt, Int32.lt_iff_toInt_lt, Int32.le_iff_toInt_le, ← Int32.toInt_inj, Int32.reduceToInt]; omega)), if_pos (c := (0 : Int32) = 0) rfl, if_neg (fun e => c4 e.2)]
        rfl
    · rw [if_neg (c := nI ab = 1) (by (simp (disch := omega) only [nI_toInt, Int32.lt_iff_toInt_lt, Int32.le_iff_toInt_le, ← Int32.toInt_inj, Int32.reduceToInt]; omega)), if_pos (c := (0 : Int32) = 0) rfl, if_neg (fun e => c3 e.1)]
      rfl
  · rw [if_pos (c := 16 < nI d) (by (simp (disch := omega) only [nI_toInt, Int32.lt_iff_toInt_lt, Int32.le_iff_toInt_le, ← Int32.toInt_inj, Int32.reduceToInt]; omega))]
    by_cases c5 : p + 1 + 1 < n
    case neg => rw [nx_no sb (by omega) (by omega), fon_fex, if_neg (by omega), show p + 1 + 1 = n from by omega]
    rw [nx_ok sb c5 hn, fon_fok]
    unfold cv
    rw [if_neg c]
    by_cases c6 : d = 32
    · subst c6
      rw [if_pos (c := nI 32 = 32) rfl]
      by_cases c7 : p + 1 + 1 + 1 < n
      case neg => rw [nx_no sb (by omega) (by omega), fon_fex, if_neg (by omega), show p + 1 + 1 + 1 = n from by omega]
      rw [nx_ok sb c7 hn, fon_fok, if_pos (c := p + (32 + 7) / 8 ≤ n) (by omega)]
      by_cases c8 : ab = 8
      · rw [if_pos (c := nI ab = 8) (by rw [c8]; rfl), if_pos ⟨rfl, c8⟩]; rfl
      · rw [if_neg (c := nI ab = 8) (by (simp (disch := omega) only [nI_toInt, Int32.lt_iff_toInt_lt, Int32.le_iff_toInt_le, ← Int32.toInt_inj, Int32.reduceToInt]; omega)), if_neg (fun e => c8 e.2)]; rfl
    · have h24 : d = 24 := by omega
      subst h24
      rw [if_neg (c := nI 24 = 32) (by decide), if_pos (c := p + (24 + 7) / 8 ≤ n) (by omega), if_neg (c := 24 = 32 ∧ ab = 8) (fun e => c6 e.1)]
      split <;> rfl
theorem en_mul {k m e : Nat} (h : k ≤ m) : k * e ≤ m * e := Nat.mul_le_mul_right e h
theorem en_c {n p fe mn d ab : Nat} (sb : A) (hd : okD d ∨ mn = 0) (hp : p ≤ n) (hn : n ≤ 65536) (hab : ab < 16) (hfe : fe < 65536) (hmn : mn < 65536) (f1 f2 f3 mp ty bi fl ix pa le li : Int32) (ent : A) :
    (p + mn * ((d + 7) / 8) ≤ n → ∃ ent2, F_X9_readEntries (Sr n p) sb (f1, f2, f3, mp, ty, nI fe, nI mn, nI d, bi, fl, nI ab, ix, pa, le, li, ent) = fok () (Sr n (p + mn * ((d + 7) / 8)), (f1, f2, f3, mp, ty, nI fe, nI mn, nI d, bi, fl, nI ab, ix, pa, le, li, ent2)) ∧ ∀ k, k < mn → fe + k < 256 → ent2 (fe + k) = cv sb (p + k * ((d + 7) / 8)) d ab) ∧
    (n < p + mn * ((d + 7) / 8) → ∃ tg, F_X9_readEntries (Sr n p) sb (f1, f2, f3, mp, ty, nI fe, nI mn, nI d, bi, fl, nI ab, ix, pa, le, li, ent) = fex ISE ((nI n, nI n, 1, nI n), tg)) := by
  unfold F_X9_readEntries
  generalize he : (d + 7) / 8 = e
  constructor
  · intro hle
    have q := lp_M (z := fun _ _ _ => fno) (f := F_X9_readEntries_2 sb) (fun m k => ∀ (j : Nat) (ent : A), j + m = mn → (∀ k, k < j → fe + k < 256 → ent (fe + k) = cv sb (p + k * e) d ab) → ∃ ent2, k (nI j) (Sr n (p + j * e)) (f1, f2, f3, mp, ty, nI fe, nI mn, nI d, bi, fl, nI ab, ix, pa, le, li, ent) = fok () (Sr n (p + mn * e), (f1, f2, f3, mp, ty, nI fe, nI mn, nI d, bi, fl, nI ab, ix, pa, le, li, ent2)) ∧ ∀ k, k < mn → fe + k < 256 → ent2 (fe + k) = cv sb (p + k * e) d ab) ?_ mn (by omega)
    · have := q 0 ent (by omega) (fun k hk => absurd hk (by omega))
      rw [Nat.zero_mul] at this
      exact this
    · intro m k ih j ent hj hent
      unfold F_X9_readEntries_2 F_X9_readEntries_44
      dsimp only [tg_f1, tg_f2, tg_f3, tg_map, tg_type, tg_fe, tg_many, tg_deep, tg_bits, tg_flags, tg_ab, tg_idx, tg_packets, tg_left, tg_like, tg_ent]
      by_cases c0 : m = 0
      · have : j = mn := by omega
        subst this
        rw [if_pos (Int32.le_refl _)]
        exact ⟨ent, rfl, hent⟩
      · have hm := en_mul (e := e) (show j + 1 ≤ mn by omega)
        rw [Nat.succ_mul] at hm
        have hd2 : okD d := by rcases hd with hd | hd; exact hd; omega
        rw [if_neg (nI_ge (by omega) (by omega)), cv_c sb hd2 (by omega) hn hab _ rfl, he, if_pos (by omega), fon_fok, nI_1, nI_add, show p + j * e + e = p + (j + 1) * e from by rw [Nat.succ_mul]; omega]
        by_cases c1 : 256 ≤ fe + j
        · rw [if_pos (c := 256 ≤ nI (fe + j)) (by (simp (disch := omega) only [nI_toInt, Int32.lt_iff_toInt_lt, Int32.le_iff_toInt_le, ← Int32.toInt_inj, Int32.reduceToInt]; omega))]
          refine ih (m - 1) (by omega) (j + 1) ent (by omega) (fun k hk hk2 => hent k (by omega) hk2)
        · rw [if_neg (c := 256 ≤ nI (fe + j)) (by (simp (disch := omega) only [nI_toInt, Int32.lt_iff_toInt_lt, Int32.le_iff_toInt_le, ← Int32.toInt_inj, Int32.reduceToInt]; omega)), if_pos (inb_nI (by omega) (by omega)), nI_clamp (by omega)]
          refine ih (m - 1) (by omega) (j + 1) _ (by omega) (fun k hk hk2 => ?_)
          by_cases ck : k = j
          · subst ck; rw [pk_us]
          · rw [pk_un (by omega)]; exact hent k (by omega) hk2
  · intro hlt
    have q := lp_M (z := fun _ _ _ => fno) (f := F_X9_readEntries_2 sb) (fun m k => ∀ (j : Nat) (ent : A), j + m = mn → p + j * e ≤ n → ∃ tg, k (nI j) (Sr n (p + j * e)) (f1, f2, f3, mp, ty, nI fe, nI mn, nI d, bi, fl, nI ab, ix, pa, le, li, ent) = fex ISE ((nI n, nI n, 1, nI n), tg)) ?_ mn (by omega)
    · have := q 0 ent (by omega) (by omega)
      rw [Nat.zero_mul] at this
      exact this
    · intro m k ih j ent hj hje
      unfold F_X9_readEntries_2 F_X9_readEntries_44
      dsimp only [tg_f1, tg_f2, tg_f3, tg_map, tg_type, tg_fe, tg_many, tg_deep, tg_bits, tg_flags, tg_ab, tg_idx, tg_packets, tg_left, tg_like, tg_ent]
      have hj2 : j < mn := by
        rcases Nat.lt_or_ge j mn with h | h
        · exact h
        · have := en_mul (e := e) h; omega
      have hd2 : okD d := by rcases hd with hd | hd; exact hd; omega
      rw [if_neg (nI_ge (by omega) (by omega)), cv_c sb hd2 (by omega) hn hab _ rfl, he]
      by_cases c1 : p + j * e + e ≤ n
      · rw [if_pos c1, fon_fok, nI_1, nI_add, show p + j * e + e = p + (j + 1) * e from by rw [Nat.succ_mul]; omega]
        have hs : p + (j + 1) * e ≤ n := by rw [Nat.succ_mul]; omega
        by_cases c2 : 256 ≤ fe + j
        · rw [if_pos (c := 256 ≤ nI (fe + j)) (by (simp (disch := omega) only [nI_toInt, Int32.lt_iff_toInt_lt, Int32.le_iff_toInt_le, ← Int32.toInt_inj, Int32.reduceToInt]; omega))]
          exact ih (m - 1) (by omega) (j + 1) ent (by omega) hs
        · rw [if_neg (c := 256 ≤ nI (fe + j)) (by (simp (disch := omega) only [nI_toInt, Int32.lt_iff_toInt_lt, Int32.le_iff_toInt_le, ← Int32.toInt_inj, Int32.reduceToInt]; omega)), if_pos (inb_nI (by omega) (by omega))]
          exact ih (m - 1) (by omega) (j + 1) _ (by omega) hs
      · rw [if_neg c1, fon_fex]; exact ⟨_, rfl⟩
theorem en_r {n p mn d ab e : Nat} (sb : A) (hd : okD d ∨ mn = 0) (he : (d + 7) / 8 = e) (hn : n ≤ 65536) (hab : ab < 16) (hmn : mn < 65536) (hle : p + mn * e ≤ n) (v3 v4 v5 v6 v11 v12 gw gh one two three : Int32) (gt ta : A) :
    ∃ ta2, lp (fun _ _ _ _ _ _ _ _ _ _ _ _ _ _ => fno) (F_X11_readTarga_645 sb) FU v3 v4 v5 v6 (nI mn) (nI d) v11 v12 (nI ab) (nI e) 0 (Mr n p gw gh one two three) gt ta = lp (fun _ _ _ _ _ _ _ _ _ _ _ _ _ _ _ => fno) (F_X11_readTarga_721 sb) FU v3 v4 v5 v6 (nI mn) v11 v12 (nI ab) 0 0 0 0 (Mr n (p + mn * e) gw gh v3 v11 0) gt ta2 ∧ (¬ v4 = 0 → ∀ k, k < mn → ta2 k = cv sb (p + k * e) d ab) := by
  have q := lp_M (z := fun _ _ _ _ _ _ _ _ _ _ _ _ _ _ => fno) (f := F_X11_readTarga_645 sb) (fun m k => ∀ (j : Nat) (ta : A), j + m = mn → (¬ v4 = 0 → ∀ k, k < j → ta k = cv sb (p + k * e) d ab) → ∃ ta2, k v3 v4 v5 v6 (nI mn) (nI d) v11 v12 (nI ab) (nI e) (nI j) (Mr n (p + j * e) gw gh one two three) gt ta = lp (fun _ _ _ _ _ _ _ _ _ _ _ _ _ _ _ => fno) (F_X11_readTarga_721 sb) FU v3 v4 v5 v6 (nI mn) v11 v12 (nI ab) 0 0 0 0 (Mr n (p + mn * e) gw gh v3 v11 0) gt ta2 ∧ (¬ v4 = 0 → ∀ k, k < mn → ta2 k = cv sb (p + k * e) d ab)) ?_ mn (by omega)
  · have := q 0 ta (by omega) (fun _ k hk => absurd hk (by omega))
    rw [Nat.zero_mul] at this
    exact this
  · intro m k ih j ta hj hta
    unfold F_X11_readTarga_645 F_X11_readTarga_676
    dsimp only [mr_size, mr_pos, mr_kind, mr_whr, mr_gw, mr_gh, mr_one, mr_two, mr_three]
    by_cases c0 : m = 0
    · have : j = mn := by omega
      subst this
      rw [if_pos (Int32.le_refl _)]
      exact ⟨ta, rfl, hta⟩
    · have hm := en_mul (e := e) (show j + 1 ≤ mn by omega)
      rw [Nat.succ_mul] at hm
      have hd2 : okD d := by rcases hd with hd | hd; exact hd; omega
      rw [if_neg (nI_ge (by omega) (by omega)), nI_1, nI_add, show p + j * e + e = p + (j + 1) * e from by rw [Nat.succ_mul]; omega]
      by_cases c1 : v4 = 0
      · rw [if_pos c1]
        exact ih (m - 1) (by omega) (j + 1) ta (by omega) (fun h => absurd c1 h)
      · rw [if_neg c1, cv_r sb hd2 (by omega) hab, fon_fok, if_pos (inb_nI (by omega) (by omega)), nI_clamp (by omega)]
        refine ih (m - 1) (by omega) (j + 1) _ (by omega) (fun _ k hk => ?_)
        by_cases ck : k = j
        · subst ck; rw [pk_us]
        · rw [pk_un ck]; exact hta c1 k (by omega)
/-- the footer's signs -/
def fcz (k : Nat) : Int32 := if 8 ≤ k ∧ k < 25 then footC (nI (k - 8)) else 0
theorem foot {n p : Nat} (sb : A) (hp : p ≤ n) (hn : n ≤ 65536) (h26 : n = p + 26) (gw gh one two three : Int32) :
    (lp (fun _ _ _ _ => fno) (F_X9_readFooter_33 sb) FU (nI p) 1 0 (Sr n p) = fok () (Sr n n) ∧ lp (fun _ _ => fno) (F_X11_isTail_23 sb (Mr n p gw gh one two three)) FU 1 0 = fok 1 ()) ∨
    (∃ e, lp (fun _ _ _ _ => fno) (F_X9_readFooter_33 sb) FU (nI p) 1 0 (Sr n p) = fex ISE (nI n, e, 5, nI p) ∧ lp (fun _ _ => fno) (F_X11_isTail_23 sb (Mr n p gw gh one two three)) FU 1 0 = fok 0 ()) := by
  have q := lp_D (z := fun _ _ _ _ => fno) (f := F_X9_readFooter_33 sb) (z2 := fun _ _ => fno) (f2 := F_X11_isTail_23 sb (Mr n p gw gh one two three)) (fun m k1 k2 => ∀ j, j + m = 26 → (∀ q, k1 (nI p) 0 (nI j) (Sr n q) = fex ISE (nI n, nI q, 5, nI p)) ∧ k2 0 (nI j) = fok 0 () ∧ ((k1 (nI p) 1 (nI j) (Sr n (p + j)) = fok () (Sr n n) ∧ k2 1 (nI j) = fok 1 ()) ∨ (∃ e, k1 (nI p) 1 (nI j) (Sr n (p + j)) = fex ISE (nI n, e, 5, nI p) ∧ k2 1 (nI j) = fok 0 ()))) ?_ 26 (by omega)
  · exact (q 0 (by omega)).2.2
  · intro m k1 k2 ih j hj
    refine ⟨fun q => ?_, ?_, ?_⟩
    · unfold F_X9_readFooter_33 F_X9_readFooter_106
      rw [if_pos rfl, if_pos rfl, rf_eq, fon_fex]
    · unfold F_X11_isTail_23 F_X11_isTail_74 F_X11_isTail_75
      by_cases c0 : m = 0
      · rw [if_pos (by (simp (disch := omega) only [nI_toInt, Int32.lt_iff_toInt_lt, Int32.le_iff_toInt_le, ← Int32.toInt_inj, Int32.reduceToInt]; omega)), if_pos (Or.inl rfl)]
      · rw [if_neg (by (simp (disch := omega) only [nI_toInt, Int32.lt_iff_toInt_lt, Int32.le_iff_toInt_le, ← Int32.toInt_inj, Int32.reduceToInt]; omega)), if_pos rfl, nI_1]
        exact (ih (m - 1) (by omega) (j + 1) (by omega)).2.1
    · unfold F_X9_readFooter_33 F_X9_readFooter_106 F_X11_isTail_23
      rw [if_neg (c := (1 : Int32) = 0) (by decide)]
      by_cases c0 : m = 0
      · have : j = 26 := by omega
        subst this
        rw [if_pos (c := 26 ≤ nI 26) (by decide), if_neg (c := (1 : Int32) = 0) (by decide), if_pos (c := 26 ≤ nI 26) (by decide), if_pos (c := isB 1) (Or.inr rfl), show p + 26 = n from by omega]
        exact Or.inl ⟨rfl, rfl⟩
      · have r := ih (m - 1) (by omega) (j + 1) (by omega)
        rw [if_neg (c := 26 ≤ nI j) (by (simp (disch := omega) only [nI_toInt, Int32.lt_iff_toInt_lt, Int32.le_iff_toInt_le, ← Int32.toInt_inj, Int32.reduceToInt]; omega)), if_neg (c := 26 ≤ nI j) (by (simp (disch := omega) only [nI_toInt, Int32.lt_iff_toInt_lt, Int32.le_iff_toInt_le, ← Int32.toInt_inj, Int32.reduceToInt]; omega)), if_neg (c := (1 : Int32) = 0) (by decide)]
        unfold F_X9_readFooter_68 F_X9_readFooter_69 F_X9_readFooter_91 F_X9_readFooter_99 F_X11_isTail_66 F_X11_isTail_67 F_X11_isTail_74 F_X11_isTail_75
        dsimp only [mr_pos]
        rw [nI_add, b_ok sb (by omega), fon_fok, nx_ok sb (by omega) hn, fon_fok, fon_fok, if_pos (c := (0 : Int32) = 0) rfl, if_neg (c := (1 : Int32) = 0) (by decide), nI_1]
        have fin : ∀ v : Int32, ((if nI (bt sb (p + j)) = v then k1 (nI p) 1 (nI (j + 1)) (Sr n (p + j + 1)) else k1 (nI p) 0 (nI (j + 1)) (Sr n (p + j + 1))) = fok () (Sr n n) ∧ (if nI (bt sb (p + j)) = v then k2 1 (nI (j + 1)) else k2 0 (nI (j + 1))) = fok 1 ()) ∨ (∃ e, (if nI (bt sb (p + j)) = v then k1 (nI p) 1 (nI (j + 1)) (Sr n (p + j + 1)) else k1 (nI p) 0 (nI (j + 1)) (Sr n (p + j + 1))) = fex ISE (nI n, e, 5, nI p) ∧ (if nI (bt sb (p + j)) = v then k2 1 (nI (j + 1)) else k2 0 (nI (j + 1))) = fok 0 ()) := by
          intro v
          by_cases c : nI (bt sb (p + j)) = v
          · rw [if_pos c, if_pos c]; exact r.2.2
          · rw [if_neg c, if_neg c]; exact Or.inr ⟨_, r.1 _, r.2.1⟩
        by_cases c8 : j < 8
        · rw [if_pos (c := nI j - 8 < 0) (pk_sneg (b := 8) (by omega) c8), if_pos (c := nI j < 8) (by (simp (disch := omega) only [nI_toInt, Int32.lt_iff_toInt_lt, Int32.le_iff_toInt_le, ← Int32.toInt_inj, Int32.reduceToInt]; omega))]
          exact fin 0
        · have e8 : nI j - 8 = nI (j - 8) := pk_sub (b := 8) (by omega)
          rw [e8, if_neg (c := nI (j - 8) < 0) (nI_pos (by omega)), if_neg (c := nI j < 8) (by (simp (disch := omega) only [nI_toInt, Int32.lt_iff_toInt_lt, Int32.le_iff_toInt_le, ← Int32.toInt_inj, Int32.reduceToInt]; omega))]
          by_cases c25 : 25 ≤ j
          · rw [if_pos (c := 17 ≤ nI (j - 8)) (by (simp (disch := omega) only [nI_toInt, Int32.lt_iff_toInt_lt, Int32.le_iff_toInt_le, ← Int32.toInt_inj, Int32.reduceToInt]; omega)), if_pos (c := 25 ≤ nI j) (by (simp (disch := omega) only [nI_toInt, Int32.lt_iff_toInt_lt, Int32.le_iff_toInt_le, ← Int32.toInt_inj, Int32.reduceToInt]; omega))]
            exact fin 0
          · rw [if_neg (c := 17 ≤ nI (j - 8)) (by (simp (disch := omega) only [nI_toInt, Int32.lt_iff_toInt_lt, Int32.le_iff_toInt_le, ← Int32.toInt_inj, Int32.reduceToInt]; omega)), if_neg (c := 25 ≤ nI j) (by (simp (disch := omega) only [nI_toInt, Int32.lt_iff_toInt_lt, Int32.le_iff_toInt_le, ← Int32.toInt_inj, Int32.reduceToInt]; omega)), if_pos (inb_nI (by omega) (by omega)), if_pos (inb_nI (by omega) (by omega))]
            exact fin _
