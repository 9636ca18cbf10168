def Fact (a : Int32) (f : A) (N : Nat) : Prop := (a = 1 ∨ a = 4 → ∀ p, p < N → f p = 255 ∨ f p = -1) ∧ (a = 2 ∨ a = 5 ∨ a = 12 ∨ a = 13 → ∀ p, p < N → ch (f p) 24 = ch (f p) 16 ∧ ch (f p) 24 = ch (f p) 8) ∧ (a = 8 ∨ a = 9 ∨ a = 14 ∨ a = 15 ∨ a = 17 → (dl f N).length ≤ 256)
theorem ut_few {x : Ras} {W H : Nat} (b1 : x_w x = nI W) (b2 : x_g x = nI H) (hp : W * H ≤ 4096) (pl : Pal) : ∃ pl2, F_X10_hasFewColours x pl = fok (if 256 < (dl (x_p x) (W * H)).length then 0 else 1) pl2 := by
  obtain ⟨pl2, e, p1, p2, p3⟩ := ut_gather b1 b2 hp pl
  have := dl_len (x_p x) (W * H)
  refine ⟨pl2, ?_⟩
  unfold F_X10_hasFewColours
  rw [e, fon_fok, p1]
  by_cases c : 256 < (dl (x_p x) (W * H)).length
  · rw [if_pos (by (simp (disch := omega) only [nI_toInt, Int32.lt_iff_toInt_lt, Int32.le_iff_toInt_le, ← Int32.toInt_inj, Int32.reduceToInt]; omega)), if_pos c]
  · rw [if_neg (by (simp (disch := omega) only [nI_toInt, Int32.lt_iff_toInt_lt, Int32.le_iff_toInt_le, ← Int32.toInt_inj, Int32.reduceToInt]; omega)), if_neg c]
theorem ut_fits {i W H : Nat} (hi4 : i < 4) (hp : W * H ≤ 4096) (h0 : 1 ≤ W * H) (x : Ras) (dd wi hi : A) (b1 : x_w x = nI W) (b2 : x_g x = nI H) (b3 : wi i = nI W) (b4 : hi i = nI H) (d : ∀ p, p < W * H → x_p x p = dd (4096 * i + p)) (a2 : Int32) (pl : Pal) (sr : A) :
    ∃ z pl2 sr2, (z = 0 ∨ z = 1) ∧ F_X10_fits a2 x pl = fok z pl2 ∧ F_X11_canHold (nI i) a2 dd wi hi sr = fok z sr2 ∧ (z = 1 → ∃ n : Nat, n ≤ 17 ∧ a2 = nI n) ∧ (z = 1 → Fact a2 (x_p x) (W * H)) := by
  obtain ⟨zo, ho, o1, o2⟩ := ut_opaque hi4 hp x dd wi hi b1 b2 b3 b4 d
  obtain ⟨zg, hg, g1, g2, g3⟩ := ut_gray hi4 hp x dd wi hi b1 b2 b3 b4 d
  obtain ⟨zp, hq, p1, p2, p3⟩ := ut_plain hi4 hp x dd wi hi b1 b2 b3 b4 d
  obtain ⟨plf, f1⟩ := ut_few b1 b2 hp pl
  obtain ⟨srf, f2⟩ := ut_colourCount hi4 hp h0 dd wi hi sr b3 b4
  have hlen := dl_len (x_p x) (W * H)
  rw [← dl_cong d] at f2
  have f3 : (if 256 < nI (dl (x_p x) (W * H)).length then (0 : Int32) else 1) = if 256 < (dl (x_p x) (W * H)).length then 0 else 1 := by
    by_cases c : 256 < (dl (x_p x) (W * H)).length
    · rw [if_pos (by (simp (disch := omega) only [nI_toInt, Int32.lt_iff_toInt_lt, Int32.le_iff_toInt_le, ← Int32.toInt_inj, Int32.reduceToInt]; omega)), if_pos c]
    · rw [if_neg (by (simp (disch := omega) only [nI_toInt, Int32.lt_iff_toInt_lt, Int32.le_iff_toInt_le, ← Int32.toInt_inj, Int32.reduceToInt]; omega)), if_neg c]
  by_cases c0 : a2 = 0
  · subst c0
    unfold F_X10_fits F_X11_canHold F_X10_fits_113 F_X10_fits_139 F_X11_canHold_116 F_X11_canHold_147
    rw [if_pos rfl, if_pos rfl]
    exact ⟨1, pl, sr, Or.inr rfl, rfl, rfl, (fun _ => ⟨0, by omega, rfl⟩), fun _ => ⟨fun c => absurd c (by decide), fun c => absurd c (by decide), fun c => absurd c (by decide)⟩⟩
  by_cases c1 : a2 = 1
  · subst c1
    unfold F_X10_fits F_X11_canHold F_X10_fits_113 F_X10_fits_139 F_X11_canHold_116 F_X11_canHold_147
    rw [if_neg (by decide), if_pos rfl, if_neg (by decide), if_pos rfl]
    rw [p1, p2, fon_fok, fon_fok, if_pos hq, if_pos hq]
    exact ⟨zp, pl, sr, hq, rfl, rfl, (fun _ => ⟨1, by omega, rfl⟩), fun e => ⟨fun _ => p3 e, fun c => absurd c (by decide), fun c => absurd c (by decide)⟩⟩
  by_cases c2 : a2 = 2
  · subst c2
    unfold F_X10_fits F_X11_canHold F_X10_fits_113 F_X10_fits_139 F_X11_canHold_116 F_X11_canHold_147
    rw [if_neg (by decide), if_neg (by decide), if_pos rfl, if_neg (by decide), if_neg (by decide), if_pos rfl]
    rw [o1, o2, fon_fok, fon_fok]
    rcases ho with rfl | rfl
    · rw [if_pos rfl, if_pos rfl]; exact ⟨0, pl, sr, Or.inl rfl, rfl, rfl, fun e => absurd e (by decide), fun e => absurd e (by decide)⟩
    · rw [if_neg (by decide), if_neg (by decide), g1, g2, fon_fok, fon_fok]
      rcases hg with rfl | rfl
      · rw [if_pos rfl, if_pos rfl]; exact ⟨0, pl, sr, Or.inl rfl, rfl, rfl, fun e => absurd e (by decide), fun e => absurd e (by decide)⟩
      · rw [if_neg (by decide), if_neg (by decide)]; exact ⟨1, pl, sr, Or.inr rfl, rfl, rfl, (fun _ => ⟨2, by omega, rfl⟩), fun e => ⟨fun c => absurd c (by decide), fun _ => g3 rfl, fun c => absurd c (by decide)⟩⟩
  by_cases c3 : a2 = 3
  · subst c3
    unfold F_X10_fits F_X11_canHold F_X10_fits_113 F_X10_fits_139 F_X11_canHold_116 F_X11_canHold_147
    rw [if_neg (by decide), if_neg (by decide), if_neg (by decide), if_pos rfl, if_neg (by decide), if_neg (by decide), if_neg (by decide), if_pos rfl]
    rw [o1, o2, fon_fok, fon_fok, if_pos ho, if_pos ho]
    exact ⟨zo, pl, sr, ho, rfl, rfl, (fun _ => ⟨3, by omega, rfl⟩), fun e => ⟨fun c => absurd c (by decide), fun c => absurd c (by decide), fun c => absurd c (by decide)⟩⟩
  by_cases c4 : a2 = 4
  · subst c4
    unfold F_X10_fits F_X11_canHold F_X10_fits_113 F_X10_fits_139 F_X11_canHold_116 F_X11_canHold_147
    rw [if_neg (by decide), if_neg (by decide), if_neg (by decide), if_neg (by decide), if_pos rfl, if_neg (by decide), if_neg (by decide), if_neg (by decide), if_neg (by decide), if_pos rfl]
    rw [p1, p2, fon_fok, fon_fok, if_pos hq, if_pos hq]
    exact ⟨zp, pl, sr, hq, rfl, rfl, (fun _ => ⟨4, by omega, rfl⟩), fun e => ⟨fun _ => p3 e, fun c => absurd c (by decide), fun c => absurd c (by decide)⟩⟩
  by_cases c5 : a2 = 5
  · subst c5
    unfold F_X10_fits F_X11_canHold F_X10_fits_113 F_X10_fits_139 F_X11_canHold_116 F_X11_canHold_147
    rw [if_neg (by decide), if_neg (by decide), if_neg (by decide), if_neg (by decide), if_neg (by decide), if_pos rfl, if_neg (by decide), if_neg (by decide), if_neg (by decide), if_neg (by decide), if_neg (by decide), if_pos rfl]
    rw [o1, o2, fon_fok, fon_fok]
    rcases ho with rfl | rfl
    · rw [if_pos rfl, if_pos rfl]; exact ⟨0, pl, sr, Or.inl rfl, rfl, rfl, fun e => absurd e (by decide), fun e => absurd e (by decide)⟩
    · rw [if_neg (by decide), if_neg (by decide), g1, g2, fon_fok, fon_fok]
      rcases hg with rfl | rfl
      · rw [if_pos rfl, if_pos rfl]; exact ⟨0, pl, sr, Or.inl rfl, rfl, rfl, fun e => absurd e (by decide), fun e => absurd e (by decide)⟩
      · rw [if_neg (by decide), if_neg (by decide)]; exact ⟨1, pl, sr, Or.inr rfl, rfl, rfl, (fun _ => ⟨5, by omega, rfl⟩), fun e => ⟨fun c => absurd c (by decide), fun _ => g3 rfl, fun c => absurd c (by decide)⟩⟩
  by_cases c6 : a2 = 6
  · subst c6
    unfold F_X10_fits F_X11_canHold F_X10_fits_113 F_X10_fits_139 F_X11_canHold_116 F_X11_canHold_147
    rw [if_neg (by decide), if_neg (by decide), if_neg (by decide), if_neg (by decide), if_neg (by decide), if_neg (by decide), if_pos rfl, if_neg (by decide), if_neg (by decide), if_neg (by decide), if_neg (by decide), if_neg (by decide), if_neg (by decide), if_pos rfl]
    rw [o1, o2, fon_fok, fon_fok, if_pos ho, if_pos ho]
    exact ⟨zo, pl, sr, ho, rfl, rfl, (fun _ => ⟨6, by omega, rfl⟩), fun e => ⟨fun c => absurd c (by decide), fun c => absurd c (by decide), fun c => absurd c (by decide)⟩⟩
  by_cases c7 : a2 = 7
  · subst c7
    unfold F_X10_fits F_X11_canHold F_X10_fits_113 F_X10_fits_139 F_X11_canHold_116 F_X11_canHold_147
    rw [if_neg (by decide), if_neg (by decide), if_neg (by decide), if_neg (by decide), if_neg (by decide), if_neg (by decide), if_neg (by decide), if_pos rfl, if_neg (by decide), if_neg (by decide), if_neg (by decide), if_neg (by decide), if_neg (by decide), if_neg (by decide), if_neg (by decide), if_pos rfl]
    rw [o1, o2, fon_fok, fon_fok, if_pos ho, if_pos ho]
    exact ⟨zo, pl, sr, ho, rfl, rfl, (fun _ => ⟨7, by omega, rfl⟩), fun e => ⟨fun c => absurd c (by decide), fun c => absurd c (by decide), fun c => absurd c (by decide)⟩⟩
  by_cases c8 : a2 = 8
  · subst c8
    unfold F_X10_fits F_X11_canHold F_X10_fits_113 F_X10_fits_139 F_X11_canHold_116 F_X11_canHold_147
    rw [if_neg (by decide), if_neg (by decide), if_neg (by decide), if_neg (by decide), if_neg (by decide), if_neg (by decide), if_neg (by decide), if_neg (by decide), if_pos rfl, if_neg (by decide), if_neg (by decide), if_neg (by decide), if_neg (by decide), if_neg (by decide), if_neg (by decide), if_neg (by decide), if_neg (by decide), if_pos rfl]
    rw [o1, o2, fon_fok, fon_fok]
    rcases ho with rfl | rfl
    · rw [if_pos rfl, if_pos rfl]; exact ⟨0, pl, sr, Or.inl rfl, rfl, rfl, fun e => absurd e (by decide), fun e => absurd e (by decide)⟩
    · rw [if_neg (by decide), if_neg (by decide), f1, f2, fon_fok, fon_fok]
      by_cases c : 256 < (dl (x_p x) (W * H)).length
      · rw [if_pos c, if_pos rfl, if_pos (by (simp (disch := omega) only [nI_toInt, Int32.lt_iff_toInt_lt, Int32.le_iff_toInt_le, ← Int32.toInt_inj, Int32.reduceToInt]; omega))]; exact ⟨0, plf, srf, Or.inl rfl, rfl, rfl, fun e => absurd e (by decide), fun e => absurd e (by decide)⟩
      · rw [if_neg c, if_neg (by decide), if_neg (by (simp (disch := omega) only [nI_toInt, Int32.lt_iff_toInt_lt, Int32.le_iff_toInt_le, ← Int32.toInt_inj, Int32.reduceToInt]; omega))]; exact ⟨1, plf, srf, Or.inr rfl, rfl, rfl, (fun _ => ⟨8, by omega, rfl⟩), fun e => ⟨fun c => absurd c (by decide), fun c => absurd c (by decide), fun _ => by omega⟩⟩
  by_cases c9 : a2 = 9
  · subst c9
    unfold F_X10_fits F_X11_canHold F_X10_fits_113 F_X10_fits_139 F_X11_canHold_116 F_X11_canHold_147
    rw [if_neg (by decide), if_neg (by decide), if_neg (by decide), if_neg (by decide), if_neg (by decide), if_neg (by decide), if_neg (by decide), if_neg (by decide), if_neg (by decide), if_pos rfl, if_neg (by decide), if_neg (by decide), if_neg (by decide), if_neg (by decide), if_neg (by decide), if_neg (by decide), if_neg (by decide), if_neg (by decide), if_neg (by decide), if_pos rfl]
    rw [o1, o2, fon_fok, fon_fok]
    rcases ho with rfl | rfl
    · rw [if_pos rfl, if_pos rfl]; exact ⟨0, pl, sr, Or.inl rfl, rfl, rfl, fun e => absurd e (by decide), fun e => absurd e (by decide)⟩
    · rw [if_neg (by decide), if_neg (by decide), f1, f2, fon_fok, fon_fok]
      by_cases c : 256 < (dl (x_p x) (W * H)).length
      · rw [if_pos c, if_pos rfl, if_pos (by (simp (disch := omega) only [nI_toInt, Int32.lt_iff_toInt_lt, Int32.le_iff_toInt_le, ← Int32.toInt_inj, Int32.reduceToInt]; omega))]; exact ⟨0, plf, srf, Or.inl rfl, rfl, rfl, fun e => absurd e (by decide), fun e => absurd e (by decide)⟩
      · rw [if_neg c, if_neg (by decide), if_neg (by (simp (disch := omega) only [nI_toInt, Int32.lt_iff_toInt_lt, Int32.le_iff_toInt_le, ← Int32.toInt_inj, Int32.reduceToInt]; omega))]; exact ⟨1, plf, srf, Or.inr rfl, rfl, rfl, (fun _ => ⟨9, by omega, rfl⟩), fun e => ⟨fun c => absurd c (by decide), fun c => absurd c (by decide), fun _ => by omega⟩⟩
  by_cases c10 : a2 = 10
  · subst c10
    unfold F_X10_fits F_X11_canHold F_X10_fits_113 F_X10_fits_139 F_X11_canHold_116 F_X11_canHold_147
    rw [if_neg (by decide), if_neg (by decide), if_neg (by decide), if_neg (by decide), if_neg (by decide), if_neg (by decide), if_neg (by decide), if_neg (by decide), if_neg (by decide), if_neg (by decide), if_pos rfl, if_neg (by decide), if_neg (by decide), if_neg (by decide), if_neg (by decide), if_neg (by decide), if_neg (by decide), if_neg (by decide), if_neg (by decide), if_neg (by decide), if_neg (by decide), if_pos rfl]
    exact ⟨1, pl, sr, Or.inr rfl, rfl, rfl, (fun _ => ⟨10, by omega, rfl⟩), fun _ => ⟨fun c => absurd c (by decide), fun c => absurd c (by decide), fun c => absurd c (by decide)⟩⟩
  by_cases c11 : a2 = 11
  · subst c11
    unfold F_X10_fits F_X11_canHold F_X10_fits_113 F_X10_fits_139 F_X11_canHold_116 F_X11_canHold_147
    rw [if_neg (by decide), if_neg (by decide), if_neg (by decide), if_neg (by decide), if_neg (by decide), if_neg (by decide), if_neg (by decide), if_neg (by decide), if_neg (by decide), if_neg (by decide), if_neg (by decide), if_pos rfl, if_neg (by decide), if_neg (by decide), if_neg (by decide), if_neg (by decide), if_neg (by decide), if_neg (by decide), if_neg (by decide), if_neg (by decide), if_neg (by decide), if_neg (by decide), if_neg (by decide), if_pos rfl]
    exact ⟨1, pl, sr, Or.inr rfl, rfl, rfl, (fun _ => ⟨11, by omega, rfl⟩), fun _ => ⟨fun c => absurd c (by decide), fun c => absurd c (by decide), fun c => absurd c (by decide)⟩⟩
  by_cases c12 : a2 = 12
  · subst c12
    unfold F_X10_fits F_X11_canHold F_X10_fits_113 F_X10_fits_139 F_X11_canHold_116 F_X11_canHold_147
    rw [if_neg (by decide), if_neg (by decide), if_neg (by decide), if_neg (by decide), if_neg (by decide), if_neg (by decide), if_neg (by decide), if_neg (by decide), if_neg (by decide), if_neg (by decide), if_neg (by decide), if_neg (by decide), if_pos rfl, if_neg (by decide), if_neg (by decide), if_neg (by decide), if_neg (by decide), if_neg (by decide), if_neg (by decide), if_neg (by decide), if_neg (by decide), if_neg (by decide), if_neg (by decide), if_neg (by decide), if_neg (by decide), if_pos rfl]
    rw [o1, o2, fon_fok, fon_fok]
    rcases ho with rfl | rfl
    · rw [if_pos rfl, if_pos rfl]; exact ⟨0, pl, sr, Or.inl rfl, rfl, rfl, fun e => absurd e (by decide), fun e => absurd e (by decide)⟩
    · rw [if_neg (by decide), if_neg (by decide), g1, g2, fon_fok, fon_fok]
      rcases hg with rfl | rfl
      · rw [if_pos rfl, if_pos rfl]; exact ⟨0, pl, sr, Or.inl rfl, rfl, rfl, fun e => absurd e (by decide), fun e => absurd e (by decide)⟩
      · rw [if_neg (by decide), if_neg (by decide)]; exact ⟨1, pl, sr, Or.inr rfl, rfl, rfl, (fun _ => ⟨12, by omega, rfl⟩), fun e => ⟨fun c => absurd c (by decide), fun _ => g3 rfl, fun c => absurd c (by decide)⟩⟩
  by_cases c13 : a2 = 13
  · subst c13
    unfold F_X10_fits F_X11_canHold F_X10_fits_113 F_X10_fits_139 F_X11_canHold_116 F_X11_canHold_147
    rw [if_neg (by decide), if_neg (by decide), if_neg (by decide), if_neg (by decide), if_neg (by decide), if_neg (by decide), if_neg (by decide), if_neg (by decide), if_neg (by decide), if_neg (by decide), if_neg (by decide), if_neg (by decide), if_neg (by decide), if_pos rfl, if_neg (by decide), if_neg (by decide), if_neg (by decide), if_neg (by decide), if_neg (by decide), if_neg (by decide), if_neg (by decide), if_neg (by decide), if_neg (by decide), if_neg (by decide), if_neg (by decide), if_neg (by decide), if_neg (by decide), if_pos rfl]
    rw [o1, o2, fon_fok, fon_fok]
    rcases ho with rfl | rfl
    · rw [if_pos rfl, if_pos rfl]; exact ⟨0, pl, sr, Or.inl rfl, rfl, rfl, fun e => absurd e (by decide), fun e => absurd e (by decide)⟩
    · rw [if_neg (by decide), if_neg (by decide), g1, g2, fon_fok, fon_fok]
      rcases hg with rfl | rfl
      · rw [if_pos rfl, if_pos rfl]; exact ⟨0, pl, sr, Or.inl rfl, rfl, rfl, fun e => absurd e (by decide), fun e => absurd e (by decide)⟩
      · rw [if_neg (by decide), if_neg (by decide)]; exact ⟨1, pl, sr, Or.inr rfl, rfl, rfl, (fun _ => ⟨13, by omega, rfl⟩), fun e => ⟨fun c => absurd c (by decide), fun _ => g3 rfl, fun c => absurd c (by decide)⟩⟩
  by_cases c14 : a2 = 14
  · subst c14
    unfold F_X10_fits F_X11_canHold F_X10_fits_113 F_X10_fits_139 F_X11_canHold_116 F_X11_canHold_147
    rw [if_neg (by decide), if_neg (by decide), if_neg (by decide), if_neg (by decide), if_neg (by decide), if_neg (by decide), if_neg (by decide), if_neg (by decide), if_neg (by decide), if_neg (by decide), if_neg (by decide), if_neg (by decide), if_neg (by decide), if_neg (by decide), if_pos rfl, if_neg (by decide), if_neg (by decide), if_neg (by decide), if_neg (by decide), if_neg (by decide), if_neg (by decide), if_neg (by decide), if_neg (by decide), if_neg (by decide), if_neg (by decide), if_neg (by decide), if_neg (by decide), if_neg (by decide), if_neg (by decide), if_pos rfl]
    rw [f1, f2, fon_fok, fon_fok]
    by_cases c : 256 < (dl (x_p x) (W * H)).length
    · rw [if_pos c, if_pos (Or.inl rfl), if_pos (by (simp (disch := omega) only [nI_toInt, Int32.lt_iff_toInt_lt, Int32.le_iff_toInt_le, ← Int32.toInt_inj, Int32.reduceToInt]; omega))]; exact ⟨0, plf, srf, Or.inl rfl, rfl, rfl, fun e => absurd e (by decide), fun e => absurd e (by decide)⟩
    · rw [if_neg c, if_pos (Or.inr rfl), if_neg (by (simp (disch := omega) only [nI_toInt, Int32.lt_iff_toInt_lt, Int32.le_iff_toInt_le, ← Int32.toInt_inj, Int32.reduceToInt]; omega))]; exact ⟨1, plf, srf, Or.inr rfl, rfl, rfl, (fun _ => ⟨14, by omega, rfl⟩), fun e => ⟨fun c => absurd c (by decide), fun c => absurd c (by decide), fun _ => by omega⟩⟩
  by_cases c15 : a2 = 15
  · subst c15
    unfold F_X10_fits F_X11_canHold F_X10_fits_113 F_X10_fits_139 F_X11_canHold_116 F_X11_canHold_147
    rw [if_neg (by decide), if_neg (by decide), if_neg (by decide), if_neg (by decide), if_neg (by decide), if_neg (by decide), if_neg (by decide), if_neg (by decide), if_neg (by decide), if_neg (by decide), if_neg (by decide), if_neg (by decide), if_neg (by decide), if_neg (by decide), if_neg (by decide), if_pos rfl, if_neg (by decide), if_neg (by decide), if_neg (by decide), if_neg (by decide), if_neg (by decide), if_neg (by decide), if_neg (by decide), if_neg (by decide), if_neg (by decide), if_neg (by decide), if_neg (by decide), if_neg (by decide), if_neg (by decide), if_neg (by decide), if_neg (by decide), if_pos rfl]
    rw [f1, f2, fon_fok, fon_fok]
    by_cases c : 256 < (dl (x_p x) (W * H)).length
    · rw [if_pos c, if_pos (Or.inl rfl), if_pos (by (simp (disch := omega) only [nI_toInt, Int32.lt_iff_toInt_lt, Int32.le_iff_toInt_le, ← Int32.toInt_inj, Int32.reduceToInt]; omega))]; exact ⟨0, plf, srf, Or.inl rfl, rfl, rfl, fun e => absurd e (by decide), fun e => absurd e (by decide)⟩
    · rw [if_neg c, if_pos (Or.inr rfl), if_neg (by (simp (disch := omega) only [nI_toInt, Int32.lt_iff_toInt_lt, Int32.le_iff_toInt_le, ← Int32.toInt_inj, Int32.reduceToInt]; omega))]; exact ⟨1, plf, srf, Or.inr rfl, rfl, rfl, (fun _ => ⟨15, by omega, rfl⟩), fun e => ⟨fun c => absurd c (by decide), fun c => absurd c (by decide), fun _ => by omega⟩⟩
  by_cases c16 : a2 = 16
  · subst c16
    unfold F_X10_fits F_X11_canHold F_X10_fits_113 F_X10_fits_139 F_X11_canHold_116 F_X11_canHold_147
    rw [if_neg (by decide), if_neg (by decide), if_neg (by decide), if_neg (by decide), if_neg (by decide), if_neg (by decide), if_neg (by decide), if_neg (by decide), if_neg (by decide), if_neg (by decide), if_neg (by decide), if_neg (by decide), if_neg (by decide), if_neg (by decide), if_neg (by decide), if_neg (by decide), if_pos rfl, if_neg (by decide), if_neg (by decide), if_neg (by decide), if_neg (by decide), if_neg (by decide), if_neg (by decide), if_neg (by decide), if_neg (by decide), if_neg (by decide), if_neg (by decide), if_neg (by decide), if_neg (by decide), if_neg (by decide), if_neg (by decide), if_neg (by decide), if_neg (by decide), if_pos rfl]
    rw [o1, o2, fon_fok, fon_fok, if_pos ho, if_pos ho]
    exact ⟨zo, pl, sr, ho, rfl, rfl, (fun _ => ⟨16, by omega, rfl⟩), fun e => ⟨fun c => absurd c (by decide), fun c => absurd c (by decide), fun c => absurd c (by decide)⟩⟩
  by_cases c17 : a2 = 17
  · subst c17
    unfold F_X10_fits F_X11_canHold F_X10_fits_113 F_X10_fits_139 F_X11_canHold_116 F_X11_canHold_147
    rw [if_neg (by decide), if_neg (by decide), if_neg (by decide), if_neg (by decide), if_neg (by decide), if_neg (by decide), if_neg (by decide), if_neg (by decide), if_neg (by decide), if_neg (by decide), if_neg (by decide), if_neg (by decide), if_neg (by decide), if_neg (by decide), if_neg (by decide), if_neg (by decide), if_neg (by decide), if_pos rfl, if_neg (by decide), if_neg (by decide), if_neg (by decide), if_neg (by decide), if_neg (by decide), if_neg (by decide), if_neg (by decide), if_neg (by decide), if_neg (by decide), if_neg (by decide), if_neg (by decide), if_neg (by decide), if_neg (by decide), if_neg (by decide), if_neg (by decide), if_neg (by decide), if_neg (by decide), if_pos rfl]
    rw [o1, o2, fon_fok, fon_fok]
    rcases ho with rfl | rfl
    · rw [if_pos rfl, if_pos rfl]; exact ⟨0, pl, sr, Or.inl rfl, rfl, rfl, fun e => absurd e (by decide), fun e => absurd e (by decide)⟩
    · rw [if_neg (by decide), if_neg (by decide), f1, f2, fon_fok, fon_fok]
      by_cases c : 256 < (dl (x_p x) (W * H)).length
      · rw [if_pos c, if_pos rfl, if_pos (by (simp (disch := omega) only [nI_toInt, Int32.lt_iff_toInt_lt, Int32.le_iff_toInt_le, ← Int32.toInt_inj, Int32.reduceToInt]; omega))]; exact ⟨0, plf, srf, Or.inl rfl, rfl, rfl, fun e => absurd e (by decide), fun e => absurd e (by decide)⟩
      · rw [if_neg c, if_neg (by decide), if_neg (by (simp (disch := omega) only [nI_toInt, Int32.lt_iff_toInt_lt, Int32.le_iff_toInt_le, ← Int32.toInt_inj, Int32.reduceToInt]; omega))]; exact ⟨1, plf, srf, Or.inr rfl, rfl, rfl, (fun _ => ⟨17, by omega, rfl⟩), fun e => ⟨fun c => absurd c (by decide), fun c => absurd c (by decide), fun _ => by omega⟩⟩
  unfold F_X10_fits F_X11_canHold
  rw [if_neg c0, if_neg c1, if_neg c2, if_neg c3, if_neg c4, if_neg c5, if_neg c6, if_neg c7, if_neg c8, if_neg c9, if_neg c10, if_neg c11, if_neg c12, if_neg c13, if_neg c14, if_neg c15, if_neg c16, if_neg c17, if_neg c0, if_neg c1, if_neg c2, if_neg c3, if_neg c4, if_neg c5, if_neg c6, if_neg c7, if_neg c8, if_neg c9, if_neg c10, if_neg c11, if_neg c12, if_neg c13, if_neg c14, if_neg c15, if_neg c16, if_neg c17]
  exact ⟨0, pl, sr, Or.inl rfl, rfl, rfl, fun e => absurd e (by decide), fun e => absurd e (by decide)⟩
theorem area {W H : Nat} (h : W = 0 ∧ H = 0 ∨ 1 ≤ W ∧ 1 ≤ H) (hw : W ≠ 0) : 1 ≤ W * H := by
  rcases h with ⟨h, _⟩ | ⟨h1, h2⟩
  · exact absurd h hw
  · exact Nat.mul_pos h1 h2
theorem inv_holds : S_holds Inv := by
  intro m0 sh rr ww so sc pl qo pn bm tg px fa mo mw mr ms mt mu dd wi hi gt sp ta li sr co h x1 x2
  obtain ⟨h1, h2, h3⟩ := h
  rcases shelf_c x1 with ⟨s1, s2⟩ | ⟨i, hi4, rfl, s1, s2⟩
  · refine ⟨0, pl, (((mo_taped mo), 0, (mo_tf mo), (mo_t1 mo), (mo_t2 mo), (mo_t3 mo), (mo_fp mo)), sr), ?_, ?_, h1, h2, h3⟩
    · unfold F_X10_holds F_X10_holds_26; rw [has_no sh rr s1, fon_fok, if_pos rfl]
    · unfold F_X11_holds F_X11_holds_34; rw [if_pos s2]
  obtain ⟨W, H, b1, b2, b3, b4, b5, b6, b7, b8, b9⟩ := h1.2.2.2 i hi4
  have e1 := has_yes hi4 (h1.2.1 i hi4).1 b1 b5
  by_cases cW : W = 0
  · rw [if_pos cW] at e1
    refine ⟨0, pl, (((mo_taped mo), 0, (mo_tf mo), (mo_t1 mo), (mo_t2 mo), (mo_t3 mo), (mo_fp mo)), sr), ?_, ?_, h1, h2, h3⟩
    · unfold F_X10_holds F_X10_holds_26; rw [e1, fon_fok, if_pos rfl]
    · unfold F_X11_holds F_X11_holds_34; rw [s2, if_neg (by decide), if_pos (inb_nI hi4 (by omega)), nI_clamp (by omega), b3, cW, if_pos (by decide)]
  rw [if_neg cW] at e1
  obtain ⟨z, pl2, sr2, hz, q1, q2, _, _⟩ := ut_fits hi4 b7 (area b8 cW) (rr (sh i)) dd wi hi b1 b2 b3 b4 b9 x2 pl sr
  refine ⟨z, pl2, (((mo_taped mo), 0, (mo_tf mo), (mo_t1 mo), (mo_t2 mo), (mo_t3 mo), (mo_fp mo)), sr2), ?_, ?_, h1, h2, h3⟩
  · unfold F_X10_holds F_X10_holds_26
    rw [e1, fon_fok, if_neg (by decide), if_pos (inb_nI hi4 (by omega)), nI_clamp (by omega), if_pos (h1.2.1 i hi4).1, q1, fon_fok]
    rcases hz with rfl | rfl
    · rw [if_pos rfl]
    · rw [if_neg (by decide)]
  · unfold F_X11_holds F_X11_holds_34
    rw [s2, if_neg (by decide), if_pos (inb_nI hi4 (by omega)), nI_clamp (by omega), b3, if_neg (nI_nle (by omega) (by omega)), q2, fon_fok]
    rcases hz with rfl | rfl
    · rw [if_pos rfl]
    · rw [if_neg (by decide)]
theorem inv_raster : S_raster Inv := by
  intro m0 sh rr ww so sc pl qo pn bm tg px fa mo mw mr ms mt mu dd wi hi gt sp ta li sr co h x1 x2
  obtain ⟨h1, h2, h3⟩ := h
  rcases shelf_c x1 with ⟨s1, s2⟩ | ⟨i, hi4, rfl, s1, s2⟩
  · refine ⟨-1, pl, (((mo_taped mo), 0, (mo_tf mo), (mo_t1 mo), (mo_t2 mo), (mo_t3 mo), (mo_fp mo)), sr), ?_, ?_, h1, h2, h3⟩
    · unfold F_X10_raster; rw [has_no sh rr s1, fon_fok, if_pos rfl]
    · unfold F_X11_raster F_X11_raster_21; rw [if_pos s2]
  obtain ⟨W, H, b1, b2, b3, b4, b5, b6, b7, b8, b9⟩ := h1.2.2.2 i hi4
  have e1 := has_yes hi4 (h1.2.1 i hi4).1 b1 b5
  by_cases cW : W = 0
  · rw [if_pos cW] at e1
    refine ⟨-1, pl, (((mo_taped mo), 0, (mo_tf mo), (mo_t1 mo), (mo_t2 mo), (mo_t3 mo), (mo_fp mo)), sr), ?_, ?_, h1, h2, h3⟩
    · unfold F_X10_raster; rw [e1, fon_fok, if_pos rfl]
    · unfold F_X11_raster F_X11_raster_21; rw [s2, if_neg (by decide), if_pos (inb_nI hi4 (by omega)), nI_clamp (by omega), b3, cW, if_pos (by decide)]
  rw [if_neg cW] at e1
  obtain ⟨zo, ho, o1, o2⟩ := ut_opaque hi4 b7 (rr (sh i)) dd wi hi b1 b2 b3 b4 b9
  obtain ⟨zg, hg, g1, g2, _⟩ := ut_gray hi4 b7 (rr (sh i)) dd wi hi b1 b2 b3 b4 b9
  obtain ⟨zp, hq, p1, p2, _⟩ := ut_plain hi4 b7 (rr (sh i)) dd wi hi b1 b2 b3 b4 b9
  obtain ⟨plf, f1, u1, _, _⟩ := ut_gather b1 b2 b7 pl
  obtain ⟨srf, f2⟩ := ut_colourCount hi4 b7 (area b8 cW) dd wi hi sr b3 b4
  rw [← dl_cong b9] at f2
  have u : F_X10_raster (nI i) x2 sh rr pl = (if x2 = 0 then (fok (nI W) pl) else (if x2 = 1 then (fok (nI H) pl) else (if x2 = 2 then (fok (nI (dl (x_p (rr (sh i))) (W * H)).length) plf) else (if x2 = 3 then fok zo pl else (if x2 = 4 then fok zg pl else (if x2 = 5 then fok zp pl else (fok (-1) pl))))))) := by
    unfold F_X10_raster
    rw [e1, fon_fok, if_neg (by decide), if_pos (inb_nI hi4 (by omega)), nI_clamp (by omega), if_pos (h1.2.1 i hi4).1, b1, b2, f1, fon_fok, u1, o1, fon_fok, g1, fon_fok, p1, fon_fok]
    rcases ho with rfl | rfl <;> rcases hg with rfl | rfl <;> rcases hq with rfl | rfl <;> rfl
  have v : F_X11_raster (nI i) x2 mo dd wi hi sr = (if x2 = 0 then (fok (nI W) (((mo_taped mo), 0, (mo_tf mo), (mo_t1 mo), (mo_t2 mo), (mo_t3 mo), (mo_fp mo)), sr)) else (if x2 = 1 then (fok (nI H) (((mo_taped mo), 0, (mo_tf mo), (mo_t1 mo), (mo_t2 mo), (mo_t3 mo), (mo_fp mo)), sr)) else (if x2 = 2 then (fok (nI (dl (x_p (rr (sh i))) (W * H)).length) (((mo_taped mo), 0, (mo_tf mo), (mo_t1 mo), (mo_t2 mo), (mo_t3 mo), (mo_fp mo)), srf)) else (if x2 = 3 then fok zo (((mo_taped mo), 0, (mo_tf mo), (mo_t1 mo), (mo_t2 mo), (mo_t3 mo), (mo_fp mo)), sr) else (if x2 = 4 then fok zg (((mo_taped mo), 0, (mo_tf mo), (mo_t1 mo), (mo_t2 mo), (mo_t3 mo), (mo_fp mo)), sr) else (if x2 = 5 then fok zp (((mo_taped mo), 0, (mo_tf mo), (mo_t1 mo), (mo_t2 mo), (mo_t3 mo), (mo_fp mo)), sr) else (fok (-1) (((mo_taped mo), 0, (mo_tf mo), (mo_t1 mo), (mo_t2 mo), (mo_t3 mo), (mo_fp mo)), sr)))))))) := by
    unfold F_X11_raster
    rw [s2, if_neg (by decide)]
    simp only [if_pos (inb_nI hi4 (by omega : 4 < 2 ^ 31)), nI_clamp (show i < 2 ^ 31 by omega), b3, b4]
    rw [if_neg (nI_ne0 (by omega) (by omega)), f2, fon_fok, o2, fon_fok, g2, fon_fok, p2, fon_fok]
    rcases ho with rfl | rfl <;> rcases hg with rfl | rfl <;> rcases hq with rfl | rfl <;> rfl
  rw [u, v]
  by_cases c0 : x2 = 0
  · rw [if_pos c0, if_pos c0]; exact ⟨_, _, _, rfl, rfl, h1, h2, h3⟩
  rw [if_neg c0, if_neg c0]
  by_cases c0 : x2 = 1
  · rw [if_pos c0, if_pos c0]; exact ⟨_, _, _, rfl, rfl, h1, h2, h3⟩
  rw [if_neg c0, if_neg c0]
  by_cases c0 : x2 = 2
  · rw [if_pos c0, if_pos c0]; exact ⟨_, _, _, rfl, rfl, h1, h2, h3⟩
  rw [if_neg c0, if_neg c0]
  by_cases c0 : x2 = 3
  · rw [if_pos c0, if_pos c0]; exact ⟨_, _, _, rfl, rfl, h1, h2, h3⟩
  rw [if_neg c0, if_neg c0]
  by_cases c0 : x2 = 4
  · rw [if_pos c0, if_pos c0]; exact ⟨_, _, _, rfl, rfl, h1, h2, h3⟩
  rw [if_neg c0, if_neg c0]
  by_cases c0 : x2 = 5
  · rw [if_pos c0, if_pos c0]; exact ⟨_, _, _, rfl, rfl, h1, h2, h3⟩
  rw [if_neg c0, if_neg c0]
  exact ⟨_, _, _, rfl, rfl, h1, h2, h3⟩
