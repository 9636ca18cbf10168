theorem enc_r {i n W H : Nat} {d dd wi hi mu sp co : A} (mw : MW) (z : Int32) (hn : n ≤ 17) (hF : Fact (nI n) d (W * H)) (hz : F_X11_isOpaque (nI i) dd wi hi = fok z ()) (hz3 : n = 12 ∨ n = 13 → z ≠ 0) (hi4 : i < 4) (b3 : wi i = nI W) (b4 : hi i = nI H) (hd : ∀ q, q < W * H → d q = dd (4096 * i + q)) (hW : W ≤ 4096) (hH : H ≤ 4096) (hW1 : 1 ≤ W) (hH1 : 1 ≤ H) (hT : W * H ≤ 4096) :
    ∃ cm2 sp2 co2, F_X11_writeFile (nI i) (nI n) mw mu dd wi hi sp co = fok () ((nI (encL n z W H d).length, 1, cm2), ap mu (encL n z W H d), sp2, co2) := by
  have hl : ∀ k, (k = 8 ∨ k = 9 ∨ k = 14 ∨ k = 15 ∨ k = 17) → n = k → (dl d (W * H)).length ≤ 256 := by
    intro k hk e
    subst e
    refine hF.2.2 ?_
    rcases hk with rfl | rfl | rfl | rfl | rfl <;> decide
  have em0 : (0, 1, mw_cm mw) = MwL 1 (mw_cm mw) [] := rfl
  have r0 : nI n = 0 ↔ n = 0 := nI_inj (b := 0) (by omega) (by omega)
  have r7 : 7 ≤ nI n ↔ 7 ≤ n := nI_leI (a := 7) (by omega) (by omega)
  have r10 : 10 ≤ nI n ↔ 10 ≤ n := nI_leI (a := 10) (by omega) (by omega)
  have r16 : 16 ≤ nI n ↔ 16 ≤ n := nI_leI (a := 16) (by omega) (by omega)
  unfold F_X11_writeFile
  rw [em0]
  have eu : mu = ap mu [] := (ap_0 mu).symm
  unfold encL
  by_cases c0 : n = 0
  · rw [if_pos (r0.mpr c0), if_pos c0]
    obtain ⟨sp2, e⟩ := r_qoi (f := mu) (sp := sp) (h := 1) (cm := mw_cm mw) z hz hi4 hT b3 b4 hd
    rw [← eu] at e
    rw [e, fon_fok]
    exact ⟨_, _, _, rfl⟩
  rw [if_neg (fun e => c0 (r0.mp e)), if_neg c0]
  by_cases c1 : n < 7
  · rw [if_neg (c := 7 ≤ nI n) (fun e => by have := r7.mp e; omega), if_pos c1]
    have e := r_pnm (a := n) (f := mu) (d := d) (cm := mw_cm mw) (h := 1) ⟨by omega, by omega⟩ hi4 hW hH hT b3 b4 hd (fun hc => hF.1 (by rcases hc with rfl | rfl <;> decide))
    rw [← eu] at e
    rw [e, fon_fok]
    exact ⟨_, _, _, rfl⟩
  rw [if_pos (c := 7 ≤ nI n) (r7.mpr (by omega)), if_neg c1]
  by_cases c2 : n < 10
  · rw [if_neg (c := 10 ≤ nI n) (fun e => by have := r10.mp e; omega), if_pos c2]
    obtain ⟨cm2, co2, e⟩ := r_bmp (a := n) (f := mu) (d := d) (co := co) (h := 1) (cm := mw_cm mw) (by omega) hi4 hW hH hH1 hT b3 b4 hd (fun h => by rcases h with h | h; exact hl 8 (by omega) h; exact hl 9 (by omega) h)
    rw [← eu] at e
    rw [e, fon_fok]
    exact ⟨_, _, _, rfl⟩
  rw [if_pos (c := 10 ≤ nI n) (r10.mpr (by omega)), if_neg c2]
  by_cases c3 : n < 16
  · have hA : okA n := ⟨by omega, by omega⟩
    rw [if_neg (c := 16 ≤ nI n) (fun e => by have := r16.mp e; omega), if_pos c3]
    obtain ⟨cm2, co2, e⟩ := r_tga (a := n) (f := mu) (d := d) (co := co) (h := 1) (cm := mw_cm mw) hA z hz (fun h => hz3 ((kT_3 hA).mp h)) (fun h p hp => (hF.2.1 (by rcases (kT_3 hA).mp h with rfl | rfl <;> decide) p hp).2) hi4 hW hH hT b3 b4 hd (fun h => by rcases (kT_1 hA).mp h with h | h; exact hl 14 (by omega) h; exact hl 15 (by omega) h)
    rw [← eu] at e
    rw [e, fon_fok]
    exact ⟨_, _, _, rfl⟩
  · rw [if_pos (c := 16 ≤ nI n) (r16.mpr (by omega)), if_neg c3]
    obtain ⟨cm2, co2, e⟩ := r_pcx (a := n) (f := mu) (d := d) (co := co) (h := 1) (cm := mw_cm mw) (by omega) hi4 hW hH hW1 hH1 hT b3 b4 hd (fun h => hl 17 (by omega) h)
    rw [← eu] at e
    rw [e, fon_fok]
    exact ⟨_, _, _, rfl⟩
theorem fit_z {n : Nat} {x : Ras} {pl pl2 : Pal} {z : Int32} (h : n = 12 ∨ n = 13) (hf : F_X10_fits (nI n) x pl = fok 1 pl2) (hz : F_X7_isOpaque x = fok z ()) : z ≠ 0 := by
  intro e
  subst e
  rcases h with rfl | rfl
  · have : F_X10_fits (nI 12) x pl = fok 0 pl := by
      unfold F_X10_fits F_X10_fits_113
      rw [if_neg (by decide), if_neg (by decide), if_neg (by decide), if_neg (by decide), if_neg (by decide), if_neg (by decide), if_neg (by decide), if_neg (by decide), if_neg (by decide), if_neg (by decide), if_neg (by decide), if_neg (by decide), if_pos (by decide), hz, fon_fok, if_pos rfl]
    rw [this] at hf
    have := congrArg (fun o => fon o (fun z _ => fok z ()) (fun _ _ => (fno : Out Unit Int32))) hf
    simp only [fon_fok] at this
    have h2 : (0 : Int32) = 1 := by
      injection this with h
      injection h with h
      injection h
    exact absurd h2 (by decide)
  · have : F_X10_fits (nI 13) x pl = fok 0 pl := by
      unfold F_X10_fits F_X10_fits_113
      rw [if_neg (by decide), if_neg (by decide), if_neg (by decide), if_neg (by decide), if_neg (by decide), if_neg (by decide), if_neg (by decide), if_neg (by decide), if_neg (by decide), if_neg (by decide), if_neg (by decide), if_neg (by decide), if_neg (by decide), if_pos (by decide), hz, fon_fok, if_pos rfl]
    rw [this] at hf
    have := congrArg (fun o => fon o (fun z _ => fok z ()) (fun _ _ => (fno : Out Unit Int32))) hf
    simp only [fon_fok] at this
    have h2 : (0 : Int32) = 1 := by
      injection this with h
      injection h with h
      injection h
    exact absurd h2 (by decide)
