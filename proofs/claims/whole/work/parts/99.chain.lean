theorem and31 (v : Int32) : ∃ n : Nat, n < 32 ∧ v &&& 31 = nI n := ⟨v.toBitVec.toNat % 2 ^ 5, by omega, pk_and v (m := 31) 5 rfl⟩
/-- the end of a chain, the same on both sides -/
def ChP (mt : A) (C : Out (Mnt × (Nat → Nat) × (Nat → Ras) × (Nat → Row) × Nat × Src × Pal × Qoi × Pnm × Bmp × Tga × Pcx × A) Int32) (R : Out (MO × MW × MR × Nat × A × A × A × A × A × A × A × A × A × A) Int32) : Prop :=
  ∃ (z : Int32) (m0 : Mnt) (sh : Nat → Nat) (rr : Nat → Ras) (ww : Nat → Row) (so : Nat) (sc : Src) (pl : Pal) (qo : Qoi) (pn : Pnm) (bm : Bmp) (tg : Tga) (px : Pcx) (fa : A) (mo : MO) (mw : MW) (mr : MR) (ms : Nat) (mu dd wi hi gt sp ta li sr co : A), C = fok z (m0, sh, rr, ww, so, sc, pl, qo, pn, bm, tg, px, fa) ∧ R = fok z (mo, mw, mr, ms, mu, dd, wi, hi, gt, sp, ta, li, sr, co) ∧ Inv m0 sh rr ww so sc pl qo pn bm tg px fa mo mw mr ms mt mu dd wi hi gt sp ta li sr co
/-- what the writers write, the readers take -/
def AllA : Prop := ∀ (n W H : Nat) (z : Int32) (d f : A), n ≤ 17 → 1 ≤ W → 1 ≤ H → W ≤ 4096 → H ≤ 4096 → W * H ≤ 4096 → Fact (nI n) d (W * H) → (n = 12 ∨ n = 13 → z ≠ 0) → (z = 0 ∨ z = 1) → Acc (fam n) (encL n z W H d).length (ap f (encL n z W H d))
theorem fam_5 (n : Nat) : fam n < 5 := by
  unfold fam
  repeat' split
  all_goals omega
theorem ch_step (hA : AllA) {i : Nat} (hi4 : i < 4) (v2 : Int32) {v3 t : Nat} (ht : t < v3) (h3 : v3 ≤ 6)
    (k : Int32 → Int32 → Int32 → Int32 → Mnt → (Nat → Nat) → (Nat → Ras) → (Nat → Row) → Nat → Src → Pal → Qoi → Pnm → Bmp → Tga → Pcx → A → Out (Mnt × (Nat → Nat) × (Nat → Ras) × (Nat → Row) × Nat × Src × Pal × Qoi × Pnm × Bmp × Tga × Pcx × A) Int32)
    (k2 : Int32 → Int32 → Int32 → Int32 → Int32 → MO → MW → MR → Nat → A → A → A → A → A → A → A → A → A → A → Out (MO × MW × MR × Nat × A × A × A × A × A × A × A × A × A × A) Int32) (mt : A)
    (hk0 : ∀ x mo mw mr ms mu dd wi hi gt sp ta li sr co, k2 (nI i) v2 (nI v3) x 0 mo mw mr ms mu dd wi hi gt sp ta li sr co = fok x (mo, mw, mr, ms, mu, dd, wi, hi, gt, sp, ta, li, sr, co))
    (hk : ∀ m0 sh rr ww so sc pl qo pn bm tg px fa mo mw mr ms mu dd wi hi gt sp ta li sr co, Inv m0 sh rr ww so sc pl qo pn bm tg px fa mo mw mr ms mt mu dd wi hi gt sp ta li sr co → wi i ≠ 0 → ChP mt (k (nI i) v2 (nI v3) (nI (t + 1)) m0 sh rr ww so sc pl qo pn bm tg px fa) (k2 (nI i) v2 (nI v3) (nI (t + 1)) 1 mo mw mr ms mu dd wi hi gt sp ta li sr co))
    (m0 : Mnt) (sh : Nat → Nat) (rr : Nat → Ras) (ww : Nat → Row) (so : Nat) (sc : Src) (pl : Pal) (qo : Qoi) (pn : Pnm) (bm : Bmp) (tg : Tga) (px : Pcx) (fa : A) (mo : MO) (mw : MW) (mr : MR) (ms : Nat) (mu dd wi hi gt sp ta li sr co : A) (h : Inv m0 sh rr ww so sc pl qo pn bm tg px fa mo mw mr ms mt mu dd wi hi gt sp ta li sr co) (hw : wi i ≠ 0) :
    ChP mt (F_X10_chain_23 k (nI i) v2 (nI v3) (nI t) m0 sh rr ww so sc pl qo pn bm tg px fa) (F_X11_chain_39 mt k2 (nI i) v2 (nI v3) (nI t) 1 mo mw mr ms mu dd wi hi gt sp ta li sr co) := by
  have hI := h
  obtain ⟨h1, ⟨hTp, ⟨m, hm, e14, eom, hho⟩, hf, hg⟩, h3'⟩ := h
  obtain ⟨W, H, b1, b2, b3, b4, b5, b6, b7, b8, b9⟩ := h1.2.2.2 i hi4
  have cW : W ≠ 0 := fun e => hw (by rw [b3, e]; rfl)
  have hWH : 1 ≤ W ∧ 1 ≤ H := by
    rcases b8 with ⟨e, _⟩ | e
    · exact absurd e cW
    · exact e
  unfold F_X10_chain_23 F_X11_chain_39
  obtain ⟨n, hn, en⟩ := and31 (v2 >>> ((5 * nI t) &&& 31))
  rw [en, if_neg (c := nI v3 ≤ nI t) (nI_ge ht (by omega)), if_neg (c := (1 : Int32) = 0) (by decide), if_neg (c := nI v3 ≤ nI t) (nI_ge ht (by omega)), if_pos (inb_nI hi4 (by omega)), nI_clamp (by omega), if_pos (h1.2.1 i hi4).1]
  by_cases c17 : 17 < n
  · rw [if_pos (c := 17 < nI n) (by (simp (disch := omega) only [nI_toInt, Int32.lt_iff_toInt_lt, Int32.le_iff_toInt_le, ← Int32.toInt_inj, Int32.reduceToInt]; omega))]
    have ef : F_X10_putOut (nI n) (sh i) rr ww pl qo = fok 0 (ww, pl, qo) := by
      unfold F_X10_putOut F_X10_putOut_19
      rw [if_pos (fam_no (by rw [nI_toInt (by omega)]; omega))]
    rw [ef, fon_fok, if_pos rfl]
    unfold F_X11_chain_82 F_X11_chain_83 F_X11_chain_169 F_X10_chain_72
    rw [if_pos rfl, hk0]
    exact ⟨_, _, _, _, _, _, _, _, _, _, _, _, _, _, _, _, _, _, _, _, _, _, _, _, _, _, _, _, rfl, rfl, hI⟩
  rw [if_neg (c := 17 < nI n) (by (simp (disch := omega) only [nI_toInt, Int32.lt_iff_toInt_lt, Int32.le_iff_toInt_le, ← Int32.toInt_inj, Int32.reduceToInt]; omega))]
  obtain ⟨z, pl2, sr2, hz, q1, q2, _, qF⟩ := ut_fits hi4 b7 (area b8 cW) (rr (sh i)) dd wi hi b1 b2 b3 b4 b9 (nI n) pl sr
  obtain ⟨zo, ho, o1, o2⟩ := ut_opaque hi4 b7 (rr (sh i)) dd wi hi b1 b2 b3 b4 b9
  rcases hz with rfl | rfl
  · rw [put_no (by omega) ww qo q1, q2, fon_fok, fon_fok, if_pos rfl, if_pos rfl]
    unfold F_X11_chain_82 F_X11_chain_83 F_X11_chain_169 F_X10_chain_72
    rw [if_pos rfl, hk0]
    exact ⟨_, _, _, _, _, _, _, _, _, _, _, _, _, _, _, _, _, _, _, _, _, _, _, _, _, _, _, _, rfl, rfl, hI⟩
  have hFa := qF rfl
  obtain ⟨pl3, qo3, ec⟩ := enc_c (ww := ww) (mu := mu) qo zo (by omega) e14 q1 hFa o1 b1 b2 b5 b6 hWH.1 hWH.2 b7
  obtain ⟨cm2, sp2, co2, er⟩ := enc_r (mu := mu) (sp := sp) (co := co) mw zo (by omega) hFa o2 (fun hc => fit_z hc q1 o1) hi4 b3 b4 b9 b5 b6 hWH.1 hWH.2 b7
  have hb := encL_b (n := n) (z := zo) (d := x_p (rr (sh i))) (by omega) b6 b7 (fun hc => hFa.2.2 (by rcases hc with rfl | rfl | rfl | rfl | rfl <;> decide))
  have hAc := hA n W H zo (x_p (rr (sh i))) mu (by omega) hWH.1 hWH.2 b5 b6 b7 hFa (fun hc => fit_z hc q1 o1) ho
  generalize encL n zo W H (x_p (rr (sh i))) = l at *
  have h14 : va_up ww 14 (RwC mu l) 14 = (nI l.length, ap mu l) := va_up_self _ _ _
  have T := takeA (a := fam n) (i := i) (o := 14) (q := 33) (n := l.length) m0 sh rr (va_up ww 14 (RwC mu l)) so sc qo3 pn bm tg px fa mr ms mt (ap mu l) gt sp2 ta li (fam_5 n) hi4 h1.1 (h1.2.1 i hi4).1 (Or.inr rfl) (Or.inr rfl) hb.2 h14 hAc
  obtain ⟨W2, H2, p2, sc2, qo2, pn2, bm2, tg2, px2, mr2, ms2, gt2, sp3, ta2, li2, w1, w2, w3, w4, w5, g1, g2, hx, e1, e2⟩ := T
  rw [ec, q2, fon_fok, fon_fok, if_neg (c := (1 : Int32) = 0) (by decide), if_neg (c := (1 : Int32) = 0) (by decide), fam_eq n (by omega)]
  dsimp only
  rw [e1, fon_fok, if_pos (c := (0 : Int32) = 0) rfl]
  unfold F_X11_chain_83
  rw [if_neg (c := (1 : Int32) = 0) (by decide), er, fon_fok]
  dsimp only
  have key : ChP mt (k (nI i) v2 (nI v3) (nI t + 1) (sh i, m0_fp m0) (va_up sh i (m0_sp m0)) (va_up rr (m0_sp m0) (nI W2, nI H2, p2)) (va_up ww 14 (RwC mu l)) 14 sc2 pl3 qo2 pn2 bm2 tg2 px2 (upd (upd (upd (upd fa 0 (nI (fam n))) 1 (mr_one mr2)) 2 (mr_two mr2)) 3 (mr_three mr2))) (F_X11_chain_140 mt k2 (nI i) v2 (nI v3) (nI t) 1 (nI (fam n)) mo (nI l.length, 1, cm2) mr ms (ap mu l) dd wi hi gt sp2 ta li sr2 co2) := by
    unfold F_X11_chain_140 F_X11_chain_166 F_X11_chain_169
    rw [show F_X11_readFile (nI (fam n)) (mw_om (nI l.length, 1, cm2)) 33 mr ms mt (ap mu l) gt sp2 ta li = _ from e2, fon_fok, if_neg (c := (1 : Int32) = 0) (by decide), kp_eq (nI (fam n)) hi4 w5 _ mr2 g1 g2, fon_fok, nI_1]
    refine hk _ _ _ _ _ _ _ _ _ _ _ _ _ _ _ _ _ _ _ _ _ _ _ _ _ _ _ ⟨RasI_swap h1 hi4 w1 w2 w3 w4 w5 hx, ⟨?_, ⟨l.length, hb.2, h14, rfl, Or.inr ⟨rfl, by omega⟩⟩, hf, fit_ap hg _⟩, FacI_set fa _ _ _ _ h3'.1⟩ ?_
    · have h12 : va_up ww 14 (RwC mu l) 12 = ww 12 := va_up_ne _ _ (by decide)
      obtain ⟨m2, g1, g2, g3⟩ := hTp
      exact ⟨m2, g1, h12.trans g2, g3⟩
    · show upd wi i (nI W2) i ≠ 0
      rw [pk_us]
      exact nI_ne0 (by omega) (by omega)
  have r0 : nI n = 0 ↔ n = 0 := nI_inj (b := 0) (by omega) (by omega)
  have r7 : 7 ≤ nI n ↔ 7 ≤ n := nI_leI (a := 7) (by omega) (by omega)
  have r10 : 10 ≤ nI n ↔ 10 ≤ n := nI_leI (a := 10) (by omega) (by omega)
  have r16 : 16 ≤ nI n ↔ 16 ≤ n := nI_leI (a := 16) (by omega) (by omega)
  by_cases c0 : n = 0
  · rw [if_pos (r0.mpr c0)]
    have ef : fam n = 0 := by unfold fam; rw [if_pos c0]
    rw [ef] at key ⊢
    exact key
  rw [if_neg (fun e => c0 (r0.mp e))]
  by_cases c1 : n < 7
  · rw [if_neg (c := 7 ≤ nI n) (fun e => by have := r7.mp e; omega)]
    have ef : fam n = 1 := by unfold fam; rw [if_neg c0, if_pos c1]
    rw [ef] at key ⊢
    exact key
  rw [if_pos (c := 7 ≤ nI n) (r7.mpr (by omega))]
  by_cases c2 : n < 10
  · rw [if_neg (c := 10 ≤ nI n) (fun e => by have := r10.mp e; omega)]
    have ef : fam n = 2 := by unfold fam; rw [if_neg c0, if_neg c1, if_pos c2]
    rw [ef] at key ⊢
    exact key
  rw [if_pos (c := 10 ≤ nI n) (r10.mpr (by omega))]
  by_cases c3 : n < 16
  · rw [if_neg (c := 16 ≤ nI n) (fun e => by have := r16.mp e; omega)]
    have ef : fam n = 3 := by unfold fam; rw [if_neg c0, if_neg c1, if_neg c2, if_pos c3]
    rw [ef] at key ⊢
    exact key
  · rw [if_pos (c := 16 ≤ nI n) (r16.mpr (by omega))]
    have ef : fam n = 4 := by unfold fam; rw [if_neg c0, if_neg c1, if_neg c2, if_neg c3]
    rw [ef] at key ⊢
    exact key
theorem ch_loop (hA : AllA) {i : Nat} (hi4 : i < 4) (v2 : Int32) {v3 : Nat} (h3 : v3 ≤ 6) (mt : A) (m0 : Mnt) (sh : Nat → Nat) (rr : Nat → Ras) (ww : Nat → Row) (so : Nat) (sc : Src) (pl : Pal) (qo : Qoi) (pn : Pnm) (bm : Bmp) (tg : Tga) (px : Pcx) (fa : A) (mo : MO) (mw : MW) (mr : MR) (ms : Nat) (mu dd wi hi gt sp ta li sr co : A) (h : Inv m0 sh rr ww so sc pl qo pn bm tg px fa mo mw mr ms mt mu dd wi hi gt sp ta li sr co) (hw : wi i ≠ 0) :
    ChP mt (lp (fun _ _ _ _ _ _ _ _ _ _ _ _ _ _ _ _ _ => fno) F_X10_chain_23 FU (nI i) v2 (nI v3) 0 m0 sh rr ww so sc pl qo pn bm tg px fa) (lp (fun _ _ _ _ _ _ _ _ _ _ _ _ _ _ _ _ _ _ _ => fno) (F_X11_chain_39 mt) FU (nI i) v2 (nI v3) 0 1 mo mw mr ms mu dd wi hi gt sp ta li sr co) := by
  have q := lp_D (z := fun _ _ _ _ _ _ _ _ _ _ _ _ _ _ _ _ _ => fno) (f := F_X10_chain_23) (z2 := fun _ _ _ _ _ _ _ _ _ _ _ _ _ _ _ _ _ _ _ => fno) (f2 := F_X11_chain_39 mt)
    (fun m k k2 => (∀ x mo mw mr ms mu dd wi hi gt sp ta li sr co, k2 (nI i) v2 (nI v3) x 0 mo mw mr ms mu dd wi hi gt sp ta li sr co = fok x (mo, mw, mr, ms, mu, dd, wi, hi, gt, sp, ta, li, sr, co)) ∧ (∀ t, t + m = v3 → ∀ m0 sh rr ww so sc pl qo pn bm tg px fa mo mw mr ms mu dd wi hi gt sp ta li sr co, Inv m0 sh rr ww so sc pl qo pn bm tg px fa mo mw mr ms mt mu dd wi hi gt sp ta li sr co → wi i ≠ 0 → ChP mt (k (nI i) v2 (nI v3) (nI t) m0 sh rr ww so sc pl qo pn bm tg px fa) (k2 (nI i) v2 (nI v3) (nI t) 1 mo mw mr ms mu dd wi hi gt sp ta li sr co))) ?_ v3 (by omega)
  · exact q.2 0 (by omega) m0 sh rr ww so sc pl qo pn bm tg px fa mo mw mr ms mu dd wi hi gt sp ta li sr co h hw
  · intro m k k2 ih
    refine ⟨?_, ?_⟩
    · intro x mo mw mr ms mu dd wi hi gt sp ta li sr co
      unfold F_X11_chain_39 F_X11_chain_172
      rw [if_pos rfl]
    · intro t ht m0 sh rr ww so sc pl qo pn bm tg px fa mo mw mr ms mu dd wi hi gt sp ta li sr co h hw
      by_cases c : m = 0
      · have : t = v3 := by omega
        subst this
        unfold F_X10_chain_23 F_X11_chain_39 F_X11_chain_172
        rw [if_pos (nI_le (by omega) (by omega)), if_neg (by decide), if_pos (nI_le (by omega) (by omega))]
        exact ⟨_, _, _, _, _, _, _, _, _, _, _, _, _, _, _, _, _, _, _, _, _, _, _, _, _, _, _, _, rfl, rfl, h⟩
      · exact ch_step hA hi4 v2 (by omega) h3 k k2 mt (ih 0 (by omega)).1 ((ih (m - 1) (by omega)).2 (t + 1) (by omega)) m0 sh rr ww so sc pl qo pn bm tg px fa mo mw mr ms mu dd wi hi gt sp ta li sr co h hw
theorem chain_of (hA : AllA) : S_chain Inv := by
  intro m0 sh rr ww so sc pl qo pn bm tg px fa mo mw mr ms mt mu dd wi hi gt sp ta li sr co h x1 x2 x3
  have hI : Inv m0 sh rr ww so sc pl qo pn bm tg px fa ((mo_taped mo), 0, (mo_tf mo), (mo_t1 mo), (mo_t2 mo), (mo_t3 mo), (mo_fp mo)) mw mr ms mt mu dd wi hi gt sp ta li sr co := h
  obtain ⟨h1, h2, h3⟩ := h
  rcases shelf_c x1 with ⟨s1, s2⟩ | ⟨i, hi4, rfl, s1, s2⟩
  · refine ⟨-1, (m0, sh, rr, ww, so, sc, pl, qo, pn, bm, tg, px, fa), (((mo_taped mo), 0, (mo_tf mo), (mo_t1 mo), (mo_t2 mo), (mo_t3 mo), (mo_fp mo)), mw, mr, ms, mu, dd, wi, hi, gt, sp, ta, li, sr, co), ?_, ?_, hI⟩
    · unfold F_X10_chain F_X10_chain_18; rw [has_no sh rr s1, fon_fok, if_pos rfl]
    · unfold F_X11_chain F_X11_chain_31; rw [if_pos s2]
  obtain ⟨W, H, b1, b2, b3, b4, b5, b6, b7, b8, b9⟩ := h1.2.2.2 i hi4
  have e1 := has_yes hi4 (h1.2.1 i hi4).1 b1 b5
  by_cases cW : W = 0
  · rw [if_pos cW] at e1
    refine ⟨-1, (m0, sh, rr, ww, so, sc, pl, qo, pn, bm, tg, px, fa), (((mo_taped mo), 0, (mo_tf mo), (mo_t1 mo), (mo_t2 mo), (mo_t3 mo), (mo_fp mo)), mw, mr, ms, mu, dd, wi, hi, gt, sp, ta, li, sr, co), ?_, ?_, hI⟩
    · unfold F_X10_chain F_X10_chain_18; rw [e1, fon_fok, if_pos rfl]
    · unfold F_X11_chain F_X11_chain_31; rw [s2, if_neg (by decide), if_pos (inb_nI hi4 (by omega)), nI_clamp (by omega), b3, cW, if_pos (by decide)]
  rw [if_neg cW] at e1
  have hW0 : ¬ nI W = 0 := nI_ne0 (by omega) (by omega)
  by_cases cx : 0 ≤ x3.toInt ∧ x3.toInt ≤ 6
  case neg =>
    refine ⟨-1, (m0, sh, rr, ww, so, sc, pl, qo, pn, bm, tg, px, fa), (((mo_taped mo), 0, (mo_tf mo), (mo_t1 mo), (mo_t2 mo), (mo_t3 mo), (mo_fp mo)), mw, mr, ms, mu, dd, wi, hi, gt, sp, ta, li, sr, co), ?_, ?_, hI⟩
    · unfold F_X10_chain F_X10_chain_18
      rw [e1, fon_fok, if_neg (c := (1 : Int32) = 0) (by decide)]
      by_cases c : x3 < 0
      · rw [if_pos c]
      · rw [if_neg c, if_neg (by simp only [Int32.lt_iff_toInt_lt, Int32.le_iff_toInt_le, Int32.reduceToInt] at *; omega)]
    · unfold F_X11_chain F_X11_chain_31
      rw [s2, if_neg (by decide), if_pos (inb_nI hi4 (by omega)), nI_clamp (by omega), b3, if_neg hW0]
      by_cases c : x3 < 0
      · rw [if_pos c]
      · rw [if_neg c, if_neg (by simp only [Int32.lt_iff_toInt_lt, Int32.le_iff_toInt_le, Int32.reduceToInt] at *; omega)]
  obtain ⟨v3, hv, rfl⟩ := i_of (n := 7) cx.1 (by omega)
  obtain ⟨z, m0', sh', rr', ww', so', sc', pl', qo', pn', bm', tg', px', fa', mo', mw', mr', ms', mu', dd', wi', hi', gt', sp', ta', li', sr', co', r1, r2, r3⟩ := ch_loop hA hi4 x2 (v3 := v3) (by omega) mt m0 sh rr ww so sc pl qo pn bm tg px fa ((mo_taped mo), 0, (mo_tf mo), (mo_t1 mo), (mo_t2 mo), (mo_t3 mo), (mo_fp mo)) mw mr ms mu dd wi hi gt sp ta li sr co hI (by rw [b3]; exact hW0)
  refine ⟨z, (m0', sh', rr', ww', so', sc', pl', qo', pn', bm', tg', px', fa'), (mo', mw', mr', ms', mu', dd', wi', hi', gt', sp', ta', li', sr', co'), ?_, ?_, r3⟩
  · unfold F_X10_chain
    rw [e1, fon_fok, if_neg (c := (1 : Int32) = 0) (by decide), if_neg (nI_pos (by omega)), if_pos (c := nI v3 ≤ 6) (nI_le (b := 6) (by omega) (by omega))]
    exact r1
  · unfold F_X11_chain
    rw [s2, if_neg (c := (1 : Int32) = 0) (by decide), if_pos (inb_nI hi4 (by omega)), nI_clamp (by omega), b3, if_neg hW0, if_neg (nI_pos (by omega)), if_pos (c := nI v3 ≤ 6) (nI_le (b := 6) (by omega) (by omega))]
    exact r2
