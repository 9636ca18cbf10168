theorem fok_fex {s a : Type} {x : a} {y y2 : s} {E : String} (h : fok x y = fex E y2) : False := by
  have := congrArg (fun o => fon o (fun _ _ => fok (1 : Int32) ()) (fun _ _ => (fok (0 : Int32) () : Out Unit Int32))) h
  simp only [fon_fok, fon_fex] at this
  have h2 : (1 : Int32) = 0 := by
    injection this with h
    injection h with h
    injection h
  exact absurd h2 (by decide)
/-- a file that both take -/
def TakeOK (a i o : Nat) (m0 : Mnt) (sh : Nat → Nat) (rr : Nat → Ras) (fa : A) (C : Out (Mnt × (Nat → Nat) × (Nat → Ras) × Nat × Src × Qoi × Pnm × Bmp × Tga × Pcx × A) Int32) (R : Out (MR × Nat × A × A × A × A) Int32) : Prop :=
  ∃ (W H : Nat) (p2 : A) (sc : Src) (qo : Qoi) (pn : Pnm) (bm : Bmp) (tg : Tga) (px : Pcx) (mr : MR) (ms : Nat) (gt sp ta li : A), 1 ≤ W ∧ 1 ≤ H ∧ W ≤ 4096 ∧ H ≤ 4096 ∧ W * H ≤ 4096 ∧ mr_gw mr = nI W ∧ mr_gh mr = nI H ∧ (∀ p, p < W * H → p2 p = gt p) ∧ C = fok 0 ((sh i, m0_fp m0), va_up sh i (m0_sp m0), va_up rr (m0_sp m0) (nI W, nI H, p2), o, sc, qo, pn, bm, tg, px, upd (upd (upd (upd fa 0 (nI a)) 1 (mr_one mr)) 2 (mr_two mr)) 3 (mr_three mr)) ∧ R = fok 1 (mr, ms, gt, sp, ta, li)
/-- the reader of a family takes n bytes -/
def Acc (a n : Nat) (sb : A) : Prop := (a = 0 → ∀ x fm, ∃ s, F_X6_decode x (Sr n 0) sb fm = fok () s) ∧ (a = 1 → ∀ x fm, ∃ s, F_X5_decode x (Sr n 0) sb fm = fok () s) ∧ (a = 2 → ∀ x fm, ∃ s, F_X0_decode x (Sr n 0) sb fm = fok () s) ∧ (a = 3 → ∀ x fm, ∃ s, F_X9_decode x (Sr n 0) sb fm = fok () s) ∧ (a = 4 → ∀ x fm, ∃ s, F_X4_decode x (Sr n 0) sb fm = fok () s)
theorem takeA_qoi {i o q n : Nat} (m0 : Mnt) (sh : Nat → Nat) (rr : Nat → Ras) (ww : Nat → Row) (so : Nat) (sc : Src) (qo : Qoi) (pn : Pnm) (bm : Bmp) (tg : Tga) (px : Pcx) (fa : A) (mr : MR) (ms : Nat) (mt mu gt sp ta li : A) (hi : i < 4) (hR : isR (m0_sp m0)) (hRi : isR (sh i)) (ho : isW o) (hq : isMS q) (hn : n ≤ 65536) (hw : ww o = (nI n, srcB q mt mu)) (hA : ∀ x fm, ∃ s, F_X6_decode x (Sr n 0) (srcB q mt mu) fm = fok () s) :
    TakeOK 0 i o m0 sh rr fa (F_X10_takeIn (nI 0) (nI i) o m0 sh rr ww so sc qo pn bm tg px fa) (F_X11_readFile (nI 0) (nI n) q mr ms mt mu gt sp ta li) := by
  have D := DRw_of (dec_qoi (n := n) (srcB q mt mu) hn (rr (m0_sp m0)) qo (mr_gw mr) (mr_gh mr) (mr_one mr) (mr_two mr) (mr_three mr) gt sp)
  obtain ⟨sA, eA⟩ := hA (rr (m0_sp m0)) qo
  unfold F_X10_takeIn F_X11_readFile F_X10_takeIn_10016 F_X8_open
  rw [if_neg (c := nI 0 < 0) (by decide), if_pos (c := nI 0 < 5) (by decide), if_pos (c := nI 0 = 0) rfl, if_pos (c := nI 0 = 0) rfl, if_pos hq, fon_fok]
  dsimp only
  rw [if_pos hR, if_pos ho, hw]
  dsimp only [y_n, y_b]
  rcases D with ⟨W, H, p2, fm, mr2, gg, w1, w2, w3, w4, w5, e1, e2, g1, g2, o1, o2, o3, hx⟩ | ⟨x2, sc2, fm, mr2, gg, e1, e2, hb⟩
  · rw [show F_X6_decode (rr (m0_sp m0)) (nI n, 0, 0, -1) (srcB q mt mu) qo = _ from e1, show F_X11_readChunks (srcB q mt mu) (nI n, 0, 0, -1, mr_gw mr, mr_gh mr, mr_one mr, mr_two mr, mr_three mr) gt sp = _ from e2, fon_fok, fon_fok, if_pos (c := inb (nI i) 4) (inb_nI hi (by omega)), nI_clamp (by omega), if_pos hRi, if_pos hR, if_pos (c := inb (nI i) 4) (inb_nI hi (by omega)), if_pos (c := inb 0 4) (inb_nI (n := 0) (by omega) (by omega)), if_pos (c := inb 1 4) (inb_nI (n := 1) (by omega) (by omega)), if_pos (c := inb 2 4) (inb_nI (n := 2) (by omega) (by omega)), if_pos (c := inb 3 4) (inb_nI (n := 3) (by omega) (by omega)), if_pos (c := isB 1) (Or.inr rfl)]
    rw [o1, o2, o3]
    exact ⟨W, H, p2, _, _, _, _, _, _, mr2, _, _, _, _, _, w1, w2, w3, w4, w5, g1, g2, hx, rfl, rfl⟩
  · exact (fok_fex (eA.symm.trans e1)).elim
theorem takeA_pnm {i o q n : Nat} (m0 : Mnt) (sh : Nat → Nat) (rr : Nat → Ras) (ww : Nat → Row) (so : Nat) (sc : Src) (qo : Qoi) (pn : Pnm) (bm : Bmp) (tg : Tga) (px : Pcx) (fa : A) (mr : MR) (ms : Nat) (mt mu gt sp ta li : A) (hi : i < 4) (hR : isR (m0_sp m0)) (hRi : isR (sh i)) (ho : isW o) (hq : isMS q) (hn : n ≤ 65536) (hw : ww o = (nI n, srcB q mt mu)) (hA : ∀ x fm, ∃ s, F_X5_decode x (Sr n 0) (srcB q mt mu) fm = fok () s) :
    TakeOK 1 i o m0 sh rr fa (F_X10_takeIn (nI 1) (nI i) o m0 sh rr ww so sc qo pn bm tg px fa) (F_X11_readFile (nI 1) (nI n) q mr ms mt mu gt sp ta li) := by
  have D := DRw_of (dec_pnm (n := n) (srcB q mt mu) hn (rr (m0_sp m0)) pn (mr_gw mr) (mr_gh mr) (mr_one mr) (mr_two mr) (mr_three mr) gt)
  obtain ⟨sA, eA⟩ := hA (rr (m0_sp m0)) pn
  unfold F_X10_takeIn F_X11_readFile F_X10_takeIn_20016 F_X8_open
  rw [if_neg (c := nI 1 < 0) (by decide), if_pos (c := nI 1 < 5) (by decide), if_neg (c := nI 1 = 0) (by decide), if_pos (c := nI 1 = 1) rfl, if_neg (c := nI 1 = 0) (by decide), if_pos (c := nI 1 = 1) rfl, if_pos hq, fon_fok]
  dsimp only
  rw [if_pos hR, if_pos ho, hw]
  dsimp only [y_n, y_b]
  rcases D with ⟨W, H, p2, fm, mr2, gg, w1, w2, w3, w4, w5, e1, e2, g1, g2, o1, o2, o3, hx⟩ | ⟨x2, sc2, fm, mr2, gg, e1, e2, hb⟩
  · rw [show F_X5_decode (rr (m0_sp m0)) (nI n, 0, 0, -1) (srcB q mt mu) pn = _ from e1, show F_X11_readMaps (srcB q mt mu) (nI n, 0, 0, -1, mr_gw mr, mr_gh mr, mr_one mr, mr_two mr, mr_three mr) gt = _ from e2, fon_fok, fon_fok, if_pos (c := inb (nI i) 4) (inb_nI hi (by omega)), nI_clamp (by omega), if_pos hRi, if_pos hR, if_pos (c := inb (nI i) 4) (inb_nI hi (by omega)), if_pos (c := inb 0 4) (inb_nI (n := 0) (by omega) (by omega)), if_pos (c := inb 1 4) (inb_nI (n := 1) (by omega) (by omega)), if_pos (c := inb 2 4) (inb_nI (n := 2) (by omega) (by omega)), if_pos (c := inb 3 4) (inb_nI (n := 3) (by omega) (by omega)), if_pos (c := isB 1) (Or.inr rfl)]
    rw [o1, o2, o3]
    exact ⟨W, H, p2, _, _, _, _, _, _, mr2, _, _, _, _, _, w1, w2, w3, w4, w5, g1, g2, hx, rfl, rfl⟩
  · exact (fok_fex (eA.symm.trans e1)).elim
theorem takeA_bmp {i o q n : Nat} (m0 : Mnt) (sh : Nat → Nat) (rr : Nat → Ras) (ww : Nat → Row) (so : Nat) (sc : Src) (qo : Qoi) (pn : Pnm) (bm : Bmp) (tg : Tga) (px : Pcx) (fa : A) (mr : MR) (ms : Nat) (mt mu gt sp ta li : A) (hi : i < 4) (hR : isR (m0_sp m0)) (hRi : isR (sh i)) (ho : isW o) (hq : isMS q) (hn : n ≤ 65536) (hw : ww o = (nI n, srcB q mt mu)) (hA : ∀ x fm, ∃ s, F_X0_decode x (Sr n 0) (srcB q mt mu) fm = fok () s) :
    TakeOK 2 i o m0 sh rr fa (F_X10_takeIn (nI 2) (nI i) o m0 sh rr ww so sc qo pn bm tg px fa) (F_X11_readFile (nI 2) (nI n) q mr ms mt mu gt sp ta li) := by
  have D := DRw_of (dec_bmp (n := n) (srcB q mt mu) hn (rr (m0_sp m0)) bm (mr_gw mr) (mr_gh mr) (mr_one mr) (mr_two mr) (mr_three mr) gt ta)
  obtain ⟨sA, eA⟩ := hA (rr (m0_sp m0)) bm
  unfold F_X10_takeIn F_X11_readFile F_X10_takeIn_30016 F_X8_open
  rw [if_neg (c := nI 2 < 0) (by decide), if_pos (c := nI 2 < 5) (by decide), if_neg (c := nI 2 = 0) (by decide), if_neg (c := nI 2 = 1) (by decide), if_pos (c := nI 2 = 2) rfl, if_neg (c := nI 2 = 0) (by decide), if_neg (c := nI 2 = 1) (by decide), if_pos (c := nI 2 = 2) rfl, if_pos hq, fon_fok]
  dsimp only
  rw [if_pos hR, if_pos ho, hw]
  dsimp only [y_n, y_b]
  rcases D with ⟨W, H, p2, fm, mr2, gg, w1, w2, w3, w4, w5, e1, e2, g1, g2, o1, o2, o3, hx⟩ | ⟨x2, sc2, fm, mr2, gg, e1, e2, hb⟩
  · rw [show F_X0_decode (rr (m0_sp m0)) (nI n, 0, 0, -1) (srcB q mt mu) bm = _ from e1, show F_X11_readRows (srcB q mt mu) (nI n, 0, 0, -1, mr_gw mr, mr_gh mr, mr_one mr, mr_two mr, mr_three mr) gt ta = _ from e2, fon_fok, fon_fok, if_pos (c := inb (nI i) 4) (inb_nI hi (by omega)), nI_clamp (by omega), if_pos hRi, if_pos hR, if_pos (c := inb (nI i) 4) (inb_nI hi (by omega)), if_pos (c := inb 0 4) (inb_nI (n := 0) (by omega) (by omega)), if_pos (c := inb 1 4) (inb_nI (n := 1) (by omega) (by omega)), if_pos (c := inb 2 4) (inb_nI (n := 2) (by omega) (by omega)), if_pos (c := inb 3 4) (inb_nI (n := 3) (by omega) (by omega)), if_pos (c := isB 1) (Or.inr rfl)]
    rw [o1, o2, o3]
    exact ⟨W, H, p2, _, _, _, _, _, _, mr2, _, _, _, _, _, w1, w2, w3, w4, w5, g1, g2, hx, rfl, rfl⟩
  · exact (fok_fex (eA.symm.trans e1)).elim
theorem takeA_tga {i o q n : Nat} (m0 : Mnt) (sh : Nat → Nat) (rr : Nat → Ras) (ww : Nat → Row) (so : Nat) (sc : Src) (qo : Qoi) (pn : Pnm) (bm : Bmp) (tg : Tga) (px : Pcx) (fa : A) (mr : MR) (ms : Nat) (mt mu gt sp ta li : A) (hi : i < 4) (hR : isR (m0_sp m0)) (hRi : isR (sh i)) (ho : isW o) (hq : isMS q) (hn : n ≤ 65536) (hw : ww o = (nI n, srcB q mt mu)) (hA : ∀ x fm, ∃ s, F_X9_decode x (Sr n 0) (srcB q mt mu) fm = fok () s) :
    TakeOK 3 i o m0 sh rr fa (F_X10_takeIn (nI 3) (nI i) o m0 sh rr ww so sc qo pn bm tg px fa) (F_X11_readFile (nI 3) (nI n) q mr ms mt mu gt sp ta li) := by
  have D := dec_tga (n := n) (srcB q mt mu) hn (rr (m0_sp m0)) tg (mr_gw mr) (mr_gh mr) (mr_one mr) (mr_two mr) (mr_three mr) gt ta
  obtain ⟨sA, eA⟩ := hA (rr (m0_sp m0)) tg
  unfold F_X10_takeIn F_X11_readFile F_X10_takeIn_40016 F_X8_open
  rw [if_neg (c := nI 3 < 0) (by decide), if_pos (c := nI 3 < 5) (by decide), if_neg (c := nI 3 = 0) (by decide), if_neg (c := nI 3 = 1) (by decide), if_neg (c := nI 3 = 2) (by decide), if_pos (c := nI 3 = 3) rfl, if_neg (c := nI 3 = 0) (by decide), if_neg (c := nI 3 = 1) (by decide), if_neg (c := nI 3 = 2) (by decide), if_pos (c := nI 3 = 3) rfl, if_pos hq, fon_fok]
  dsimp only
  rw [if_pos hR, if_pos ho, hw]
  dsimp only [y_n, y_b]
  rcases D with ⟨W, H, p2, fm, mr2, gg, w1, w2, w3, w4, w5, e1, e2, g1, g2, o1, o2, o3, hx⟩ | ⟨x2, sc2, fm, mr2, gg, e1, e2, hb⟩
  · rw [show F_X9_decode (rr (m0_sp m0)) (nI n, 0, 0, -1) (srcB q mt mu) tg = _ from e1, show F_X11_readTarga (srcB q mt mu) (nI n, 0, 0, -1, mr_gw mr, mr_gh mr, mr_one mr, mr_two mr, mr_three mr) gt ta = _ from e2, fon_fok, fon_fok, if_pos (c := inb (nI i) 4) (inb_nI hi (by omega)), nI_clamp (by omega), if_pos hRi, if_pos hR, if_pos (c := inb (nI i) 4) (inb_nI hi (by omega)), if_pos (c := inb 0 4) (inb_nI (n := 0) (by omega) (by omega)), if_pos (c := inb 1 4) (inb_nI (n := 1) (by omega) (by omega)), if_pos (c := inb 2 4) (inb_nI (n := 2) (by omega) (by omega)), if_pos (c := inb 3 4) (inb_nI (n := 3) (by omega) (by omega)), if_pos (c := isB 1) (Or.inr rfl)]
    rw [o1, o2, o3]
    exact ⟨W, H, p2, _, _, _, _, _, _, mr2, _, _, _, _, _, w1, w2, w3, w4, w5, g1, g2, hx, rfl, rfl⟩
  · exact (fok_fex (eA.symm.trans e1)).elim
theorem takeA_pcx {i o q n : Nat} (m0 : Mnt) (sh : Nat → Nat) (rr : Nat → Ras) (ww : Nat → Row) (so : Nat) (sc : Src) (qo : Qoi) (pn : Pnm) (bm : Bmp) (tg : Tga) (px : Pcx) (fa : A) (mr : MR) (ms : Nat) (mt mu gt sp ta li : A) (hi : i < 4) (hR : isR (m0_sp m0)) (hRi : isR (sh i)) (ho : isW o) (hq : isMS q) (hn : n ≤ 65536) (hw : ww o = (nI n, srcB q mt mu)) (hA : ∀ x fm, ∃ s, F_X4_decode x (Sr n 0) (srcB q mt mu) fm = fok () s) :
    TakeOK 4 i o m0 sh rr fa (F_X10_takeIn (nI 4) (nI i) o m0 sh rr ww so sc qo pn bm tg px fa) (F_X11_readFile (nI 4) (nI n) q mr ms mt mu gt sp ta li) := by
  have D := dec_pcx (n := n) (srcB q mt mu) hn (rr (m0_sp m0)) px (mr_gw mr) (mr_gh mr) (mr_one mr) (mr_two mr) (mr_three mr) gt ta li
  obtain ⟨sA, eA⟩ := hA (rr (m0_sp m0)) px
  unfold F_X10_takeIn F_X11_readFile F_X10_takeIn_50016 F_X8_open
  rw [if_neg (c := nI 4 < 0) (by decide), if_pos (c := nI 4 < 5) (by decide), if_neg (c := nI 4 = 0) (by decide), if_neg (c := nI 4 = 1) (by decide), if_neg (c := nI 4 = 2) (by decide), if_neg (c := nI 4 = 3) (by decide), if_pos (c := nI 4 = 4) rfl, if_neg (c := nI 4 = 0) (by decide), if_neg (c := nI 4 = 1) (by decide), if_neg (c := nI 4 = 2) (by decide), if_neg (c := nI 4 = 3) (by decide), if_pos hq, fon_fok]
  dsimp only
  rw [if_pos hR, if_pos ho, hw]
  dsimp only [y_n, y_b]
  rcases D with ⟨W, H, p2, fm, mr2, gg, w1, w2, w3, w4, w5, e1, e2, g1, g2, o1, o2, o3, hx⟩ | ⟨x2, sc2, fm, mr2, gg, e1, e2, hb⟩
  · rw [show F_X4_decode (rr (m0_sp m0)) (nI n, 0, 0, -1) (srcB q mt mu) px = _ from e1, show F_X11_readPlanes (srcB q mt mu) (nI n, 0, 0, -1, mr_gw mr, mr_gh mr, mr_one mr, mr_two mr, mr_three mr) gt ta li = _ from e2, fon_fok, fon_fok, if_pos (c := inb (nI i) 4) (inb_nI hi (by omega)), nI_clamp (by omega), if_pos hRi, if_pos hR, if_pos (c := inb (nI i) 4) (inb_nI hi (by omega)), if_pos (c := inb 0 4) (inb_nI (n := 0) (by omega) (by omega)), if_pos (c := inb 1 4) (inb_nI (n := 1) (by omega) (by omega)), if_pos (c := inb 2 4) (inb_nI (n := 2) (by omega) (by omega)), if_pos (c := inb 3 4) (inb_nI (n := 3) (by omega) (by omega)), if_pos (c := isB 1) (Or.inr rfl)]
    rw [o1, o2, o3]
    exact ⟨W, H, p2, _, _, _, _, _, _, mr2, _, _, _, _, _, w1, w2, w3, w4, w5, g1, g2, hx, rfl, rfl⟩
  · exact (fok_fex (eA.symm.trans e1)).elim
theorem takeA {a i o q n : Nat} (m0 : Mnt) (sh : Nat → Nat) (rr : Nat → Ras) (ww : Nat → Row) (so : Nat) (sc : Src) (qo : Qoi) (pn : Pnm) (bm : Bmp) (tg : Tga) (px : Pcx) (fa : A) (mr : MR) (ms : Nat) (mt mu gt sp ta li : A) (ha : a < 5) (hi : i < 4) (hR : isR (m0_sp m0)) (hRi : isR (sh i)) (ho : isW o) (hq : isMS q) (hn : n ≤ 65536) (hw : ww o = (nI n, srcB q mt mu)) (hA : Acc a n (srcB q mt mu)) :
    TakeOK a i o m0 sh rr fa (F_X10_takeIn (nI a) (nI i) o m0 sh rr ww so sc qo pn bm tg px fa) (F_X11_readFile (nI a) (nI n) q mr ms mt mu gt sp ta li) := by
  obtain ⟨A0, A1, A2, A3, A4⟩ := hA
  rcases (by omega : a = 0 ∨ a = 1 ∨ a = 2 ∨ a = 3 ∨ a = 4) with rfl | rfl | rfl | rfl | rfl
  · exact takeA_qoi m0 sh rr ww so sc qo pn bm tg px fa mr ms mt mu gt sp ta li hi hR hRi ho hq hn hw (A0 rfl)
  · exact takeA_pnm m0 sh rr ww so sc qo pn bm tg px fa mr ms mt mu gt sp ta li hi hR hRi ho hq hn hw (A1 rfl)
  · exact takeA_bmp m0 sh rr ww so sc qo pn bm tg px fa mr ms mt mu gt sp ta li hi hR hRi ho hq hn hw (A2 rfl)
  · exact takeA_tga m0 sh rr ww so sc qo pn bm tg px fa mr ms mt mu gt sp ta li hi hR hRi ho hq hn hw (A3 rfl)
  · exact takeA_pcx m0 sh rr ww so sc qo pn bm tg px fa mr ms mt mu gt sp ta li hi hR hRi ho hq hn hw (A4 rfl)
