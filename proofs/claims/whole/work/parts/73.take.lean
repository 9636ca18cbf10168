/-- a file taken in by both -/
def TakeP (a i o : Nat) (m0 : Mnt) (sh : Nat → Nat) (rr : Nat → Ras) (fa : A) (C : Out (Mnt × (Nat → Nat) × (Nat → Ras) × Nat × Src × Qoi × Pnm × Bmp × Tga × Pcx × A) Int32) (R : Out (MR × Nat × A × A × A × A) Int32) : Prop :=
  (∃ (W H : Nat) (p2 : A) (sc : Src) (qo : Qoi) (pn : Pnm) (bm : Bmp) (tg : Tga) (px : Pcx) (mr : MR) (ms : Nat) (gt sp ta li : A), 1 ≤ W ∧ 1 ≤ H ∧ W ≤ 4096 ∧ H ≤ 4096 ∧ W * H ≤ 4096 ∧ mr_gw mr = nI W ∧ mr_gh mr = nI H ∧ (∀ p, p < W * H → p2 p = gt p) ∧ C = fok 0 ((sh i, m0_fp m0), va_up sh i (m0_sp m0), va_up rr (m0_sp m0) (nI W, nI H, p2), o, sc, qo, pn, bm, tg, px, upd (upd (upd (upd fa 0 (nI a)) 1 (mr_one mr)) 2 (mr_two mr)) 3 (mr_three mr)) ∧ R = fok 1 (mr, ms, gt, sp, ta, li)) ∨
  (∃ (k : Int32) (x : Ras) (sc : Src) (qo : Qoi) (pn : Pnm) (bm : Bmp) (tg : Tga) (px : Pcx) (mr : MR) (ms : Nat) (gt sp ta li : A), k ≠ 0 ∧ mr_kind mr = k ∧ mr_whr mr = sc_fp sc ∧ C = fok k (m0, sh, va_up rr (m0_sp m0) x, o, sc, qo, pn, bm, tg, px, fa) ∧ R = fok 0 (mr, ms, gt, sp, ta, li))
theorem take_qoi {i o q n : Nat} (m0 : Mnt) (sh : Nat → Nat) (rr : Nat → Ras) (ww : Nat → Row) (so : Nat) (sc : Src) (qo : Qoi) (pn : Pnm) (bm : Bmp) (tg : Tga) (px : Pcx) (fa : A) (mr : MR) (ms : Nat) (mt mu gt sp ta li : A) (hi : i < 4) (hR : isR (m0_sp m0)) (hRi : isR (sh i)) (ho : isW o) (hq : isMS q) (hn : n ≤ 65536) (hw : ww o = (nI n, srcB q mt mu)) :
    TakeP 0 i o m0 sh rr fa (F_X10_takeIn (nI 0) (nI i) o m0 sh rr ww so sc qo pn bm tg px fa) (F_X11_readFile (nI 0) (nI n) q mr ms mt mu gt sp ta li) := by
  have D := DRw_of (dec_qoi (n := n) (srcB q mt mu) hn (rr (m0_sp m0)) qo (mr_gw mr) (mr_gh mr) (mr_one mr) (mr_two mr) (mr_three mr) gt sp)
  unfold F_X10_takeIn F_X11_readFile F_X10_takeIn_10016 F_X8_open
  rw [if_neg (c := nI 0 < 0) (by decide), if_pos (c := nI 0 < 5) (by decide), if_pos (c := nI 0 = 0) rfl, if_pos (c := nI 0 = 0) rfl, if_pos hq, fon_fok]
  dsimp only
  rw [if_pos hR, if_pos ho, hw]
  dsimp only [y_n, y_b]
  rcases D with ⟨W, H, p2, fm, mr2, gg, w1, w2, w3, w4, w5, e1, e2, g1, g2, o1, o2, o3, hx⟩ | ⟨x2, sc2, fm, mr2, gg, e1, e2, hb⟩
  · rw [show F_X6_decode (rr (m0_sp m0)) (nI n, 0, 0, -1) (srcB q mt mu) qo = _ from e1, show F_X11_readChunks (srcB q mt mu) (nI n, 0, 0, -1, mr_gw mr, mr_gh mr, mr_one mr, mr_two mr, mr_three mr) gt sp = _ from e2, fon_fok, fon_fok, if_pos (c := inb (nI i) 4) (inb_nI hi (by omega)), nI_clamp (by omega), if_pos hRi, if_pos hR, if_pos (c := inb (nI i) 4) (inb_nI hi (by omega)), if_pos (c := inb 0 4) (inb_nI (n := 0) (by omega) (by omega)), if_pos (c := inb 1 4) (inb_nI (n := 1) (by omega) (by omega)), if_pos (c := inb 2 4) (inb_nI (n := 2) (by omega) (by omega)), if_pos (c := inb 3 4) (inb_nI (n := 3) (by omega) (by omega)), if_pos (c := isB 1) (Or.inr rfl)]
    rw [o1, o2, o3]
    exact Or.inl ⟨W, H, p2, _, _, _, _, _, _, mr2, _, _, _, _, _, w1, w2, w3, w4, w5, g1, g2, hx, rfl, rfl⟩
  · obtain ⟨k1, k2, k3⟩ := hb
    rw [show F_X6_decode (rr (m0_sp m0)) (nI n, 0, 0, -1) (srcB q mt mu) qo = _ from e1, show F_X11_readChunks (srcB q mt mu) (nI n, 0, 0, -1, mr_gw mr, mr_gh mr, mr_one mr, mr_two mr, mr_three mr) gt sp = _ from e2, fon_fex, fon_fok, if_pos (c := ISE = "java/lang/IllegalStateException") rfl, if_pos (c := isB 0) (Or.inl rfl)]
    rw [if_pos (c := ¬ sc_ft sc2 = 0) k1]
    exact Or.inr ⟨_, _, _, _, _, _, _, _, mr2, _, _, _, _, _, k1, k2, k3, rfl, rfl⟩
theorem take_pnm {i o q n : Nat} (m0 : Mnt) (sh : Nat → Nat) (rr : Nat → Ras) (ww : Nat → Row) (so : Nat) (sc : Src) (qo : Qoi) (pn : Pnm) (bm : Bmp) (tg : Tga) (px : Pcx) (fa : A) (mr : MR) (ms : Nat) (mt mu gt sp ta li : A) (hi : i < 4) (hR : isR (m0_sp m0)) (hRi : isR (sh i)) (ho : isW o) (hq : isMS q) (hn : n ≤ 65536) (hw : ww o = (nI n, srcB q mt mu)) :
    TakeP 1 i o m0 sh rr fa (F_X10_takeIn (nI 1) (nI i) o m0 sh rr ww so sc qo pn bm tg px fa) (F_X11_readFile (nI 1) (nI n) q mr ms mt mu gt sp ta li) := by
  have D := DRw_of (dec_pnm (n := n) (srcB q mt mu) hn (rr (m0_sp m0)) pn (mr_gw mr) (mr_gh mr) (mr_one mr) (mr_two mr) (mr_three mr) gt)
  unfold F_X10_takeIn F_X11_readFile F_X10_takeIn_20016 F_X8_open
  rw [if_neg (c := nI 1 < 0) (by decide), if_pos (c := nI 1 < 5) (by decide), if_neg (c := nI 1 = 0) (by decide), if_pos (c := nI 1 = 1) rfl, if_neg (c := nI 1 = 0) (by decide), if_pos (c := nI 1 = 1) rfl, if_pos hq, fon_fok]
  dsimp only
  rw [if_pos hR, if_pos ho, hw]
  dsimp only [y_n, y_b]
  rcases D with ⟨W, H, p2, fm, mr2, gg, w1, w2, w3, w4, w5, e1, e2, g1, g2, o1, o2, o3, hx⟩ | ⟨x2, sc2, fm, mr2, gg, e1, e2, hb⟩
  · rw [show F_X5_decode (rr (m0_sp m0)) (nI n, 0, 0, -1) (srcB q mt mu) pn = _ from e1, show F_X11_readMaps (srcB q mt mu) (nI n, 0, 0, -1, mr_gw mr, mr_gh mr, mr_one mr, mr_two mr, mr_three mr) gt = _ from e2, fon_fok, fon_fok, if_pos (c := inb (nI i) 4) (inb_nI hi (by omega)), nI_clamp (by omega), if_pos hRi, if_pos hR, if_pos (c := inb (nI i) 4) (inb_nI hi (by omega)), if_pos (c := inb 0 4) (inb_nI (n := 0) (by omega) (by omega)), if_pos (c := inb 1 4) (inb_nI (n := 1) (by omega) (by omega)), if_pos (c := inb 2 4) (inb_nI (n := 2) (by omega) (by omega)), if_pos (c := inb 3 4) (inb_nI (n := 3) (by omega) (by omega)), if_pos (c := isB 1) (Or.inr rfl)]
    rw [o1, o2, o3]
    exact Or.inl ⟨W, H, p2, _, _, _, _, _, _, mr2, _, _, _, _, _, w1, w2, w3, w4, w5, g1, g2, hx, rfl, rfl⟩
  · obtain ⟨k1, k2, k3⟩ := hb
    rw [show F_X5_decode (rr (m0_sp m0)) (nI n, 0, 0, -1) (srcB q mt mu) pn = _ from e1, show F_X11_readMaps (srcB q mt mu) (nI n, 0, 0, -1, mr_gw mr, mr_gh mr, mr_one mr, mr_two mr, mr_three mr) gt = _ from e2, fon_fex, fon_fok, if_pos (c := ISE = "java/lang/IllegalStateException") rfl, if_pos (c := isB 0) (Or.inl rfl)]
    rw [if_pos (c := ¬ sc_ft sc2 = 0) k1]
    exact Or.inr ⟨_, _, _, _, _, _, _, _, mr2, _, _, _, _, _, k1, k2, k3, rfl, rfl⟩
theorem take_bmp {i o q n : Nat} (m0 : Mnt) (sh : Nat → Nat) (rr : Nat → Ras) (ww : Nat → Row) (so : Nat) (sc : Src) (qo : Qoi) (pn : Pnm) (bm : Bmp) (tg : Tga) (px : Pcx) (fa : A) (mr : MR) (ms : Nat) (mt mu gt sp ta li : A) (hi : i < 4) (hR : isR (m0_sp m0)) (hRi : isR (sh i)) (ho : isW o) (hq : isMS q) (hn : n ≤ 65536) (hw : ww o = (nI n, srcB q mt mu)) :
    TakeP 2 i o m0 sh rr fa (F_X10_takeIn (nI 2) (nI i) o m0 sh rr ww so sc qo pn bm tg px fa) (F_X11_readFile (nI 2) (nI n) q mr ms mt mu gt sp ta li) := by
  have D := DRw_of (dec_bmp (n := n) (srcB q mt mu) hn (rr (m0_sp m0)) bm (mr_gw mr) (mr_gh mr) (mr_one mr) (mr_two mr) (mr_three mr) gt ta)
  unfold F_X10_takeIn F_X11_readFile F_X10_takeIn_30016 F_X8_open
  rw [if_neg (c := nI 2 < 0) (by decide), if_pos (c := nI 2 < 5) (by decide), if_neg (c := nI 2 = 0) (by decide), if_neg (c := nI 2 = 1) (by decide), if_pos (c := nI 2 = 2) rfl, if_neg (c := nI 2 = 0) (by decide), if_neg (c := nI 2 = 1) (by decide), if_pos (c := nI 2 = 2) rfl, if_pos hq, fon_fok]
  dsimp only
  rw [if_pos hR, if_pos ho, hw]
  dsimp only [y_n, y_b]
  rcases D with ⟨W, H, p2, fm, mr2, gg, w1, w2, w3, w4, w5, e1, e2, g1, g2, o1, o2, o3, hx⟩ | ⟨x2, sc2, fm, mr2, gg, e1, e2, hb⟩
  · rw [show F_X0_decode (rr (m0_sp m0)) (nI n, 0, 0, -1) (srcB q mt mu) bm = _ from e1, show F_X11_readRows (srcB q mt mu) (nI n, 0, 0, -1, mr_gw mr, mr_gh mr, mr_one mr, mr_two mr, mr_three mr) gt ta = _ from e2, fon_fok, fon_fok, if_pos (c := inb (nI i) 4) (inb_nI hi (by omega)), nI_clamp (by omega), if_pos hRi, if_pos hR, if_pos (c := inb (nI i) 4) (inb_nI hi (by omega)), if_pos (c := inb 0 4) (inb_nI (n := 0) (by omega) (by omega)), if_pos (c := inb 1 4) (inb_nI (n := 1) (by omega) (by omega)), if_pos (c := inb 2 4) (inb_nI (n := 2) (by omega) (by omega)), if_pos (c := inb 3 4) (inb_nI (n := 3) (by omega) (by omega)), if_pos (c := isB 1) (Or.inr rfl)]
    rw [o1, o2, o3]
    exact Or.inl ⟨W, H, p2, _, _, _, _, _, _, mr2, _, _, _, _, _, w1, w2, w3, w4, w5, g1, g2, hx, rfl, rfl⟩
  · obtain ⟨k1, k2, k3⟩ := hb
    rw [show F_X0_decode (rr (m0_sp m0)) (nI n, 0, 0, -1) (srcB q mt mu) bm = _ from e1, show F_X11_readRows (srcB q mt mu) (nI n, 0, 0, -1, mr_gw mr, mr_gh mr, mr_one mr, mr_two mr, mr_three mr) gt ta = _ from e2, fon_fex, fon_fok, if_pos (c := ISE = "java/lang/IllegalStateException") rfl, if_pos (c := isB 0) (Or.inl rfl)]
    rw [if_pos (c := ¬ sc_ft sc2 = 0) k1]
    exact Or.inr ⟨_, _, _, _, _, _, _, _, mr2, _, _, _, _, _, k1, k2, k3, rfl, rfl⟩
theorem take_tga {i o q n : Nat} (m0 : Mnt) (sh : Nat → Nat) (rr : Nat → Ras) (ww : Nat → Row) (so : Nat) (sc : Src) (qo : Qoi) (pn : Pnm) (bm : Bmp) (tg : Tga) (px : Pcx) (fa : A) (mr : MR) (ms : Nat) (mt mu gt sp ta li : A) (hi : i < 4) (hR : isR (m0_sp m0)) (hRi : isR (sh i)) (ho : isW o) (hq : isMS q) (hn : n ≤ 65536) (hw : ww o = (nI n, srcB q mt mu)) :
    TakeP 3 i o m0 sh rr fa (F_X10_takeIn (nI 3) (nI i) o m0 sh rr ww so sc qo pn bm tg px fa) (F_X11_readFile (nI 3) (nI n) q mr ms mt mu gt sp ta li) := by
  have D := dec_tga (n := n) (srcB q mt mu) hn (rr (m0_sp m0)) tg (mr_gw mr) (mr_gh mr) (mr_one mr) (mr_two mr) (mr_three mr) gt ta
  unfold F_X10_takeIn F_X11_readFile F_X10_takeIn_40016 F_X8_open
  rw [if_neg (c := nI 3 < 0) (by decide), if_pos (c := nI 3 < 5) (by decide), if_neg (c := nI 3 = 0) (by decide), if_neg (c := nI 3 = 1) (by decide), if_neg (c := nI 3 = 2) (by decide), if_pos (c := nI 3 = 3) rfl, if_neg (c := nI 3 = 0) (by decide), if_neg (c := nI 3 = 1) (by decide), if_neg (c := nI 3 = 2) (by decide), if_pos (c := nI 3 = 3) rfl, if_pos hq, fon_fok]
  dsimp only
  rw [if_pos hR, if_pos ho, hw]
  dsimp only [y_n, y_b]
  rcases D with ⟨W, H, p2, fm, mr2, gg, w1, w2, w3, w4, w5, e1, e2, g1, g2, o1, o2, o3, hx⟩ | ⟨x2, sc2, fm, mr2, gg, e1, e2, hb⟩
  · rw [show F_X9_decode (rr (m0_sp m0)) (nI n, 0, 0, -1) (srcB q mt mu) tg = _ from e1, show F_X11_readTarga (srcB q mt mu) (nI n, 0, 0, -1, mr_gw mr, mr_gh mr, mr_one mr, mr_two mr, mr_three mr) gt ta = _ from e2, fon_fok, fon_fok, if_pos (c := inb (nI i) 4) (inb_nI hi (by omega)), nI_clamp (by omega), if_pos hRi, if_pos hR, if_pos (c := inb (nI i) 4) (inb_nI hi (by omega)), if_pos (c := inb 0 4) (inb_nI (n := 0) (by omega) (by omega)), if_pos (c := inb 1 4) (inb_nI (n := 1) (by omega) (by omega)), if_pos (c := inb 2 4) (inb_nI (n := 2) (by omega) (by omega)), if_pos (c := inb 3 4) (inb_nI (n := 3) (by omega) (by omega)), if_pos (c := isB 1) (Or.inr rfl)]
    rw [o1, o2, o3]
    exact Or.inl ⟨W, H, p2, _, _, _, _, _, _, mr2, _, _, _, _, _, w1, w2, w3, w4, w5, g1, g2, hx, rfl, rfl⟩
  · obtain ⟨k1, k2, k3⟩ := hb
    rw [show F_X9_decode (rr (m0_sp m0)) (nI n, 0, 0, -1) (srcB q mt mu) tg = _ from e1, show F_X11_readTarga (srcB q mt mu) (nI n, 0, 0, -1, mr_gw mr, mr_gh mr, mr_one mr, mr_two mr, mr_three mr) gt ta = _ from e2, fon_fex, fon_fok, if_pos (c := ISE = "java/lang/IllegalStateException") rfl, if_pos (c := isB 0) (Or.inl rfl)]
    rw [if_pos (c := ¬ sc_ft sc2 = 0) k1]
    exact Or.inr ⟨_, _, _, _, _, _, _, _, mr2, _, _, _, _, _, k1, k2, k3, rfl, rfl⟩
theorem take_pcx {i o q n : Nat} (m0 : Mnt) (sh : Nat → Nat) (rr : Nat → Ras) (ww : Nat → Row) (so : Nat) (sc : Src) (qo : Qoi) (pn : Pnm) (bm : Bmp) (tg : Tga) (px : Pcx) (fa : A) (mr : MR) (ms : Nat) (mt mu gt sp ta li : A) (hi : i < 4) (hR : isR (m0_sp m0)) (hRi : isR (sh i)) (ho : isW o) (hq : isMS q) (hn : n ≤ 65536) (hw : ww o = (nI n, srcB q mt mu)) :
    TakeP 4 i o m0 sh rr fa (F_X10_takeIn (nI 4) (nI i) o m0 sh rr ww so sc qo pn bm tg px fa) (F_X11_readFile (nI 4) (nI n) q mr ms mt mu gt sp ta li) := by
  have D := dec_pcx (n := n) (srcB q mt mu) hn (rr (m0_sp m0)) px (mr_gw mr) (mr_gh mr) (mr_one mr) (mr_two mr) (mr_three mr) gt ta li
  unfold F_X10_takeIn F_X11_readFile F_X10_takeIn_50016 F_X8_open
  rw [if_neg (c := nI 4 < 0) (by decide), if_pos (c := nI 4 < 5) (by decide), if_neg (c := nI 4 = 0) (by decide), if_neg (c := nI 4 = 1) (by decide), if_neg (c := nI 4 = 2) (by decide), if_neg (c := nI 4 = 3) (by decide), if_pos (c := nI 4 = 4) rfl, if_neg (c := nI 4 = 0) (by decide), if_neg (c := nI 4 = 1) (by decide), if_neg (c := nI 4 = 2) (by decide), if_neg (c := nI 4 = 3) (by decide), if_pos hq, fon_fok]
  dsimp only
  rw [if_pos hR, if_pos ho, hw]
  dsimp only [y_n, y_b]
  rcases D with ⟨W, H, p2, fm, mr2, gg, w1, w2, w3, w4, w5, e1, e2, g1, g2, o1, o2, o3, hx⟩ | ⟨x2, sc2, fm, mr2, gg, e1, e2, hb⟩
  · rw [show F_X4_decode (rr (m0_sp m0)) (nI n, 0, 0, -1) (srcB q mt mu) px = _ from e1, show F_X11_readPlanes (srcB q mt mu) (nI n, 0, 0, -1, mr_gw mr, mr_gh mr, mr_one mr, mr_two mr, mr_three mr) gt ta li = _ from e2, fon_fok, fon_fok, if_pos (c := inb (nI i) 4) (inb_nI hi (by omega)), nI_clamp (by omega), if_pos hRi, if_pos hR, if_pos (c := inb (nI i) 4) (inb_nI hi (by omega)), if_pos (c := inb 0 4) (inb_nI (n := 0) (by omega) (by omega)), if_pos (c := inb 1 4) (inb_nI (n := 1) (by omega) (by omega)), if_pos (c := inb 2 4) (inb_nI (n := 2) (by omega) (by omega)), if_pos (c := inb 3 4) (inb_nI (n := 3) (by omega) (by omega)), if_pos (c := isB 1) (Or.inr rfl)]
    rw [o1, o2, o3]
    exact Or.inl ⟨W, H, p2, _, _, _, _, _, _, mr2, _, _, _, _, _, w1, w2, w3, w4, w5, g1, g2, hx, rfl, rfl⟩
  · obtain ⟨k1, k2, k3⟩ := hb
    rw [show F_X4_decode (rr (m0_sp m0)) (nI n, 0, 0, -1) (srcB q mt mu) px = _ from e1, show F_X11_readPlanes (srcB q mt mu) (nI n, 0, 0, -1, mr_gw mr, mr_gh mr, mr_one mr, mr_two mr, mr_three mr) gt ta li = _ from e2, fon_fex, fon_fok, if_pos (c := ISE = "java/lang/IllegalStateException") rfl, if_pos (c := isB 0) (Or.inl rfl)]
    rw [if_pos (c := ¬ sc_ft sc2 = 0) k1]
    exact Or.inr ⟨_, _, _, _, _, _, _, _, mr2, _, _, _, _, _, k1, k2, k3, rfl, rfl⟩
theorem take_all {a i o q n : Nat} (m0 : Mnt) (sh : Nat → Nat) (rr : Nat → Ras) (ww : Nat → Row) (so : Nat) (sc : Src) (qo : Qoi) (pn : Pnm) (bm : Bmp) (tg : Tga) (px : Pcx) (fa : A) (mr : MR) (ms : Nat) (mt mu gt sp ta li : A) (ha : a < 5) (hi : i < 4) (hR : isR (m0_sp m0)) (hRi : isR (sh i)) (ho : isW o) (hq : isMS q) (hn : n ≤ 65536) (hw : ww o = (nI n, srcB q mt mu)) :
    TakeP a i o m0 sh rr fa (F_X10_takeIn (nI a) (nI i) o m0 sh rr ww so sc qo pn bm tg px fa) (F_X11_readFile (nI a) (nI n) q mr ms mt mu gt sp ta li) := by
  rcases (by omega : a = 0 ∨ a = 1 ∨ a = 2 ∨ a = 3 ∨ a = 4) with rfl | rfl | rfl | rfl | rfl
  · exact take_qoi m0 sh rr ww so sc qo pn bm tg px fa mr ms mt mu gt sp ta li hi hR hRi ho hq hn hw
  · exact take_pnm m0 sh rr ww so sc qo pn bm tg px fa mr ms mt mu gt sp ta li hi hR hRi ho hq hn hw
  · exact take_bmp m0 sh rr ww so sc qo pn bm tg px fa mr ms mt mu gt sp ta li hi hR hRi ho hq hn hw
  · exact take_tga m0 sh rr ww so sc qo pn bm tg px fa mr ms mt mu gt sp ta li hi hR hRi ho hq hn hw
  · exact take_pcx m0 sh rr ww so sc qo pn bm tg px fa mr ms mt mu gt sp ta li hi hR hRi ho hq hn hw
theorem kp_eq {i W H : Nat} (a1 : Int32) (hi : i < 4) (hT : W * H ≤ 4096) (mo : MO) (mr : MR) (hw : mr_gw mr = nI W) (hh : mr_gh mr = nI H) (dd wi hi2 gt : A) :
    F_X11_keep a1 (nI i) mo mr dd wi hi2 gt = fok () (((mo_taped mo), (mo_thrown mo), a1, (mr_one mr), (mr_two mr), (mr_three mr), (mo_fp mo)), blk dd (4096 * i) (W * H) gt, upd wi i (nI W), upd hi2 i (nI H)) := by
  unfold F_X11_keep
  rw [if_pos (inb_nI hi (by omega)), if_pos (inb_nI hi (by omega)), nI_clamp (by omega), hw, hh]
  have q := lp_M (z := fun _ _ _ _ _ _ _ => fno) (f := F_X11_keep_22 mr gt) (fun m k => ∀ j, j + m = W * H → k a1 (nI i) (nI j) mo (blk dd (4096 * i) j gt) (upd wi i (nI W)) (upd hi2 i (nI H)) = fok () (((mo_taped mo), (mo_thrown mo), a1, (mr_one mr), (mr_two mr), (mr_three mr), (mo_fp mo)), blk dd (4096 * i) (W * H) gt, upd wi i (nI W), upd hi2 i (nI H))) ?_ (W * H) (by omega)
  · have r := q 0 (by omega)
    rw [blk_0] at r
    exact r
  · intro m k ih j hj
    unfold F_X11_keep_22
    rw [hw, hh, pk_mul]
    by_cases c0 : m = 0
    · have : j = W * H := by omega
      subst this
      rw [if_pos (Int32.le_refl _)]
    · rw [if_neg (nI_ge (by omega) (by omega)), if_pos (inb_nI (by omega) (by omega)), ix_dd, if_pos (inb_nI (by omega) (by omega)), nI_clamp (by omega), nI_clamp (by omega), nI_1, blk_s _ _ _ _ _ rfl]
      exact ih (m - 1) (by omega) (j + 1) (by omega)
/-- the spare raster goes onto the shelf -/
theorem RasI_swap {q : Nat} {sh : Nat → Nat} {rr : Nat → Ras} {dd wi hi : A} (h : RasI q sh rr dd wi hi) {i W H : Nat} (hi4 : i < 4) (w1 : 1 ≤ W) (w2 : 1 ≤ H) (w3 : W ≤ 4096) (w4 : H ≤ 4096) (w5 : W * H ≤ 4096) {p2 gt : A} (hx : ∀ p, p < W * H → p2 p = gt p) :
    RasI (sh i) (va_up sh i q) (va_up rr q (nI W, nI H, p2)) (blk dd (4096 * i) (W * H) gt) (upd wi i (nI W)) (upd hi i (nI H)) := by
  obtain ⟨a1, a2, a3, a4⟩ := h
  refine ⟨(a2 i hi4).1, fun j hj => ?_, fun j k hj hk e => ?_, fun j hj => ?_⟩
  · by_cases c : j = i
    · subst c; rw [va_up_self]; exact ⟨a1, fun e => (a2 j hi4).2 e.symm⟩
    · rw [va_up_ne _ _ c]; exact ⟨(a2 j hj).1, fun e => c (a3 j i hj hi4 e)⟩
  · by_cases c : j = i
    · by_cases c2 : k = i
      · rw [c, c2]
      · rw [c, va_up_self, va_up_ne _ _ c2] at e
        exact absurd e.symm (a2 k hk).2
    · by_cases c2 : k = i
      · rw [c2, va_up_self, va_up_ne _ _ c] at e
        exact absurd e (a2 j hj).2
      · rw [va_up_ne _ _ c, va_up_ne _ _ c2] at e
        exact a3 j k hj hk e
  · by_cases c : j = i
    · subst c
      rw [va_up_self, va_up_self, pk_us, pk_us]
      exact ⟨W, H, rfl, rfl, rfl, rfl, w3, w4, w5, Or.inr ⟨w1, w2⟩, fun p hp => by
        show p2 p = blk dd (4096 * j) (W * H) gt (4096 * j + p)
        rw [blk_in hp, hx p hp]⟩
    · rw [va_up_ne _ _ c, va_up_ne _ _ (a2 j hj).2, pk_un c, pk_un c]
      exact Pic_d (a4 j hj) (fun p hp => (blk_out (by omega)).symm)
theorem RasI_spare {q : Nat} {sh : Nat → Nat} {rr : Nat → Ras} {dd wi hi : A} (h : RasI q sh rr dd wi hi) (x : Ras) : RasI q sh (va_up rr q x) dd wi hi := by
  obtain ⟨a1, a2, a3, a4⟩ := h
  exact ⟨a1, a2, a3, fun j hj => by rw [va_up_ne _ _ (a2 j hj).2]; exact a4 j hj⟩
theorem FacI_set {fp fq : Int32} (fa : A) (a o t r : Int32) (h : fp = fq) : FacI fp (upd (upd (upd (upd fa 0 a) 1 o) 2 t) 3 r) a o t r fq := by
  refine ⟨h, ?_, ?_, ?_, ?_⟩
  · rw [pk_un (by decide), pk_un (by decide), pk_un (by decide), pk_us]
  · rw [pk_un (by decide), pk_un (by decide), pk_us]
  · rw [pk_un (by decide), pk_us]
  · rw [pk_us]
