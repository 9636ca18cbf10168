theorem Ba_cat {sb : A} {p : Nat} {g : Nat → List Nat} : ∀ {N : Nat}, Ba sb p (cat g N) → ∀ k, k < N → Ba sb (p + (cat g k).length) (g k)
  | 0, _, k, hk => absurd hk (by omega)
  | N + 1, h, k, hk => by
    rw [cat_s] at h
    by_cases c : k = N
    · subst c; exact Ba_r h
    · exact Ba_cat (Ba_l h) k (by omega)
theorem nm_1 {sb : A} {n q v : Nat} (hq : q < n) (h : 48 ≤ bt sb q ∧ bt sb q ≤ 57) (hv : 10 * v + bt sb q - 48 ≤ 1000000) : nm sb n (n - q) v = nm sb n (n - (q + 1)) (10 * v + bt sb q - 48) := by
  rw [show n - q = (n - (q + 1)) + 1 from by omega, nm_s, show n - (n - (q + 1) + 1) = q from by omega, if_pos h, Nat.min_eq_left hv]
theorem nm_x {sb : A} {n q v : Nat} (hq : q < n) (h : ¬ (48 ≤ bt sb q ∧ bt sb q ≤ 57)) : nm sb n (n - q) v = (v, q) := by
  rw [show n - q = (n - (q + 1)) + 1 from by omega, nm_s, show n - (n - (q + 1) + 1) = q from by omega, if_neg h]
theorem num_dg {sb : A} {n p v : Nat} (hv : v < 10000) (hA : Ba sb p (dg v)) (hp : p + (dg v).length < n) (he : ¬ (48 ≤ bt sb (p + (dg v).length) ∧ bt sb (p + (dg v).length) ≤ 57)) : (48 ≤ bt sb p ∧ bt sb p ≤ 57) ∧ num sb n p = (v, p + (dg v).length) := by
  have hl := dg_len v
  unfold num
  by_cases c1 : v < 10
  · have e : dg v = [48 + v % 10] := by
      unfold dg; rw [if_pos (show v < 1000 by omega), if_pos (show v < 100 by omega), if_pos c1]; rfl
    rw [e] at hA hp he ⊢
    rw [List.length_singleton] at hp he ⊢
    have g0 : bt sb p = 48 + v % 10 := Ba_g hA 0 rfl (by simp) rfl (by omega)
    refine ⟨by omega, ?_⟩
    rw [nm_x hp he, g0]
    congr 1; omega
  by_cases c2 : v < 100
  · have e : dg v = [48 + v / 10 % 10, 48 + v % 10] := by
      unfold dg; rw [if_pos (show v < 1000 by omega), if_pos c2, if_neg c1]; rfl
    rw [e] at hA hp he ⊢
    have g0 : bt sb p = 48 + v / 10 % 10 := Ba_g hA 0 rfl (by simp) rfl (by omega)
    have g1 : bt sb (p + 1) = 48 + v % 10 := Ba_g hA 1 rfl (by simp) rfl (by omega)
    simp only [List.length_cons, List.length_nil] at hp he ⊢
    refine ⟨by omega, ?_⟩
    rw [nm_1 (q := p + 1) (by omega) (by omega) (by omega), nm_x (q := p + 1 + 1) (by omega) he, g0, g1]
    congr 1; omega
  by_cases c3 : v < 1000
  · have e : dg v = [48 + v / 100 % 10, 48 + v / 10 % 10, 48 + v % 10] := by
      unfold dg; rw [if_pos c3, if_neg c2, if_neg c1]; rfl
    rw [e] at hA hp he ⊢
    have g0 : bt sb p = 48 + v / 100 % 10 := Ba_g hA 0 rfl (by simp) rfl (by omega)
    have g1 : bt sb (p + 1) = 48 + v / 10 % 10 := Ba_g hA 1 rfl (by simp) rfl (by omega)
    have g2 : bt sb (p + 1 + 1) = 48 + v % 10 := Ba_g hA 2 rfl (by simp) rfl (by omega)
    simp only [List.length_cons, List.length_nil] at hp he ⊢
    refine ⟨by omega, ?_⟩
    rw [nm_1 (q := p + 1) (by omega) (by omega) (by omega), nm_1 (q := p + 1 + 1) (by omega) (by omega) (by omega), nm_x (q := p + 1 + 1 + 1) (by omega) he, g0, g1, g2]
    congr 1; omega
  · have e : dg v = [48 + v / 1000, 48 + v / 100 % 10, 48 + v / 10 % 10, 48 + v % 10] := by
      unfold dg; rw [if_neg c3, if_neg c2, if_neg c1]; rfl
    rw [e] at hA hp he ⊢
    have g0 : bt sb p = 48 + v / 1000 := Ba_g hA 0 rfl (by simp) rfl (by omega)
    have g1 : bt sb (p + 1) = 48 + v / 100 % 10 := Ba_g hA 1 rfl (by simp) rfl (by omega)
    have g2 : bt sb (p + 1 + 1) = 48 + v / 10 % 10 := Ba_g hA 2 rfl (by simp) rfl (by omega)
    have g3 : bt sb (p + 1 + 1 + 1) = 48 + v % 10 := Ba_g hA 3 rfl (by simp) rfl (by omega)
    simp only [List.length_cons, List.length_nil] at hp he ⊢
    refine ⟨by omega, ?_⟩
    rw [nm_1 (q := p + 1) (by omega) (by omega) (by omega), nm_1 (q := p + 1 + 1) (by omega) (by omega) (by omega), nm_1 (q := p + 1 + 1 + 1) (by omega) (by omega) (by omega), nm_x (q := p + 1 + 1 + 1 + 1) (by omega) he, g0, g1, g2, g3]
    congr 1; omega
theorem sk_1 {sb : A} {n p : Nat} (hp : p < n) (h : bt sb p = 10 ∨ bt sb p = 32) : sk sb n (n - p) 0 = sk sb n (n - (p + 1)) 0 := by
  rw [show n - p = (n - (p + 1)) + 1 from by omega, sk_s, show n - (n - (p + 1) + 1) = p from by omega, if_neg (by decide), if_neg (by omega), if_pos (by omega)]
theorem sk_d {sb : A} {n p : Nat} (hp : p < n) (h : 48 ≤ bt sb p ∧ bt sb p ≤ 57) : sk sb n (n - p) 0 = p := sk_stay hp (by omega) (by unfold isbl; omega)
theorem gap_1 {n p : Nat} (sb : A) (hp : p < n) (hn : n ≤ 65536) (h : bt sb p = 10 ∨ bt sb p = 32) : F_X5_passGap (Sr n p) sb = fok () (Sr n (sk sb n (n - (p + 1)) 0)) := by
  unfold F_X5_passGap F_X5_passGap_41
  have hb := bt_lt sb p
  rw [pk_ok sb hp hn, fon_fok, if_neg (c := nI (bt sb p) = -1) (fun e => by
    have := congrArg Int32.toInt e
    rw [nI_toInt (by omega)] at this
    exact absurd this (by first | (simp; done) | (simp; omega))), blank_eq, blank_y (by unfold isbl; omega) hb, if_neg (by decide), c_skip sb (by omega) hn, fon_fok, sk_1 hp h]
/-- a blank and a number -/
theorem rd_num {n p v : Nat} (sb : A) (hn : n ≤ 65536) (h : bt sb p = 10 ∨ bt sb p = 32) (hv : v < 10000) (hA : Ba sb (p + 1) (dg v)) (hp : p + 1 + (dg v).length < n) (he : bt sb (p + 1 + (dg v).length) = 10 ∨ bt sb (p + 1 + (dg v).length) = 32) (pn : Pnm) :
    F_X5_passGap (Sr n p) sb = fok () (Sr n (p + 1)) ∧ F_X5_readNumber (Sr n (p + 1)) sb pn = fok (nI v) (Sr n (p + 1 + (dg v).length), ((pn_f1 pn), (pn_f2 pn), (pn_f3 pn), nI (p + 1))) := by
  obtain ⟨h1, h2⟩ := num_dg hv hA hp (by omega)
  refine ⟨?_, ?_⟩
  · rw [gap_1 sb (by omega) hn h, sk_d (by omega) h1]
  · rw [cn_ok sb (by omega) hn h1, h2]
/-- a sample of a text -/
theorem sam_T {n p v : Nat} (sb : A) (hn : n ≤ 65536) (h : bt sb p = 10 ∨ bt sb p = 32) (hv : v < 256) (hA : Ba sb (p + 1) (dg v)) (hp : p + 1 + (dg v).length < n) (he : bt sb (p + 1 + (dg v).length) = 10 ∨ bt sb (p + 1 + (dg v).length) = 32) (f1 f3 np : Int32) (hf : ¬ 3 < f1) :
    ∃ s : Nat, F_X5_readSample (Sr n p) sb (f1, nI 255, f3, np) = fok (nI s) (Sr n (p + 1 + (dg v).length), (f1, nI 255, f3, nI (p + 1))) := by
  obtain ⟨e1, e2⟩ := rd_num sb hn h (by omega) hA hp he (f1, nI 255, f3, np)
  obtain ⟨s, _, e3, e4⟩ := scaled_ok (v := v) (M := 255) (by omega) (by omega) (by omega)
  refine ⟨s, ?_⟩
  unfold F_X5_readSample
  dsimp only [pn_f1]
  rw [if_neg hf, e1, fon_fok, e2, fon_fok]
  dsimp only [pn_f1, pn_f2, pn_f3, pn_np]
  rw [s56_ok sb (by omega) (by omega) (by omega) _ _ _ _ e3 e4]
theorem sam_B {n p : Nat} (sb : A) (hp : p < n) (hn : n ≤ 65536) (f1 f3 np : Int32) (hf : 3 < f1) :
    ∃ s : Nat, F_X5_readSample (Sr n p) sb (f1, nI 255, f3, np) = fok (nI s) (Sr n (p + 1), (f1, nI 255, f3, np)) := by
  have hb := bt_lt sb p
  obtain ⟨s, _, e3, e4⟩ := scaled_ok (v := bt sb p) (M := 255) (by omega) (by omega) (by omega)
  refine ⟨s, ?_⟩
  unfold F_X5_readSample
  dsimp only [pn_f1, pn_f2]
  rw [if_pos hf, nx_ok sb hp hn, fon_fok, if_pos (by decide), s56_ok sb (by omega) (by omega) (by omega) _ _ _ _ e3 e4]
