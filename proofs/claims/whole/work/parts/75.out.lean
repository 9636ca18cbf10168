/-- a row that holds a list of bytes -/
def ap (f : A) (L : List Nat) : A := fun q => if q < L.length then b8 (nI (L.getD q 0)) else f q
abbrev RwC (f : A) (L : List Nat) : Row := (nI L.length, ap f L)
abbrev MwL (h cm : Int32) (L : List Nat) : MW := (nI L.length, h, cm)
theorem ap_0 (f : A) : ap f [] = f := by
  funext q; unfold ap; rw [if_neg (by simp)]
theorem gd_l {L M : List Nat} {j : Nat} (h : j < L.length) : (L ++ M).getD j 0 = L.getD j 0 := by
  rw [List.getD_eq_getElem?_getD, List.getD_eq_getElem?_getD, List.getElem?_append_left h]
theorem gd_r {L M : List Nat} (i : Nat) : (L ++ M).getD (L.length + i) 0 = M.getD i 0 := by
  rw [List.getD_eq_getElem?_getD, List.getD_eq_getElem?_getD, List.getElem?_append_right (by omega), Nat.add_sub_cancel_left]
theorem ap_s (f : A) (L : List Nat) (v : Int32) : upd (ap f L) L.length (b8 v) = ap f (L ++ [ch v 0]) := by
  funext q
  unfold upd ap
  rw [List.length_append, List.length_singleton]
  by_cases c : q = L.length
  · rw [if_pos c, if_pos (by omega), c, show L.length = L.length + 0 from rfl, gd_r]
    exact b8_0 v
  · rw [if_neg c]
    by_cases c2 : q < L.length
    · rw [if_pos c2, if_pos (by omega), gd_l c2]
    · rw [if_neg c2, if_neg (by omega)]
theorem c_add {f : A} {L : List Nat} (v : Int32) (h : L.length < 65536) : F_X1_add v (RwC f L) = fok () (RwC f (L ++ [ch v 0])) := by
  rw [ut_add _ _ _ h, ap_s]
  show fok () (nI (L.length + 1), _) = fok () (nI (L ++ [ch v 0]).length, _)
  rw [List.length_append, List.length_singleton]
theorem r_put {f : A} {L : List Nat} (v a b : Int32) (h : L.length < 65536) : F_X11_put_ v (MwL a b L) (ap f L) = fok () (MwL a b (L ++ [ch v 0]), ap f (L ++ [ch v 0])) := by
  rw [ut_put _ _ _ _ _ h, ap_s]
  show fok () ((nI (L.length + 1), a, b), _) = fok () ((nI (L ++ [ch v 0]).length, a, b), _)
  rw [List.length_append, List.length_singleton]
theorem ch_nI {n : Nat} (h : n < 256) : ch (nI n) 0 = n := by
  unfold ch
  rw [pk_tn (by omega), Nat.pow_zero, Nat.div_one, Nat.mod_eq_of_lt h]
theorem bt_b8 (v : Nat) : ch (b8 (nI v)) 0 = v % 256 := by
  have h : v % 256 < 256 := Nat.mod_lt _ (by decide)
  have e1 := b8_and h
  rw [and_ch] at e1
  have e2 := (nI_inj (by have := ch_lt (b8 (nI (v % 256))) 0; omega) (by omega)).mp e1
  rw [← e2]
  congr 1
  rw [b8_mod (nI v)]
  congr 2
  show (BitVec.ofNat 32 v).toNat % 256 = v % 256
  rw [BitVec.toNat_ofNat]
  omega
theorem bt_ap {f : A} {L : List Nat} {j : Nat} (h : j < L.length) : bt (ap f L) j = L.getD j 0 % 256 := by
  unfold bt ap
  rw [if_pos h, bt_b8]
theorem fit_ap {f : A} (h : Fit f) (L : List Nat) : Fit (ap f L) := by
  intro j
  unfold ap
  split
  · exact fit_b8 _
  · exact h j
/-- lists in a row -/
def cat (g : Nat → List Nat) : Nat → List Nat
  | 0 => []
  | n + 1 => cat g n ++ g n
theorem cat_s (g : Nat → List Nat) (n : Nat) : cat g (n + 1) = cat g n ++ g n := rfl
theorem cat_le (g : Nat → List Nat) {j : Nat} : ∀ {n : Nat}, j ≤ n → (cat g j).length ≤ (cat g n).length
  | 0, h => by have : j = 0 := by omega
               subst this; exact Nat.le_refl _
  | n + 1, h => by
    by_cases c : j = n + 1
    · subst c; exact Nat.le_refl _
    · have := cat_le g (n := n) (show j ≤ n by omega)
      rw [cat_s, List.length_append]; omega
theorem cat_lt (g : Nat → List Nat) {j n : Nat} (h : j < n) : (cat g j).length + (g j).length ≤ (cat g n).length := by
  have := cat_le g (j := j + 1) (n := n) h
  rw [cat_s, List.length_append] at this
  exact this
theorem cat_len (g : Nat → List Nat) (c : Nat) : ∀ {n : Nat}, (∀ j, j < n → (g j).length = c) → (cat g n).length = n * c
  | 0, _ => by rw [Nat.zero_mul]; rfl
  | n + 1, h => by
    rw [cat_s, List.length_append, cat_len g c (fun j hj => h j (by omega)), h n (by omega), Nat.succ_mul]
theorem cat_max (g : Nat → List Nat) (c : Nat) : ∀ {n : Nat}, (∀ j, j < n → (g j).length ≤ c) → (cat g n).length ≤ n * c
  | 0, _ => by rw [Nat.zero_mul]; exact Nat.le_refl _
  | n + 1, h => by
    have h1 := cat_max g c (n := n) (fun j hj => h j (by omega))
    have h2 := h n (by omega)
    rw [cat_s, List.length_append, Nat.succ_mul]
    omega
theorem cat_cong {g g2 : Nat → List Nat} : ∀ {n : Nat}, (∀ j, j < n → g j = g2 j) → cat g n = cat g2 n
  | 0, _ => rfl
  | n + 1, h => by rw [cat_s, cat_s, cat_cong (fun j hj => h j (by omega)), h n (by omega)]
theorem cat_get (g : Nat → List Nat) {j i : Nat} : ∀ {n : Nat}, j < n → i < (g j).length → (cat g n).getD ((cat g j).length + i) 0 = (g j).getD i 0
  | 0, h, _ => absurd h (by omega)
  | n + 1, h, hi => by
    rw [cat_s]
    by_cases c : j = n
    · subst c; rw [gd_r]
    · have := cat_lt g (j := j) (n := n) (by omega)
      rw [gd_l (by omega), cat_get g (by omega) hi]
theorem cat_add (g : Nat → List Nat) (a : Nat) : ∀ b, cat g (a + b) = cat g a ++ cat (fun x => g (a + x)) b
  | 0 => by show cat g a = cat g a ++ []; rw [List.append_nil]
  | b + 1 => by
    show cat g (a + b) ++ g (a + b) = cat g a ++ (cat (fun x => g (a + x)) b ++ g (a + b))
    rw [cat_add g a b, List.append_assoc]
theorem cat_rows (g : Nat → List Nat) (W : Nat) : ∀ H, cat (fun y => cat (fun x => g (y * W + x)) W) H = cat g (H * W)
  | 0 => by rw [Nat.zero_mul]; rfl
  | H + 1 => by
    rw [cat_s, cat_rows g W H, Nat.succ_mul, cat_add]
/-- a number's digits -/
def dg (n : Nat) : List Nat := (if n < 1000 then [] else [48 + n / 1000]) ++ (if n < 100 then [] else [48 + n / 100 % 10]) ++ (if n < 10 then [] else [48 + n / 10 % 10]) ++ [48 + n % 10]
theorem dg_len (n : Nat) : (dg n).length = if n < 10 then 1 else if n < 100 then 2 else if n < 1000 then 3 else 4 := by
  unfold dg
  rw [List.length_append, List.length_append, List.length_append]
  by_cases c1 : n < 10
  · rw [if_pos (show n < 1000 by omega), if_pos (show n < 100 by omega), if_pos c1, if_pos c1]; rfl
  · by_cases c2 : n < 100
    · rw [if_pos (show n < 1000 by omega), if_pos c2, if_neg c1, if_neg c1, if_pos c2]; rfl
    · by_cases c3 : n < 1000
      · rw [if_pos c3, if_neg c2, if_neg c1, if_neg c1, if_neg c2, if_pos c3]; rfl
      · rw [if_neg c3, if_neg c2, if_neg c1, if_neg c1, if_neg c2, if_neg c3]; rfl
theorem dg_le (n : Nat) : 1 ≤ (dg n).length ∧ (dg n).length ≤ 4 := by
  rw [dg_len]; repeat' split
  all_goals omega
theorem rem10 {n : Nat} (h : n < 2 ^ 30) : nI n - nI n / 10 * 10 = nI (n % 10) := by
  rw [show (10 : Int32) = nI 10 from rfl, pk_div (by omega) (by omega) (by omega), pk_mul, pk_sub (by omega)]
  congr 1; omega
theorem dv {n : Nat} (d : Int32) (k : Nat) (hd : d = nI k) (hk : 0 < k) (hk2 : k < 2 ^ 31) (h : n < 2 ^ 30) : nI n / d = nI (n / k) := by
  subst hd; exact pk_div (by omega) hk hk2
theorem ch48 {n : Nat} (h : n < 10) : ch (48 + nI n) 0 = 48 + n := by
  rw [show (48 : Int32) = nI 48 from rfl, nI_add, ch_nI (by omega)]
theorem c_dec {f : A} {L : List Nat} {n : Nat} (hn : n < 10000) (h : L.length + (dg n).length ≤ 65536) : F_X1_addDecimal (nI n) (RwC f L) = fok () (RwC f (L ++ dg n)) := by
  rw [dg_len] at h
  unfold F_X1_addDecimal F_X1_addDecimal_19 F_X1_addDecimal_39 F_X1_addDecimal_59
  rw [dv 1000 1000 rfl (by omega) (by omega) (by omega), dv 100 100 rfl (by omega) (by omega) (by omega), dv 10 10 rfl (by omega) (by omega) (by omega), dv 10 10 rfl (by omega) (by omega) (by omega), dv 10 10 rfl (by omega) (by omega) (by omega)]
  rw [show (nI n - nI (n / 10) * 10) = nI (n % 10) from by rw [← rem10 (n := n) (by omega), dv 10 10 rfl (by omega) (by omega) (by omega)]]
  rw [show (nI (n / 10) - nI (n / 10 / 10) * 10) = nI (n / 10 % 10) from by rw [← rem10 (n := n / 10) (by omega), dv 10 10 rfl (by omega) (by omega) (by omega)]]
  rw [show (nI (n / 100) - nI (n / 100 / 10) * 10) = nI (n / 100 % 10) from by rw [← rem10 (n := n / 100) (by omega), dv 10 10 rfl (by omega) (by omega) (by omega)]]
  unfold dg
  by_cases c3 : n < 1000
  · rw [if_pos (c := nI n < 1000) (nI_lt (b := 1000) c3 (by omega)), if_pos c3]
    by_cases c2 : n < 100
    · rw [if_pos (c := nI n < 100) (nI_lt (b := 100) c2 (by omega)), if_pos c2]
      by_cases c1 : n < 10
      · rw [if_pos c1] at h
        rw [if_pos (c := nI n < 10) (nI_lt (b := 10) c1 (by omega)), if_pos c1, c_add _ (by omega), fon_fok, ch48 (by omega)]
        rfl
      · rw [if_neg c1, if_pos c2] at h
        rw [if_neg (c := nI n < 10) (nI_nlt (b := 10) (by omega) (by omega)), if_neg c1, c_add _ (by omega), fon_fok, c_add _ (by simp only [List.length_append, List.length_cons, List.length_nil]; omega), fon_fok, ch48 (by omega), ch48 (by omega), List.append_assoc]
        rfl
    · rw [if_neg (show ¬ n < 10 by omega), if_neg c2, if_pos c3] at h
      rw [if_neg (c := nI n < 100) (nI_nlt (b := 100) (by omega) (by omega)), if_neg c2, if_neg (show ¬ n < 10 by omega), c_add _ (by omega), fon_fok, if_neg (c := nI n < 10) (nI_nlt (b := 10) (by omega) (by omega)), c_add _ (by simp only [List.length_append, List.length_cons, List.length_nil]; omega), fon_fok, c_add _ (by simp only [List.length_append, List.length_cons, List.length_nil]; omega), fon_fok, ch48 (by omega), ch48 (by omega), ch48 (by omega), List.append_assoc, List.append_assoc]
      rfl
  · rw [if_neg (show ¬ n < 10 by omega), if_neg (show ¬ n < 100 by omega), if_neg c3] at h
    rw [if_neg (c := nI n < 1000) (nI_nlt (b := 1000) (by omega) (by omega)), if_neg c3, if_neg (show ¬ n < 100 by omega), if_neg (show ¬ n < 10 by omega), c_add _ (by omega), fon_fok, if_neg (c := nI n < 100) (nI_nlt (b := 100) (by omega) (by omega)), c_add _ (by simp only [List.length_append, List.length_cons, List.length_nil]; omega), fon_fok, if_neg (c := nI n < 10) (nI_nlt (b := 10) (by omega) (by omega)), c_add _ (by simp only [List.length_append, List.length_cons, List.length_nil]; omega), fon_fok, c_add _ (by simp only [List.length_append, List.length_cons, List.length_nil]; omega), fon_fok, ch48 (by omega), ch48 (by omega), ch48 (by omega), ch48 (by omega), List.append_assoc, List.append_assoc, List.append_assoc]
    rfl
theorem r_dec {f : A} {L : List Nat} {n : Nat} (a b : Int32) (hn : n < 10000) (h : L.length + (dg n).length ≤ 65536) : F_X11_putNumber_4 (nI n) (MwL a b L) (ap f L) = fok () (MwL a b (L ++ dg n), ap f (L ++ dg n)) := by
  rw [dg_len] at h
  have e10 : nI n / 10 = nI (n / 10) := dv 10 10 rfl (by omega) (by omega) (by omega)
  have e100 : nI (n / 10) / 10 = nI (n / 100) := by rw [dv 10 10 rfl (by omega) (by omega) (by omega), Nat.div_div_eq_div_mul]
  have e1000 : nI (n / 100) / 10 = nI (n / 1000) := by rw [dv 10 10 rfl (by omega) (by omega) (by omega), Nat.div_div_eq_div_mul]
  have r0 : nI n - nI (n / 10) * 10 = nI (n % 10) := by rw [← e10]; exact rem10 (by omega)
  have r1 : nI (n / 10) - nI (n / 100) * 10 = nI (n / 10 % 10) := by rw [← e100]; exact rem10 (by omega)
  have r2 : nI (n / 100) - nI (n / 1000) * 10 = nI (n / 100 % 10) := by rw [← e1000]; exact rem10 (by omega)
  have r3 : nI (n / 1000) - nI (n / 1000) / 10 * 10 = nI (n / 1000) := by rw [rem10 (by omega), Nat.mod_eq_of_lt (by omega)]
  unfold F_X11_putNumber_4 F_X11_putNumber_3 F_X11_putNumber_2 F_X11_putNumber_1 F_X11_putNumber_4_14 F_X11_putNumber_3_14 F_X11_putNumber_2_14 F_X11_putNumber_1_14
  rw [e10, e100, e1000, r0, r1, r2, r3]
  unfold dg
  by_cases c1 : n < 10
  · rw [if_pos c1] at h
    rw [if_pos (c := nI n ≤ 9) (nI_le (b := 9) (by omega) (by omega)), if_pos c1, if_pos (show n < 100 by omega), if_pos (show n < 1000 by omega), r_put _ _ _ (by omega), fon_fok, ch48 (by omega)]
    rfl
  rw [if_neg (c := nI n ≤ 9) (nI_ge (a := 9) (by omega) (by omega)), if_neg c1]
  by_cases c2 : n < 100
  · rw [if_neg c1, if_pos c2] at h
    rw [if_pos (c := nI (n / 10) ≤ 9) (nI_le (b := 9) (by omega) (by omega)), if_pos c2, if_pos (show n < 1000 by omega), r_put _ _ _ (by omega), fon_fok, fon_fok]
    dsimp only
    rw [r_put _ _ _ (by simp only [List.length_append, List.length_cons, List.length_nil]; omega), fon_fok, ch48 (by omega), ch48 (by omega), List.append_assoc]
    rfl
  rw [if_neg (c := nI (n / 10) ≤ 9) (nI_ge (a := 9) (by omega) (by omega)), if_neg c2]
  by_cases c3 : n < 1000
  · rw [if_neg c1, if_neg c2, if_pos c3] at h
    rw [if_pos (c := nI (n / 100) ≤ 9) (nI_le (b := 9) (by omega) (by omega)), if_pos c3, r_put _ _ _ (by omega), fon_fok, fon_fok]
    dsimp only
    rw [r_put _ _ _ (by simp only [List.length_append, List.length_cons, List.length_nil]; omega), fon_fok, fon_fok]
    dsimp only
    rw [r_put _ _ _ (by simp only [List.length_append, List.length_cons, List.length_nil]; omega), fon_fok, ch48 (by omega), ch48 (by omega), ch48 (by omega), List.append_assoc, List.append_assoc]
    rfl
  · rw [if_neg c1, if_neg c2, if_neg c3] at h
    rw [if_neg (c := nI (n / 100) ≤ 9) (nI_ge (a := 9) (by omega) (by omega)), if_neg c3, if_pos (c := nI (n / 1000) ≤ 9) (nI_le (b := 9) (by omega) (by omega)), r_put _ _ _ (by omega), fon_fok, fon_fok]
    dsimp only
    rw [r_put _ _ _ (by simp only [List.length_append, List.length_cons, List.length_nil]; omega), fon_fok, fon_fok]
    dsimp only
    rw [r_put _ _ _ (by simp only [List.length_append, List.length_cons, List.length_nil]; omega), fon_fok, fon_fok]
    dsimp only
    rw [r_put _ _ _ (by simp only [List.length_append, List.length_cons, List.length_nil]; omega), fon_fok, ch48 (by omega), ch48 (by omega), ch48 (by omega), ch48 (by omega), List.append_assoc, List.append_assoc, List.append_assoc]
    rfl
