/-- the one throw of the readers -/
abbrev ISE : String := "java/lang/IllegalStateException"
theorem fon_fok {s a t b : Type} (x : a) (y : s) (k : a → s → Out t b) (e : String → s → Out t b) : fon (fok x y) k e = k x y := rfl
theorem fon_fex {s a t b : Type} (E : String) (y : s) (k : a → s → Out t b) (e : String → s → Out t b) : fon (fex E y) k e = e E y := rfl
theorem fon_ite {s a t b : Type} {c : Prop} [Decidable c] (u v : Out s a) (k : a → s → Out t b) (e : String → s → Out t b) : fon (if c then u else v) k e = if c then fon u k e else fon v k e := by split <;> rfl
theorem lp_s {T : Type} (z : T) (f : T → T) (n : Nat) : lp z f (n + 1) = f (lp z f n) := rfl
/-- a loop by a measure -/
theorem lp_m {T : Type} {z : T} {f : T → T} (Q : Nat → T → Prop) (h : ∀ m k, (∀ j, j < m → Q j k) → Q m (f k)) : ∀ n m, m < n → Q m (lp z f n) := by
  intro n
  induction n with
  | zero => intro m hm; exact absurd hm (Nat.not_lt_zero m)
  | succ n ih => intro m hm; exact h m _ (fun j hj => ih j (by omega))
/-- two loops side by side -/
theorem lp_2 {T U : Type} {z : T} {f : T → T} {z2 : U} {f2 : U → U} (Q : Nat → T → U → Prop) (h : ∀ m k k2, (∀ j, j < m → Q j k k2) → Q m (f k) (f2 k2)) : ∀ n m, m < n → Q m (lp z f n) (lp z2 f2 n) := by
  intro n
  induction n with
  | zero => intro m hm; exact absurd hm (Nat.not_lt_zero m)
  | succ n ih => intro m hm; exact h m _ _ (fun j hj => ih j (by omega))
theorem lp_M {T : Type} {z : T} {f : T → T} (Q : Nat → T → Prop) (h : ∀ m k, (∀ j, j < m → Q j k) → Q m (f k)) (m : Nat) (hm : m < 100000) : Q m (lp z f FU) := lp_m Q h FU m hm
theorem lp_D {T U : Type} {z : T} {f : T → T} {z2 : U} {f2 : U → U} (Q : Nat → T → U → Prop) (h : ∀ m k k2, (∀ j, j < m → Q j k k2) → Q m (f k) (f2 k2)) (m : Nat) (hm : m < 100000) : Q m (lp z f FU) (lp z2 f2 FU) := lp_2 Q h FU m hm
theorem inb_nI {n N : Nat} (h : n < N) (hN : N < 2 ^ 31) : inb (nI n) N := by
  unfold inb; rw [nI_toInt (by omega)]; omega
theorem i_lit1 : (1 : Int32) = nI 1 := rfl
theorem i_t1 (k : Nat) (h : k < 65536) : ¬ ((65536 : Int32) ≤ nI k) := by (simp (disch := omega) only [nI_toInt, Int32.lt_iff_toInt_lt, Int32.le_iff_toInt_le, ← Int32.toInt_inj, Int32.reduceToInt]; omega)
theorem i_t2 (k : Nat) (h : k < 65536) : ((-1 : Int32) < nI k) := by (simp (disch := omega) only [nI_toInt, Int32.lt_iff_toInt_lt, Int32.le_iff_toInt_le, ← Int32.toInt_inj, Int32.reduceToInt]; omega)
theorem i_t3 (k : Nat) (h : k < 65536) (h2 : 5 < k) : ¬ (5 : Int32) = nI k := by (simp (disch := omega) only [nI_toInt, Int32.lt_iff_toInt_lt, Int32.le_iff_toInt_le, ← Int32.toInt_inj, Int32.reduceToInt]; omega)
theorem i_t4 (k : Nat) (x : Int32) (hx : x ≤ 5) (h2 : ¬ x < 0): x.toInt ≤ 5 := by
  simp (disch := omega) only [nI_toInt, Int32.lt_iff_toInt_lt, Int32.le_iff_toInt_le, ← Int32.toInt_inj, Int32.reduceToInt] at hx h2
  omega
theorem i_t6 (x : Int32) (hx : x ≤ 5) (h2 : ¬ x < 0): x + 1 ≤ 6 := by
  simp only [Int32.lt_iff_toInt_lt, Int32.le_iff_toInt_le, ← Int32.toInt_inj, Int32.reduceToInt, Int32.toInt_add, Int.bmod_def] at *
  omega
theorem ut_add (v : Int32) (k : Nat) (f : A) (h : k < 65536) : F_X1_add v (nI k, f) = fok () (nI (k + 1), upd f k (b8 v)) := by
  dsimp only [F_X1_add, y_n, y_b]
  rw [if_neg (by (simp (disch := omega) only [nI_toInt, Int32.lt_iff_toInt_lt, Int32.le_iff_toInt_le, ← Int32.toInt_inj, Int32.reduceToInt]; omega)), if_pos (inb_nI h (by omega)), nI_1, nI_clamp (by omega)]
  rfl
theorem ut_put (v : Int32) (k : Nat) (f : A) (a b : Int32) (h : k < 65536) : F_X11_put_ v (nI k, a, b) f = fok () ((nI (k + 1), a, b), upd f k (b8 v)) := by
  dsimp only [F_X11_put_, mw_om, mw_ho, mw_cm]
  rw [if_pos (inb_nI h (by omega)), nI_1, nI_clamp (by omega)]
  rfl
theorem ut_lit (k : Nat) (h : k < 100) : (if (nI k) < 200 then 1 else 2) = 1 := by
  simp (disch := omega) only [nI_toInt, Int32.lt_iff_toInt_lt, Int32.reduceToInt]
  rw [if_pos (by omega)]
