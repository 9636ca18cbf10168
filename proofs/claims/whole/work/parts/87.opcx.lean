def stP (W : Nat) : Nat := W + W % 2
/-- a sample: P planes, plane p, column x of row y -/
def smp (P W : Nat) (l : List Int32) (d : A) (y p x : Nat) : Nat := if x < W then (if P = 1 then ixo l (d (y * W + x)) else ch (d (y * W + x)) (24 - 8 * p)) else 0
def gP (S : Nat) (s : Nat → Nat) (x : Nat) : List Nat := if x + 1 = S ∨ nI (s (x + 1)) ≠ nI (s x) ∨ rcn S 63 (fun v => nI (s v)) x + 1 = 63 then (if 1 < rcn S 63 (fun v => nI (s v)) x + 1 ∨ 192 ≤ s x then [192 + (rcn S 63 (fun v => nI (s v)) x + 1), s x] else [s x]) else []
theorem gP_le (S : Nat) (s : Nat → Nat) (x : Nat) : (gP S s x).length ≤ 2 := by
  unfold gP
  repeat' split
  all_goals simp
def lnP (P W : Nat) (l : List Int32) (d : A) (y p : Nat) : List Nat := cat (gP (stP W) (smp P W l d y p)) (stP W)
theorem lnP_le (P W : Nat) (l : List Int32) (d : A) (y p : Nat) : (lnP P W l d y p).length ≤ stP W * 2 := cat_max _ 2 (fun j _ => gP_le _ _ j)
def rwP (P W H : Nat) (l : List Int32) (d : A) : List Nat := cat (fun y => cat (lnP P W l d y) P) H
theorem rwP_le {P W H : Nat} (hP : P = 1 ∨ P = 3) (hH : H ≤ 4096) (hT : W * H ≤ 4096) (l : List Int32) (d : A) : (rwP P W H l d).length ≤ 49152 := by
  have h := cat_max (fun y => cat (lnP P W l d y) P) (P * (stP W * 2)) (n := H) (fun j _ => cat_max _ _ (fun p _ => lnP_le P W l d j p))
  have h2 : stP W ≤ W + 1 := by unfold stP; omega
  have h3 : H * (P * (stP W * 2)) ≤ H * (3 * ((W + 1) * 2)) := Nat.mul_le_mul_left H (Nat.mul_le_mul (by omega) (Nat.mul_le_mul_right 2 h2))
  have h4 : H * (3 * ((W + 1) * 2)) = 6 * (W * H) + 6 * H := by
    rw [Nat.mul_comm (W + 1), ← Nat.mul_assoc 3, Nat.mul_comm H, Nat.mul_assoc, Nat.add_mul, Nat.one_mul, Nat.mul_add]
  unfold rwP
  omega
def pcH (P W H : Nat) : List Nat := [10, 5, 1, 8] ++ le4 0 ++ le2 (nI (W - 1)) ++ le2 (nI (H - 1)) ++ le2 72 ++ le2 72 ++ List.replicate 49 0 ++ [P] ++ le2 (nI (stP W)) ++ [1] ++ List.replicate 59 0
theorem pcH_len (P W H : Nat) : (pcH P W H).length = 128 := by
  unfold pcH le4 le2
  simp only [List.length_append, List.length_cons, List.length_nil, List.length_replicate]
def rgb3 (v : Int32) : List Nat := [ch v 24, ch v 16, ch v 8]
def tbP (l : List Int32) : List Nat := [12] ++ cat (fun j => rgb3 (l.getD j 0)) 256
theorem tbP_len (l : List Int32) : (tbP l).length = 769 := by
  unfold tbP
  rw [List.length_append, cat_len _ 3 (fun _ _ => rfl)]
  rfl
def pcL (P W H : Nat) (l : List Int32) (d : A) : List Nat := pcH P W H ++ rwP P W H l d ++ (if P = 1 then tbP l else [])
theorem smp_lt {P W N : Nat} {l : List Int32} {d : A} (hl : palT P N d l) (y p x : Nat) (hx : x < W → y * W + x < N) : smp P W l d y p x < 256 := by
  unfold smp
  by_cases c : x < W
  · rw [if_pos c]
    by_cases c1 : P = 1
    · rw [if_pos c1]
      obtain ⟨h1, h2, h3⟩ := hl c1
      have := (ixo_in (h3 _ (hx c))).1
      omega
    · rw [if_neg c1]; exact ch_lt _ _
  · rw [if_neg c]; omega
theorem us_p (v : Int32) {p : Nat} (hp : p < 3) : us v (24 - 8 * nI p) &&& 255 = nI (ch v (24 - 8 * p)) := by
  rcases (by omega : p = 0 ∨ p = 1 ∨ p = 2) with rfl | rfl | rfl
  · exact us_ch v _ 24 (by decide)
  · exact us_ch v _ 16 (by decide)
  · exact us_ch v _ 8 (by decide)
theorem c_smp {x : Ras} {P W H y p u : Nat} {l : List Int32} {pl : Pal} (hP : P = 1 → PalI l pl) (hl : palT P (W * H) (x_p x) l) (hp : p < 3) (b1 : x_w x = nI W) (hW : W ≤ 4096) (hT : W * H ≤ 4096) (hy : y < H) (hu : u ≤ W + 1) : F_X4_sampleAt (nI y) (if P = 1 then -1 else nI p) (nI u) x pl = fok (nI (smp P W l (x_p x) y p u)) () := by
  unfold F_X4_sampleAt smp
  rw [b1]
  by_cases c : u < W
  · have hi := idx_lt c hy
    rw [if_pos (nI_lt c (by omega)), if_pos c, pk_mul, nI_add, ut_get (by omega), fon_fok]
    by_cases c1 : P = 1
    · obtain ⟨h1, h2, h3⟩ := hl c1
      rw [if_pos c1, if_pos rfl, if_pos c1, nb_eq (hP c1) h1 h2 (h3 _ hi), fon_fok]
    · rw [if_neg c1, if_neg (by
        rcases (by omega : p = 0 ∨ p = 1 ∨ p = 2) with rfl | rfl | rfl <;> decide), if_neg c1, us_p _ hp]
  · rw [if_neg (nI_nlt (by omega) (by omega)), if_neg c]
    rfl
theorem c_line {x : Ras} {P W H y p : Nat} {l : List Int32} {pl : Pal} {f : A} {L : List Nat} (hP : P = 1 → PalI l pl) (hl : palT P (W * H) (x_p x) l) (hp : p < 3) (b1 : x_w x = nI W) (hW : W ≤ 4096) (hW1 : 1 ≤ W) (hT : W * H ≤ 4096) (hy : y < H) (hB : L.length + (lnP P W l (x_p x) y p).length ≤ 65536) :
    F_X4_writeLine (nI y) (if P = 1 then -1 else nI p) (nI (stP W)) x (RwC f L) pl = fok () (RwC f (L ++ lnP P W l (x_p x) y p)) := by
  have hS : stP W ≤ W + 1 := by unfold stP; omega
  have hS1 : W ≤ stP W := by unfold stP; omega
  have s256 : ∀ u, smp P W l (x_p x) y p u < 256 := fun u => smp_lt hl y p u (fun c => idx_lt c hy)
  unfold F_X4_writeLine
  rw [show F_X4_sampleAt (nI y) (if P = 1 then -1 else nI p) 0 x pl = _ from c_smp (u := 0) hP hl hp b1 hW hT hy (by omega), fon_fok]
  unfold lnP at hB ⊢
  have cs := fun u (hu : u ≤ W + 1) => c_smp (u := u) hP hl hp b1 hW hT hy hu
  generalize (if P = 1 then (-1 : Int32) else nI p) = t0 at *
  generalize smp P W l (x_p x) y p = s at *
  generalize stP W = S at *
  have q := lp_M (z := fun _ _ _ _ _ _ _ => fno) (f := F_X4_writeLine_16 x pl) (fun m k => ∀ u, u + m = S → k (nI y) t0 (nI S) (nI (s u)) (nI (rcn S 63 (fun v => nI (s v)) u)) (nI u) (RwC f (L ++ cat (gP S s) u)) = fok () (RwC f (L ++ cat (gP S s) S))) ?_ S (by omega)
  · have r := q 0 (by omega)
    rw [show cat (gP S s) 0 = [] from rfl, List.append_nil] at r
    exact r
  · intro m k ih u hu
    unfold F_X4_writeLine_16
    by_cases c0 : m = 0
    · have : u = S := by omega
      subst this
      rw [if_pos (Int32.le_refl _)]
    have hb := cat_lt (gP S s) (show u < S by omega)
    have hlt := rcn_lt (W := S) (d := fun v => nI (s v)) (show 1 ≤ 63 by omega) u
    have h256 := s256 u
    have r := ih (m - 1) (by omega) (u + 1) (by omega)
    rw [cat_s, ← List.append_assoc] at r
    have rE : em S 63 (fun v => nI (s v)) u → F_X4_writeLine_62 x pl k (nI y) t0 (nI S) (nI (s u)) (nI (rcn S 63 (fun v => nI (s v)) u + 1)) (nI u) (nI (s (u + 1))) (RwC f (L ++ cat (gP S s) u)) = fok () (RwC f (L ++ cat (gP S s) S)) := by
      intro he
      rw [rcn_e he] at r
      have eg : gP S s u = (if 1 < rcn S 63 (fun v => nI (s v)) u + 1 ∨ 192 ≤ s u then [192 + (rcn S 63 (fun v => nI (s v)) u + 1), s u] else [s u]) := if_pos he
      rw [eg] at r hb
      have two : (1 < rcn S 63 (fun v => nI (s v)) u + 1 ∨ 192 ≤ s u) → F_X4_writeLine_76 x pl k (nI y) t0 (nI S) (nI (s u)) (nI (rcn S 63 (fun v => nI (s v)) u + 1)) (nI u) (nI (s (u + 1))) (RwC f (L ++ cat (gP S s) u)) = fok () (RwC f (L ++ cat (gP S s) S)) := by
        intro hc
        rw [if_pos hc] at r hb
        have hb2 : (cat (gP S s) u).length + 2 ≤ (cat (gP S s) S).length := hb
        unfold F_X4_writeLine_76 F_X4_writeLine_87 F_X4_writeLine_97
        rw [show (192 : Int32) + nI (rcn S 63 (fun v => nI (s v)) u + 1) = nI (192 + (rcn S 63 (fun v => nI (s v)) u + 1)) from nI_add 192 _, c_add _ (by rw [List.length_append]; omega), fon_fok, c_add _ (by rw [List.length_append, List.length_append, List.length_singleton]; omega), fon_fok, nI_1, ch_nI (by omega), ch_nI h256, List.append_assoc]
        exact r
      unfold F_X4_writeLine_62
      by_cases c1 : 1 < rcn S 63 (fun v => nI (s v)) u + 1
      · rw [if_pos (c := 1 < nI (rcn S 63 (fun v => nI (s v)) u + 1)) (nI_lt (a := 1) c1 (by omega))]
        exact two (Or.inl c1)
      · rw [if_neg (c := 1 < nI (rcn S 63 (fun v => nI (s v)) u + 1)) (nI_nlt (b := rcn S 63 (fun v => nI (s v)) u + 1) (a := 1) (by omega) (by omega))]
        by_cases c2 : 192 ≤ s u
        · rw [if_neg (c := nI (s u) < 192) (nI_nlt (b := 192) c2 (by omega))]
          exact two (Or.inr c2)
        · rw [if_neg (by omega)] at r hb
          rw [List.length_singleton] at hb
          rw [if_pos (c := nI (s u) < 192) (nI_lt (b := 192) (by omega) (by omega))]
          unfold F_X4_writeLine_87 F_X4_writeLine_97
          rw [c_add _ (by rw [List.length_append]; omega), fon_fok, nI_1, ch_nI h256]
          exact r
    rw [if_neg (nI_ge (by omega) (by omega)), nI_1, cs (u + 1) (by omega), fon_fok, show nI S - 1 = nI (S - 1) from pk_sub (b := 1) (by omega), nI_1]
    by_cases c1 : u + 1 = S
    · rw [if_pos (by rw [← c1]; rfl)]
      exact rE (Or.inl c1)
    rw [if_neg (fun e => c1 (by have := (nI_inj (by omega) (by omega)).mp e; omega))]
    by_cases c2 : nI (s (u + 1)) = nI (s u)
    · rw [if_pos c2]
      by_cases c3 : rcn S 63 (fun v => nI (s v)) u + 1 = 63
      · rw [if_pos (c := nI (rcn S 63 (fun v => nI (s v)) u + 1) = 63) (by rw [c3]; rfl)]
        exact rE (Or.inr (Or.inr c3))
      · rw [if_neg (c := nI (rcn S 63 (fun v => nI (s v)) u + 1) = 63) (fun e => c3 ((nI_inj (b := 63) (by omega) (by omega)).mp e))]
        have hne : ¬ em S 63 (fun v => nI (s v)) u := by
          intro he
          rcases he with e | e | e
          · exact c1 e
          · exact e c2
          · exact c3 e
        rw [rcn_n hne, show gP S s u = [] from if_neg hne, List.append_nil] at r
        unfold F_X4_writeLine_97
        rw [nI_1]
        exact r
    · rw [if_neg c2]
      exact rE (Or.inr (Or.inl c2))
