def kT (a : Nat) : Nat := if a < 12 then 2 else if a < 14 then 3 else 1
def tT (a : Nat) : Nat := kT a + (if a % 2 = 1 then 8 else 0)
def tgH (a D n W H : Nat) : List Nat := [0, if kT a = 1 then 1 else 0, tT a] ++ le2 0 ++ le2 (nI n) ++ [if kT a = 1 then 8 * D else 0] ++ le4 0 ++ le2 (nI W) ++ le2 (nI H) ++ [if kT a = 2 then 8 * D else 8] ++ [if D = 4 then 40 else 32]
theorem tgH_len (a D n W H : Nat) : (tgH a D n W H).length = 18 := by
  unfold tgH le4 le2
  simp only [List.length_append, List.length_cons, List.length_nil]
def tgT (D : Nat) (l : List Int32) : List Nat := cat (fun j => colT D (l.getD j 0)) l.length
theorem tgT_len {D : Nat} (hD : D = 3 ∨ D = 4) (l : List Int32) : (tgT D l).length = l.length * D := cat_len _ D (fun _ _ => colT_len hD _)
def rowT (a D W : Nat) (l : List Int32) (d : A) (y : Nat) : List Nat := if a % 2 = 1 then pkL (kT a) D W l (fun v => d (y * W + v)) W 0 else cat (fun x => pxT (kT a) D l (d (y * W + x))) W
theorem rowT_le {a D W : Nat} (hD : D = 3 ∨ D = 4) (l : List Int32) (d : A) (y : Nat) : (rowT a D W l d y).length ≤ W * 5 := by
  unfold rowT
  by_cases c : a % 2 = 1
  · rw [if_pos c]; exact pkL_le hD W 0 (by omega)
  · rw [if_neg c]
    have := cat_max (fun x => pxT (kT a) D l (d (y * W + x))) 4 (n := W) (fun j _ => (pxT_le (K := kT a) hD l _).2)
    omega
def tgR (a D W H : Nat) (l : List Int32) (d : A) : List Nat := cat (rowT a D W l d) H
theorem tgR_le {a D W H : Nat} (hD : D = 3 ∨ D = 4) (l : List Int32) (d : A) (hT : W * H ≤ 4096) : (tgR a D W H l d).length ≤ 20480 := by
  have h := cat_max (rowT a D W l d) (W * 5) (n := H) (fun j _ => rowT_le hD l d j)
  have e : H * (W * 5) = (W * H) * 5 := by rw [← Nat.mul_assoc, Nat.mul_comm H W]
  rw [e] at h
  unfold tgR
  omega
def tgL (a D n W H : Nat) (l : List Int32) (d : A) : List Nat := tgH a D n W H ++ tgT D l ++ tgR a D W H l d
def okA (a : Nat) : Prop := 10 ≤ a ∧ a ≤ 15
theorem okA_K {a D : Nat} (hD : D = 3 ∨ D = 4) : okTg (kT a) D := by
  refine ⟨?_, hD⟩
  unfold kT; split
  · exact Or.inr (Or.inl rfl)
  · split
    · exact Or.inr (Or.inr rfl)
    · exact Or.inl rfl
theorem c_tgH {x : Ras} {a D n W H : Nat} {f : A} (ha : okA a) (hD : D = 3 ∨ D = 4) (b1 : x_w x = nI W) (b2 : x_g x = nI H) (pl : Pal) : F_X9_encode_62 x (nI (kT a)) (nI (a % 2)) (nI (8 * D)) (nI n) (RwC f []) pl = lp (fun _ _ _ _ _ _ _ => fno) (F_X9_encode_187 x) FU (nI (kT a)) (nI (a % 2)) (nI (8 * D)) (nI n) 0 (RwC f (tgH a D n W H)) pl := by
  obtain ⟨h1, h2⟩ := ha
  unfold F_X9_encode_62 F_X9_encode_79 F_X9_encode_98 F_X9_encode_125 F_X9_encode_163 F_X9_encode_181
  rw [b1, b2]
  have fin : ∀ (t0 t1 t2 t3 t4 : Int32), ch t0 0 = (if kT a = 1 then 1 else 0) → ch t1 0 = tT a → ch t2 0 = (if kT a = 1 then 8 * D else 0) → ch t3 0 = (if kT a = 2 then 8 * D else 8) → ch t4 0 = (if D = 4 then 40 else 32) → fon (F_X1_add 0 (RwC f [])) (fun z64 s64 => fon (F_X1_add t0 s64) (fun z79 s79 => fon (F_X1_add t1 s79) (fun z98 s98 => fon (F_X1_addLow2 0 s98) (fun z103 s103 => fon (F_X1_addLow2 (nI n) s103) (fun z109 s109 => fon (F_X1_add t2 s109) (fun z125 s125 => fon (F_X1_addLow4 0 s125) (fun z130 s130 => fon (F_X1_addLow2 (nI W) s130) (fun z138 s138 => fon (F_X1_addLow2 (nI H) s138) (fun z146 s146 => fon (F_X1_add t3 s146) (fun z163 s163 => fon (F_X1_add t4 s163) (fun z181 s181 => lp (fun _ _ _ _ _ _ _ => fno) (F_X9_encode_187 x) FU (nI (kT a)) (nI (a % 2)) (nI (8 * D)) (nI n) 0 s181 pl) (fun _ _ => fno)) (fun _ _ => fno)) (fun _ _ => fno)) (fun _ _ => fno)) (fun _ _ => fno)) (fun _ _ => fno)) (fun _ _ => fno)) (fun _ _ => fno)) (fun _ _ => fno)) (fun _ _ => fno)) (fun _ _ => fno) = lp (fun _ _ _ _ _ _ _ => fno) (F_X9_encode_187 x) FU (nI (kT a)) (nI (a % 2)) (nI (8 * D)) (nI n) 0 (RwC f (tgH a D n W H)) pl := by
    intro t0 t1 t2 t3 t4 g0 g1 g2 g3 g4
    rw [c_add _ (by decide), fon_fok, c_add _ (by simp), fon_fok, c_add _ (by simp), fon_fok, c_low2 _ (by simp), fon_fok, c_low2 _ (by simp [le2]), fon_fok, c_add _ (by simp [le2]), fon_fok, c_low4 _ (by simp [le2]), fon_fok, c_low2 _ (by simp [le2, le4]), fon_fok, c_low2 _ (by simp [le2, le4]), fon_fok, c_add _ (by simp [le2, le4]), fon_fok, c_add _ (by simp [le2, le4]), fon_fok, g0, g1, g2, g3, g4, show ch 0 0 = 0 from by decide]
    rfl
  rcases (by omega : a = 10 ∨ a = 11 ∨ a = 12 ∨ a = 13 ∨ a = 14 ∨ a = 15) with rfl | rfl | rfl | rfl | rfl | rfl <;> rcases hD with rfl | rfl
  · exact fin 0 2 0 24 32 (by decide) (by decide) (by decide) (by decide) (by decide)
  · exact fin 0 2 0 32 40 (by decide) (by decide) (by decide) (by decide) (by decide)
  · exact fin 0 10 0 24 32 (by decide) (by decide) (by decide) (by decide) (by decide)
  · exact fin 0 10 0 32 40 (by decide) (by decide) (by decide) (by decide) (by decide)
  · exact fin 0 3 0 8 32 (by decide) (by decide) (by decide) (by decide) (by decide)
  · exact fin 0 3 0 8 40 (by decide) (by decide) (by decide) (by decide) (by decide)
  · exact fin 0 11 0 8 32 (by decide) (by decide) (by decide) (by decide) (by decide)
  · exact fin 0 11 0 8 40 (by decide) (by decide) (by decide) (by decide) (by decide)
  · exact fin 1 1 24 8 32 (by decide) (by decide) (by decide) (by decide) (by decide)
  · exact fin 1 1 32 8 40 (by decide) (by decide) (by decide) (by decide) (by decide)
  · exact fin 1 9 24 8 32 (by decide) (by decide) (by decide) (by decide) (by decide)
  · exact fin 1 9 32 8 40 (by decide) (by decide) (by decide) (by decide) (by decide)
theorem c_tg187 {x : Ras} {a D W H : Nat} {f : A} {l : List Int32} {pl : Pal} (ha : okA a) (hD : D = 3 ∨ D = 4) (hP : l.length ≠ 0 ∨ kT a = 1 → PalI l pl) (hl : palT (kT a) (W * H) (x_p x) l) (hl2 : l.length ≤ 256) (b1 : x_w x = nI W) (b2 : x_g x = nI H) (hW : W ≤ 4096) (hH : H ≤ 4096) (hT : W * H ≤ 4096) :
    lp (fun _ _ _ _ _ _ _ => fno) (F_X9_encode_187 x) FU (nI (kT a)) (nI (a % 2)) (nI (8 * D)) (nI l.length) 0 (RwC f (tgH a D l.length W H)) pl = fok () (RwC f (tgL a D l.length W H l (x_p x)), pl) := by
  have hR := tgR_le (a := a) hD l (x_p x) hT
  have hTl := tgT_len hD l
  have hl4 : l.length * D ≤ 256 * 4 := Nat.mul_le_mul hl2 (by omega)
  have q := lp_M (z := fun _ _ _ _ _ _ _ => fno) (f := F_X9_encode_187 x) (fun m k => ∀ j, j + m = l.length → k (nI (kT a)) (nI (a % 2)) (nI (8 * D)) (nI l.length) (nI j) (RwC f (tgH a D l.length W H ++ cat (fun j => colT D (l.getD j 0)) j)) pl = fok () (RwC f (tgL a D l.length W H l (x_p x)), pl)) ?_ l.length (by omega)
  · have r := q 0 (by omega)
    rw [show cat (fun j => colT D (l.getD j 0)) 0 = [] from rfl, List.append_nil] at r
    exact r
  · intro m k ih j hj
    unfold F_X9_encode_187
    by_cases c0 : m = 0
    · have : j = l.length := by omega
      subst this
      rw [if_pos (Int32.le_refl _)]
      have q2 := lp_M (z := fun _ _ _ _ _ _ => fno) (f := F_X9_encode_218 x) (fun m k => ∀ y, y + m = H → k (nI (kT a)) (nI (a % 2)) (nI (8 * D)) (nI y) (RwC f (tgH a D l.length W H ++ tgT D l ++ cat (rowT a D W l (x_p x)) y)) pl = fok () (RwC f (tgL a D l.length W H l (x_p x)), pl)) ?_ H (by omega)
      · have r := q2 0 (by omega)
        rw [show cat (rowT a D W l (x_p x)) 0 = [] from rfl, List.append_nil] at r
        exact r
      · intro m k ih y hy
        unfold F_X9_encode_218 F_X9_encode_268
        rw [b2]
        by_cases c1 : m = 0
        · have : y = H := by omega
          subst this
          rw [if_pos (Int32.le_refl _)]
          rfl
        have hyH : y < H := by omega
        have hb := cat_lt (rowT a D W l (x_p x)) hyH
        have hb2 : (cat (rowT a D W l (x_p x)) y).length + (rowT a D W l (x_p x) y).length ≤ (tgR a D W H l (x_p x)).length := hb
        have hrow := yx_lt (W := W) hyH
        have r := ih (m - 1) (by omega) (y + 1) (by omega)
        rw [cat_s, ← List.append_assoc] at r
        have hM : (tgH a D l.length W H ++ tgT D l ++ cat (rowT a D W l (x_p x)) y).length + (rowT a D W l (x_p x) y).length ≤ 65536 ∧ (tgH a D l.length W H ++ tgT D l ++ cat (rowT a D W l (x_p x)) y).length ≤ 22000 := by
          rw [List.length_append, List.length_append, tgH_len, hTl]; omega
        rw [if_neg (nI_ge hyH (by omega))]
        by_cases c2 : a % 2 = 1
        · have eR : rowT a D W l (x_p x) y = pkL (kT a) D W l (fun v => x_p x (y * W + v)) W 0 := if_pos c2
          rw [eR] at r hM
          rw [if_neg (by rw [c2]; decide), c_pk (okA_K hD) (fun e => hP (Or.inr e)) hl b1 hW hT hyH (by have := hM.2; omega), fon_fok, nI_1]
          exact r
        · have eR : rowT a D W l (x_p x) y = cat (fun u => pxT (kT a) D l (x_p x (y * W + u))) W := if_neg c2
          rw [eR] at r hM
          rw [if_pos (by rw [show a % 2 = 0 from by omega]; rfl), b1, pk_mul, c_pxs (s := y * W) (c := W) (okA_K hD) (fun e => hP (Or.inr e)) hl hT (by omega) hM.1, fon_fok, nI_1]
          exact r
    have hb := cat_lt (fun j => colT D (l.getD j 0)) (show j < l.length by omega)
    have hb2 : (cat (fun j => colT D (l.getD j 0)) j).length + (colT D (l.getD j 0)).length ≤ (tgT D l).length := hb
    have r := ih (m - 1) (by omega) (j + 1) (by omega)
    rw [cat_s, ← List.append_assoc] at r
    rw [if_neg (nI_ge (by omega) (by omega)), ut_palget (hP (Or.inl (by omega))) (by omega) (by omega), fon_fok, c_colT hD _ (by rw [List.length_append, tgH_len]; omega), fon_fok, nI_1]
    exact r
theorem c_tga {x : Ras} {W H a : Nat} {f : A} (ha : okA a) (z : Int32) (hz : F_X7_isOpaque x = fok z ()) (b1 : x_w x = nI W) (b2 : x_g x = nI H) (hW : W ≤ 4096) (hH : H ≤ 4096) (hT : W * H ≤ 4096) (pl : Pal) (hl : kT a = 1 → (dl (x_p x) (W * H)).length ≤ 256) :
    ∃ pl2, F_X9_encode (nI a) x (RwC f []) pl = fok () (RwC f (tgL a (if z = 0 then 4 else 3) (if kT a = 1 then dl (x_p x) (W * H) else []).length W H (if kT a = 1 then dl (x_p x) (W * H) else []) (x_p x)), pl2) := by
  have hK : F_X9_kindOf (nI a) = nI (kT a) := by
    rcases (by unfold okA at ha; omega : a = 10 ∨ a = 11 ∨ a = 12 ∨ a = 13 ∨ a = 14 ∨ a = 15) with rfl | rfl | rfl | rfl | rfl | rfl <;> decide
  have hD : (if z = 0 then 4 else 3) = 3 ∨ (if z = 0 then 4 else 3) = 4 := by split <;> omega
  have e1 : F_X9_encode (nI a) x (RwC f []) pl = F_X9_encode_34 x (nI (kT a)) (nI (a % 2)) (nI (8 * (if z = 0 then 4 else 3))) (RwC f []) pl := by
    have ea : nI a &&& 1 = nI (a % 2) := pk_andN (by unfold okA at ha; omega) 1 rfl
    have e18 : ∀ t0, F_X9_encode_18 x (nI (kT a)) t0 (RwC f []) pl = F_X9_encode_34 x (nI (kT a)) t0 (nI (8 * (if z = 0 then 4 else 3))) (RwC f []) pl := by
      intro t0
      unfold F_X9_encode_18
      rw [hz, fon_fok]
      by_cases c : z = 0
      · rw [if_pos c, if_pos c]; rfl
      · rw [if_neg c, if_neg c]; rfl
    unfold F_X9_encode
    rw [hK, ea]
    by_cases c : a % 2 = 1
    · rw [c, if_pos (c := nI 1 = 1) rfl]; exact e18 _
    · rw [show a % 2 = 0 from by omega, if_neg (c := nI 0 = 1) (by decide)]; exact e18 _
  rw [e1]
  generalize (if z = 0 then 4 else 3) = D at *
  unfold F_X9_encode_34
  by_cases c1 : kT a = 1
  · obtain ⟨pl2, e, hP⟩ := ut_gather b1 b2 hT pl
    rw [if_pos c1, if_pos (by rw [c1]; rfl), e, fon_fok, hP.1]
    refine ⟨pl2, ?_⟩
    rw [c_tgH ha hD b1 b2]
    exact c_tg187 ha hD (fun _ => hP) (fun _ => ⟨hl c1, dl_nd _ _, fun p hp => (dl_mem (x_p x) _).mpr ⟨p, hp, rfl⟩⟩) (hl c1) b1 b2 hW hH hT
  · rw [if_neg c1, if_neg (c := nI (kT a) = 1) (fun e => c1 ((nI_inj (b := 1) (by unfold kT; split; omega; split <;> omega) (by omega)).mp e))]
    refine ⟨pl, ?_⟩
    rw [show (0 : Int32) = nI ([] : List Int32).length from rfl, c_tgH ha hD b1 b2]
    exact c_tg187 (l := []) ha hD (fun e => by rcases e with e | e; exact absurd rfl e; exact absurd e c1) (fun e => absurd e c1) (by simp) b1 b2 hW hH hT
