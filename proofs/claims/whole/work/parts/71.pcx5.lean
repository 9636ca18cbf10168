theorem span_ok {a b : Nat} (ha : a < 65536) (hb : b < 65536) : (0 ≤ lg_cmp ((lN a - lN b) + 1) 1) ↔ b ≤ a := by
  rw [lg_cmp_ge, Int64.le_iff_toInt_le, Int64.toInt_add, Int64.toInt_sub, lN_toInt (by omega), lN_toInt (by omega), show (1 : Int64).toInt = 1 from by decide]
  rw [show ((a : Int) - b).bmod (2 ^ 64) = (a : Int) - b from Int.bmod_eq_of_le (by omega) (by omega), show ((a : Int) - b + 1).bmod (2 ^ 64) = (a : Int) - b + 1 from Int.bmod_eq_of_le (by omega) (by omega)]
  omega
theorem r108b {n : Nat} (sb : A) (v1 v2 gw gh a b c : Int32) (gt ta li : A) (h : 8 ≤ n) (hn : n ≤ 65536) : ∃ k, lp (fun _ _ _ _ _ _ => fno) (F_X11_readPlanes_108 sb) FU v1 v2 (nI n, 4, 0, -1, gw, gh, a, b, c) gt ta li = F_X11_readPlanes_108 sb k v1 v2 (nI n, nI 8, 0, -1, gw, gh, a, b, c) gt ta li := by
  refine ⟨lp (fun _ _ _ _ _ _ => fno) (F_X11_readPlanes_108 sb) 99997, ?_⟩
  have s : ∀ (k : Int32 → Int32 → MR → A → A → A → Out (MR × A × A × A) Int32) (p : Nat), p < 8 → p + 2 ≤ n → F_X11_readPlanes_108 sb k v1 v2 (nI n, nI p, 0, -1, gw, gh, a, b, c) gt ta li = k v1 v2 (nI n, nI (p + 2), 0, -1, gw, gh, a, b, c) gt ta li := by
    intro k p h1 h2
    unfold F_X11_readPlanes_108
    dsimp only [mr_pos]
    rw [if_neg (c := 8 ≤ nI p) (nI_ge (b := 8) h1 (by omega)), wq_ok 2 (nI p) 2 rfl (p := p) rfl _ _ _ _ _ h2 (by omega), fon_fok, if_neg (c := (1 : Int32) = 0) (by decide)]
    dsimp only [mr_size, mr_pos, mr_kind, mr_whr, mr_gw, mr_gh, mr_one, mr_two, mr_three]
    rw [show nI p + 2 = nI (p + 2) from nI_add p 2]
  show lp (fun _ _ _ _ _ _ => fno) (F_X11_readPlanes_108 sb) (99999 + 1) v1 v2 (nI n, nI 4, 0, -1, gw, gh, a, b, c) gt ta li = _
  rw [lp_s, s _ 4 (by omega) (by omega)]
  show lp (fun _ _ _ _ _ _ => fno) (F_X11_readPlanes_108 sb) (99998 + 1) v1 v2 (nI n, nI 6, 0, -1, gw, gh, a, b, c) gt ta li = _
  rw [lp_s, s _ 6 (by omega) (by omega)]
  show lp (fun _ _ _ _ _ _ => fno) (F_X11_readPlanes_108 sb) (99997 + 1) v1 v2 (nI n, nI 8, 0, -1, gw, gh, a, b, c) gt ta li = _
  rw [lp_s]
theorem r108a {n : Nat} (sb : A) (v1 v2 gw gh a b c : Int32) (gt ta li : A) (h : n < 8) (h4 : 4 ≤ n) : ∃ e, lp (fun _ _ _ _ _ _ => fno) (F_X11_readPlanes_108 sb) FU v1 v2 (nI n, 4, 0, -1, gw, gh, a, b, c) gt ta li = fok 0 ((nI n, e, 1, nI n, gw, gh, a, b, c), gt, ta, li) := by
  have t : ∀ (k : Int32 → Int32 → MR → A → A → A → Out (MR × A × A × A) Int32) (p : Nat), p < 8 → n < p + 2 → F_X11_readPlanes_108 sb k v1 v2 (nI n, nI p, 0, -1, gw, gh, a, b, c) gt ta li = fok 0 ((nI n, nI p, 1, nI n, gw, gh, a, b, c), gt, ta, li) := by
    intro k p h1 h2
    unfold F_X11_readPlanes_108
    dsimp only [mr_pos]
    rw [if_neg (c := 8 ≤ nI p) (nI_ge (b := 8) h1 (by omega)), wq_no 2 (nI p) 2 rfl (p := p) rfl _ _ _ _ _ h2 (by omega), fon_fok, if_pos rfl]
  show ∃ e, lp (fun _ _ _ _ _ _ => fno) (F_X11_readPlanes_108 sb) (99999 + 1) v1 v2 (nI n, nI 4, 0, -1, gw, gh, a, b, c) gt ta li = _
  rw [lp_s]
  by_cases c6 : n < 6
  · rw [t _ 4 (by omega) (by omega)]; exact ⟨_, rfl⟩
  · unfold F_X11_readPlanes_108
    dsimp only [mr_pos]
    rw [if_neg (c := 8 ≤ nI 4) (by decide), wq_ok 2 (nI 4) 2 rfl (p := 4) rfl _ _ _ _ _ (by omega) (by omega), fon_fok, if_neg (c := (1 : Int32) = 0) (by decide)]
    dsimp only [mr_size, mr_pos, mr_kind, mr_whr, mr_gw, mr_gh, mr_one, mr_two, mr_three]
    show ∃ e, lp (fun _ _ _ _ _ _ => fno) (F_X11_readPlanes_108 sb) (99998 + 1) v1 v2 (nI n, nI 6, 0, -1, gw, gh, a, b, c) gt ta li = _
    rw [lp_s, t _ 6 (by omega) (by omega)]; exact ⟨_, rfl⟩
theorem r251b {n : Nat} (sb : A) (v1 v2 gw gh a b c : Int32) (gt ta li : A) (h : 16 ≤ n) (hn : n ≤ 65536) : ∃ k, lp (fun _ _ _ _ _ _ => fno) (F_X11_readPlanes_251 sb) FU v1 v2 (nI n, 12, 0, -1, gw, gh, a, b, c) gt ta li = F_X11_readPlanes_251 sb k v1 v2 (nI n, nI 16, 0, -1, gw, gh, a, b, c) gt ta li := by
  refine ⟨lp (fun _ _ _ _ _ _ => fno) (F_X11_readPlanes_251 sb) 99997, ?_⟩
  have s : ∀ (k : Int32 → Int32 → MR → A → A → A → Out (MR × A × A × A) Int32) (p : Nat), p < 16 → p + 2 ≤ n → F_X11_readPlanes_251 sb k v1 v2 (nI n, nI p, 0, -1, gw, gh, a, b, c) gt ta li = k v1 v2 (nI n, nI (p + 2), 0, -1, gw, gh, a, b, c) gt ta li := by
    intro k p h1 h2
    unfold F_X11_readPlanes_251
    dsimp only [mr_pos]
    rw [if_neg (c := 16 ≤ nI p) (nI_ge (b := 16) h1 (by omega)), wq_ok 2 (nI p) 2 rfl (p := p) rfl _ _ _ _ _ h2 (by omega), fon_fok, if_neg (c := (1 : Int32) = 0) (by decide)]
    dsimp only [mr_size, mr_pos, mr_kind, mr_whr, mr_gw, mr_gh, mr_one, mr_two, mr_three]
    rw [show nI p + 2 = nI (p + 2) from nI_add p 2]
  show lp (fun _ _ _ _ _ _ => fno) (F_X11_readPlanes_251 sb) (99999 + 1) v1 v2 (nI n, nI 12, 0, -1, gw, gh, a, b, c) gt ta li = _
  rw [lp_s, s _ 12 (by omega) (by omega)]
  show lp (fun _ _ _ _ _ _ => fno) (F_X11_readPlanes_251 sb) (99998 + 1) v1 v2 (nI n, nI 14, 0, -1, gw, gh, a, b, c) gt ta li = _
  rw [lp_s, s _ 14 (by omega) (by omega)]
  show lp (fun _ _ _ _ _ _ => fno) (F_X11_readPlanes_251 sb) (99997 + 1) v1 v2 (nI n, nI 16, 0, -1, gw, gh, a, b, c) gt ta li = _
  rw [lp_s]
theorem r251a {n : Nat} (sb : A) (v1 v2 gw gh a b c : Int32) (gt ta li : A) (h : n < 16) (h4 : 12 ≤ n) : ∃ e, lp (fun _ _ _ _ _ _ => fno) (F_X11_readPlanes_251 sb) FU v1 v2 (nI n, 12, 0, -1, gw, gh, a, b, c) gt ta li = fok 0 ((nI n, e, 1, nI n, gw, gh, a, b, c), gt, ta, li) := by
  have t : ∀ (k : Int32 → Int32 → MR → A → A → A → Out (MR × A × A × A) Int32) (p : Nat), p < 16 → n < p + 2 → F_X11_readPlanes_251 sb k v1 v2 (nI n, nI p, 0, -1, gw, gh, a, b, c) gt ta li = fok 0 ((nI n, nI p, 1, nI n, gw, gh, a, b, c), gt, ta, li) := by
    intro k p h1 h2
    unfold F_X11_readPlanes_251
    dsimp only [mr_pos]
    rw [if_neg (c := 16 ≤ nI p) (nI_ge (b := 16) h1 (by omega)), wq_no 2 (nI p) 2 rfl (p := p) rfl _ _ _ _ _ h2 (by omega), fon_fok, if_pos rfl]
  show ∃ e, lp (fun _ _ _ _ _ _ => fno) (F_X11_readPlanes_251 sb) (99999 + 1) v1 v2 (nI n, nI 12, 0, -1, gw, gh, a, b, c) gt ta li = _
  rw [lp_s]
  by_cases c6 : n < 14
  · rw [t _ 12 (by omega) (by omega)]; exact ⟨_, rfl⟩
  · unfold F_X11_readPlanes_251
    dsimp only [mr_pos]
    rw [if_neg (c := 16 ≤ nI 12) (by decide), wq_ok 2 (nI 12) 2 rfl (p := 12) rfl _ _ _ _ _ (by omega) (by omega), fon_fok, if_neg (c := (1 : Int32) = 0) (by decide)]
    dsimp only [mr_size, mr_pos, mr_kind, mr_whr, mr_gw, mr_gh, mr_one, mr_two, mr_three]
    show ∃ e, lp (fun _ _ _ _ _ _ => fno) (F_X11_readPlanes_251 sb) (99998 + 1) v1 v2 (nI n, nI 14, 0, -1, gw, gh, a, b, c) gt ta li = _
    rw [lp_s, t _ 14 (by omega) (by omega)]; exact ⟨_, rfl⟩
theorem r297 (sb : A) (v1 v2 : Int32) (mr : MR) (gt ta li : A) : ∃ k ta2, lp (fun _ _ _ _ _ _ _ => fno) (F_X11_readPlanes_297 sb) FU v1 v2 0 mr gt ta li = F_X11_readPlanes_297 sb k v1 v2 (nI 16) mr gt ta2 li ∧ ∀ i, i < 16 → ta2 i = tri sb (16 + 3 * i) := by
  have q := lp_M (z := fun _ _ _ _ _ _ _ => fno) (f := F_X11_readPlanes_297 sb) (fun m f => ∀ (j : Nat) (t : A), j + m = 16 → (∀ i, i < j → t i = tri sb (16 + 3 * i)) → ∃ k ta2, f v1 v2 (nI j) mr gt t li = F_X11_readPlanes_297 sb k v1 v2 (nI 16) mr gt ta2 li ∧ ∀ i, i < 16 → ta2 i = tri sb (16 + 3 * i)) ?_ 16 (by omega)
  · exact q 0 ta (by omega) (fun i hi => absurd hi (by omega))
  · intro m f ih j t hj ht
    by_cases c0 : m = 0
    · have : j = 16 := by omega
      subst this
      exact ⟨f, t, rfl, ht⟩
    · obtain ⟨k, ta2, e, h⟩ := ih (m - 1) (by omega) (j + 1) (upd t j (tri sb (16 + 3 * j))) (by omega) (fun i hi => by
        by_cases c : i = j
        · rw [c, pk_us]
        · rw [pk_un c, ht i (by omega)])
      refine ⟨k, ta2, ?_, h⟩
      rw [← e]
      conv => lhs; unfold F_X11_readPlanes_297
      rw [if_neg (c := 16 ≤ nI j) (nI_ge (b := 16) (by omega) (by omega)), show (3 : Int32) * nI j = nI (3 * j) from pk_mul 3 j, show (16 : Int32) + nI (3 * j) = nI (16 + 3 * j) from nI_add 16 _, show (17 : Int32) + nI (3 * j) = nI (16 + 3 * j + 1) from by rw [show 16 + 3 * j + 1 = 17 + 3 * j from by omega]; exact nI_add 17 _, show (18 : Int32) + nI (3 * j) = nI (16 + 3 * j + 2) from by rw [show 16 + 3 * j + 2 = 18 + 3 * j from by omega]; exact nI_add 18 _, b_ok sb (by omega), fon_fok, b_ok sb (by omega), fon_fok, b_ok sb (by omega), fon_fok, if_pos (inb_nI (by omega) (by omega)), nI_clamp (by omega), nI_1]
      rfl
def okPV (v b pl : Nat) : Prop := okBP b pl ∧ (b = 8 → v = 5)
theorem pl_c {n v b z : Nat} (sb : A) (hb : okP b) (hv : v < 256) (hz : z < 256) (f1 f2 f3 per st : Int32) (col : A) : (okPV v b z → (if nI z = 1 then F_X4_readPlanes_26 sb (nI 65) 1 (Sr n 66) (f1, f2, f3, nI v, nI b, per, nI z, st, col) else F_X4_readPlanes_26 sb (nI 65) 0 (Sr n 66) (f1, f2, f3, nI v, nI b, per, nI z, st, col)) = fok () (Sr n 66, (f1, f2, f3, nI v, nI b, per, nI z, st, col))) ∧ (¬ okPV v b z → (if nI z = 1 then F_X4_readPlanes_26 sb (nI 65) 1 (Sr n 66) (f1, f2, f3, nI v, nI b, per, nI z, st, col) else F_X4_readPlanes_26 sb (nI 65) 0 (Sr n 66) (f1, f2, f3, nI v, nI b, per, nI z, st, col)) = fex ISE ((nI n, nI 66, 2, nI 65), (f1, f2, f3, nI v, nI b, per, nI z, st, col))) := by
  have hb8 := (per_ok hb).2.2.2.2
  have q1 : nI b = 1 ↔ b = 1 := nI_inj (b := 1) (by omega) (by omega)
  have q8 : nI b = 8 ↔ b = 8 := nI_inj (b := 8) (by omega) (by omega)
  have z1 : nI z = 1 ↔ z = 1 := nI_inj (b := 1) (by omega) (by omega)
  have z3 : nI z = 3 ↔ z = 3 := nI_inj (b := 3) (by omega) (by omega)
  have zl : nI z < 1 ↔ z < 1 := nI_ltI (b := 1) (by omega) (by omega)
  have z4 : 4 < nI z ↔ 4 < z := nI_ltI (a := 4) (by omega) (by omega)
  have v5 : nI v = 5 ↔ v = 5 := nI_inj (b := 5) (by omega) (by omega)
  unfold okPV okBP F_X4_readPlanes_26 F_X4_readPlanes_55 F_X4_readPlanes_85 F_X4_readPlanes_97 F_X4_readPlanes_98 F_X4_readPlanes_56 F_X4_readPlanes_99
  dsimp only [px_bits, px_planes, px_ver]
  rw [rf_eq, fon_fex, if_pos (c := (0 : Int32) = 0) rfl, if_neg (c := (1 : Int32) = 0) (by decide)]
  simp only [q1, q8, z1, z3, zl, z4, v5]
  unfold okP at hb
  constructor
  · intro h
    repeat' (first | split | (exfalso; omega) | rfl)
  · intro h
    repeat' (first | split | (exfalso; omega) | rfl)
theorem pl_r {v b z : Nat} (hb : okP b) (hv : v < 256) (hz : z < 256) (D E : Out (MR × A × A × A) Int32) : (okPV v b z → (if nI b = 1 then (if nI z < 1 then E else (if nI z ≤ 4 then D else E)) else (if 8 ≤ nI b then (if nI z = 1 then (if nI v = 5 then D else E) else (if nI z = 3 then (if nI v = 5 then D else E) else E)) else (if nI z = 1 then D else E))) = D) ∧ (¬ okPV v b z → (if nI b = 1 then (if nI z < 1 then E else (if nI z ≤ 4 then D else E)) else (if 8 ≤ nI b then (if nI z = 1 then (if nI v = 5 then D else E) else (if nI z = 3 then (if nI v = 5 then D else E) else E)) else (if nI z = 1 then D else E))) = E) := by
  have hb8 := (per_ok hb).2.2.2.2
  have q1 : nI b = 1 ↔ b = 1 := nI_inj (b := 1) (by omega) (by omega)
  have q8 : 8 ≤ nI b ↔ 8 ≤ b := nI_leI (a := 8) (by omega) (by omega)
  have z1 : nI z = 1 ↔ z = 1 := nI_inj (b := 1) (by omega) (by omega)
  have z3 : nI z = 3 ↔ z = 3 := nI_inj (b := 3) (by omega) (by omega)
  have zl : nI z < 1 ↔ z < 1 := nI_ltI (b := 1) (by omega) (by omega)
  have z4 : nI z ≤ 4 ↔ z ≤ 4 := nI_leI (b := 4) (by omega) (by omega)
  have v5 : nI v = 5 ↔ v = 5 := nI_inj (b := 5) (by omega) (by omega)
  unfold okPV okBP
  simp only [q1, q8, z1, z3, zl, z4, v5]
  unfold okP at hb
  constructor
  · intro h
    repeat' (first | split | (exfalso; omega) | rfl)
  · intro h
    repeat' (first | split | (exfalso; omega) | rfl)
theorem bits_4 {α : Type} {b : Nat} (hb : b < 256) (D E : α) : (okP b → (if nI b = 1 then D else (if nI b = 2 then D else (if nI b = 4 then D else (if nI b = 8 then D else E)))) = D) ∧ (¬ okP b → (if nI b = 1 then D else (if nI b = 2 then D else (if nI b = 4 then D else (if nI b = 8 then D else E)))) = E) := by
  have q1 : nI b = 1 ↔ b = 1 := nI_inj (b := 1) (by omega) (by omega)
  have q2 : nI b = 2 ↔ b = 2 := nI_inj (b := 2) (by omega) (by omega)
  have q4 : nI b = 4 ↔ b = 4 := nI_inj (b := 4) (by omega) (by omega)
  have q8 : nI b = 8 ↔ b = 8 := nI_inj (b := 8) (by omega) (by omega)
  simp only [q1, q2, q4, q8]
  unfold okP
  constructor
  · intro h
    repeat' (first | split | (exfalso; omega) | rfl)
  · intro h
    repeat' (first | split | (exfalso; omega) | rfl)
theorem ver_c {α : Type} {v : Nat} (hv : v < 256) (D E : α) : ((¬ v = 1 ∧ v ≤ 5) → (if 5 < nI v then E else (if nI v = 1 then E else D)) = D ∧ (if nI v = 1 then E else (if nI v ≤ 5 then D else E)) = D) ∧ (¬ (¬ v = 1 ∧ v ≤ 5) → (if 5 < nI v then E else (if nI v = 1 then E else D)) = E ∧ (if nI v = 1 then E else (if nI v ≤ 5 then D else E)) = E) := by
  have q1 : nI v = 1 ↔ v = 1 := nI_inj (b := 1) (by omega) (by omega)
  have q5 : 5 < nI v ↔ 5 < v := nI_ltI (a := 5) (by omega) (by omega)
  have q6 : nI v ≤ 5 ↔ v ≤ 5 := nI_leI (b := 5) (by omega) (by omega)
  simp only [q1, q5, q6]
  constructor
  · intro h
    refine ⟨?_, ?_⟩ <;> repeat' (first | split | (exfalso; omega) | rfl)
  · intro h
    refine ⟨?_, ?_⟩ <;> repeat' (first | split | (exfalso; omega) | rfl)
