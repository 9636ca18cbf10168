theorem acc_all : AllA := by
  intro n W H z d f hn hW1 hH1 hW hH hT hF hz3 hz
  have hN : 1 ≤ W * H := Nat.mul_pos hW1 hH1
  have hmem : ∀ p, p < W * H → d p ∈ dl d (W * H) := fun p hp => (dl_mem d (W * H)).mpr ⟨p, hp, rfl⟩
  have hd1 : 1 ≤ (dl d (W * H)).length := by
    have := (ixo_in (hmem 0 (by omega))).1
    omega
  have hl : ∀ k, (k = 8 ∨ k = 9 ∨ k = 14 ∨ k = 15 ∨ k = 17) → n = k → (dl d (W * H)).length ≤ 256 := by
    intro k hk e
    subst e
    refine hF.2.2 ?_
    rcases hk with rfl | rfl | rfl | rfl | rfl <;> decide
  unfold encL
  by_cases c0 : n = 0
  · have ef : fam n = 0 := by unfold fam; rw [if_pos c0]
    rw [ef, if_pos c0]
    exact ⟨fun _ x fm => a_qoi z d f hW1 hH1 hW hH hT x fm, fun h => absurd h (by decide), fun h => absurd h (by decide), fun h => absurd h (by decide), fun h => absurd h (by decide)⟩
  rw [if_neg c0]
  by_cases c1 : n < 7
  · have ef : fam n = 1 := by unfold fam; rw [if_neg c0, if_pos c1]
    rw [ef, if_pos c1]
    exact ⟨fun h => absurd h (by decide), fun _ x fm => a_pnm (a := n) ⟨by omega, by omega⟩ d f hW1 hH1 hW hH hT x fm, fun h => absurd h (by decide), fun h => absurd h (by decide), fun h => absurd h (by decide)⟩
  rw [if_neg c1]
  by_cases c2 : n < 10
  · have ef : fam n = 2 := by unfold fam; rw [if_neg c0, if_neg c1, if_pos c2]
    rw [ef, if_pos c2]
    by_cases c7 : n = 7
    · rw [if_pos c7]
      exact ⟨fun h => absurd h (by decide), fun h => absurd h (by decide), fun _ x fm => a_bmp (a := n) (m := 0) (l := []) (by omega) rfl (Nat.zero_le _) d f (fun _ => rfl) (fun h => absurd c7 h) hW1 hH1 hW hH hT x fm, fun h => absurd h (by decide), fun h => absurd h (by decide)⟩
    · rw [if_neg c7]
      have hll : (dl d (W * H)).length ≤ 256 := by
        rcases (by omega : n = 8 ∨ n = 9) with h | h
        · exact hl 8 (by omega) h
        · exact hl 9 (by omega) h
      exact ⟨fun h => absurd h (by decide), fun h => absurd h (by decide), fun _ x fm => a_bmp (a := n) (m := (dl d (W * H)).length) (l := dl d (W * H)) (by omega) rfl hll d f (fun h => absurd h c7) (fun _ => hmem) hW1 hH1 hW hH hT x fm, fun h => absurd h (by decide), fun h => absurd h (by decide)⟩
  rw [if_neg c2]
  by_cases c3 : n < 16
  · have ef : fam n = 3 := by unfold fam; rw [if_neg c0, if_neg c1, if_neg c2, if_pos c3]
    rw [ef, if_pos c3]
    have hA : okA n := ⟨by omega, by omega⟩
    refine ⟨fun h => absurd h (by decide), fun h => absurd h (by decide), fun h => absurd h (by decide), fun _ x fm => a_tga (a := n) (D := if z = 0 then 4 else 3) (l := if kT n = 1 then dl d (W * H) else []) hA ?_ ?_ d f ?_ ?_ hW1 hH1 hW hH hT x fm, fun h => absurd h (by decide)⟩
    · split <;> omega
    · intro h
      rw [if_neg (hz3 ((kT_3 hA).mp h))]
    · intro h
      rw [if_pos h]
      refine ⟨?_, hd1, hmem⟩
      rcases (kT_1 hA).mp h with h | h
      · exact hl 14 (by omega) h
      · exact hl 15 (by omega) h
    · intro h
      rw [if_neg h]
  rw [if_neg c3]
  have ef : fam n = 4 := by unfold fam; rw [if_neg c0, if_neg c1, if_neg c2, if_neg c3]
  rw [ef]
  by_cases c4 : n = 16
  · rw [if_pos c4]
    exact ⟨fun h => absurd h (by decide), fun h => absurd h (by decide), fun h => absurd h (by decide), fun h => absurd h (by decide), fun _ x fm => a_pcx (pl := 3) (l := []) (Or.inr rfl) d f (fun h => absurd h (by decide)) hW1 hH1 hW hH hT x fm⟩
  · rw [if_neg c4]
    exact ⟨fun h => absurd h (by decide), fun h => absurd h (by decide), fun h => absurd h (by decide), fun h => absurd h (by decide), fun _ x fm => a_pcx (pl := 1) (l := dl d (W * H)) (Or.inl rfl) d f (fun _ => ⟨hl 17 (by omega) (by omega), dl_nd d _, hmem⟩) hW1 hH1 hW hH hT x fm⟩
