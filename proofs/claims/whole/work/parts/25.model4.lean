theorem want_n {g : Nat → Int32} {t z c : Nat} (h11 : g 11 = nI t) (h10 : g 10 = nI z) (ht : t + c < 2 ^ 31) (hz : z < 2 ^ 31) : mWant g (nI c) ↔ t + c ≤ z := by
  unfold mWant
  rw [h11, h10, nI_add]
  exact nI_leI ht hz
def signG (g f : Nat → Int32) (t z : Nat) (v : Int32) : Nat → Int32 := if t < z then (if f t &&& 255 = v then upd g 11 (nI (t + 1)) else wrg g 2 (nI t)) else wrg g 1 (nI z)
def signOK (f : Nat → Int32) (t z : Nat) (v : Int32) : Prop := t < z ∧ f t &&& 255 = v
set_option maxHeartbeats 200000 in
set_option maxRecDepth 100000 in
theorem kX11_sign (h : aH) (n S t z : Nat) (g f : Nat → Int32) (hM : h 31 = oM (.ref S) g) (hs : h S = oBytes f) (h11 : g 11 = nI t) (h10 : g 10 = nI z) (ht : t ≤ z) (hz : z ≤ 65536) (v : Int32) : AM mX11_sign 3 [.ref 31, .int v] h n 0 0 0 0 (fun r h2 n2 => r = some (.int (tI (signOK f t z v))) ∧ h2 = va_up h 31 (oM (.ref S) (signG g f t z v)) ∧ n = n2) (noX) := by
  refine aw_of (by decide +kernel) rfl (Nat.le_of_ble_eq_true rfl) ?_
  refine aw_aload_n dX11_sign_0 rfl ?_
  refine aw_iconst (v := 1) dX11_sign_1 (by decide) ?_
  refine aw_callV dX11_sign_2 hM cvX11_103 rfl (kX11_want h n (.ref S) g hM 1) rfl (Nat.le_of_ble_eq_true rfl) (by decide) (by decide) (by decide) (by decide) (fun _ _ _ hf => False.elim hf) (fun r2 h2 n2 hp2 => ?_)
  obtain ⟨rfl, hh2, rfl⟩ := hp2
  refine aw_if_ne (tgt := 10) dX11_sign_5 (by decide) (fun c5 => ?_) (fun c5 => ?_)
  · have w5 : t + 1 ≤ z := (want_n (c := 1) h11 h10 (by omega) (by omega)).mp (tI_ofn c5)
    have hh3 := (hh2.trans (if_pos (tI_ofn c5))).symm
    clear hh2
    subst hh3
    refine aw_aload_n dX11_sign_10 rfl ?_
    refine aw_aload_n dX11_sign_11 rfl ?_
    refine aw_getf dX11_sign_12 flX11_84_10 hM rfl ?_
    refine aw_callV dX11_sign_15 hM cvX11_99 rfl (kX11_b h n S g f hM hs (g 11) (by rw [h11]; exact vp_in_nI (by omega) (by decide))) rfl (Nat.le_of_ble_eq_true rfl) (by decide) (by decide) (by decide) (by decide) (fun _ _ _ hf => False.elim hf) (fun r15 h15 n15 hp15 => ?_)
    obtain ⟨rfl, rfl, rfl⟩ := hp15
    rw [h11, nI_clamp (by omega)]
    refine aw_iload_n dX11_sign_18 rfl ?_
    refine aw_icmp_eq (tgt := 32) dX11_sign_19 (by decide) (fun c19 => ?_) (fun c19 => ?_)
    · refine aw_aload_n dX11_sign_32 rfl ?_
      refine aw_dup dX11_sign_33 rfl ?_
      refine aw_getf dX11_sign_34 flX11_84_10 hM rfl ?_
      refine aw_iconst (v := 1) dX11_sign_37 (by decide) ?_
      refine aw_iadd dX11_sign_38 ?_
      refine aw_putf dX11_sign_39 ptX11_84_10  hM (Nat.le_of_ble_eq_true rfl) ⟨rfl, rfl⟩ ?_
      refine aw_iconst (v := 1) dX11_sign_42 (by decide) ?_
      exact aw_zret dX11_sign_43 rfl (by decide) (Nat.zero_le _) (Nat.zero_le _) (Nat.zero_le _) (Nat.zero_le _) ⟨rT ⟨by omega, c19⟩, by unfold signG; rw [if_pos (by omega), if_pos c19, h11, nI_1]; rfl, rfl⟩
    · refine aw_aload_n dX11_sign_22 rfl ?_
      refine aw_iconst (v := 2) dX11_sign_23 (by decide) ?_
      refine aw_aload_n dX11_sign_24 rfl ?_
      refine aw_getf dX11_sign_25 flX11_84_10 hM rfl ?_
      refine aw_callV dX11_sign_28 hM cvX11_90 rfl (kX11_wrong h n (.ref S) g hM 2 (g 11)) rfl (Nat.le_of_ble_eq_true rfl) (by decide) (by decide) (by decide) (by decide) (fun _ _ _ hf => False.elim hf) (fun r28 h28 n28 hp28 => ?_)
      obtain ⟨rfl, rfl, rfl⟩ := hp28
      exact aw_zret dX11_sign_31 rfl (by decide) (Nat.zero_le _) (Nat.zero_le _) (Nat.zero_le _) (Nat.zero_le _) ⟨rF (fun q => c19 q.2), by unfold signG; rw [if_pos (by omega), if_neg c19, h11], rfl⟩
  · have w5 : ¬ t + 1 ≤ z := fun q => tI_of0 c5 ((want_n (c := 1) h11 h10 (by omega) (by omega)).mpr q)
    have hh3 := hh2.trans (if_neg (fun q => tI_of0 c5 q))
    clear hh2
    subst hh3
    refine aw_iconst (v := 0) dX11_sign_8 (by decide) ?_
    exact aw_zret dX11_sign_9 rfl (by decide) (Nat.zero_le _) (Nat.zero_le _) (Nat.zero_le _) (Nat.zero_le _) ⟨rF (fun q => w5 q.1), by unfold signG; rw [if_neg (show ¬ t < z by omega), h10], rfl⟩
def fitsG (g : Nat → Int32) (w q : Int64) (p : Int32) : (Nat → Int32) := upd (upd g 15 w.toInt32) 16 q.toInt32
set_option maxHeartbeats 200000 in
set_option maxRecDepth 100000 in
theorem kX11_fits (h : aH) (n : Nat) (sv : Value) (g : Nat → Int32) (hM : h 31 = oM sv g) (w q : Int64) (p : Int32) : AM mX11_fits 2 [.ref 31, .long w, .long q, .int p] h n 0 0 0 0 (fun r h2 n2 => r = some (.int (tI (¬ Big w q))) ∧ ((¬ Big w q ∧ h2 = va_up h 31 (oM sv (fitsG g w q p))) ∨ (Big w q ∧ h2 = va_up h 31 (oM sv (wrg g 3 p)))) ∧ n = n2) (noX) := by
  refine aw_of (by decide +kernel) rfl (Nat.le_of_ble_eq_true rfl) ?_
  refine aw_lload_n dX11_fits_0 rfl ?_
  refine aw_ldc2 dX11_fits_1 kcX11_107 ?_
  refine aw_lcmp dX11_fits_4 ?_
  refine aw_if_gt (tgt := 26) dX11_fits_5 (by decide) (fun c5 => ?_) (fun c5 => ?_)
  · refine aw_aload_n dX11_fits_26 rfl ?_
    refine aw_iconst (v := 3) dX11_fits_27 (by decide) ?_
    refine aw_iload dX11_fits_28 rfl ?_
    refine aw_callV dX11_fits_30 hM cvX11_90 rfl (kX11_wrong h n sv g hM 3 p) rfl (Nat.le_of_ble_eq_true rfl) (by decide) (by decide) (by decide) (by decide) (fun _ _ _ hf => False.elim hf) (fun r30 h30 n30 hp30 => ?_)
    obtain ⟨rfl, rfl, rfl⟩ := hp30
    exact aw_zret dX11_fits_33 rfl (by decide) (Nat.zero_le _) (Nat.zero_le _) (Nat.zero_le _) (Nat.zero_le _) (by first | exact ⟨rF (fun z => z (Or.inl ((lg_cmp_gt _ _).mp c5))), Or.inr ⟨Or.inl ((lg_cmp_gt _ _).mp c5), rfl⟩, rfl⟩ | exact ⟨rF (fun z => z (Or.inr (Or.inl ((lg_cmp_gt _ _).mp c13)))), Or.inr ⟨Or.inr (Or.inl ((lg_cmp_gt _ _).mp c13)), rfl⟩, rfl⟩ | exact ⟨rF (fun z => z (Or.inr (Or.inr (Int64.not_le.mp (fun q => c23 ((lg_cmp_le _ _).mpr q)))))), Or.inr ⟨Or.inr (Or.inr (Int64.not_le.mp (fun q => c23 ((lg_cmp_le _ _).mpr q)))), rfl⟩, rfl⟩)
  · refine aw_lload_n dX11_fits_8 rfl ?_
    refine aw_ldc2 dX11_fits_9 kcX11_107 ?_
    refine aw_lcmp dX11_fits_12 ?_
    refine aw_if_gt (tgt := 26) dX11_fits_13 (by decide) (fun c13 => ?_) (fun c13 => ?_)
    · refine aw_aload_n dX11_fits_26 rfl ?_
      refine aw_iconst (v := 3) dX11_fits_27 (by decide) ?_
      refine aw_iload dX11_fits_28 rfl ?_
      refine aw_callV dX11_fits_30 hM cvX11_90 rfl (kX11_wrong h n sv g hM 3 p) rfl (Nat.le_of_ble_eq_true rfl) (by decide) (by decide) (by decide) (by decide) (fun _ _ _ hf => False.elim hf) (fun r30 h30 n30 hp30 => ?_)
      obtain ⟨rfl, rfl, rfl⟩ := hp30
      exact aw_zret dX11_fits_33 rfl (by decide) (Nat.zero_le _) (Nat.zero_le _) (Nat.zero_le _) (Nat.zero_le _) (by first | exact ⟨rF (fun z => z (Or.inl ((lg_cmp_gt _ _).mp c5))), Or.inr ⟨Or.inl ((lg_cmp_gt _ _).mp c5), rfl⟩, rfl⟩ | exact ⟨rF (fun z => z (Or.inr (Or.inl ((lg_cmp_gt _ _).mp c13)))), Or.inr ⟨Or.inr (Or.inl ((lg_cmp_gt _ _).mp c13)), rfl⟩, rfl⟩ | exact ⟨rF (fun z => z (Or.inr (Or.inr (Int64.not_le.mp (fun q => c23 ((lg_cmp_le _ _).mpr q)))))), Or.inr ⟨Or.inr (Or.inr (Int64.not_le.mp (fun q => c23 ((lg_cmp_le _ _).mpr q)))), rfl⟩, rfl⟩)
    · refine aw_lload_n dX11_fits_16 rfl ?_
      refine aw_lload_n dX11_fits_17 rfl ?_
      refine aw_lmul dX11_fits_18 ?_
      refine aw_ldc2 dX11_fits_19 kcX11_107 ?_
      refine aw_lcmp dX11_fits_22 ?_
      refine aw_if_le (tgt := 34) dX11_fits_23 (by decide) (fun c23 => ?_) (fun c23 => ?_)
      · refine aw_aload_n dX11_fits_34 rfl ?_
        refine aw_lload_n dX11_fits_35 rfl ?_
        refine aw_l2i dX11_fits_36 ?_
        refine aw_putf dX11_fits_37 ptX11_109_10  hM (Nat.le_of_ble_eq_true rfl) ⟨rfl, rfl⟩ ?_
        refine aw_aload_n dX11_fits_40 rfl ?_
        refine aw_lload_n dX11_fits_41 rfl ?_
        refine aw_l2i dX11_fits_42 ?_
        refine aw_putf dX11_fits_43 ptX11_112_10  (va_up_self _ _ _) (Nat.le_of_ble_eq_true rfl) ⟨rfl, rfl⟩ ?_
        refine aw_iconst (v := 1) dX11_fits_46 (by decide) ?_
        exact aw_zret dX11_fits_47 rfl (by decide) (Nat.zero_le _) (Nat.zero_le _) (Nat.zero_le _) (Nat.zero_le _) ⟨rT (fun q => q.elim (fun q => c5 ((lg_cmp_gt _ _).mpr q)) (fun q => q.elim (fun q => c13 ((lg_cmp_gt _ _).mpr q)) (fun q => absurd q (Int64.not_lt.mpr ((lg_cmp_le _ _).mp c23))))), Or.inl ⟨(fun q => q.elim (fun q => c5 ((lg_cmp_gt _ _).mpr q)) (fun q => q.elim (fun q => c13 ((lg_cmp_gt _ _).mpr q)) (fun q => absurd q (Int64.not_lt.mpr ((lg_cmp_le _ _).mp c23))))), by rw [va_up_up]; rfl⟩, rfl⟩
      · refine aw_aload_n dX11_fits_26 rfl ?_
        refine aw_iconst (v := 3) dX11_fits_27 (by decide) ?_
        refine aw_iload dX11_fits_28 rfl ?_
        refine aw_callV dX11_fits_30 hM cvX11_90 rfl (kX11_wrong h n sv g hM 3 p) rfl (Nat.le_of_ble_eq_true rfl) (by decide) (by decide) (by decide) (by decide) (fun _ _ _ hf => False.elim hf) (fun r30 h30 n30 hp30 => ?_)
        obtain ⟨rfl, rfl, rfl⟩ := hp30
        exact aw_zret dX11_fits_33 rfl (by decide) (Nat.zero_le _) (Nat.zero_le _) (Nat.zero_le _) (Nat.zero_le _) (by first | exact ⟨rF (fun z => z (Or.inl ((lg_cmp_gt _ _).mp c5))), Or.inr ⟨Or.inl ((lg_cmp_gt _ _).mp c5), rfl⟩, rfl⟩ | exact ⟨rF (fun z => z (Or.inr (Or.inl ((lg_cmp_gt _ _).mp c13)))), Or.inr ⟨Or.inr (Or.inl ((lg_cmp_gt _ _).mp c13)), rfl⟩, rfl⟩ | exact ⟨rF (fun z => z (Or.inr (Or.inr (Int64.not_le.mp (fun q => c23 ((lg_cmp_le _ _).mpr q)))))), Or.inr ⟨Or.inr (Or.inr (Int64.not_le.mp (fun q => c23 ((lg_cmp_le _ _).mpr q)))), rfl⟩, rfl⟩)
