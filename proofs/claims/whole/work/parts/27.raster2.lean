def Alike (f f2 : Nat → Int32) (w g w2 g2 : Nat) : Prop := w = w2 ∧ g = g2 ∧ ∀ i, i < w * g → f i = f2 i
set_option maxHeartbeats 200000 in
set_option maxRecDepth 100000 in
theorem kX7_isLike (h : aH) (n r p w g r2 p2 w2 g2 : Nat) (f f2 : Nat → Int32) (hr : h r = oRas p w g) (hp : h p = oPix f) (hr2 : h r2 = oRas p2 w2 g2) (hp2 : h p2 = oPix f2) (hb : w * g ≤ 4096) (hw : w ≤ 4096) (hg : g ≤ 4096) (hw2 : w2 ≤ 4096) (hg2 : g2 ≤ 4096) : AM mX7_isLike 2 [.ref r, .ref r2] h n 0 0 0 0 (isV (.int (tI (Alike f f2 w g w2 g2))) h n) noX := by
  refine aw_of (by decide +kernel) rfl (Nat.le_of_ble_eq_true rfl) ?_
  have loop : ∀ (i j : Nat), j + i = w * g → w = w2 → g = g2 → (∀ q, q < j → f q = f2 q) → AW (fun _ _ => True) mX7_isLike (rmD 2 0 0) 0 0 (isV (.int (tI (Alike f f2 w g w2 g2))) h n) noX 0 0 31 [(3, .int (nI j)), (2, .int (nI (w * g))), (0, .ref r), (1, .ref r2)] [] h n := by
    intro i
    induction i with
    | zero =>
      intro j hj ew eg hq
      refine aw_iload_n dX7_isLike_31 rfl ?_
      refine aw_iload_n dX7_isLike_32 rfl ?_
      refine aw_icmp_ge (tgt := 57) dX7_isLike_33 (by decide) (fun c33 => ?_) (fun c33 => ?_)
      · refine aw_iconst (v := 1) dX7_isLike_57 (by decide) ?_
        exact aw_zret dX7_isLike_58 rfl (by decide) (Nat.zero_le _) (Nat.zero_le _) (Nat.zero_le _) (Nat.zero_le _) ⟨rT ⟨ew, eg, fun q hq1 => hq q (by omega)⟩, rfl, rfl⟩
      · exact absurd (nI_le (by omega) (by omega)) c33
    | succ i ih =>
      intro j hj ew eg hq
      refine aw_iload_n dX7_isLike_31 rfl ?_
      refine aw_iload_n dX7_isLike_32 rfl ?_
      refine aw_icmp_ge (tgt := 57) dX7_isLike_33 (by decide) (fun c33 => ?_) (fun c33 => ?_)
      · exact absurd c33 (nI_ge (by omega) (by omega))
      · refine aw_aload_n dX7_isLike_36 rfl ?_
        refine aw_iload_n dX7_isLike_37 rfl ?_
        refine aw_callV dX7_isLike_38 hr cvX7_30 rfl (kX7_get h n r p w g f hr hp j (by omega)) rfl (Nat.le_of_ble_eq_true rfl) (by decide) (by decide) (by decide) (by decide) (fun _ _ _ hf => False.elim hf) (fun r38 h38 n38 hp38 => ?_)
        obtain ⟨rfl, rfl, rfl⟩ := hp38
        refine aw_aload_n dX7_isLike_41 rfl ?_
        refine aw_iload_n dX7_isLike_42 rfl ?_
        refine aw_callV dX7_isLike_43 hr2 cvX7_30 rfl (kX7_get h n r2 p2 w2 g2 f2 hr2 hp2 j (by omega)) rfl (Nat.le_of_ble_eq_true rfl) (by decide) (by decide) (by decide) (by decide) (fun _ _ _ hf => False.elim hf) (fun r43 h43 n43 hp43 => ?_)
        obtain ⟨rfl, rfl, rfl⟩ := hp43
        refine aw_icmp_eq (tgt := 51) dX7_isLike_46 (by decide) (fun c46 => ?_) (fun c46 => ?_)
        · refine aw_iinc (v := nI (j + 1)) (lv2 := [(3, _), (2, _), (0, _), (1, _)]) dX7_isLike_51 rfl (inc1 j) (by decide) rfl ?_
          refine aw_goto (tgt := 31) dX7_isLike_54 (by decide) ?_
          exact aw_lv _ (List.forall_mem_cons.mpr ⟨rfl, List.forall_mem_cons.mpr ⟨rfl, List.forall_mem_cons.mpr ⟨rfl, List.forall_mem_cons.mpr ⟨rfl, fun _ h => absurd h List.not_mem_nil⟩⟩⟩⟩) (ih (j + 1) (by omega) ew eg (fun q hq1 => by rcases Nat.lt_succ_iff_lt_or_eq.mp hq1 with z | z; exact hq q z; rw [z]; exact c46))
        · refine aw_iconst (v := 0) dX7_isLike_49 (by decide) ?_
          exact aw_zret dX7_isLike_50 rfl (by decide) (Nat.zero_le _) (Nat.zero_le _) (Nat.zero_le _) (Nat.zero_le _) ⟨rF (fun q => c46 (q.2.2 j (by omega))), rfl, rfl⟩
  refine aw_aload_n dX7_isLike_0 rfl ?_
  refine aw_getf dX7_isLike_1 flX7_15_6 hr rfl ?_
  refine aw_aload_n dX7_isLike_4 rfl ?_
  refine aw_getf dX7_isLike_5 flX7_15_6 hr2 rfl ?_
  refine aw_icmp_ne (tgt := 22) dX7_isLike_8 (by decide) (fun c8 => ?_) (fun c8 => ?_)
  · refine aw_iconst (v := 0) dX7_isLike_22 (by decide) ?_
    exact aw_zret dX7_isLike_23 rfl (by decide) (Nat.zero_le _) (Nat.zero_le _) (Nat.zero_le _) (Nat.zero_le _) (by first | exact ⟨rF (fun q => c8 (by rw [q.1])), rfl, rfl⟩ | exact ⟨rF (fun q => c19 (by rw [q.2.1])), rfl, rfl⟩)
  · refine aw_aload_n dX7_isLike_11 rfl ?_
    refine aw_getf dX7_isLike_12 flX7_19_6 hr rfl ?_
    refine aw_aload_n dX7_isLike_15 rfl ?_
    refine aw_getf dX7_isLike_16 flX7_19_6 hr2 rfl ?_
    refine aw_icmp_eq (tgt := 24) dX7_isLike_19 (by decide) (fun c19 => ?_) (fun c19 => ?_)
    · refine aw_aload_n dX7_isLike_24 rfl ?_
      refine aw_callV dX7_isLike_25 hr cvX7_22 rfl (kX7_count h n r p w g hr) rfl (Nat.le_of_ble_eq_true rfl) (by decide) (by decide) (by decide) (by decide) (fun _ _ _ hf => False.elim hf) (fun r25 h25 n25 hp25 => ?_)
      obtain ⟨rfl, rfl, rfl⟩ := hp25
      refine aw_istore_n (lv2 := [(2, _), (0, _), (1, _)]) dX7_isLike_28 (by decide) rfl ?_
      refine aw_iconst (v := 0) dX7_isLike_29 (by decide) ?_
      refine aw_istore_n (lv2 := [(3, _), (2, _), (0, _), (1, _)]) dX7_isLike_30 (by decide) rfl ?_
      exact (by have q := loop (w * g) 0 (by omega) ((nI_eq (by omega) (by omega)).mp c8) ((nI_eq (by omega) (by omega)).mp c19) (fun q hq => absurd hq (Nat.not_lt_zero q)); rw [nI_0] at q; exact q)
    · refine aw_iconst (v := 0) dX7_isLike_22 (by decide) ?_
      exact aw_zret dX7_isLike_23 rfl (by decide) (Nat.zero_le _) (Nat.zero_le _) (Nat.zero_le _) (Nat.zero_le _) (by first | exact ⟨rF (fun q => c8 (by rw [q.1])), rfl, rfl⟩ | exact ⟨rF (fun q => c19 (by rw [q.2.1])), rfl, rfl⟩)
