set_option maxHeartbeats 200000 in
set_option maxRecDepth 100000 in
theorem kX1_addZeros (h : aH) (n o a k : Nat) (f : Nat → Int32) (ho : h o = oRow a k) (ha : h a = oBytes f) (m : Nat) (hk : k + m ≤ 65536) : AM mX1_addZeros 2 [.ref o, .int (nI m)] h n 0 0 0 0 (fun r h2 n2 => r = none ∧ h2 = brSet h o a (k + m) (putL f k (List.replicate m 0)) ∧ n = n2) noX := by
  have nao : a ≠ o := row_ne ho ha
  have noa : o ≠ a := fun e => nao e.symm
  refine aw_of (by decide +kernel) rfl (Nat.le_of_ble_eq_true rfl) ?_
  have loop : ∀ (i j k1 : Nat) (f1 : Nat → Int32) (h1 : aH), j + i = m → k1 + i ≤ 65536 → h1 o = oRow a k1 → h1 a = oBytes f1 → AW (fun _ _ => True) mX1_addZeros (rmD 2 0 0) 0 0 (fun r h2 n2 => r = none ∧ h2 = brSet h1 o a (k1 + i) (putL f1 k1 (List.replicate i 0)) ∧ n = n2) noX 0 0 2 [(2, .int (nI j)), (0, .ref o), (1, .int (nI m))] [] h1 n := by
    intro i
    induction i with
    | zero =>
      intro j k1 f1 h1 hj hk1 g1 g2
      refine aw_iload_n dX1_addZeros_2 rfl ?_
      refine aw_iload_n dX1_addZeros_3 rfl ?_
      refine aw_icmp_ge (tgt := 18) dX1_addZeros_4 (by decide) (fun c4 => ?_) (fun c4 => ?_)
      · exact aw_vret dX1_addZeros_18 rfl (Nat.zero_le _) (Nat.zero_le _) (Nat.zero_le _) (Nat.zero_le _) ⟨rfl, (brSet_id g1 g2).symm, rfl⟩
      · exact absurd (nI_le (by omega) (by omega)) c4
    | succ i ih =>
      intro j k1 f1 h1 hj hk1 g1 g2
      refine aw_iload_n dX1_addZeros_2 rfl ?_
      refine aw_iload_n dX1_addZeros_3 rfl ?_
      refine aw_icmp_ge (tgt := 18) dX1_addZeros_4 (by decide) (fun c4 => ?_) (fun c4 => ?_)
      · exact absurd c4 (nI_ge (by omega) (by omega))
      · refine aw_aload_n dX1_addZeros_7 rfl ?_
        refine aw_iconst (v := 0) dX1_addZeros_8 (by decide) ?_
        refine aw_callV dX1_addZeros_9 g1 cvX1_20 rfl (kX1_add h1 n o a k1 f1 g1 g2 0 (by omega)) rfl (Nat.le_of_ble_eq_true rfl) (by decide) (by decide) (by decide) (by decide) (fun _ _ _ hf => False.elim hf) (fun r9 h9 n9 hp9 => ?_)
        obtain ⟨rfl, rfl, rfl⟩ := hp9
        refine aw_iinc (v := nI (j + 1)) (lv2 := [(2, _), (0, _), (1, _)]) dX1_addZeros_12 rfl (inc1 j) (by decide) rfl ?_
        refine aw_goto (tgt := 2) dX1_addZeros_15 (by decide) ?_
        exact aw_mono (fun r h2 n2 q => ⟨q.1, by rw [q.2.1, brSet_set, show k1 + 1 + i = k1 + (i + 1) by omega]; rfl, q.2.2⟩) (fun _ _ _ q => q) (aw_lv _ (List.forall_mem_cons.mpr ⟨rfl, List.forall_mem_cons.mpr ⟨rfl, List.forall_mem_cons.mpr ⟨rfl, fun _ h => absurd h List.not_mem_nil⟩⟩⟩) (ih (j + 1) (k1 + 1) _ _ (by omega) (by omega) brSet_o (brSet_a nao)))
  refine aw_iconst (v := 0) dX1_addZeros_0 (by decide) ?_
  refine aw_istore_n (lv2 := [(2, _), (0, _), (1, _)]) dX1_addZeros_1 (by decide) rfl ?_
  exact (by have q := loop m 0 k f h (by omega) hk ho ha; rw [nI_0] at q; exact q)
def decL (v : Int32) : List Int32 :=
  if v < 1000 then
    if v < 100 then
      if v < 10 then [48 + (v - v / 10 * 10)]
      else [48 + (v / 10 - v / 10 / 10 * 10), 48 + (v - v / 10 * 10)]
    else [48 + (v / 100 - v / 100 / 10 * 10), 48 + (v / 10 - v / 10 / 10 * 10), 48 + (v - v / 10 * 10)]
  else [48 + v / 1000, 48 + (v / 100 - v / 100 / 10 * 10), 48 + (v / 10 - v / 10 / 10 * 10), 48 + (v - v / 10 * 10)]
set_option maxHeartbeats 200000 in
set_option maxRecDepth 100000 in
theorem kX1_addDecimal (h : aH) (n o a k : Nat) (f : Nat → Int32) (ho : h o = oRow a k) (ha : h a = oBytes f) (v : Int32) (hk : k + 4 ≤ 65536) : AM mX1_addDecimal 2 [.ref o, .int v] h n 0 0 0 0 (fun r h2 n2 => r = none ∧ h2 = brSet h o a (k + (decL v).length) (putL f k (decL v)) ∧ n = n2) (noX) := by
  have nao : a ≠ o := row_ne ho ha
  have noa : o ≠ a := fun e => nao e.symm
  refine aw_of (by decide +kernel) rfl (Nat.le_of_ble_eq_true rfl) ?_
  refine aw_iload_n dX1_addDecimal_0 rfl ?_
  refine aw_sipush (v := 1000) dX1_addDecimal_1 (by decide) ?_
  refine aw_icmp_lt (tgt := 19) dX1_addDecimal_4 (by decide) (fun c4 => ?_) (fun c4 => ?_)
  · refine aw_iload_n dX1_addDecimal_19 rfl ?_
    refine aw_bipush (v := 100) dX1_addDecimal_20 (by decide) ?_
    refine aw_icmp_lt (tgt := 39) dX1_addDecimal_22 (by decide) (fun c22 => ?_) (fun c22 => ?_)
    · refine aw_iload_n dX1_addDecimal_39 rfl ?_
      refine aw_bipush (v := 10) dX1_addDecimal_40 (by decide) ?_
      refine aw_icmp_lt (tgt := 59) dX1_addDecimal_42 (by decide) (fun c42 => ?_) (fun c42 => ?_)
      · refine aw_aload_n dX1_addDecimal_59 rfl ?_
        refine aw_bipush (v := 48) dX1_addDecimal_60 (by decide) ?_
        refine aw_iload_n dX1_addDecimal_62 rfl ?_
        refine aw_bipush (v := 10) dX1_addDecimal_63 (by decide) ?_
        refine aw_irem dX1_addDecimal_65 (by decide) ?_
        refine aw_iadd dX1_addDecimal_66 ?_
        refine aw_callV dX1_addDecimal_67 ho cvX1_20 rfl (kX1_add _ _ o a _ _ (by first | exact ho | exact brSet_o) (by first | exact ha | exact brSet_a nao) _ (by omega)) rfl (Nat.le_of_ble_eq_true rfl) (by decide) (by decide) (by decide) (by decide) (fun _ _ _ hf => False.elim hf) (fun r67 h67 n67 hp67 => ?_)
        obtain ⟨rfl, rfl, rfl⟩ := hp67
        exact aw_vret dX1_addDecimal_70 rfl (Nat.zero_le _) (Nat.zero_le _) (Nat.zero_le _) (Nat.zero_le _) (by first | exact absurd (Int32.lt_trans c22 (by decide)) c4 | exact absurd (Int32.lt_trans c42 (by decide)) c22 | exact ⟨rfl, by unfold decL; simp only [c4, c22, c42, if_true, if_false, brSet_set]; rfl, rfl⟩)
      · refine aw_aload_n dX1_addDecimal_45 rfl ?_
        refine aw_bipush (v := 48) dX1_addDecimal_46 (by decide) ?_
        refine aw_iload_n dX1_addDecimal_48 rfl ?_
        refine aw_bipush (v := 10) dX1_addDecimal_49 (by decide) ?_
        refine aw_idiv dX1_addDecimal_51 (by decide) ?_
        refine aw_bipush (v := 10) dX1_addDecimal_52 (by decide) ?_
        refine aw_irem dX1_addDecimal_54 (by decide) ?_
        refine aw_iadd dX1_addDecimal_55 ?_
        refine aw_callV dX1_addDecimal_56 ho cvX1_20 rfl (kX1_add _ _ o a _ _ (by first | exact ho | exact brSet_o) (by first | exact ha | exact brSet_a nao) _ (by omega)) rfl (Nat.le_of_ble_eq_true rfl) (by decide) (by decide) (by decide) (by decide) (fun _ _ _ hf => False.elim hf) (fun r56 h56 n56 hp56 => ?_)
        obtain ⟨rfl, rfl, rfl⟩ := hp56
        refine aw_aload_n dX1_addDecimal_59 rfl ?_
        refine aw_bipush (v := 48) dX1_addDecimal_60 (by decide) ?_
        refine aw_iload_n dX1_addDecimal_62 rfl ?_
        refine aw_bipush (v := 10) dX1_addDecimal_63 (by decide) ?_
        refine aw_irem dX1_addDecimal_65 (by decide) ?_
        refine aw_iadd dX1_addDecimal_66 ?_
        refine aw_callV dX1_addDecimal_67 brSet_o cvX1_20 rfl (kX1_add _ _ o a _ _ (by first | exact ho | exact brSet_o) (by first | exact ha | exact brSet_a nao) _ (by omega)) rfl (Nat.le_of_ble_eq_true rfl) (by decide) (by decide) (by decide) (by decide) (fun _ _ _ hf => False.elim hf) (fun r67 h67 n67 hp67 => ?_)
        obtain ⟨rfl, rfl, rfl⟩ := hp67
        exact aw_vret dX1_addDecimal_70 rfl (Nat.zero_le _) (Nat.zero_le _) (Nat.zero_le _) (Nat.zero_le _) (by first | exact absurd (Int32.lt_trans c22 (by decide)) c4 | exact absurd (Int32.lt_trans c42 (by decide)) c22 | exact ⟨rfl, by unfold decL; simp only [c4, c22, c42, if_true, if_false, brSet_set]; rfl, rfl⟩)
    · refine aw_aload_n dX1_addDecimal_25 rfl ?_
      refine aw_bipush (v := 48) dX1_addDecimal_26 (by decide) ?_
      refine aw_iload_n dX1_addDecimal_28 rfl ?_
      refine aw_bipush (v := 100) dX1_addDecimal_29 (by decide) ?_
      refine aw_idiv dX1_addDecimal_31 (by decide) ?_
      refine aw_bipush (v := 10) dX1_addDecimal_32 (by decide) ?_
      refine aw_irem dX1_addDecimal_34 (by decide) ?_
      refine aw_iadd dX1_addDecimal_35 ?_
      refine aw_callV dX1_addDecimal_36 ho cvX1_20 rfl (kX1_add _ _ o a _ _ (by first | exact ho | exact brSet_o) (by first | exact ha | exact brSet_a nao) _ (by omega)) rfl (Nat.le_of_ble_eq_true rfl) (by decide) (by decide) (by decide) (by decide) (fun _ _ _ hf => False.elim hf) (fun r36 h36 n36 hp36 => ?_)
      obtain ⟨rfl, rfl, rfl⟩ := hp36
      refine aw_iload_n dX1_addDecimal_39 rfl ?_
      refine aw_bipush (v := 10) dX1_addDecimal_40 (by decide) ?_
      refine aw_icmp_lt (tgt := 59) dX1_addDecimal_42 (by decide) (fun c42 => ?_) (fun c42 => ?_)
      · refine aw_aload_n dX1_addDecimal_59 rfl ?_
        refine aw_bipush (v := 48) dX1_addDecimal_60 (by decide) ?_
        refine aw_iload_n dX1_addDecimal_62 rfl ?_
        refine aw_bipush (v := 10) dX1_addDecimal_63 (by decide) ?_
        refine aw_irem dX1_addDecimal_65 (by decide) ?_
        refine aw_iadd dX1_addDecimal_66 ?_
        refine aw_callV dX1_addDecimal_67 brSet_o cvX1_20 rfl (kX1_add _ _ o a _ _ (by first | exact ho | exact brSet_o) (by first | exact ha | exact brSet_a nao) _ (by omega)) rfl (Nat.le_of_ble_eq_true rfl) (by decide) (by decide) (by decide) (by decide) (fun _ _ _ hf => False.elim hf) (fun r67 h67 n67 hp67 => ?_)
        obtain ⟨rfl, rfl, rfl⟩ := hp67
        exact aw_vret dX1_addDecimal_70 rfl (Nat.zero_le _) (Nat.zero_le _) (Nat.zero_le _) (Nat.zero_le _) (by first | exact absurd (Int32.lt_trans c22 (by decide)) c4 | exact absurd (Int32.lt_trans c42 (by decide)) c22 | exact ⟨rfl, by unfold decL; simp only [c4, c22, c42, if_true, if_false, brSet_set]; rfl, rfl⟩)
      · refine aw_aload_n dX1_addDecimal_45 rfl ?_
        refine aw_bipush (v := 48) dX1_addDecimal_46 (by decide) ?_
        refine aw_iload_n dX1_addDecimal_48 rfl ?_
        refine aw_bipush (v := 10) dX1_addDecimal_49 (by decide) ?_
        refine aw_idiv dX1_addDecimal_51 (by decide) ?_
        refine aw_bipush (v := 10) dX1_addDecimal_52 (by decide) ?_
        refine aw_irem dX1_addDecimal_54 (by decide) ?_
        refine aw_iadd dX1_addDecimal_55 ?_
        refine aw_callV dX1_addDecimal_56 brSet_o cvX1_20 rfl (kX1_add _ _ o a _ _ (by first | exact ho | exact brSet_o) (by first | exact ha | exact brSet_a nao) _ (by omega)) rfl (Nat.le_of_ble_eq_true rfl) (by decide) (by decide) (by decide) (by decide) (fun _ _ _ hf => False.elim hf) (fun r56 h56 n56 hp56 => ?_)
        obtain ⟨rfl, rfl, rfl⟩ := hp56
        refine aw_aload_n dX1_addDecimal_59 rfl ?_
        refine aw_bipush (v := 48) dX1_addDecimal_60 (by decide) ?_
        refine aw_iload_n dX1_addDecimal_62 rfl ?_
        refine aw_bipush (v := 10) dX1_addDecimal_63 (by decide) ?_
        refine aw_irem dX1_addDecimal_65 (by decide) ?_
        refine aw_iadd dX1_addDecimal_66 ?_
        refine aw_callV dX1_addDecimal_67 brSet_o cvX1_20 rfl (kX1_add _ _ o a _ _ (by first | exact ho | exact brSet_o) (by first | exact ha | exact brSet_a nao) _ (by omega)) rfl (Nat.le_of_ble_eq_true rfl) (by decide) (by decide) (by decide) (by decide) (fun _ _ _ hf => False.elim hf) (fun r67 h67 n67 hp67 => ?_)
        obtain ⟨rfl, rfl, rfl⟩ := hp67
        exact aw_vret dX1_addDecimal_70 rfl (Nat.zero_le _) (Nat.zero_le _) (Nat.zero_le _) (Nat.zero_le _) (by first | exact absurd (Int32.lt_trans c22 (by decide)) c4 | exact absurd (Int32.lt_trans c42 (by decide)) c22 | exact ⟨rfl, by unfold decL; simp only [c4, c22, c42, if_true, if_false, brSet_set]; rfl, rfl⟩)
  · refine aw_aload_n dX1_addDecimal_7 rfl ?_
    refine aw_bipush (v := 48) dX1_addDecimal_8 (by decide) ?_
    refine aw_iload_n dX1_addDecimal_10 rfl ?_
    refine aw_sipush (v := 1000) dX1_addDecimal_11 (by decide) ?_
    refine aw_idiv dX1_addDecimal_14 (by decide) ?_
    refine aw_iadd dX1_addDecimal_15 ?_
    refine aw_callV dX1_addDecimal_16 ho cvX1_20 rfl (kX1_add _ _ o a _ _ (by first | exact ho | exact brSet_o) (by first | exact ha | exact brSet_a nao) _ (by omega)) rfl (Nat.le_of_ble_eq_true rfl) (by decide) (by decide) (by decide) (by decide) (fun _ _ _ hf => False.elim hf) (fun r16 h16 n16 hp16 => ?_)
    obtain ⟨rfl, rfl, rfl⟩ := hp16
    refine aw_iload_n dX1_addDecimal_19 rfl ?_
    refine aw_bipush (v := 100) dX1_addDecimal_20 (by decide) ?_
    refine aw_icmp_lt (tgt := 39) dX1_addDecimal_22 (by decide) (fun c22 => ?_) (fun c22 => ?_)
    · refine aw_iload_n dX1_addDecimal_39 rfl ?_
      refine aw_bipush (v := 10) dX1_addDecimal_40 (by decide) ?_
      refine aw_icmp_lt (tgt := 59) dX1_addDecimal_42 (by decide) (fun c42 => ?_) (fun c42 => ?_)
      · refine aw_aload_n dX1_addDecimal_59 rfl ?_
        refine aw_bipush (v := 48) dX1_addDecimal_60 (by decide) ?_
        refine aw_iload_n dX1_addDecimal_62 rfl ?_
        refine aw_bipush (v := 10) dX1_addDecimal_63 (by decide) ?_
        refine aw_irem dX1_addDecimal_65 (by decide) ?_
        refine aw_iadd dX1_addDecimal_66 ?_
        refine aw_callV dX1_addDecimal_67 brSet_o cvX1_20 rfl (kX1_add _ _ o a _ _ (by first | exact ho | exact brSet_o) (by first | exact ha | exact brSet_a nao) _ (by omega)) rfl (Nat.le_of_ble_eq_true rfl) (by decide) (by decide) (by decide) (by decide) (fun _ _ _ hf => False.elim hf) (fun r67 h67 n67 hp67 => ?_)
        obtain ⟨rfl, rfl, rfl⟩ := hp67
        exact aw_vret dX1_addDecimal_70 rfl (Nat.zero_le _) (Nat.zero_le _) (Nat.zero_le _) (Nat.zero_le _) (by first | exact absurd (Int32.lt_trans c22 (by decide)) c4 | exact absurd (Int32.lt_trans c42 (by decide)) c22 | exact ⟨rfl, by unfold decL; simp only [c4, c22, c42, if_true, if_false, brSet_set]; rfl, rfl⟩)
      · refine aw_aload_n dX1_addDecimal_45 rfl ?_
        refine aw_bipush (v := 48) dX1_addDecimal_46 (by decide) ?_
        refine aw_iload_n dX1_addDecimal_48 rfl ?_
        refine aw_bipush (v := 10) dX1_addDecimal_49 (by decide) ?_
        refine aw_idiv dX1_addDecimal_51 (by decide) ?_
        refine aw_bipush (v := 10) dX1_addDecimal_52 (by decide) ?_
        refine aw_irem dX1_addDecimal_54 (by decide) ?_
        refine aw_iadd dX1_addDecimal_55 ?_
        refine aw_callV dX1_addDecimal_56 brSet_o cvX1_20 rfl (kX1_add _ _ o a _ _ (by first | exact ho | exact brSet_o) (by first | exact ha | exact brSet_a nao) _ (by omega)) rfl (Nat.le_of_ble_eq_true rfl) (by decide) (by decide) (by decide) (by decide) (fun _ _ _ hf => False.elim hf) (fun r56 h56 n56 hp56 => ?_)
        obtain ⟨rfl, rfl, rfl⟩ := hp56
        refine aw_aload_n dX1_addDecimal_59 rfl ?_
        refine aw_bipush (v := 48) dX1_addDecimal_60 (by decide) ?_
        refine aw_iload_n dX1_addDecimal_62 rfl ?_
        refine aw_bipush (v := 10) dX1_addDecimal_63 (by decide) ?_
        refine aw_irem dX1_addDecimal_65 (by decide) ?_
        refine aw_iadd dX1_addDecimal_66 ?_
        refine aw_callV dX1_addDecimal_67 brSet_o cvX1_20 rfl (kX1_add _ _ o a _ _ (by first | exact ho | exact brSet_o) (by first | exact ha | exact brSet_a nao) _ (by omega)) rfl (Nat.le_of_ble_eq_true rfl) (by decide) (by decide) (by decide) (by decide) (fun _ _ _ hf => False.elim hf) (fun r67 h67 n67 hp67 => ?_)
        obtain ⟨rfl, rfl, rfl⟩ := hp67
        exact aw_vret dX1_addDecimal_70 rfl (Nat.zero_le _) (Nat.zero_le _) (Nat.zero_le _) (Nat.zero_le _) (by first | exact absurd (Int32.lt_trans c22 (by decide)) c4 | exact absurd (Int32.lt_trans c42 (by decide)) c22 | exact ⟨rfl, by unfold decL; simp only [c4, c22, c42, if_true, if_false, brSet_set]; rfl, rfl⟩)
    · refine aw_aload_n dX1_addDecimal_25 rfl ?_
      refine aw_bipush (v := 48) dX1_addDecimal_26 (by decide) ?_
      refine aw_iload_n dX1_addDecimal_28 rfl ?_
      refine aw_bipush (v := 100) dX1_addDecimal_29 (by decide) ?_
      refine aw_idiv dX1_addDecimal_31 (by decide) ?_
      refine aw_bipush (v := 10) dX1_addDecimal_32 (by decide) ?_
      refine aw_irem dX1_addDecimal_34 (by decide) ?_
      refine aw_iadd dX1_addDecimal_35 ?_
      refine aw_callV dX1_addDecimal_36 brSet_o cvX1_20 rfl (kX1_add _ _ o a _ _ (by first | exact ho | exact brSet_o) (by first | exact ha | exact brSet_a nao) _ (by omega)) rfl (Nat.le_of_ble_eq_true rfl) (by decide) (by decide) (by decide) (by decide) (fun _ _ _ hf => False.elim hf) (fun r36 h36 n36 hp36 => ?_)
      obtain ⟨rfl, rfl, rfl⟩ := hp36
      refine aw_iload_n dX1_addDecimal_39 rfl ?_
      refine aw_bipush (v := 10) dX1_addDecimal_40 (by decide) ?_
      refine aw_icmp_lt (tgt := 59) dX1_addDecimal_42 (by decide) (fun c42 => ?_) (fun c42 => ?_)
      · refine aw_aload_n dX1_addDecimal_59 rfl ?_
        refine aw_bipush (v := 48) dX1_addDecimal_60 (by decide) ?_
        refine aw_iload_n dX1_addDecimal_62 rfl ?_
        refine aw_bipush (v := 10) dX1_addDecimal_63 (by decide) ?_
        refine aw_irem dX1_addDecimal_65 (by decide) ?_
        refine aw_iadd dX1_addDecimal_66 ?_
        refine aw_callV dX1_addDecimal_67 brSet_o cvX1_20 rfl (kX1_add _ _ o a _ _ (by first | exact ho | exact brSet_o) (by first | exact ha | exact brSet_a nao) _ (by omega)) rfl (Nat.le_of_ble_eq_true rfl) (by decide) (by decide) (by decide) (by decide) (fun _ _ _ hf => False.elim hf) (fun r67 h67 n67 hp67 => ?_)
        obtain ⟨rfl, rfl, rfl⟩ := hp67
        exact aw_vret dX1_addDecimal_70 rfl (Nat.zero_le _) (Nat.zero_le _) (Nat.zero_le _) (Nat.zero_le _) (by first | exact absurd (Int32.lt_trans c22 (by decide)) c4 | exact absurd (Int32.lt_trans c42 (by decide)) c22 | exact ⟨rfl, by unfold decL; simp only [c4, c22, c42, if_true, if_false, brSet_set]; rfl, rfl⟩)
      · refine aw_aload_n dX1_addDecimal_45 rfl ?_
        refine aw_bipush (v := 48) dX1_addDecimal_46 (by decide) ?_
        refine aw_iload_n dX1_addDecimal_48 rfl ?_
        refine aw_bipush (v := 10) dX1_addDecimal_49 (by decide) ?_
        refine aw_idiv dX1_addDecimal_51 (by decide) ?_
        refine aw_bipush (v := 10) dX1_addDecimal_52 (by decide) ?_
        refine aw_irem dX1_addDecimal_54 (by decide) ?_
        refine aw_iadd dX1_addDecimal_55 ?_
        refine aw_callV dX1_addDecimal_56 brSet_o cvX1_20 rfl (kX1_add _ _ o a _ _ (by first | exact ho | exact brSet_o) (by first | exact ha | exact brSet_a nao) _ (by omega)) rfl (Nat.le_of_ble_eq_true rfl) (by decide) (by decide) (by decide) (by decide) (fun _ _ _ hf => False.elim hf) (fun r56 h56 n56 hp56 => ?_)
        obtain ⟨rfl, rfl, rfl⟩ := hp56
        refine aw_aload_n dX1_addDecimal_59 rfl ?_
        refine aw_bipush (v := 48) dX1_addDecimal_60 (by decide) ?_
        refine aw_iload_n dX1_addDecimal_62 rfl ?_
        refine aw_bipush (v := 10) dX1_addDecimal_63 (by decide) ?_
        refine aw_irem dX1_addDecimal_65 (by decide) ?_
        refine aw_iadd dX1_addDecimal_66 ?_
        refine aw_callV dX1_addDecimal_67 brSet_o cvX1_20 rfl (kX1_add _ _ o a _ _ (by first | exact ho | exact brSet_o) (by first | exact ha | exact brSet_a nao) _ (by omega)) rfl (Nat.le_of_ble_eq_true rfl) (by decide) (by decide) (by decide) (by decide) (fun _ _ _ hf => False.elim hf) (fun r67 h67 n67 hp67 => ?_)
        obtain ⟨rfl, rfl, rfl⟩ := hp67
        exact aw_vret dX1_addDecimal_70 rfl (Nat.zero_le _) (Nat.zero_le _) (Nat.zero_le _) (Nat.zero_le _) (by first | exact absurd (Int32.lt_trans c22 (by decide)) c4 | exact absurd (Int32.lt_trans c42 (by decide)) c22 | exact ⟨rfl, by unfold decL; simp only [c4, c22, c42, if_true, if_false, brSet_set]; rfl, rfl⟩)
