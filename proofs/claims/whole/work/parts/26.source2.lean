theorem exists_two {α : Prop} (h : α) : α := h
set_option maxHeartbeats 200000 in
set_option maxRecDepth 100000 in
theorem kX8_lay (h : aH) (n S s t r q : Nat) (ft fp a0 b0 : Int32) (f : Nat → Int32) (h16 : h 16 = oSrc S s t ft fp) (hS : h S = oBytes f) (ht : t ≤ s) (hs : s ≤ 65536) (hr : h r = some (.inr (6, [.ref q, .int a0, .int b0]))) (w g : Int64) (p : Int32) : AM mX8_lay 4 [.ref 16, .ref r, .long w, .long g, .int p] h n 1 6 0 0 (fun r1 h2 n2 => r1 = none ∧ ¬ Big w g ∧ h2 = va_up h r (some (.inr (6, [.ref q, .int w.toInt32, .int g.toInt32]))) ∧ n = n2) (fun E h2 n2 => Big w g ∧ flt h n S s 3 p E h2 n2) := by
  have n16 : (16 : Nat) ≠ r := fun e => by rw [← e, h16] at hr; cases hr
  have nSr : S ≠ r := fun e => by rw [← e, hS] at hr; cases hr
  refine aw_of (by decide +kernel) rfl (Nat.le_of_ble_eq_true rfl) ?_
  refine aw_lload_n dX8_lay_0 rfl ?_
  refine aw_lload dX8_lay_1 rfl ?_
  refine aw_callSN dX8_lay_3  csX8_57 rfl (kX10_isTooLarge h n w g) rfl (Nat.le_of_ble_eq_true rfl) (by decide) (by decide) (by decide) (by decide)  (fun r3 h3 n3 hp3 => ?_)
  obtain ⟨rfl, rfl, rfl⟩ := hp3
  refine aw_if_eq (tgt := 16) dX8_lay_6 (by decide) (fun c6 => ?_) (fun c6 => ?_)
  · refine aw_aload_n dX8_lay_16 rfl ?_
    refine aw_lload_n dX8_lay_17 rfl ?_
    refine aw_l2i dX8_lay_18 ?_
    refine aw_putf dX8_lay_19 ptX8_61_6  hr (Nat.le_of_ble_eq_true rfl) ⟨rfl, rfl⟩ ?_
    refine aw_aload_n dX8_lay_22 rfl ?_
    refine aw_lload dX8_lay_23 rfl ?_
    refine aw_l2i dX8_lay_25 ?_
    refine aw_putf dX8_lay_26 ptX8_66_6  (va_up_self _ _ _) (Nat.le_of_ble_eq_true rfl) ⟨rfl, rfl⟩ ?_
    exact aw_vret dX8_lay_29 rfl (Nat.zero_le _) (Nat.zero_le _) (Nat.zero_le _) (Nat.zero_le _) ⟨rfl, tI_of0 c6, by rw [va_up_up]; rfl, rfl⟩
  · refine aw_aload_n dX8_lay_9 rfl ?_
    refine aw_iconst (v := 3) dX8_lay_10 (by decide) ?_
    refine aw_iload dX8_lay_11 rfl ?_
    exact aw_callV dX8_lay_13 h16 cvX8_50 rfl (kX8_refuse h n S s t ft fp f h16 hS ht hs 3 p) rfl (Nat.le_of_ble_eq_true rfl) (by decide) (by decide) (by decide) (by decide) (fun E h2 n2 hx => aw_out rfl (by decide) (by decide) ⟨tI_ofn c6, hx⟩) (fun _ _ _ hf => False.elim hf)
def hi4N (f : Nat → Int32) (t : Nat) : Int32 := ((((((((0 : Int32) <<< ((8 : Int32) &&& 31)) ||| (f t &&& 255)) <<< ((8 : Int32) &&& 31)) ||| (f (t + 1) &&& 255)) <<< ((8 : Int32) &&& 31)) ||| (f (t + 2) &&& 255)) <<< ((8 : Int32) &&& 31)) ||| (f (t + 3) &&& 255)
set_option maxHeartbeats 200000 in
set_option maxRecDepth 100000 in
theorem kX8_high4 (h : aH) (n S s t : Nat) (ft fp : Int32) (f : Nat → Int32) (h16 : h 16 = oSrc S s t ft fp) (hS : h S = oBytes f) (ht : t ≤ s) (hs : s ≤ 65536) : AM mX8_high4 4 [.ref 16] h n 1 6 0 0 (fun r h2 n2 => r = some (.int (hi4N f t)) ∧ t + 4 ≤ s ∧ h2 = va_up h 16 (oSrc S s (t + 4) ft fp) ∧ n = n2) (fun E h2 n2 => ¬ t + 4 ≤ s ∧ flt h n S s 1 (nI s) E h2 n2) := by
  have nS : S ≠ 16 := src_ne h16 hS
  refine aw_of (by decide +kernel) rfl (Nat.le_of_ble_eq_true rfl) ?_
  have step : ∀ (i : Nat) (j j2 v : Int32) (h1 : aH), h1 = va_up h 16 (oSrc S s (t + i) ft fp) → i < 4 → t + i ≤ s → ¬ 4 ≤ j → j + Int32.ofInt 1 = j2 → (t + i < s → AW (fun _ _ => True) mX8_high4 (rmD 4 1 6) 0 0 (fun r h2 n2 => r = some (.int (hi4N f t)) ∧ t + 4 ≤ s ∧ h2 = va_up h 16 (oSrc S s (t + 4) ft fp) ∧ n = n2) (fun E h2 n2 => ¬ t + 4 ≤ s ∧ flt h n S s 1 (nI s) E h2 n2) 0 0 4 [(2, .int j2), (1, .int ((v <<< ((8 : Int32) &&& 31)) ||| (f (t + i) &&& 255))), (0, .ref 16)] [] (va_up h 16 (oSrc S s (t + (i + 1)) ft fp)) n) → AW (fun _ _ => True) mX8_high4 (rmD 4 1 6) 0 0 (fun r h2 n2 => r = some (.int (hi4N f t)) ∧ t + 4 ≤ s ∧ h2 = va_up h 16 (oSrc S s (t + 4) ft fp) ∧ n = n2) (fun E h2 n2 => ¬ t + 4 ≤ s ∧ flt h n S s 1 (nI s) E h2 n2) 0 0 4 [(2, .int j), (1, .int v), (0, .ref 16)] [] h1 n := by
    intro i j j2 v h1 e1 hi hti hj hj2 kk; subst e1
    refine aw_iload_n dX8_high4_4 rfl ?_
    refine aw_iconst (v := 4) dX8_high4_5 (by decide) ?_
    refine aw_icmp_ge (tgt := 25) dX8_high4_6 (by decide) (fun c6 => ?_) (fun c6 => ?_)
    · exact absurd c6 hj
    · refine aw_iload_n dX8_high4_9 rfl ?_
      refine aw_bipush (v := 8) dX8_high4_10 (by decide) ?_
      refine aw_ishl dX8_high4_12 ?_
      refine aw_aload_n dX8_high4_13 rfl ?_
      refine aw_callV dX8_high4_14 (va_up_self _ _ _) cvX8_43 rfl (kX8_next _ n S s (t + i) ft fp f (va_up_self _ _ _) ((va_up_ne _ _ nS).trans hS) (by omega) hs) rfl (Nat.le_of_ble_eq_true rfl) (by decide) (by decide) (by decide) (by decide) (fun E h2 n2 hx => aw_out rfl (by decide) (by decide) ⟨fun q => hx.1 (by omega), flt_up hx.2⟩) (fun r14 h14 n14 hp14 => ?_)
      obtain ⟨rfl, lt14, hh14, rfl⟩ := hp14
      rw [va_up_up] at hh14
      subst hh14
      refine aw_ior dX8_high4_17 ?_
      refine aw_istore_n (lv2 := [(1, _), (2, _), (0, _)]) dX8_high4_18 (by decide) rfl ?_
      refine aw_iinc (v := j2) (lv2 := [(2, _), (1, _), (0, _)]) dX8_high4_19 rfl hj2 (by decide) rfl ?_
      refine aw_goto (tgt := 4) dX8_high4_22 (by decide) ?_
      exact aw_lv _ (List.forall_mem_cons.mpr ⟨rfl, List.forall_mem_cons.mpr ⟨rfl, List.forall_mem_cons.mpr ⟨rfl, fun _ h => absurd h List.not_mem_nil⟩⟩⟩) (kk lt14)
  refine aw_iconst (v := 0) dX8_high4_0 (by decide) ?_
  refine aw_istore_n (lv2 := [(1, _), (0, _)]) dX8_high4_1 (by decide) rfl ?_
  refine aw_iconst (v := 0) dX8_high4_2 (by decide) ?_
  refine aw_istore_n (lv2 := [(2, _), (1, _), (0, _)]) dX8_high4_3 (by decide) rfl ?_
  refine step 0 0 1 0 h (by rw [Nat.add_zero]; exact (va_up_same h16).symm) (by omega) (by omega) (by decide) (by decide) (fun l0 => ?_)
  refine step 1 1 2 _ _ rfl (by omega) (by omega) (by decide) (by decide) (fun l1 => ?_)
  refine step 2 2 3 _ _ rfl (by omega) (by omega) (by decide) (by decide) (fun l2 => ?_)
  refine step 3 3 4 _ _ rfl (by omega) (by omega) (by decide) (by decide) (fun l3 => ?_)
  refine aw_iload_n dX8_high4_4 rfl ?_
  refine aw_iconst (v := 4) dX8_high4_5 (by decide) ?_
  refine aw_icmp_ge (tgt := 25) dX8_high4_6 (by decide) (fun c6 => ?_) (fun c6 => absurd (by decide) c6)
  refine aw_iload_n dX8_high4_25 rfl ?_
  exact aw_iret dX8_high4_26 rfl (Nat.zero_le _) (Nat.zero_le _) (Nat.zero_le _) (Nat.zero_le _) ⟨rfl, by omega, rfl, rfl⟩
