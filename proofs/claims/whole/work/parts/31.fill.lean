def iMax (x y : Int32) : Int32 := if x < y then y else x
def iMin (x y : Int32) : Int32 := if y < x then y else x
theorem incE {x w : Int32} {z : Int} (h : Int32.ofInt z = w) : x + Int32.ofInt z = x + w := by rw [h]
set_option maxRecDepth 100000 in
theorem kJ_fill (h : aH) (n q N : Nat) (f : A) (v : Int32) (hq : h q = some (.inl (.int, N, .inl f))) (hN : N ≤ 100000) : AM mJ7_fill_53178 1 [.ref q, .int v] h n 0 0 0 0 (fun r h2 n2 => r = none ∧ h2 = va_up h q (some (.inl (.int, N, .inl (fillN f N v)))) ∧ n = n2) (fun _ _ _ => False) := by
  refine aw_of (by decide +kernel) rfl (Nat.le_of_ble_eq_true rfl) ?_
  have loop : ∀ (i j : Nat) (h1 : aH), j + i = N → h1 = va_up h q (some (.inl (.int, N, .inl (fillN f j v)))) → AW (fun _ _ => True) mJ7_fill_53178 (rmD 1 0 0) 0 0 (fun r h2 n2 => r = none ∧ h2 = va_up h q (some (.inl (.int, N, .inl (fillN f N v)))) ∧ n = n2) (fun _ _ _ => False) 0 0 5 [(3, .int (nI N)), (2, .int (nI j)), (0, .ref q), (1, .int v)] [] h1 n := by
    intro i
    induction i with
    | zero =>
      intro j h1 hj e; subst e
      refine aw_iload_n dJ7_fill_53178_5 rfl ?_
      refine aw_iload_n dJ7_fill_53178_6 rfl ?_
      refine aw_icmp_ge (tgt := 20) dJ7_fill_53178_7 (by decide) (fun c => ?_) (fun c => absurd (nI_le (by omega) (by omega)) c)
      have hj : j = N := by omega
      subst hj
      exact aw_vret dJ7_fill_53178_20 rfl (Nat.zero_le _) (Nat.zero_le _) (Nat.zero_le _) (Nat.zero_le _) ⟨rfl, rfl, rfl⟩
    | succ i ih =>
      intro j h1 hj e; subst e
      refine aw_iload_n dJ7_fill_53178_5 rfl ?_
      refine aw_iload_n dJ7_fill_53178_6 rfl ?_
      refine aw_icmp_ge (tgt := 20) dJ7_fill_53178_7 (by decide) (fun c => absurd c (nI_ge (by omega) (by omega))) (fun c => ?_)
      refine aw_aload_n dJ7_fill_53178_10 rfl ?_
      refine aw_iload_n dJ7_fill_53178_11 rfl ?_
      refine aw_iload_n dJ7_fill_53178_12 rfl ?_
      refine aw_iast dJ7_fill_53178_13 (va_up_self _ _ _) (vp_in_nI (by omega) (by omega)) ?_
      refine aw_iinc (v := nI (j + 1)) (lv2 := [(2, _), (3, _), (0, _), (1, _)]) dJ7_fill_53178_14 rfl (inc1 j) (by decide) rfl ?_
      refine aw_goto (tgt := 5) dJ7_fill_53178_17 (by decide) ?_
      refine aw_lv _ (List.forall_mem_cons.mpr ⟨rfl, List.forall_mem_cons.mpr ⟨rfl, List.forall_mem_cons.mpr ⟨rfl, List.forall_mem_cons.mpr ⟨rfl, fun _ h => absurd h List.not_mem_nil⟩⟩⟩⟩) (ih (j + 1) _ (by omega) ?_)
      rw [va_up_up, nI_clamp (by omega), fillN_s]
  refine aw_iconst (v := 0) dJ7_fill_53178_0 (by decide) ?_
  refine aw_istore_n (lv2 := [(2, _), (0, _), (1, _)]) dJ7_fill_53178_1 (by decide) rfl ?_
  refine aw_aload_n dJ7_fill_53178_2 rfl ?_
  refine aw_alen (v := nI N) dJ7_fill_53178_3 hq rfl ?_
  refine aw_istore_n (lv2 := [(3, _), (2, _), (0, _), (1, _)]) dJ7_fill_53178_4 (by decide) rfl ?_
  have q0 := loop N 0 h (by omega) (by rw [fillN_0]; exact (va_up_same hq).symm)
  rw [nI_0] at q0
  exact q0
