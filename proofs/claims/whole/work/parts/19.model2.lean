/-- a number of i bytes from p on, the lowest first; the highest first -/
def lowA (f : Nat → Int32) (p : Nat) : Nat → Int64 → Int64
  | 0, v => v
  | i + 1, v => lowA f p i (256 * v + (f (p + i) &&& 255).toInt64)
def topA (f : Nat → Int32) (p k : Nat) : Nat → Int64 → Int64
  | 0, v => v
  | i + 1, v => topA f p k i (256 * v + (f (p + (k - (i + 1))) &&& 255).toInt64)
theorem sub1 (k : Nat) : nI k - 1 = nI k + Int32.ofInt (-1) := by rw [Int32.sub_eq_add_neg]; rfl
theorem dec1 (i : Nat) : nI (i + 1) + Int32.ofInt (-1) = nI i := by rw [show Int32.ofInt (-1) = (-1 : Int32) from by decide, pk_m1]
set_option maxHeartbeats 200000 in
set_option maxRecDepth 100000 in
theorem kX11_low (h : aH) (n S : Nat) (g f : Nat → Int32) (hM : h 31 = oM (.ref S) g) (hs : h S = oBytes f) (p k : Nat) (hk : k ≤ 8) (hp : p + k ≤ 65536) : AM mX11_low 2 [.ref 31, .int (nI p), .int (nI k)] h n 0 0 0 0 (isV (.long (lowA f p k 0)) h n) noX := by
  refine aw_of (by decide +kernel) rfl (Nat.le_of_ble_eq_true rfl) ?_
  have loop : ∀ (i : Nat) (v : Int64), i ≤ k → AW (fun _ _ => True) mX11_low (rmD 2 0 0) 0 0 (isV (.long (lowA f p i v)) h n) noX 0 0 7 [(5, .int (nI i + Int32.ofInt (-1))), (3, .long v), (0, .ref 31), (1, .int (nI p)), (2, .int (nI k))] [] h n := by
    intro i
    induction i with
    | zero =>
      intro v hi
      refine aw_iload dX11_low_7 rfl ?_
      refine aw_if_lt (tgt := 34) dX11_low_9 (by decide) (fun c9 => ?_) (fun c9 => ?_)
      · refine aw_lload_n dX11_low_34 rfl ?_
        exact aw_lret dX11_low_35 rfl (Nat.zero_le _) (Nat.zero_le _) (Nat.zero_le _) (Nat.zero_le _) ⟨rfl, rfl, rfl⟩
      · exact absurd (by decide) c9
    | succ i ih =>
      intro v hi
      rw [dec1]
      refine aw_iload dX11_low_7 rfl ?_
      refine aw_if_lt (tgt := 34) dX11_low_9 (by decide) (fun c9 => ?_) (fun c9 => ?_)
      · exact absurd c9 (nI_pos (by omega))
      · refine aw_ldc2 dX11_low_12 kcX11_97 ?_
        refine aw_lload_n dX11_low_15 rfl ?_
        refine aw_lmul dX11_low_16 ?_
        refine aw_aload_n dX11_low_17 rfl ?_
        refine aw_iload_n dX11_low_18 rfl ?_
        refine aw_iload dX11_low_19 rfl ?_
        refine aw_iadd dX11_low_21 ?_
        refine aw_callV dX11_low_22 hM cvX11_99 rfl (kX11_b h n S g f hM hs _ (by rw [nI_add]; exact vp_in_nI (by omega) (by decide))) rfl (Nat.le_of_ble_eq_true rfl) (by decide) (by decide) (by decide) (by decide) (fun _ _ _ hf => False.elim hf) (fun r22 h22 n22 hp22 => ?_)
        obtain ⟨rfl, rfl, rfl⟩ := hp22
        refine aw_i2l dX11_low_25 ?_
        refine aw_ladd dX11_low_26 ?_
        refine aw_lstore_n (lv2 := [(3, _), (5, _), (0, _), (1, _), (2, _)]) dX11_low_27 (by decide) rfl ?_
        rw [nI_add, nI_clamp (by omega)]
        refine aw_iinc (lv2 := [(5, _), (3, _), (0, _), (1, _), (2, _)]) dX11_low_28 rfl rfl (by decide) rfl ?_
        refine aw_goto (tgt := 7) dX11_low_31 (by decide) ?_
        exact aw_lv _ (List.forall_mem_cons.mpr ⟨rfl, List.forall_mem_cons.mpr ⟨rfl, List.forall_mem_cons.mpr ⟨rfl, List.forall_mem_cons.mpr ⟨rfl, List.forall_mem_cons.mpr ⟨rfl, fun _ h => absurd h List.not_mem_nil⟩⟩⟩⟩⟩) (ih _ (by omega))
  refine aw_lconst (v := 0) dX11_low_0 (by decide) ?_
  refine aw_lstore_n (lv2 := [(3, _), (0, _), (1, _), (2, _)]) dX11_low_1 (by decide) rfl ?_
  refine aw_iload_n dX11_low_2 rfl ?_
  refine aw_iconst (v := 1) dX11_low_3 (by decide) ?_
  refine aw_isub dX11_low_4 ?_
  refine aw_istore (lv2 := [(5, _), (3, _), (0, _), (1, _), (2, _)]) dX11_low_5 (by decide) rfl ?_
  rw [sub1]
  exact loop k 0 (Nat.le_refl k)
