/-- the reference's fields: where src points, and its ints by their places -/
def mF (sv : Value) (g : Nat → Int32) : List Value := [.ref 32, .int (g 1), .ref 33, .int (g 3), .int (g 4), .ref 34, .ref 35, .ref 36, .int (g 8), sv, .int (g 10), .int (g 11), .int (g 12), .int (g 13), .ref 37, .int (g 15), .int (g 16), .int (g 17), .int (g 18), .int (g 19), .int (g 20), .int (g 21), .int (g 22), .int (g 23), .int (g 24), .ref 38, .ref 39, .ref 40, .ref 41, .ref 42, .int (g 30)]
abbrev oM (sv : Value) (g : Nat → Int32) : Option ao := some (.inr (10, mF sv g))
/-- the reference has said what is wrong, and where -/
def wrg (g : Nat → Int32) (k p : Int32) : Nat → Int32 := upd (upd g 12 k) 13 p
def mWant (g : Nat → Int32) (k : Int32) : Prop := g 11 + k ≤ g 10
set_option maxHeartbeats 200000 in
set_option maxRecDepth 100000 in
theorem kX11_thrown (h : aH) (n : Nat) (sv : Value) (g : Nat → Int32) (hM : h 31 = oM sv g) : AM mX11_thrown 1 [.ref 31] h n 0 0 0 0 (isV (.int (g 8)) h n) (noX) := by
  refine aw_of (by decide +kernel) rfl (Nat.le_of_ble_eq_true rfl) ?_
  refine aw_aload_n dX11_thrown_0 rfl ?_
  refine aw_getf dX11_thrown_1 flX11_61_10 hM rfl ?_
  exact aw_iret dX11_thrown_4 rfl (Nat.zero_le _) (Nat.zero_le _) (Nat.zero_le _) (Nat.zero_le _) ⟨rfl, rfl, rfl⟩
set_option maxHeartbeats 200000 in
set_option maxRecDepth 100000 in
theorem kX11_place (h : aH) (n : Nat) (sv : Value) (g : Nat → Int32) (hM : h 31 = oM sv g) : AM mX11_place 1 [.ref 31] h n 0 0 0 0 (fun r h2 n2 => r = some (.int (g 24)) ∧ h2 = va_up h 31 (oM sv (upd g 8 0)) ∧ n = n2) (noX) := by
  refine aw_of (by decide +kernel) rfl (Nat.le_of_ble_eq_true rfl) ?_
  refine aw_aload_n dX11_place_0 rfl ?_
  refine aw_iconst (v := 0) dX11_place_1 (by decide) ?_
  refine aw_putf dX11_place_2 ptX11_61_10  hM (Nat.le_of_ble_eq_true rfl) ⟨rfl, rfl⟩ ?_
  refine aw_aload_n dX11_place_5 rfl ?_
  refine aw_getf dX11_place_6 flX11_43_10 (va_up_self _ _ _) rfl ?_
  exact aw_iret dX11_place_9 rfl (Nat.zero_le _) (Nat.zero_le _) (Nat.zero_le _) (Nat.zero_le _) ⟨rfl, rfl, rfl⟩
set_option maxHeartbeats 200000 in
set_option maxRecDepth 100000 in
theorem kX11_wrong (h : aH) (n : Nat) (sv : Value) (g : Nat → Int32) (hM : h 31 = oM sv g) (k p : Int32) : AM mX11_wrong 1 [.ref 31, .int k, .int p] h n 0 0 0 0 (fun r h2 n2 => r = some (.int 0) ∧ h2 = va_up h 31 (oM sv (wrg g k p)) ∧ n = n2) (noX) := by
  refine aw_of (by decide +kernel) rfl (Nat.le_of_ble_eq_true rfl) ?_
  refine aw_aload_n dX11_wrong_0 rfl ?_
  refine aw_iload_n dX11_wrong_1 rfl ?_
  refine aw_putf dX11_wrong_2 ptX11_78_10  hM (Nat.le_of_ble_eq_true rfl) ⟨rfl, rfl⟩ ?_
  refine aw_aload_n dX11_wrong_5 rfl ?_
  refine aw_iload_n dX11_wrong_6 rfl ?_
  refine aw_putf dX11_wrong_7 ptX11_81_10  (va_up_self _ _ _) (Nat.le_of_ble_eq_true rfl) ⟨rfl, rfl⟩ ?_
  refine aw_iconst (v := 0) dX11_wrong_10 (by decide) ?_
  exact aw_zret dX11_wrong_11 rfl (by decide) (Nat.zero_le _) (Nat.zero_le _) (Nat.zero_le _) (Nat.zero_le _) ⟨rfl, by rw [va_up_up]; rfl, rfl⟩
set_option maxHeartbeats 200000 in
set_option maxRecDepth 100000 in
theorem kX11_want (h : aH) (n : Nat) (sv : Value) (g : Nat → Int32) (hM : h 31 = oM sv g) (k : Int32) : AM mX11_want 2 [.ref 31, .int k] h n 0 0 0 0 (fun r h2 n2 => r = some (.int (tI (mWant g k))) ∧ h2 = (if g 11 + k ≤ g 10 then h else va_up h 31 (oM sv (wrg g 1 (g 10)))) ∧ n = n2) (noX) := by
  refine aw_of (by decide +kernel) rfl (Nat.le_of_ble_eq_true rfl) ?_
  refine aw_aload_n dX11_want_0 rfl ?_
  refine aw_getf dX11_want_1 flX11_84_10 hM rfl ?_
  refine aw_iload_n dX11_want_4 rfl ?_
  refine aw_iadd dX11_want_5 ?_
  refine aw_aload_n dX11_want_6 rfl ?_
  refine aw_getf dX11_want_7 flX11_87_10 hM rfl ?_
  refine aw_icmp_le (tgt := 25) dX11_want_10 (by decide) (fun c10 => ?_) (fun c10 => ?_)
  · refine aw_iconst (v := 1) dX11_want_25 (by decide) ?_
    refine aw_goto (tgt := 30) dX11_want_26 (by decide) ?_
    exact aw_zret dX11_want_30 rfl (by decide) (Nat.zero_le _) (Nat.zero_le _) (Nat.zero_le _) (Nat.zero_le _) (by first | exact ⟨rT c10, (if_pos c10).symm, rfl⟩ | exact ⟨rF c10, (if_neg c10).symm, rfl⟩)
  · refine aw_aload_n dX11_want_13 rfl ?_
    refine aw_iconst (v := 1) dX11_want_14 (by decide) ?_
    refine aw_aload_n dX11_want_15 rfl ?_
    refine aw_getf dX11_want_16 flX11_87_10 hM rfl ?_
    refine aw_callV dX11_want_19 hM cvX11_90 rfl (kX11_wrong _ n sv g hM 1 (g 10)) rfl (Nat.le_of_ble_eq_true rfl) (by decide) (by decide) (by decide) (by decide) (fun _ _ _ hf => False.elim hf) (fun r19 h19 n19 hp19 => ?_)
    obtain ⟨rfl, rfl, rfl⟩ := hp19
    refine aw_if_eq (tgt := 29) dX11_want_22 (by decide) (fun c22 => ?_) (fun c22 => ?_)
    · refine aw_iconst (v := 0) dX11_want_29 (by decide) ?_
      exact aw_zret dX11_want_30 rfl (by decide) (Nat.zero_le _) (Nat.zero_le _) (Nat.zero_le _) (Nat.zero_le _) (by first | exact ⟨rT c10, (if_pos c10).symm, rfl⟩ | exact ⟨rF c10, (if_neg c10).symm, rfl⟩)
    · exact absurd rfl c22
set_option maxHeartbeats 200000 in
set_option maxRecDepth 100000 in
theorem kX11_closes (h : aH) (n : Nat) (sv : Value) (g : Nat → Int32) (hM : h 31 = oM sv g) : AM mX11_closes 2 [.ref 31] h n 0 0 0 0 (fun r h2 n2 => r = some (.int (tI (g 11 = g 10))) ∧ h2 = (if g 11 = g 10 then h else va_up h 31 (oM sv (wrg g 5 (g 11)))) ∧ n = n2) (noX) := by
  refine aw_of (by decide +kernel) rfl (Nat.le_of_ble_eq_true rfl) ?_
  refine aw_aload_n dX11_closes_0 rfl ?_
  refine aw_getf dX11_closes_1 flX11_84_10 hM rfl ?_
  refine aw_aload_n dX11_closes_4 rfl ?_
  refine aw_getf dX11_closes_5 flX11_87_10 hM rfl ?_
  refine aw_icmp_eq (tgt := 23) dX11_closes_8 (by decide) (fun c8 => ?_) (fun c8 => ?_)
  · refine aw_iconst (v := 1) dX11_closes_23 (by decide) ?_
    refine aw_goto (tgt := 28) dX11_closes_24 (by decide) ?_
    exact aw_zret dX11_closes_28 rfl (by decide) (Nat.zero_le _) (Nat.zero_le _) (Nat.zero_le _) (Nat.zero_le _) (by first | exact ⟨rT c8, (if_pos c8).symm, rfl⟩ | exact ⟨rF c8, (if_neg c8).symm, rfl⟩)
  · refine aw_aload_n dX11_closes_11 rfl ?_
    refine aw_iconst (v := 5) dX11_closes_12 (by decide) ?_
    refine aw_aload_n dX11_closes_13 rfl ?_
    refine aw_getf dX11_closes_14 flX11_84_10 hM rfl ?_
    refine aw_callV dX11_closes_17 hM cvX11_90 rfl (kX11_wrong _ n sv g hM 5 (g 11)) rfl (Nat.le_of_ble_eq_true rfl) (by decide) (by decide) (by decide) (by decide) (fun _ _ _ hf => False.elim hf) (fun r17 h17 n17 hp17 => ?_)
    obtain ⟨rfl, rfl, rfl⟩ := hp17
    refine aw_if_eq (tgt := 27) dX11_closes_20 (by decide) (fun c20 => ?_) (fun c20 => ?_)
    · refine aw_iconst (v := 0) dX11_closes_27 (by decide) ?_
      exact aw_zret dX11_closes_28 rfl (by decide) (Nat.zero_le _) (Nat.zero_le _) (Nat.zero_le _) (Nat.zero_le _) (by first | exact ⟨rT c8, (if_pos c8).symm, rfl⟩ | exact ⟨rF c8, (if_neg c8).symm, rfl⟩)
    · exact absurd rfl c20
set_option maxHeartbeats 200000 in
set_option maxRecDepth 100000 in
theorem kX11_b (h : aH) (n S : Nat) (g f : Nat → Int32) (hM : h 31 = oM (.ref S) g) (hs : h S = oBytes f) (p : Int32) (hp : vp_in p 65536) : AM mX11_b 1 [.ref 31, .int p] h n 0 0 0 0 (isV (.int (f p.toNatClampNeg &&& 255)) h n) (noX) := by
  refine aw_of (by decide +kernel) rfl (Nat.le_of_ble_eq_true rfl) ?_
  refine aw_aload_n dX11_b_0 rfl ?_
  refine aw_getf dX11_b_1 flX11_94_10 hM rfl ?_
  refine aw_iload_n dX11_b_4 rfl ?_
  refine aw_bald dX11_b_5 hs hp ?_
  refine aw_sipush (v := 255) dX11_b_6 (by decide) ?_
  refine aw_iand dX11_b_9 ?_
  exact aw_iret dX11_b_10 rfl (Nat.zero_le _) (Nat.zero_le _) (Nat.zero_le _) (Nat.zero_le _) ⟨rfl, rfl, rfl⟩
set_option maxHeartbeats 200000 in
set_option maxRecDepth 100000 in
theorem kX11_gray (h : aH) (n : Nat) (v : Int32) : AM mX11_gray 2 [.int v] h n 0 0 0 0 (isV (.int (p_gray v)) h n) (noX) := by
  refine aw_of (by decide +kernel) rfl (Nat.le_of_ble_eq_true rfl) ?_
  refine aw_iload_n dX11_gray_0 rfl ?_
  refine aw_iload_n dX11_gray_1 rfl ?_
  refine aw_iload_n dX11_gray_2 rfl ?_
  refine aw_sipush (v := 255) dX11_gray_3 (by decide) ?_
  refine aw_callS dX11_gray_6  csX11_115 rfl (kX11_mix h n v v v 255) rfl (Nat.le_of_ble_eq_true rfl) (by decide) (by decide) (by decide) (by decide) (fun _ _ _ hf => False.elim hf) (fun r6 h6 n6 hp6 => ?_)
  obtain ⟨rfl, rfl, rfl⟩ := hp6
  exact aw_iret dX11_gray_9 rfl (Nat.zero_le _) (Nat.zero_le _) (Nat.zero_le _) (Nat.zero_le _) ⟨rfl, rfl, rfl⟩
def p_more (p r g b : Int32) : Int32 := p_mix (us p 24 + r &&& 255) (((p >>> ((16 : Int32) &&& 31)) &&& 255) + g &&& 255) (((p >>> ((8 : Int32) &&& 31)) &&& 255) + b &&& 255) (p &&& 255)
def p_spot (p : Int32) : Int32 := let z := 3 * us p 24 + 5 * ((p >>> ((16 : Int32) &&& 31)) &&& 255) + 7 * ((p >>> ((8 : Int32) &&& 31)) &&& 255) + 11 * (p &&& 255); z - z / 64 * 64
def Blank (c : Int32) : Prop := (9 ≤ c ∧ c ≤ 13) ∨ c = 32
def p_scaled (v m : Int32) : Int32 := (510 * v + m) / (2 * m)
set_option maxHeartbeats 200000 in
set_option maxRecDepth 100000 in
theorem kX11_more (h : aH) (n : Nat) (p r g b : Int32) : AM mX11_more 2 [.int p, .int r, .int g, .int b] h n 0 0 0 0 (isV (.int (p_more p r g b)) h n) (noX) := by
  refine aw_of (by decide +kernel) rfl (Nat.le_of_ble_eq_true rfl) ?_
  refine aw_iload_n dX11_more_0 rfl ?_
  refine aw_bipush (v := 24) dX11_more_1 (by decide) ?_
  refine aw_iushr dX11_more_3 ?_
  refine aw_iload_n dX11_more_4 rfl ?_
  refine aw_iadd dX11_more_5 ?_
  refine aw_sipush (v := 255) dX11_more_6 (by decide) ?_
  refine aw_iand dX11_more_9 ?_
  refine aw_iload_n dX11_more_10 rfl ?_
  refine aw_bipush (v := 16) dX11_more_11 (by decide) ?_
  refine aw_ishr dX11_more_13 ?_
  refine aw_sipush (v := 255) dX11_more_14 (by decide) ?_
  refine aw_iand dX11_more_17 ?_
  refine aw_iload_n dX11_more_18 rfl ?_
  refine aw_iadd dX11_more_19 ?_
  refine aw_sipush (v := 255) dX11_more_20 (by decide) ?_
  refine aw_iand dX11_more_23 ?_
  refine aw_iload_n dX11_more_24 rfl ?_
  refine aw_bipush (v := 8) dX11_more_25 (by decide) ?_
  refine aw_ishr dX11_more_27 ?_
  refine aw_sipush (v := 255) dX11_more_28 (by decide) ?_
  refine aw_iand dX11_more_31 ?_
  refine aw_iload_n dX11_more_32 rfl ?_
  refine aw_iadd dX11_more_33 ?_
  refine aw_sipush (v := 255) dX11_more_34 (by decide) ?_
  refine aw_iand dX11_more_37 ?_
  refine aw_iload_n dX11_more_38 rfl ?_
  refine aw_sipush (v := 255) dX11_more_39 (by decide) ?_
  refine aw_iand dX11_more_42 ?_
  refine aw_callS dX11_more_43  csX11_115 rfl (kX11_mix h n _ _ _ _) rfl (Nat.le_of_ble_eq_true rfl) (by decide) (by decide) (by decide) (by decide) (fun _ _ _ hf => False.elim hf) (fun r43 h43 n43 hp43 => ?_)
  obtain ⟨rfl, rfl, rfl⟩ := hp43
  exact aw_iret dX11_more_46 rfl (Nat.zero_le _) (Nat.zero_le _) (Nat.zero_le _) (Nat.zero_le _) ⟨rfl, rfl, rfl⟩
set_option maxHeartbeats 200000 in
set_option maxRecDepth 100000 in
theorem kX11_spot (h : aH) (n : Nat) (p : Int32) : AM mX11_spot 1 [.int p] h n 0 0 0 0 (isV (.int (p_spot p)) h n) (noX) := by
  refine aw_of (by decide +kernel) rfl (Nat.le_of_ble_eq_true rfl) ?_
  refine aw_iconst (v := 3) dX11_spot_0 (by decide) ?_
  refine aw_iload_n dX11_spot_1 rfl ?_
  refine aw_bipush (v := 24) dX11_spot_2 (by decide) ?_
  refine aw_iushr dX11_spot_4 ?_
  refine aw_imul dX11_spot_5 ?_
  refine aw_iconst (v := 5) dX11_spot_6 (by decide) ?_
  refine aw_iload_n dX11_spot_7 rfl ?_
  refine aw_bipush (v := 16) dX11_spot_8 (by decide) ?_
  refine aw_ishr dX11_spot_10 ?_
  refine aw_sipush (v := 255) dX11_spot_11 (by decide) ?_
  refine aw_iand dX11_spot_14 ?_
  refine aw_imul dX11_spot_15 ?_
  refine aw_iadd dX11_spot_16 ?_
  refine aw_bipush (v := 7) dX11_spot_17 (by decide) ?_
  refine aw_iload_n dX11_spot_19 rfl ?_
  refine aw_bipush (v := 8) dX11_spot_20 (by decide) ?_
  refine aw_ishr dX11_spot_22 ?_
  refine aw_sipush (v := 255) dX11_spot_23 (by decide) ?_
  refine aw_iand dX11_spot_26 ?_
  refine aw_imul dX11_spot_27 ?_
  refine aw_iadd dX11_spot_28 ?_
  refine aw_bipush (v := 11) dX11_spot_29 (by decide) ?_
  refine aw_iload_n dX11_spot_31 rfl ?_
  refine aw_sipush (v := 255) dX11_spot_32 (by decide) ?_
  refine aw_iand dX11_spot_35 ?_
  refine aw_imul dX11_spot_36 ?_
  refine aw_iadd dX11_spot_37 ?_
  refine aw_bipush (v := 64) dX11_spot_38 (by decide) ?_
  refine aw_irem dX11_spot_40 (by decide) ?_
  exact aw_iret dX11_spot_41 rfl (Nat.zero_le _) (Nat.zero_le _) (Nat.zero_le _) (Nat.zero_le _) ⟨rfl, rfl, rfl⟩
set_option maxHeartbeats 200000 in
set_option maxRecDepth 100000 in
theorem kX11_scaled (h : aH) (n : Nat) (v m : Int32) (hm : ¬ 2 * m = 0) : AM mX11_scaled 1 [.int v, .int m] h n 0 0 0 0 (isV (.int (p_scaled v m)) h n) (noX) := by
  refine aw_of (by decide +kernel) rfl (Nat.le_of_ble_eq_true rfl) ?_
  refine aw_sipush (v := 510) dX11_scaled_0 (by decide) ?_
  refine aw_iload_n dX11_scaled_3 rfl ?_
  refine aw_imul dX11_scaled_4 ?_
  refine aw_iload_n dX11_scaled_5 rfl ?_
  refine aw_iadd dX11_scaled_6 ?_
  refine aw_iconst (v := 2) dX11_scaled_7 (by decide) ?_
  refine aw_iload_n dX11_scaled_8 rfl ?_
  refine aw_imul dX11_scaled_9 ?_
  refine aw_idiv dX11_scaled_10 hm ?_
  exact aw_iret dX11_scaled_11 rfl (Nat.zero_le _) (Nat.zero_le _) (Nat.zero_le _) (Nat.zero_le _) ⟨rfl, rfl, rfl⟩
set_option maxHeartbeats 200000 in
set_option maxRecDepth 100000 in
theorem kX11_isBlank (h : aH) (n : Nat) (q : Nat) (c : Int32) : AM mX11_isBlank 1 [.ref q, .int c] h n 0 0 0 0 (isV (.int (tI (Blank c))) h n) (noX) := by
  refine aw_of (by decide +kernel) rfl (Nat.le_of_ble_eq_true rfl) ?_
  refine aw_iload_n dX11_isBlank_0 rfl ?_
  refine aw_bipush (v := 9) dX11_isBlank_1 (by decide) ?_
  refine aw_icmp_lt (tgt := 12) dX11_isBlank_3 (by decide) (fun c3 => ?_) (fun c3 => ?_)
  · refine aw_iload_n dX11_isBlank_12 rfl ?_
    refine aw_bipush (v := 32) dX11_isBlank_13 (by decide) ?_
    refine aw_icmp_ne (tgt := 22) dX11_isBlank_15 (by decide) (fun c15 => ?_) (fun c15 => ?_)
    · refine aw_iconst (v := 0) dX11_isBlank_22 (by decide) ?_
      exact aw_zret dX11_isBlank_23 rfl (by decide) (Nat.zero_le _) (Nat.zero_le _) (Nat.zero_le _) (Nat.zero_le _) (by first | exact ⟨rT (Or.inr c15), rfl, rfl⟩ | exact ⟨rT (Or.inl ⟨Int32.not_lt.mp c3, c9⟩), rfl, rfl⟩ | exact ⟨rF (fun q => q.elim (fun q => absurd q.1 (Int32.not_le.mpr c3)) (fun q => c15 q)), rfl, rfl⟩ | exact ⟨rF (fun q => q.elim (fun q => c9 q.2) (fun q => c15 q)), rfl, rfl⟩)
    · refine aw_iconst (v := 1) dX11_isBlank_18 (by decide) ?_
      refine aw_goto (tgt := 23) dX11_isBlank_19 (by decide) ?_
      exact aw_zret dX11_isBlank_23 rfl (by decide) (Nat.zero_le _) (Nat.zero_le _) (Nat.zero_le _) (Nat.zero_le _) (by first | exact ⟨rT (Or.inr c15), rfl, rfl⟩ | exact ⟨rT (Or.inl ⟨Int32.not_lt.mp c3, c9⟩), rfl, rfl⟩ | exact ⟨rF (fun q => q.elim (fun q => absurd q.1 (Int32.not_le.mpr c3)) (fun q => c15 q)), rfl, rfl⟩ | exact ⟨rF (fun q => q.elim (fun q => c9 q.2) (fun q => c15 q)), rfl, rfl⟩)
  · refine aw_iload_n dX11_isBlank_6 rfl ?_
    refine aw_bipush (v := 13) dX11_isBlank_7 (by decide) ?_
    refine aw_icmp_le (tgt := 18) dX11_isBlank_9 (by decide) (fun c9 => ?_) (fun c9 => ?_)
    · refine aw_iconst (v := 1) dX11_isBlank_18 (by decide) ?_
      refine aw_goto (tgt := 23) dX11_isBlank_19 (by decide) ?_
      exact aw_zret dX11_isBlank_23 rfl (by decide) (Nat.zero_le _) (Nat.zero_le _) (Nat.zero_le _) (Nat.zero_le _) (by first | exact ⟨rT (Or.inr c15), rfl, rfl⟩ | exact ⟨rT (Or.inl ⟨Int32.not_lt.mp c3, c9⟩), rfl, rfl⟩ | exact ⟨rF (fun q => q.elim (fun q => absurd q.1 (Int32.not_le.mpr c3)) (fun q => c15 q)), rfl, rfl⟩ | exact ⟨rF (fun q => q.elim (fun q => c9 q.2) (fun q => c15 q)), rfl, rfl⟩)
    · refine aw_iload_n dX11_isBlank_12 rfl ?_
      refine aw_bipush (v := 32) dX11_isBlank_13 (by decide) ?_
      refine aw_icmp_ne (tgt := 22) dX11_isBlank_15 (by decide) (fun c15 => ?_) (fun c15 => ?_)
      · refine aw_iconst (v := 0) dX11_isBlank_22 (by decide) ?_
        exact aw_zret dX11_isBlank_23 rfl (by decide) (Nat.zero_le _) (Nat.zero_le _) (Nat.zero_le _) (Nat.zero_le _) (by first | exact ⟨rT (Or.inr c15), rfl, rfl⟩ | exact ⟨rT (Or.inl ⟨Int32.not_lt.mp c3, c9⟩), rfl, rfl⟩ | exact ⟨rF (fun q => q.elim (fun q => absurd q.1 (Int32.not_le.mpr c3)) (fun q => c15 q)), rfl, rfl⟩ | exact ⟨rF (fun q => q.elim (fun q => c9 q.2) (fun q => c15 q)), rfl, rfl⟩)
      · refine aw_iconst (v := 1) dX11_isBlank_18 (by decide) ?_
        refine aw_goto (tgt := 23) dX11_isBlank_19 (by decide) ?_
        exact aw_zret dX11_isBlank_23 rfl (by decide) (Nat.zero_le _) (Nat.zero_le _) (Nat.zero_le _) (Nat.zero_le _) (by first | exact ⟨rT (Or.inr c15), rfl, rfl⟩ | exact ⟨rT (Or.inl ⟨Int32.not_lt.mp c3, c9⟩), rfl, rfl⟩ | exact ⟨rF (fun q => q.elim (fun q => absurd q.1 (Int32.not_le.mpr c3)) (fun q => c15 q)), rfl, rfl⟩ | exact ⟨rF (fun q => q.elim (fun q => c9 q.2) (fun q => c15 q)), rfl, rfl⟩)
set_option maxHeartbeats 200000 in
set_option maxRecDepth 100000 in
theorem kX11_isShelf (h : aH) (n : Nat) (x : Int32) : AM mX11_isShelf 1 [.int x] h n 0 0 0 0 (isV (.int (tI (p_shelf x))) h n) (noX) := by
  refine aw_of (by decide +kernel) rfl (Nat.le_of_ble_eq_true rfl) ?_
  refine aw_iload_n dX11_isShelf_0 rfl ?_
  refine aw_if_lt (tgt := 13) dX11_isShelf_1 (by decide) (fun c1 => ?_) (fun c1 => ?_)
  · refine aw_iconst (v := 0) dX11_isShelf_13 (by decide) ?_
    exact aw_zret dX11_isShelf_14 rfl (by decide) (Nat.zero_le _) (Nat.zero_le _) (Nat.zero_le _) (Nat.zero_le _) (by first | exact ⟨rT ⟨Int32.not_lt.mp c1, Int32.not_le.mp c6⟩, rfl, rfl⟩ | exact ⟨rF (fun q => absurd c1 (Int32.not_lt.mpr q.1)), rfl, rfl⟩ | exact ⟨rF (fun q => absurd c6 (Int32.not_le.mpr q.2)), rfl, rfl⟩)
  · refine aw_iload_n dX11_isShelf_4 rfl ?_
    refine aw_iconst (v := 4) dX11_isShelf_5 (by decide) ?_
    refine aw_icmp_ge (tgt := 13) dX11_isShelf_6 (by decide) (fun c6 => ?_) (fun c6 => ?_)
    · refine aw_iconst (v := 0) dX11_isShelf_13 (by decide) ?_
      exact aw_zret dX11_isShelf_14 rfl (by decide) (Nat.zero_le _) (Nat.zero_le _) (Nat.zero_le _) (Nat.zero_le _) (by first | exact ⟨rT ⟨Int32.not_lt.mp c1, Int32.not_le.mp c6⟩, rfl, rfl⟩ | exact ⟨rF (fun q => absurd c1 (Int32.not_lt.mpr q.1)), rfl, rfl⟩ | exact ⟨rF (fun q => absurd c6 (Int32.not_le.mpr q.2)), rfl, rfl⟩)
    · refine aw_iconst (v := 1) dX11_isShelf_9 (by decide) ?_
      refine aw_goto (tgt := 14) dX11_isShelf_10 (by decide) ?_
      exact aw_zret dX11_isShelf_14 rfl (by decide) (Nat.zero_le _) (Nat.zero_le _) (Nat.zero_le _) (Nat.zero_le _) (by first | exact ⟨rT ⟨Int32.not_lt.mp c1, Int32.not_le.mp c6⟩, rfl, rfl⟩ | exact ⟨rF (fun q => absurd c1 (Int32.not_lt.mpr q.1)), rfl, rfl⟩ | exact ⟨rF (fun q => absurd c6 (Int32.not_le.mpr q.2)), rfl, rfl⟩)
set_option maxHeartbeats 200000 in
set_option maxRecDepth 100000 in
theorem kX10_isShelf (h : aH) (n : Nat) (x : Int32) : AM mX10_isShelf 1 [.int x] h n 0 0 0 0 (isV (.int (tI (p_shelf x))) h n) (noX) := by
  refine aw_of (by decide +kernel) rfl (Nat.le_of_ble_eq_true rfl) ?_
  refine aw_iload_n dX10_isShelf_0 rfl ?_
  refine aw_if_lt (tgt := 13) dX10_isShelf_1 (by decide) (fun c1 => ?_) (fun c1 => ?_)
  · refine aw_iconst (v := 0) dX10_isShelf_13 (by decide) ?_
    exact aw_zret dX10_isShelf_14 rfl (by decide) (Nat.zero_le _) (Nat.zero_le _) (Nat.zero_le _) (Nat.zero_le _) (by first | exact ⟨rT ⟨Int32.not_lt.mp c1, Int32.not_le.mp c6⟩, rfl, rfl⟩ | exact ⟨rF (fun q => absurd c1 (Int32.not_lt.mpr q.1)), rfl, rfl⟩ | exact ⟨rF (fun q => absurd c6 (Int32.not_le.mpr q.2)), rfl, rfl⟩)
  · refine aw_iload_n dX10_isShelf_4 rfl ?_
    refine aw_iconst (v := 4) dX10_isShelf_5 (by decide) ?_
    refine aw_icmp_ge (tgt := 13) dX10_isShelf_6 (by decide) (fun c6 => ?_) (fun c6 => ?_)
    · refine aw_iconst (v := 0) dX10_isShelf_13 (by decide) ?_
      exact aw_zret dX10_isShelf_14 rfl (by decide) (Nat.zero_le _) (Nat.zero_le _) (Nat.zero_le _) (Nat.zero_le _) (by first | exact ⟨rT ⟨Int32.not_lt.mp c1, Int32.not_le.mp c6⟩, rfl, rfl⟩ | exact ⟨rF (fun q => absurd c1 (Int32.not_lt.mpr q.1)), rfl, rfl⟩ | exact ⟨rF (fun q => absurd c6 (Int32.not_le.mpr q.2)), rfl, rfl⟩)
    · refine aw_iconst (v := 1) dX10_isShelf_9 (by decide) ?_
      refine aw_goto (tgt := 14) dX10_isShelf_10 (by decide) ?_
      exact aw_zret dX10_isShelf_14 rfl (by decide) (Nat.zero_le _) (Nat.zero_le _) (Nat.zero_le _) (Nat.zero_le _) (by first | exact ⟨rT ⟨Int32.not_lt.mp c1, Int32.not_le.mp c6⟩, rfl, rfl⟩ | exact ⟨rF (fun q => absurd c1 (Int32.not_lt.mpr q.1)), rfl, rfl⟩ | exact ⟨rF (fun q => absurd c6 (Int32.not_le.mpr q.2)), rfl, rfl⟩)
