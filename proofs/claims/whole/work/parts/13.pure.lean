/-- an end that changes nothing, with answer v -/
def isV (v : Value) (h : aH) (n : Nat) : Option Value → aH → Nat → Prop := fun r h2 n2 => r = some v ∧ h = h2 ∧ n = n2
def noX : String → aH → Nat → Prop := fun _ _ _ => False
def us (x : Int32) (y : Int32) : Int32 := (x.toUInt32 >>> (y.toUInt32 &&& Int32.toUInt32 31)).toInt32
def p_red (p : Int32) : Int32 := us p 24
def p_green (p : Int32) : Int32 := us p 16 &&& 255
def p_blue (p : Int32) : Int32 := us p 8 &&& 255
def p_alpha (p : Int32) : Int32 := p &&& 255
def p_mix (r g b a : Int32) : Int32 := ((r <<< ((24 : Int32) &&& 31)) ||| (g <<< ((16 : Int32) &&& 31)) ||| (b <<< ((8 : Int32) &&& 31))) ||| a
def p_gray (v : Int32) : Int32 := p_mix v v v 255
def p_five (v : Int32) : Int32 := (510 * v + 31) / 62
def p_six (v a : Int32) : Int32 := p_mix (p_five ((v >>> ((10 : Int32) &&& 31)) &&& 31)) (p_five ((v >>> ((5 : Int32) &&& 31)) &&& 31)) (p_five (v &&& 31)) a
def p_shelf (x : Int32) : Prop := 0 ≤ x ∧ x < 4
def bI (b : Prop) [Decidable b] : Int32 := if b then 1 else 0
theorem bI_t {b : Prop} [Decidable b] (h : b) : bI b = 1 := if_pos h
theorem bI_f {b : Prop} [Decidable b] (h : ¬ b) : bI b = 0 := if_neg h
theorem bI_nar (b : Prop) [Decidable b] : narrow .boolean (.int (bI b)) = .int (bI b) := by unfold bI; split <;> decide
set_option maxHeartbeats 4000000 in
set_option maxRecDepth 100000 in
theorem kX10_redOf (h : aH) (n : Nat) (p : Int32) : AM mX10_redOf 1 [.int p] h n 0 0 0 0 (isV (.int (p_red p)) h n) noX := by
  refine aw_of (by decide +kernel) rfl (Nat.le_of_ble_eq_true rfl) ?_
  refine aw_iload_n dX10_redOf_0 rfl ?_
  refine aw_bipush (v := 24) dX10_redOf_1 (by decide) ?_
  refine aw_iushr dX10_redOf_3 ?_
  exact aw_iret dX10_redOf_4 rfl (Nat.zero_le _) (Nat.zero_le _) (Nat.zero_le _) (Nat.zero_le _) ⟨rfl, rfl, rfl⟩
set_option maxHeartbeats 4000000 in
set_option maxRecDepth 100000 in
theorem kX10_greenOf (h : aH) (n : Nat) (p : Int32) : AM mX10_greenOf 1 [.int p] h n 0 0 0 0 (isV (.int (p_green p)) h n) noX := by
  refine aw_of (by decide +kernel) rfl (Nat.le_of_ble_eq_true rfl) ?_
  refine aw_iload_n dX10_greenOf_0 rfl ?_
  refine aw_bipush (v := 16) dX10_greenOf_1 (by decide) ?_
  refine aw_iushr dX10_greenOf_3 ?_
  refine aw_sipush (v := 255) dX10_greenOf_4 (by decide) ?_
  refine aw_iand dX10_greenOf_7 ?_
  exact aw_iret dX10_greenOf_8 rfl (Nat.zero_le _) (Nat.zero_le _) (Nat.zero_le _) (Nat.zero_le _) ⟨rfl, rfl, rfl⟩
set_option maxHeartbeats 4000000 in
set_option maxRecDepth 100000 in
theorem kX10_blueOf (h : aH) (n : Nat) (p : Int32) : AM mX10_blueOf 1 [.int p] h n 0 0 0 0 (isV (.int (p_blue p)) h n) noX := by
  refine aw_of (by decide +kernel) rfl (Nat.le_of_ble_eq_true rfl) ?_
  refine aw_iload_n dX10_blueOf_0 rfl ?_
  refine aw_bipush (v := 8) dX10_blueOf_1 (by decide) ?_
  refine aw_iushr dX10_blueOf_3 ?_
  refine aw_sipush (v := 255) dX10_blueOf_4 (by decide) ?_
  refine aw_iand dX10_blueOf_7 ?_
  exact aw_iret dX10_blueOf_8 rfl (Nat.zero_le _) (Nat.zero_le _) (Nat.zero_le _) (Nat.zero_le _) ⟨rfl, rfl, rfl⟩
set_option maxHeartbeats 4000000 in
set_option maxRecDepth 100000 in
theorem kX10_alphaOf (h : aH) (n : Nat) (p : Int32) : AM mX10_alphaOf 1 [.int p] h n 0 0 0 0 (isV (.int (p_alpha p)) h n) noX := by
  refine aw_of (by decide +kernel) rfl (Nat.le_of_ble_eq_true rfl) ?_
  refine aw_iload_n dX10_alphaOf_0 rfl ?_
  refine aw_sipush (v := 255) dX10_alphaOf_1 (by decide) ?_
  refine aw_iand dX10_alphaOf_4 ?_
  exact aw_iret dX10_alphaOf_5 rfl (Nat.zero_le _) (Nat.zero_le _) (Nat.zero_le _) (Nat.zero_le _) ⟨rfl, rfl, rfl⟩
set_option maxHeartbeats 4000000 in
set_option maxRecDepth 100000 in
theorem kX10_pixelOf (h : aH) (n : Nat) (r : Int32) (g : Int32) (b : Int32) (a : Int32) : AM mX10_pixelOf 1 [.int r, .int g, .int b, .int a] h n 0 0 0 0 (isV (.int (p_mix r g b a)) h n) noX := by
  refine aw_of (by decide +kernel) rfl (Nat.le_of_ble_eq_true rfl) ?_
  refine aw_iload_n dX10_pixelOf_0 rfl ?_
  refine aw_bipush (v := 24) dX10_pixelOf_1 (by decide) ?_
  refine aw_ishl dX10_pixelOf_3 ?_
  refine aw_iload_n dX10_pixelOf_4 rfl ?_
  refine aw_bipush (v := 16) dX10_pixelOf_5 (by decide) ?_
  refine aw_ishl dX10_pixelOf_7 ?_
  refine aw_ior dX10_pixelOf_8 ?_
  refine aw_iload_n dX10_pixelOf_9 rfl ?_
  refine aw_bipush (v := 8) dX10_pixelOf_10 (by decide) ?_
  refine aw_ishl dX10_pixelOf_12 ?_
  refine aw_ior dX10_pixelOf_13 ?_
  refine aw_iload_n dX10_pixelOf_14 rfl ?_
  refine aw_ior dX10_pixelOf_15 ?_
  exact aw_iret dX10_pixelOf_16 rfl (Nat.zero_le _) (Nat.zero_le _) (Nat.zero_le _) (Nat.zero_le _) ⟨rfl, rfl, rfl⟩
set_option maxHeartbeats 4000000 in
set_option maxRecDepth 100000 in
theorem kX10_ofFiveBits (h : aH) (n : Nat) (v : Int32) : AM mX10_ofFiveBits 1 [.int v] h n 0 0 0 0 (isV (.int (p_five v)) h n) noX := by
  refine aw_of (by decide +kernel) rfl (Nat.le_of_ble_eq_true rfl) ?_
  refine aw_sipush (v := 510) dX10_ofFiveBits_0 (by decide) ?_
  refine aw_iload_n dX10_ofFiveBits_3 rfl ?_
  refine aw_imul dX10_ofFiveBits_4 ?_
  refine aw_bipush (v := 31) dX10_ofFiveBits_5 (by decide) ?_
  refine aw_iadd dX10_ofFiveBits_7 ?_
  refine aw_bipush (v := 62) dX10_ofFiveBits_8 (by decide) ?_
  refine aw_idiv dX10_ofFiveBits_10 (by decide) ?_
  exact aw_iret dX10_ofFiveBits_11 rfl (Nat.zero_le _) (Nat.zero_le _) (Nat.zero_le _) (Nat.zero_le _) ⟨rfl, rfl, rfl⟩
set_option maxHeartbeats 4000000 in
set_option maxRecDepth 100000 in
theorem kX11_mix (h : aH) (n : Nat) (r : Int32) (g : Int32) (b : Int32) (a : Int32) : AM mX11_mix 1 [.int r, .int g, .int b, .int a] h n 0 0 0 0 (isV (.int (p_mix r g b a)) h n) noX := by
  refine aw_of (by decide +kernel) rfl (Nat.le_of_ble_eq_true rfl) ?_
  refine aw_iload_n dX11_mix_0 rfl ?_
  refine aw_bipush (v := 24) dX11_mix_1 (by decide) ?_
  refine aw_ishl dX11_mix_3 ?_
  refine aw_iload_n dX11_mix_4 rfl ?_
  refine aw_bipush (v := 16) dX11_mix_5 (by decide) ?_
  refine aw_ishl dX11_mix_7 ?_
  refine aw_ior dX11_mix_8 ?_
  refine aw_iload_n dX11_mix_9 rfl ?_
  refine aw_bipush (v := 8) dX11_mix_10 (by decide) ?_
  refine aw_ishl dX11_mix_12 ?_
  refine aw_ior dX11_mix_13 ?_
  refine aw_iload_n dX11_mix_14 rfl ?_
  refine aw_ior dX11_mix_15 ?_
  exact aw_iret dX11_mix_16 rfl (Nat.zero_le _) (Nat.zero_le _) (Nat.zero_le _) (Nat.zero_le _) ⟨rfl, rfl, rfl⟩
set_option maxHeartbeats 4000000 in
set_option maxRecDepth 100000 in
theorem kX11_fifth (h : aH) (n : Nat) (v : Int32) : AM mX11_fifth 1 [.int v] h n 0 0 0 0 (isV (.int (p_five v)) h n) noX := by
  refine aw_of (by decide +kernel) rfl (Nat.le_of_ble_eq_true rfl) ?_
  refine aw_sipush (v := 510) dX11_fifth_0 (by decide) ?_
  refine aw_iload_n dX11_fifth_3 rfl ?_
  refine aw_imul dX11_fifth_4 ?_
  refine aw_bipush (v := 31) dX11_fifth_5 (by decide) ?_
  refine aw_iadd dX11_fifth_7 ?_
  refine aw_bipush (v := 62) dX11_fifth_8 (by decide) ?_
  refine aw_idiv dX11_fifth_10 (by decide) ?_
  exact aw_iret dX11_fifth_11 rfl (Nat.zero_le _) (Nat.zero_le _) (Nat.zero_le _) (Nat.zero_le _) ⟨rfl, rfl, rfl⟩
set_option maxHeartbeats 4000000 in
set_option maxRecDepth 100000 in
theorem kX10_grayOf (h : aH) (n : Nat) (v : Int32) : AM mX10_grayOf 2 [.int v] h n 0 0 0 0 (isV (.int (p_gray v)) h n) noX := by
  refine aw_of (by decide +kernel) rfl (Nat.le_of_ble_eq_true rfl) ?_
  refine aw_iload_n dX10_grayOf_0 rfl ?_
  refine aw_iload_n dX10_grayOf_1 rfl ?_
  refine aw_iload_n dX10_grayOf_2 rfl ?_
  refine aw_sipush (v := 255) dX10_grayOf_3 (by decide) ?_
  refine aw_callS dX10_grayOf_6  csX10_230 rfl (kX10_pixelOf h n v v v 255) rfl (Nat.le_of_ble_eq_true rfl) (by decide) (by decide) (by decide) (by decide) (fun _ _ _ hf => False.elim hf) (fun r6 h6 n6 hp6 => ?_)
  obtain ⟨rfl, rfl, rfl⟩ := hp6
  exact aw_iret dX10_grayOf_9 rfl (Nat.zero_le _) (Nat.zero_le _) (Nat.zero_le _) (Nat.zero_le _) ⟨rfl, rfl, rfl⟩
