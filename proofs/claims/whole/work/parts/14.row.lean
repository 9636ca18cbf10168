theorem vp_of {i : Int32} (N : Int32) {n : Nat} (hN : N.toInt = n) (h0 : ¬ i < 0) (h1 : ¬ N ≤ i) : vp_in i n := by
  rw [vp_in_iff]
  rw [Int32.lt_iff_toInt_lt, Int32.toInt_zero] at h0
  rw [Int32.le_iff_toInt_le, hN] at h1
  omega
theorem va_up_same {α : Type} {f : Nat → α} {k : Nat} {x : α} (h : f k = x) : va_up f k x = f := by
  funext j
  unfold va_up
  split
  · rename_i e; rw [e, h]
  · rfl
theorem va_up_up {α : Type} (f : Nat → α) (k : Nat) (x y : α) : va_up (va_up f k x) k y = va_up f k y := by
  funext j
  unfold va_up
  split <;> rfl
theorem va_up_comm {α : Type} (f : Nat → α) {k j : Nat} (hkj : k ≠ j) (x y : α) : va_up (va_up f k x) j y = va_up (va_up f j y) k x := by
  funext i
  unfold va_up
  by_cases h1 : i = j
  · subst h1; rw [if_pos rfl, if_neg (fun e => hkj e.symm), if_pos rfl]
  · rw [if_neg h1]
    split
    · rfl
    · rfl
/-- a byte as it is kept -/
def b8 (x : Int32) : Int32 := vp_nar .byte (x.toInt8.toInt32)
theorem b8_eq (x : Int32) : b8 x = x.toInt8.toInt32 := by unfold b8; rw [vp_nar_byte]; rw [Int8.toInt8_toInt32]
abbrev oBytes (f : Nat → Int32) : Option ao := some (.inl (.byte, 65536, .inl f))
abbrev oRow (a k : Nat) : Option ao := some (.inr (1, [.ref a, .int (nI k)]))
/-- a ByteRow, object o with its cells a: k bytes, f -/
def brSet (h : aH) (o a k : Nat) (f : Nat → Int32) : aH := va_up (va_up h a (oBytes f)) o (oRow a k)
theorem brSet_o {h : aH} {o a k : Nat} {f : Nat → Int32} : brSet h o a k f o = oRow a k := va_up_self _ _ _
theorem brSet_a {h : aH} {o a k : Nat} {f : Nat → Int32} (hn : a ≠ o) : brSet h o a k f a = oBytes f := (va_up_ne _ _ hn).trans (va_up_self _ _ _)
theorem brSet_ne {h : aH} {o a k q : Nat} {f : Nat → Int32} (h1 : q ≠ o) (h2 : q ≠ a) : brSet h o a k f q = h q := (va_up_ne _ _ h1).trans (va_up_ne _ _ h2)
theorem brSet_set {h : aH} {o a k k2 : Nat} {f f2 : Nat → Int32} : brSet (brSet h o a k f) o a k2 f2 = brSet h o a k2 f2 := by
  funext j
  unfold brSet va_up
  split
  · rfl
  · split <;> rfl
theorem brSet_id {h : aH} {o a k : Nat} {f : Nat → Int32} (ho : h o = oRow a k) (ha : h a = oBytes f) : brSet h o a k f = h := by
  unfold brSet
  rw [va_up_same (f := h) ha, va_up_same ho]
theorem row_ne {h : aH} {o a k : Nat} {f : Nat → Int32} (ho : h o = oRow a k) (ha : h a = oBytes f) : a ≠ o := fun e => by
  rw [e, ho] at ha
  cases ha
/-- bytes laid from k on -/
def putL (f : Nat → Int32) (k : Nat) : List Int32 → Nat → Int32
  | [] => f
  | b :: l => putL (upd f k (b8 b)) (k + 1) l
def brAt (f : Nat → Int32) (k : Nat) (i : Int32) : Int32 := if i < 0 then -1 else if nI k ≤ i then -1 else f i.toNatClampNeg &&& 255
section AWR
variable {X : State → (Nat → Prop) → Prop} {M : aM} {R : Room} {gc gs k j pc n : Nat} {Po Po1 : Option Value → aH → Nat → Prop} {PX PX1 : String → aH → Nat → Prop} {lv : List (Nat × Value)} {st : List Value} {h : aH}
/-- a stronger end -/
theorem aw_mono (hp : ∀ r h n, Po1 r h n → Po r h n) (hx : ∀ E h n, PX1 E h n → PX E h n) (kk : AW X M R gc gs Po1 PX1 k j pc lv st h n) : AW X M R gc gs Po PX k j pc lv st h n := by
  intro p l e s m args below meth c A D ws0 C hX H locs ws tys ls lv' st' hK hP hD hS hR hn he hl hls hst T hT Y
  obtain ⟨t, a1, o, b1, b2, b3⟩ := kk p l e s m args below meth c A D ws0 C hX H locs ws tys ls lv' st' hK hP hD hS hR hn he hl hls hst T hT Y
  refine ⟨t, a1, o, b1, b2, ?_⟩
  rcases b3 with ⟨⟨hg, ⟨r, r', h, ws, tys, e1, q1, q2⟩, hF⟩, hL⟩ | ⟨q, ho, E, ce, L, ⟨⟨h, ws, tys, q1, q2⟩, hF⟩, q3⟩
  · exact Or.inl ⟨⟨hg, ⟨r, r', h, ws, tys, e1, hp _ _ _ q1, q2⟩, hF⟩, hL⟩
  · exact Or.inr ⟨q, ho, E, ce, L, ⟨⟨h, ws, tys, hx _ _ _ q1, q2⟩, hF⟩, q3⟩
end AWR
theorem vp_lt {k : Nat} (hk : k ≤ 65536) {i : Int32} (h0 : ¬ i < 0) (h1 : ¬ nI k ≤ i) : vp_in i 65536 := by
  rw [vp_in_iff]
  rw [Int32.lt_iff_toInt_lt, Int32.toInt_zero] at h0
  rw [Int32.le_iff_toInt_le, nI_toInt (by omega)] at h1
  omega
set_option maxHeartbeats 200000 in
set_option maxRecDepth 100000 in
theorem kX1_at (h : aH) (n o a k : Nat) (f : Nat → Int32) (ho : h o = oRow a k) (ha : h a = oBytes f) (i : Int32) (hk : k ≤ 65536) : AM mX1_at 1 [.ref o, .int i] h n 0 0 0 0 (isV (.int (brAt f k i)) h n) (noX) := by
  refine aw_of (by decide +kernel) rfl (Nat.le_of_ble_eq_true rfl) ?_
  refine aw_iload_n dX1_at_0 rfl ?_
  refine aw_if_lt (tgt := 25) dX1_at_1 (by decide) (fun c1 => ?_) (fun c1 => ?_)
  · refine aw_iconst (v := (-1)) dX1_at_25 (by decide) ?_
    exact aw_iret dX1_at_26 rfl (Nat.zero_le _) (Nat.zero_le _) (Nat.zero_le _) (Nat.zero_le _) ⟨by unfold brAt; first | (rw [if_pos c1]; done) | (rw [if_neg c1, if_pos c9]; done) | (rw [if_neg c1, if_neg c9]; done), rfl, rfl⟩
  · refine aw_iload_n dX1_at_4 rfl ?_
    refine aw_aload_n dX1_at_5 rfl ?_
    refine aw_getf dX1_at_6 flX1_16_1 ho rfl ?_
    refine aw_icmp_ge (tgt := 25) dX1_at_9 (by decide) (fun c9 => ?_) (fun c9 => ?_)
    · refine aw_iconst (v := (-1)) dX1_at_25 (by decide) ?_
      exact aw_iret dX1_at_26 rfl (Nat.zero_le _) (Nat.zero_le _) (Nat.zero_le _) (Nat.zero_le _) ⟨by unfold brAt; first | (rw [if_pos c1]; done) | (rw [if_neg c1, if_pos c9]; done) | (rw [if_neg c1, if_neg c9]; done), rfl, rfl⟩
    · refine aw_aload_n dX1_at_12 rfl ?_
      refine aw_getf dX1_at_13 flX1_10_1 ho rfl ?_
      refine aw_iload_n dX1_at_16 rfl ?_
      refine aw_bald dX1_at_17 ha (vp_lt hk c1 c9) ?_
      refine aw_sipush (v := 255) dX1_at_18 (by decide) ?_
      refine aw_iand dX1_at_21 ?_
      refine aw_goto (tgt := 26) dX1_at_22 (by decide) ?_
      exact aw_iret dX1_at_26 rfl (Nat.zero_le _) (Nat.zero_le _) (Nat.zero_le _) (Nat.zero_le _) ⟨by unfold brAt; first | (rw [if_pos c1]; done) | (rw [if_neg c1, if_pos c9]; done) | (rw [if_neg c1, if_neg c9]; done), rfl, rfl⟩
set_option maxHeartbeats 200000 in
set_option maxRecDepth 100000 in
theorem kX1_add (h : aH) (n o a k : Nat) (f : Nat → Int32) (ho : h o = oRow a k) (ha : h a = oBytes f) (b : Int32) (hk : k < 65536) : AM mX1_add 1 [.ref o, .int b] h n 0 0 0 0 (fun r h2 n2 => r = none ∧ h2 = brSet h o a (k + 1) (putL f k [b]) ∧ n = n2) (noX) := by
  have nao : a ≠ o := row_ne ho ha
  have noa : o ≠ a := fun e => nao e.symm
  refine aw_of (by decide +kernel) rfl (Nat.le_of_ble_eq_true rfl) ?_
  refine aw_aload_n dX1_add_0 rfl ?_
  refine aw_getf dX1_add_1 flX1_16_1 ho rfl ?_
  refine aw_ldc dX1_add_4 kcX1_9 ?_
  refine aw_icmp_ge (tgt := 30) dX1_add_6 (by decide) (fun c6 => ?_) (fun c6 => ?_)
  · exact absurd c6 (nI_ge hk (by decide))
  · refine aw_aload_n dX1_add_9 rfl ?_
    refine aw_getf dX1_add_10 flX1_10_1 ho rfl ?_
    refine aw_aload_n dX1_add_13 rfl ?_
    refine aw_getf dX1_add_14 flX1_16_1 ho rfl ?_
    refine aw_iload_n dX1_add_17 rfl ?_
    refine aw_i2b dX1_add_18 ?_
    refine aw_bast dX1_add_19 ha (vp_in_nI hk (by decide)) ?_
    refine aw_aload_n dX1_add_20 rfl ?_
    refine aw_dup dX1_add_21 rfl ?_
    refine aw_getf dX1_add_22 flX1_16_1 ((va_up_ne _ _ noa).trans ho) rfl ?_
    refine aw_iconst (v := 1) dX1_add_25 (by decide) ?_
    refine aw_iadd dX1_add_26 ?_
    refine aw_putf dX1_add_27 ptX1_16_1  ((va_up_ne _ _ noa).trans ho) (Nat.le_of_ble_eq_true rfl) ⟨rfl, rfl⟩ ?_
    exact aw_vret dX1_add_30 rfl (Nat.zero_le _) (Nat.zero_le _) (Nat.zero_le _) (Nat.zero_le _) ⟨rfl, by rw [nI_clamp (by omega), nI_1]; rfl, rfl⟩
set_option maxHeartbeats 200000 in
set_option maxRecDepth 100000 in
theorem kX1_addLow2 (h : aH) (n o a k : Nat) (f : Nat → Int32) (ho : h o = oRow a k) (ha : h a = oBytes f) (v : Int32) (hk : k + 2 ≤ 65536) : AM mX1_addLow2 2 [.ref o, .int v] h n 0 0 0 0 (fun r h2 n2 => r = none ∧ h2 = brSet h o a (k + 2) (putL f k [v, v >>> ((8 : Int32) &&& 31)]) ∧ n = n2) (noX) := by
  have nao : a ≠ o := row_ne ho ha
  have noa : o ≠ a := fun e => nao e.symm
  refine aw_of (by decide +kernel) rfl (Nat.le_of_ble_eq_true rfl) ?_
  refine aw_aload_n dX1_addLow2_0 rfl ?_
  refine aw_iload_n dX1_addLow2_1 rfl ?_
  refine aw_callV dX1_addLow2_2 ho cvX1_20 rfl (kX1_add _ _ o a (k + 0) _ (by first | exact ho | exact brSet_o) (by first | exact ha | exact brSet_a nao) _ (by omega)) rfl (Nat.le_of_ble_eq_true rfl) (by decide) (by decide) (by decide) (by decide) (fun _ _ _ hf => False.elim hf) (fun r2 h2 n2 hp2 => ?_)
  obtain ⟨rfl, rfl, rfl⟩ := hp2
  refine aw_aload_n dX1_addLow2_5 rfl ?_
  refine aw_iload_n dX1_addLow2_6 rfl ?_
  refine aw_bipush (v := 8) dX1_addLow2_7 (by decide) ?_
  refine aw_ishr dX1_addLow2_9 ?_
  refine aw_callV dX1_addLow2_10 brSet_o cvX1_20 rfl (kX1_add _ _ o a (k + 1) _ (by first | exact ho | exact brSet_o) (by first | exact ha | exact brSet_a nao) _ (by omega)) rfl (Nat.le_of_ble_eq_true rfl) (by decide) (by decide) (by decide) (by decide) (fun _ _ _ hf => False.elim hf) (fun r10 h10 n10 hp10 => ?_)
  obtain ⟨rfl, rfl, rfl⟩ := hp10
  exact aw_vret dX1_addLow2_13 rfl (Nat.zero_le _) (Nat.zero_le _) (Nat.zero_le _) (Nat.zero_le _) ⟨rfl, by simp only [brSet_set]; rfl, rfl⟩
set_option maxHeartbeats 200000 in
set_option maxRecDepth 100000 in
theorem kX1_addHigh4 (h : aH) (n o a k : Nat) (f : Nat → Int32) (ho : h o = oRow a k) (ha : h a = oBytes f) (v : Int32) (hk : k + 4 ≤ 65536) : AM mX1_addHigh4 2 [.ref o, .int v] h n 0 0 0 0 (fun r h2 n2 => r = none ∧ h2 = brSet h o a (k + 4) (putL f k [v >>> ((24 : Int32) &&& 31), v >>> ((16 : Int32) &&& 31), v >>> ((8 : Int32) &&& 31), v]) ∧ n = n2) (noX) := by
  have nao : a ≠ o := row_ne ho ha
  have noa : o ≠ a := fun e => nao e.symm
  refine aw_of (by decide +kernel) rfl (Nat.le_of_ble_eq_true rfl) ?_
  refine aw_aload_n dX1_addHigh4_0 rfl ?_
  refine aw_iload_n dX1_addHigh4_1 rfl ?_
  refine aw_bipush (v := 24) dX1_addHigh4_2 (by decide) ?_
  refine aw_ishr dX1_addHigh4_4 ?_
  refine aw_callV dX1_addHigh4_5 ho cvX1_20 rfl (kX1_add _ _ o a (k + 0) _ (by first | exact ho | exact brSet_o) (by first | exact ha | exact brSet_a nao) _ (by omega)) rfl (Nat.le_of_ble_eq_true rfl) (by decide) (by decide) (by decide) (by decide) (fun _ _ _ hf => False.elim hf) (fun r5 h5 n5 hp5 => ?_)
  obtain ⟨rfl, rfl, rfl⟩ := hp5
  refine aw_aload_n dX1_addHigh4_8 rfl ?_
  refine aw_iload_n dX1_addHigh4_9 rfl ?_
  refine aw_bipush (v := 16) dX1_addHigh4_10 (by decide) ?_
  refine aw_ishr dX1_addHigh4_12 ?_
  refine aw_callV dX1_addHigh4_13 brSet_o cvX1_20 rfl (kX1_add _ _ o a (k + 1) _ (by first | exact ho | exact brSet_o) (by first | exact ha | exact brSet_a nao) _ (by omega)) rfl (Nat.le_of_ble_eq_true rfl) (by decide) (by decide) (by decide) (by decide) (fun _ _ _ hf => False.elim hf) (fun r13 h13 n13 hp13 => ?_)
  obtain ⟨rfl, rfl, rfl⟩ := hp13
  refine aw_aload_n dX1_addHigh4_16 rfl ?_
  refine aw_iload_n dX1_addHigh4_17 rfl ?_
  refine aw_bipush (v := 8) dX1_addHigh4_18 (by decide) ?_
  refine aw_ishr dX1_addHigh4_20 ?_
  refine aw_callV dX1_addHigh4_21 brSet_o cvX1_20 rfl (kX1_add _ _ o a (k + 2) _ (by first | exact ho | exact brSet_o) (by first | exact ha | exact brSet_a nao) _ (by omega)) rfl (Nat.le_of_ble_eq_true rfl) (by decide) (by decide) (by decide) (by decide) (fun _ _ _ hf => False.elim hf) (fun r21 h21 n21 hp21 => ?_)
  obtain ⟨rfl, rfl, rfl⟩ := hp21
  refine aw_aload_n dX1_addHigh4_24 rfl ?_
  refine aw_iload_n dX1_addHigh4_25 rfl ?_
  refine aw_callV dX1_addHigh4_26 brSet_o cvX1_20 rfl (kX1_add _ _ o a (k + 3) _ (by first | exact ho | exact brSet_o) (by first | exact ha | exact brSet_a nao) _ (by omega)) rfl (Nat.le_of_ble_eq_true rfl) (by decide) (by decide) (by decide) (by decide) (fun _ _ _ hf => False.elim hf) (fun r26 h26 n26 hp26 => ?_)
  obtain ⟨rfl, rfl, rfl⟩ := hp26
  exact aw_vret dX1_addHigh4_29 rfl (Nat.zero_le _) (Nat.zero_le _) (Nat.zero_le _) (Nat.zero_le _) ⟨rfl, by simp only [brSet_set]; rfl, rfl⟩
set_option maxHeartbeats 200000 in
set_option maxRecDepth 100000 in
theorem kX1_addLow4 (h : aH) (n o a k : Nat) (f : Nat → Int32) (ho : h o = oRow a k) (ha : h a = oBytes f) (v : Int32) (hk : k + 4 ≤ 65536) : AM mX1_addLow4 3 [.ref o, .int v] h n 0 0 0 0 (fun r h2 n2 => r = none ∧ h2 = brSet h o a (k + 4) (putL f k [v, v >>> ((8 : Int32) &&& 31), v >>> ((16 : Int32) &&& 31), (v >>> ((16 : Int32) &&& 31)) >>> ((8 : Int32) &&& 31)]) ∧ n = n2) (noX) := by
  have nao : a ≠ o := row_ne ho ha
  have noa : o ≠ a := fun e => nao e.symm
  refine aw_of (by decide +kernel) rfl (Nat.le_of_ble_eq_true rfl) ?_
  refine aw_aload_n dX1_addLow4_0 rfl ?_
  refine aw_iload_n dX1_addLow4_1 rfl ?_
  refine aw_callV dX1_addLow4_2 ho cvX1_24 rfl (kX1_addLow2 _ _ o a (k + 0) _ (by first | exact ho | exact brSet_o) (by first | exact ha | exact brSet_a nao) _ (by omega)) rfl (Nat.le_of_ble_eq_true rfl) (by decide) (by decide) (by decide) (by decide) (fun _ _ _ hf => False.elim hf) (fun r2 h2 n2 hp2 => ?_)
  obtain ⟨rfl, rfl, rfl⟩ := hp2
  refine aw_aload_n dX1_addLow4_5 rfl ?_
  refine aw_iload_n dX1_addLow4_6 rfl ?_
  refine aw_bipush (v := 16) dX1_addLow4_7 (by decide) ?_
  refine aw_ishr dX1_addLow4_9 ?_
  refine aw_callV dX1_addLow4_10 brSet_o cvX1_24 rfl (kX1_addLow2 _ _ o a (k + 2) _ (by first | exact ho | exact brSet_o) (by first | exact ha | exact brSet_a nao) _ (by omega)) rfl (Nat.le_of_ble_eq_true rfl) (by decide) (by decide) (by decide) (by decide) (fun _ _ _ hf => False.elim hf) (fun r10 h10 n10 hp10 => ?_)
  obtain ⟨rfl, rfl, rfl⟩ := hp10
  exact aw_vret dX1_addLow4_13 rfl (Nat.zero_le _) (Nat.zero_le _) (Nat.zero_le _) (Nat.zero_le _) ⟨rfl, by simp only [brSet_set]; rfl, rfl⟩
