theorem i32_cases {x : Int32} (h0 : ¬ x < 0) (h4 : ¬ nI 4 ≤ x) : x = 0 ∨ x = 1 ∨ x = 2 ∨ x = 3 := by
  obtain ⟨j, hj, rfl⟩ := vp_in_of (vp_of (nI 4) (nI_toInt (by decide)) h0 h4) (by decide)
  rcases (show j = 0 ∨ j = 1 ∨ j = 2 ∨ j = 3 by omega) with rfl | rfl | rfl | rfl
  · exact Or.inl (by decide)
  · exact Or.inr (Or.inl (by decide))
  · exact Or.inr (Or.inr (Or.inl (by decide)))
  · exact Or.inr (Or.inr (Or.inr (by decide)))
theorem toldV_in {t : Nat → Int32} {x : Int32} (h0 : ¬ x < 0) (h4 : ¬ nI 4 ≤ x) : t x.toNatClampNeg = toldV t x := by
  rcases i32_cases h0 h4 with rfl | rfl | rfl | rfl <;> rfl
theorem toldV_lo {t : Nat → Int32} {x : Int32} (h0 : x < 0) : -1 = toldV t x := by
  unfold toldV
  rw [if_neg (fun e => by rw [e] at h0; exact absurd h0 (by decide)), if_neg (fun e => by rw [e] at h0; exact absurd h0 (by decide)), if_neg (fun e => by rw [e] at h0; exact absurd h0 (by decide)), if_neg (fun e => by rw [e] at h0; exact absurd h0 (by decide))]
theorem toldV_hi {t : Nat → Int32} {x : Int32} (h4 : nI 4 ≤ x) : -1 = toldV t x := by
  unfold toldV
  rw [if_neg (fun e => by rw [e] at h4; exact absurd h4 (by decide)), if_neg (fun e => by rw [e] at h4; exact absurd h4 (by decide)), if_neg (fun e => by rw [e] at h4; exact absurd h4 (by decide)), if_neg (fun e => by rw [e] at h4; exact absurd h4 (by decide))]
set_option maxHeartbeats 200000 in
set_option maxRecDepth 100000 in
theorem kX10_told (h : aH) (n sp : Nat) (fp : Int32) (t : Nat → Int32) (h0 : h 0 = oX sp fp) (h30 : h 30 = some (.inl (.int, 4, .inl t))) (x : Int32) : AM mX10_told 1 [.ref 0, .int x] h n 0 0 0 0 (isV (.int (toldV t x)) h n) (noX) := by
  refine aw_of (by decide +kernel) rfl (Nat.le_of_ble_eq_true rfl) ?_
  refine aw_iload_n dX10_told_0 rfl ?_
  refine aw_if_lt (tgt := 22) dX10_told_1 (by decide) (fun c1 => ?_) (fun c1 => ?_)
  · refine aw_iconst (v := (-1)) dX10_told_22 (by decide) ?_
    exact aw_iret dX10_told_23 rfl (Nat.zero_le _) (Nat.zero_le _) (Nat.zero_le _) (Nat.zero_le _) (by first | exact ⟨congrArg (fun z => some (Value.int z)) (toldV_lo c1), rfl, rfl⟩ | exact ⟨congrArg (fun z => some (Value.int z)) (toldV_hi c10), rfl, rfl⟩ | exact ⟨congrArg (fun z => some (Value.int z)) (toldV_in c1 c10), rfl, rfl⟩)
  · refine aw_iload_n dX10_told_4 rfl ?_
    refine aw_aload_n dX10_told_5 rfl ?_
    refine aw_getf dX10_told_6 flX10_69_9 h0 rfl ?_
    refine aw_alen dX10_told_9 h30 rfl ?_
    refine aw_icmp_ge (tgt := 22) dX10_told_10 (by decide) (fun c10 => ?_) (fun c10 => ?_)
    · refine aw_iconst (v := (-1)) dX10_told_22 (by decide) ?_
      exact aw_iret dX10_told_23 rfl (Nat.zero_le _) (Nat.zero_le _) (Nat.zero_le _) (Nat.zero_le _) (by first | exact ⟨congrArg (fun z => some (Value.int z)) (toldV_lo c1), rfl, rfl⟩ | exact ⟨congrArg (fun z => some (Value.int z)) (toldV_hi c10), rfl, rfl⟩ | exact ⟨congrArg (fun z => some (Value.int z)) (toldV_in c1 c10), rfl, rfl⟩)
    · refine aw_aload_n dX10_told_13 rfl ?_
      refine aw_getf dX10_told_14 flX10_69_9 h0 rfl ?_
      refine aw_iload_n dX10_told_17 rfl ?_
      refine aw_iald dX10_told_18 h30 (vp_of (nI 4) (nI_toInt (by decide)) c1 c10) ?_
      refine aw_goto (tgt := 23) dX10_told_19 (by decide) ?_
      exact aw_iret dX10_told_23 rfl (Nat.zero_le _) (Nat.zero_le _) (Nat.zero_le _) (Nat.zero_le _) (by first | exact ⟨congrArg (fun z => some (Value.int z)) (toldV_lo c1), rfl, rfl⟩ | exact ⟨congrArg (fun z => some (Value.int z)) (toldV_hi c10), rfl, rfl⟩ | exact ⟨congrArg (fun z => some (Value.int z)) (toldV_in c1 c10), rfl, rfl⟩)
set_option maxHeartbeats 200000 in
set_option maxRecDepth 100000 in
theorem kX10_byteAt (h : aH) (n sp k : Nat) (fp : Int32) (f : Nat → Int32) (h0 : h 0 = oX sp fp) (h14 : h 14 = oRow 15 k) (h15 : h 15 = oBytes f) (i : Int32) (hk : k ≤ 65536) : AM mX10_byteAt 2 [.ref 0, .int i] h n 0 0 0 0 (isV (.int (brAt f k i)) h n) (noX) := by
  refine aw_of (by decide +kernel) rfl (Nat.le_of_ble_eq_true rfl) ?_
  refine aw_aload_n dX10_byteAt_0 rfl ?_
  refine aw_getf dX10_byteAt_1 flX10_27_9 h0 rfl ?_
  refine aw_iload_n dX10_byteAt_4 rfl ?_
  refine aw_callV dX10_byteAt_5 h14 cvX10_126 rfl (kX1_at h n 14 15 k f h14 h15 i hk) rfl (Nat.le_of_ble_eq_true rfl) (by decide) (by decide) (by decide) (by decide) (fun _ _ _ hf => False.elim hf) (fun r5 h5 n5 hp5 => ?_)
  obtain ⟨rfl, rfl, rfl⟩ := hp5
  exact aw_iret dX10_byteAt_8 rfl (Nat.zero_le _) (Nat.zero_le _) (Nat.zero_le _) (Nat.zero_le _) ⟨rfl, rfl, rfl⟩
/-- what told() looks at -/
def mTold (g : Nat → Int32) : Nat → Int32 := fun i => g (20 + i)
set_option maxHeartbeats 200000 in
set_option maxRecDepth 100000 in
theorem kX11_told (h : aH) (n : Nat) (sv : Value) (g : Nat → Int32) (hM : h 31 = oM sv g) (x : Int32) : AM mX11_told 1 [.ref 31, .int x] h n 0 0 0 0 (fun r h2 n2 => r = some (.int (toldV (mTold g) x)) ∧ h2 = va_up h 31 (oM sv (upd g 8 0)) ∧ n = n2) (noX) := by
  refine aw_of (by decide +kernel) rfl (Nat.le_of_ble_eq_true rfl) ?_
  refine aw_aload_n dX11_told_0 rfl ?_
  refine aw_iconst (v := 0) dX11_told_1 (by decide) ?_
  refine aw_putf dX11_told_2 ptX11_61_10  hM (Nat.le_of_ble_eq_true rfl) ⟨rfl, rfl⟩ ?_
  refine aw_iload_n dX11_told_5 rfl ?_
  refine aw_if_ne (tgt := 16) dX11_told_6 (by decide) (fun c6 => ?_) (fun c6 => ?_)
  · refine aw_iload_n dX11_told_16 rfl ?_
    refine aw_iconst (v := 1) dX11_told_17 (by decide) ?_
    refine aw_icmp_ne (tgt := 28) dX11_told_18 (by decide) (fun c18 => ?_) (fun c18 => ?_)
    · refine aw_iload_n dX11_told_28 rfl ?_
      refine aw_iconst (v := 2) dX11_told_29 (by decide) ?_
      refine aw_icmp_ne (tgt := 40) dX11_told_30 (by decide) (fun c30 => ?_) (fun c30 => ?_)
      · refine aw_iload_n dX11_told_40 rfl ?_
        refine aw_iconst (v := 3) dX11_told_41 (by decide) ?_
        refine aw_icmp_ne (tgt := 52) dX11_told_42 (by decide) (fun c42 => ?_) (fun c42 => ?_)
        · refine aw_iconst (v := (-1)) dX11_told_52 (by decide) ?_
          exact aw_iret dX11_told_53 rfl (Nat.zero_le _) (Nat.zero_le _) (Nat.zero_le _) (Nat.zero_le _) (by refine ⟨congrArg (fun z => some (Value.int z)) ?_, rfl, rfl⟩; unfold toldV mTold; first | (rw [if_pos c6]; done) | (rw [if_neg c6, if_pos c18]; done) | (rw [if_neg c6, if_neg c18, if_pos c30]; done) | (rw [if_neg c6, if_neg c18, if_neg c30, if_pos c42]; done) | (rw [if_neg c6, if_neg c18, if_neg c30, if_neg c42]; done))
        · refine aw_aload_n dX11_told_45 rfl ?_
          refine aw_getf dX11_told_46 flX11_40_10 (va_up_self _ _ _) rfl ?_
          refine aw_goto (tgt := 53) dX11_told_49 (by decide) ?_
          exact aw_iret dX11_told_53 rfl (Nat.zero_le _) (Nat.zero_le _) (Nat.zero_le _) (Nat.zero_le _) (by refine ⟨congrArg (fun z => some (Value.int z)) ?_, rfl, rfl⟩; unfold toldV mTold; first | (rw [if_pos c6]; done) | (rw [if_neg c6, if_pos c18]; done) | (rw [if_neg c6, if_neg c18, if_pos c30]; done) | (rw [if_neg c6, if_neg c18, if_neg c30, if_pos c42]; done) | (rw [if_neg c6, if_neg c18, if_neg c30, if_neg c42]; done))
      · refine aw_aload_n dX11_told_33 rfl ?_
        refine aw_getf dX11_told_34 flX11_37_10 (va_up_self _ _ _) rfl ?_
        refine aw_goto (tgt := 53) dX11_told_37 (by decide) ?_
        exact aw_iret dX11_told_53 rfl (Nat.zero_le _) (Nat.zero_le _) (Nat.zero_le _) (Nat.zero_le _) (by refine ⟨congrArg (fun z => some (Value.int z)) ?_, rfl, rfl⟩; unfold toldV mTold; first | (rw [if_pos c6]; done) | (rw [if_neg c6, if_pos c18]; done) | (rw [if_neg c6, if_neg c18, if_pos c30]; done) | (rw [if_neg c6, if_neg c18, if_neg c30, if_pos c42]; done) | (rw [if_neg c6, if_neg c18, if_neg c30, if_neg c42]; done))
    · refine aw_aload_n dX11_told_21 rfl ?_
      refine aw_getf dX11_told_22 flX11_34_10 (va_up_self _ _ _) rfl ?_
      refine aw_goto (tgt := 53) dX11_told_25 (by decide) ?_
      exact aw_iret dX11_told_53 rfl (Nat.zero_le _) (Nat.zero_le _) (Nat.zero_le _) (Nat.zero_le _) (by refine ⟨congrArg (fun z => some (Value.int z)) ?_, rfl, rfl⟩; unfold toldV mTold; first | (rw [if_pos c6]; done) | (rw [if_neg c6, if_pos c18]; done) | (rw [if_neg c6, if_neg c18, if_pos c30]; done) | (rw [if_neg c6, if_neg c18, if_neg c30, if_pos c42]; done) | (rw [if_neg c6, if_neg c18, if_neg c30, if_neg c42]; done))
  · refine aw_aload_n dX11_told_9 rfl ?_
    refine aw_getf dX11_told_10 flX11_30_10 (va_up_self _ _ _) rfl ?_
    refine aw_goto (tgt := 53) dX11_told_13 (by decide) ?_
    exact aw_iret dX11_told_53 rfl (Nat.zero_le _) (Nat.zero_le _) (Nat.zero_le _) (Nat.zero_le _) (by refine ⟨congrArg (fun z => some (Value.int z)) ?_, rfl, rfl⟩; unfold toldV mTold; first | (rw [if_pos c6]; done) | (rw [if_neg c6, if_pos c18]; done) | (rw [if_neg c6, if_neg c18, if_pos c30]; done) | (rw [if_neg c6, if_neg c18, if_neg c30, if_pos c42]; done) | (rw [if_neg c6, if_neg c18, if_neg c30, if_neg c42]; done))
set_option maxHeartbeats 200000 in
set_option maxRecDepth 100000 in
theorem kX11_end (h : aH) (n : Nat) (sv : Value) (g : Nat → Int32) (hM : h 31 = oM sv g) (x : Int32) : AM mX11_end 1 [.ref 31, .int x] h n 0 0 0 0 (fun r h2 n2 => r = some (.int (tI (0 ≤ x ∧ x ≤ g 1))) ∧ h2 = va_up h 31 (oM sv (if 0 ≤ x ∧ x ≤ g 1 then upd (upd g 8 0) 1 x else upd g 8 0)) ∧ n = n2) (noX) := by
  refine aw_of (by decide +kernel) rfl (Nat.le_of_ble_eq_true rfl) ?_
  refine aw_aload_n dX11_end_0 rfl ?_
  refine aw_iconst (v := 0) dX11_end_1 (by decide) ?_
  refine aw_putf dX11_end_2 ptX11_61_10  hM (Nat.le_of_ble_eq_true rfl) ⟨rfl, rfl⟩ ?_
  refine aw_iload_n dX11_end_5 rfl ?_
  refine aw_if_lt (tgt := 17) dX11_end_6 (by decide) (fun c6 => ?_) (fun c6 => ?_)
  · refine aw_iconst (v := 0) dX11_end_17 (by decide) ?_
    exact aw_zret dX11_end_18 rfl (by decide) (Nat.zero_le _) (Nat.zero_le _) (Nat.zero_le _) (Nat.zero_le _) (by first | exact ⟨rF (fun q => absurd c6 (Int32.not_lt.mpr q.1)), by rw [if_neg (fun q => absurd c6 (Int32.not_lt.mpr q.1))]; rfl, rfl⟩ | exact ⟨rF (fun q => c14 q.2), by rw [if_neg (fun q => c14 q.2)]; rfl, rfl⟩)
  · refine aw_iload_n dX11_end_9 rfl ?_
    refine aw_aload_n dX11_end_10 rfl ?_
    refine aw_getf dX11_end_11 flX11_64_10 (va_up_self _ _ _) rfl ?_
    refine aw_icmp_le (tgt := 19) dX11_end_14 (by decide) (fun c14 => ?_) (fun c14 => ?_)
    · refine aw_aload_n dX11_end_19 rfl ?_
      refine aw_iload_n dX11_end_20 rfl ?_
      refine aw_putf dX11_end_21 ptX11_64_10  (va_up_self _ _ _) (Nat.le_of_ble_eq_true rfl) ⟨rfl, rfl⟩ ?_
      refine aw_iconst (v := 1) dX11_end_24 (by decide) ?_
      exact aw_zret dX11_end_25 rfl (by decide) (Nat.zero_le _) (Nat.zero_le _) (Nat.zero_le _) (Nat.zero_le _) ⟨rT ⟨Int32.not_lt.mp c6, c14⟩, by rw [va_up_up, if_pos ⟨Int32.not_lt.mp c6, c14⟩]; rfl, rfl⟩
    · refine aw_iconst (v := 0) dX11_end_17 (by decide) ?_
      exact aw_zret dX11_end_18 rfl (by decide) (Nat.zero_le _) (Nat.zero_le _) (Nat.zero_le _) (Nat.zero_le _) (by first | exact ⟨rF (fun q => absurd c6 (Int32.not_lt.mpr q.1)), by rw [if_neg (fun q => absurd c6 (Int32.not_lt.mpr q.1))]; rfl, rfl⟩ | exact ⟨rF (fun q => c14 q.2), by rw [if_neg (fun q => c14 q.2)]; rfl, rfl⟩)
def mByteAt (f : Nat → Int32) (has : Int32) (k : Nat) (i : Int32) : Int32 := if has = 0 then -1 else brAt f k i
set_option maxHeartbeats 200000 in
set_option maxRecDepth 100000 in
theorem kX11_byteAt (h : aH) (n k : Nat) (sv : Value) (g f : Nat → Int32) (hM : h 31 = oM sv g) (h33 : h 33 = oBytes f) (hg : g 3 = nI k) (hk : k ≤ 65536) (i : Int32) : AM mX11_byteAt 1 [.ref 31, .int i] h n 0 0 0 0 (fun r h2 n2 => r = some (.int (mByteAt f (g 4) k i)) ∧ h2 = va_up h 31 (oM sv (upd g 8 0)) ∧ n = n2) (noX) := by
  refine aw_of (by decide +kernel) rfl (Nat.le_of_ble_eq_true rfl) ?_
  refine aw_aload_n dX11_byteAt_0 rfl ?_
  refine aw_iconst (v := 0) dX11_byteAt_1 (by decide) ?_
  refine aw_putf dX11_byteAt_2 ptX11_61_10  hM (Nat.le_of_ble_eq_true rfl) ⟨rfl, rfl⟩ ?_
  refine aw_aload_n dX11_byteAt_5 rfl ?_
  refine aw_getf dX11_byteAt_6 flX11_71_10 (va_up_self _ _ _) rfl ?_
  refine aw_if_eq (tgt := 37) dX11_byteAt_9 (by decide) (fun c9 => ?_) (fun c9 => ?_)
  · refine aw_iconst (v := (-1)) dX11_byteAt_37 (by decide) ?_
    exact aw_iret dX11_byteAt_38 rfl (Nat.zero_le _) (Nat.zero_le _) (Nat.zero_le _) (Nat.zero_le _) (by refine ⟨congrArg (fun z => some (Value.int z)) ?_, rfl, rfl⟩; unfold mByteAt brAt; rw [← hg]; first | (rw [if_pos c9]; done) | (rw [if_neg c9, if_pos c13]; done) | (rw [if_neg c9, if_neg c13, if_pos c21]; done) | (rw [if_neg c9, if_neg c13, if_neg c21]; done))
  · refine aw_iload_n dX11_byteAt_12 rfl ?_
    refine aw_if_lt (tgt := 37) dX11_byteAt_13 (by decide) (fun c13 => ?_) (fun c13 => ?_)
    · refine aw_iconst (v := (-1)) dX11_byteAt_37 (by decide) ?_
      exact aw_iret dX11_byteAt_38 rfl (Nat.zero_le _) (Nat.zero_le _) (Nat.zero_le _) (Nat.zero_le _) (by refine ⟨congrArg (fun z => some (Value.int z)) ?_, rfl, rfl⟩; unfold mByteAt brAt; rw [← hg]; first | (rw [if_pos c9]; done) | (rw [if_neg c9, if_pos c13]; done) | (rw [if_neg c9, if_neg c13, if_pos c21]; done) | (rw [if_neg c9, if_neg c13, if_neg c21]; done))
    · refine aw_iload_n dX11_byteAt_16 rfl ?_
      refine aw_aload_n dX11_byteAt_17 rfl ?_
      refine aw_getf dX11_byteAt_18 flX11_75_10 (va_up_self _ _ _) rfl ?_
      refine aw_icmp_ge (tgt := 37) dX11_byteAt_21 (by decide) (fun c21 => ?_) (fun c21 => ?_)
      · refine aw_iconst (v := (-1)) dX11_byteAt_37 (by decide) ?_
        exact aw_iret dX11_byteAt_38 rfl (Nat.zero_le _) (Nat.zero_le _) (Nat.zero_le _) (Nat.zero_le _) (by refine ⟨congrArg (fun z => some (Value.int z)) ?_, rfl, rfl⟩; unfold mByteAt brAt; rw [← hg]; first | (rw [if_pos c9]; done) | (rw [if_neg c9, if_pos c13]; done) | (rw [if_neg c9, if_neg c13, if_pos c21]; done) | (rw [if_neg c9, if_neg c13, if_neg c21]; done))
      · refine aw_aload_n dX11_byteAt_24 rfl ?_
        refine aw_getf dX11_byteAt_25 flX11_14_10 (va_up_self _ _ _) rfl ?_
        refine aw_iload_n dX11_byteAt_28 rfl ?_
        refine aw_bald dX11_byteAt_29 ((va_up_ne _ _ (by decide)).trans h33) (vp_lt hk c13 (by rw [← hg]; exact c21)) ?_
        refine aw_sipush (v := 255) dX11_byteAt_30 (by decide) ?_
        refine aw_iand dX11_byteAt_33 ?_
        refine aw_goto (tgt := 38) dX11_byteAt_34 (by decide) ?_
        exact aw_iret dX11_byteAt_38 rfl (Nat.zero_le _) (Nat.zero_le _) (Nat.zero_le _) (Nat.zero_le _) (by refine ⟨congrArg (fun z => some (Value.int z)) ?_, rfl, rfl⟩; unfold mByteAt brAt; rw [← hg]; first | (rw [if_pos c9]; done) | (rw [if_neg c9, if_pos c13]; done) | (rw [if_neg c9, if_neg c13, if_pos c21]; done) | (rw [if_neg c9, if_neg c13, if_neg c21]; done))
