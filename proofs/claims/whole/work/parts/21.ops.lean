/-- the class's own object: its spare raster, its place of the fault -/
abbrev oX (sp : Nat) (fp : Int32) : Option ao := some (.inr (9, [.ref 1, .ref 20, .ref 12, .ref 14, .ref 16, .ref 17, .ref 30, .ref sp, .int fp]))
def hi4 (v : Int32) : List Int32 := [v >>> ((24 : Int32) &&& 31), v >>> ((16 : Int32) &&& 31), v >>> ((8 : Int32) &&& 31), v]
theorem putL_app (f : Nat → Int32) : ∀ (l1 : List Int32) (k : Nat) (l2 : List Int32), putL f k (l1 ++ l2) = putL (putL f k l1) (k + l1.length) l2 := by
  intro l1
  induction l1 generalizing f with
  | nil => intro k l2; rfl
  | cons b l ih =>
    intro k l2
    show putL (upd f k (b8 b)) (k + 1) (l ++ l2) = putL (putL (upd f k (b8 b)) (k + 1) l) (k + (l.length + 1)) l2
    rw [ih, show k + 1 + l.length = k + (l.length + 1) by omega]
def feedL (a b c d e : Int32) : List Int32 := hi4 a ++ (hi4 b ++ (hi4 c ++ (hi4 d ++ hi4 e)))
set_option maxHeartbeats 200000 in
set_option maxRecDepth 100000 in
theorem kX10_place (h : aH) (n sp : Nat) (fp : Int32) (h0 : h 0 = oX sp fp) : AM mX10_place 1 [.ref 0] h n 0 0 0 0 (isV (.int fp) h n) (noX) := by
  refine aw_of (by decide +kernel) rfl (Nat.le_of_ble_eq_true rfl) ?_
  refine aw_aload_n dX10_place_0 rfl ?_
  refine aw_getf dX10_place_1 flX10_79_9 h0 rfl ?_
  exact aw_iret dX10_place_4 rfl (Nat.zero_le _) (Nat.zero_le _) (Nat.zero_le _) (Nat.zero_le _) ⟨rfl, rfl, rfl⟩
set_option maxHeartbeats 200000 in
set_option maxRecDepth 100000 in
theorem kX10_feed (h : aH) (n sp k : Nat) (fp : Int32) (f : Nat → Int32) (h0 : h 0 = oX sp fp) (h12 : h 12 = oRow 13 k) (h13 : h 13 = oBytes f) (a b c d e : Int32) (hk : k ≤ 65536) : AM mX10_feed 3 [.ref 0, .int a, .int b, .int c, .int d, .int e] h n 0 0 0 0 (fun r h2 n2 => r = some (.int (if k + 20 ≤ 65536 then nI (k + 20) else -1)) ∧ h2 = (if k + 20 ≤ 65536 then brSet h 12 13 (k + 20) (putL f k (feedL a b c d e)) else h) ∧ n = n2) (noX) := by
  refine aw_of (by decide +kernel) rfl (Nat.le_of_ble_eq_true rfl) ?_
  refine aw_aload_n dX10_feed_0 rfl ?_
  refine aw_getf dX10_feed_1 flX10_23_9 h0 rfl ?_
  refine aw_getf dX10_feed_4 flX10_83_1 h12 rfl ?_
  refine aw_ldc dX10_feed_7 kcX10_86 ?_
  refine aw_icmp_le (tgt := 14) dX10_feed_9 (by decide) (fun c9 => ?_) (fun c9 => ?_)
  · have hk20 : k + 20 ≤ 65536 := (by have := (nI_leI (a := k) (b := 65516) (by omega) (by decide)).mp c9; omega)
    refine aw_aload_n dX10_feed_14 rfl ?_
    refine aw_getf dX10_feed_15 flX10_23_9 h0 rfl ?_
    refine aw_iload_n dX10_feed_18 rfl ?_
    refine aw_callV dX10_feed_19 h12 cvX10_87 rfl (kX1_addHigh4 _ _ 12 13 (k + 0) _ (by first | exact h12 | exact brSet_o) (by first | exact h13 | exact brSet_a (by decide)) _ (by omega)) rfl (Nat.le_of_ble_eq_true rfl) (by decide) (by decide) (by decide) (by decide) (fun _ _ _ hf => False.elim hf) (fun r19 h19 n19 hp19 => ?_)
    obtain ⟨rfl, rfl, rfl⟩ := hp19
    refine aw_aload_n dX10_feed_22 rfl ?_
    refine aw_getf dX10_feed_23 flX10_23_9 ((brSet_ne (by decide) (by decide)).trans h0) rfl ?_
    refine aw_iload_n dX10_feed_26 rfl ?_
    refine aw_callV dX10_feed_27 brSet_o cvX10_87 rfl (kX1_addHigh4 _ _ 12 13 (k + 4) _ (by first | exact h12 | exact brSet_o) (by first | exact h13 | exact brSet_a (by decide)) _ (by omega)) rfl (Nat.le_of_ble_eq_true rfl) (by decide) (by decide) (by decide) (by decide) (fun _ _ _ hf => False.elim hf) (fun r27 h27 n27 hp27 => ?_)
    obtain ⟨rfl, rfl, rfl⟩ := hp27
    refine aw_aload_n dX10_feed_30 rfl ?_
    refine aw_getf dX10_feed_31 flX10_23_9 ((brSet_ne (by decide) (by decide)).trans h0) rfl ?_
    refine aw_iload_n dX10_feed_34 rfl ?_
    refine aw_callV dX10_feed_35 brSet_o cvX10_87 rfl (kX1_addHigh4 _ _ 12 13 (k + 8) _ (by first | exact h12 | exact brSet_o) (by first | exact h13 | exact brSet_a (by decide)) _ (by omega)) rfl (Nat.le_of_ble_eq_true rfl) (by decide) (by decide) (by decide) (by decide) (fun _ _ _ hf => False.elim hf) (fun r35 h35 n35 hp35 => ?_)
    obtain ⟨rfl, rfl, rfl⟩ := hp35
    refine aw_aload_n dX10_feed_38 rfl ?_
    refine aw_getf dX10_feed_39 flX10_23_9 ((brSet_ne (by decide) (by decide)).trans h0) rfl ?_
    refine aw_iload dX10_feed_42 rfl ?_
    refine aw_callV dX10_feed_44 brSet_o cvX10_87 rfl (kX1_addHigh4 _ _ 12 13 (k + 12) _ (by first | exact h12 | exact brSet_o) (by first | exact h13 | exact brSet_a (by decide)) _ (by omega)) rfl (Nat.le_of_ble_eq_true rfl) (by decide) (by decide) (by decide) (by decide) (fun _ _ _ hf => False.elim hf) (fun r44 h44 n44 hp44 => ?_)
    obtain ⟨rfl, rfl, rfl⟩ := hp44
    refine aw_aload_n dX10_feed_47 rfl ?_
    refine aw_getf dX10_feed_48 flX10_23_9 ((brSet_ne (by decide) (by decide)).trans h0) rfl ?_
    refine aw_iload dX10_feed_51 rfl ?_
    refine aw_callV dX10_feed_53 brSet_o cvX10_87 rfl (kX1_addHigh4 _ _ 12 13 (k + 16) _ (by first | exact h12 | exact brSet_o) (by first | exact h13 | exact brSet_a (by decide)) _ (by omega)) rfl (Nat.le_of_ble_eq_true rfl) (by decide) (by decide) (by decide) (by decide) (fun _ _ _ hf => False.elim hf) (fun r53 h53 n53 hp53 => ?_)
    obtain ⟨rfl, rfl, rfl⟩ := hp53
    refine aw_aload_n dX10_feed_56 rfl ?_
    refine aw_getf dX10_feed_57 flX10_23_9 ((brSet_ne (by decide) (by decide)).trans h0) rfl ?_
    refine aw_getf dX10_feed_60 flX10_83_1 brSet_o rfl ?_
    exact aw_iret dX10_feed_63 rfl (Nat.zero_le _) (Nat.zero_le _) (Nat.zero_le _) (Nat.zero_le _) (by have q : k + 20 ≤ 65536 := (by have := (nI_leI (a := k) (b := 65516) (by omega) (by decide)).mp c9; omega); refine ⟨?_, ?_, rfl⟩ <;> rw [if_pos q]; simp only [brSet_set]; unfold feedL; simp only [putL_app]; rfl)
  · refine aw_iconst (v := (-1)) dX10_feed_12 (by decide) ?_
    exact aw_iret dX10_feed_13 rfl (Nat.zero_le _) (Nat.zero_le _) (Nat.zero_le _) (Nat.zero_le _) (by refine ⟨?_, ?_, rfl⟩ <;> rw [if_neg (fun q => c9 (nI_le (b := 65516) (by omega) (by decide)))])
def endOK (x : Int32) (k : Nat) : Prop := 0 ≤ x ∧ x ≤ nI k
set_option maxHeartbeats 200000 in
set_option maxRecDepth 100000 in
theorem kX10_end (h : aH) (n sp k : Nat) (fp : Int32) (f : Nat → Int32) (h0 : h 0 = oX sp fp) (h12 : h 12 = oRow 13 k) (h13 : h 13 = oBytes f) (x : Int32) : AM mX10_end 1 [.ref 0, .int x] h n 0 0 0 0 (fun r h2 n2 => r = some (.int (tI (endOK x k))) ∧ h2 = (if 0 ≤ x ∧ x ≤ nI k then va_up h 12 (some (.inr (1, [.ref 13, .int x]))) else h) ∧ n = n2) (noX) := by
  refine aw_of (by decide +kernel) rfl (Nat.le_of_ble_eq_true rfl) ?_
  refine aw_iload_n dX10_end_0 rfl ?_
  refine aw_if_lt (tgt := 15) dX10_end_1 (by decide) (fun c1 => ?_) (fun c1 => ?_)
  · refine aw_iconst (v := 0) dX10_end_15 (by decide) ?_
    exact aw_zret dX10_end_16 rfl (by decide) (Nat.zero_le _) (Nat.zero_le _) (Nat.zero_le _) (Nat.zero_le _) (by first | exact ⟨rF (fun q => absurd c1 (Int32.not_lt.mpr q.1)), (if_neg (fun q => absurd c1 (Int32.not_lt.mpr q.1))).symm, rfl⟩ | exact ⟨rF (fun q => c12 q.2), (if_neg (fun q => c12 q.2)).symm, rfl⟩)
  · refine aw_iload_n dX10_end_4 rfl ?_
    refine aw_aload_n dX10_end_5 rfl ?_
    refine aw_getf dX10_end_6 flX10_23_9 h0 rfl ?_
    refine aw_getf dX10_end_9 flX10_83_1 h12 rfl ?_
    refine aw_icmp_le (tgt := 17) dX10_end_12 (by decide) (fun c12 => ?_) (fun c12 => ?_)
    · refine aw_aload_n dX10_end_17 rfl ?_
      refine aw_getf dX10_end_18 flX10_23_9 h0 rfl ?_
      refine aw_iload_n dX10_end_21 rfl ?_
      refine aw_putf dX10_end_22 ptX10_83_1  h12 (Nat.le_of_ble_eq_true rfl) ⟨rfl, rfl⟩ ?_
      refine aw_iconst (v := 1) dX10_end_25 (by decide) ?_
      exact aw_zret dX10_end_26 rfl (by decide) (Nat.zero_le _) (Nat.zero_le _) (Nat.zero_le _) (Nat.zero_le _) ⟨rT ⟨Int32.not_lt.mp c1, c12⟩, (if_pos ⟨Int32.not_lt.mp c1, c12⟩).symm, rfl⟩
    · refine aw_iconst (v := 0) dX10_end_15 (by decide) ?_
      exact aw_zret dX10_end_16 rfl (by decide) (Nat.zero_le _) (Nat.zero_le _) (Nat.zero_le _) (Nat.zero_le _) (by first | exact ⟨rF (fun q => absurd c1 (Int32.not_lt.mpr q.1)), (if_neg (fun q => absurd c1 (Int32.not_lt.mpr q.1))).symm, rfl⟩ | exact ⟨rF (fun q => c12 q.2), (if_neg (fun q => c12 q.2)).symm, rfl⟩)
def toldV (t : Nat → Int32) (x : Int32) : Int32 := if x = 0 then t 0 else if x = 1 then t 1 else if x = 2 then t 2 else if x = 3 then t 3 else -1
