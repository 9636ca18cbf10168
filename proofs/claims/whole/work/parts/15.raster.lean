theorem inc1 (j : Nat) : nI j + Int32.ofInt 1 = nI (j + 1) := by rw [show Int32.ofInt 1 = (1 : Int32) from by decide, nI_1]
abbrev oPix (f : Nat → Int32) : Option ao := some (.inl (.int, 4096, .inl f))
abbrev oRas (p w g : Nat) : Option ao := some (.inr (6, [.ref p, .int (nI w), .int (nI g)]))
theorem ras_ne {h : aH} {r p w g : Nat} {f : Nat → Int32} (hr : h r = oRas p w g) (hp : h p = oPix f) : p ≠ r := fun e => by
  rw [e, hr] at hp
  cases hp
theorem kX10_isShelfV (x : Int32) : True := trivial
def Opq (f : Nat → Int32) (N : Nat) : Prop := ∀ i, i < N → p_alpha (f i) = 255
def Gry (f : Nat → Int32) (N : Nat) : Prop := ∀ i, i < N → p_red (f i) = p_green (f i) ∧ p_green (f i) = p_blue (f i)
def Pln (f : Nat → Int32) (N : Nat) : Prop := ∀ i, i < N → f i = 255 ∨ f i = -1
/-- the truth of a statement, as the machine's 0 or 1 -/
noncomputable def tI (b : Prop) : Int32 := by classical exact if b then 1 else 0
theorem tI_t {b : Prop} (h : b) : tI b = 1 := by unfold tI; exact if_pos h
theorem tI_f {b : Prop} (h : ¬ b) : tI b = 0 := by unfold tI; exact if_neg h
theorem rT {b : Prop} (h : b) : some (Value.int 1) = some (.int (tI b)) := by rw [tI_t h]
theorem rF {b : Prop} (h : ¬ b) : some (Value.int 0) = some (.int (tI b)) := by rw [tI_f h]
theorem tI_nar (b : Prop) : narrow .boolean (.int (tI b)) = .int (tI b) := by
  by_cases h : b
  · rw [tI_t h]; decide
  · rw [tI_f h]; decide
set_option maxHeartbeats 200000 in
set_option maxRecDepth 100000 in
theorem kX7_isEmpty (h : aH) (n r p w g : Nat) (hr : h r = oRas p w g) (hw : w ≤ 4096) : AM mX7_isEmpty 1 [.ref r] h n 0 0 0 0 (isV (.int (tI (w = 0))) h n) (noX) := by
  refine aw_of (by decide +kernel) rfl (Nat.le_of_ble_eq_true rfl) ?_
  refine aw_aload_n dX7_isEmpty_0 rfl ?_
  refine aw_getf dX7_isEmpty_1 flX7_15_6 hr rfl ?_
  refine aw_if_ne (tgt := 11) dX7_isEmpty_4 (by decide) (fun c4 => ?_) (fun c4 => ?_)
  · refine aw_iconst (v := 0) dX7_isEmpty_11 (by decide) ?_
    exact aw_zret dX7_isEmpty_12 rfl (by decide) (Nat.zero_le _) (Nat.zero_le _) (Nat.zero_le _) (Nat.zero_le _) ⟨by first | (rw [tI_t ((nI_eq (a := w) (b := 0) (by omega) (by omega)).mp c4)]; done) | (rw [tI_f (fun e => c4 (by rw [e]; rfl))]; done), rfl, rfl⟩
  · refine aw_iconst (v := 1) dX7_isEmpty_7 (by decide) ?_
    refine aw_goto (tgt := 12) dX7_isEmpty_8 (by decide) ?_
    exact aw_zret dX7_isEmpty_12 rfl (by decide) (Nat.zero_le _) (Nat.zero_le _) (Nat.zero_le _) (Nat.zero_le _) ⟨by first | (rw [tI_t ((nI_eq (a := w) (b := 0) (by omega) (by omega)).mp c4)]; done) | (rw [tI_f (fun e => c4 (by rw [e]; rfl))]; done), rfl, rfl⟩
set_option maxHeartbeats 200000 in
set_option maxRecDepth 100000 in
theorem kX7_count (h : aH) (n r p w g : Nat) (hr : h r = oRas p w g) : AM mX7_count 1 [.ref r] h n 0 0 0 0 (isV (.int (nI (w * g))) h n) (noX) := by
  refine aw_of (by decide +kernel) rfl (Nat.le_of_ble_eq_true rfl) ?_
  refine aw_aload_n dX7_count_0 rfl ?_
  refine aw_getf dX7_count_1 flX7_15_6 hr rfl ?_
  refine aw_aload_n dX7_count_4 rfl ?_
  refine aw_getf dX7_count_5 flX7_19_6 hr rfl ?_
  refine aw_imul dX7_count_8 ?_
  exact aw_iret dX7_count_9 rfl (Nat.zero_le _) (Nat.zero_le _) (Nat.zero_le _) (Nat.zero_le _) ⟨by rw [pk_mul], rfl, rfl⟩
set_option maxHeartbeats 200000 in
set_option maxRecDepth 100000 in
theorem kX7_get (h : aH) (n r p w g : Nat) (f : Nat → Int32) (hr : h r = oRas p w g) (hp : h p = oPix f) (j : Nat) (hj : j < 4096) : AM mX7_get 1 [.ref r, .int (nI j)] h n 0 0 0 0 (isV (.int (f j)) h n) (noX) := by
  refine aw_of (by decide +kernel) rfl (Nat.le_of_ble_eq_true rfl) ?_
  refine aw_iload_n dX7_get_0 rfl ?_
  refine aw_if_lt (tgt := 20) dX7_get_1 (by decide) (fun c1 => ?_) (fun c1 => ?_)
  · exact absurd c1 (nI_pos (by omega))
  · refine aw_iload_n dX7_get_4 rfl ?_
    refine aw_sipush (v := 4096) dX7_get_5 (by decide) ?_
    refine aw_icmp_ge (tgt := 20) dX7_get_8 (by decide) (fun c8 => ?_) (fun c8 => ?_)
    · exact absurd c8 (nI_ge (b := 4096) hj (by decide))
    · refine aw_aload_n dX7_get_11 rfl ?_
      refine aw_getf dX7_get_12 flX7_9_6 hr rfl ?_
      refine aw_iload_n dX7_get_15 rfl ?_
      refine aw_iald dX7_get_16 hp (vp_in_nI hj (by decide)) ?_
      refine aw_goto (tgt := 21) dX7_get_17 (by decide) ?_
      exact aw_iret dX7_get_21 rfl (Nat.zero_le _) (Nat.zero_le _) (Nat.zero_le _) (Nat.zero_le _) ⟨by rw [nI_clamp (by omega)], rfl, rfl⟩
set_option maxHeartbeats 200000 in
set_option maxRecDepth 100000 in
theorem kX7_set (h : aH) (n r p w g : Nat) (f : Nat → Int32) (hr : h r = oRas p w g) (hp : h p = oPix f) (j : Nat) (v : Int32) (hj : j < 4096) : AM mX7_set 1 [.ref r, .int (nI j), .int v] h n 0 0 0 0 (fun r1 h2 n2 => r1 = none ∧ h2 = va_up h p (oPix (upd f j v)) ∧ n = n2) (noX) := by
  have npr : p ≠ r := ras_ne hr hp
  have nrp : r ≠ p := fun e => npr e.symm
  refine aw_of (by decide +kernel) rfl (Nat.le_of_ble_eq_true rfl) ?_
  refine aw_iload_n dX7_set_0 rfl ?_
  refine aw_if_lt (tgt := 18) dX7_set_1 (by decide) (fun c1 => ?_) (fun c1 => ?_)
  · exact absurd c1 (nI_pos (by omega))
  · refine aw_iload_n dX7_set_4 rfl ?_
    refine aw_sipush (v := 4096) dX7_set_5 (by decide) ?_
    refine aw_icmp_ge (tgt := 18) dX7_set_8 (by decide) (fun c8 => ?_) (fun c8 => ?_)
    · exact absurd c8 (nI_ge (b := 4096) hj (by decide))
    · refine aw_aload_n dX7_set_11 rfl ?_
      refine aw_getf dX7_set_12 flX7_9_6 hr rfl ?_
      refine aw_iload_n dX7_set_15 rfl ?_
      refine aw_iload_n dX7_set_16 rfl ?_
      refine aw_iast dX7_set_17 hp (vp_in_nI hj (by decide)) ?_
      exact aw_vret dX7_set_18 rfl (Nat.zero_le _) (Nat.zero_le _) (Nat.zero_le _) (Nat.zero_le _) ⟨rfl, by rw [nI_clamp (by omega)], rfl⟩
set_option maxHeartbeats 200000 in
set_option maxRecDepth 100000 in
theorem kX7_isOpaque (h : aH) (n r p w g : Nat) (f : Nat → Int32) (hr : h r = oRas p w g) (hp : h p = oPix f) (hb : w * g ≤ 4096) : AM mX7_isOpaque 2 [.ref r] h n 0 0 0 0 (isV (.int (tI (Opq f (w * g)))) h n) (noX) := by
  refine aw_of (by decide +kernel) rfl (Nat.le_of_ble_eq_true rfl) ?_
  have loop : ∀ (m j : Nat) , j + m = w * g → Opq f j → AW (fun _ _ => True) mX7_isOpaque (rmD 2 0 0) 0 0 (isV (.int (tI (Opq f (w * g)))) h n) (noX) 0 0 7 [(2, .int (nI j)), (1, .int (nI (w * g))), (0, .ref r)] [] h n := by
    intro m
    induction m with
    | zero =>
      intro j hj hq
      refine aw_iload_n dX7_isOpaque_7 rfl ?_
      refine aw_iload_n dX7_isOpaque_8 rfl ?_
      refine aw_icmp_ge (tgt := 34) dX7_isOpaque_9 (by decide) (fun c9 => ?_) (fun c9 => ?_)
      · refine aw_iconst (v := 1) dX7_isOpaque_34 (by decide) ?_
        exact aw_zret dX7_isOpaque_35 rfl (by decide) (Nat.zero_le _) (Nat.zero_le _) (Nat.zero_le _) (Nat.zero_le _) ⟨by rw [tI_t (by rw [← hj]; exact hq)], rfl, rfl⟩
      · exact absurd (nI_le (by omega) (by omega)) c9
    | succ m ih =>
      intro j hj hq
      refine aw_iload_n dX7_isOpaque_7 rfl ?_
      refine aw_iload_n dX7_isOpaque_8 rfl ?_
      refine aw_icmp_ge (tgt := 34) dX7_isOpaque_9 (by decide) (fun c9 => ?_) (fun c9 => ?_)
      · exact absurd c9 (nI_ge (by omega) (by omega))
      · refine aw_aload_n dX7_isOpaque_12 rfl ?_
        refine aw_iload_n dX7_isOpaque_13 rfl ?_
        refine aw_callV dX7_isOpaque_14 hr cvX7_30 rfl (kX7_get h n r p w g f hr hp j (by omega)) rfl (Nat.le_of_ble_eq_true rfl) (by decide) (by decide) (by decide) (by decide) (fun _ _ _ hf => False.elim hf) (fun r14 h14 n14 hp14 => ?_)
        obtain ⟨rfl, rfl, rfl⟩ := hp14
        refine aw_callSN dX7_isOpaque_17  csX7_34 rfl (kX10_alphaOf h n (f j)) rfl (Nat.le_of_ble_eq_true rfl) (by decide) (by decide) (by decide) (by decide)  (fun r17 h17 n17 hp17 => ?_)
        obtain ⟨rfl, rfl, rfl⟩ := hp17
        refine aw_sipush (v := 255) dX7_isOpaque_20 (by decide) ?_
        refine aw_icmp_eq (tgt := 28) dX7_isOpaque_23 (by decide) (fun c23 => ?_) (fun c23 => ?_)
        · refine aw_iinc (v := nI (j + 1)) (lv2 := [(2, _), (1, _), (0, _)]) dX7_isOpaque_28 rfl (inc1 j) (by decide) rfl ?_
          refine aw_goto (tgt := 7) dX7_isOpaque_31 (by decide) ?_
          exact aw_lv _ (List.forall_mem_cons.mpr ⟨rfl, List.forall_mem_cons.mpr ⟨rfl, List.forall_mem_cons.mpr ⟨rfl, fun _ h => absurd h List.not_mem_nil⟩⟩⟩) (ih (j + 1) (by omega) (fun i hi => by rcases Nat.lt_succ_iff_lt_or_eq.mp hi with q | q; exact hq i q; rw [q]; exact c23))
        · refine aw_iconst (v := 0) dX7_isOpaque_26 (by decide) ?_
          exact aw_zret dX7_isOpaque_27 rfl (by decide) (Nat.zero_le _) (Nat.zero_le _) (Nat.zero_le _) (Nat.zero_le _) ⟨by rw [tI_f (fun q => c23 (q j (by omega)))], rfl, rfl⟩
  refine aw_aload_n dX7_isOpaque_0 rfl ?_
  refine aw_callV dX7_isOpaque_1 hr cvX7_22 rfl (kX7_count h n r p w g hr) rfl (Nat.le_of_ble_eq_true rfl) (by decide) (by decide) (by decide) (by decide) (fun _ _ _ hf => False.elim hf) (fun r1 h1 n1 hp1 => ?_)
  obtain ⟨rfl, rfl, rfl⟩ := hp1
  refine aw_istore_n (lv2 := [(1, _), (0, _)]) dX7_isOpaque_4 (by decide) rfl ?_
  refine aw_iconst (v := 0) dX7_isOpaque_5 (by decide) ?_
  refine aw_istore_n (lv2 := [(2, _), (1, _), (0, _)]) dX7_isOpaque_6 (by decide) rfl ?_
  exact (by have q := loop (w * g) 0 (by omega) (fun i hi => absurd hi (Nat.not_lt_zero i)); rw [nI_0] at q; exact q)
set_option maxHeartbeats 200000 in
set_option maxRecDepth 100000 in
theorem kX7_isGray (h : aH) (n r p w g : Nat) (f : Nat → Int32) (hr : h r = oRas p w g) (hp : h p = oPix f) (hb : w * g ≤ 4096) : AM mX7_isGray 2 [.ref r] h n 0 0 0 0 (isV (.int (tI (Gry f (w * g)))) h n) (noX) := by
  refine aw_of (by decide +kernel) rfl (Nat.le_of_ble_eq_true rfl) ?_
  have loop : ∀ (m j : Nat) , j + m = w * g → Gry f j → AW (fun _ _ => True) mX7_isGray (rmD 2 0 0) 0 0 (isV (.int (tI (Gry f (w * g)))) h n) (noX) 0 0 7 [(2, .int (nI j)), (1, .int (nI (w * g))), (0, .ref r)] [] h n := by
    intro m
    induction m with
    | zero =>
      intro j hj hq
      refine aw_iload_n dX7_isGray_7 rfl ?_
      refine aw_iload_n dX7_isGray_8 rfl ?_
      refine aw_icmp_ge (tgt := 48) dX7_isGray_9 (by decide) (fun c9 => ?_) (fun c9 => ?_)
      · refine aw_iconst (v := 1) dX7_isGray_48 (by decide) ?_
        exact aw_zret dX7_isGray_49 rfl (by decide) (Nat.zero_le _) (Nat.zero_le _) (Nat.zero_le _) (Nat.zero_le _) ⟨by rw [tI_t (by rw [← hj]; exact hq)], rfl, rfl⟩
      · exact absurd (nI_le (by omega) (by omega)) c9
    | succ m ih =>
      intro j hj hq
      refine aw_iload_n dX7_isGray_7 rfl ?_
      refine aw_iload_n dX7_isGray_8 rfl ?_
      refine aw_icmp_ge (tgt := 48) dX7_isGray_9 (by decide) (fun c9 => ?_) (fun c9 => ?_)
      · exact absurd c9 (nI_ge (by omega) (by omega))
      · refine aw_aload_n dX7_isGray_12 rfl ?_
        refine aw_iload_n dX7_isGray_13 rfl ?_
        refine aw_callV dX7_isGray_14 hr cvX7_30 rfl (kX7_get h n r p w g f hr hp j (by omega)) rfl (Nat.le_of_ble_eq_true rfl) (by decide) (by decide) (by decide) (by decide) (fun _ _ _ hf => False.elim hf) (fun r14 h14 n14 hp14 => ?_)
        obtain ⟨rfl, rfl, rfl⟩ := hp14
        refine aw_istore_n (lv2 := [(3, _), (2, _), (1, _), (0, _)]) dX7_isGray_17 (by decide) rfl ?_
        refine aw_iload_n dX7_isGray_18 rfl ?_
        refine aw_callSN dX7_isGray_19  csX7_37 rfl (kX10_redOf h n (f j)) rfl (Nat.le_of_ble_eq_true rfl) (by decide) (by decide) (by decide) (by decide)  (fun r19 h19 n19 hp19 => ?_)
        obtain ⟨rfl, rfl, rfl⟩ := hp19
        refine aw_iload_n dX7_isGray_22 rfl ?_
        refine aw_callSN dX7_isGray_23  csX7_40 rfl (kX10_greenOf h n (f j)) rfl (Nat.le_of_ble_eq_true rfl) (by decide) (by decide) (by decide) (by decide)  (fun r23 h23 n23 hp23 => ?_)
        obtain ⟨rfl, rfl, rfl⟩ := hp23
        refine aw_icmp_ne (tgt := 40) dX7_isGray_26 (by decide) (fun c26 => ?_) (fun c26 => ?_)
        · refine aw_iconst (v := 0) dX7_isGray_40 (by decide) ?_
          exact aw_zret dX7_isGray_41 rfl (by decide) (Nat.zero_le _) (Nat.zero_le _) (Nat.zero_le _) (Nat.zero_le _) ⟨by first | (rw [tI_f (fun q => c26 (q j (by omega)).1)]; done) | (rw [tI_f (fun q => c37 (q j (by omega)).2)]; done), rfl, rfl⟩
        · refine aw_iload_n dX7_isGray_29 rfl ?_
          refine aw_callSN dX7_isGray_30  csX7_40 rfl (kX10_greenOf h n (f j)) rfl (Nat.le_of_ble_eq_true rfl) (by decide) (by decide) (by decide) (by decide)  (fun r30 h30 n30 hp30 => ?_)
          obtain ⟨rfl, rfl, rfl⟩ := hp30
          refine aw_iload_n dX7_isGray_33 rfl ?_
          refine aw_callSN dX7_isGray_34  csX7_43 rfl (kX10_blueOf h n (f j)) rfl (Nat.le_of_ble_eq_true rfl) (by decide) (by decide) (by decide) (by decide)  (fun r34 h34 n34 hp34 => ?_)
          obtain ⟨rfl, rfl, rfl⟩ := hp34
          refine aw_icmp_eq (tgt := 42) dX7_isGray_37 (by decide) (fun c37 => ?_) (fun c37 => ?_)
          · refine aw_iinc (v := nI (j + 1)) (lv2 := [(2, _), (3, _), (1, _), (0, _)]) dX7_isGray_42 rfl (inc1 j) (by decide) rfl ?_
            refine aw_goto (tgt := 7) dX7_isGray_45 (by decide) ?_
            exact aw_lv _ (List.forall_mem_cons.mpr ⟨rfl, List.forall_mem_cons.mpr ⟨rfl, List.forall_mem_cons.mpr ⟨rfl, fun _ h => absurd h List.not_mem_nil⟩⟩⟩) (ih (j + 1) (by omega) (fun i hi => by rcases Nat.lt_succ_iff_lt_or_eq.mp hi with q | q; exact hq i q; rw [q]; exact ⟨c26, c37⟩))
          · refine aw_iconst (v := 0) dX7_isGray_40 (by decide) ?_
            exact aw_zret dX7_isGray_41 rfl (by decide) (Nat.zero_le _) (Nat.zero_le _) (Nat.zero_le _) (Nat.zero_le _) ⟨by first | (rw [tI_f (fun q => c26 (q j (by omega)).1)]; done) | (rw [tI_f (fun q => c37 (q j (by omega)).2)]; done), rfl, rfl⟩
  refine aw_aload_n dX7_isGray_0 rfl ?_
  refine aw_callV dX7_isGray_1 hr cvX7_22 rfl (kX7_count h n r p w g hr) rfl (Nat.le_of_ble_eq_true rfl) (by decide) (by decide) (by decide) (by decide) (fun _ _ _ hf => False.elim hf) (fun r1 h1 n1 hp1 => ?_)
  obtain ⟨rfl, rfl, rfl⟩ := hp1
  refine aw_istore_n (lv2 := [(1, _), (0, _)]) dX7_isGray_4 (by decide) rfl ?_
  refine aw_iconst (v := 0) dX7_isGray_5 (by decide) ?_
  refine aw_istore_n (lv2 := [(2, _), (1, _), (0, _)]) dX7_isGray_6 (by decide) rfl ?_
  exact (by have q := loop (w * g) 0 (by omega) (fun i hi => absurd hi (Nat.not_lt_zero i)); rw [nI_0] at q; exact q)
set_option maxHeartbeats 200000 in
set_option maxRecDepth 100000 in
theorem kX7_isPlain (h : aH) (n r p w g : Nat) (f : Nat → Int32) (hr : h r = oRas p w g) (hp : h p = oPix f) (hb : w * g ≤ 4096) : AM mX7_isPlain 2 [.ref r] h n 0 0 0 0 (isV (.int (tI (Pln f (w * g)))) h n) (noX) := by
  refine aw_of (by decide +kernel) rfl (Nat.le_of_ble_eq_true rfl) ?_
  have loop : ∀ (m j : Nat) , j + m = w * g → Pln f j → AW (fun _ _ => True) mX7_isPlain (rmD 2 0 0) 0 0 (isV (.int (tI (Pln f (w * g)))) h n) (noX) 0 0 7 [(2, .int (nI j)), (1, .int (nI (w * g))), (0, .ref r)] [] h n := by
    intro m
    induction m with
    | zero =>
      intro j hj hq
      refine aw_iload_n dX7_isPlain_7 rfl ?_
      refine aw_iload_n dX7_isPlain_8 rfl ?_
      refine aw_icmp_ge (tgt := 38) dX7_isPlain_9 (by decide) (fun c9 => ?_) (fun c9 => ?_)
      · refine aw_iconst (v := 1) dX7_isPlain_38 (by decide) ?_
        exact aw_zret dX7_isPlain_39 rfl (by decide) (Nat.zero_le _) (Nat.zero_le _) (Nat.zero_le _) (Nat.zero_le _) ⟨by rw [tI_t (by rw [← hj]; exact hq)], rfl, rfl⟩
      · exact absurd (nI_le (by omega) (by omega)) c9
    | succ m ih =>
      intro j hj hq
      refine aw_iload_n dX7_isPlain_7 rfl ?_
      refine aw_iload_n dX7_isPlain_8 rfl ?_
      refine aw_icmp_ge (tgt := 38) dX7_isPlain_9 (by decide) (fun c9 => ?_) (fun c9 => ?_)
      · exact absurd c9 (nI_ge (by omega) (by omega))
      · refine aw_aload_n dX7_isPlain_12 rfl ?_
        refine aw_iload_n dX7_isPlain_13 rfl ?_
        refine aw_callV dX7_isPlain_14 hr cvX7_30 rfl (kX7_get h n r p w g f hr hp j (by omega)) rfl (Nat.le_of_ble_eq_true rfl) (by decide) (by decide) (by decide) (by decide) (fun _ _ _ hf => False.elim hf) (fun r14 h14 n14 hp14 => ?_)
        obtain ⟨rfl, rfl, rfl⟩ := hp14
        refine aw_istore_n (lv2 := [(3, _), (2, _), (1, _), (0, _)]) dX7_isPlain_17 (by decide) rfl ?_
        refine aw_iload_n dX7_isPlain_18 rfl ?_
        refine aw_sipush (v := 255) dX7_isPlain_19 (by decide) ?_
        refine aw_icmp_eq (tgt := 32) dX7_isPlain_22 (by decide) (fun c22 => ?_) (fun c22 => ?_)
        · refine aw_iinc (v := nI (j + 1)) (lv2 := [(2, _), (3, _), (1, _), (0, _)]) dX7_isPlain_32 rfl (inc1 j) (by decide) rfl ?_
          refine aw_goto (tgt := 7) dX7_isPlain_35 (by decide) ?_
          exact aw_lv _ (List.forall_mem_cons.mpr ⟨rfl, List.forall_mem_cons.mpr ⟨rfl, List.forall_mem_cons.mpr ⟨rfl, fun _ h => absurd h List.not_mem_nil⟩⟩⟩) (ih (j + 1) (by omega) (fun i hi => by rcases Nat.lt_succ_iff_lt_or_eq.mp hi with q | q; exact hq i q; rw [q]; first | exact Or.inl c22 | exact Or.inr c27))
        · refine aw_iload_n dX7_isPlain_25 rfl ?_
          refine aw_iconst (v := (-1)) dX7_isPlain_26 (by decide) ?_
          refine aw_icmp_eq (tgt := 32) dX7_isPlain_27 (by decide) (fun c27 => ?_) (fun c27 => ?_)
          · refine aw_iinc (v := nI (j + 1)) (lv2 := [(2, _), (3, _), (1, _), (0, _)]) dX7_isPlain_32 rfl (inc1 j) (by decide) rfl ?_
            refine aw_goto (tgt := 7) dX7_isPlain_35 (by decide) ?_
            exact aw_lv _ (List.forall_mem_cons.mpr ⟨rfl, List.forall_mem_cons.mpr ⟨rfl, List.forall_mem_cons.mpr ⟨rfl, fun _ h => absurd h List.not_mem_nil⟩⟩⟩) (ih (j + 1) (by omega) (fun i hi => by rcases Nat.lt_succ_iff_lt_or_eq.mp hi with q | q; exact hq i q; rw [q]; first | exact Or.inl c22 | exact Or.inr c27))
          · refine aw_iconst (v := 0) dX7_isPlain_30 (by decide) ?_
            exact aw_zret dX7_isPlain_31 rfl (by decide) (Nat.zero_le _) (Nat.zero_le _) (Nat.zero_le _) (Nat.zero_le _) ⟨by rw [tI_f (fun q => (q j (by omega)).elim c22 c27)], rfl, rfl⟩
  refine aw_aload_n dX7_isPlain_0 rfl ?_
  refine aw_callV dX7_isPlain_1 hr cvX7_22 rfl (kX7_count h n r p w g hr) rfl (Nat.le_of_ble_eq_true rfl) (by decide) (by decide) (by decide) (by decide) (fun _ _ _ hf => False.elim hf) (fun r1 h1 n1 hp1 => ?_)
  obtain ⟨rfl, rfl, rfl⟩ := hp1
  refine aw_istore_n (lv2 := [(1, _), (0, _)]) dX7_isPlain_4 (by decide) rfl ?_
  refine aw_iconst (v := 0) dX7_isPlain_5 (by decide) ?_
  refine aw_istore_n (lv2 := [(2, _), (1, _), (0, _)]) dX7_isPlain_6 (by decide) rfl ?_
  exact (by have q := loop (w * g) 0 (by omega) (fun i hi => absurd hi (Nat.not_lt_zero i)); rw [nI_0] at q; exact q)
/-- the first N places v, the others as they were -/
def fillN (f : Nat → Int32) (N : Nat) (v : Int32) : Nat → Int32 := fun i => if i < N then v else f i
theorem fillN_0 (f : Nat → Int32) (v : Int32) : fillN f 0 v = f := by funext i; simp [fillN]
theorem fillN_s (f : Nat → Int32) (N : Nat) (v : Int32) : upd (fillN f N v) N v = fillN f (N + 1) v := by
  funext i
  unfold upd fillN
  by_cases h1 : i = N
  · rw [if_pos h1, if_pos (by omega)]
  · rw [if_neg h1]
    by_cases h2 : i < N
    · rw [if_pos h2, if_pos (by omega)]
    · rw [if_neg h2, if_neg (by omega)]
set_option maxHeartbeats 200000 in
set_option maxRecDepth 100000 in
theorem kX7_fill (h : aH) (n r p w g : Nat) (f : Nat → Int32) (hr : h r = oRas p w g) (hp : h p = oPix f) (v : Int32) (hb : w * g ≤ 4096) : AM mX7_fill 2 [.ref r, .int v] h n 0 0 0 0 (fun r1 h2 n2 => r1 = none ∧ h2 = va_up h p (oPix (fillN f (w * g) v)) ∧ n = n2) (noX) := by
  have npr : p ≠ r := ras_ne hr hp
  have nrp : r ≠ p := fun e => npr e.symm
  refine aw_of (by decide +kernel) rfl (Nat.le_of_ble_eq_true rfl) ?_
  have loop : ∀ (m j : Nat) (h1 : aH), j + m = w * g → h1 = va_up h p (oPix (fillN f j v)) → AW (fun _ _ => True) mX7_fill (rmD 2 0 0) 0 0 (fun r1 h2 n2 => r1 = none ∧ h2 = va_up h p (oPix (fillN f (w * g) v)) ∧ n = n2) (noX) 0 0 7 [(3, .int (nI j)), (2, .int (nI (w * g))), (0, .ref r), (1, .int v)] [] h1 n := by
    intro m
    induction m with
    | zero =>
      intro j h1 hj hq; subst hq
      refine aw_iload_n dX7_fill_7 rfl ?_
      refine aw_iload_n dX7_fill_8 rfl ?_
      refine aw_icmp_ge (tgt := 24) dX7_fill_9 (by decide) (fun c9 => ?_) (fun c9 => ?_)
      · exact aw_vret dX7_fill_24 rfl (Nat.zero_le _) (Nat.zero_le _) (Nat.zero_le _) (Nat.zero_le _) ⟨rfl, by rw [← hj]; rfl, rfl⟩
      · exact absurd (nI_le (by omega) (by omega)) c9
    | succ m ih =>
      intro j h1 hj hq; subst hq
      refine aw_iload_n dX7_fill_7 rfl ?_
      refine aw_iload_n dX7_fill_8 rfl ?_
      refine aw_icmp_ge (tgt := 24) dX7_fill_9 (by decide) (fun c9 => ?_) (fun c9 => ?_)
      · exact absurd c9 (nI_ge (by omega) (by omega))
      · refine aw_aload_n dX7_fill_12 rfl ?_
        refine aw_iload_n dX7_fill_13 rfl ?_
        refine aw_iload_n dX7_fill_14 rfl ?_
        refine aw_callV dX7_fill_15 ((va_up_ne _ _ nrp).trans hr) cvX7_26 rfl (kX7_set _ n r p w g (fillN f j v) ((va_up_ne _ _ nrp).trans hr) (va_up_self _ _ _) j v (by omega)) rfl (Nat.le_of_ble_eq_true rfl) (by decide) (by decide) (by decide) (by decide) (fun _ _ _ hf => False.elim hf) (fun r15 h15 n15 hp15 => ?_)
        obtain ⟨rfl, rfl, rfl⟩ := hp15
        refine aw_iinc (v := nI (j + 1)) (lv2 := [(3, _), (2, _), (0, _), (1, _)]) dX7_fill_18 rfl (inc1 j) (by decide) rfl ?_
        refine aw_goto (tgt := 7) dX7_fill_21 (by decide) ?_
        exact aw_lv _ (List.forall_mem_cons.mpr ⟨rfl, List.forall_mem_cons.mpr ⟨rfl, List.forall_mem_cons.mpr ⟨rfl, List.forall_mem_cons.mpr ⟨rfl, fun _ h => absurd h List.not_mem_nil⟩⟩⟩⟩) (ih (j + 1) _ (by omega) (by rw [va_up_up, fillN_s]))
  refine aw_aload_n dX7_fill_0 rfl ?_
  refine aw_callV dX7_fill_1 hr cvX7_22 rfl (kX7_count h n r p w g hr) rfl (Nat.le_of_ble_eq_true rfl) (by decide) (by decide) (by decide) (by decide) (fun _ _ _ hf => False.elim hf) (fun r1 h1 n1 hp1 => ?_)
  obtain ⟨rfl, rfl, rfl⟩ := hp1
  refine aw_istore_n (lv2 := [(2, _), (0, _), (1, _)]) dX7_fill_4 (by decide) rfl ?_
  refine aw_iconst (v := 0) dX7_fill_5 (by decide) ?_
  refine aw_istore_n (lv2 := [(3, _), (2, _), (0, _), (1, _)]) dX7_fill_6 (by decide) rfl ?_
  exact (by have q := loop (w * g) 0 h (by omega) (by rw [fillN_0, va_up_same hp]); rw [nI_0] at q; exact q)
