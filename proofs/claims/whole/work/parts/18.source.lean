def exISE : String := "java/lang/IllegalStateException"
abbrev oSrc (S s t : Nat) (ft fp : Int32) : Option ao := some (.inr (7, [.ref S, .int (nI s), .int (nI t), .int ft, .int fp]))
/-- the file is refused: what and where -/
def flt (h : aH) (n S s : Nat) (c p : Int32) : String → aH → Nat → Prop := fun E h2 n2 => E = exISE ∧ n = n2 ∧ ∃ t2 : Nat, h2 = va_up h 16 (oSrc S s t2 c p)
theorem flt_up {h h2 : aH} {x : Option ao} {n n2 S s : Nat} {c p : Int32} {E : String} (hf : flt (va_up h 16 x) n S s c p E h2 n2) : flt h n S s c p E h2 n2 := by
  obtain ⟨h1, h3, t2, h4⟩ := hf
  exact ⟨h1, h3, t2, by rw [h4, va_up_up]⟩
theorem src_ne {h : aH} {S s t : Nat} {ft fp : Int32} {f : Nat → Int32} (h16 : h 16 = oSrc S s t ft fp) (hS : h S = oBytes f) : S ≠ 16 := fun e => by
  rw [e, h16] at hS
  cases hS
theorem nlt_of {a b : Nat} (ha : a < 2 ^ 31) (hb : b < 2 ^ 31) (h : ¬ nI a < nI b) : ¬ a < b := fun q => h ((nI_ltI ha hb).mpr q)
theorem lt_of {a b : Nat} (ha : a < 2 ^ 31) (hb : b < 2 ^ 31) (h : nI a < nI b) : a < b := (nI_ltI ha hb).mp h
set_option maxHeartbeats 200000 in
set_option maxRecDepth 100000 in
theorem kX8_next (h : aH) (n S s t : Nat) (ft fp : Int32) (f : Nat → Int32) (h16 : h 16 = oSrc S s t ft fp) (hS : h S = oBytes f) (ht : t ≤ s) (hs : s ≤ 65536) : AM mX8_next 3 [.ref 16] h n 1 6 0 0 (fun r h2 n2 => r = some (.int (f t &&& 255)) ∧ t < s ∧ h2 = va_up h 16 (oSrc S s (t + 1) ft fp) ∧ n = n2) (fun E h2 n2 => ¬ t < s ∧ flt h n S s 1 (nI s) E h2 n2) := by
  have nS : S ≠ 16 := src_ne h16 hS
  refine aw_of (by decide +kernel) rfl (Nat.le_of_ble_eq_true rfl) ?_
  refine aw_aload_n dX8_next_0 rfl ?_
  refine aw_getf dX8_next_1 flX8_25_7 h16 rfl ?_
  refine aw_if_lt (tgt := 18) dX8_next_4 (by decide) (fun c4 => ?_) (fun c4 => ?_)
  · exact absurd c4 (nI_pos (by omega))
  · refine aw_aload_n dX8_next_7 rfl ?_
    refine aw_getf dX8_next_8 flX8_25_7 h16 rfl ?_
    refine aw_aload_n dX8_next_11 rfl ?_
    refine aw_getf dX8_next_12 flX8_22_7 h16 rfl ?_
    refine aw_icmp_lt (tgt := 41) dX8_next_15 (by decide) (fun c15 => ?_) (fun c15 => ?_)
    · refine aw_aload_n dX8_next_41 rfl ?_
      refine aw_getf dX8_next_42 flX8_15_7 h16 rfl ?_
      refine aw_aload_n dX8_next_45 rfl ?_
      refine aw_getf dX8_next_46 flX8_25_7 h16 rfl ?_
      refine aw_bald dX8_next_49 hS (vp_in_nI (Nat.lt_of_lt_of_le (lt_of (by omega) (by omega) c15) hs) (by decide)) ?_
      refine aw_sipush (v := 255) dX8_next_50 (by decide) ?_
      refine aw_iand dX8_next_53 ?_
      refine aw_istore_n (lv2 := [(1, _), (0, _)]) dX8_next_54 (by decide) rfl ?_
      refine aw_aload_n dX8_next_55 rfl ?_
      refine aw_dup dX8_next_56 rfl ?_
      refine aw_getf dX8_next_57 flX8_25_7 h16 rfl ?_
      refine aw_iconst (v := 1) dX8_next_60 (by decide) ?_
      refine aw_iadd dX8_next_61 ?_
      refine aw_putf dX8_next_62 ptX8_25_7  h16 (Nat.le_of_ble_eq_true rfl) ⟨rfl, rfl⟩ ?_
      refine aw_iload_n dX8_next_65 rfl ?_
      exact aw_iret dX8_next_66 rfl (Nat.zero_le _) (Nat.zero_le _) (Nat.zero_le _) (Nat.zero_le _) ⟨by rw [nI_clamp (by omega)], lt_of (by omega) (by omega) c15, by rw [nI_1]; rfl, rfl⟩
    · refine aw_aload_n dX8_next_18 rfl ?_
      refine aw_iconst (v := 1) dX8_next_19 (by decide) ?_
      refine aw_putf dX8_next_20 ptX8_28_7  h16 (Nat.le_of_ble_eq_true rfl) ⟨rfl, rfl⟩ ?_
      refine aw_aload_n dX8_next_23 rfl ?_
      refine aw_aload_n dX8_next_24 rfl ?_
      refine aw_getf dX8_next_25 flX8_22_7 (va_up_self _ _ _) rfl ?_
      refine aw_putf dX8_next_28 ptX8_31_7  (va_up_self _ _ _) (Nat.le_of_ble_eq_true rfl) ⟨rfl, rfl⟩ ?_
      exact aw_throw dX8_next_31 dX8_next_34 dX8_next_35 dX8_next_37 dX8_next_40 thX8_34_41_38 rfl (by decide) (Nat.le_of_ble_eq_true rfl) (by decide) (by decide) ⟨nlt_of (by omega) (by omega) c15, rfl, rfl, t, by rw [va_up_up]; rfl⟩
set_option maxHeartbeats 200000 in
set_option maxRecDepth 100000 in
theorem kX8_refuse (h : aH) (n S s t : Nat) (ft fp : Int32) (f : Nat → Int32) (h16 : h 16 = oSrc S s t ft fp) (hS : h S = oBytes f) (ht : t ≤ s) (hs : s ≤ 65536) (why whr : Int32) : AM mX8_refuse 3 [.ref 16, .int why, .int whr] h n 1 6 0 0 (fun _ _ _ => False) (flt h n S s why whr) := by
  have nS : S ≠ 16 := src_ne h16 hS
  refine aw_of (by decide +kernel) rfl (Nat.le_of_ble_eq_true rfl) ?_
  refine aw_aload_n dX8_refuse_0 rfl ?_
  refine aw_iload_n dX8_refuse_1 rfl ?_
  refine aw_putf dX8_refuse_2 ptX8_28_7  h16 (Nat.le_of_ble_eq_true rfl) ⟨rfl, rfl⟩ ?_
  refine aw_aload_n dX8_refuse_5 rfl ?_
  refine aw_iload_n dX8_refuse_6 rfl ?_
  refine aw_putf dX8_refuse_7 ptX8_31_7  (va_up_self _ _ _) (Nat.le_of_ble_eq_true rfl) ⟨rfl, rfl⟩ ?_
  exact aw_throw dX8_refuse_10 dX8_refuse_13 dX8_refuse_14 dX8_refuse_16 dX8_refuse_19 thX8_34_36_38 rfl (by decide) (Nat.le_of_ble_eq_true rfl) (by decide) (by decide) ⟨rfl, rfl, t, by rw [va_up_up]; rfl⟩
set_option maxHeartbeats 200000 in
set_option maxRecDepth 100000 in
theorem kX8_low2 (h : aH) (n S s t : Nat) (ft fp : Int32) (f : Nat → Int32) (h16 : h 16 = oSrc S s t ft fp) (hS : h S = oBytes f) (ht : t ≤ s) (hs : s ≤ 65536) : AM mX8_low2 4 [.ref 16] h n 1 6 0 0 (fun r h2 n2 => r = some (.int (((f (t + 1) &&& 255) <<< ((8 : Int32) &&& 31)) ||| (f t &&& 255))) ∧ t + 2 ≤ s ∧ h2 = va_up h 16 (oSrc S s (t + 2) ft fp) ∧ n = n2) (fun E h2 n2 => ¬ t + 2 ≤ s ∧ flt h n S s 1 (nI s) E h2 n2) := by
  have nS : S ≠ 16 := src_ne h16 hS
  refine aw_of (by decide +kernel) rfl (Nat.le_of_ble_eq_true rfl) ?_
  refine aw_aload_n dX8_low2_0 rfl ?_
  refine aw_callV dX8_low2_1 h16 cvX8_43 rfl (kX8_next h n S s t ft fp f h16 hS ht hs) rfl (Nat.le_of_ble_eq_true rfl) (by decide) (by decide) (by decide) (by decide) (fun E h2 n2 hx => aw_out rfl (by decide) (by decide) ⟨fun q => hx.1 (by omega), hx.2⟩) (fun r1 h1 n1 hp1 => ?_)
  obtain ⟨rfl, lt1, hh1, rfl⟩ := hp1
  subst hh1
  refine aw_istore_n (lv2 := [(1, _), (0, _)]) dX8_low2_4 (by decide) rfl ?_
  refine aw_aload_n dX8_low2_5 rfl ?_
  refine aw_callV dX8_low2_6 (va_up_self _ _ _) cvX8_43 rfl (kX8_next _ n S s (t + 1) ft fp f (va_up_self _ _ _) ((va_up_ne _ _ nS).trans hS) (by omega) hs) rfl (Nat.le_of_ble_eq_true rfl) (by decide) (by decide) (by decide) (by decide) (fun E h2 n2 hx => aw_out rfl (by decide) (by decide) ⟨fun q => hx.1 (by omega), flt_up hx.2⟩) (fun r6 h6 n6 hp6 => ?_)
  obtain ⟨rfl, lt6, hh6, rfl⟩ := hp6
  rw [va_up_up] at hh6
  subst hh6
  refine aw_bipush (v := 8) dX8_low2_9 (by decide) ?_
  refine aw_ishl dX8_low2_11 ?_
  refine aw_iload_n dX8_low2_12 rfl ?_
  refine aw_ior dX8_low2_13 ?_
  exact aw_iret dX8_low2_14 rfl (Nat.zero_le _) (Nat.zero_le _) (Nat.zero_le _) (Nat.zero_le _) ⟨rfl, by omega, rfl, rfl⟩
def lo2 (f : Nat → Int32) (t : Nat) : Int32 := ((f (t + 1) &&& 255) <<< ((8 : Int32) &&& 31)) ||| (f t &&& 255)
def lo4 (f : Nat → Int32) (t : Nat) : Int32 := (lo2 f (t + 2) <<< ((16 : Int32) &&& 31)) ||| lo2 f t
set_option maxHeartbeats 200000 in
set_option maxRecDepth 100000 in
theorem kX8_low4 (h : aH) (n S s t : Nat) (ft fp : Int32) (f : Nat → Int32) (h16 : h 16 = oSrc S s t ft fp) (hS : h S = oBytes f) (ht : t ≤ s) (hs : s ≤ 65536) : AM mX8_low4 5 [.ref 16] h n 1 6 0 0 (fun r h2 n2 => r = some (.int (lo4 f t)) ∧ t + 4 ≤ s ∧ h2 = va_up h 16 (oSrc S s (t + 4) ft fp) ∧ n = n2) (fun E h2 n2 => ¬ t + 4 ≤ s ∧ flt h n S s 1 (nI s) E h2 n2) := by
  have nS : S ≠ 16 := src_ne h16 hS
  refine aw_of (by decide +kernel) rfl (Nat.le_of_ble_eq_true rfl) ?_
  refine aw_aload_n dX8_low4_0 rfl ?_
  refine aw_callV dX8_low4_1 h16 cvX8_47 rfl (kX8_low2 h n S s t ft fp f h16 hS ht hs) rfl (Nat.le_of_ble_eq_true rfl) (by decide) (by decide) (by decide) (by decide) (fun E h2 n2 hx => aw_out rfl (by decide) (by decide) ⟨fun q => hx.1 (by omega), hx.2⟩) (fun r1 h1 n1 hp1 => ?_)
  obtain ⟨rfl, lt1, hh1, rfl⟩ := hp1
  subst hh1
  refine aw_istore_n (lv2 := [(1, _), (0, _)]) dX8_low4_4 (by decide) rfl ?_
  refine aw_aload_n dX8_low4_5 rfl ?_
  refine aw_callV dX8_low4_6 (va_up_self _ _ _) cvX8_47 rfl (kX8_low2 _ n S s (t + 2) ft fp f (va_up_self _ _ _) ((va_up_ne _ _ nS).trans hS) (by omega) hs) rfl (Nat.le_of_ble_eq_true rfl) (by decide) (by decide) (by decide) (by decide) (fun E h2 n2 hx => aw_out rfl (by decide) (by decide) ⟨fun q => hx.1 (by omega), flt_up hx.2⟩) (fun r6 h6 n6 hp6 => ?_)
  obtain ⟨rfl, lt6, hh6, rfl⟩ := hp6
  rw [va_up_up] at hh6
  subst hh6
  refine aw_bipush (v := 16) dX8_low4_9 (by decide) ?_
  refine aw_ishl dX8_low4_11 ?_
  refine aw_iload_n dX8_low4_12 rfl ?_
  refine aw_ior dX8_low4_13 ?_
  exact aw_iret dX8_low4_14 rfl (Nat.zero_le _) (Nat.zero_le _) (Nat.zero_le _) (Nat.zero_le _) ⟨rfl, by omega, rfl, rfl⟩
set_option maxHeartbeats 200000 in
set_option maxRecDepth 100000 in
theorem kX8_want (h : aH) (n S s t : Nat) (ft fp : Int32) (f : Nat → Int32) (h16 : h 16 = oSrc S s t ft fp) (hS : h S = oBytes f) (ht : t ≤ s) (hs : s ≤ 65536) (v : Int32) : AM mX8_want 4 [.ref 16, .int v] h n 1 6 0 0 (fun r h2 n2 => r = none ∧ t < s ∧ f t &&& 255 = v ∧ h2 = va_up h 16 (oSrc S s (t + 1) ft fp) ∧ n = n2) (fun E h2 n2 => (¬ t + 1 ≤ s ∧ flt h n S s 1 (nI s) E h2 n2) ∨ (t + 1 ≤ s ∧ ¬ (f t &&& 255) = v ∧ flt h n S s 2 (nI t) E h2 n2)) := by
  have nS : S ≠ 16 := src_ne h16 hS
  refine aw_of (by decide +kernel) rfl (Nat.le_of_ble_eq_true rfl) ?_
  refine aw_aload_n dX8_want_0 rfl ?_
  refine aw_getf dX8_want_1 flX8_25_7 h16 rfl ?_
  refine aw_istore_n (lv2 := [(2, _), (0, _), (1, _)]) dX8_want_4 (by decide) rfl ?_
  refine aw_aload_n dX8_want_5 rfl ?_
  refine aw_callV dX8_want_6 h16 cvX8_43 rfl (kX8_next h n S s t ft fp f h16 hS ht hs) rfl (Nat.le_of_ble_eq_true rfl) (by decide) (by decide) (by decide) (by decide) (fun E h2 n2 hx => aw_out rfl (by decide) (by decide) (Or.inl ⟨fun q => hx.1 (by omega), hx.2⟩)) (fun r6 h6 n6 hp6 => ?_)
  obtain ⟨rfl, lt6, hh6, rfl⟩ := hp6
  subst hh6
  refine aw_iload_n dX8_want_9 rfl ?_
  refine aw_icmp_eq (tgt := 19) dX8_want_10 (by decide) (fun c10 => ?_) (fun c10 => ?_)
  · exact aw_vret dX8_want_19 rfl (Nat.zero_le _) (Nat.zero_le _) (Nat.zero_le _) (Nat.zero_le _) ⟨rfl, lt6, c10, rfl, rfl⟩
  · refine aw_aload_n dX8_want_13 rfl ?_
    refine aw_iconst (v := 2) dX8_want_14 (by decide) ?_
    refine aw_iload_n dX8_want_15 rfl ?_
    exact aw_callV dX8_want_16 (va_up_self _ _ _) cvX8_50 rfl (kX8_refuse _ n S s (t + 1) ft fp f (va_up_self _ _ _) ((va_up_ne _ _ nS).trans hS) (by omega) hs 2 (nI t)) rfl (Nat.le_of_ble_eq_true rfl) (by decide) (by decide) (by decide) (by decide) (fun E h2 n2 hx => aw_out rfl (by decide) (by decide) (Or.inr ⟨by omega, c10, flt_up hx⟩)) (fun _ _ _ hf => False.elim hf)
set_option maxHeartbeats 200000 in
set_option maxRecDepth 100000 in
theorem kX8_wantLow4 (h : aH) (n S s t : Nat) (ft fp : Int32) (f : Nat → Int32) (h16 : h 16 = oSrc S s t ft fp) (hS : h S = oBytes f) (ht : t ≤ s) (hs : s ≤ 65536) (v : Int32) : AM mX8_wantLow4 6 [.ref 16, .int v] h n 1 6 0 0 (fun r h2 n2 => r = none ∧ t + 4 ≤ s ∧ lo4 f t = v ∧ h2 = va_up h 16 (oSrc S s (t + 4) ft fp) ∧ n = n2) (fun E h2 n2 => (¬ t + 4 ≤ s ∧ flt h n S s 1 (nI s) E h2 n2) ∨ (t + 4 ≤ s ∧ ¬ lo4 f t = v ∧ flt h n S s 2 (nI t) E h2 n2)) := by
  have nS : S ≠ 16 := src_ne h16 hS
  refine aw_of (by decide +kernel) rfl (Nat.le_of_ble_eq_true rfl) ?_
  refine aw_aload_n dX8_wantLow4_0 rfl ?_
  refine aw_getf dX8_wantLow4_1 flX8_25_7 h16 rfl ?_
  refine aw_istore_n (lv2 := [(2, _), (0, _), (1, _)]) dX8_wantLow4_4 (by decide) rfl ?_
  refine aw_aload_n dX8_wantLow4_5 rfl ?_
  refine aw_callV dX8_wantLow4_6 h16 cvX8_54 rfl (kX8_low4 h n S s t ft fp f h16 hS ht hs) rfl (Nat.le_of_ble_eq_true rfl) (by decide) (by decide) (by decide) (by decide) (fun E h2 n2 hx => aw_out rfl (by decide) (by decide) (Or.inl hx)) (fun r6 h6 n6 hp6 => ?_)
  obtain ⟨rfl, lt6, rfl, rfl⟩ := hp6
  refine aw_iload_n dX8_wantLow4_9 rfl ?_
  refine aw_icmp_eq (tgt := 19) dX8_wantLow4_10 (by decide) (fun c10 => ?_) (fun c10 => ?_)
  · exact aw_vret dX8_wantLow4_19 rfl (Nat.zero_le _) (Nat.zero_le _) (Nat.zero_le _) (Nat.zero_le _) ⟨rfl, lt6, c10, rfl, rfl⟩
  · refine aw_aload_n dX8_wantLow4_13 rfl ?_
    refine aw_iconst (v := 2) dX8_wantLow4_14 (by decide) ?_
    refine aw_iload_n dX8_wantLow4_15 rfl ?_
    exact aw_callV dX8_wantLow4_16 (va_up_self _ _ _) cvX8_50 rfl (kX8_refuse _ n S s (t + 4) ft fp f (va_up_self _ _ _) ((va_up_ne _ _ nS).trans hS) (by omega) hs 2 (nI t)) rfl (Nat.le_of_ble_eq_true rfl) (by decide) (by decide) (by decide) (by decide) (fun E h2 n2 hx => aw_out rfl (by decide) (by decide) (Or.inr ⟨by omega, c10, flt_up hx⟩)) (fun _ _ _ hf => False.elim hf)
set_option maxHeartbeats 200000 in
set_option maxRecDepth 100000 in
theorem kX8_wantEnd (h : aH) (n S s t : Nat) (ft fp : Int32) (f : Nat → Int32) (h16 : h 16 = oSrc S s t ft fp) (hS : h S = oBytes f) (ht : t ≤ s) (hs : s ≤ 65536) : AM mX8_wantEnd 4 [.ref 16] h n 1 6 0 0 (fun r h2 n2 => r = none ∧ t = s ∧ h = h2 ∧ n = n2) (fun E h2 n2 => t < s ∧ flt h n S s 5 (nI t) E h2 n2) := by
  have nS : S ≠ 16 := src_ne h16 hS
  refine aw_of (by decide +kernel) rfl (Nat.le_of_ble_eq_true rfl) ?_
  refine aw_aload_n dX8_wantEnd_0 rfl ?_
  refine aw_getf dX8_wantEnd_1 flX8_25_7 h16 rfl ?_
  refine aw_aload_n dX8_wantEnd_4 rfl ?_
  refine aw_getf dX8_wantEnd_5 flX8_22_7 h16 rfl ?_
  refine aw_icmp_ge (tgt := 20) dX8_wantEnd_8 (by decide) (fun c8 => ?_) (fun c8 => ?_)
  · exact aw_vret dX8_wantEnd_20 rfl (Nat.zero_le _) (Nat.zero_le _) (Nat.zero_le _) (Nat.zero_le _) ⟨rfl, by have := (nI_leI (a := s) (b := t) (by omega) (by omega)).mp c8; omega, rfl, rfl⟩
  · refine aw_aload_n dX8_wantEnd_11 rfl ?_
    refine aw_iconst (v := 5) dX8_wantEnd_12 (by decide) ?_
    refine aw_aload_n dX8_wantEnd_13 rfl ?_
    refine aw_getf dX8_wantEnd_14 flX8_25_7 h16 rfl ?_
    exact aw_callV dX8_wantEnd_17 h16 cvX8_50 rfl (kX8_refuse h n S s t ft fp f h16 hS ht hs 5 (nI t)) rfl (Nat.le_of_ble_eq_true rfl) (by decide) (by decide) (by decide) (by decide) (fun E h2 n2 hx => aw_out rfl (by decide) (by decide) ⟨by rcases Nat.lt_or_ge t s with q | q; exact q; exact absurd (nI_le q (by omega)) c8, hx⟩) (fun _ _ _ hf => False.elim hf)
def pkB (f : Nat → Int32) (s t : Nat) : Int32 := if t < s then f t &&& 255 else -1
set_option maxHeartbeats 200000 in
set_option maxRecDepth 100000 in
theorem kX8_peek (h : aH) (n S s t : Nat) (ft fp : Int32) (f : Nat → Int32) (h16 : h 16 = oSrc S s t ft fp) (hS : h S = oBytes f) (ht : t ≤ s) (hs : s ≤ 65536) : AM mX8_peek 1 [.ref 16] h n 0 0 0 0 (isV (.int (pkB f s t)) h n) (noX) := by
  refine aw_of (by decide +kernel) rfl (Nat.le_of_ble_eq_true rfl) ?_
  refine aw_aload_n dX8_peek_0 rfl ?_
  refine aw_getf dX8_peek_1 flX8_25_7 h16 rfl ?_
  refine aw_if_lt (tgt := 34) dX8_peek_4 (by decide) (fun c4 => ?_) (fun c4 => ?_)
  · exact absurd c4 (nI_pos (by omega))
  · refine aw_aload_n dX8_peek_7 rfl ?_
    refine aw_getf dX8_peek_8 flX8_25_7 h16 rfl ?_
    refine aw_aload_n dX8_peek_11 rfl ?_
    refine aw_getf dX8_peek_12 flX8_22_7 h16 rfl ?_
    refine aw_icmp_ge (tgt := 34) dX8_peek_15 (by decide) (fun c15 => ?_) (fun c15 => ?_)
    · refine aw_iconst (v := (-1)) dX8_peek_34 (by decide) ?_
      exact aw_iret dX8_peek_35 rfl (Nat.zero_le _) (Nat.zero_le _) (Nat.zero_le _) (Nat.zero_le _) (by first | exact ⟨by unfold pkB; rw [if_neg (by have := (nI_leI (a := s) (b := t) (by omega) (by omega)).mp c15; omega)], rfl, rfl⟩ | exact ⟨by unfold pkB; rw [if_pos (by rcases Nat.lt_or_ge t s with q | q; exact q; exact absurd (nI_le q (by omega)) c15), nI_clamp (by omega)], rfl, rfl⟩)
    · refine aw_aload_n dX8_peek_18 rfl ?_
      refine aw_getf dX8_peek_19 flX8_15_7 h16 rfl ?_
      refine aw_aload_n dX8_peek_22 rfl ?_
      refine aw_getf dX8_peek_23 flX8_25_7 h16 rfl ?_
      refine aw_bald dX8_peek_26 hS (vp_in_nI (by rcases Nat.lt_or_ge t s with q | q; omega; exact absurd (nI_le q (by omega)) c15) (by decide)) ?_
      refine aw_sipush (v := 255) dX8_peek_27 (by decide) ?_
      refine aw_iand dX8_peek_30 ?_
      refine aw_goto (tgt := 35) dX8_peek_31 (by decide) ?_
      exact aw_iret dX8_peek_35 rfl (Nat.zero_le _) (Nat.zero_le _) (Nat.zero_le _) (Nat.zero_le _) (by first | exact ⟨by unfold pkB; rw [if_neg (by have := (nI_leI (a := s) (b := t) (by omega) (by omega)).mp c15; omega)], rfl, rfl⟩ | exact ⟨by unfold pkB; rw [if_pos (by rcases Nat.lt_or_ge t s with q | q; exact q; exact absurd (nI_le q (by omega)) c15), nI_clamp (by omega)], rfl, rfl⟩)
set_option maxHeartbeats 200000 in
set_option maxRecDepth 100000 in
theorem kX8_open (h : aH) (n S s t o a k : Nat) (ft fp : Int32) (f : Nat → Int32) (h16 : h 16 = some (.inr (7, [.ref S, .int (nI s), .int (nI t), .int ft, .int fp]))) (ho : h o = oRow a k) (hn : o ≠ 16) : AM mX8_open 1 [.ref 16, .ref o] h n 0 0 0 0 (fun r h2 n2 => r = none ∧ h2 = va_up h 16 (oSrc a k 0 0 (-1)) ∧ n = n2) (noX) := by
  refine aw_of (by decide +kernel) rfl (Nat.le_of_ble_eq_true rfl) ?_
  refine aw_aload_n dX8_open_0 rfl ?_
  refine aw_aload_n dX8_open_1 rfl ?_
  refine aw_getf dX8_open_2 flX8_9_1 ho rfl ?_
  refine aw_putf dX8_open_5 ptX8_15_7  h16 (Nat.le_of_ble_eq_true rfl) (fun _ => ⟨rfl, rfl⟩) ?_
  refine aw_aload_n dX8_open_8 rfl ?_
  refine aw_aload_n dX8_open_9 rfl ?_
  refine aw_getf dX8_open_10 flX8_18_1 ((va_up_ne _ _ hn).trans ho) rfl ?_
  refine aw_putf dX8_open_13 ptX8_22_7  (va_up_self _ _ _) (Nat.le_of_ble_eq_true rfl) ⟨rfl, rfl⟩ ?_
  refine aw_aload_n dX8_open_16 rfl ?_
  refine aw_iconst (v := 0) dX8_open_17 (by decide) ?_
  refine aw_putf dX8_open_18 ptX8_25_7  (va_up_self _ _ _) (Nat.le_of_ble_eq_true rfl) ⟨rfl, rfl⟩ ?_
  refine aw_aload_n dX8_open_21 rfl ?_
  refine aw_iconst (v := 0) dX8_open_22 (by decide) ?_
  refine aw_putf dX8_open_23 ptX8_28_7  (va_up_self _ _ _) (Nat.le_of_ble_eq_true rfl) ⟨rfl, rfl⟩ ?_
  refine aw_aload_n dX8_open_26 rfl ?_
  refine aw_iconst (v := (-1)) dX8_open_27 (by decide) ?_
  refine aw_putf dX8_open_28 ptX8_31_7  (va_up_self _ _ _) (Nat.le_of_ble_eq_true rfl) ⟨rfl, rfl⟩ ?_
  exact aw_vret dX8_open_31 rfl (Nat.zero_le _) (Nat.zero_le _) (Nat.zero_le _) (Nat.zero_le _) ⟨rfl, by simp only [va_up_up]; show _ = va_up h 16 (some (.inr (7, [.ref a, .int (nI k), .int (nI 0), .int 0, .int (-1)]))); rw [nI_0]; rfl, rfl⟩
set_option maxHeartbeats 200000 in
set_option maxRecDepth 100000 in
theorem kX8_pass (h : aH) (n S s t : Nat) (ft fp : Int32) (f : Nat → Int32) (h16 : h 16 = oSrc S s t ft fp) (hS : h S = oBytes f) (ht : t ≤ s) (hs : s ≤ 65536) (m : Nat) (hm : m < 2 ^ 31) : AM mX8_pass 4 [.ref 16, .int (nI m)] h n 1 6 0 0 (fun r h2 n2 => r = none ∧ t + m ≤ s ∧ h2 = va_up h 16 (oSrc S s (t + m) ft fp) ∧ n = n2) (fun E h2 n2 => ¬ t + m ≤ s ∧ flt h n S s 1 (nI s) E h2 n2) := by
  have nS : S ≠ 16 := src_ne h16 hS
  refine aw_of (by decide +kernel) rfl (Nat.le_of_ble_eq_true rfl) ?_
  have loop : ∀ (i j : Nat) (h1 : aH), j + i = m → t + j ≤ s → h1 = va_up h 16 (oSrc S s (t + j) ft fp) → AW (fun _ _ => True) mX8_pass (rmD 4 1 6) 0 0 (fun r h2 n2 => r = none ∧ t + m ≤ s ∧ h2 = va_up h 16 (oSrc S s (t + m) ft fp) ∧ n = n2) (fun E h2 n2 => ¬ t + m ≤ s ∧ flt h n S s 1 (nI s) E h2 n2) 0 0 2 [(2, .int (nI j)), (0, .ref 16), (1, .int (nI m))] [] h1 n := by
    intro i
    induction i with
    | zero =>
      intro j h1 hj hq he; subst he
      refine aw_iload_n dX8_pass_2 rfl ?_
      refine aw_iload_n dX8_pass_3 rfl ?_
      refine aw_icmp_ge (tgt := 18) dX8_pass_4 (by decide) (fun c4 => ?_) (fun c4 => ?_)
      · exact aw_vret dX8_pass_18 rfl (Nat.zero_le _) (Nat.zero_le _) (Nat.zero_le _) (Nat.zero_le _) ⟨rfl, by omega, by rw [show t + j = t + m by omega], rfl⟩
      · exact absurd (nI_le (by omega) (by omega)) c4
    | succ i ih =>
      intro j h1 hj hq he; subst he
      refine aw_iload_n dX8_pass_2 rfl ?_
      refine aw_iload_n dX8_pass_3 rfl ?_
      refine aw_icmp_ge (tgt := 18) dX8_pass_4 (by decide) (fun c4 => ?_) (fun c4 => ?_)
      · exact absurd c4 (nI_ge (by omega) (by omega))
      · refine aw_aload_n dX8_pass_7 rfl ?_
        refine aw_callV dX8_pass_8 (va_up_self _ _ _) cvX8_43 rfl (kX8_next _ n S s (t + j) ft fp f (va_up_self _ _ _) ((va_up_ne _ _ nS).trans hS) (by omega) hs) rfl (Nat.le_of_ble_eq_true rfl) (by decide) (by decide) (by decide) (by decide) (fun E h2 n2 hx => aw_out rfl (by decide) (by decide) ⟨fun q => hx.1 (by omega), flt_up hx.2⟩) (fun r8 h8 n8 hp8 => ?_)
        obtain ⟨rfl, lt8, hh8, rfl⟩ := hp8
        rw [va_up_up] at hh8
        subst hh8
        refine aw_pop dX8_pass_11 rfl ?_
        refine aw_iinc (v := nI (j + 1)) (lv2 := [(2, _), (0, _), (1, _)]) dX8_pass_12 rfl (inc1 j) (by decide) rfl ?_
        refine aw_goto (tgt := 2) dX8_pass_15 (by decide) ?_
        exact aw_lv _ (List.forall_mem_cons.mpr ⟨rfl, List.forall_mem_cons.mpr ⟨rfl, List.forall_mem_cons.mpr ⟨rfl, fun _ h => absurd h List.not_mem_nil⟩⟩⟩) (ih (j + 1) _ (by omega) (by omega) rfl)
  refine aw_iconst (v := 0) dX8_pass_0 (by decide) ?_
  refine aw_istore_n (lv2 := [(2, _), (0, _), (1, _)]) dX8_pass_1 (by decide) rfl ?_
  exact (by have q := loop m 0 h (by omega) (by omega) (by rw [Nat.add_zero]; exact (va_up_same h16).symm); rw [nI_0] at q; exact q)
def Big (w g : Int64) : Prop := 4096 < w ∨ 4096 < g ∨ 4096 < w * g
set_option maxHeartbeats 200000 in
set_option maxRecDepth 100000 in
theorem kX10_isTooLarge (h : aH) (n : Nat) (w g : Int64) : AM mX10_isTooLarge 1 [.long w, .long g] h n 0 0 0 0 (isV (.int (tI (Big w g))) h n) (noX) := by
  refine aw_of (by decide +kernel) rfl (Nat.le_of_ble_eq_true rfl) ?_
  refine aw_lload_n dX10_isTooLarge_0 rfl ?_
  refine aw_ldc2 dX10_isTooLarge_1 kcX10_228 ?_
  refine aw_lcmp dX10_isTooLarge_4 ?_
  refine aw_if_gt (tgt := 26) dX10_isTooLarge_5 (by decide) (fun c5 => ?_) (fun c5 => ?_)
  · refine aw_iconst (v := 1) dX10_isTooLarge_26 (by decide) ?_
    refine aw_goto (tgt := 31) dX10_isTooLarge_27 (by decide) ?_
    exact aw_zret dX10_isTooLarge_31 rfl (by decide) (Nat.zero_le _) (Nat.zero_le _) (Nat.zero_le _) (Nat.zero_le _) (by first | exact ⟨rT (Or.inl ((lg_cmp_gt _ _).mp c5)), rfl, rfl⟩ | exact ⟨rT (Or.inr (Or.inl ((lg_cmp_gt _ _).mp c13))), rfl, rfl⟩ | exact ⟨rT (Or.inr (Or.inr (Int64.not_le.mp (fun q => c23 ((lg_cmp_le _ _).mpr q))))), rfl, rfl⟩ | exact ⟨rF (fun q => q.elim (fun q => c5 ((lg_cmp_gt _ _).mpr q)) (fun q => q.elim (fun q => c13 ((lg_cmp_gt _ _).mpr q)) (fun q => absurd q (Int64.not_lt.mpr ((lg_cmp_le _ _).mp c23))))), rfl, rfl⟩)
  · refine aw_lload_n dX10_isTooLarge_8 rfl ?_
    refine aw_ldc2 dX10_isTooLarge_9 kcX10_228 ?_
    refine aw_lcmp dX10_isTooLarge_12 ?_
    refine aw_if_gt (tgt := 26) dX10_isTooLarge_13 (by decide) (fun c13 => ?_) (fun c13 => ?_)
    · refine aw_iconst (v := 1) dX10_isTooLarge_26 (by decide) ?_
      refine aw_goto (tgt := 31) dX10_isTooLarge_27 (by decide) ?_
      exact aw_zret dX10_isTooLarge_31 rfl (by decide) (Nat.zero_le _) (Nat.zero_le _) (Nat.zero_le _) (Nat.zero_le _) (by first | exact ⟨rT (Or.inl ((lg_cmp_gt _ _).mp c5)), rfl, rfl⟩ | exact ⟨rT (Or.inr (Or.inl ((lg_cmp_gt _ _).mp c13))), rfl, rfl⟩ | exact ⟨rT (Or.inr (Or.inr (Int64.not_le.mp (fun q => c23 ((lg_cmp_le _ _).mpr q))))), rfl, rfl⟩ | exact ⟨rF (fun q => q.elim (fun q => c5 ((lg_cmp_gt _ _).mpr q)) (fun q => q.elim (fun q => c13 ((lg_cmp_gt _ _).mpr q)) (fun q => absurd q (Int64.not_lt.mpr ((lg_cmp_le _ _).mp c23))))), rfl, rfl⟩)
    · refine aw_lload_n dX10_isTooLarge_16 rfl ?_
      refine aw_lload_n dX10_isTooLarge_17 rfl ?_
      refine aw_lmul dX10_isTooLarge_18 ?_
      refine aw_ldc2 dX10_isTooLarge_19 kcX10_228 ?_
      refine aw_lcmp dX10_isTooLarge_22 ?_
      refine aw_if_le (tgt := 30) dX10_isTooLarge_23 (by decide) (fun c23 => ?_) (fun c23 => ?_)
      · refine aw_iconst (v := 0) dX10_isTooLarge_30 (by decide) ?_
        exact aw_zret dX10_isTooLarge_31 rfl (by decide) (Nat.zero_le _) (Nat.zero_le _) (Nat.zero_le _) (Nat.zero_le _) (by first | exact ⟨rT (Or.inl ((lg_cmp_gt _ _).mp c5)), rfl, rfl⟩ | exact ⟨rT (Or.inr (Or.inl ((lg_cmp_gt _ _).mp c13))), rfl, rfl⟩ | exact ⟨rT (Or.inr (Or.inr (Int64.not_le.mp (fun q => c23 ((lg_cmp_le _ _).mpr q))))), rfl, rfl⟩ | exact ⟨rF (fun q => q.elim (fun q => c5 ((lg_cmp_gt _ _).mpr q)) (fun q => q.elim (fun q => c13 ((lg_cmp_gt _ _).mpr q)) (fun q => absurd q (Int64.not_lt.mpr ((lg_cmp_le _ _).mp c23))))), rfl, rfl⟩)
      · refine aw_iconst (v := 1) dX10_isTooLarge_26 (by decide) ?_
        refine aw_goto (tgt := 31) dX10_isTooLarge_27 (by decide) ?_
        exact aw_zret dX10_isTooLarge_31 rfl (by decide) (Nat.zero_le _) (Nat.zero_le _) (Nat.zero_le _) (Nat.zero_le _) (by first | exact ⟨rT (Or.inl ((lg_cmp_gt _ _).mp c5)), rfl, rfl⟩ | exact ⟨rT (Or.inr (Or.inl ((lg_cmp_gt _ _).mp c13))), rfl, rfl⟩ | exact ⟨rT (Or.inr (Or.inr (Int64.not_le.mp (fun q => c23 ((lg_cmp_le _ _).mpr q))))), rfl, rfl⟩ | exact ⟨rF (fun q => q.elim (fun q => c5 ((lg_cmp_gt _ _).mpr q)) (fun q => q.elim (fun q => c13 ((lg_cmp_gt _ _).mpr q)) (fun q => absurd q (Int64.not_lt.mpr ((lg_cmp_le _ _).mp c23))))), rfl, rfl⟩)
