abbrev oFour (f : Nat → Int32) : Option ao := some (.inl (.int, 4, .inl f))
abbrev oDots (f : Nat → Int32) : Option ao := some (.inl (.int, 16384, .inl f))
set_option maxHeartbeats 200000 in
set_option maxRecDepth 100000 in
theorem kX11_pixelAt (h : aH) (n : Nat) (sv : Value) (g wf hf : Nat → Int32) (Wd Hg : Nat → Nat) (hM : h 31 = oM sv g) (h35 : h 35 = oFour wf) (h36 : h 36 = oFour hf) (hw : ∀ i, i < 4 → wf i = nI (Wd i)) (hh : ∀ i, i < 4 → hf i = nI (Hg i)) (hW : ∀ i, i < 4 → Wd i ≤ 4096) (x a b : Int32) : AM mX11_pixelAt 2 [.ref 31, .int x, .int a, .int b] h n 0 0 0 0 (fun r h2 n2 => ((Has Wd x ∧ Ins Wd Hg x a b ∧ r = some (.int (4096 * x + nI (Wd x.toNatClampNeg) * b + a)) ∧ h = h2) ∨ (¬ Has Wd x ∧ r = some (.int (-1)) ∧ h2 = va_up h 31 (oM sv (upd g 8 1))) ∨ (Has Wd x ∧ ¬ Ins Wd Hg x a b ∧ r = some (.int (-1)) ∧ h2 = va_up h 31 (oM sv (upd g 8 2)))) ∧ n = n2) (noX) := by
  refine aw_of (by decide +kernel) rfl (Nat.le_of_ble_eq_true rfl) ?_
  refine aw_iload_n dX11_pixelAt_0 rfl ?_
  refine aw_callS dX11_pixelAt_1  csX11_245 rfl (kX11_isShelf h n x) rfl (Nat.le_of_ble_eq_true rfl) (by decide) (by decide) (by decide) (by decide) (fun _ _ _ hf => False.elim hf) (fun r1 h1 n1 hp1 => ?_)
  obtain ⟨rfl, rfl, rfl⟩ := hp1
  refine aw_if_eq (tgt := 16) dX11_pixelAt_4 (by decide) (fun c4 => ?_) (fun c4 => ?_)
  · refine aw_aload_n dX11_pixelAt_16 rfl ?_
    refine aw_iconst (v := 1) dX11_pixelAt_17 (by decide) ?_
    refine aw_putf dX11_pixelAt_18 ptX11_61_10  hM (Nat.le_of_ble_eq_true rfl) ⟨rfl, rfl⟩ ?_
    refine aw_iconst (v := (-1)) dX11_pixelAt_21 (by decide) ?_
    exact aw_iret dX11_pixelAt_22 rfl (Nat.zero_le _) (Nat.zero_le _) (Nat.zero_le _) (Nat.zero_le _) ⟨Or.inr (Or.inl ⟨by first | exact fun q => tI_of0 c4 q.1 | exact fun q => q.2 ((nI_eq (b := 0) (Nat.lt_of_le_of_lt (hW _ (shelf_lt (tI_ofn c4))) (by decide)) (by decide)).mp (by rw [← hw _ (shelf_lt (tI_ofn c4))]; exact c13.trans nI_0.symm)), rfl, rfl⟩), rfl⟩
  · refine aw_aload_n dX11_pixelAt_7 rfl ?_
    refine aw_getf dX11_pixelAt_8 flX11_21_10 hM rfl ?_
    refine aw_iload_n dX11_pixelAt_11 rfl ?_
    refine aw_iald dX11_pixelAt_12 h35 (shelf_in (tI_ofn c4)) ?_
    refine aw_if_ne (tgt := 23) dX11_pixelAt_13 (by decide) (fun c13 => ?_) (fun c13 => ?_)
    · refine aw_iload_n dX11_pixelAt_23 rfl ?_
      refine aw_if_lt (tgt := 51) dX11_pixelAt_24 (by decide) (fun c24 => ?_) (fun c24 => ?_)
      · refine aw_aload_n dX11_pixelAt_51 rfl ?_
        refine aw_iconst (v := 2) dX11_pixelAt_52 (by decide) ?_
        refine aw_putf dX11_pixelAt_53 ptX11_61_10  hM (Nat.le_of_ble_eq_true rfl) ⟨rfl, rfl⟩ ?_
        refine aw_iconst (v := (-1)) dX11_pixelAt_56 (by decide) ?_
        exact aw_iret dX11_pixelAt_57 rfl (Nat.zero_le _) (Nat.zero_le _) (Nat.zero_le _) (Nat.zero_le _) ⟨Or.inr (Or.inr ⟨⟨tI_ofn c4, fun e => c13 (by rw [hw _ (shelf_lt (tI_ofn c4)), e]; exact nI_0)⟩, by first | exact fun q => absurd c24 (Int32.not_lt.mpr q.1) | exact fun q => absurd c28 (Int32.not_lt.mpr q.2.2.1) | exact fun q => absurd q.2.1 (Int32.not_lt.mpr (by rw [← hw _ (shelf_lt (tI_ofn c4))]; exact c38)) | exact fun q => c48 (by rw [hh _ (shelf_lt (tI_ofn c4))]; exact q.2.2.2), rfl, rfl⟩), rfl⟩
      · refine aw_iload_n dX11_pixelAt_27 rfl ?_
        refine aw_if_lt (tgt := 51) dX11_pixelAt_28 (by decide) (fun c28 => ?_) (fun c28 => ?_)
        · refine aw_aload_n dX11_pixelAt_51 rfl ?_
          refine aw_iconst (v := 2) dX11_pixelAt_52 (by decide) ?_
          refine aw_putf dX11_pixelAt_53 ptX11_61_10  hM (Nat.le_of_ble_eq_true rfl) ⟨rfl, rfl⟩ ?_
          refine aw_iconst (v := (-1)) dX11_pixelAt_56 (by decide) ?_
          exact aw_iret dX11_pixelAt_57 rfl (Nat.zero_le _) (Nat.zero_le _) (Nat.zero_le _) (Nat.zero_le _) ⟨Or.inr (Or.inr ⟨⟨tI_ofn c4, fun e => c13 (by rw [hw _ (shelf_lt (tI_ofn c4)), e]; exact nI_0)⟩, by first | exact fun q => absurd c24 (Int32.not_lt.mpr q.1) | exact fun q => absurd c28 (Int32.not_lt.mpr q.2.2.1) | exact fun q => absurd q.2.1 (Int32.not_lt.mpr (by rw [← hw _ (shelf_lt (tI_ofn c4))]; exact c38)) | exact fun q => c48 (by rw [hh _ (shelf_lt (tI_ofn c4))]; exact q.2.2.2), rfl, rfl⟩), rfl⟩
        · refine aw_iload_n dX11_pixelAt_31 rfl ?_
          refine aw_aload_n dX11_pixelAt_32 rfl ?_
          refine aw_getf dX11_pixelAt_33 flX11_21_10 hM rfl ?_
          refine aw_iload_n dX11_pixelAt_36 rfl ?_
          refine aw_iald dX11_pixelAt_37 h35 (shelf_in (tI_ofn c4)) ?_
          refine aw_icmp_ge (tgt := 51) dX11_pixelAt_38 (by decide) (fun c38 => ?_) (fun c38 => ?_)
          · refine aw_aload_n dX11_pixelAt_51 rfl ?_
            refine aw_iconst (v := 2) dX11_pixelAt_52 (by decide) ?_
            refine aw_putf dX11_pixelAt_53 ptX11_61_10  hM (Nat.le_of_ble_eq_true rfl) ⟨rfl, rfl⟩ ?_
            refine aw_iconst (v := (-1)) dX11_pixelAt_56 (by decide) ?_
            exact aw_iret dX11_pixelAt_57 rfl (Nat.zero_le _) (Nat.zero_le _) (Nat.zero_le _) (Nat.zero_le _) ⟨Or.inr (Or.inr ⟨⟨tI_ofn c4, fun e => c13 (by rw [hw _ (shelf_lt (tI_ofn c4)), e]; exact nI_0)⟩, by first | exact fun q => absurd c24 (Int32.not_lt.mpr q.1) | exact fun q => absurd c28 (Int32.not_lt.mpr q.2.2.1) | exact fun q => absurd q.2.1 (Int32.not_lt.mpr (by rw [← hw _ (shelf_lt (tI_ofn c4))]; exact c38)) | exact fun q => c48 (by rw [hh _ (shelf_lt (tI_ofn c4))]; exact q.2.2.2), rfl, rfl⟩), rfl⟩
          · refine aw_iload_n dX11_pixelAt_41 rfl ?_
            refine aw_aload_n dX11_pixelAt_42 rfl ?_
            refine aw_getf dX11_pixelAt_43 flX11_24_10 hM rfl ?_
            refine aw_iload_n dX11_pixelAt_46 rfl ?_
            refine aw_iald dX11_pixelAt_47 h36 (shelf_in (tI_ofn c4)) ?_
            refine aw_icmp_lt (tgt := 58) dX11_pixelAt_48 (by decide) (fun c48 => ?_) (fun c48 => ?_)
            · refine aw_sipush (v := 4096) dX11_pixelAt_58 (by decide) ?_
              refine aw_iload_n dX11_pixelAt_61 rfl ?_
              refine aw_imul dX11_pixelAt_62 ?_
              refine aw_aload_n dX11_pixelAt_63 rfl ?_
              refine aw_getf dX11_pixelAt_64 flX11_21_10 hM rfl ?_
              refine aw_iload_n dX11_pixelAt_67 rfl ?_
              refine aw_iald dX11_pixelAt_68 h35 (shelf_in (tI_ofn c4)) ?_
              refine aw_iload_n dX11_pixelAt_69 rfl ?_
              refine aw_imul dX11_pixelAt_70 ?_
              refine aw_iadd dX11_pixelAt_71 ?_
              refine aw_iload_n dX11_pixelAt_72 rfl ?_
              refine aw_iadd dX11_pixelAt_73 ?_
              exact aw_iret dX11_pixelAt_74 rfl (Nat.zero_le _) (Nat.zero_le _) (Nat.zero_le _) (Nat.zero_le _) ⟨Or.inl ⟨⟨tI_ofn c4, fun e => c13 (by rw [hw _ (shelf_lt (tI_ofn c4)), e]; exact nI_0)⟩, ⟨Int32.not_lt.mp c24, by rw [← hw _ (shelf_lt (tI_ofn c4))]; exact Int32.not_le.mp c38, Int32.not_lt.mp c28, by rw [← hh _ (shelf_lt (tI_ofn c4))]; exact c48⟩, by rw [hw _ (shelf_lt (tI_ofn c4))], rfl⟩, rfl⟩
            · refine aw_aload_n dX11_pixelAt_51 rfl ?_
              refine aw_iconst (v := 2) dX11_pixelAt_52 (by decide) ?_
              refine aw_putf dX11_pixelAt_53 ptX11_61_10  hM (Nat.le_of_ble_eq_true rfl) ⟨rfl, rfl⟩ ?_
              refine aw_iconst (v := (-1)) dX11_pixelAt_56 (by decide) ?_
              exact aw_iret dX11_pixelAt_57 rfl (Nat.zero_le _) (Nat.zero_le _) (Nat.zero_le _) (Nat.zero_le _) ⟨Or.inr (Or.inr ⟨⟨tI_ofn c4, fun e => c13 (by rw [hw _ (shelf_lt (tI_ofn c4)), e]; exact nI_0)⟩, by first | exact fun q => absurd c24 (Int32.not_lt.mpr q.1) | exact fun q => absurd c28 (Int32.not_lt.mpr q.2.2.1) | exact fun q => absurd q.2.1 (Int32.not_lt.mpr (by rw [← hw _ (shelf_lt (tI_ofn c4))]; exact c38)) | exact fun q => c48 (by rw [hh _ (shelf_lt (tI_ofn c4))]; exact q.2.2.2), rfl, rfl⟩), rfl⟩
    · refine aw_aload_n dX11_pixelAt_16 rfl ?_
      refine aw_iconst (v := 1) dX11_pixelAt_17 (by decide) ?_
      refine aw_putf dX11_pixelAt_18 ptX11_61_10  hM (Nat.le_of_ble_eq_true rfl) ⟨rfl, rfl⟩ ?_
      refine aw_iconst (v := (-1)) dX11_pixelAt_21 (by decide) ?_
      exact aw_iret dX11_pixelAt_22 rfl (Nat.zero_le _) (Nat.zero_le _) (Nat.zero_le _) (Nat.zero_le _) ⟨Or.inr (Or.inl ⟨by first | exact fun q => tI_of0 c4 q.1 | exact fun q => q.2 ((nI_eq (b := 0) (Nat.lt_of_le_of_lt (hW _ (shelf_lt (tI_ofn c4))) (by decide)) (by decide)).mp (by rw [← hw _ (shelf_lt (tI_ofn c4))]; exact c13.trans nI_0.symm)), rfl, rfl⟩), rfl⟩
/-- the reference's tape: its bytes, and the object with the count in its ints -/
def mtSet (h : aH) (sv : Value) (f g : Nat → Int32) : aH := va_up (va_up h 32 (oBytes f)) 31 (oM sv g)
theorem mtSet_31 {h : aH} {sv : Value} {f g : Nat → Int32} : mtSet h sv f g 31 = oM sv g := va_up_self _ _ _
theorem mtSet_32 {h : aH} {sv : Value} {f g : Nat → Int32} : mtSet h sv f g 32 = oBytes f := (va_up_ne _ _ (by decide)).trans (va_up_self _ _ _)
theorem mtSet_set {h : aH} {sv sv2 : Value} {f f2 g g2 : Nat → Int32} : va_up (va_up (mtSet h sv f g) 32 (oBytes f2)) 31 (oM sv2 g2) = mtSet h sv2 f2 g2 := by
  funext j
  unfold mtSet va_up
  split
  · rfl
  · split <;> rfl
theorem mtSet_set2 {h : aH} {sv sv2 : Value} {f f2 g g2 : Nat → Int32} : mtSet (mtSet h sv f g) sv2 f2 g2 = mtSet h sv2 f2 g2 := mtSet_set
theorem upd4 (g : Nat → Int32) (a b c d : Int32) : upd (upd (upd (upd g 1 a) 1 b) 1 c) 1 d = upd g 1 d := by
  funext j
  unfold upd
  split <;> rfl
set_option maxHeartbeats 200000 in
set_option maxRecDepth 100000 in
theorem kX11_four (h : aH) (n k : Nat) (sv : Value) (g f : Nat → Int32) (hM : h 31 = oM sv g) (h32 : h 32 = oBytes f) (hg : g 1 = nI k) (hk : k + 4 ≤ 65536) (v : Int32) : AM mX11_four 1 [.ref 31, .int v] h n 0 0 0 0 (fun r h2 n2 => r = none ∧ h2 = mtSet h sv (putL f k (hi4 v)) (upd g 1 (nI (k + 4))) ∧ n = n2) noX := by
  refine aw_of (by decide +kernel) rfl (Nat.le_of_ble_eq_true rfl) ?_
  have step : ∀ (i : Nat) (s s2 : Int32) (f1 g1 : Nat → Int32) (h1 : aH), h1 31 = oM sv g1 → h1 32 = oBytes f1 → g1 1 = nI (k + i) → i < 4 → ¬ s < 0 → s + Int32.ofInt (-8) = s2 → AW (fun _ _ => True) mX11_four (rmD 1 0 0) 0 0 (fun r h2 n2 => r = none ∧ h2 = mtSet h sv (putL f k (hi4 v)) (upd g 1 (nI (k + 4))) ∧ n = n2) noX 0 0 3 [(2, .int s2), (0, .ref 31), (1, .int v)] [] (mtSet h1 sv (upd f1 (k + i) (b8 (v >>> (s &&& 31)))) (upd g1 1 (nI (k + i + 1)))) n → AW (fun _ _ => True) mX11_four (rmD 1 0 0) 0 0 (fun r h2 n2 => r = none ∧ h2 = mtSet h sv (putL f k (hi4 v)) (upd g 1 (nI (k + 4))) ∧ n = n2) noX 0 0 3 [(2, .int s), (0, .ref 31), (1, .int v)] [] h1 n := by
    intro i s s2 f1 g1 h1 q1 q2 q3 hi hs hs2 kk
    refine aw_iload_n dX11_four_3 rfl ?_
    refine aw_if_lt (tgt := 36) dX11_four_4 (by decide) (fun c4 => ?_) (fun c4 => ?_)
    · exact absurd c4 hs
    · refine aw_aload_n dX11_four_7 rfl ?_
      refine aw_getf dX11_four_8 flX11_10_10 q1 rfl ?_
      refine aw_aload_n dX11_four_11 rfl ?_
      refine aw_getf dX11_four_12 flX11_64_10 q1 rfl ?_
      refine aw_iload_n dX11_four_15 rfl ?_
      refine aw_iload_n dX11_four_16 rfl ?_
      refine aw_ishr dX11_four_17 ?_
      refine aw_i2b dX11_four_18 ?_
      refine aw_bast dX11_four_19 q2 (by rw [q3]; exact vp_in_nI (by omega) (by decide)) ?_
      refine aw_aload_n dX11_four_20 rfl ?_
      refine aw_dup dX11_four_21 rfl ?_
      refine aw_getf dX11_four_22 flX11_64_10 ((va_up_ne _ _ (by decide)).trans q1) rfl ?_
      refine aw_iconst (v := 1) dX11_four_25 (by decide) ?_
      refine aw_iadd dX11_four_26 ?_
      refine aw_putf dX11_four_27 ptX11_64_10  ((va_up_ne _ _ (by decide)).trans q1) (Nat.le_of_ble_eq_true rfl) ⟨rfl, rfl⟩ ?_
      refine aw_iinc (v := s2) (lv2 := [(2, _), (0, _), (1, _)]) dX11_four_30 rfl hs2 (by decide) rfl ?_
      refine aw_goto (tgt := 3) dX11_four_33 (by decide) ?_
      exact aw_lv _ (List.forall_mem_cons.mpr ⟨rfl, List.forall_mem_cons.mpr ⟨rfl, List.forall_mem_cons.mpr ⟨rfl, fun _ h => absurd h List.not_mem_nil⟩⟩⟩) (by rw [show (mF sv g1).set 1 (.int (g1 1 + 1)) = mF sv (upd g1 1 (nI (k + i + 1))) from by rw [q3, nI_1]; rfl, q3, nI_clamp (by omega)]; exact kk)
  refine aw_bipush (v := 24) dX11_four_0 (by decide) ?_
  refine aw_istore_n (lv2 := [(2, _), (0, _), (1, _)]) dX11_four_2 (by decide) rfl ?_
  refine aw_lv [(2, .int 24), (0, .ref 31), (1, .int v)] (List.forall_mem_cons.mpr ⟨rfl, List.forall_mem_cons.mpr ⟨rfl, List.forall_mem_cons.mpr ⟨rfl, fun _ h => absurd h List.not_mem_nil⟩⟩⟩) ?_
  refine step 0 24 16 f g h hM h32 (by rw [hg, Nat.add_zero]) (by omega) (by decide) (by decide) ?_
  refine step 1 16 8 _ _ _ mtSet_31 mtSet_32 rfl (by omega) (by decide) (by decide) ?_
  rw [mtSet_set2]
  refine step 2 8 0 _ _ _ mtSet_31 mtSet_32 rfl (by omega) (by decide) (by decide) ?_
  rw [mtSet_set2]
  refine step 3 0 (-8) _ _ _ mtSet_31 mtSet_32 rfl (by omega) (by decide) (by decide) ?_
  rw [mtSet_set2]
  refine aw_iload_n dX11_four_3 rfl ?_
  refine aw_if_lt (tgt := 36) dX11_four_4 (by decide) (fun c4 => ?_) (fun c4 => absurd (by decide) c4)
  exact aw_vret dX11_four_36 rfl (Nat.zero_le _) (Nat.zero_le _) (Nat.zero_le _) (Nat.zero_le _) ⟨rfl, by rw [upd4, sb_shr0]; rfl, rfl⟩
theorem mtSet_up {h : aH} {sv : Value} {f g : Nat → Int32} {x : Option ao} : mtSet (va_up h 31 x) sv f g = mtSet h sv f g := by
  funext j
  unfold mtSet va_up
  split
  · rfl
  · split <;> rfl
theorem upd_upd (g : Nat → Int32) (k : Nat) (a b : Int32) : upd (upd g k a) k b = upd g k b := by
  funext j
  unfold upd
  split <;> rfl
set_option maxHeartbeats 200000 in
set_option maxRecDepth 100000 in
theorem kX11_feed (h : aH) (n k : Nat) (sv : Value) (g f : Nat → Int32) (hM : h 31 = oM sv g) (h32 : h 32 = oBytes f) (hg : g 1 = nI k) (hk : k ≤ 65536) (a b c d e : Int32) : AM mX11_feed 2 [.ref 31, .int a, .int b, .int c, .int d, .int e] h n 0 0 0 0 (fun r h2 n2 => r = some (.int (if k + 20 ≤ 65536 then nI (k + 20) else -1)) ∧ h2 = (if k + 20 ≤ 65536 then mtSet h sv (putL f k (feedL a b c d e)) (upd (upd g 8 0) 1 (nI (k + 20))) else va_up h 31 (oM sv (upd g 8 0))) ∧ n = n2) (noX) := by
  refine aw_of (by decide +kernel) rfl (Nat.le_of_ble_eq_true rfl) ?_
  refine aw_aload_n dX11_feed_0 rfl ?_
  refine aw_iconst (v := 0) dX11_feed_1 (by decide) ?_
  refine aw_putf dX11_feed_2 ptX11_61_10  hM (Nat.le_of_ble_eq_true rfl) ⟨rfl, rfl⟩ ?_
  refine aw_aload_n dX11_feed_5 rfl ?_
  refine aw_getf dX11_feed_6 flX11_64_10 (va_up_self _ _ _) rfl ?_
  refine aw_bipush (v := 20) dX11_feed_9 (by decide) ?_
  refine aw_iadd dX11_feed_11 ?_
  refine aw_ldc dX11_feed_12 kcX11_9 ?_
  refine aw_icmp_le (tgt := 19) dX11_feed_14 (by decide) (fun c14 => ?_) (fun c14 => ?_)
  · have hk20 : k + 20 ≤ 65536 := (by have c14 : g 1 + 20 ≤ 65536 := c14; rw [hg, show (20 : Int32) = nI 20 from rfl, nI_add] at c14; exact (nI_leI (b := 65536) (by omega) (by decide)).mp c14)
    refine aw_aload_n dX11_feed_19 rfl ?_
    refine aw_iload_n dX11_feed_20 rfl ?_
    refine aw_callV dX11_feed_21 (va_up_self _ _ _) cvX11_67 rfl (kX11_four _ n (k + 0) sv (upd g 8 0) f (va_up_self _ _ _) ((va_up_ne _ _ (by decide)).trans h32) (by show g 1 = _; rw [hg]; rfl) (by omega) _) rfl (Nat.le_of_ble_eq_true rfl) (by decide) (by decide) (by decide) (by decide) (fun _ _ _ hf => False.elim hf) (fun r21 h21 n21 hp21 => ?_)
    obtain ⟨rfl, rfl, rfl⟩ := hp21
    refine aw_aload_n dX11_feed_24 rfl ?_
    refine aw_iload_n dX11_feed_25 rfl ?_
    refine aw_callV dX11_feed_26 mtSet_31 cvX11_67 rfl (kX11_four _ n (k + 4) sv _ _ mtSet_31 mtSet_32 rfl (by omega) _) rfl (Nat.le_of_ble_eq_true rfl) (by decide) (by decide) (by decide) (by decide) (fun _ _ _ hf => False.elim hf) (fun r26 h26 n26 hp26 => ?_)
    obtain ⟨rfl, rfl, rfl⟩ := hp26
    refine aw_aload_n dX11_feed_29 rfl ?_
    refine aw_iload_n dX11_feed_30 rfl ?_
    refine aw_callV dX11_feed_31 mtSet_31 cvX11_67 rfl (kX11_four _ n (k + 8) sv _ _ mtSet_31 mtSet_32 rfl (by omega) _) rfl (Nat.le_of_ble_eq_true rfl) (by decide) (by decide) (by decide) (by decide) (fun _ _ _ hf => False.elim hf) (fun r31 h31 n31 hp31 => ?_)
    obtain ⟨rfl, rfl, rfl⟩ := hp31
    refine aw_aload_n dX11_feed_34 rfl ?_
    refine aw_iload dX11_feed_35 rfl ?_
    refine aw_callV dX11_feed_37 mtSet_31 cvX11_67 rfl (kX11_four _ n (k + 12) sv _ _ mtSet_31 mtSet_32 rfl (by omega) _) rfl (Nat.le_of_ble_eq_true rfl) (by decide) (by decide) (by decide) (by decide) (fun _ _ _ hf => False.elim hf) (fun r37 h37 n37 hp37 => ?_)
    obtain ⟨rfl, rfl, rfl⟩ := hp37
    refine aw_aload_n dX11_feed_40 rfl ?_
    refine aw_iload dX11_feed_41 rfl ?_
    refine aw_callV dX11_feed_43 mtSet_31 cvX11_67 rfl (kX11_four _ n (k + 16) sv _ _ mtSet_31 mtSet_32 rfl (by omega) _) rfl (Nat.le_of_ble_eq_true rfl) (by decide) (by decide) (by decide) (by decide) (fun _ _ _ hf => False.elim hf) (fun r43 h43 n43 hp43 => ?_)
    obtain ⟨rfl, rfl, rfl⟩ := hp43
    refine aw_aload_n dX11_feed_46 rfl ?_
    refine aw_getf dX11_feed_47 flX11_64_10 mtSet_31 rfl ?_
    exact aw_iret dX11_feed_50 rfl (Nat.zero_le _) (Nat.zero_le _) (Nat.zero_le _) (Nat.zero_le _) (by refine ⟨?_, ?_, rfl⟩ <;> rw [if_pos hk20]; rfl; simp only [mtSet_set2, mtSet_up, upd_upd]; unfold feedL; simp only [putL_app]; rfl)
  · refine aw_iconst (v := (-1)) dX11_feed_17 (by decide) ?_
    exact aw_iret dX11_feed_18 rfl (Nat.zero_le _) (Nat.zero_le _) (Nat.zero_le _) (Nat.zero_le _) (by have q : ¬ k + 20 ≤ 65536 := fun q => c14 (by show g 1 + 20 ≤ 65536; rw [hg]; rw [show (20 : Int32) = nI 20 from rfl, nI_add]; exact nI_le (b := 65536) q (by decide)); refine ⟨?_, ?_, rfl⟩ <;> rw [if_neg q]; rfl)
