abbrev oSh (R : Nat → Nat) : Option ao := some (.inl (.object "RasterMint$Raster", 4, .inr (.inr (.inr (.inr (fun i => some (R i)))))))
theorem tI_of0 {b : Prop} (h : tI b = 0) : ¬ b := fun q => by rw [tI_t q] at h; exact absurd h (by decide)
theorem tI_ofn {b : Prop} (h : ¬ tI b = 0) : b := by
  rcases Classical.em b with q | q
  · exact q
  · exact absurd (tI_f q) h
theorem shelf_in {x : Int32} (h : p_shelf x) : vp_in x 4 := vp_of 4 (by decide) (Int32.not_lt.mpr h.1) (Int32.not_le.mpr h.2)
theorem shelf_lt {x : Int32} (h : p_shelf x) : x.toNatClampNeg < 4 := by
  obtain ⟨j, hj, rfl⟩ := vp_in_of (shelf_in h) (by decide)
  rw [nI_clamp (by omega)]
  exact hj
theorem inN {a : Int32} {w : Nat} (hw : w < 2 ^ 31) (h0 : 0 ≤ a) (h1 : a < nI w) : ∃ j, j < w ∧ a = nI j := vp_in_of (vp_of (nI w) (nI_toInt hw) (Int32.not_lt.mpr h0) (Int32.not_le.mpr h1)) hw
def Has (Wd : Nat → Nat) (x : Int32) : Prop := p_shelf x ∧ ¬ Wd x.toNatClampNeg = 0
def Ins (Wd Hg : Nat → Nat) (x a b : Int32) : Prop := 0 ≤ a ∧ a < nI (Wd x.toNatClampNeg) ∧ 0 ≤ b ∧ b < nI (Hg x.toNatClampNeg)
def exIAE : String := "java/lang/IllegalArgumentException"
def exIOB : String := "java/lang/IndexOutOfBoundsException"
/-- no such raster, no such pixel -/
def spX (Wd Hg : Nat → Nat) (x a b : Int32) (h : aH) (n : Nat) : String → aH → Nat → Prop := fun E h2 n2 => ((E = exIAE ∧ ¬ Has Wd x) ∨ (E = exIOB ∧ Has Wd x ∧ ¬ Ins Wd Hg x a b)) ∧ h = h2 ∧ n = n2
set_option maxHeartbeats 200000 in
set_option maxRecDepth 100000 in
theorem kX10_hasRaster (h : aH) (n sp : Nat) (fp : Int32) (R P Wd Hg : Nat → Nat) (h0 : h 0 = oX sp fp) (h1 : h 1 = oSh R) (hR : ∀ i, i < 4 → h (R i) = oRas (P i) (Wd i) (Hg i)) (hW : ∀ i, i < 4 → Wd i ≤ 4096) (x : Int32) : AM mX10_hasRaster 2 [.ref 0, .int x] h n 0 0 0 0 (isV (.int (tI (Has Wd x))) h n) (noX) := by
  refine aw_of (by decide +kernel) rfl (Nat.le_of_ble_eq_true rfl) ?_
  refine aw_iload_n dX10_hasRaster_0 rfl ?_
  refine aw_callS dX10_hasRaster_1  csX10_94 rfl (kX10_isShelf h n x) rfl (Nat.le_of_ble_eq_true rfl) (by decide) (by decide) (by decide) (by decide) (fun _ _ _ hf => False.elim hf) (fun r1 h1 n1 hp1 => ?_)
  obtain ⟨rfl, rfl, rfl⟩ := hp1
  refine aw_if_eq (tgt := 23) dX10_hasRaster_4 (by decide) (fun c4 => ?_) (fun c4 => ?_)
  · refine aw_iconst (v := 0) dX10_hasRaster_23 (by decide) ?_
    exact aw_zret dX10_hasRaster_24 rfl (by decide) (Nat.zero_le _) (Nat.zero_le _) (Nat.zero_le _) (Nat.zero_le _) (by first | exact ⟨rF (fun q => tI_of0 c4 q.1), rfl, rfl⟩ | exact ⟨rF (fun q => q.2 (tI_ofn c16)), rfl, rfl⟩ | exact ⟨rT ⟨tI_ofn c4, tI_of0 c16⟩, rfl, rfl⟩)
  · refine aw_aload_n dX10_hasRaster_7 rfl ?_
    refine aw_getf dX10_hasRaster_8 flX10_11_9 h0 rfl ?_
    refine aw_iload_n dX10_hasRaster_11 rfl ?_
    refine aw_aald dX10_hasRaster_12 h1 (shelf_in (tI_ofn c4)) rfl ?_
    refine aw_callV dX10_hasRaster_13 (hR _ (shelf_lt (tI_ofn c4))) cvX10_190 rfl (kX7_isEmpty h n _ _ _ _ (hR _ (shelf_lt (tI_ofn c4))) (hW _ (shelf_lt (tI_ofn c4)))) rfl (Nat.le_of_ble_eq_true rfl) (by decide) (by decide) (by decide) (by decide) (fun _ _ _ hf => False.elim hf) (fun r13 h13 n13 hp13 => ?_)
    obtain ⟨rfl, rfl, rfl⟩ := hp13
    refine aw_if_ne (tgt := 23) dX10_hasRaster_16 (by decide) (fun c16 => ?_) (fun c16 => ?_)
    · refine aw_iconst (v := 0) dX10_hasRaster_23 (by decide) ?_
      exact aw_zret dX10_hasRaster_24 rfl (by decide) (Nat.zero_le _) (Nat.zero_le _) (Nat.zero_le _) (Nat.zero_le _) (by first | exact ⟨rF (fun q => tI_of0 c4 q.1), rfl, rfl⟩ | exact ⟨rF (fun q => q.2 (tI_ofn c16)), rfl, rfl⟩ | exact ⟨rT ⟨tI_ofn c4, tI_of0 c16⟩, rfl, rfl⟩)
    · refine aw_iconst (v := 1) dX10_hasRaster_19 (by decide) ?_
      refine aw_goto (tgt := 24) dX10_hasRaster_20 (by decide) ?_
      exact aw_zret dX10_hasRaster_24 rfl (by decide) (Nat.zero_le _) (Nat.zero_le _) (Nat.zero_le _) (Nat.zero_le _) (by first | exact ⟨rF (fun q => tI_of0 c4 q.1), rfl, rfl⟩ | exact ⟨rF (fun q => q.2 (tI_ofn c16)), rfl, rfl⟩ | exact ⟨rT ⟨tI_ofn c4, tI_of0 c16⟩, rfl, rfl⟩)
set_option maxHeartbeats 200000 in
set_option maxRecDepth 100000 in
theorem kX10_spot (h : aH) (n sp : Nat) (fp : Int32) (R P Wd Hg : Nat → Nat) (h0 : h 0 = oX sp fp) (h1 : h 1 = oSh R) (hR : ∀ i, i < 4 → h (R i) = oRas (P i) (Wd i) (Hg i)) (hW : ∀ i, i < 4 → Wd i ≤ 4096) (x a b : Int32) : AM mX10_spot 3 [.ref 0, .int x, .int a, .int b] h n 1 6 0 0 (fun r h2 n2 => r = some (.int (b * nI (Wd x.toNatClampNeg) + a)) ∧ Has Wd x ∧ Ins Wd Hg x a b ∧ h = h2 ∧ n = n2) (spX Wd Hg x a b h n) := by
  refine aw_of (by decide +kernel) rfl (Nat.le_of_ble_eq_true rfl) ?_
  refine aw_aload_n dX10_spot_0 rfl ?_
  refine aw_iload_n dX10_spot_1 rfl ?_
  refine aw_callV dX10_spot_2 h0 cvX10_115 rfl (kX10_hasRaster h n sp fp R P Wd Hg h0 h1 hR hW x) rfl (Nat.le_of_ble_eq_true rfl) (by decide) (by decide) (by decide) (by decide) (fun _ _ _ hf => False.elim hf) (fun r2 h2 n2 hp2 => ?_)
  obtain ⟨rfl, rfl, rfl⟩ := hp2
  refine aw_if_ne (tgt := 18) dX10_spot_5 (by decide) (fun c5 => ?_) (fun c5 => ?_)
  · refine aw_aload_n dX10_spot_18 rfl ?_
    refine aw_getf dX10_spot_19 flX10_11_9 h0 rfl ?_
    refine aw_iload_n dX10_spot_22 rfl ?_
    refine aw_aald dX10_spot_23 h1 (shelf_in (tI_ofn c5).1) rfl ?_
    refine aw_astore (lv2 := [(4, _), (0, _), (1, _), (2, _), (3, _)]) dX10_spot_24 (by decide) rfl ?_
    refine aw_iload_n dX10_spot_26 rfl ?_
    refine aw_if_lt (tgt := 52) dX10_spot_27 (by decide) (fun c27 => ?_) (fun c27 => ?_)
    · exact aw_throw dX10_spot_52 dX10_spot_55 dX10_spot_56 dX10_spot_58 dX10_spot_61 thX10_195_197_199 rfl (by decide) (Nat.le_of_ble_eq_true rfl) (by decide) (by decide) ⟨Or.inr ⟨rfl, tI_ofn c5, (by first | exact fun q => absurd c27 (Int32.not_lt.mpr q.1) | exact fun q => absurd q.2.1 (Int32.not_lt.mpr c36) | exact fun q => absurd c40 (Int32.not_lt.mpr q.2.2.1) | exact fun q => c49 q.2.2.2)⟩, rfl, rfl⟩
    · refine aw_iload_n dX10_spot_30 rfl ?_
      refine aw_aload dX10_spot_31 rfl ?_
      refine aw_getf dX10_spot_33 flX10_135_6 (hR _ (shelf_lt (tI_ofn c5).1)) rfl ?_
      refine aw_icmp_ge (tgt := 52) dX10_spot_36 (by decide) (fun c36 => ?_) (fun c36 => ?_)
      · exact aw_throw dX10_spot_52 dX10_spot_55 dX10_spot_56 dX10_spot_58 dX10_spot_61 thX10_195_197_199 rfl (by decide) (Nat.le_of_ble_eq_true rfl) (by decide) (by decide) ⟨Or.inr ⟨rfl, tI_ofn c5, (by first | exact fun q => absurd c27 (Int32.not_lt.mpr q.1) | exact fun q => absurd q.2.1 (Int32.not_lt.mpr c36) | exact fun q => absurd c40 (Int32.not_lt.mpr q.2.2.1) | exact fun q => c49 q.2.2.2)⟩, rfl, rfl⟩
      · refine aw_iload_n dX10_spot_39 rfl ?_
        refine aw_if_lt (tgt := 52) dX10_spot_40 (by decide) (fun c40 => ?_) (fun c40 => ?_)
        · exact aw_throw dX10_spot_52 dX10_spot_55 dX10_spot_56 dX10_spot_58 dX10_spot_61 thX10_195_197_199 rfl (by decide) (Nat.le_of_ble_eq_true rfl) (by decide) (by decide) ⟨Or.inr ⟨rfl, tI_ofn c5, (by first | exact fun q => absurd c27 (Int32.not_lt.mpr q.1) | exact fun q => absurd q.2.1 (Int32.not_lt.mpr c36) | exact fun q => absurd c40 (Int32.not_lt.mpr q.2.2.1) | exact fun q => c49 q.2.2.2)⟩, rfl, rfl⟩
        · refine aw_iload_n dX10_spot_43 rfl ?_
          refine aw_aload dX10_spot_44 rfl ?_
          refine aw_getf dX10_spot_46 flX10_138_6 (hR _ (shelf_lt (tI_ofn c5).1)) rfl ?_
          refine aw_icmp_lt (tgt := 62) dX10_spot_49 (by decide) (fun c49 => ?_) (fun c49 => ?_)
          · refine aw_iload_n dX10_spot_62 rfl ?_
            refine aw_aload dX10_spot_63 rfl ?_
            refine aw_getf dX10_spot_65 flX10_135_6 (hR _ (shelf_lt (tI_ofn c5).1)) rfl ?_
            refine aw_imul dX10_spot_68 ?_
            refine aw_iload_n dX10_spot_69 rfl ?_
            refine aw_iadd dX10_spot_70 ?_
            exact aw_iret dX10_spot_71 rfl (Nat.zero_le _) (Nat.zero_le _) (Nat.zero_le _) (Nat.zero_le _) ⟨rfl, tI_ofn c5, ⟨Int32.not_lt.mp c27, Int32.not_le.mp c36, Int32.not_lt.mp c40, c49⟩, rfl, rfl⟩
          · exact aw_throw dX10_spot_52 dX10_spot_55 dX10_spot_56 dX10_spot_58 dX10_spot_61 thX10_195_197_199 rfl (by decide) (Nat.le_of_ble_eq_true rfl) (by decide) (by decide) ⟨Or.inr ⟨rfl, tI_ofn c5, (by first | exact fun q => absurd c27 (Int32.not_lt.mpr q.1) | exact fun q => absurd q.2.1 (Int32.not_lt.mpr c36) | exact fun q => absurd c40 (Int32.not_lt.mpr q.2.2.1) | exact fun q => c49 q.2.2.2)⟩, rfl, rfl⟩
  · exact aw_throw dX10_spot_8 dX10_spot_11 dX10_spot_12 dX10_spot_14 dX10_spot_17 thX10_98_193_102 rfl (by decide) (Nat.le_of_ble_eq_true rfl) (by decide) (by decide) ⟨Or.inl ⟨rfl, tI_of0 c5⟩, rfl, rfl⟩
theorem ix_lt {ja jb w g : Nat} (ha : ja < w) (hb : jb < g) (hN : w * g ≤ 4096) : jb * w + ja < 4096 := by
  have h1 : (jb + 1) * w ≤ g * w := Nat.mul_le_mul_right w hb
  rw [Nat.add_mul, Nat.one_mul, Nat.mul_comm g w] at h1
  omega
set_option maxHeartbeats 200000 in
set_option maxRecDepth 100000 in
theorem kX10_pixel (h : aH) (n sp : Nat) (fp : Int32) (R P Wd Hg : Nat → Nat) (h0 : h 0 = oX sp fp) (h1 : h 1 = oSh R) (hR : ∀ i, i < 4 → h (R i) = oRas (P i) (Wd i) (Hg i)) (hW : ∀ i, i < 4 → Wd i ≤ 4096) (F : Nat → Nat → Int32) (hF : ∀ i, i < 4 → h (P i) = oPix (F i)) (hN : ∀ i, i < 4 → Wd i * Hg i ≤ 4096) (hH : ∀ i, i < 4 → Hg i ≤ 4096) (x a b : Int32) : AM mX10_pixel 4 [.ref 0, .int x, .int a, .int b] h n 1 6 0 0 (fun r h2 n2 => Has Wd x ∧ Ins Wd Hg x a b ∧ (∃ ja jb : Nat, a = nI ja ∧ b = nI jb ∧ ja < Wd x.toNatClampNeg ∧ jb < Hg x.toNatClampNeg ∧ r = some (.int (F x.toNatClampNeg (jb * Wd x.toNatClampNeg + ja)))) ∧ h = h2 ∧ n = n2) (spX Wd Hg x a b h n) := by
  refine aw_of (by decide +kernel) rfl (Nat.le_of_ble_eq_true rfl) ?_
  refine aw_aload_n dX10_pixel_0 rfl ?_
  refine aw_iload_n dX10_pixel_1 rfl ?_
  refine aw_iload_n dX10_pixel_2 rfl ?_
  refine aw_iload_n dX10_pixel_3 rfl ?_
  refine aw_callV dX10_pixel_4 h0 cvX10_143 rfl (kX10_spot h n sp fp R P Wd Hg h0 h1 hR hW x a b) rfl (Nat.le_of_ble_eq_true rfl) (by decide) (by decide) (by decide) (by decide) (fun E h2 n2 hx => aw_out rfl (by decide) (by decide) hx) (fun r4 h4 n4 hp4 => ?_)
  obtain ⟨rfl, has, ins, rfl, rfl⟩ := hp4
  have hlt := shelf_lt has.1
  obtain ⟨ja, hja, ea⟩ := inN (Nat.lt_of_le_of_lt (hW _ hlt) (by decide)) ins.1 ins.2.1
  obtain ⟨jb, hjb, eb⟩ := inN (Nat.lt_of_le_of_lt (hH _ hlt) (by decide)) ins.2.2.1 ins.2.2.2
  have hix : jb * Wd x.toNatClampNeg + ja < 4096 := ix_lt hja hjb (hN _ hlt)
  rw [show b * nI (Wd x.toNatClampNeg) + a = nI (jb * Wd x.toNatClampNeg + ja) from by rw [ea, eb, pk_mul, nI_add]]
  refine aw_istore (lv2 := [(4, _), (0, _), (1, _), (2, _), (3, _)]) dX10_pixel_7 (by decide) rfl ?_
  refine aw_aload_n dX10_pixel_9 rfl ?_
  refine aw_getf dX10_pixel_10 flX10_11_9 h0 rfl ?_
  refine aw_iload_n dX10_pixel_13 rfl ?_
  refine aw_aald dX10_pixel_14 h1 (shelf_in has.1) rfl ?_
  refine aw_iload dX10_pixel_15 rfl ?_
  refine aw_callV dX10_pixel_17 (hR _ (shelf_lt has.1)) cvX10_147 rfl (kX7_get h n _ _ _ _ _ (hR _ (shelf_lt has.1)) (hF _ hlt) _ hix) rfl (Nat.le_of_ble_eq_true rfl) (by decide) (by decide) (by decide) (by decide) (fun _ _ _ hf => False.elim hf) (fun r17 h17 n17 hp17 => ?_)
  obtain ⟨rfl, rfl, rfl⟩ := hp17
  exact aw_iret dX10_pixel_20 rfl (Nat.zero_le _) (Nat.zero_le _) (Nat.zero_le _) (Nat.zero_le _) ⟨has, ins, ⟨ja, jb, ea, eb, hja, hjb, rfl⟩, rfl, rfl⟩
set_option maxHeartbeats 200000 in
set_option maxRecDepth 100000 in
theorem kX10_dot (h : aH) (n sp : Nat) (fp : Int32) (R P Wd Hg : Nat → Nat) (h0 : h 0 = oX sp fp) (h1 : h 1 = oSh R) (hR : ∀ i, i < 4 → h (R i) = oRas (P i) (Wd i) (Hg i)) (hW : ∀ i, i < 4 → Wd i ≤ 4096) (F : Nat → Nat → Int32) (hF : ∀ i, i < 4 → h (P i) = oPix (F i)) (hN : ∀ i, i < 4 → Wd i * Hg i ≤ 4096) (hH : ∀ i, i < 4 → Hg i ≤ 4096) (x a b v : Int32) : AM mX10_dot 4 [.ref 0, .int x, .int a, .int b, .int v] h n 1 6 0 0 (fun r h2 n2 => Has Wd x ∧ Ins Wd Hg x a b ∧ (∃ ja jb : Nat, a = nI ja ∧ b = nI jb ∧ ja < Wd x.toNatClampNeg ∧ jb < Hg x.toNatClampNeg ∧ r = some (.int (F x.toNatClampNeg (jb * Wd x.toNatClampNeg + ja))) ∧ h2 = va_up h (P x.toNatClampNeg) (oPix (upd (F x.toNatClampNeg) (jb * Wd x.toNatClampNeg + ja) v))) ∧ n = n2) (spX Wd Hg x a b h n) := by
  refine aw_of (by decide +kernel) rfl (Nat.le_of_ble_eq_true rfl) ?_
  refine aw_aload_n dX10_dot_0 rfl ?_
  refine aw_iload_n dX10_dot_1 rfl ?_
  refine aw_iload_n dX10_dot_2 rfl ?_
  refine aw_iload_n dX10_dot_3 rfl ?_
  refine aw_callV dX10_dot_4 h0 cvX10_143 rfl (kX10_spot h n sp fp R P Wd Hg h0 h1 hR hW x a b) rfl (Nat.le_of_ble_eq_true rfl) (by decide) (by decide) (by decide) (by decide) (fun E h2 n2 hx => aw_out rfl (by decide) (by decide) hx) (fun r4 h4 n4 hp4 => ?_)
  obtain ⟨rfl, has, ins, rfl, rfl⟩ := hp4
  have hlt := shelf_lt has.1
  obtain ⟨ja, hja, ea⟩ := inN (Nat.lt_of_le_of_lt (hW _ hlt) (by decide)) ins.1 ins.2.1
  obtain ⟨jb, hjb, eb⟩ := inN (Nat.lt_of_le_of_lt (hH _ hlt) (by decide)) ins.2.2.1 ins.2.2.2
  have hix : jb * Wd x.toNatClampNeg + ja < 4096 := ix_lt hja hjb (hN _ hlt)
  rw [show b * nI (Wd x.toNatClampNeg) + a = nI (jb * Wd x.toNatClampNeg + ja) from by rw [ea, eb, pk_mul, nI_add]]
  refine aw_istore (lv2 := [(5, _), (0, _), (1, _), (2, _), (3, _), (4, _)]) dX10_dot_7 (by decide) rfl ?_
  refine aw_aload_n dX10_dot_9 rfl ?_
  refine aw_getf dX10_dot_10 flX10_11_9 h0 rfl ?_
  refine aw_iload_n dX10_dot_13 rfl ?_
  refine aw_aald dX10_dot_14 h1 (shelf_in has.1) rfl ?_
  refine aw_astore (lv2 := [(6, _), (5, _), (0, _), (1, _), (2, _), (3, _), (4, _)]) dX10_dot_15 (by decide) rfl ?_
  refine aw_aload dX10_dot_17 rfl ?_
  refine aw_iload dX10_dot_19 rfl ?_
  refine aw_callV dX10_dot_21 (hR _ (shelf_lt has.1)) cvX10_147 rfl (kX7_get h n _ _ _ _ _ (hR _ (shelf_lt has.1)) (hF _ hlt) _ hix) rfl (Nat.le_of_ble_eq_true rfl) (by decide) (by decide) (by decide) (by decide) (fun _ _ _ hf => False.elim hf) (fun r21 h21 n21 hp21 => ?_)
  obtain ⟨rfl, rfl, rfl⟩ := hp21
  refine aw_istore (lv2 := [(7, _), (6, _), (5, _), (0, _), (1, _), (2, _), (3, _), (4, _)]) dX10_dot_24 (by decide) rfl ?_
  refine aw_aload dX10_dot_26 rfl ?_
  refine aw_iload dX10_dot_28 rfl ?_
  refine aw_iload dX10_dot_30 rfl ?_
  refine aw_callV dX10_dot_32 (hR _ (shelf_lt has.1)) cvX10_150 rfl (kX7_set h n _ _ _ _ _ (hR _ (shelf_lt has.1)) (hF _ hlt) _ v hix) rfl (Nat.le_of_ble_eq_true rfl) (by decide) (by decide) (by decide) (by decide) (fun _ _ _ hf => False.elim hf) (fun r32 h32 n32 hp32 => ?_)
  obtain ⟨rfl, rfl, rfl⟩ := hp32
  refine aw_iload dX10_dot_35 rfl ?_
  exact aw_iret dX10_dot_37 rfl (Nat.zero_le _) (Nat.zero_le _) (Nat.zero_le _) (Nat.zero_le _) ⟨has, ins, ⟨ja, jb, ea, eb, hja, hjb, rfl, rfl⟩, rfl⟩
