def P_X9_readMapHeader (m0 : Mnt) (sh : Nat → Nat) (rr : Nat → Ras) (ww : Nat → Row) (so : Nat) (pl : Pal) (qo : Qoi) (pn : Pnm) (bm : Bmp) (px : Pcx) (fa : A) (hb : aH) (n : Nat) (res : Out (Src × Tga) Unit) : Option Value → aH → Nat → Prop := fun r1 h2 n2 => ∃ (a : Unit) (s : (Src × Tga)), res = fok a s ∧ r1 = none ∧ h2 = HC m0 sh rr ww so s.1 pl qo pn bm s.2 px fa hb ∧ n = n2
def X_X9_readMapHeader (m0 : Mnt) (sh : Nat → Nat) (rr : Nat → Ras) (ww : Nat → Row) (so : Nat) (pl : Pal) (qo : Qoi) (pn : Pnm) (bm : Bmp) (px : Pcx) (fa : A) (hb : aH) (n : Nat) (res : Out (Src × Tga) Unit) : String → aH → Nat → Prop := fun E h2 n2 => ∃ s : (Src × Tga), res = fex E s ∧ h2 = HC m0 sh rr ww so s.1 pl qo pn bm s.2 px fa hb ∧ n = n2
abbrev Q_X9_readMapHeader_33 (m0 : Mnt) (sh : Nat → Nat) (rr : Nat → Ras) (ww : Nat → Row) (so : Nat) (pl : Pal) (qo : Qoi) (pn : Pnm) (bm : Bmp) (px : Pcx) (fa : A) (hb : aH) (n : Nat) (k : Src → Tga → Out (Src × Tga) Unit) : Prop := ∀ (sc : Src) (tg : Tga) (res : Out (Src × Tga) Unit), k sc tg = res → res ≠ fno → AW (fun _ _ => True) mX9_readMapHeader (rmD 5 1 6) 0 0 (P_X9_readMapHeader m0 sh rr ww so pl qo pn bm px fa hb n res) (X_X9_readMapHeader m0 sh rr ww so pl qo pn bm px fa hb n res) 0 0 33 [(0, .ref 26), (1, .ref 16)] [] (HC m0 sh rr ww so sc pl qo pn bm tg px fa hb) n
abbrev Q_X9_readMapHeader_70 (m0 : Mnt) (sh : Nat → Nat) (rr : Nat → Ras) (ww : Nat → Row) (so : Nat) (pl : Pal) (qo : Qoi) (pn : Pnm) (bm : Bmp) (px : Pcx) (fa : A) (hb : aH) (n : Nat) (k : Int32 → Src → Tga → Out (Src × Tga) Unit) : Prop := ∀ (v2 : Int32) (sc : Src) (tg : Tga) (res : Out (Src × Tga) Unit), k v2 sc tg = res → res ≠ fno → AW (fun _ _ => True) mX9_readMapHeader (rmD 5 1 6) 0 0 (P_X9_readMapHeader m0 sh rr ww so pl qo pn bm px fa hb n res) (X_X9_readMapHeader m0 sh rr ww so pl qo pn bm px fa hb n res) 0 0 70 [(1, .ref 16), (2, .int v2)] [] (HC m0 sh rr ww so sc pl qo pn bm tg px fa hb) n
abbrev Q_X9_readMapHeader_76 (m0 : Mnt) (sh : Nat → Nat) (rr : Nat → Ras) (ww : Nat → Row) (so : Nat) (pl : Pal) (qo : Qoi) (pn : Pnm) (bm : Bmp) (px : Pcx) (fa : A) (hb : aH) (n : Nat) (k : Src → Tga → Out (Src × Tga) Unit) : Prop := ∀ (sc : Src) (tg : Tga) (res : Out (Src × Tga) Unit), k sc tg = res → res ≠ fno → AW (fun _ _ => True) mX9_readMapHeader (rmD 5 1 6) 0 0 (P_X9_readMapHeader m0 sh rr ww so pl qo pn bm px fa hb n res) (X_X9_readMapHeader m0 sh rr ww so pl qo pn bm px fa hb n res) 0 0 76 [(0, .ref 26), (1, .ref 16)] [] (HC m0 sh rr ww so sc pl qo pn bm tg px fa hb) n
abbrev Q_X9_readMapHeader_125 (m0 : Mnt) (sh : Nat → Nat) (rr : Nat → Ras) (ww : Nat → Row) (so : Nat) (pl : Pal) (qo : Qoi) (pn : Pnm) (bm : Bmp) (px : Pcx) (fa : A) (hb : aH) (n : Nat) (k : Int32 → Src → Tga → Out (Src × Tga) Unit) : Prop := ∀ (v2 : Int32) (sc : Src) (tg : Tga) (res : Out (Src × Tga) Unit), k v2 sc tg = res → res ≠ fno → AW (fun _ _ => True) mX9_readMapHeader (rmD 5 1 6) 0 0 (P_X9_readMapHeader m0 sh rr ww so pl qo pn bm px fa hb n res) (X_X9_readMapHeader m0 sh rr ww so pl qo pn bm px fa hb n res) 0 0 125 [(0, .ref 26), (1, .ref 16), (2, .int v2)] [] (HC m0 sh rr ww so sc pl qo pn bm tg px fa hb) n
abbrev Q_X9_readMapHeader_130 (m0 : Mnt) (sh : Nat → Nat) (rr : Nat → Ras) (ww : Nat → Row) (so : Nat) (pl : Pal) (qo : Qoi) (pn : Pnm) (bm : Bmp) (px : Pcx) (fa : A) (hb : aH) (n : Nat) (k : Int32 → Int32 → Src → Tga → Out (Src × Tga) Unit) : Prop := ∀ (v2 : Int32) (t0 : Int32) (sc : Src) (tg : Tga) (res : Out (Src × Tga) Unit), k v2 t0 sc tg = res → res ≠ fno → AW (fun _ _ => True) mX9_readMapHeader (rmD 5 1 6) 0 0 (P_X9_readMapHeader m0 sh rr ww so pl qo pn bm px fa hb n res) (X_X9_readMapHeader m0 sh rr ww so pl qo pn bm px fa hb n res) 0 0 130 [(0, .ref 26), (1, .ref 16), (2, .int v2)] [.int t0] (HC m0 sh rr ww so sc pl qo pn bm tg px fa hb) n
abbrev Q_X9_readMapHeader_152 (m0 : Mnt) (sh : Nat → Nat) (rr : Nat → Ras) (ww : Nat → Row) (so : Nat) (pl : Pal) (qo : Qoi) (pn : Pnm) (bm : Bmp) (px : Pcx) (fa : A) (hb : aH) (n : Nat) (k : Int32 → Src → Tga → Out (Src × Tga) Unit) : Prop := ∀ (v2 : Int32) (sc : Src) (tg : Tga) (res : Out (Src × Tga) Unit), k v2 sc tg = res → res ≠ fno → AW (fun _ _ => True) mX9_readMapHeader (rmD 5 1 6) 0 0 (P_X9_readMapHeader m0 sh rr ww so pl qo pn bm px fa hb n res) (X_X9_readMapHeader m0 sh rr ww so pl qo pn bm px fa hb n res) 0 0 152 [(1, .ref 16), (2, .int v2)] [] (HC m0 sh rr ww so sc pl qo pn bm tg px fa hb) n
def F_X9_readMapHeader_152 (sb : A)  (v2 : Int32) (sc : Src) (tg : Tga) : Out (Src × Tga) Unit := fon (F_X8_refuse 2 v2 sc) (fun _ _ => fno) (fun E s155 => fex E (s155, tg))
set_option maxHeartbeats 1000000 in
set_option maxRecDepth 100000 in
theorem b_X9_readMapHeader_152 (m0 : Mnt) (sh : Nat → Nat) (rr : Nat → Ras) (ww : Nat → Row) (so : Nat) (pl : Pal) (qo : Qoi) (pn : Pnm) (bm : Bmp) (px : Pcx) (fa : A) (hb : aH) (n : Nat) (hso : isW so)  : Q_X9_readMapHeader_152 m0 sh rr ww so pl qo pn bm px fa hb n (F_X9_readMapHeader_152 (y_b (ww so))) := by
  intro v2 sc tg res hE hF
  unfold F_X9_readMapHeader_152 at hE
  refine aw_aload_n dX9_readMapHeader_152 rfl ?_
  refine aw_iconst (v := 2) dX9_readMapHeader_153 (by decide) ?_
  refine aw_iload_n dX9_readMapHeader_154 rfl ?_
  refine aw_callV dX9_readMapHeader_155 at_src cvX9_80 rfl (kF_X8_refuse m0 sh rr ww so sc pl qo pn bm tg px fa hb _  2 v2 (fon_ne hE hF)) rfl (Nat.le_of_ble_eq_true rfl) (by decide) (by decide) (by decide) (by decide) (fun E h2 n2 hx => aw_out rfl (by decide) (by decide) (by obtain ⟨s155, e155, rfl, rfl⟩ := hx; exact ⟨_, (fon_ex e155 hE).symm, rfl, rfl⟩)) (fun r155 h155 n155 hp155 => ?_)
  obtain ⟨z155, s155, e155, rfl, rfl, rfl⟩ := hp155
  exact (hF (fon_ok e155 hE).symm).elim
def F_X9_readMapHeader_130 (sb : A)  (v2 : Int32) (t0 : Int32) (sc : Src) (tg : Tga) : Out (Src × Tga) Unit := if (tg_map tg) = 0 then (if (tg_deep tg) = 0 then (fok () (sc, tg)) else (F_X9_readMapHeader_152 sb v2 sc tg)) else (if t0 = 0 then (F_X9_readMapHeader_152 sb v2 sc tg) else (fok () (sc, tg)))
set_option maxHeartbeats 1000000 in
set_option maxRecDepth 100000 in
theorem b_X9_readMapHeader_130 (m0 : Mnt) (sh : Nat → Nat) (rr : Nat → Ras) (ww : Nat → Row) (so : Nat) (pl : Pal) (qo : Qoi) (pn : Pnm) (bm : Bmp) (px : Pcx) (fa : A) (hb : aH) (n : Nat) (hso : isW so)  : Q_X9_readMapHeader_130 m0 sh rr ww so pl qo pn bm px fa hb n (F_X9_readMapHeader_130 (y_b (ww so))) := by
  intro v2 t0 sc tg res hE hF
  unfold F_X9_readMapHeader_130 at hE
  refine aw_istore_n (lv2 := [(3, _), (0, _), (1, _), (2, _)]) dX9_readMapHeader_130 (by decide) rfl ?_
  refine aw_aload_n dX9_readMapHeader_131 rfl ?_
  refine aw_getf (v := .int (tg_map tg)) dX9_readMapHeader_132 flX9_77_8 at_tga rfl ?_
  refine aw_if_ne (tgt := 148) dX9_readMapHeader_135 (by decide) (fun c135 => ?_) (fun c135 => ?_)
  · replace hE := fif hE c135
    refine aw_iload_n dX9_readMapHeader_148 rfl ?_
    refine aw_if_ne (tgt := 158) dX9_readMapHeader_149 (by decide) (fun c149 => ?_) (fun c149 => ?_)
    · replace hE := fif hE c149
      exact aw_vret dX9_readMapHeader_158 rfl (Nat.zero_le _) (Nat.zero_le _) (Nat.zero_le _) (Nat.zero_le _) ⟨_, _, hE.symm, rfl, rfl, rfl⟩
    · replace hE := fit hE c149
      exact aw_lv _ (List.forall_mem_cons.mpr ⟨rfl, (List.forall_mem_cons.mpr ⟨rfl, fun _ h => absurd h List.not_mem_nil⟩)⟩) (b_X9_readMapHeader_152 m0 sh rr ww so pl qo pn bm px fa hb n hso  v2 sc tg _ hE hF)
  · replace hE := fit hE c135
    refine aw_aload_n dX9_readMapHeader_138 rfl ?_
    refine aw_getf (v := .int (tg_deep tg)) dX9_readMapHeader_139 flX9_97_8 at_tga rfl ?_
    refine aw_if_eq (tgt := 158) dX9_readMapHeader_142 (by decide) (fun c142 => ?_) (fun c142 => ?_)
    · replace hE := fit hE c142
      exact aw_vret dX9_readMapHeader_158 rfl (Nat.zero_le _) (Nat.zero_le _) (Nat.zero_le _) (Nat.zero_le _) ⟨_, _, hE.symm, rfl, rfl, rfl⟩
    · replace hE := fif hE c142
      refine aw_goto (tgt := 152) dX9_readMapHeader_145 (by decide) ?_
      exact aw_lv _ (List.forall_mem_cons.mpr ⟨rfl, (List.forall_mem_cons.mpr ⟨rfl, fun _ h => absurd h List.not_mem_nil⟩)⟩) (b_X9_readMapHeader_152 m0 sh rr ww so pl qo pn bm px fa hb n hso  v2 sc tg _ hE hF)
def F_X9_readMapHeader_125 (sb : A)  (v2 : Int32) (sc : Src) (tg : Tga) : Out (Src × Tga) Unit := F_X9_readMapHeader_130 sb v2 (1 : Int32) sc tg
set_option maxHeartbeats 1000000 in
set_option maxRecDepth 100000 in
theorem b_X9_readMapHeader_125 (m0 : Mnt) (sh : Nat → Nat) (rr : Nat → Ras) (ww : Nat → Row) (so : Nat) (pl : Pal) (qo : Qoi) (pn : Pnm) (bm : Bmp) (px : Pcx) (fa : A) (hb : aH) (n : Nat) (hso : isW so)  : Q_X9_readMapHeader_125 m0 sh rr ww so pl qo pn bm px fa hb n (F_X9_readMapHeader_125 (y_b (ww so))) := by
  intro v2 sc tg res hE hF
  unfold F_X9_readMapHeader_125 at hE
  refine aw_iconst (v := 1) dX9_readMapHeader_125 (by decide) ?_
  refine aw_goto (tgt := 130) dX9_readMapHeader_126 (by decide) ?_
  exact aw_lv _ (List.forall_mem_cons.mpr ⟨rfl, (List.forall_mem_cons.mpr ⟨rfl, (List.forall_mem_cons.mpr ⟨rfl, fun _ h => absurd h List.not_mem_nil⟩)⟩)⟩) (b_X9_readMapHeader_130 m0 sh rr ww so pl qo pn bm px fa hb n hso  v2 (1 : Int32) sc tg _ hE hF)
def F_X9_readMapHeader_76 (sb : A)  (sc : Src) (tg : Tga) : Out (Src × Tga) Unit := fon (F_X8_next sc sb) (fun z83 s83 => if z83 = 15 then (F_X9_readMapHeader_125 sb (sc_pos sc) s83 ((tg_f1 tg), (tg_f2 tg), (tg_f3 tg), (tg_map tg), (tg_type tg), (tg_fe tg), (tg_many tg), z83, (tg_bits tg), (tg_flags tg), (tg_ab tg), (tg_idx tg), (tg_packets tg), (tg_left tg), (tg_like tg), (tg_ent tg))) else (if z83 = 16 then (F_X9_readMapHeader_125 sb (sc_pos sc) s83 ((tg_f1 tg), (tg_f2 tg), (tg_f3 tg), (tg_map tg), (tg_type tg), (tg_fe tg), (tg_many tg), z83, (tg_bits tg), (tg_flags tg), (tg_ab tg), (tg_idx tg), (tg_packets tg), (tg_left tg), (tg_like tg), (tg_ent tg))) else (if z83 = 24 then (F_X9_readMapHeader_125 sb (sc_pos sc) s83 ((tg_f1 tg), (tg_f2 tg), (tg_f3 tg), (tg_map tg), (tg_type tg), (tg_fe tg), (tg_many tg), z83, (tg_bits tg), (tg_flags tg), (tg_ab tg), (tg_idx tg), (tg_packets tg), (tg_left tg), (tg_like tg), (tg_ent tg))) else (if z83 = 32 then (F_X9_readMapHeader_125 sb (sc_pos sc) s83 ((tg_f1 tg), (tg_f2 tg), (tg_f3 tg), (tg_map tg), (tg_type tg), (tg_fe tg), (tg_many tg), z83, (tg_bits tg), (tg_flags tg), (tg_ab tg), (tg_idx tg), (tg_packets tg), (tg_left tg), (tg_like tg), (tg_ent tg))) else (F_X9_readMapHeader_130 sb (sc_pos sc) (0 : Int32) s83 ((tg_f1 tg), (tg_f2 tg), (tg_f3 tg), (tg_map tg), (tg_type tg), (tg_fe tg), (tg_many tg), z83, (tg_bits tg), (tg_flags tg), (tg_ab tg), (tg_idx tg), (tg_packets tg), (tg_left tg), (tg_like tg), (tg_ent tg))))))) (fun E s83 => fex E (s83, tg))
set_option maxHeartbeats 1000000 in
set_option maxRecDepth 100000 in
theorem b_X9_readMapHeader_76 (m0 : Mnt) (sh : Nat → Nat) (rr : Nat → Ras) (ww : Nat → Row) (so : Nat) (pl : Pal) (qo : Qoi) (pn : Pnm) (bm : Bmp) (px : Pcx) (fa : A) (hb : aH) (n : Nat) (hso : isW so)  : Q_X9_readMapHeader_76 m0 sh rr ww so pl qo pn bm px fa hb n (F_X9_readMapHeader_76 (y_b (ww so))) := by
  intro sc tg res hE hF
  unfold F_X9_readMapHeader_76 at hE
  refine aw_aload_n dX9_readMapHeader_76 rfl ?_
  refine aw_getf (v := .int (sc_pos sc)) dX9_readMapHeader_77 flX9_74_7 at_src rfl ?_
  refine aw_istore_n (lv2 := [(2, _), (0, _), (1, _)]) dX9_readMapHeader_80 (by decide) rfl ?_
  refine aw_aload_n dX9_readMapHeader_81 rfl ?_
  refine aw_aload_n dX9_readMapHeader_82 rfl ?_
  refine aw_callV dX9_readMapHeader_83 at_src cvX9_19 rfl (kF_X8_next m0 sh rr ww so sc pl qo pn bm tg px fa hb _ hso  (fon_ne hE hF)) rfl (Nat.le_of_ble_eq_true rfl) (by decide) (by decide) (by decide) (by decide) (fun E h2 n2 hx => aw_out rfl (by decide) (by decide) (by obtain ⟨s83, e83, rfl, rfl⟩ := hx; exact ⟨_, (fon_ex e83 hE).symm, rfl, rfl⟩)) (fun r83 h83 n83 hp83 => ?_)
  obtain ⟨z83, s83, e83, rfl, rfl, rfl⟩ := hp83
  replace hE := fon_ok e83 hE
  refine aw_putf dX9_readMapHeader_86 ptX9_97_8 at_tga (Nat.le_of_ble_eq_true rfl) ⟨rfl, rfl⟩ ?_
  refine aw_eqh (h2 := HC m0 sh rr ww so s83 pl qo pn bm ((tg_f1 tg), (tg_f2 tg), (tg_f3 tg), (tg_map tg), (tg_type tg), (tg_fe tg), (tg_many tg), z83, (tg_bits tg), (tg_flags tg), (tg_ab tg), (tg_idx tg), (tg_packets tg), (tg_left tg), (tg_like tg), (tg_ent tg)) px fa hb) up_tga ?_
  refine aw_aload_n dX9_readMapHeader_89 rfl ?_
  refine aw_getf (v := .int z83) dX9_readMapHeader_90 flX9_97_8 at_tga rfl ?_
  refine aw_bipush (v := 15) dX9_readMapHeader_93 (by decide) ?_
  refine aw_icmp_eq (tgt := 125) dX9_readMapHeader_95 (by decide) (fun c95 => ?_) (fun c95 => ?_)
  · replace hE := fit hE c95
    exact aw_lv _ (List.forall_mem_cons.mpr ⟨rfl, (List.forall_mem_cons.mpr ⟨rfl, (List.forall_mem_cons.mpr ⟨rfl, fun _ h => absurd h List.not_mem_nil⟩)⟩)⟩) (b_X9_readMapHeader_125 m0 sh rr ww so pl qo pn bm px fa hb n hso  (sc_pos sc) s83 ((tg_f1 tg), (tg_f2 tg), (tg_f3 tg), (tg_map tg), (tg_type tg), (tg_fe tg), (tg_many tg), z83, (tg_bits tg), (tg_flags tg), (tg_ab tg), (tg_idx tg), (tg_packets tg), (tg_left tg), (tg_like tg), (tg_ent tg)) _ hE hF)
  · replace hE := fif hE c95
    refine aw_aload_n dX9_readMapHeader_98 rfl ?_
    refine aw_getf (v := .int z83) dX9_readMapHeader_99 flX9_97_8 at_tga rfl ?_
    refine aw_bipush (v := 16) dX9_readMapHeader_102 (by decide) ?_
    refine aw_icmp_eq (tgt := 125) dX9_readMapHeader_104 (by decide) (fun c104 => ?_) (fun c104 => ?_)
    · replace hE := fit hE c104
      exact aw_lv _ (List.forall_mem_cons.mpr ⟨rfl, (List.forall_mem_cons.mpr ⟨rfl, (List.forall_mem_cons.mpr ⟨rfl, fun _ h => absurd h List.not_mem_nil⟩)⟩)⟩) (b_X9_readMapHeader_125 m0 sh rr ww so pl qo pn bm px fa hb n hso  (sc_pos sc) s83 ((tg_f1 tg), (tg_f2 tg), (tg_f3 tg), (tg_map tg), (tg_type tg), (tg_fe tg), (tg_many tg), z83, (tg_bits tg), (tg_flags tg), (tg_ab tg), (tg_idx tg), (tg_packets tg), (tg_left tg), (tg_like tg), (tg_ent tg)) _ hE hF)
    · replace hE := fif hE c104
      refine aw_aload_n dX9_readMapHeader_107 rfl ?_
      refine aw_getf (v := .int z83) dX9_readMapHeader_108 flX9_97_8 at_tga rfl ?_
      refine aw_bipush (v := 24) dX9_readMapHeader_111 (by decide) ?_
      refine aw_icmp_eq (tgt := 125) dX9_readMapHeader_113 (by decide) (fun c113 => ?_) (fun c113 => ?_)
      · replace hE := fit hE c113
        exact aw_lv _ (List.forall_mem_cons.mpr ⟨rfl, (List.forall_mem_cons.mpr ⟨rfl, (List.forall_mem_cons.mpr ⟨rfl, fun _ h => absurd h List.not_mem_nil⟩)⟩)⟩) (b_X9_readMapHeader_125 m0 sh rr ww so pl qo pn bm px fa hb n hso  (sc_pos sc) s83 ((tg_f1 tg), (tg_f2 tg), (tg_f3 tg), (tg_map tg), (tg_type tg), (tg_fe tg), (tg_many tg), z83, (tg_bits tg), (tg_flags tg), (tg_ab tg), (tg_idx tg), (tg_packets tg), (tg_left tg), (tg_like tg), (tg_ent tg)) _ hE hF)
      · replace hE := fif hE c113
        refine aw_aload_n dX9_readMapHeader_116 rfl ?_
        refine aw_getf (v := .int z83) dX9_readMapHeader_117 flX9_97_8 at_tga rfl ?_
        refine aw_bipush (v := 32) dX9_readMapHeader_120 (by decide) ?_
        refine aw_icmp_ne (tgt := 129) dX9_readMapHeader_122 (by decide) (fun c122 => ?_) (fun c122 => ?_)
        · replace hE := fif hE c122
          refine aw_iconst (v := 0) dX9_readMapHeader_129 (by decide) ?_
          exact aw_lv _ (List.forall_mem_cons.mpr ⟨rfl, (List.forall_mem_cons.mpr ⟨rfl, (List.forall_mem_cons.mpr ⟨rfl, fun _ h => absurd h List.not_mem_nil⟩)⟩)⟩) (b_X9_readMapHeader_130 m0 sh rr ww so pl qo pn bm px fa hb n hso  (sc_pos sc) (0 : Int32) s83 ((tg_f1 tg), (tg_f2 tg), (tg_f3 tg), (tg_map tg), (tg_type tg), (tg_fe tg), (tg_many tg), z83, (tg_bits tg), (tg_flags tg), (tg_ab tg), (tg_idx tg), (tg_packets tg), (tg_left tg), (tg_like tg), (tg_ent tg)) _ hE hF)
        · replace hE := fit hE c122
          exact aw_lv _ (List.forall_mem_cons.mpr ⟨rfl, (List.forall_mem_cons.mpr ⟨rfl, (List.forall_mem_cons.mpr ⟨rfl, fun _ h => absurd h List.not_mem_nil⟩)⟩)⟩) (b_X9_readMapHeader_125 m0 sh rr ww so pl qo pn bm px fa hb n hso  (sc_pos sc) s83 ((tg_f1 tg), (tg_f2 tg), (tg_f3 tg), (tg_map tg), (tg_type tg), (tg_fe tg), (tg_many tg), z83, (tg_bits tg), (tg_flags tg), (tg_ab tg), (tg_idx tg), (tg_packets tg), (tg_left tg), (tg_like tg), (tg_ent tg)) _ hE hF)
def F_X9_readMapHeader_70 (sb : A)  (v2 : Int32) (sc : Src) (tg : Tga) : Out (Src × Tga) Unit := fon (F_X8_refuse 2 v2 sc) (fun _ _ => fno) (fun E s73 => fex E (s73, tg))
set_option maxHeartbeats 1000000 in
set_option maxRecDepth 100000 in
theorem b_X9_readMapHeader_70 (m0 : Mnt) (sh : Nat → Nat) (rr : Nat → Ras) (ww : Nat → Row) (so : Nat) (pl : Pal) (qo : Qoi) (pn : Pnm) (bm : Bmp) (px : Pcx) (fa : A) (hb : aH) (n : Nat) (hso : isW so)  : Q_X9_readMapHeader_70 m0 sh rr ww so pl qo pn bm px fa hb n (F_X9_readMapHeader_70 (y_b (ww so))) := by
  intro v2 sc tg res hE hF
  unfold F_X9_readMapHeader_70 at hE
  refine aw_aload_n dX9_readMapHeader_70 rfl ?_
  refine aw_iconst (v := 2) dX9_readMapHeader_71 (by decide) ?_
  refine aw_iload_n dX9_readMapHeader_72 rfl ?_
  refine aw_callV dX9_readMapHeader_73 at_src cvX9_80 rfl (kF_X8_refuse m0 sh rr ww so sc pl qo pn bm tg px fa hb _  2 v2 (fon_ne hE hF)) rfl (Nat.le_of_ble_eq_true rfl) (by decide) (by decide) (by decide) (by decide) (fun E h2 n2 hx => aw_out rfl (by decide) (by decide) (by obtain ⟨s73, e73, rfl, rfl⟩ := hx; exact ⟨_, (fon_ex e73 hE).symm, rfl, rfl⟩)) (fun r73 h73 n73 hp73 => ?_)
  obtain ⟨z73, s73, e73, rfl, rfl, rfl⟩ := hp73
  exact (hF (fon_ok e73 hE).symm).elim
def F_X9_readMapHeader_33 (sb : A)  (sc : Src) (tg : Tga) : Out (Src × Tga) Unit := fon (F_X8_low2 sc sb) (fun z40 s40 => if (tg_map tg) = 0 then (if z40 = 0 then (F_X9_readMapHeader_76 sb s40 ((tg_f1 tg), (tg_f2 tg), (tg_f3 tg), (tg_map tg), (tg_type tg), (tg_fe tg), z40, (tg_deep tg), (tg_bits tg), (tg_flags tg), (tg_ab tg), (tg_idx tg), (tg_packets tg), (tg_left tg), (tg_like tg), (tg_ent tg))) else (F_X9_readMapHeader_70 sb (sc_pos sc) s40 ((tg_f1 tg), (tg_f2 tg), (tg_f3 tg), (tg_map tg), (tg_type tg), (tg_fe tg), z40, (tg_deep tg), (tg_bits tg), (tg_flags tg), (tg_ab tg), (tg_idx tg), (tg_packets tg), (tg_left tg), (tg_like tg), (tg_ent tg)))) else (if z40 = 0 then (F_X9_readMapHeader_70 sb (sc_pos sc) s40 ((tg_f1 tg), (tg_f2 tg), (tg_f3 tg), (tg_map tg), (tg_type tg), (tg_fe tg), z40, (tg_deep tg), (tg_bits tg), (tg_flags tg), (tg_ab tg), (tg_idx tg), (tg_packets tg), (tg_left tg), (tg_like tg), (tg_ent tg))) else (F_X9_readMapHeader_76 sb s40 ((tg_f1 tg), (tg_f2 tg), (tg_f3 tg), (tg_map tg), (tg_type tg), (tg_fe tg), z40, (tg_deep tg), (tg_bits tg), (tg_flags tg), (tg_ab tg), (tg_idx tg), (tg_packets tg), (tg_left tg), (tg_like tg), (tg_ent tg))))) (fun E s40 => fex E (s40, tg))
set_option maxHeartbeats 1000000 in
set_option maxRecDepth 100000 in
theorem b_X9_readMapHeader_33 (m0 : Mnt) (sh : Nat → Nat) (rr : Nat → Ras) (ww : Nat → Row) (so : Nat) (pl : Pal) (qo : Qoi) (pn : Pnm) (bm : Bmp) (px : Pcx) (fa : A) (hb : aH) (n : Nat) (hso : isW so)  : Q_X9_readMapHeader_33 m0 sh rr ww so pl qo pn bm px fa hb n (F_X9_readMapHeader_33 (y_b (ww so))) := by
  intro sc tg res hE hF
  unfold F_X9_readMapHeader_33 at hE
  refine aw_aload_n dX9_readMapHeader_33 rfl ?_
  refine aw_getf (v := .int (sc_pos sc)) dX9_readMapHeader_34 flX9_74_7 at_src rfl ?_
  refine aw_istore_n (lv2 := [(2, _), (0, _), (1, _)]) dX9_readMapHeader_37 (by decide) rfl ?_
  refine aw_aload_n dX9_readMapHeader_38 rfl ?_
  refine aw_aload_n dX9_readMapHeader_39 rfl ?_
  refine aw_callV dX9_readMapHeader_40 at_src cvX9_88 rfl (kF_X8_low2 m0 sh rr ww so sc pl qo pn bm tg px fa hb _ hso  (fon_ne hE hF)) rfl (Nat.le_of_ble_eq_true rfl) (by decide) (by decide) (by decide) (by decide) (fun E h2 n2 hx => aw_out rfl (by decide) (by decide) (by obtain ⟨s40, e40, rfl, rfl⟩ := hx; exact ⟨_, (fon_ex e40 hE).symm, rfl, rfl⟩)) (fun r40 h40 n40 hp40 => ?_)
  obtain ⟨z40, s40, e40, rfl, rfl, rfl⟩ := hp40
  replace hE := fon_ok e40 hE
  refine aw_putf dX9_readMapHeader_43 ptX9_94_8 at_tga (Nat.le_of_ble_eq_true rfl) ⟨rfl, rfl⟩ ?_
  refine aw_eqh (h2 := HC m0 sh rr ww so s40 pl qo pn bm ((tg_f1 tg), (tg_f2 tg), (tg_f3 tg), (tg_map tg), (tg_type tg), (tg_fe tg), z40, (tg_deep tg), (tg_bits tg), (tg_flags tg), (tg_ab tg), (tg_idx tg), (tg_packets tg), (tg_left tg), (tg_like tg), (tg_ent tg)) px fa hb) up_tga ?_
  refine aw_aload_n dX9_readMapHeader_46 rfl ?_
  refine aw_getf (v := .int (tg_map tg)) dX9_readMapHeader_47 flX9_77_8 at_tga rfl ?_
  refine aw_if_ne (tgt := 63) dX9_readMapHeader_50 (by decide) (fun c50 => ?_) (fun c50 => ?_)
  · replace hE := fif hE c50
    refine aw_aload_n dX9_readMapHeader_63 rfl ?_
    refine aw_getf (v := .int z40) dX9_readMapHeader_64 flX9_94_8 at_tga rfl ?_
    refine aw_if_ne (tgt := 76) dX9_readMapHeader_67 (by decide) (fun c67 => ?_) (fun c67 => ?_)
    · replace hE := fif hE c67
      exact aw_lv _ (List.forall_mem_cons.mpr ⟨rfl, (List.forall_mem_cons.mpr ⟨rfl, fun _ h => absurd h List.not_mem_nil⟩)⟩) (b_X9_readMapHeader_76 m0 sh rr ww so pl qo pn bm px fa hb n hso  s40 ((tg_f1 tg), (tg_f2 tg), (tg_f3 tg), (tg_map tg), (tg_type tg), (tg_fe tg), z40, (tg_deep tg), (tg_bits tg), (tg_flags tg), (tg_ab tg), (tg_idx tg), (tg_packets tg), (tg_left tg), (tg_like tg), (tg_ent tg)) _ hE hF)
    · replace hE := fit hE c67
      exact aw_lv _ (List.forall_mem_cons.mpr ⟨rfl, (List.forall_mem_cons.mpr ⟨rfl, fun _ h => absurd h List.not_mem_nil⟩)⟩) (b_X9_readMapHeader_70 m0 sh rr ww so pl qo pn bm px fa hb n hso  (sc_pos sc) s40 ((tg_f1 tg), (tg_f2 tg), (tg_f3 tg), (tg_map tg), (tg_type tg), (tg_fe tg), z40, (tg_deep tg), (tg_bits tg), (tg_flags tg), (tg_ab tg), (tg_idx tg), (tg_packets tg), (tg_left tg), (tg_like tg), (tg_ent tg)) _ hE hF)
  · replace hE := fit hE c50
    refine aw_aload_n dX9_readMapHeader_53 rfl ?_
    refine aw_getf (v := .int z40) dX9_readMapHeader_54 flX9_94_8 at_tga rfl ?_
    refine aw_if_eq (tgt := 76) dX9_readMapHeader_57 (by decide) (fun c57 => ?_) (fun c57 => ?_)
    · replace hE := fit hE c57
      exact aw_lv _ (List.forall_mem_cons.mpr ⟨rfl, (List.forall_mem_cons.mpr ⟨rfl, fun _ h => absurd h List.not_mem_nil⟩)⟩) (b_X9_readMapHeader_76 m0 sh rr ww so pl qo pn bm px fa hb n hso  s40 ((tg_f1 tg), (tg_f2 tg), (tg_f3 tg), (tg_map tg), (tg_type tg), (tg_fe tg), z40, (tg_deep tg), (tg_bits tg), (tg_flags tg), (tg_ab tg), (tg_idx tg), (tg_packets tg), (tg_left tg), (tg_like tg), (tg_ent tg)) _ hE hF)
    · replace hE := fif hE c57
      refine aw_goto (tgt := 70) dX9_readMapHeader_60 (by decide) ?_
      exact aw_lv _ (List.forall_mem_cons.mpr ⟨rfl, (List.forall_mem_cons.mpr ⟨rfl, fun _ h => absurd h List.not_mem_nil⟩)⟩) (b_X9_readMapHeader_70 m0 sh rr ww so pl qo pn bm px fa hb n hso  (sc_pos sc) s40 ((tg_f1 tg), (tg_f2 tg), (tg_f3 tg), (tg_map tg), (tg_type tg), (tg_fe tg), z40, (tg_deep tg), (tg_bits tg), (tg_flags tg), (tg_ab tg), (tg_idx tg), (tg_packets tg), (tg_left tg), (tg_like tg), (tg_ent tg)) _ hE hF)
def F_X9_readMapHeader (sc : Src) (sb : A) (tg : Tga) : Out (Src × Tga) Unit := fon (F_X8_low2 sc sb) (fun z7 s7 => if (tg_map tg) = 0 then (if z7 = 0 then (F_X9_readMapHeader_33 sb s7 ((tg_f1 tg), (tg_f2 tg), (tg_f3 tg), (tg_map tg), (tg_type tg), z7, (tg_many tg), (tg_deep tg), (tg_bits tg), (tg_flags tg), (tg_ab tg), (tg_idx tg), (tg_packets tg), (tg_left tg), (tg_like tg), (tg_ent tg))) else (fon (F_X8_refuse 2 (sc_pos sc) s7) (fun _ _ => fno) (fun E s30 => fex E (s30, ((tg_f1 tg), (tg_f2 tg), (tg_f3 tg), (tg_map tg), (tg_type tg), z7, (tg_many tg), (tg_deep tg), (tg_bits tg), (tg_flags tg), (tg_ab tg), (tg_idx tg), (tg_packets tg), (tg_left tg), (tg_like tg), (tg_ent tg)))))) else (F_X9_readMapHeader_33 sb s7 ((tg_f1 tg), (tg_f2 tg), (tg_f3 tg), (tg_map tg), (tg_type tg), z7, (tg_many tg), (tg_deep tg), (tg_bits tg), (tg_flags tg), (tg_ab tg), (tg_idx tg), (tg_packets tg), (tg_left tg), (tg_like tg), (tg_ent tg)))) (fun E s7 => fex E (s7, tg))
set_option maxHeartbeats 1000000 in
set_option maxRecDepth 100000 in
theorem kF_X9_readMapHeader (m0 : Mnt) (sh : Nat → Nat) (rr : Nat → Ras) (ww : Nat → Row) (so : Nat) (sc : Src) (pl : Pal) (qo : Qoi) (pn : Pnm) (bm : Bmp) (tg : Tga) (px : Pcx) (fa : A) (hb : aH) (n : Nat) (hso : isW so)  (hF : F_X9_readMapHeader sc (y_b (ww so)) tg ≠ fno) : AM mX9_readMapHeader 5 [.ref 26, .ref 16] (HC m0 sh rr ww so sc pl qo pn bm tg px fa hb) n 1 6 0 0 (P_X9_readMapHeader m0 sh rr ww so pl qo pn bm px fa hb n (F_X9_readMapHeader sc (y_b (ww so)) tg)) (X_X9_readMapHeader m0 sh rr ww so pl qo pn bm px fa hb n (F_X9_readMapHeader sc (y_b (ww so)) tg)) := by
  generalize hE : F_X9_readMapHeader sc (y_b (ww so)) tg = res at hF ⊢
  refine aw_of (by decide +kernel) rfl (Nat.le_of_ble_eq_true rfl) ?_
  unfold F_X9_readMapHeader at hE
  refine aw_aload_n dX9_readMapHeader_0 rfl ?_
  refine aw_getf (v := .int (sc_pos sc)) dX9_readMapHeader_1 flX9_74_7 at_src rfl ?_
  refine aw_istore_n (lv2 := [(2, _), (0, _), (1, _)]) dX9_readMapHeader_4 (by decide) rfl ?_
  refine aw_aload_n dX9_readMapHeader_5 rfl ?_
  refine aw_aload_n dX9_readMapHeader_6 rfl ?_
  refine aw_callV dX9_readMapHeader_7 at_src cvX9_88 rfl (kF_X8_low2 m0 sh rr ww so sc pl qo pn bm tg px fa hb _ hso  (fon_ne hE hF)) rfl (Nat.le_of_ble_eq_true rfl) (by decide) (by decide) (by decide) (by decide) (fun E h2 n2 hx => aw_out rfl (by decide) (by decide) (by obtain ⟨s7, e7, rfl, rfl⟩ := hx; exact ⟨_, (fon_ex e7 hE).symm, rfl, rfl⟩)) (fun r7 h7 n7 hp7 => ?_)
  obtain ⟨z7, s7, e7, rfl, rfl, rfl⟩ := hp7
  replace hE := fon_ok e7 hE
  refine aw_putf dX9_readMapHeader_10 ptX9_91_8 at_tga (Nat.le_of_ble_eq_true rfl) ⟨rfl, rfl⟩ ?_
  refine aw_eqh (h2 := HC m0 sh rr ww so s7 pl qo pn bm ((tg_f1 tg), (tg_f2 tg), (tg_f3 tg), (tg_map tg), (tg_type tg), z7, (tg_many tg), (tg_deep tg), (tg_bits tg), (tg_flags tg), (tg_ab tg), (tg_idx tg), (tg_packets tg), (tg_left tg), (tg_like tg), (tg_ent tg)) px fa hb) up_tga ?_
  refine aw_aload_n dX9_readMapHeader_13 rfl ?_
  refine aw_getf (v := .int (tg_map tg)) dX9_readMapHeader_14 flX9_77_8 at_tga rfl ?_
  refine aw_if_ne (tgt := 33) dX9_readMapHeader_17 (by decide) (fun c17 => ?_) (fun c17 => ?_)
  · replace hE := fif hE c17
    exact aw_lv _ (List.forall_mem_cons.mpr ⟨rfl, (List.forall_mem_cons.mpr ⟨rfl, fun _ h => absurd h List.not_mem_nil⟩)⟩) (b_X9_readMapHeader_33 m0 sh rr ww so pl qo pn bm px fa hb n hso  s7 ((tg_f1 tg), (tg_f2 tg), (tg_f3 tg), (tg_map tg), (tg_type tg), z7, (tg_many tg), (tg_deep tg), (tg_bits tg), (tg_flags tg), (tg_ab tg), (tg_idx tg), (tg_packets tg), (tg_left tg), (tg_like tg), (tg_ent tg)) _ hE hF)
  · replace hE := fit hE c17
    refine aw_aload_n dX9_readMapHeader_20 rfl ?_
    refine aw_getf (v := .int z7) dX9_readMapHeader_21 flX9_91_8 at_tga rfl ?_
    refine aw_if_eq (tgt := 33) dX9_readMapHeader_24 (by decide) (fun c24 => ?_) (fun c24 => ?_)
    · replace hE := fit hE c24
      exact aw_lv _ (List.forall_mem_cons.mpr ⟨rfl, (List.forall_mem_cons.mpr ⟨rfl, fun _ h => absurd h List.not_mem_nil⟩)⟩) (b_X9_readMapHeader_33 m0 sh rr ww so pl qo pn bm px fa hb n hso  s7 ((tg_f1 tg), (tg_f2 tg), (tg_f3 tg), (tg_map tg), (tg_type tg), z7, (tg_many tg), (tg_deep tg), (tg_bits tg), (tg_flags tg), (tg_ab tg), (tg_idx tg), (tg_packets tg), (tg_left tg), (tg_like tg), (tg_ent tg)) _ hE hF)
    · replace hE := fif hE c24
      refine aw_aload_n dX9_readMapHeader_27 rfl ?_
      refine aw_iconst (v := 2) dX9_readMapHeader_28 (by decide) ?_
      refine aw_iload_n dX9_readMapHeader_29 rfl ?_
      refine aw_callV dX9_readMapHeader_30 at_src cvX9_80 rfl (kF_X8_refuse m0 sh rr ww so s7 pl qo pn bm ((tg_f1 tg), (tg_f2 tg), (tg_f3 tg), (tg_map tg), (tg_type tg), z7, (tg_many tg), (tg_deep tg), (tg_bits tg), (tg_flags tg), (tg_ab tg), (tg_idx tg), (tg_packets tg), (tg_left tg), (tg_like tg), (tg_ent tg)) px fa hb _  2 (sc_pos sc) (fon_ne hE hF)) rfl (Nat.le_of_ble_eq_true rfl) (by decide) (by decide) (by decide) (by decide) (fun E h2 n2 hx => aw_out rfl (by decide) (by decide) (by obtain ⟨s30, e30, rfl, rfl⟩ := hx; exact ⟨_, (fon_ex e30 hE).symm, rfl, rfl⟩)) (fun r30 h30 n30 hp30 => ?_)
      obtain ⟨z30, s30, e30, rfl, rfl, rfl⟩ := hp30
      exact (hF (fon_ok e30 hE).symm).elim
def P_X9_readSide (m0 : Mnt) (sh : Nat → Nat) (rr : Nat → Ras) (ww : Nat → Row) (so : Nat) (pl : Pal) (qo : Qoi) (pn : Pnm) (bm : Bmp) (tg : Tga) (px : Pcx) (fa : A) (hb : aH) (n : Nat) (res : Out Src Int32) : Option Value → aH → Nat → Prop := fun r1 h2 n2 => ∃ (a : Int32) (s : Src), res = fok a s ∧ r1 = some (.int a) ∧ h2 = HC m0 sh rr ww so s pl qo pn bm tg px fa hb ∧ n = n2
def X_X9_readSide (m0 : Mnt) (sh : Nat → Nat) (rr : Nat → Ras) (ww : Nat → Row) (so : Nat) (pl : Pal) (qo : Qoi) (pn : Pnm) (bm : Bmp) (tg : Tga) (px : Pcx) (fa : A) (hb : aH) (n : Nat) (res : Out Src Int32) : String → aH → Nat → Prop := fun E h2 n2 => ∃ s : Src, res = fex E s ∧ h2 = HC m0 sh rr ww so s pl qo pn bm tg px fa hb ∧ n = n2
def F_X9_readSide (sc : Src) (sb : A) : Out Src Int32 := fon (F_X8_low2 sc sb) (fun z6 s6 => if z6 = 0 then (fon (F_X8_refuse 2 (sc_pos sc) s6) (fun _ _ => fno) (fun E s17 => fex E s17)) else (fok (z6 : Int32) s6)) (fun E s6 => fex E s6)
set_option maxHeartbeats 1000000 in
set_option maxRecDepth 100000 in
theorem kF_X9_readSide (m0 : Mnt) (sh : Nat → Nat) (rr : Nat → Ras) (ww : Nat → Row) (so : Nat) (sc : Src) (pl : Pal) (qo : Qoi) (pn : Pnm) (bm : Bmp) (tg : Tga) (px : Pcx) (fa : A) (hb : aH) (n : Nat) (hso : isW so)  (hF : F_X9_readSide sc (y_b (ww so)) ≠ fno) : AM mX9_readSide 5 [.ref 16] (HC m0 sh rr ww so sc pl qo pn bm tg px fa hb) n 1 6 0 0 (P_X9_readSide m0 sh rr ww so pl qo pn bm tg px fa hb n (F_X9_readSide sc (y_b (ww so)))) (X_X9_readSide m0 sh rr ww so pl qo pn bm tg px fa hb n (F_X9_readSide sc (y_b (ww so)))) := by
  generalize hE : F_X9_readSide sc (y_b (ww so)) = res at hF ⊢
  refine aw_of (by decide +kernel) rfl (Nat.le_of_ble_eq_true rfl) ?_
  unfold F_X9_readSide at hE
  refine aw_aload_n dX9_readSide_0 rfl ?_
  refine aw_getf (v := .int (sc_pos sc)) dX9_readSide_1 flX9_74_7 at_src rfl ?_
  refine aw_istore_n (lv2 := [(1, _), (0, _)]) dX9_readSide_4 (by decide) rfl ?_
  refine aw_aload_n dX9_readSide_5 rfl ?_
  refine aw_callV dX9_readSide_6 at_src cvX9_88 rfl (kF_X8_low2 m0 sh rr ww so sc pl qo pn bm tg px fa hb _ hso  (fon_ne hE hF)) rfl (Nat.le_of_ble_eq_true rfl) (by decide) (by decide) (by decide) (by decide) (fun E h2 n2 hx => aw_out rfl (by decide) (by decide) (by obtain ⟨s6, e6, rfl, rfl⟩ := hx; exact ⟨_, (fon_ex e6 hE).symm, rfl, rfl⟩)) (fun r6 h6 n6 hp6 => ?_)
  obtain ⟨z6, s6, e6, rfl, rfl, rfl⟩ := hp6
  replace hE := fon_ok e6 hE
  refine aw_istore_n (lv2 := [(2, _), (1, _), (0, _)]) dX9_readSide_9 (by decide) rfl ?_
  refine aw_iload_n dX9_readSide_10 rfl ?_
  refine aw_if_ne (tgt := 20) dX9_readSide_11 (by decide) (fun c11 => ?_) (fun c11 => ?_)
  · replace hE := fif hE c11
    refine aw_iload_n dX9_readSide_20 rfl ?_
    exact aw_iret dX9_readSide_21 rfl (Nat.zero_le _) (Nat.zero_le _) (Nat.zero_le _) (Nat.zero_le _) ⟨_, _, hE.symm, rfl, rfl, rfl⟩
  · replace hE := fit hE c11
    refine aw_aload_n dX9_readSide_14 rfl ?_
    refine aw_iconst (v := 2) dX9_readSide_15 (by decide) ?_
    refine aw_iload_n dX9_readSide_16 rfl ?_
    refine aw_callV dX9_readSide_17 at_src cvX9_80 rfl (kF_X8_refuse m0 sh rr ww so s6 pl qo pn bm tg px fa hb _  2 (sc_pos sc) (fon_ne hE hF)) rfl (Nat.le_of_ble_eq_true rfl) (by decide) (by decide) (by decide) (by decide) (fun E h2 n2 hx => aw_out rfl (by decide) (by decide) (by obtain ⟨s17, e17, rfl, rfl⟩ := hx; exact ⟨_, (fon_ex e17 hE).symm, rfl, rfl⟩)) (fun r17 h17 n17 hp17 => ?_)
    obtain ⟨z17, s17, e17, rfl, rfl, rfl⟩ := hp17
    exact (hF (fon_ok e17 hE).symm).elim
def P_X9_readBits (m0 : Mnt) (sh : Nat → Nat) (rr : Nat → Ras) (ww : Nat → Row) (so : Nat) (pl : Pal) (qo : Qoi) (pn : Pnm) (bm : Bmp) (px : Pcx) (fa : A) (hb : aH) (n : Nat) (res : Out (Src × Tga) Unit) : Option Value → aH → Nat → Prop := fun r1 h2 n2 => ∃ (a : Unit) (s : (Src × Tga)), res = fok a s ∧ r1 = none ∧ h2 = HC m0 sh rr ww so s.1 pl qo pn bm s.2 px fa hb ∧ n = n2
def X_X9_readBits (m0 : Mnt) (sh : Nat → Nat) (rr : Nat → Ras) (ww : Nat → Row) (so : Nat) (pl : Pal) (qo : Qoi) (pn : Pnm) (bm : Bmp) (px : Pcx) (fa : A) (hb : aH) (n : Nat) (res : Out (Src × Tga) Unit) : String → aH → Nat → Prop := fun E h2 n2 => ∃ s : (Src × Tga), res = fex E s ∧ h2 = HC m0 sh rr ww so s.1 pl qo pn bm s.2 px fa hb ∧ n = n2
abbrev Q_X9_readBits_29 (m0 : Mnt) (sh : Nat → Nat) (rr : Nat → Ras) (ww : Nat → Row) (so : Nat) (pl : Pal) (qo : Qoi) (pn : Pnm) (bm : Bmp) (px : Pcx) (fa : A) (hb : aH) (n : Nat) (k : Int32 → Int32 → Src → Tga → Out (Src × Tga) Unit) : Prop := ∀ (v2 : Int32) (t0 : Int32) (sc : Src) (tg : Tga) (res : Out (Src × Tga) Unit), k v2 t0 sc tg = res → res ≠ fno → AW (fun _ _ => True) mX9_readBits (rmD 4 1 6) 0 0 (P_X9_readBits m0 sh rr ww so pl qo pn bm px fa hb n res) (X_X9_readBits m0 sh rr ww so pl qo pn bm px fa hb n res) 0 0 29 [(0, .ref 26), (1, .ref 16), (2, .int v2)] [.int t0] (HC m0 sh rr ww so sc pl qo pn bm tg px fa hb) n
abbrev Q_X9_readBits_61 (m0 : Mnt) (sh : Nat → Nat) (rr : Nat → Ras) (ww : Nat → Row) (so : Nat) (pl : Pal) (qo : Qoi) (pn : Pnm) (bm : Bmp) (px : Pcx) (fa : A) (hb : aH) (n : Nat) (k : Int32 → Src → Tga → Out (Src × Tga) Unit) : Prop := ∀ (v2 : Int32) (sc : Src) (tg : Tga) (res : Out (Src × Tga) Unit), k v2 sc tg = res → res ≠ fno → AW (fun _ _ => True) mX9_readBits (rmD 4 1 6) 0 0 (P_X9_readBits m0 sh rr ww so pl qo pn bm px fa hb n res) (X_X9_readBits m0 sh rr ww so pl qo pn bm px fa hb n res) 0 0 61 [(1, .ref 16), (2, .int v2)] [] (HC m0 sh rr ww so sc pl qo pn bm tg px fa hb) n
abbrev Q_X9_readBits_83 (m0 : Mnt) (sh : Nat → Nat) (rr : Nat → Ras) (ww : Nat → Row) (so : Nat) (pl : Pal) (qo : Qoi) (pn : Pnm) (bm : Bmp) (px : Pcx) (fa : A) (hb : aH) (n : Nat) (k : Int32 → Int32 → Src → Tga → Out (Src × Tga) Unit) : Prop := ∀ (v2 : Int32) (t0 : Int32) (sc : Src) (tg : Tga) (res : Out (Src × Tga) Unit), k v2 t0 sc tg = res → res ≠ fno → AW (fun _ _ => True) mX9_readBits (rmD 4 1 6) 0 0 (P_X9_readBits m0 sh rr ww so pl qo pn bm px fa hb n res) (X_X9_readBits m0 sh rr ww so pl qo pn bm px fa hb n res) 0 0 83 [(1, .ref 16), (2, .int v2)] [.int t0] (HC m0 sh rr ww so sc pl qo pn bm tg px fa hb) n
def F_X9_readBits_83 (sb : A)  (v2 : Int32) (t0 : Int32) (sc : Src) (tg : Tga) : Out (Src × Tga) Unit := if t0 = 0 then (fon (F_X8_refuse 2 v2 sc) (fun _ _ => fno) (fun E s93 => fex E (s93, tg))) else (fok () (sc, tg))
set_option maxHeartbeats 1000000 in
set_option maxRecDepth 100000 in
theorem b_X9_readBits_83 (m0 : Mnt) (sh : Nat → Nat) (rr : Nat → Ras) (ww : Nat → Row) (so : Nat) (pl : Pal) (qo : Qoi) (pn : Pnm) (bm : Bmp) (px : Pcx) (fa : A) (hb : aH) (n : Nat) (hso : isW so)  : Q_X9_readBits_83 m0 sh rr ww so pl qo pn bm px fa hb n (F_X9_readBits_83 (y_b (ww so))) := by
  intro v2 t0 sc tg res hE hF
  unfold F_X9_readBits_83 at hE
  refine aw_istore (lv2 := [(4, _), (1, _), (2, _)]) dX9_readBits_83 (by decide) rfl ?_
  refine aw_iload dX9_readBits_85 rfl ?_
  refine aw_if_ne (tgt := 96) dX9_readBits_87 (by decide) (fun c87 => ?_) (fun c87 => ?_)
  · replace hE := fif hE c87
    exact aw_vret dX9_readBits_96 rfl (Nat.zero_le _) (Nat.zero_le _) (Nat.zero_le _) (Nat.zero_le _) ⟨_, _, hE.symm, rfl, rfl, rfl⟩
  · replace hE := fit hE c87
    refine aw_aload_n dX9_readBits_90 rfl ?_
    refine aw_iconst (v := 2) dX9_readBits_91 (by decide) ?_
    refine aw_iload_n dX9_readBits_92 rfl ?_
    refine aw_callV dX9_readBits_93 at_src cvX9_80 rfl (kF_X8_refuse m0 sh rr ww so sc pl qo pn bm tg px fa hb _  2 v2 (fon_ne hE hF)) rfl (Nat.le_of_ble_eq_true rfl) (by decide) (by decide) (by decide) (by decide) (fun E h2 n2 hx => aw_out rfl (by decide) (by decide) (by obtain ⟨s93, e93, rfl, rfl⟩ := hx; exact ⟨_, (fon_ex e93 hE).symm, rfl, rfl⟩)) (fun r93 h93 n93 hp93 => ?_)
    obtain ⟨z93, s93, e93, rfl, rfl, rfl⟩ := hp93
    exact (hF (fon_ok e93 hE).symm).elim
def F_X9_readBits_61 (sb : A)  (v2 : Int32) (sc : Src) (tg : Tga) : Out (Src × Tga) Unit := F_X9_readBits_83 sb v2 (1 : Int32) sc tg
set_option maxHeartbeats 1000000 in
set_option maxRecDepth 100000 in
theorem b_X9_readBits_61 (m0 : Mnt) (sh : Nat → Nat) (rr : Nat → Ras) (ww : Nat → Row) (so : Nat) (pl : Pal) (qo : Qoi) (pn : Pnm) (bm : Bmp) (px : Pcx) (fa : A) (hb : aH) (n : Nat) (hso : isW so)  : Q_X9_readBits_61 m0 sh rr ww so pl qo pn bm px fa hb n (F_X9_readBits_61 (y_b (ww so))) := by
  intro v2 sc tg res hE hF
  unfold F_X9_readBits_61 at hE
  refine aw_iconst (v := 1) dX9_readBits_61 (by decide) ?_
  refine aw_goto (tgt := 83) dX9_readBits_62 (by decide) ?_
  exact aw_lv _ (List.forall_mem_cons.mpr ⟨rfl, (List.forall_mem_cons.mpr ⟨rfl, fun _ h => absurd h List.not_mem_nil⟩)⟩) (b_X9_readBits_83 m0 sh rr ww so pl qo pn bm px fa hb n hso  v2 (1 : Int32) sc tg _ hE hF)
def F_X9_readBits_29 (sb : A)  (v2 : Int32) (t0 : Int32) (sc : Src) (tg : Tga) : Out (Src × Tga) Unit := if t0 = 0 then (if (tg_bits tg) = 8 then (F_X9_readBits_83 sb v2 (1 : Int32) sc tg) else (F_X9_readBits_83 sb v2 (0 : Int32) sc tg)) else (if (tg_bits tg) = 16 then (F_X9_readBits_61 sb v2 sc tg) else (if (tg_bits tg) = 24 then (F_X9_readBits_61 sb v2 sc tg) else (if (tg_bits tg) = 32 then (F_X9_readBits_61 sb v2 sc tg) else (F_X9_readBits_83 sb v2 (0 : Int32) sc tg))))
set_option maxHeartbeats 1000000 in
set_option maxRecDepth 100000 in
theorem b_X9_readBits_29 (m0 : Mnt) (sh : Nat → Nat) (rr : Nat → Ras) (ww : Nat → Row) (so : Nat) (pl : Pal) (qo : Qoi) (pn : Pnm) (bm : Bmp) (px : Pcx) (fa : A) (hb : aH) (n : Nat) (hso : isW so)  : Q_X9_readBits_29 m0 sh rr ww so pl qo pn bm px fa hb n (F_X9_readBits_29 (y_b (ww so))) := by
  intro v2 t0 sc tg res hE hF
  unfold F_X9_readBits_29 at hE
  refine aw_istore_n (lv2 := [(3, _), (0, _), (1, _), (2, _)]) dX9_readBits_29 (by decide) rfl ?_
  refine aw_iload_n dX9_readBits_30 rfl ?_
  refine aw_if_eq (tgt := 69) dX9_readBits_31 (by decide) (fun c31 => ?_) (fun c31 => ?_)
  · replace hE := fit hE c31
    refine aw_aload_n dX9_readBits_69 rfl ?_
    refine aw_getf (v := .int (tg_bits tg)) dX9_readBits_70 flX9_62_8 at_tga rfl ?_
    refine aw_bipush (v := 8) dX9_readBits_73 (by decide) ?_
    refine aw_icmp_ne (tgt := 82) dX9_readBits_75 (by decide) (fun c75 => ?_) (fun c75 => ?_)
    · replace hE := fif hE c75
      refine aw_iconst (v := 0) dX9_readBits_82 (by decide) ?_
      exact aw_lv _ (List.forall_mem_cons.mpr ⟨rfl, (List.forall_mem_cons.mpr ⟨rfl, fun _ h => absurd h List.not_mem_nil⟩)⟩) (b_X9_readBits_83 m0 sh rr ww so pl qo pn bm px fa hb n hso  v2 (0 : Int32) sc tg _ hE hF)
    · replace hE := fit hE c75
      refine aw_iconst (v := 1) dX9_readBits_78 (by decide) ?_
      refine aw_goto (tgt := 83) dX9_readBits_79 (by decide) ?_
      exact aw_lv _ (List.forall_mem_cons.mpr ⟨rfl, (List.forall_mem_cons.mpr ⟨rfl, fun _ h => absurd h List.not_mem_nil⟩)⟩) (b_X9_readBits_83 m0 sh rr ww so pl qo pn bm px fa hb n hso  v2 (1 : Int32) sc tg _ hE hF)
  · replace hE := fif hE c31
    refine aw_aload_n dX9_readBits_34 rfl ?_
    refine aw_getf (v := .int (tg_bits tg)) dX9_readBits_35 flX9_62_8 at_tga rfl ?_
    refine aw_bipush (v := 16) dX9_readBits_38 (by decide) ?_
    refine aw_icmp_eq (tgt := 61) dX9_readBits_40 (by decide) (fun c40 => ?_) (fun c40 => ?_)
    · replace hE := fit hE c40
      exact aw_lv _ (List.forall_mem_cons.mpr ⟨rfl, (List.forall_mem_cons.mpr ⟨rfl, fun _ h => absurd h List.not_mem_nil⟩)⟩) (b_X9_readBits_61 m0 sh rr ww so pl qo pn bm px fa hb n hso  v2 sc tg _ hE hF)
    · replace hE := fif hE c40
      refine aw_aload_n dX9_readBits_43 rfl ?_
      refine aw_getf (v := .int (tg_bits tg)) dX9_readBits_44 flX9_62_8 at_tga rfl ?_
      refine aw_bipush (v := 24) dX9_readBits_47 (by decide) ?_
      refine aw_icmp_eq (tgt := 61) dX9_readBits_49 (by decide) (fun c49 => ?_) (fun c49 => ?_)
      · replace hE := fit hE c49
        exact aw_lv _ (List.forall_mem_cons.mpr ⟨rfl, (List.forall_mem_cons.mpr ⟨rfl, fun _ h => absurd h List.not_mem_nil⟩)⟩) (b_X9_readBits_61 m0 sh rr ww so pl qo pn bm px fa hb n hso  v2 sc tg _ hE hF)
      · replace hE := fif hE c49
        refine aw_aload_n dX9_readBits_52 rfl ?_
        refine aw_getf (v := .int (tg_bits tg)) dX9_readBits_53 flX9_62_8 at_tga rfl ?_
        refine aw_bipush (v := 32) dX9_readBits_56 (by decide) ?_
        refine aw_icmp_ne (tgt := 65) dX9_readBits_58 (by decide) (fun c58 => ?_) (fun c58 => ?_)
        · replace hE := fif hE c58
          refine aw_iconst (v := 0) dX9_readBits_65 (by decide) ?_
          refine aw_goto (tgt := 83) dX9_readBits_66 (by decide) ?_
          exact aw_lv _ (List.forall_mem_cons.mpr ⟨rfl, (List.forall_mem_cons.mpr ⟨rfl, fun _ h => absurd h List.not_mem_nil⟩)⟩) (b_X9_readBits_83 m0 sh rr ww so pl qo pn bm px fa hb n hso  v2 (0 : Int32) sc tg _ hE hF)
        · replace hE := fit hE c58
          exact aw_lv _ (List.forall_mem_cons.mpr ⟨rfl, (List.forall_mem_cons.mpr ⟨rfl, fun _ h => absurd h List.not_mem_nil⟩)⟩) (b_X9_readBits_61 m0 sh rr ww so pl qo pn bm px fa hb n hso  v2 sc tg _ hE hF)
def F_X9_readBits (sc : Src) (sb : A) (tg : Tga) : Out (Src × Tga) Unit := fon (F_X8_next sc sb) (fun z7 s7 => if ((tg_type tg) &&& 7) = 2 then (F_X9_readBits_29 sb (sc_pos sc) (1 : Int32) s7 ((tg_f1 tg), (tg_f2 tg), (tg_f3 tg), (tg_map tg), (tg_type tg), (tg_fe tg), (tg_many tg), (tg_deep tg), z7, (tg_flags tg), (tg_ab tg), (tg_idx tg), (tg_packets tg), (tg_left tg), (tg_like tg), (tg_ent tg))) else (F_X9_readBits_29 sb (sc_pos sc) (0 : Int32) s7 ((tg_f1 tg), (tg_f2 tg), (tg_f3 tg), (tg_map tg), (tg_type tg), (tg_fe tg), (tg_many tg), (tg_deep tg), z7, (tg_flags tg), (tg_ab tg), (tg_idx tg), (tg_packets tg), (tg_left tg), (tg_like tg), (tg_ent tg)))) (fun E s7 => fex E (s7, tg))
set_option maxHeartbeats 1000000 in
set_option maxRecDepth 100000 in
theorem kF_X9_readBits (m0 : Mnt) (sh : Nat → Nat) (rr : Nat → Ras) (ww : Nat → Row) (so : Nat) (sc : Src) (pl : Pal) (qo : Qoi) (pn : Pnm) (bm : Bmp) (tg : Tga) (px : Pcx) (fa : A) (hb : aH) (n : Nat) (hso : isW so)  (hF : F_X9_readBits sc (y_b (ww so)) tg ≠ fno) : AM mX9_readBits 4 [.ref 26, .ref 16] (HC m0 sh rr ww so sc pl qo pn bm tg px fa hb) n 1 6 0 0 (P_X9_readBits m0 sh rr ww so pl qo pn bm px fa hb n (F_X9_readBits sc (y_b (ww so)) tg)) (X_X9_readBits m0 sh rr ww so pl qo pn bm px fa hb n (F_X9_readBits sc (y_b (ww so)) tg)) := by
  generalize hE : F_X9_readBits sc (y_b (ww so)) tg = res at hF ⊢
  refine aw_of (by decide +kernel) rfl (Nat.le_of_ble_eq_true rfl) ?_
  unfold F_X9_readBits at hE
  refine aw_aload_n dX9_readBits_0 rfl ?_
  refine aw_getf (v := .int (sc_pos sc)) dX9_readBits_1 flX9_74_7 at_src rfl ?_
  refine aw_istore_n (lv2 := [(2, _), (0, _), (1, _)]) dX9_readBits_4 (by decide) rfl ?_
  refine aw_aload_n dX9_readBits_5 rfl ?_
  refine aw_aload_n dX9_readBits_6 rfl ?_
  refine aw_callV dX9_readBits_7 at_src cvX9_19 rfl (kF_X8_next m0 sh rr ww so sc pl qo pn bm tg px fa hb _ hso  (fon_ne hE hF)) rfl (Nat.le_of_ble_eq_true rfl) (by decide) (by decide) (by decide) (by decide) (fun E h2 n2 hx => aw_out rfl (by decide) (by decide) (by obtain ⟨s7, e7, rfl, rfl⟩ := hx; exact ⟨_, (fon_ex e7 hE).symm, rfl, rfl⟩)) (fun r7 h7 n7 hp7 => ?_)
  obtain ⟨z7, s7, e7, rfl, rfl, rfl⟩ := hp7
  replace hE := fon_ok e7 hE
  refine aw_putf dX9_readBits_10 ptX9_62_8 at_tga (Nat.le_of_ble_eq_true rfl) ⟨rfl, rfl⟩ ?_
  refine aw_eqh (h2 := HC m0 sh rr ww so s7 pl qo pn bm ((tg_f1 tg), (tg_f2 tg), (tg_f3 tg), (tg_map tg), (tg_type tg), (tg_fe tg), (tg_many tg), (tg_deep tg), z7, (tg_flags tg), (tg_ab tg), (tg_idx tg), (tg_packets tg), (tg_left tg), (tg_like tg), (tg_ent tg)) px fa hb) up_tga ?_
  refine aw_aload_n dX9_readBits_13 rfl ?_
  refine aw_getf (v := .int (tg_type tg)) dX9_readBits_14 flX9_55_8 at_tga rfl ?_
  refine aw_bipush (v := 7) dX9_readBits_17 (by decide) ?_
  refine aw_iand dX9_readBits_19 ?_
  refine aw_iconst (v := 2) dX9_readBits_20 (by decide) ?_
  refine aw_icmp_ne (tgt := 28) dX9_readBits_21 (by decide) (fun c21 => ?_) (fun c21 => ?_)
  · replace hE := fif hE c21
    refine aw_iconst (v := 0) dX9_readBits_28 (by decide) ?_
    exact aw_lv _ (List.forall_mem_cons.mpr ⟨rfl, (List.forall_mem_cons.mpr ⟨rfl, (List.forall_mem_cons.mpr ⟨rfl, fun _ h => absurd h List.not_mem_nil⟩)⟩)⟩) (b_X9_readBits_29 m0 sh rr ww so pl qo pn bm px fa hb n hso  (sc_pos sc) (0 : Int32) s7 ((tg_f1 tg), (tg_f2 tg), (tg_f3 tg), (tg_map tg), (tg_type tg), (tg_fe tg), (tg_many tg), (tg_deep tg), z7, (tg_flags tg), (tg_ab tg), (tg_idx tg), (tg_packets tg), (tg_left tg), (tg_like tg), (tg_ent tg)) _ hE hF)
  · replace hE := fit hE c21
    refine aw_iconst (v := 1) dX9_readBits_24 (by decide) ?_
    refine aw_goto (tgt := 29) dX9_readBits_25 (by decide) ?_
    exact aw_lv _ (List.forall_mem_cons.mpr ⟨rfl, (List.forall_mem_cons.mpr ⟨rfl, (List.forall_mem_cons.mpr ⟨rfl, fun _ h => absurd h List.not_mem_nil⟩)⟩)⟩) (b_X9_readBits_29 m0 sh rr ww so pl qo pn bm px fa hb n hso  (sc_pos sc) (1 : Int32) s7 ((tg_f1 tg), (tg_f2 tg), (tg_f3 tg), (tg_map tg), (tg_type tg), (tg_fe tg), (tg_many tg), (tg_deep tg), z7, (tg_flags tg), (tg_ab tg), (tg_idx tg), (tg_packets tg), (tg_left tg), (tg_like tg), (tg_ent tg)) _ hE hF)
def P_X9_readFlags (m0 : Mnt) (sh : Nat → Nat) (rr : Nat → Ras) (ww : Nat → Row) (so : Nat) (pl : Pal) (qo : Qoi) (pn : Pnm) (bm : Bmp) (px : Pcx) (fa : A) (hb : aH) (n : Nat) (res : Out (Src × Tga) Unit) : Option Value → aH → Nat → Prop := fun r1 h2 n2 => ∃ (a : Unit) (s : (Src × Tga)), res = fok a s ∧ r1 = none ∧ h2 = HC m0 sh rr ww so s.1 pl qo pn bm s.2 px fa hb ∧ n = n2
def X_X9_readFlags (m0 : Mnt) (sh : Nat → Nat) (rr : Nat → Ras) (ww : Nat → Row) (so : Nat) (pl : Pal) (qo : Qoi) (pn : Pnm) (bm : Bmp) (px : Pcx) (fa : A) (hb : aH) (n : Nat) (res : Out (Src × Tga) Unit) : String → aH → Nat → Prop := fun E h2 n2 => ∃ s : (Src × Tga), res = fex E s ∧ h2 = HC m0 sh rr ww so s.1 pl qo pn bm s.2 px fa hb ∧ n = n2
abbrev Q_X9_readFlags_42 (m0 : Mnt) (sh : Nat → Nat) (rr : Nat → Ras) (ww : Nat → Row) (so : Nat) (pl : Pal) (qo : Qoi) (pn : Pnm) (bm : Bmp) (px : Pcx) (fa : A) (hb : aH) (n : Nat) (k : Int32 → Int32 → Src → Tga → Out (Src × Tga) Unit) : Prop := ∀ (v2 : Int32) (t0 : Int32) (sc : Src) (tg : Tga) (res : Out (Src × Tga) Unit), k v2 t0 sc tg = res → res ≠ fno → AW (fun _ _ => True) mX9_readFlags (rmD 4 1 6) 0 0 (P_X9_readFlags m0 sh rr ww so pl qo pn bm px fa hb n res) (X_X9_readFlags m0 sh rr ww so pl qo pn bm px fa hb n res) 0 0 42 [(0, .ref 26), (1, .ref 16), (2, .int v2)] [.int t0] (HC m0 sh rr ww so sc pl qo pn bm tg px fa hb) n
abbrev Q_X9_readFlags_68 (m0 : Mnt) (sh : Nat → Nat) (rr : Nat → Ras) (ww : Nat → Row) (so : Nat) (pl : Pal) (qo : Qoi) (pn : Pnm) (bm : Bmp) (px : Pcx) (fa : A) (hb : aH) (n : Nat) (k : Int32 → Int32 → Src → Tga → Out (Src × Tga) Unit) : Prop := ∀ (v2 : Int32) (v4 : Int32) (sc : Src) (tg : Tga) (res : Out (Src × Tga) Unit), k v2 v4 sc tg = res → res ≠ fno → AW (fun _ _ => True) mX9_readFlags (rmD 4 1 6) 0 0 (P_X9_readFlags m0 sh rr ww so pl qo pn bm px fa hb n res) (X_X9_readFlags m0 sh rr ww so pl qo pn bm px fa hb n res) 0 0 68 [(0, .ref 26), (1, .ref 16), (2, .int v2), (4, .int v4)] [] (HC m0 sh rr ww so sc pl qo pn bm tg px fa hb) n
abbrev Q_X9_readFlags_93 (m0 : Mnt) (sh : Nat → Nat) (rr : Nat → Ras) (ww : Nat → Row) (so : Nat) (pl : Pal) (qo : Qoi) (pn : Pnm) (bm : Bmp) (px : Pcx) (fa : A) (hb : aH) (n : Nat) (k : Int32 → Src → Tga → Out (Src × Tga) Unit) : Prop := ∀ (v2 : Int32) (sc : Src) (tg : Tga) (res : Out (Src × Tga) Unit), k v2 sc tg = res → res ≠ fno → AW (fun _ _ => True) mX9_readFlags (rmD 4 1 6) 0 0 (P_X9_readFlags m0 sh rr ww so pl qo pn bm px fa hb n res) (X_X9_readFlags m0 sh rr ww so pl qo pn bm px fa hb n res) 0 0 93 [(1, .ref 16), (2, .int v2)] [] (HC m0 sh rr ww so sc pl qo pn bm tg px fa hb) n
def F_X9_readFlags_93 (sb : A)  (v2 : Int32) (sc : Src) (tg : Tga) : Out (Src × Tga) Unit := fon (F_X8_refuse 2 v2 sc) (fun _ _ => fno) (fun E s96 => fex E (s96, tg))
set_option maxHeartbeats 1000000 in
set_option maxRecDepth 100000 in
theorem b_X9_readFlags_93 (m0 : Mnt) (sh : Nat → Nat) (rr : Nat → Ras) (ww : Nat → Row) (so : Nat) (pl : Pal) (qo : Qoi) (pn : Pnm) (bm : Bmp) (px : Pcx) (fa : A) (hb : aH) (n : Nat) (hso : isW so)  : Q_X9_readFlags_93 m0 sh rr ww so pl qo pn bm px fa hb n (F_X9_readFlags_93 (y_b (ww so))) := by
  intro v2 sc tg res hE hF
  unfold F_X9_readFlags_93 at hE
  refine aw_aload_n dX9_readFlags_93 rfl ?_
  refine aw_iconst (v := 2) dX9_readFlags_94 (by decide) ?_
  refine aw_iload_n dX9_readFlags_95 rfl ?_
  refine aw_callV dX9_readFlags_96 at_src cvX9_80 rfl (kF_X8_refuse m0 sh rr ww so sc pl qo pn bm tg px fa hb _  2 v2 (fon_ne hE hF)) rfl (Nat.le_of_ble_eq_true rfl) (by decide) (by decide) (by decide) (by decide) (fun E h2 n2 hx => aw_out rfl (by decide) (by decide) (by obtain ⟨s96, e96, rfl, rfl⟩ := hx; exact ⟨_, (fon_ex e96 hE).symm, rfl, rfl⟩)) (fun r96 h96 n96 hp96 => ?_)
  obtain ⟨z96, s96, e96, rfl, rfl, rfl⟩ := hp96
  exact (hF (fon_ok e96 hE).symm).elim
def F_X9_readFlags_68 (sb : A)  (v2 : Int32) (v4 : Int32) (sc : Src) (tg : Tga) : Out (Src × Tga) Unit := if 63 < (tg_flags tg) then (F_X9_readFlags_93 sb v2 sc tg) else (if (tg_ab tg) = 0 then (fok () (sc, tg)) else (if (tg_ab tg) = v4 then (fok () (sc, tg)) else (F_X9_readFlags_93 sb v2 sc tg)))
set_option maxHeartbeats 1000000 in
set_option maxRecDepth 100000 in
theorem b_X9_readFlags_68 (m0 : Mnt) (sh : Nat → Nat) (rr : Nat → Ras) (ww : Nat → Row) (so : Nat) (pl : Pal) (qo : Qoi) (pn : Pnm) (bm : Bmp) (px : Pcx) (fa : A) (hb : aH) (n : Nat) (hso : isW so)  : Q_X9_readFlags_68 m0 sh rr ww so pl qo pn bm px fa hb n (F_X9_readFlags_68 (y_b (ww so))) := by
  intro v2 v4 sc tg res hE hF
  unfold F_X9_readFlags_68 at hE
  refine aw_aload_n dX9_readFlags_68 rfl ?_
  refine aw_getf (v := .int (tg_flags tg)) dX9_readFlags_69 flX9_108_8 at_tga rfl ?_
  refine aw_bipush (v := 63) dX9_readFlags_72 (by decide) ?_
  refine aw_icmp_gt (tgt := 93) dX9_readFlags_74 (by decide) (fun c74 => ?_) (fun c74 => ?_)
  · replace hE := fit hE c74
    exact aw_lv _ (List.forall_mem_cons.mpr ⟨rfl, (List.forall_mem_cons.mpr ⟨rfl, fun _ h => absurd h List.not_mem_nil⟩)⟩) (b_X9_readFlags_93 m0 sh rr ww so pl qo pn bm px fa hb n hso  v2 sc tg _ hE hF)
  · replace hE := fif hE c74
    refine aw_aload_n dX9_readFlags_77 rfl ?_
    refine aw_getf (v := .int (tg_ab tg)) dX9_readFlags_78 flX9_111_8 at_tga rfl ?_
    refine aw_if_eq (tgt := 99) dX9_readFlags_81 (by decide) (fun c81 => ?_) (fun c81 => ?_)
    · replace hE := fit hE c81
      exact aw_vret dX9_readFlags_99 rfl (Nat.zero_le _) (Nat.zero_le _) (Nat.zero_le _) (Nat.zero_le _) ⟨_, _, hE.symm, rfl, rfl, rfl⟩
    · replace hE := fif hE c81
      refine aw_aload_n dX9_readFlags_84 rfl ?_
      refine aw_getf (v := .int (tg_ab tg)) dX9_readFlags_85 flX9_111_8 at_tga rfl ?_
      refine aw_iload dX9_readFlags_88 rfl ?_
      refine aw_icmp_eq (tgt := 99) dX9_readFlags_90 (by decide) (fun c90 => ?_) (fun c90 => ?_)
      · replace hE := fit hE c90
        exact aw_vret dX9_readFlags_99 rfl (Nat.zero_le _) (Nat.zero_le _) (Nat.zero_le _) (Nat.zero_le _) ⟨_, _, hE.symm, rfl, rfl, rfl⟩
      · replace hE := fif hE c90
        exact aw_lv _ (List.forall_mem_cons.mpr ⟨rfl, (List.forall_mem_cons.mpr ⟨rfl, fun _ h => absurd h List.not_mem_nil⟩)⟩) (b_X9_readFlags_93 m0 sh rr ww so pl qo pn bm px fa hb n hso  v2 sc tg _ hE hF)
def F_X9_readFlags_42 (sb : A)  (v2 : Int32) (t0 : Int32) (sc : Src) (tg : Tga) : Out (Src × Tga) Unit := if t0 = 32 then (F_X9_readFlags_68 sb v2 (8 : Int32) sc tg) else (if t0 = 16 then (F_X9_readFlags_68 sb v2 (1 : Int32) sc tg) else (F_X9_readFlags_68 sb v2 (0 : Int32) sc tg))
set_option maxHeartbeats 1000000 in
set_option maxRecDepth 100000 in
theorem b_X9_readFlags_42 (m0 : Mnt) (sh : Nat → Nat) (rr : Nat → Ras) (ww : Nat → Row) (so : Nat) (pl : Pal) (qo : Qoi) (pn : Pnm) (bm : Bmp) (px : Pcx) (fa : A) (hb : aH) (n : Nat) (hso : isW so)  : Q_X9_readFlags_42 m0 sh rr ww so pl qo pn bm px fa hb n (F_X9_readFlags_42 (y_b (ww so))) := by
  intro v2 t0 sc tg res hE hF
  unfold F_X9_readFlags_42 at hE
  refine aw_istore_n (lv2 := [(3, _), (0, _), (1, _), (2, _)]) dX9_readFlags_42 (by decide) rfl ?_
  refine aw_iconst (v := 0) dX9_readFlags_43 (by decide) ?_
  refine aw_istore (lv2 := [(4, _), (3, _), (0, _), (1, _), (2, _)]) dX9_readFlags_44 (by decide) rfl ?_
  refine aw_iload_n dX9_readFlags_46 rfl ?_
  refine aw_bipush (v := 32) dX9_readFlags_47 (by decide) ?_
  refine aw_icmp_ne (tgt := 59) dX9_readFlags_49 (by decide) (fun c49 => ?_) (fun c49 => ?_)
  · replace hE := fif hE c49
    refine aw_iload_n dX9_readFlags_59 rfl ?_
    refine aw_bipush (v := 16) dX9_readFlags_60 (by decide) ?_
    refine aw_icmp_ne (tgt := 68) dX9_readFlags_62 (by decide) (fun c62 => ?_) (fun c62 => ?_)
    · replace hE := fif hE c62
      exact aw_lv _ (List.forall_mem_cons.mpr ⟨rfl, (List.forall_mem_cons.mpr ⟨rfl, (List.forall_mem_cons.mpr ⟨rfl, (List.forall_mem_cons.mpr ⟨rfl, fun _ h => absurd h List.not_mem_nil⟩)⟩)⟩)⟩) (b_X9_readFlags_68 m0 sh rr ww so pl qo pn bm px fa hb n hso  v2 (0 : Int32) sc tg _ hE hF)
    · replace hE := fit hE c62
      refine aw_iconst (v := 1) dX9_readFlags_65 (by decide) ?_
      refine aw_istore (lv2 := [(4, _), (3, _), (0, _), (1, _), (2, _)]) dX9_readFlags_66 (by decide) rfl ?_
      exact aw_lv _ (List.forall_mem_cons.mpr ⟨rfl, (List.forall_mem_cons.mpr ⟨rfl, (List.forall_mem_cons.mpr ⟨rfl, (List.forall_mem_cons.mpr ⟨rfl, fun _ h => absurd h List.not_mem_nil⟩)⟩)⟩)⟩) (b_X9_readFlags_68 m0 sh rr ww so pl qo pn bm px fa hb n hso  v2 (1 : Int32) sc tg _ hE hF)
  · replace hE := fit hE c49
    refine aw_bipush (v := 8) dX9_readFlags_52 (by decide) ?_
    refine aw_istore (lv2 := [(4, _), (3, _), (0, _), (1, _), (2, _)]) dX9_readFlags_54 (by decide) rfl ?_
    refine aw_goto (tgt := 68) dX9_readFlags_56 (by decide) ?_
    exact aw_lv _ (List.forall_mem_cons.mpr ⟨rfl, (List.forall_mem_cons.mpr ⟨rfl, (List.forall_mem_cons.mpr ⟨rfl, (List.forall_mem_cons.mpr ⟨rfl, fun _ h => absurd h List.not_mem_nil⟩)⟩)⟩)⟩) (b_X9_readFlags_68 m0 sh rr ww so pl qo pn bm px fa hb n hso  v2 (8 : Int32) sc tg _ hE hF)
def F_X9_readFlags (sc : Src) (sb : A) (tg : Tga) : Out (Src × Tga) Unit := fon (F_X8_next sc sb) (fun z7 s7 => if (tg_idx tg) = 0 then (F_X9_readFlags_42 sb (sc_pos sc) (tg_bits tg) s7 ((tg_f1 tg), (tg_f2 tg), (tg_f3 tg), (tg_map tg), (tg_type tg), (tg_fe tg), (tg_many tg), (tg_deep tg), (tg_bits tg), z7, (z7 &&& 15), (tg_idx tg), (tg_packets tg), (tg_left tg), (tg_like tg), (tg_ent tg))) else (F_X9_readFlags_42 sb (sc_pos sc) (tg_deep tg) s7 ((tg_f1 tg), (tg_f2 tg), (tg_f3 tg), (tg_map tg), (tg_type tg), (tg_fe tg), (tg_many tg), (tg_deep tg), (tg_bits tg), z7, (z7 &&& 15), (tg_idx tg), (tg_packets tg), (tg_left tg), (tg_like tg), (tg_ent tg)))) (fun E s7 => fex E (s7, tg))
set_option maxHeartbeats 1000000 in
set_option maxRecDepth 100000 in
theorem kF_X9_readFlags (m0 : Mnt) (sh : Nat → Nat) (rr : Nat → Ras) (ww : Nat → Row) (so : Nat) (sc : Src) (pl : Pal) (qo : Qoi) (pn : Pnm) (bm : Bmp) (tg : Tga) (px : Pcx) (fa : A) (hb : aH) (n : Nat) (hso : isW so)  (hF : F_X9_readFlags sc (y_b (ww so)) tg ≠ fno) : AM mX9_readFlags 4 [.ref 26, .ref 16] (HC m0 sh rr ww so sc pl qo pn bm tg px fa hb) n 1 6 0 0 (P_X9_readFlags m0 sh rr ww so pl qo pn bm px fa hb n (F_X9_readFlags sc (y_b (ww so)) tg)) (X_X9_readFlags m0 sh rr ww so pl qo pn bm px fa hb n (F_X9_readFlags sc (y_b (ww so)) tg)) := by
  generalize hE : F_X9_readFlags sc (y_b (ww so)) tg = res at hF ⊢
  refine aw_of (by decide +kernel) rfl (Nat.le_of_ble_eq_true rfl) ?_
  unfold F_X9_readFlags at hE
  refine aw_aload_n dX9_readFlags_0 rfl ?_
  refine aw_getf (v := .int (sc_pos sc)) dX9_readFlags_1 flX9_74_7 at_src rfl ?_
  refine aw_istore_n (lv2 := [(2, _), (0, _), (1, _)]) dX9_readFlags_4 (by decide) rfl ?_
  refine aw_aload_n dX9_readFlags_5 rfl ?_
  refine aw_aload_n dX9_readFlags_6 rfl ?_
  refine aw_callV dX9_readFlags_7 at_src cvX9_19 rfl (kF_X8_next m0 sh rr ww so sc pl qo pn bm tg px fa hb _ hso  (fon_ne hE hF)) rfl (Nat.le_of_ble_eq_true rfl) (by decide) (by decide) (by decide) (by decide) (fun E h2 n2 hx => aw_out rfl (by decide) (by decide) (by obtain ⟨s7, e7, rfl, rfl⟩ := hx; exact ⟨_, (fon_ex e7 hE).symm, rfl, rfl⟩)) (fun r7 h7 n7 hp7 => ?_)
  obtain ⟨z7, s7, e7, rfl, rfl, rfl⟩ := hp7
  replace hE := fon_ok e7 hE
  refine aw_putf dX9_readFlags_10 ptX9_108_8 at_tga (Nat.le_of_ble_eq_true rfl) ⟨rfl, rfl⟩ ?_
  refine aw_eqh (h2 := HC m0 sh rr ww so s7 pl qo pn bm ((tg_f1 tg), (tg_f2 tg), (tg_f3 tg), (tg_map tg), (tg_type tg), (tg_fe tg), (tg_many tg), (tg_deep tg), (tg_bits tg), z7, (tg_ab tg), (tg_idx tg), (tg_packets tg), (tg_left tg), (tg_like tg), (tg_ent tg)) px fa hb) up_tga ?_
  refine aw_aload_n dX9_readFlags_13 rfl ?_
  refine aw_aload_n dX9_readFlags_14 rfl ?_
  refine aw_getf (v := .int z7) dX9_readFlags_15 flX9_108_8 at_tga rfl ?_
  refine aw_bipush (v := 15) dX9_readFlags_18 (by decide) ?_
  refine aw_iand dX9_readFlags_20 ?_
  refine aw_putf dX9_readFlags_21 ptX9_111_8 at_tga (Nat.le_of_ble_eq_true rfl) ⟨rfl, rfl⟩ ?_
  refine aw_eqh (h2 := HC m0 sh rr ww so s7 pl qo pn bm ((tg_f1 tg), (tg_f2 tg), (tg_f3 tg), (tg_map tg), (tg_type tg), (tg_fe tg), (tg_many tg), (tg_deep tg), (tg_bits tg), z7, (z7 &&& 15), (tg_idx tg), (tg_packets tg), (tg_left tg), (tg_like tg), (tg_ent tg)) px fa hb) up_tga ?_
  refine aw_aload_n dX9_readFlags_24 rfl ?_
  refine aw_getf (v := .int (tg_idx tg)) dX9_readFlags_25 flX9_84_8 at_tga rfl ?_
  refine aw_if_eq (tgt := 38) dX9_readFlags_28 (by decide) (fun c28 => ?_) (fun c28 => ?_)
  · replace hE := fit hE c28
    refine aw_aload_n dX9_readFlags_38 rfl ?_
    refine aw_getf (v := .int (tg_bits tg)) dX9_readFlags_39 flX9_62_8 at_tga rfl ?_
    exact aw_lv _ (List.forall_mem_cons.mpr ⟨rfl, (List.forall_mem_cons.mpr ⟨rfl, (List.forall_mem_cons.mpr ⟨rfl, fun _ h => absurd h List.not_mem_nil⟩)⟩)⟩) (b_X9_readFlags_42 m0 sh rr ww so pl qo pn bm px fa hb n hso  (sc_pos sc) (tg_bits tg) s7 ((tg_f1 tg), (tg_f2 tg), (tg_f3 tg), (tg_map tg), (tg_type tg), (tg_fe tg), (tg_many tg), (tg_deep tg), (tg_bits tg), z7, (z7 &&& 15), (tg_idx tg), (tg_packets tg), (tg_left tg), (tg_like tg), (tg_ent tg)) _ hE hF)
  · replace hE := fif hE c28
    refine aw_aload_n dX9_readFlags_31 rfl ?_
    refine aw_getf (v := .int (tg_deep tg)) dX9_readFlags_32 flX9_97_8 at_tga rfl ?_
    refine aw_goto (tgt := 42) dX9_readFlags_35 (by decide) ?_
    exact aw_lv _ (List.forall_mem_cons.mpr ⟨rfl, (List.forall_mem_cons.mpr ⟨rfl, (List.forall_mem_cons.mpr ⟨rfl, fun _ h => absurd h List.not_mem_nil⟩)⟩)⟩) (b_X9_readFlags_42 m0 sh rr ww so pl qo pn bm px fa hb n hso  (sc_pos sc) (tg_deep tg) s7 ((tg_f1 tg), (tg_f2 tg), (tg_f3 tg), (tg_map tg), (tg_type tg), (tg_fe tg), (tg_many tg), (tg_deep tg), (tg_bits tg), z7, (z7 &&& 15), (tg_idx tg), (tg_packets tg), (tg_left tg), (tg_like tg), (tg_ent tg)) _ hE hF)
def F_X10_grayOf (a0 : Int32) : Int32 := ((F_X10_pixelOf a0 a0 a0 255) : Int32)
set_option maxRecDepth 100000 in
theorem kF_X10_grayOf (h : aH) (n : Nat) (a0 : Int32) : AM mX10_grayOf 2 [.int a0] h n 0 0 0 0 (isV (.int (F_X10_grayOf a0)) h n) noX := by
  generalize hE : F_X10_grayOf a0 = res
  refine aw_of (by decide +kernel) rfl (Nat.le_of_ble_eq_true rfl) ?_
  unfold F_X10_grayOf at hE
  refine aw_iload_n dX10_grayOf_0 rfl ?_
  refine aw_iload_n dX10_grayOf_1 rfl ?_
  refine aw_iload_n dX10_grayOf_2 rfl ?_
  refine aw_sipush (v := 255) dX10_grayOf_3 (by decide) ?_
  refine aw_callS dX10_grayOf_6  csX10_230 rfl (kF_X10_pixelOf _ _ a0 a0 a0 255) rfl (Nat.le_of_ble_eq_true rfl) (by decide) (by decide) (by decide) (by decide) (fun _ _ _ hf => False.elim hf) (fun r6 h6 n6 hp6 => ?_)
  obtain ⟨rfl, rfl, rfl⟩ := hp6
  exact aw_iret dX10_grayOf_9 rfl (Nat.zero_le _) (Nat.zero_le _) (Nat.zero_le _) (Nat.zero_le _) ⟨by subst hE; rfl, rfl, rfl⟩
