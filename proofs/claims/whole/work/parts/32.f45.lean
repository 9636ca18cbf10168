def P_X11_readMaps (mo : MO) (mw : MW) (ms : Nat) (mt : A) (mu : A) (dd : A) (wi : A) (hi : A) (sp : A) (ta : A) (li : A) (sr : A) (co : A) (hb : aH) (n : Nat) (res : Out (MR × A) Int32) : Option Value → aH → Nat → Prop := fun r1 h2 n2 => ∃ (a : Int32) (s : (MR × A)), res = fok a s ∧ r1 = some (.int a) ∧ h2 = HM mo mw s.1 ms mt mu dd wi hi s.2 sp ta li sr co hb ∧ n = n2
abbrev Q_X11_readMaps_17 (mo : MO) (mw : MW) (ms : Nat) (mt : A) (mu : A) (dd : A) (wi : A) (hi : A) (sp : A) (ta : A) (li : A) (sr : A) (co : A) (hb : aH) (n : Nat) (k : MR → A → Out (MR × A) Int32) : Prop := ∀ (mr : MR) (gt : A) (res : Out (MR × A) Int32), k mr gt = res → res ≠ fno → AW (fun _ _ => True) mX11_readMaps (rmD 5 0 0) 0 0 (P_X11_readMaps mo mw ms mt mu dd wi hi sp ta li sr co hb n res) (fun _ _ _ => False) 0 0 17 [] [] (HM mo mw mr ms mt mu dd wi hi gt sp ta li sr co hb) n
abbrev Q_X11_readMaps_51 (mo : MO) (mw : MW) (ms : Nat) (mt : A) (mu : A) (dd : A) (wi : A) (hi : A) (sp : A) (ta : A) (li : A) (sr : A) (co : A) (hb : aH) (n : Nat) (k : MR → A → Out (MR × A) Int32) : Prop := ∀ (mr : MR) (gt : A) (res : Out (MR × A) Int32), k mr gt = res → res ≠ fno → AW (fun _ _ => True) mX11_readMaps (rmD 5 0 0) 0 0 (P_X11_readMaps mo mw ms mt mu dd wi hi sp ta li sr co hb n res) (fun _ _ _ => False) 0 0 51 [(0, .ref 31)] [] (HM mo mw mr ms mt mu dd wi hi gt sp ta li sr co hb) n
abbrev Q_X11_readMaps_240 (mo : MO) (mw : MW) (ms : Nat) (mt : A) (mu : A) (dd : A) (wi : A) (hi : A) (sp : A) (ta : A) (li : A) (sr : A) (co : A) (hb : aH) (n : Nat) (k : Int32 → MR → A → Out (MR × A) Int32) : Prop := ∀ (v1 : Int32) (mr : MR) (gt : A) (res : Out (MR × A) Int32), k v1 mr gt = res → res ≠ fno → AW (fun _ _ => True) mX11_readMaps (rmD 5 0 0) 0 0 (P_X11_readMaps mo mw ms mt mu dd wi hi sp ta li sr co hb n res) (fun _ _ _ => False) 0 0 240 [(0, .ref 31), (1, .int v1)] [] (HM mo mw mr ms mt mu dd wi hi gt sp ta li sr co hb) n
abbrev Q_X11_readMaps_247 (mo : MO) (mw : MW) (ms : Nat) (mt : A) (mu : A) (dd : A) (wi : A) (hi : A) (sp : A) (ta : A) (li : A) (sr : A) (co : A) (hb : aH) (n : Nat) (k : MR → A → Out (MR × A) Int32) : Prop := ∀ (mr : MR) (gt : A) (res : Out (MR × A) Int32), k mr gt = res → res ≠ fno → AW (fun _ _ => True) mX11_readMaps (rmD 5 0 0) 0 0 (P_X11_readMaps mo mw ms mt mu dd wi hi sp ta li sr co hb n res) (fun _ _ _ => False) 0 0 247 [(0, .ref 31)] [] (HM mo mw mr ms mt mu dd wi hi gt sp ta li sr co hb) n
abbrev Q_X11_readMaps_300 (mo : MO) (mw : MW) (ms : Nat) (mt : A) (mu : A) (dd : A) (wi : A) (hi : A) (sp : A) (ta : A) (li : A) (sr : A) (co : A) (hb : aH) (n : Nat) (k : MR → A → Out (MR × A) Int32) : Prop := ∀ (mr : MR) (gt : A) (res : Out (MR × A) Int32), k mr gt = res → res ≠ fno → AW (fun _ _ => True) mX11_readMaps (rmD 5 0 0) 0 0 (P_X11_readMaps mo mw ms mt mu dd wi hi sp ta li sr co hb n res) (fun _ _ _ => False) 0 0 300 [(0, .ref 31)] [] (HM mo mw mr ms mt mu dd wi hi gt sp ta li sr co hb) n
def F_X11_readMaps_300 (sb : A)  (mr : MR) (gt : A) : Out (MR × A) Int32 := if (mr_one mr) = 1 then (fon (F_X11_readSigns sb ((mr_size mr), (mr_pos mr), (mr_kind mr), (mr_whr mr), (mr_gw mr), (mr_gh mr), (mr_one mr), (mr_two mr), (mr_pos mr)) gt) (fun z317 s317 => if isB z317 then (fok (z317 : Int32) (s317.1, s317.2)) else fno) (fun _ _ => fno)) else (if 4 ≤ (mr_one mr) then (if (mr_one mr) = 4 then (fon (F_X11_readBits sb ((mr_size mr), (mr_pos mr), (mr_kind mr), (mr_whr mr), (mr_gw mr), (mr_gh mr), (mr_one mr), (mr_two mr), (mr_pos mr)) gt) (fun z347 s347 => if isB z347 then (fok (z347 : Int32) (s347.1, s347.2)) else fno) (fun _ _ => fno)) else (fon (F_X11_readSamples sb ((mr_size mr), (mr_pos mr), (mr_kind mr), (mr_whr mr), (mr_gw mr), (mr_gh mr), (mr_one mr), (mr_two mr), (mr_pos mr)) gt) (fun z354 s354 => if isB z354 then (fok (z354 : Int32) (s354.1, s354.2)) else fno) (fun _ _ => fno))) else (fon (F_X11_readNumbers sb ((mr_size mr), (mr_pos mr), (mr_kind mr), (mr_whr mr), (mr_gw mr), (mr_gh mr), (mr_one mr), (mr_two mr), (mr_pos mr)) gt) (fun z332 s332 => if isB z332 then (fok (z332 : Int32) (s332.1, s332.2)) else fno) (fun _ _ => fno)))
set_option maxHeartbeats 1000000 in
set_option maxRecDepth 100000 in
theorem b_X11_readMaps_300 (mo : MO) (mw : MW) (ms : Nat) (mt : A) (mu : A) (dd : A) (wi : A) (hi : A) (sp : A) (ta : A) (li : A) (sr : A) (co : A) (hb : aH) (n : Nat) (hms : isMS ms)  : Q_X11_readMaps_300 mo mw ms mt mu dd wi hi sp ta li sr co hb n (F_X11_readMaps_300 (srcB ms mt mu)) := by
  intro mr gt res hE hF
  unfold F_X11_readMaps_300 at hE
  refine aw_aload_n dX11_readMaps_300 rfl ?_
  refine aw_aload_n dX11_readMaps_301 rfl ?_
  refine aw_getf (v := .int (mr_pos mr)) dX11_readMaps_302 flX11_84_10 at_mod rfl ?_
  refine aw_putf dX11_readMaps_305 ptX11_136_10 at_mod (Nat.le_of_ble_eq_true rfl) ⟨rfl, rfl⟩ ?_
  refine aw_eqh (h2 := HM mo mw ((mr_size mr), (mr_pos mr), (mr_kind mr), (mr_whr mr), (mr_gw mr), (mr_gh mr), (mr_one mr), (mr_two mr), (mr_pos mr)) ms mt mu dd wi hi gt sp ta li sr co hb) up_mod ?_
  refine aw_aload_n dX11_readMaps_308 rfl ?_
  refine aw_getf (v := .int (mr_one mr)) dX11_readMaps_309 flX11_130_10 at_mod rfl ?_
  refine aw_iconst (v := 1) dX11_readMaps_312 (by decide) ?_
  refine aw_icmp_ne (tgt := 323) dX11_readMaps_313 (by decide) (fun c313 => ?_) (fun c313 => ?_)
  · replace hE := fif hE c313
    refine aw_aload_n dX11_readMaps_323 rfl ?_
    refine aw_getf (v := .int (mr_one mr)) dX11_readMaps_324 flX11_130_10 at_mod rfl ?_
    refine aw_iconst (v := 4) dX11_readMaps_327 (by decide) ?_
    refine aw_icmp_ge (tgt := 338) dX11_readMaps_328 (by decide) (fun c328 => ?_) (fun c328 => ?_)
    · replace hE := fit hE c328
      refine aw_aload_n dX11_readMaps_338 rfl ?_
      refine aw_getf (v := .int (mr_one mr)) dX11_readMaps_339 flX11_130_10 at_mod rfl ?_
      refine aw_iconst (v := 4) dX11_readMaps_342 (by decide) ?_
      refine aw_icmp_ne (tgt := 353) dX11_readMaps_343 (by decide) (fun c343 => ?_) (fun c343 => ?_)
      · replace hE := fif hE c343
        refine aw_aload_n dX11_readMaps_353 rfl ?_
        refine aw_callV dX11_readMaps_354 at_mod cvX11_173 rfl (kF_X11_readSamples mo mw ((mr_size mr), (mr_pos mr), (mr_kind mr), (mr_whr mr), (mr_gw mr), (mr_gh mr), (mr_one mr), (mr_two mr), (mr_pos mr)) ms mt mu dd wi hi gt sp ta li sr co hb _ hms  (fon_ne hE hF)) rfl (Nat.le_of_ble_eq_true rfl) (by decide) (by decide) (by decide) (by decide) (fun _ _ _ hf => False.elim hf) (fun r354 h354 n354 hp354 => ?_)
        obtain ⟨z354, s354, e354, rfl, rfl, rfl⟩ := hp354
        replace hE := fon_ok e354 hE
        obtain ⟨g357, hE⟩ := fgd hE hF
        exact aw_zret dX11_readMaps_357 rfl (narB g357) (Nat.zero_le _) (Nat.zero_le _) (Nat.zero_le _) (Nat.zero_le _) ⟨_, _, hE.symm, rfl, rfl, rfl⟩
      · replace hE := fit hE c343
        refine aw_aload_n dX11_readMaps_346 rfl ?_
        refine aw_callV dX11_readMaps_347 at_mod cvX11_170 rfl (kF_X11_readBits mo mw ((mr_size mr), (mr_pos mr), (mr_kind mr), (mr_whr mr), (mr_gw mr), (mr_gh mr), (mr_one mr), (mr_two mr), (mr_pos mr)) ms mt mu dd wi hi gt sp ta li sr co hb _ hms  (fon_ne hE hF)) rfl (Nat.le_of_ble_eq_true rfl) (by decide) (by decide) (by decide) (by decide) (fun _ _ _ hf => False.elim hf) (fun r347 h347 n347 hp347 => ?_)
        obtain ⟨z347, s347, e347, rfl, rfl, rfl⟩ := hp347
        replace hE := fon_ok e347 hE
        refine aw_goto (tgt := 357) dX11_readMaps_350 (by decide) ?_
        obtain ⟨g357, hE⟩ := fgd hE hF
        exact aw_zret dX11_readMaps_357 rfl (narB g357) (Nat.zero_le _) (Nat.zero_le _) (Nat.zero_le _) (Nat.zero_le _) ⟨_, _, hE.symm, rfl, rfl, rfl⟩
    · replace hE := fif hE c328
      refine aw_aload_n dX11_readMaps_331 rfl ?_
      refine aw_callV dX11_readMaps_332 at_mod cvX11_167 rfl (kF_X11_readNumbers mo mw ((mr_size mr), (mr_pos mr), (mr_kind mr), (mr_whr mr), (mr_gw mr), (mr_gh mr), (mr_one mr), (mr_two mr), (mr_pos mr)) ms mt mu dd wi hi gt sp ta li sr co hb _ hms  (fon_ne hE hF)) rfl (Nat.le_of_ble_eq_true rfl) (by decide) (by decide) (by decide) (by decide) (fun _ _ _ hf => False.elim hf) (fun r332 h332 n332 hp332 => ?_)
      obtain ⟨z332, s332, e332, rfl, rfl, rfl⟩ := hp332
      replace hE := fon_ok e332 hE
      refine aw_goto (tgt := 357) dX11_readMaps_335 (by decide) ?_
      obtain ⟨g357, hE⟩ := fgd hE hF
      exact aw_zret dX11_readMaps_357 rfl (narB g357) (Nat.zero_le _) (Nat.zero_le _) (Nat.zero_le _) (Nat.zero_le _) ⟨_, _, hE.symm, rfl, rfl, rfl⟩
  · replace hE := fit hE c313
    refine aw_aload_n dX11_readMaps_316 rfl ?_
    refine aw_callV dX11_readMaps_317 at_mod cvX11_164 rfl (kF_X11_readSigns mo mw ((mr_size mr), (mr_pos mr), (mr_kind mr), (mr_whr mr), (mr_gw mr), (mr_gh mr), (mr_one mr), (mr_two mr), (mr_pos mr)) ms mt mu dd wi hi gt sp ta li sr co hb _ hms  (fon_ne hE hF)) rfl (Nat.le_of_ble_eq_true rfl) (by decide) (by decide) (by decide) (by decide) (fun _ _ _ hf => False.elim hf) (fun r317 h317 n317 hp317 => ?_)
    obtain ⟨z317, s317, e317, rfl, rfl, rfl⟩ := hp317
    replace hE := fon_ok e317 hE
    refine aw_goto (tgt := 357) dX11_readMaps_320 (by decide) ?_
    obtain ⟨g357, hE⟩ := fgd hE hF
    exact aw_zret dX11_readMaps_357 rfl (narB g357) (Nat.zero_le _) (Nat.zero_le _) (Nat.zero_le _) (Nat.zero_le _) ⟨_, _, hE.symm, rfl, rfl, rfl⟩
def F_X11_readMaps_247 (sb : A)  (mr : MR) (gt : A) : Out (MR × A) Int32 := if (mr_one mr) ≤ 3 then (F_X11_readMaps_300 sb mr gt) else (fon (F_X11_want 1 mr) (fun z257 s257 => if z257 = 0 then (fok (0 : Int32) (s257, gt)) else (fon (F_X11_b (mr_pos s257) sb) (fun z271 s271 => if (F_X11_isBlank z271) = 0 then (fon (F_X11_wrong 2 (mr_pos s257) s257) (fun z286 s286 => if isB z286 then (fok (z286 : Int32) (s286, gt)) else fno) (fun _ _ => fno)) else (F_X11_readMaps_300 sb ((mr_size s257), ((mr_pos s257) + 1), (mr_kind s257), (mr_whr s257), (mr_gw s257), (mr_gh s257), (mr_one s257), (mr_two s257), (mr_three s257)) gt)) (fun _ _ => fno))) (fun _ _ => fno))
set_option maxHeartbeats 1000000 in
set_option maxRecDepth 100000 in
theorem b_X11_readMaps_247 (mo : MO) (mw : MW) (ms : Nat) (mt : A) (mu : A) (dd : A) (wi : A) (hi : A) (sp : A) (ta : A) (li : A) (sr : A) (co : A) (hb : aH) (n : Nat) (hms : isMS ms)  : Q_X11_readMaps_247 mo mw ms mt mu dd wi hi sp ta li sr co hb n (F_X11_readMaps_247 (srcB ms mt mu)) := by
  intro mr gt res hE hF
  unfold F_X11_readMaps_247 at hE
  refine aw_aload_n dX11_readMaps_247 rfl ?_
  refine aw_getf (v := .int (mr_one mr)) dX11_readMaps_248 flX11_130_10 at_mod rfl ?_
  refine aw_iconst (v := 3) dX11_readMaps_251 (by decide) ?_
  refine aw_icmp_le (tgt := 300) dX11_readMaps_252 (by decide) (fun c252 => ?_) (fun c252 => ?_)
  · replace hE := fit hE c252
    exact aw_lv _ (List.forall_mem_cons.mpr ⟨rfl, fun _ h => absurd h List.not_mem_nil⟩) (b_X11_readMaps_300 mo mw ms mt mu dd wi hi sp ta li sr co hb n hms  mr gt _ hE hF)
  · replace hE := fif hE c252
    refine aw_aload_n dX11_readMaps_255 rfl ?_
    refine aw_iconst (v := 1) dX11_readMaps_256 (by decide) ?_
    refine aw_callV dX11_readMaps_257 at_mod cvX11_103 rfl (kF_X11_want mo mw mr ms mt mu dd wi hi gt sp ta li sr co hb _  1 (fon_ne hE hF)) rfl (Nat.le_of_ble_eq_true rfl) (by decide) (by decide) (by decide) (by decide) (fun _ _ _ hf => False.elim hf) (fun r257 h257 n257 hp257 => ?_)
    obtain ⟨z257, s257, e257, rfl, rfl, rfl⟩ := hp257
    replace hE := fon_ok e257 hE
    refine aw_if_ne (tgt := 265) dX11_readMaps_260 (by decide) (fun c260 => ?_) (fun c260 => ?_)
    · replace hE := fif hE c260
      refine aw_aload_n dX11_readMaps_265 rfl ?_
      refine aw_aload_n dX11_readMaps_266 rfl ?_
      refine aw_aload_n dX11_readMaps_267 rfl ?_
      refine aw_getf (v := .int (mr_pos s257)) dX11_readMaps_268 flX11_84_10 at_mod rfl ?_
      refine aw_callV dX11_readMaps_271 at_mod cvX11_99 rfl (kF_X11_b mo mw s257 ms mt mu dd wi hi gt sp ta li sr co hb _ hms (mr_pos s257) (fon_ne hE hF)) rfl (Nat.le_of_ble_eq_true rfl) (by decide) (by decide) (by decide) (by decide) (fun _ _ _ hf => False.elim hf) (fun r271 h271 n271 hp271 => ?_)
      obtain ⟨z271, s271, e271, rfl, rfl, rfl⟩ := hp271
      replace hE := fon_ok e271 hE
      refine aw_callV dX11_readMaps_274 at_mod cvX11_149 rfl (kF_X11_isBlank _ _ 31 z271) rfl (Nat.le_of_ble_eq_true rfl) (by decide) (by decide) (by decide) (by decide) (fun _ _ _ hf => False.elim hf) (fun r274 h274 n274 hp274 => ?_)
      obtain ⟨rfl, rfl, rfl⟩ := hp274
      refine aw_if_ne (tgt := 290) dX11_readMaps_277 (by decide) (fun c277 => ?_) (fun c277 => ?_)
      · replace hE := fif hE c277
        refine aw_aload_n dX11_readMaps_290 rfl ?_
        refine aw_dup dX11_readMaps_291 rfl ?_
        refine aw_getf (v := .int (mr_pos s257)) dX11_readMaps_292 flX11_84_10 at_mod rfl ?_
        refine aw_iconst (v := 1) dX11_readMaps_295 (by decide) ?_
        refine aw_iadd dX11_readMaps_296 ?_
        refine aw_putf dX11_readMaps_297 ptX11_84_10 at_mod (Nat.le_of_ble_eq_true rfl) ⟨rfl, rfl⟩ ?_
        refine aw_eqh (h2 := HM mo mw ((mr_size s257), ((mr_pos s257) + 1), (mr_kind s257), (mr_whr s257), (mr_gw s257), (mr_gh s257), (mr_one s257), (mr_two s257), (mr_three s257)) ms mt mu dd wi hi gt sp ta li sr co hb) up_mod ?_
        exact aw_lv _ (List.forall_mem_cons.mpr ⟨rfl, fun _ h => absurd h List.not_mem_nil⟩) (b_X11_readMaps_300 mo mw ms mt mu dd wi hi sp ta li sr co hb n hms  ((mr_size s257), ((mr_pos s257) + 1), (mr_kind s257), (mr_whr s257), (mr_gw s257), (mr_gh s257), (mr_one s257), (mr_two s257), (mr_three s257)) gt _ hE hF)
      · replace hE := fit hE c277
        refine aw_aload_n dX11_readMaps_280 rfl ?_
        refine aw_iconst (v := 2) dX11_readMaps_281 (by decide) ?_
        refine aw_aload_n dX11_readMaps_282 rfl ?_
        refine aw_getf (v := .int (mr_pos s257)) dX11_readMaps_283 flX11_84_10 at_mod rfl ?_
        refine aw_callV dX11_readMaps_286 at_mod cvX11_90 rfl (kF_X11_wrong mo mw s257 ms mt mu dd wi hi gt sp ta li sr co hb _  2 (mr_pos s257) (fon_ne hE hF)) rfl (Nat.le_of_ble_eq_true rfl) (by decide) (by decide) (by decide) (by decide) (fun _ _ _ hf => False.elim hf) (fun r286 h286 n286 hp286 => ?_)
        obtain ⟨z286, s286, e286, rfl, rfl, rfl⟩ := hp286
        replace hE := fon_ok e286 hE
        obtain ⟨g289, hE⟩ := fgd hE hF
        exact aw_zret dX11_readMaps_289 rfl (narB g289) (Nat.zero_le _) (Nat.zero_le _) (Nat.zero_le _) (Nat.zero_le _) ⟨_, _, hE.symm, rfl, rfl, rfl⟩
    · replace hE := fit hE c260
      refine aw_iconst (v := 0) dX11_readMaps_263 (by decide) ?_
      exact aw_zret dX11_readMaps_264 rfl (narB (by decide)) (Nat.zero_le _) (Nat.zero_le _) (Nat.zero_le _) (Nat.zero_le _) ⟨_, _, hE.symm, rfl, rfl, rfl⟩
def F_X11_readMaps_240 (sb : A)  (v1 : Int32) (mr : MR) (gt : A) : Out (MR × A) Int32 := fon (F_X11_wrong 2 v1 mr) (fun z243 s243 => if isB z243 then (fok (z243 : Int32) (s243, gt)) else fno) (fun _ _ => fno)
set_option maxHeartbeats 1000000 in
set_option maxRecDepth 100000 in
theorem b_X11_readMaps_240 (mo : MO) (mw : MW) (ms : Nat) (mt : A) (mu : A) (dd : A) (wi : A) (hi : A) (sp : A) (ta : A) (li : A) (sr : A) (co : A) (hb : aH) (n : Nat) (hms : isMS ms)  : Q_X11_readMaps_240 mo mw ms mt mu dd wi hi sp ta li sr co hb n (F_X11_readMaps_240 (srcB ms mt mu)) := by
  intro v1 mr gt res hE hF
  unfold F_X11_readMaps_240 at hE
  refine aw_aload_n dX11_readMaps_240 rfl ?_
  refine aw_iconst (v := 2) dX11_readMaps_241 (by decide) ?_
  refine aw_iload_n dX11_readMaps_242 rfl ?_
  refine aw_callV dX11_readMaps_243 at_mod cvX11_90 rfl (kF_X11_wrong mo mw mr ms mt mu dd wi hi gt sp ta li sr co hb _  2 v1 (fon_ne hE hF)) rfl (Nat.le_of_ble_eq_true rfl) (by decide) (by decide) (by decide) (by decide) (fun _ _ _ hf => False.elim hf) (fun r243 h243 n243 hp243 => ?_)
  obtain ⟨z243, s243, e243, rfl, rfl, rfl⟩ := hp243
  replace hE := fon_ok e243 hE
  obtain ⟨g246, hE⟩ := fgd hE hF
  exact aw_zret dX11_readMaps_246 rfl (narB g246) (Nat.zero_le _) (Nat.zero_le _) (Nat.zero_le _) (Nat.zero_le _) ⟨_, _, hE.symm, rfl, rfl, rfl⟩
def F_X11_readMaps_51 (sb : A)  (mr : MR) (gt : A) : Out (MR × A) Int32 := fon (F_X11_wrong 2 (mr_pos mr) mr) (fun z57 s57 => if isB z57 then (fok (z57 : Int32) (s57, gt)) else fno) (fun _ _ => fno)
set_option maxHeartbeats 1000000 in
set_option maxRecDepth 100000 in
theorem b_X11_readMaps_51 (mo : MO) (mw : MW) (ms : Nat) (mt : A) (mu : A) (dd : A) (wi : A) (hi : A) (sp : A) (ta : A) (li : A) (sr : A) (co : A) (hb : aH) (n : Nat) (hms : isMS ms)  : Q_X11_readMaps_51 mo mw ms mt mu dd wi hi sp ta li sr co hb n (F_X11_readMaps_51 (srcB ms mt mu)) := by
  intro mr gt res hE hF
  unfold F_X11_readMaps_51 at hE
  refine aw_aload_n dX11_readMaps_51 rfl ?_
  refine aw_iconst (v := 2) dX11_readMaps_52 (by decide) ?_
  refine aw_aload_n dX11_readMaps_53 rfl ?_
  refine aw_getf (v := .int (mr_pos mr)) dX11_readMaps_54 flX11_84_10 at_mod rfl ?_
  refine aw_callV dX11_readMaps_57 at_mod cvX11_90 rfl (kF_X11_wrong mo mw mr ms mt mu dd wi hi gt sp ta li sr co hb _  2 (mr_pos mr) (fon_ne hE hF)) rfl (Nat.le_of_ble_eq_true rfl) (by decide) (by decide) (by decide) (by decide) (fun _ _ _ hf => False.elim hf) (fun r57 h57 n57 hp57 => ?_)
  obtain ⟨z57, s57, e57, rfl, rfl, rfl⟩ := hp57
  replace hE := fon_ok e57 hE
  obtain ⟨g60, hE⟩ := fgd hE hF
  exact aw_zret dX11_readMaps_60 rfl (narB g60) (Nat.zero_le _) (Nat.zero_le _) (Nat.zero_le _) (Nat.zero_le _) ⟨_, _, hE.symm, rfl, rfl, rfl⟩
def F_X11_readMaps_17 (sb : A)  (mr : MR) (gt : A) : Out (MR × A) Int32 := fok (0 : Int32) (mr, gt)
set_option maxHeartbeats 1000000 in
set_option maxRecDepth 100000 in
theorem b_X11_readMaps_17 (mo : MO) (mw : MW) (ms : Nat) (mt : A) (mu : A) (dd : A) (wi : A) (hi : A) (sp : A) (ta : A) (li : A) (sr : A) (co : A) (hb : aH) (n : Nat) (hms : isMS ms)  : Q_X11_readMaps_17 mo mw ms mt mu dd wi hi sp ta li sr co hb n (F_X11_readMaps_17 (srcB ms mt mu)) := by
  intro mr gt res hE hF
  unfold F_X11_readMaps_17 at hE
  refine aw_iconst (v := 0) dX11_readMaps_17 (by decide) ?_
  exact aw_zret dX11_readMaps_18 rfl (narB (by decide)) (Nat.zero_le _) (Nat.zero_le _) (Nat.zero_le _) (Nat.zero_le _) ⟨_, _, hE.symm, rfl, rfl, rfl⟩
def F_X11_readMaps (sb : A) (mr : MR) (gt : A) : Out (MR × A) Int32 := fon (F_X11_sign 80 sb mr) (fun z3 s3 => if z3 = 0 then (F_X11_readMaps_17 sb s3 gt) else (fon (F_X11_want 1 s3) (fun z11 s11 => if z11 = 0 then (F_X11_readMaps_17 sb s11 gt) else (fon (F_X11_b (mr_pos s11) sb) (fun z25 s25 => if (z25 - 48) < 1 then (F_X11_readMaps_51 sb ((mr_size s11), (mr_pos s11), (mr_kind s11), (mr_whr s11), (mr_gw s11), (mr_gh s11), (z25 - 48), (mr_two s11), (mr_three s11)) gt) else (if (z25 - 48) ≤ 6 then (fon (F_X11_gap sb ((mr_size s11), ((mr_pos s11) + 1), (mr_kind s11), (mr_whr s11), (mr_gw s11), (mr_gh s11), (z25 - 48), (mr_two s11), (mr_three s11))) (fun z72 s72 => if z72 = 0 then (fok (0 : Int32) (s72, gt)) else (fon (F_X11_number sb s72) (fun z86 s86 => if 0 ≤ z86 then (if z86 = 0 then (fon (F_X11_wrong 2 (mr_pos s72) s86) (fun z103 s103 => if isB z103 then (fok (z103 : Int32) (s103, gt)) else fno) (fun _ _ => fno)) else (if z86 ≤ 4096 then (fon (F_X11_gap sb s86) (fun z122 s122 => if z122 = 0 then (fok (0 : Int32) (s122, gt)) else (fon (F_X11_number sb s122) (fun z136 s136 => if 0 ≤ z136 then (if z136 = 0 then (fon (F_X11_wrong 2 (mr_pos s122) s136) (fun z153 s153 => if isB z153 then (fok (z153 : Int32) (s153, gt)) else fno) (fun _ _ => fno)) else (fon (F_X11_fits ((z86).toInt64) ((z136).toInt64) (mr_pos s122) s136) (fun z163 s163 => if z163 = 0 then (fok (0 : Int32) (s163, gt)) else (if (mr_one s163) = 1 then (F_X11_readMaps_247 sb ((mr_size s163), (mr_pos s163), (mr_kind s163), (mr_whr s163), (mr_gw s163), (mr_gh s163), (mr_one s163), 1, (mr_three s163)) gt) else (if (mr_one s163) = 4 then (F_X11_readMaps_247 sb ((mr_size s163), (mr_pos s163), (mr_kind s163), (mr_whr s163), (mr_gw s163), (mr_gh s163), (mr_one s163), 1, (mr_three s163)) gt) else (fon (F_X11_gap sb ((mr_size s163), (mr_pos s163), (mr_kind s163), (mr_whr s163), (mr_gw s163), (mr_gh s163), (mr_one s163), 1, (mr_three s163))) (fun z193 s193 => if z193 = 0 then (fok (0 : Int32) (s193, gt)) else (fon (F_X11_number sb s193) (fun z208 s208 => if 0 ≤ z208 then (if z208 < 1 then (F_X11_readMaps_240 sb (mr_pos s193) ((mr_size s208), (mr_pos s208), (mr_kind s208), (mr_whr s208), (mr_gw s208), (mr_gh s208), (mr_one s208), z208, (mr_three s208)) gt) else (if z208 ≤ 65535 then (F_X11_readMaps_247 sb ((mr_size s208), (mr_pos s208), (mr_kind s208), (mr_whr s208), (mr_gw s208), (mr_gh s208), (mr_one s208), z208, (mr_three s208)) gt) else (F_X11_readMaps_240 sb (mr_pos s193) ((mr_size s208), (mr_pos s208), (mr_kind s208), (mr_whr s208), (mr_gw s208), (mr_gh s208), (mr_one s208), z208, (mr_three s208)) gt))) else (fok (0 : Int32) (((mr_size s208), (mr_pos s208), (mr_kind s208), (mr_whr s208), (mr_gw s208), (mr_gh s208), (mr_one s208), z208, (mr_three s208)), gt))) (fun _ _ => fno))) (fun _ _ => fno))))) (fun _ _ => fno))) else (fok (0 : Int32) (s136, gt))) (fun _ _ => fno))) (fun _ _ => fno)) else (fon (F_X11_wrong 3 (mr_pos s72) s86) (fun z117 s117 => if isB z117 then (fok (z117 : Int32) (s117, gt)) else fno) (fun _ _ => fno)))) else (fok (0 : Int32) (s86, gt))) (fun _ _ => fno))) (fun _ _ => fno)) else (F_X11_readMaps_51 sb ((mr_size s11), (mr_pos s11), (mr_kind s11), (mr_whr s11), (mr_gw s11), (mr_gh s11), (z25 - 48), (mr_two s11), (mr_three s11)) gt))) (fun _ _ => fno))) (fun _ _ => fno))) (fun _ _ => fno)
set_option maxHeartbeats 1000000 in
set_option maxRecDepth 100000 in
theorem kF_X11_readMaps (mo : MO) (mw : MW) (mr : MR) (ms : Nat) (mt : A) (mu : A) (dd : A) (wi : A) (hi : A) (gt : A) (sp : A) (ta : A) (li : A) (sr : A) (co : A) (hb : aH) (n : Nat) (hms : isMS ms)  (hF : F_X11_readMaps (srcB ms mt mu) mr gt ≠ fno) : AM mX11_readMaps 5 [.ref 31] (HM mo mw mr ms mt mu dd wi hi gt sp ta li sr co hb) n 0 0 0 0 (P_X11_readMaps mo mw ms mt mu dd wi hi sp ta li sr co hb n (F_X11_readMaps (srcB ms mt mu) mr gt)) (fun _ _ _ => False) := by
  generalize hE : F_X11_readMaps (srcB ms mt mu) mr gt = res at hF ⊢
  refine aw_of (by decide +kernel) rfl (Nat.le_of_ble_eq_true rfl) ?_
  unfold F_X11_readMaps at hE
  refine aw_aload_n dX11_readMaps_0 rfl ?_
  refine aw_bipush (v := 80) dX11_readMaps_1 (by decide) ?_
  refine aw_callV dX11_readMaps_3 at_mod cvX11_119 rfl (kF_X11_sign mo mw mr ms mt mu dd wi hi gt sp ta li sr co hb _ hms 80 (fon_ne hE hF)) rfl (Nat.le_of_ble_eq_true rfl) (by decide) (by decide) (by decide) (by decide) (fun _ _ _ hf => False.elim hf) (fun r3 h3 n3 hp3 => ?_)
  obtain ⟨z3, s3, e3, rfl, rfl, rfl⟩ := hp3
  replace hE := fon_ok e3 hE
  refine aw_if_eq (tgt := 17) dX11_readMaps_6 (by decide) (fun c6 => ?_) (fun c6 => ?_)
  · replace hE := fit hE c6
    exact aw_lv _ (fun _ h => absurd h List.not_mem_nil) (b_X11_readMaps_17 mo mw ms mt mu dd wi hi sp ta li sr co hb n hms  s3 gt _ hE hF)
  · replace hE := fif hE c6
    refine aw_aload_n dX11_readMaps_9 rfl ?_
    refine aw_iconst (v := 1) dX11_readMaps_10 (by decide) ?_
    refine aw_callV dX11_readMaps_11 at_mod cvX11_103 rfl (kF_X11_want mo mw s3 ms mt mu dd wi hi gt sp ta li sr co hb _  1 (fon_ne hE hF)) rfl (Nat.le_of_ble_eq_true rfl) (by decide) (by decide) (by decide) (by decide) (fun _ _ _ hf => False.elim hf) (fun r11 h11 n11 hp11 => ?_)
    obtain ⟨z11, s11, e11, rfl, rfl, rfl⟩ := hp11
    replace hE := fon_ok e11 hE
    refine aw_if_ne (tgt := 19) dX11_readMaps_14 (by decide) (fun c14 => ?_) (fun c14 => ?_)
    · replace hE := fif hE c14
      refine aw_aload_n dX11_readMaps_19 rfl ?_
      refine aw_aload_n dX11_readMaps_20 rfl ?_
      refine aw_aload_n dX11_readMaps_21 rfl ?_
      refine aw_getf (v := .int (mr_pos s11)) dX11_readMaps_22 flX11_84_10 at_mod rfl ?_
      refine aw_callV dX11_readMaps_25 at_mod cvX11_99 rfl (kF_X11_b mo mw s11 ms mt mu dd wi hi gt sp ta li sr co hb _ hms (mr_pos s11) (fon_ne hE hF)) rfl (Nat.le_of_ble_eq_true rfl) (by decide) (by decide) (by decide) (by decide) (fun _ _ _ hf => False.elim hf) (fun r25 h25 n25 hp25 => ?_)
      obtain ⟨z25, s25, e25, rfl, rfl, rfl⟩ := hp25
      replace hE := fon_ok e25 hE
      refine aw_bipush (v := 48) dX11_readMaps_28 (by decide) ?_
      refine aw_isub dX11_readMaps_30 ?_
      refine aw_putf dX11_readMaps_31 ptX11_130_10 at_mod (Nat.le_of_ble_eq_true rfl) ⟨rfl, rfl⟩ ?_
      refine aw_eqh (h2 := HM mo mw ((mr_size s11), (mr_pos s11), (mr_kind s11), (mr_whr s11), (mr_gw s11), (mr_gh s11), (z25 - 48), (mr_two s11), (mr_three s11)) ms mt mu dd wi hi gt sp ta li sr co hb) up_mod ?_
      refine aw_aload_n dX11_readMaps_34 rfl ?_
      refine aw_getf (v := .int (z25 - 48)) dX11_readMaps_35 flX11_130_10 at_mod rfl ?_
      refine aw_iconst (v := 1) dX11_readMaps_38 (by decide) ?_
      refine aw_icmp_lt (tgt := 51) dX11_readMaps_39 (by decide) (fun c39 => ?_) (fun c39 => ?_)
      · replace hE := fit hE c39
        exact aw_lv _ (List.forall_mem_cons.mpr ⟨rfl, fun _ h => absurd h List.not_mem_nil⟩) (b_X11_readMaps_51 mo mw ms mt mu dd wi hi sp ta li sr co hb n hms  ((mr_size s11), (mr_pos s11), (mr_kind s11), (mr_whr s11), (mr_gw s11), (mr_gh s11), (z25 - 48), (mr_two s11), (mr_three s11)) gt _ hE hF)
      · replace hE := fif hE c39
        refine aw_aload_n dX11_readMaps_42 rfl ?_
        refine aw_getf (v := .int (z25 - 48)) dX11_readMaps_43 flX11_130_10 at_mod rfl ?_
        refine aw_bipush (v := 6) dX11_readMaps_46 (by decide) ?_
        refine aw_icmp_le (tgt := 61) dX11_readMaps_48 (by decide) (fun c48 => ?_) (fun c48 => ?_)
        · replace hE := fit hE c48
          refine aw_aload_n dX11_readMaps_61 rfl ?_
          refine aw_dup dX11_readMaps_62 rfl ?_
          refine aw_getf (v := .int (mr_pos s11)) dX11_readMaps_63 flX11_84_10 at_mod rfl ?_
          refine aw_iconst (v := 1) dX11_readMaps_66 (by decide) ?_
          refine aw_iadd dX11_readMaps_67 ?_
          refine aw_putf dX11_readMaps_68 ptX11_84_10 at_mod (Nat.le_of_ble_eq_true rfl) ⟨rfl, rfl⟩ ?_
          refine aw_eqh (h2 := HM mo mw ((mr_size s11), ((mr_pos s11) + 1), (mr_kind s11), (mr_whr s11), (mr_gw s11), (mr_gh s11), (z25 - 48), (mr_two s11), (mr_three s11)) ms mt mu dd wi hi gt sp ta li sr co hb) up_mod ?_
          refine aw_aload_n dX11_readMaps_71 rfl ?_
          refine aw_callV dX11_readMaps_72 at_mod cvX11_156 rfl (kF_X11_gap mo mw ((mr_size s11), ((mr_pos s11) + 1), (mr_kind s11), (mr_whr s11), (mr_gw s11), (mr_gh s11), (z25 - 48), (mr_two s11), (mr_three s11)) ms mt mu dd wi hi gt sp ta li sr co hb _ hms  (fon_ne hE hF)) rfl (Nat.le_of_ble_eq_true rfl) (by decide) (by decide) (by decide) (by decide) (fun _ _ _ hf => False.elim hf) (fun r72 h72 n72 hp72 => ?_)
          obtain ⟨z72, s72, e72, rfl, rfl, rfl⟩ := hp72
          replace hE := fon_ok e72 hE
          refine aw_if_ne (tgt := 80) dX11_readMaps_75 (by decide) (fun c75 => ?_) (fun c75 => ?_)
          · replace hE := fif hE c75
            refine aw_aload_n dX11_readMaps_80 rfl ?_
            refine aw_getf (v := .int (mr_pos s72)) dX11_readMaps_81 flX11_84_10 at_mod rfl ?_
            refine aw_istore_n (lv2 := [(1, _), (0, _)]) dX11_readMaps_84 (by decide) rfl ?_
            refine aw_aload_n dX11_readMaps_85 rfl ?_
            refine aw_callV dX11_readMaps_86 at_mod cvX11_159 rfl (kF_X11_number mo mw s72 ms mt mu dd wi hi gt sp ta li sr co hb _ hms  (fon_ne hE hF)) rfl (Nat.le_of_ble_eq_true rfl) (by decide) (by decide) (by decide) (by decide) (fun _ _ _ hf => False.elim hf) (fun r86 h86 n86 hp86 => ?_)
            obtain ⟨z86, s86, e86, rfl, rfl, rfl⟩ := hp86
            replace hE := fon_ok e86 hE
            refine aw_istore_n (lv2 := [(2, _), (1, _), (0, _)]) dX11_readMaps_89 (by decide) rfl ?_
            refine aw_iload_n dX11_readMaps_90 rfl ?_
            refine aw_if_ge (tgt := 96) dX11_readMaps_91 (by decide) (fun c91 => ?_) (fun c91 => ?_)
            · replace hE := fit hE c91
              refine aw_iload_n dX11_readMaps_96 rfl ?_
              refine aw_if_ne (tgt := 107) dX11_readMaps_97 (by decide) (fun c97 => ?_) (fun c97 => ?_)
              · replace hE := fif hE c97
                refine aw_iload_n dX11_readMaps_107 rfl ?_
                refine aw_sipush (v := 4096) dX11_readMaps_108 (by decide) ?_
                refine aw_icmp_le (tgt := 121) dX11_readMaps_111 (by decide) (fun c111 => ?_) (fun c111 => ?_)
                · replace hE := fit hE c111
                  refine aw_aload_n dX11_readMaps_121 rfl ?_
                  refine aw_callV dX11_readMaps_122 at_mod cvX11_156 rfl (kF_X11_gap mo mw s86 ms mt mu dd wi hi gt sp ta li sr co hb _ hms  (fon_ne hE hF)) rfl (Nat.le_of_ble_eq_true rfl) (by decide) (by decide) (by decide) (by decide) (fun _ _ _ hf => False.elim hf) (fun r122 h122 n122 hp122 => ?_)
                  obtain ⟨z122, s122, e122, rfl, rfl, rfl⟩ := hp122
                  replace hE := fon_ok e122 hE
                  refine aw_if_ne (tgt := 130) dX11_readMaps_125 (by decide) (fun c125 => ?_) (fun c125 => ?_)
                  · replace hE := fif hE c125
                    refine aw_aload_n dX11_readMaps_130 rfl ?_
                    refine aw_getf (v := .int (mr_pos s122)) dX11_readMaps_131 flX11_84_10 at_mod rfl ?_
                    refine aw_istore_n (lv2 := [(1, _), (2, _), (0, _)]) dX11_readMaps_134 (by decide) rfl ?_
                    refine aw_aload_n dX11_readMaps_135 rfl ?_
                    refine aw_callV dX11_readMaps_136 at_mod cvX11_159 rfl (kF_X11_number mo mw s122 ms mt mu dd wi hi gt sp ta li sr co hb _ hms  (fon_ne hE hF)) rfl (Nat.le_of_ble_eq_true rfl) (by decide) (by decide) (by decide) (by decide) (fun _ _ _ hf => False.elim hf) (fun r136 h136 n136 hp136 => ?_)
                    obtain ⟨z136, s136, e136, rfl, rfl, rfl⟩ := hp136
                    replace hE := fon_ok e136 hE
                    refine aw_istore_n (lv2 := [(3, _), (1, _), (2, _), (0, _)]) dX11_readMaps_139 (by decide) rfl ?_
                    refine aw_iload_n dX11_readMaps_140 rfl ?_
                    refine aw_if_ge (tgt := 146) dX11_readMaps_141 (by decide) (fun c141 => ?_) (fun c141 => ?_)
                    · replace hE := fit hE c141
                      refine aw_iload_n dX11_readMaps_146 rfl ?_
                      refine aw_if_ne (tgt := 157) dX11_readMaps_147 (by decide) (fun c147 => ?_) (fun c147 => ?_)
                      · replace hE := fif hE c147
                        refine aw_aload_n dX11_readMaps_157 rfl ?_
                        refine aw_iload_n dX11_readMaps_158 rfl ?_
                        refine aw_i2l dX11_readMaps_159 ?_
                        refine aw_iload_n dX11_readMaps_160 rfl ?_
                        refine aw_i2l dX11_readMaps_161 ?_
                        refine aw_iload_n dX11_readMaps_162 rfl ?_
                        refine aw_callV dX11_readMaps_163 at_mod cvX11_126 rfl (kF_X11_fits mo mw s136 ms mt mu dd wi hi gt sp ta li sr co hb _  ((z86).toInt64) ((z136).toInt64) (mr_pos s122) (fon_ne hE hF)) rfl (Nat.le_of_ble_eq_true rfl) (by decide) (by decide) (by decide) (by decide) (fun _ _ _ hf => False.elim hf) (fun r163 h163 n163 hp163 => ?_)
                        obtain ⟨z163, s163, e163, rfl, rfl, rfl⟩ := hp163
                        replace hE := fon_ok e163 hE
                        refine aw_if_ne (tgt := 171) dX11_readMaps_166 (by decide) (fun c166 => ?_) (fun c166 => ?_)
                        · replace hE := fif hE c166
                          refine aw_aload_n dX11_readMaps_171 rfl ?_
                          refine aw_iconst (v := 1) dX11_readMaps_172 (by decide) ?_
                          refine aw_putf dX11_readMaps_173 ptX11_133_10 at_mod (Nat.le_of_ble_eq_true rfl) ⟨rfl, rfl⟩ ?_
                          refine aw_eqh (h2 := HM mo mw ((mr_size s163), (mr_pos s163), (mr_kind s163), (mr_whr s163), (mr_gw s163), (mr_gh s163), (mr_one s163), 1, (mr_three s163)) ms mt mu dd wi hi gt sp ta li sr co hb) up_mod ?_
                          refine aw_aload_n dX11_readMaps_176 rfl ?_
                          refine aw_getf (v := .int (mr_one s163)) dX11_readMaps_177 flX11_130_10 at_mod rfl ?_
                          refine aw_iconst (v := 1) dX11_readMaps_180 (by decide) ?_
                          refine aw_icmp_eq (tgt := 247) dX11_readMaps_181 (by decide) (fun c181 => ?_) (fun c181 => ?_)
                          · replace hE := fit hE c181
                            exact aw_lv _ (List.forall_mem_cons.mpr ⟨rfl, fun _ h => absurd h List.not_mem_nil⟩) (b_X11_readMaps_247 mo mw ms mt mu dd wi hi sp ta li sr co hb n hms  ((mr_size s163), (mr_pos s163), (mr_kind s163), (mr_whr s163), (mr_gw s163), (mr_gh s163), (mr_one s163), 1, (mr_three s163)) gt _ hE hF)
                          · replace hE := fif hE c181
                            refine aw_aload_n dX11_readMaps_184 rfl ?_
                            refine aw_getf (v := .int (mr_one s163)) dX11_readMaps_185 flX11_130_10 at_mod rfl ?_
                            refine aw_iconst (v := 4) dX11_readMaps_188 (by decide) ?_
                            refine aw_icmp_eq (tgt := 247) dX11_readMaps_189 (by decide) (fun c189 => ?_) (fun c189 => ?_)
                            · replace hE := fit hE c189
                              exact aw_lv _ (List.forall_mem_cons.mpr ⟨rfl, fun _ h => absurd h List.not_mem_nil⟩) (b_X11_readMaps_247 mo mw ms mt mu dd wi hi sp ta li sr co hb n hms  ((mr_size s163), (mr_pos s163), (mr_kind s163), (mr_whr s163), (mr_gw s163), (mr_gh s163), (mr_one s163), 1, (mr_three s163)) gt _ hE hF)
                            · replace hE := fif hE c189
                              refine aw_aload_n dX11_readMaps_192 rfl ?_
                              refine aw_callV dX11_readMaps_193 at_mod cvX11_156 rfl (kF_X11_gap mo mw ((mr_size s163), (mr_pos s163), (mr_kind s163), (mr_whr s163), (mr_gw s163), (mr_gh s163), (mr_one s163), 1, (mr_three s163)) ms mt mu dd wi hi gt sp ta li sr co hb _ hms  (fon_ne hE hF)) rfl (Nat.le_of_ble_eq_true rfl) (by decide) (by decide) (by decide) (by decide) (fun _ _ _ hf => False.elim hf) (fun r193 h193 n193 hp193 => ?_)
                              obtain ⟨z193, s193, e193, rfl, rfl, rfl⟩ := hp193
                              replace hE := fon_ok e193 hE
                              refine aw_if_ne (tgt := 201) dX11_readMaps_196 (by decide) (fun c196 => ?_) (fun c196 => ?_)
                              · replace hE := fif hE c196
                                refine aw_aload_n dX11_readMaps_201 rfl ?_
                                refine aw_getf (v := .int (mr_pos s193)) dX11_readMaps_202 flX11_84_10 at_mod rfl ?_
                                refine aw_istore_n (lv2 := [(1, _), (3, _), (2, _), (0, _)]) dX11_readMaps_205 (by decide) rfl ?_
                                refine aw_aload_n dX11_readMaps_206 rfl ?_
                                refine aw_aload_n dX11_readMaps_207 rfl ?_
                                refine aw_callV dX11_readMaps_208 at_mod cvX11_159 rfl (kF_X11_number mo mw s193 ms mt mu dd wi hi gt sp ta li sr co hb _ hms  (fon_ne hE hF)) rfl (Nat.le_of_ble_eq_true rfl) (by decide) (by decide) (by decide) (by decide) (fun _ _ _ hf => False.elim hf) (fun r208 h208 n208 hp208 => ?_)
                                obtain ⟨z208, s208, e208, rfl, rfl, rfl⟩ := hp208
                                replace hE := fon_ok e208 hE
                                refine aw_putf dX11_readMaps_211 ptX11_133_10 at_mod (Nat.le_of_ble_eq_true rfl) ⟨rfl, rfl⟩ ?_
                                refine aw_eqh (h2 := HM mo mw ((mr_size s208), (mr_pos s208), (mr_kind s208), (mr_whr s208), (mr_gw s208), (mr_gh s208), (mr_one s208), z208, (mr_three s208)) ms mt mu dd wi hi gt sp ta li sr co hb) up_mod ?_
                                refine aw_aload_n dX11_readMaps_214 rfl ?_
                                refine aw_getf (v := .int z208) dX11_readMaps_215 flX11_133_10 at_mod rfl ?_
                                refine aw_if_ge (tgt := 223) dX11_readMaps_218 (by decide) (fun c218 => ?_) (fun c218 => ?_)
                                · replace hE := fit hE c218
                                  refine aw_aload_n dX11_readMaps_223 rfl ?_
                                  refine aw_getf (v := .int z208) dX11_readMaps_224 flX11_133_10 at_mod rfl ?_
                                  refine aw_iconst (v := 1) dX11_readMaps_227 (by decide) ?_
                                  refine aw_icmp_lt (tgt := 240) dX11_readMaps_228 (by decide) (fun c228 => ?_) (fun c228 => ?_)
                                  · replace hE := fit hE c228
                                    exact aw_lv _ (List.forall_mem_cons.mpr ⟨rfl, (List.forall_mem_cons.mpr ⟨rfl, fun _ h => absurd h List.not_mem_nil⟩)⟩) (b_X11_readMaps_240 mo mw ms mt mu dd wi hi sp ta li sr co hb n hms  (mr_pos s193) ((mr_size s208), (mr_pos s208), (mr_kind s208), (mr_whr s208), (mr_gw s208), (mr_gh s208), (mr_one s208), z208, (mr_three s208)) gt _ hE hF)
                                  · replace hE := fif hE c228
                                    refine aw_aload_n dX11_readMaps_231 rfl ?_
                                    refine aw_getf (v := .int z208) dX11_readMaps_232 flX11_133_10 at_mod rfl ?_
                                    refine aw_ldc dX11_readMaps_235 kcX11_163 ?_
                                    refine aw_icmp_le (tgt := 247) dX11_readMaps_237 (by decide) (fun c237 => ?_) (fun c237 => ?_)
                                    · replace hE := fit hE c237
                                      exact aw_lv _ (List.forall_mem_cons.mpr ⟨rfl, fun _ h => absurd h List.not_mem_nil⟩) (b_X11_readMaps_247 mo mw ms mt mu dd wi hi sp ta li sr co hb n hms  ((mr_size s208), (mr_pos s208), (mr_kind s208), (mr_whr s208), (mr_gw s208), (mr_gh s208), (mr_one s208), z208, (mr_three s208)) gt _ hE hF)
                                    · replace hE := fif hE c237
                                      exact aw_lv _ (List.forall_mem_cons.mpr ⟨rfl, (List.forall_mem_cons.mpr ⟨rfl, fun _ h => absurd h List.not_mem_nil⟩)⟩) (b_X11_readMaps_240 mo mw ms mt mu dd wi hi sp ta li sr co hb n hms  (mr_pos s193) ((mr_size s208), (mr_pos s208), (mr_kind s208), (mr_whr s208), (mr_gw s208), (mr_gh s208), (mr_one s208), z208, (mr_three s208)) gt _ hE hF)
                                · replace hE := fif hE c218
                                  refine aw_iconst (v := 0) dX11_readMaps_221 (by decide) ?_
                                  exact aw_zret dX11_readMaps_222 rfl (narB (by decide)) (Nat.zero_le _) (Nat.zero_le _) (Nat.zero_le _) (Nat.zero_le _) ⟨_, _, hE.symm, rfl, rfl, rfl⟩
                              · replace hE := fit hE c196
                                refine aw_iconst (v := 0) dX11_readMaps_199 (by decide) ?_
                                exact aw_zret dX11_readMaps_200 rfl (narB (by decide)) (Nat.zero_le _) (Nat.zero_le _) (Nat.zero_le _) (Nat.zero_le _) ⟨_, _, hE.symm, rfl, rfl, rfl⟩
                        · replace hE := fit hE c166
                          refine aw_iconst (v := 0) dX11_readMaps_169 (by decide) ?_
                          exact aw_zret dX11_readMaps_170 rfl (narB (by decide)) (Nat.zero_le _) (Nat.zero_le _) (Nat.zero_le _) (Nat.zero_le _) ⟨_, _, hE.symm, rfl, rfl, rfl⟩
                      · replace hE := fit hE c147
                        refine aw_aload_n dX11_readMaps_150 rfl ?_
                        refine aw_iconst (v := 2) dX11_readMaps_151 (by decide) ?_
                        refine aw_iload_n dX11_readMaps_152 rfl ?_
                        refine aw_callV dX11_readMaps_153 at_mod cvX11_90 rfl (kF_X11_wrong mo mw s136 ms mt mu dd wi hi gt sp ta li sr co hb _  2 (mr_pos s122) (fon_ne hE hF)) rfl (Nat.le_of_ble_eq_true rfl) (by decide) (by decide) (by decide) (by decide) (fun _ _ _ hf => False.elim hf) (fun r153 h153 n153 hp153 => ?_)
                        obtain ⟨z153, s153, e153, rfl, rfl, rfl⟩ := hp153
                        replace hE := fon_ok e153 hE
                        obtain ⟨g156, hE⟩ := fgd hE hF
                        exact aw_zret dX11_readMaps_156 rfl (narB g156) (Nat.zero_le _) (Nat.zero_le _) (Nat.zero_le _) (Nat.zero_le _) ⟨_, _, hE.symm, rfl, rfl, rfl⟩
                    · replace hE := fif hE c141
                      refine aw_iconst (v := 0) dX11_readMaps_144 (by decide) ?_
                      exact aw_zret dX11_readMaps_145 rfl (narB (by decide)) (Nat.zero_le _) (Nat.zero_le _) (Nat.zero_le _) (Nat.zero_le _) ⟨_, _, hE.symm, rfl, rfl, rfl⟩
                  · replace hE := fit hE c125
                    refine aw_iconst (v := 0) dX11_readMaps_128 (by decide) ?_
                    exact aw_zret dX11_readMaps_129 rfl (narB (by decide)) (Nat.zero_le _) (Nat.zero_le _) (Nat.zero_le _) (Nat.zero_le _) ⟨_, _, hE.symm, rfl, rfl, rfl⟩
                · replace hE := fif hE c111
                  refine aw_aload_n dX11_readMaps_114 rfl ?_
                  refine aw_iconst (v := 3) dX11_readMaps_115 (by decide) ?_
                  refine aw_iload_n dX11_readMaps_116 rfl ?_
                  refine aw_callV dX11_readMaps_117 at_mod cvX11_90 rfl (kF_X11_wrong mo mw s86 ms mt mu dd wi hi gt sp ta li sr co hb _  3 (mr_pos s72) (fon_ne hE hF)) rfl (Nat.le_of_ble_eq_true rfl) (by decide) (by decide) (by decide) (by decide) (fun _ _ _ hf => False.elim hf) (fun r117 h117 n117 hp117 => ?_)
                  obtain ⟨z117, s117, e117, rfl, rfl, rfl⟩ := hp117
                  replace hE := fon_ok e117 hE
                  obtain ⟨g120, hE⟩ := fgd hE hF
                  exact aw_zret dX11_readMaps_120 rfl (narB g120) (Nat.zero_le _) (Nat.zero_le _) (Nat.zero_le _) (Nat.zero_le _) ⟨_, _, hE.symm, rfl, rfl, rfl⟩
              · replace hE := fit hE c97
                refine aw_aload_n dX11_readMaps_100 rfl ?_
                refine aw_iconst (v := 2) dX11_readMaps_101 (by decide) ?_
                refine aw_iload_n dX11_readMaps_102 rfl ?_
                refine aw_callV dX11_readMaps_103 at_mod cvX11_90 rfl (kF_X11_wrong mo mw s86 ms mt mu dd wi hi gt sp ta li sr co hb _  2 (mr_pos s72) (fon_ne hE hF)) rfl (Nat.le_of_ble_eq_true rfl) (by decide) (by decide) (by decide) (by decide) (fun _ _ _ hf => False.elim hf) (fun r103 h103 n103 hp103 => ?_)
                obtain ⟨z103, s103, e103, rfl, rfl, rfl⟩ := hp103
                replace hE := fon_ok e103 hE
                obtain ⟨g106, hE⟩ := fgd hE hF
                exact aw_zret dX11_readMaps_106 rfl (narB g106) (Nat.zero_le _) (Nat.zero_le _) (Nat.zero_le _) (Nat.zero_le _) ⟨_, _, hE.symm, rfl, rfl, rfl⟩
            · replace hE := fif hE c91
              refine aw_iconst (v := 0) dX11_readMaps_94 (by decide) ?_
              exact aw_zret dX11_readMaps_95 rfl (narB (by decide)) (Nat.zero_le _) (Nat.zero_le _) (Nat.zero_le _) (Nat.zero_le _) ⟨_, _, hE.symm, rfl, rfl, rfl⟩
          · replace hE := fit hE c75
            refine aw_iconst (v := 0) dX11_readMaps_78 (by decide) ?_
            exact aw_zret dX11_readMaps_79 rfl (narB (by decide)) (Nat.zero_le _) (Nat.zero_le _) (Nat.zero_le _) (Nat.zero_le _) ⟨_, _, hE.symm, rfl, rfl, rfl⟩
        · replace hE := fif hE c48
          exact aw_lv _ (List.forall_mem_cons.mpr ⟨rfl, fun _ h => absurd h List.not_mem_nil⟩) (b_X11_readMaps_51 mo mw ms mt mu dd wi hi sp ta li sr co hb n hms  ((mr_size s11), (mr_pos s11), (mr_kind s11), (mr_whr s11), (mr_gw s11), (mr_gh s11), (z25 - 48), (mr_two s11), (mr_three s11)) gt _ hE hF)
    · replace hE := fit hE c14
      exact aw_lv _ (fun _ h => absurd h List.not_mem_nil) (b_X11_readMaps_17 mo mw ms mt mu dd wi hi sp ta li sr co hb n hms  s11 gt _ hE hF)
def P_X6_encode (m0 : Mnt) (sh : Nat → Nat) (rr : Nat → Ras) (r : Nat) (x : Ras) (ww : Nat → Row) (o : Nat) (so : Nat) (sc : Src) (pl : Pal) (pn : Pnm) (bm : Bmp) (tg : Tga) (px : Pcx) (fa : A) (hb : aH) (n : Nat) (res : Out (Row × Qoi) Unit) : Option Value → aH → Nat → Prop := fun r1 h2 n2 => ∃ (a : Unit) (s : (Row × Qoi)), res = fok a s ∧ r1 = none ∧ h2 = HC m0 sh (va_up rr r x) (va_up ww o s.1) so sc pl s.2 pn bm tg px fa hb ∧ n = n2
abbrev Q_X6_encode_53 (m0 : Mnt) (sh : Nat → Nat) (rr : Nat → Ras) (r : Nat) (x : Ras) (ww : Nat → Row) (o : Nat) (so : Nat) (sc : Src) (pl : Pal) (pn : Pnm) (bm : Bmp) (tg : Tga) (px : Pcx) (fa : A) (hb : aH) (n : Nat) (k : Int32 → Row → Qoi → Out (Row × Qoi) Unit) : Prop := ∀ (t0 : Int32) (y : Row) (qo : Qoi) (res : Out (Row × Qoi) Unit), k t0 y qo = res → res ≠ fno → AW (fun _ _ => True) mX6_encode (rmD 5 0 0) 0 0 (P_X6_encode m0 sh rr r x ww o so sc pl pn bm tg px fa hb n res) (fun _ _ _ => False) 0 0 53 [(0, .ref 21), (1, .ref r), (3, .ref o)] [.int t0, .ref o] (HC m0 sh (va_up rr r x) (va_up ww o y) so sc pl qo pn bm tg px fa hb) n
def F_X6_encode_53 (x : Ras)  (t0 : Int32) (y : Row) (qo : Qoi) : Out (Row × Qoi) Unit := fon (F_X1_add t0 y) (fun z53 s53 => fon (F_X1_add 0 s53) (fun z58 s58 => fon (F_X6_writeChunks x s58 qo) (fun z64 s64 => fon (F_X1_addZeros 7 s64.1) (fun z70 s70 => fon (F_X1_add 1 s70) (fun z75 s75 => fok () (s75, s64.2)) (fun _ _ => fno)) (fun _ _ => fno)) (fun _ _ => fno)) (fun _ _ => fno)) (fun _ _ => fno)
set_option maxHeartbeats 1000000 in
set_option maxRecDepth 100000 in
theorem b_X6_encode_53 (m0 : Mnt) (sh : Nat → Nat) (rr : Nat → Ras) (r : Nat) (x : Ras) (ww : Nat → Row) (o : Nat) (so : Nat) (sc : Src) (pl : Pal) (pn : Pnm) (bm : Bmp) (tg : Tga) (px : Pcx) (fa : A) (hb : aH) (n : Nat) (hr : isR r) (ho : isW o)  : Q_X6_encode_53 m0 sh rr r x ww o so sc pl pn bm tg px fa hb n (F_X6_encode_53 x) := by
  intro t0 y qo res hE hF
  unfold F_X6_encode_53 at hE
  refine aw_callV dX6_encode_53 (at_row ho) cvX6_117 rfl (kF_X1_add m0 sh (va_up rr r x) ww o y so sc pl qo pn bm tg px fa hb _ ho t0 (fon_ne hE hF)) rfl (Nat.le_of_ble_eq_true rfl) (by decide) (by decide) (by decide) (by decide) (fun _ _ _ hf => False.elim hf) (fun r53 h53 n53 hp53 => ?_)
  obtain ⟨z53, s53, e53, rfl, rfl, rfl⟩ := hp53
  replace hE := fon_ok e53 hE
  refine aw_aload_n dX6_encode_56 rfl ?_
  refine aw_iconst (v := 0) dX6_encode_57 (by decide) ?_
  refine aw_callV dX6_encode_58 (at_row ho) cvX6_117 rfl (kF_X1_add m0 sh (va_up rr r x) ww o s53 so sc pl qo pn bm tg px fa hb _ ho 0 (fon_ne hE hF)) rfl (Nat.le_of_ble_eq_true rfl) (by decide) (by decide) (by decide) (by decide) (fun _ _ _ hf => False.elim hf) (fun r58 h58 n58 hp58 => ?_)
  obtain ⟨z58, s58, e58, rfl, rfl, rfl⟩ := hp58
  replace hE := fon_ok e58 hE
  refine aw_aload_n dX6_encode_61 rfl ?_
  refine aw_aload_n dX6_encode_62 rfl ?_
  refine aw_aload_n dX6_encode_63 rfl ?_
  refine aw_callV dX6_encode_64 at_qoi cvX6_135 rfl (kF_X6_writeChunks m0 sh rr r x ww o s58 so sc pl qo pn bm tg px fa hb _ hr ho  (fon_ne hE hF)) rfl (Nat.le_of_ble_eq_true rfl) (by decide) (by decide) (by decide) (by decide) (fun _ _ _ hf => False.elim hf) (fun r64 h64 n64 hp64 => ?_)
  obtain ⟨z64, s64, e64, rfl, rfl, rfl⟩ := hp64
  replace hE := fon_ok e64 hE
  refine aw_aload_n dX6_encode_67 rfl ?_
  refine aw_bipush (v := 7) dX6_encode_68 (by decide) ?_
  refine aw_callV dX6_encode_70 (at_row ho) cvX6_139 rfl (kF_X1_addZeros m0 sh (va_up rr r x) ww o s64.1 so sc pl s64.2 pn bm tg px fa hb _ ho 7 (fon_ne hE hF)) rfl (Nat.le_of_ble_eq_true rfl) (by decide) (by decide) (by decide) (by decide) (fun _ _ _ hf => False.elim hf) (fun r70 h70 n70 hp70 => ?_)
  obtain ⟨z70, s70, e70, rfl, rfl, rfl⟩ := hp70
  replace hE := fon_ok e70 hE
  refine aw_aload_n dX6_encode_73 rfl ?_
  refine aw_iconst (v := 1) dX6_encode_74 (by decide) ?_
  refine aw_callV dX6_encode_75 (at_row ho) cvX6_117 rfl (kF_X1_add m0 sh (va_up rr r x) ww o s70 so sc pl s64.2 pn bm tg px fa hb _ ho 1 (fon_ne hE hF)) rfl (Nat.le_of_ble_eq_true rfl) (by decide) (by decide) (by decide) (by decide) (fun _ _ _ hf => False.elim hf) (fun r75 h75 n75 hp75 => ?_)
  obtain ⟨z75, s75, e75, rfl, rfl, rfl⟩ := hp75
  replace hE := fon_ok e75 hE
  exact aw_vret dX6_encode_78 rfl (Nat.zero_le _) (Nat.zero_le _) (Nat.zero_le _) (Nat.zero_le _) ⟨_, _, hE.symm, rfl, rfl, rfl⟩
def F_X6_encode (a2 : Int32) (x : Ras) (y : Row) (qo : Qoi) : Out (Row × Qoi) Unit := fon (F_X1_add 113 y) (fun z3 s3 => fon (F_X1_add 111 s3) (fun z9 s9 => fon (F_X1_add 105 s9) (fun z15 s15 => fon (F_X1_add 102 s15) (fun z21 s21 => fon (F_X1_addHigh4 (x_w x) s21) (fun z29 s29 => fon (F_X1_addHigh4 (x_g x) s29) (fun z37 s37 => fon (F_X7_isOpaque x) (fun z42 s42 => if z42 = 0 then (F_X6_encode_53 x (4 : Int32) s37 qo) else (F_X6_encode_53 x (3 : Int32) s37 qo)) (fun _ _ => fno)) (fun _ _ => fno)) (fun _ _ => fno)) (fun _ _ => fno)) (fun _ _ => fno)) (fun _ _ => fno)) (fun _ _ => fno)
set_option maxHeartbeats 1000000 in
set_option maxRecDepth 100000 in
theorem kF_X6_encode (m0 : Mnt) (sh : Nat → Nat) (rr : Nat → Ras) (r : Nat) (x : Ras) (ww : Nat → Row) (o : Nat) (y : Row) (so : Nat) (sc : Src) (pl : Pal) (qo : Qoi) (pn : Pnm) (bm : Bmp) (tg : Tga) (px : Pcx) (fa : A) (hb : aH) (n : Nat) (hr : isR r) (ho : isW o) (a2 : Int32) (hF : F_X6_encode a2 x y qo ≠ fno) : AM mX6_encode 5 [.ref 21, .ref r, .int a2, .ref o] (HC m0 sh (va_up rr r x) (va_up ww o y) so sc pl qo pn bm tg px fa hb) n 0 0 0 0 (P_X6_encode m0 sh rr r x ww o so sc pl pn bm tg px fa hb n (F_X6_encode a2 x y qo)) (fun _ _ _ => False) := by
  generalize hE : F_X6_encode a2 x y qo = res at hF ⊢
  refine aw_of (by decide +kernel) rfl (Nat.le_of_ble_eq_true rfl) ?_
  unfold F_X6_encode at hE
  refine aw_aload_n dX6_encode_0 rfl ?_
  refine aw_bipush (v := 113) dX6_encode_1 (by decide) ?_
  refine aw_callV dX6_encode_3 (at_row ho) cvX6_117 rfl (kF_X1_add m0 sh (va_up rr r x) ww o y so sc pl qo pn bm tg px fa hb _ ho 113 (fon_ne hE hF)) rfl (Nat.le_of_ble_eq_true rfl) (by decide) (by decide) (by decide) (by decide) (fun _ _ _ hf => False.elim hf) (fun r3 h3 n3 hp3 => ?_)
  obtain ⟨z3, s3, e3, rfl, rfl, rfl⟩ := hp3
  replace hE := fon_ok e3 hE
  refine aw_aload_n dX6_encode_6 rfl ?_
  refine aw_bipush (v := 111) dX6_encode_7 (by decide) ?_
  refine aw_callV dX6_encode_9 (at_row ho) cvX6_117 rfl (kF_X1_add m0 sh (va_up rr r x) ww o s3 so sc pl qo pn bm tg px fa hb _ ho 111 (fon_ne hE hF)) rfl (Nat.le_of_ble_eq_true rfl) (by decide) (by decide) (by decide) (by decide) (fun _ _ _ hf => False.elim hf) (fun r9 h9 n9 hp9 => ?_)
  obtain ⟨z9, s9, e9, rfl, rfl, rfl⟩ := hp9
  replace hE := fon_ok e9 hE
  refine aw_aload_n dX6_encode_12 rfl ?_
  refine aw_bipush (v := 105) dX6_encode_13 (by decide) ?_
  refine aw_callV dX6_encode_15 (at_row ho) cvX6_117 rfl (kF_X1_add m0 sh (va_up rr r x) ww o s9 so sc pl qo pn bm tg px fa hb _ ho 105 (fon_ne hE hF)) rfl (Nat.le_of_ble_eq_true rfl) (by decide) (by decide) (by decide) (by decide) (fun _ _ _ hf => False.elim hf) (fun r15 h15 n15 hp15 => ?_)
  obtain ⟨z15, s15, e15, rfl, rfl, rfl⟩ := hp15
  replace hE := fon_ok e15 hE
  refine aw_aload_n dX6_encode_18 rfl ?_
  refine aw_bipush (v := 102) dX6_encode_19 (by decide) ?_
  refine aw_callV dX6_encode_21 (at_row ho) cvX6_117 rfl (kF_X1_add m0 sh (va_up rr r x) ww o s15 so sc pl qo pn bm tg px fa hb _ ho 102 (fon_ne hE hF)) rfl (Nat.le_of_ble_eq_true rfl) (by decide) (by decide) (by decide) (by decide) (fun _ _ _ hf => False.elim hf) (fun r21 h21 n21 hp21 => ?_)
  obtain ⟨z21, s21, e21, rfl, rfl, rfl⟩ := hp21
  replace hE := fon_ok e21 hE
  refine aw_aload_n dX6_encode_24 rfl ?_
  refine aw_aload_n dX6_encode_25 rfl ?_
  refine aw_getf (v := .int (x_w x)) dX6_encode_26 flX6_122_6 (at_ras hr) rfl ?_
  refine aw_callV dX6_encode_29 (at_row ho) cvX6_125 rfl (kF_X1_addHigh4 m0 sh (va_up rr r x) ww o s21 so sc pl qo pn bm tg px fa hb _ ho (x_w x) (fon_ne hE hF)) rfl (Nat.le_of_ble_eq_true rfl) (by decide) (by decide) (by decide) (by decide) (fun _ _ _ hf => False.elim hf) (fun r29 h29 n29 hp29 => ?_)
  obtain ⟨z29, s29, e29, rfl, rfl, rfl⟩ := hp29
  replace hE := fon_ok e29 hE
  refine aw_aload_n dX6_encode_32 rfl ?_
  refine aw_aload_n dX6_encode_33 rfl ?_
  refine aw_getf (v := .int (x_g x)) dX6_encode_34 flX6_128_6 (at_ras hr) rfl ?_
  refine aw_callV dX6_encode_37 (at_row ho) cvX6_125 rfl (kF_X1_addHigh4 m0 sh (va_up rr r x) ww o s29 so sc pl qo pn bm tg px fa hb _ ho (x_g x) (fon_ne hE hF)) rfl (Nat.le_of_ble_eq_true rfl) (by decide) (by decide) (by decide) (by decide) (fun _ _ _ hf => False.elim hf) (fun r37 h37 n37 hp37 => ?_)
  obtain ⟨z37, s37, e37, rfl, rfl, rfl⟩ := hp37
  replace hE := fon_ok e37 hE
  refine aw_aload_n dX6_encode_40 rfl ?_
  refine aw_aload_n dX6_encode_41 rfl ?_
  refine aw_callV dX6_encode_42 (at_ras hr) cvX6_131 rfl (kF_X7_isOpaque m0 sh rr r x (va_up ww o s37) so sc pl qo pn bm tg px fa hb _ hr  (fon_ne hE hF)) rfl (Nat.le_of_ble_eq_true rfl) (by decide) (by decide) (by decide) (by decide) (fun _ _ _ hf => False.elim hf) (fun r42 h42 n42 hp42 => ?_)
  obtain ⟨z42, s42, e42, rfl, rfl, rfl⟩ := hp42
  replace hE := fon_ok e42 hE
  refine aw_if_eq (tgt := 52) dX6_encode_45 (by decide) (fun c45 => ?_) (fun c45 => ?_)
  · replace hE := fit hE c45
    refine aw_iconst (v := 4) dX6_encode_52 (by decide) ?_
    exact aw_lv _ (List.forall_mem_cons.mpr ⟨rfl, (List.forall_mem_cons.mpr ⟨rfl, (List.forall_mem_cons.mpr ⟨rfl, fun _ h => absurd h List.not_mem_nil⟩)⟩)⟩) (b_X6_encode_53 m0 sh rr r x ww o so sc pl pn bm tg px fa hb n hr ho  (4 : Int32) s37 qo _ hE hF)
  · replace hE := fif hE c45
    refine aw_iconst (v := 3) dX6_encode_48 (by decide) ?_
    refine aw_goto (tgt := 53) dX6_encode_49 (by decide) ?_
    exact aw_lv _ (List.forall_mem_cons.mpr ⟨rfl, (List.forall_mem_cons.mpr ⟨rfl, (List.forall_mem_cons.mpr ⟨rfl, fun _ h => absurd h List.not_mem_nil⟩)⟩)⟩) (b_X6_encode_53 m0 sh rr r x ww o so sc pl pn bm tg px fa hb n hr ho  (3 : Int32) s37 qo _ hE hF)
