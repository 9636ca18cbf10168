def P_X11_write (mr : MR) (ms : Nat) (mt : A) (dd : A) (wi : A) (hi : A) (gt : A) (ta : A) (li : A) (hb : aH) (n : Nat) (res : Out (MO × MW × A × A × A × A) Int32) : Option Value → aH → Nat → Prop := fun r1 h2 n2 => ∃ (a : Int32) (s : (MO × MW × A × A × A × A)), res = fok a s ∧ r1 = some (.int a) ∧ h2 = HM s.1 s.2.1 mr ms mt s.2.2.1 dd wi hi gt s.2.2.2.1 ta li s.2.2.2.2.1 s.2.2.2.2.2 hb ∧ n = n2
abbrev Q_X11_write_31 (mr : MR) (ms : Nat) (mt : A) (dd : A) (wi : A) (hi : A) (gt : A) (ta : A) (li : A) (hb : aH) (n : Nat) (k : MO → MW → A → A → A → A → Out (MO × MW × A × A × A × A) Int32) : Prop := ∀ (mo : MO) (mw : MW) (mu : A) (sp : A) (sr : A) (co : A) (res : Out (MO × MW × A × A × A × A) Int32), k mo mw mu sp sr co = res → res ≠ fno → AW (fun _ _ => True) mX11_write (rmD 8 0 0) 0 0 (P_X11_write mr ms mt dd wi hi gt ta li hb n res) (fun _ _ _ => False) 0 0 31 [] [] (HM mo mw mr ms mt mu dd wi hi gt sp ta li sr co hb) n
def F_X11_write_31 (dd : A) (wi : A) (hi : A)  (mo : MO) (mw : MW) (mu : A) (sp : A) (sr : A) (co : A) : Out (MO × MW × A × A × A × A) Int32 := fok ((-2) : Int32) (mo, mw, mu, sp, sr, co)
set_option maxHeartbeats 1000000 in
set_option maxRecDepth 100000 in
theorem b_X11_write_31 (mr : MR) (ms : Nat) (mt : A) (dd : A) (wi : A) (hi : A) (gt : A) (ta : A) (li : A) (hb : aH) (n : Nat)   : Q_X11_write_31 mr ms mt dd wi hi gt ta li hb n (F_X11_write_31 dd wi hi) := by
  intro mo mw mu sp sr co res hE hF
  unfold F_X11_write_31 at hE
  refine aw_bipush (v := (-2)) dX11_write_31 (by decide) ?_
  exact aw_iret dX11_write_33 rfl (Nat.zero_le _) (Nat.zero_le _) (Nat.zero_le _) (Nat.zero_le _) ⟨_, _, hE.symm, rfl, rfl, rfl⟩
def F_X11_write (a1 : Int32) (a2 : Int32) (mo : MO) (mw : MW) (mu : A) (dd : A) (wi : A) (hi : A) (sp : A) (sr : A) (co : A) : Out (MO × MW × A × A × A × A) Int32 := if (F_X11_isShelf a1) = 0 then (F_X11_write_31 dd wi hi ((mo_taped mo), 0, (mo_tf mo), (mo_t1 mo), (mo_t2 mo), (mo_t3 mo), (mo_fp mo)) mw mu sp sr co) else (if inb a1 4 then (if (wi (Int32.toNatClampNeg a1)) = 0 then (F_X11_write_31 dd wi hi ((mo_taped mo), 0, (mo_tf mo), (mo_t1 mo), (mo_t2 mo), (mo_t3 mo), (mo_fp mo)) mw mu sp sr co) else (if a2 < 0 then (F_X11_write_31 dd wi hi ((mo_taped mo), 0, (mo_tf mo), (mo_t1 mo), (mo_t2 mo), (mo_t3 mo), (mo_fp mo)) mw mu sp sr co) else (if a2 ≤ 17 then (fon (F_X11_canHold a1 a2 dd wi hi sr) (fun z37 s37 => if z37 = 0 then (fok ((-1) : Int32) (((mo_taped mo), 0, (mo_tf mo), (mo_t1 mo), (mo_t2 mo), (mo_t3 mo), (mo_fp mo)), mw, mu, sp, s37, co)) else (fon (F_X11_writeFile a1 a2 mw mu dd wi hi sp co) (fun z48 s48 => fok ((mw_om s48.1) : Int32) (((mo_taped mo), 0, (mo_tf mo), (mo_t1 mo), (mo_t2 mo), (mo_t3 mo), (mo_fp mo)), s48.1, s48.2.1, s48.2.2.1, s37, s48.2.2.2)) (fun _ _ => fno))) (fun _ _ => fno)) else (F_X11_write_31 dd wi hi ((mo_taped mo), 0, (mo_tf mo), (mo_t1 mo), (mo_t2 mo), (mo_t3 mo), (mo_fp mo)) mw mu sp sr co)))) else fno)
set_option maxHeartbeats 1000000 in
set_option maxRecDepth 100000 in
theorem kF_X11_write (mo : MO) (mw : MW) (mr : MR) (ms : Nat) (mt : A) (mu : A) (dd : A) (wi : A) (hi : A) (gt : A) (sp : A) (ta : A) (li : A) (sr : A) (co : A) (hb : aH) (n : Nat)  (a1 : Int32) (a2 : Int32) (hF : F_X11_write a1 a2 mo mw mu dd wi hi sp sr co ≠ fno) : AM mX11_write 8 [.ref 31, .int a1, .int a2] (HM mo mw mr ms mt mu dd wi hi gt sp ta li sr co hb) n 0 0 0 0 (P_X11_write mr ms mt dd wi hi gt ta li hb n (F_X11_write a1 a2 mo mw mu dd wi hi sp sr co)) (fun _ _ _ => False) := by
  generalize hE : F_X11_write a1 a2 mo mw mu dd wi hi sp sr co = res at hF ⊢
  refine aw_of (by decide +kernel) rfl (Nat.le_of_ble_eq_true rfl) ?_
  unfold F_X11_write at hE
  refine aw_aload_n dX11_write_0 rfl ?_
  refine aw_iconst (v := 0) dX11_write_1 (by decide) ?_
  refine aw_putf dX11_write_2 ptX11_61_10 at_mod (Nat.le_of_ble_eq_true rfl) ⟨rfl, rfl⟩ ?_
  refine aw_eqh (h2 := HM ((mo_taped mo), 0, (mo_tf mo), (mo_t1 mo), (mo_t2 mo), (mo_t3 mo), (mo_fp mo)) mw mr ms mt mu dd wi hi gt sp ta li sr co hb) up_mod ?_
  refine aw_iload_n dX11_write_5 rfl ?_
  refine aw_callS dX11_write_6  csX11_245 rfl (kF_X11_isShelf _ _ a1) rfl (Nat.le_of_ble_eq_true rfl) (by decide) (by decide) (by decide) (by decide) (fun _ _ _ hf => False.elim hf) (fun r6 h6 n6 hp6 => ?_)
  obtain ⟨rfl, rfl, rfl⟩ := hp6
  refine aw_if_eq (tgt := 31) dX11_write_9 (by decide) (fun c9 => ?_) (fun c9 => ?_)
  · replace hE := fit hE c9
    exact aw_lv _ (fun _ h => absurd h List.not_mem_nil) (b_X11_write_31 mr ms mt dd wi hi gt ta li hb n   ((mo_taped mo), 0, (mo_tf mo), (mo_t1 mo), (mo_t2 mo), (mo_t3 mo), (mo_fp mo)) mw mu sp sr co _ hE hF)
  · replace hE := fif hE c9
    refine aw_aload_n dX11_write_12 rfl ?_
    refine aw_getf (v := .ref 35) dX11_write_13 flX11_21_10 at_mod rfl ?_
    refine aw_iload_n dX11_write_16 rfl ?_
    obtain ⟨g17, hE⟩ := fgd hE hF
    refine aw_iald (f := wi) dX11_write_17 at_mwide (vp_in_iff.mpr g17) ?_
    refine aw_if_eq (tgt := 31) dX11_write_18 (by decide) (fun c18 => ?_) (fun c18 => ?_)
    · replace hE := fit hE c18
      exact aw_lv _ (fun _ h => absurd h List.not_mem_nil) (b_X11_write_31 mr ms mt dd wi hi gt ta li hb n   ((mo_taped mo), 0, (mo_tf mo), (mo_t1 mo), (mo_t2 mo), (mo_t3 mo), (mo_fp mo)) mw mu sp sr co _ hE hF)
    · replace hE := fif hE c18
      refine aw_iload_n dX11_write_21 rfl ?_
      refine aw_if_lt (tgt := 31) dX11_write_22 (by decide) (fun c22 => ?_) (fun c22 => ?_)
      · replace hE := fit hE c22
        exact aw_lv _ (fun _ h => absurd h List.not_mem_nil) (b_X11_write_31 mr ms mt dd wi hi gt ta li hb n   ((mo_taped mo), 0, (mo_tf mo), (mo_t1 mo), (mo_t2 mo), (mo_t3 mo), (mo_fp mo)) mw mu sp sr co _ hE hF)
      · replace hE := fif hE c22
        refine aw_iload_n dX11_write_25 rfl ?_
        refine aw_bipush (v := 17) dX11_write_26 (by decide) ?_
        refine aw_icmp_le (tgt := 34) dX11_write_28 (by decide) (fun c28 => ?_) (fun c28 => ?_)
        · replace hE := fit hE c28
          refine aw_aload_n dX11_write_34 rfl ?_
          refine aw_iload_n dX11_write_35 rfl ?_
          refine aw_iload_n dX11_write_36 rfl ?_
          refine aw_callV dX11_write_37 at_mod cvX11_328 rfl (kF_X11_canHold ((mo_taped mo), 0, (mo_tf mo), (mo_t1 mo), (mo_t2 mo), (mo_t3 mo), (mo_fp mo)) mw mr ms mt mu dd wi hi gt sp ta li sr co hb _  a1 a2 (fon_ne hE hF)) rfl (Nat.le_of_ble_eq_true rfl) (by decide) (by decide) (by decide) (by decide) (fun _ _ _ hf => False.elim hf) (fun r37 h37 n37 hp37 => ?_)
          obtain ⟨z37, s37, e37, rfl, rfl, rfl⟩ := hp37
          replace hE := fon_ok e37 hE
          refine aw_if_ne (tgt := 45) dX11_write_40 (by decide) (fun c40 => ?_) (fun c40 => ?_)
          · replace hE := fif hE c40
            refine aw_aload_n dX11_write_45 rfl ?_
            refine aw_iload_n dX11_write_46 rfl ?_
            refine aw_iload_n dX11_write_47 rfl ?_
            refine aw_callV dX11_write_48 at_mod cvX11_331 rfl (kF_X11_writeFile ((mo_taped mo), 0, (mo_tf mo), (mo_t1 mo), (mo_t2 mo), (mo_t3 mo), (mo_fp mo)) mw mr ms mt mu dd wi hi gt sp ta li s37 co hb _  a1 a2 (fon_ne hE hF)) rfl (Nat.le_of_ble_eq_true rfl) (by decide) (by decide) (by decide) (by decide) (fun _ _ _ hf => False.elim hf) (fun r48 h48 n48 hp48 => ?_)
            obtain ⟨z48, s48, e48, rfl, rfl, rfl⟩ := hp48
            replace hE := fon_ok e48 hE
            refine aw_aload_n dX11_write_51 rfl ?_
            refine aw_getf (v := .int (mw_om s48.1)) dX11_write_52 flX11_75_10 at_mod rfl ?_
            exact aw_iret dX11_write_55 rfl (Nat.zero_le _) (Nat.zero_le _) (Nat.zero_le _) (Nat.zero_le _) ⟨_, _, hE.symm, rfl, rfl, rfl⟩
          · replace hE := fit hE c40
            refine aw_iconst (v := (-1)) dX11_write_43 (by decide) ?_
            exact aw_iret dX11_write_44 rfl (Nat.zero_le _) (Nat.zero_le _) (Nat.zero_le _) (Nat.zero_le _) ⟨_, _, hE.symm, rfl, rfl, rfl⟩
        · replace hE := fif hE c28
          exact aw_lv _ (fun _ h => absurd h List.not_mem_nil) (b_X11_write_31 mr ms mt dd wi hi gt ta li hb n   ((mo_taped mo), 0, (mo_tf mo), (mo_t1 mo), (mo_t2 mo), (mo_t3 mo), (mo_fp mo)) mw mu sp sr co _ hE hF)
def P_X7_isLike (m0 : Mnt) (sh : Nat → Nat) (rr : Nat → Ras) (ww : Nat → Row) (so : Nat) (sc : Src) (pl : Pal) (qo : Qoi) (pn : Pnm) (bm : Bmp) (tg : Tga) (px : Pcx) (fa : A) (hb : aH) (r : Nat) (r2 : Nat) (n : Nat) (res : Out Unit Int32) : Option Value → aH → Nat → Prop := fun r1 h2 n2 => ∃ (a : Int32) (s : Unit), res = fok a s ∧ r1 = some (.int a) ∧ h2 = HC m0 sh rr ww so sc pl qo pn bm tg px fa hb ∧ n = n2
abbrev Q_X7_isLike_22 (m0 : Mnt) (sh : Nat → Nat) (rr : Nat → Ras) (ww : Nat → Row) (so : Nat) (sc : Src) (pl : Pal) (qo : Qoi) (pn : Pnm) (bm : Bmp) (tg : Tga) (px : Pcx) (fa : A) (hb : aH) (r : Nat) (r2 : Nat) (n : Nat) (k : Out Unit Int32) : Prop := ∀  (res : Out Unit Int32), k  = res → res ≠ fno → AW (fun _ _ => True) mX7_isLike (rmD 2 0 0) 0 0 (P_X7_isLike m0 sh rr ww so sc pl qo pn bm tg px fa hb r r2 n res) (fun _ _ _ => False) 0 0 22 [] [] (HC m0 sh rr ww so sc pl qo pn bm tg px fa hb) n
abbrev Q_X7_isLike_31 (m0 : Mnt) (sh : Nat → Nat) (rr : Nat → Ras) (ww : Nat → Row) (so : Nat) (sc : Src) (pl : Pal) (qo : Qoi) (pn : Pnm) (bm : Bmp) (tg : Tga) (px : Pcx) (fa : A) (hb : aH) (r : Nat) (r2 : Nat) (n : Nat) (k : Int32 → Int32 → Out Unit Int32) : Prop := ∀ (v2 : Int32) (v3 : Int32) (res : Out Unit Int32), k v2 v3 = res → res ≠ fno → AW (fun _ _ => True) mX7_isLike (rmD 2 0 0) 0 0 (P_X7_isLike m0 sh rr ww so sc pl qo pn bm tg px fa hb r r2 n res) (fun _ _ _ => False) 0 0 31 [(0, .ref r), (1, .ref r2), (2, .int v2), (3, .int v3)] [] (HC m0 sh rr ww so sc pl qo pn bm tg px fa hb) n
def F_X7_isLike_31 (r : Nat) (r2 : Nat) (rr : (Nat → Ras)) (k31 : Int32 → Int32 → Out Unit Int32) (v2 : Int32) (v3 : Int32) : Out Unit Int32 := if v2 ≤ v3 then (fok (1 : Int32) ()) else (fon (F_X7_get v3 (rr r)) (fun z38 s38 => fon (F_X7_get v3 (rr r2)) (fun z43 s43 => if z38 = z43 then (k31 v2 (v3 + 1)) else (fok (0 : Int32) ())) (fun _ _ => fno)) (fun _ _ => fno))
set_option maxHeartbeats 1000000 in
set_option maxRecDepth 100000 in
theorem b_X7_isLike_31 (m0 : Mnt) (sh : Nat → Nat) (rr : Nat → Ras) (ww : Nat → Row) (so : Nat) (sc : Src) (pl : Pal) (qo : Qoi) (pn : Pnm) (bm : Bmp) (tg : Tga) (px : Pcx) (fa : A) (hb : aH) (r : Nat) (r2 : Nat) (n : Nat) (hr : isR r) (hr2 : isR r2) (k31 : Int32 → Int32 → Out Unit Int32) (hk31 : Q_X7_isLike_31 m0 sh rr ww so sc pl qo pn bm tg px fa hb r r2 n k31) : Q_X7_isLike_31 m0 sh rr ww so sc pl qo pn bm tg px fa hb r r2 n (F_X7_isLike_31 r r2 rr k31) := by
  intro v2 v3 res hE hF
  unfold F_X7_isLike_31 at hE
  refine aw_iload_n dX7_isLike_31 rfl ?_
  refine aw_iload_n dX7_isLike_32 rfl ?_
  refine aw_icmp_ge (tgt := 57) dX7_isLike_33 (by decide) (fun c33 => ?_) (fun c33 => ?_)
  · replace hE := fit hE c33
    refine aw_iconst (v := 1) dX7_isLike_57 (by decide) ?_
    exact aw_zret dX7_isLike_58 rfl (narB (by decide)) (Nat.zero_le _) (Nat.zero_le _) (Nat.zero_le _) (Nat.zero_le _) ⟨_, _, hE.symm, rfl, rfl, rfl⟩
  · replace hE := fif hE c33
    refine aw_aload_n dX7_isLike_36 rfl ?_
    refine aw_iload_n dX7_isLike_37 rfl ?_
    refine aw_eqh (h2 := HC m0 sh (va_up rr r (rr r)) ww so sc pl qo pn bm tg px fa hb) (by rw [vus rr r]) ?_
    refine aw_callV dX7_isLike_38 (at_ras hr) cvX7_30 rfl (kF_X7_get m0 sh rr r (rr r) ww so sc pl qo pn bm tg px fa hb _ hr v3 (fon_ne hE hF)) rfl (Nat.le_of_ble_eq_true rfl) (by decide) (by decide) (by decide) (by decide) (fun _ _ _ hf => False.elim hf) (fun r38 h38 n38 hp38 => ?_)
    obtain ⟨z38, s38, e38, rfl, rfl, rfl⟩ := hp38
    replace hE := fon_ok e38 hE
    refine aw_eqh (h2 := HC m0 sh rr ww so sc pl qo pn bm tg px fa hb) (by rw [vus rr r]) ?_
    refine aw_aload_n dX7_isLike_41 rfl ?_
    refine aw_iload_n dX7_isLike_42 rfl ?_
    refine aw_eqh (h2 := HC m0 sh (va_up rr r2 (rr r2)) ww so sc pl qo pn bm tg px fa hb) (by rw [vus rr r2]) ?_
    refine aw_callV dX7_isLike_43 (at_ras hr2) cvX7_30 rfl (kF_X7_get m0 sh rr r2 (rr r2) ww so sc pl qo pn bm tg px fa hb _ hr2 v3 (fon_ne hE hF)) rfl (Nat.le_of_ble_eq_true rfl) (by decide) (by decide) (by decide) (by decide) (fun _ _ _ hf => False.elim hf) (fun r43 h43 n43 hp43 => ?_)
    obtain ⟨z43, s43, e43, rfl, rfl, rfl⟩ := hp43
    replace hE := fon_ok e43 hE
    refine aw_eqh (h2 := HC m0 sh rr ww so sc pl qo pn bm tg px fa hb) (by rw [vus rr r2]) ?_
    refine aw_icmp_eq (tgt := 51) dX7_isLike_46 (by decide) (fun c46 => ?_) (fun c46 => ?_)
    · replace hE := fit hE c46
      refine aw_iinc (v := (v3 + 1)) (lv2 := [(3, _), (0, _), (1, _), (2, _)]) dX7_isLike_51 rfl (incE (by decide)) (by decide) rfl ?_
      refine aw_goto (tgt := 31) dX7_isLike_54 (by decide) ?_
      exact aw_lv _ (List.forall_mem_cons.mpr ⟨rfl, (List.forall_mem_cons.mpr ⟨rfl, (List.forall_mem_cons.mpr ⟨rfl, (List.forall_mem_cons.mpr ⟨rfl, fun _ h => absurd h List.not_mem_nil⟩)⟩)⟩)⟩) (hk31 v2 (v3 + 1) _ hE hF)
    · replace hE := fif hE c46
      refine aw_iconst (v := 0) dX7_isLike_49 (by decide) ?_
      exact aw_zret dX7_isLike_50 rfl (narB (by decide)) (Nat.zero_le _) (Nat.zero_le _) (Nat.zero_le _) (Nat.zero_le _) ⟨_, _, hE.symm, rfl, rfl, rfl⟩
def F_X7_isLike_22 (r : Nat) (r2 : Nat) (rr : (Nat → Ras))   : Out Unit Int32 := fok (0 : Int32) ()
set_option maxHeartbeats 1000000 in
set_option maxRecDepth 100000 in
theorem b_X7_isLike_22 (m0 : Mnt) (sh : Nat → Nat) (rr : Nat → Ras) (ww : Nat → Row) (so : Nat) (sc : Src) (pl : Pal) (qo : Qoi) (pn : Pnm) (bm : Bmp) (tg : Tga) (px : Pcx) (fa : A) (hb : aH) (r : Nat) (r2 : Nat) (n : Nat) (hr : isR r) (hr2 : isR r2)  : Q_X7_isLike_22 m0 sh rr ww so sc pl qo pn bm tg px fa hb r r2 n (F_X7_isLike_22 r r2 rr) := by
  intro res hE hF
  unfold F_X7_isLike_22 at hE
  refine aw_iconst (v := 0) dX7_isLike_22 (by decide) ?_
  exact aw_zret dX7_isLike_23 rfl (narB (by decide)) (Nat.zero_le _) (Nat.zero_le _) (Nat.zero_le _) (Nat.zero_le _) ⟨_, _, hE.symm, rfl, rfl, rfl⟩
def F_X7_isLike (r : Nat) (r2 : Nat) (rr : (Nat → Ras)) : Out Unit Int32 := if (x_w (rr r)) = (x_w (rr r2)) then (if (x_g (rr r)) = (x_g (rr r2)) then (fon (F_X7_count (rr r)) (fun z25 s25 => lp (fun _ _ => fno) (F_X7_isLike_31 r r2 rr) FU z25 (0 : Int32)) (fun _ _ => fno)) else (F_X7_isLike_22 r r2 rr )) else (F_X7_isLike_22 r r2 rr )
set_option maxHeartbeats 1000000 in
set_option maxRecDepth 100000 in
theorem kF_X7_isLike (m0 : Mnt) (sh : Nat → Nat) (rr : Nat → Ras) (ww : Nat → Row) (so : Nat) (sc : Src) (pl : Pal) (qo : Qoi) (pn : Pnm) (bm : Bmp) (tg : Tga) (px : Pcx) (fa : A) (hb : aH) (r : Nat) (r2 : Nat) (n : Nat) (hr : isR r) (hr2 : isR r2)  (hF : F_X7_isLike r r2 rr ≠ fno) : AM mX7_isLike 2 [.ref r, .ref r2] (HC m0 sh rr ww so sc pl qo pn bm tg px fa hb) n 0 0 0 0 (P_X7_isLike m0 sh rr ww so sc pl qo pn bm tg px fa hb r r2 n (F_X7_isLike r r2 rr)) (fun _ _ _ => False) := by
  generalize hE : F_X7_isLike r r2 rr = res at hF ⊢
  refine aw_of (by decide +kernel) rfl (Nat.le_of_ble_eq_true rfl) ?_
  unfold F_X7_isLike at hE
  refine aw_aload_n dX7_isLike_0 rfl ?_
  refine aw_getf (v := .int (x_w (rr r))) dX7_isLike_1 flX7_15_6 (at_rasT hr) rfl ?_
  refine aw_aload_n dX7_isLike_4 rfl ?_
  refine aw_getf (v := .int (x_w (rr r2))) dX7_isLike_5 flX7_15_6 (at_rasT hr2) rfl ?_
  refine aw_icmp_ne (tgt := 22) dX7_isLike_8 (by decide) (fun c8 => ?_) (fun c8 => ?_)
  · replace hE := fif hE c8
    exact aw_lv _ (fun _ h => absurd h List.not_mem_nil) (b_X7_isLike_22 m0 sh rr ww so sc pl qo pn bm tg px fa hb r r2 n hr hr2   _ hE hF)
  · replace hE := fit hE c8
    refine aw_aload_n dX7_isLike_11 rfl ?_
    refine aw_getf (v := .int (x_g (rr r))) dX7_isLike_12 flX7_19_6 (at_rasT hr) rfl ?_
    refine aw_aload_n dX7_isLike_15 rfl ?_
    refine aw_getf (v := .int (x_g (rr r2))) dX7_isLike_16 flX7_19_6 (at_rasT hr2) rfl ?_
    refine aw_icmp_eq (tgt := 24) dX7_isLike_19 (by decide) (fun c19 => ?_) (fun c19 => ?_)
    · replace hE := fit hE c19
      refine aw_aload_n dX7_isLike_24 rfl ?_
      refine aw_eqh (h2 := HC m0 sh (va_up rr r (rr r)) ww so sc pl qo pn bm tg px fa hb) (by rw [vus rr r]) ?_
      refine aw_callV dX7_isLike_25 (at_ras hr) cvX7_22 rfl (kF_X7_count m0 sh rr r (rr r) ww so sc pl qo pn bm tg px fa hb _ hr  (fon_ne hE hF)) rfl (Nat.le_of_ble_eq_true rfl) (by decide) (by decide) (by decide) (by decide) (fun _ _ _ hf => False.elim hf) (fun r25 h25 n25 hp25 => ?_)
      obtain ⟨z25, s25, e25, rfl, rfl, rfl⟩ := hp25
      replace hE := fon_ok e25 hE
      refine aw_eqh (h2 := HC m0 sh rr ww so sc pl qo pn bm tg px fa hb) (by rw [vus rr r]) ?_
      refine aw_istore_n (lv2 := [(2, _), (0, _), (1, _)]) dX7_isLike_28 (by decide) rfl ?_
      refine aw_iconst (v := 0) dX7_isLike_29 (by decide) ?_
      refine aw_istore_n (lv2 := [(3, _), (2, _), (0, _), (1, _)]) dX7_isLike_30 (by decide) rfl ?_
      exact aw_lv _ (List.forall_mem_cons.mpr ⟨rfl, (List.forall_mem_cons.mpr ⟨rfl, (List.forall_mem_cons.mpr ⟨rfl, (List.forall_mem_cons.mpr ⟨rfl, fun _ h => absurd h List.not_mem_nil⟩)⟩)⟩)⟩) (lp_ind (Q_X7_isLike_31 m0 sh rr ww so sc pl qo pn bm tg px fa hb r r2 n) (fun _ _ res hq hF => (hF hq.symm).elim) (fun k hk => b_X7_isLike_31 m0 sh rr ww so sc pl qo pn bm tg px fa hb r r2 n hr hr2  k hk) FU z25 (0 : Int32) _ hE hF)
    · replace hE := fif hE c19
      exact aw_lv _ (fun _ h => absurd h List.not_mem_nil) (b_X7_isLike_22 m0 sh rr ww so sc pl qo pn bm tg px fa hb r r2 n hr hr2   _ hE hF)
def P_X7_takeFrom (m0 : Mnt) (sh : Nat → Nat) (ww : Nat → Row) (so : Nat) (sc : Src) (pl : Pal) (qo : Qoi) (pn : Pnm) (bm : Bmp) (tg : Tga) (px : Pcx) (fa : A) (hb : aH) (r : Nat) (r2 : Nat) (n : Nat) (res : Out (Nat → Ras) Unit) : Option Value → aH → Nat → Prop := fun r1 h2 n2 => ∃ (a : Unit) (s : (Nat → Ras)), res = fok a s ∧ r1 = none ∧ h2 = HC m0 sh s ww so sc pl qo pn bm tg px fa hb ∧ n = n2
abbrev Q_X7_takeFrom_23 (m0 : Mnt) (sh : Nat → Nat) (ww : Nat → Row) (so : Nat) (sc : Src) (pl : Pal) (qo : Qoi) (pn : Pnm) (bm : Bmp) (tg : Tga) (px : Pcx) (fa : A) (hb : aH) (r : Nat) (r2 : Nat) (n : Nat) (k : Int32 → Int32 → (Nat → Ras) → Out (Nat → Ras) Unit) : Prop := ∀ (v2 : Int32) (v3 : Int32) (rr : (Nat → Ras)) (res : Out (Nat → Ras) Unit), k v2 v3 rr = res → res ≠ fno → AW (fun _ _ => True) mX7_takeFrom (rmD 2 0 0) 0 0 (P_X7_takeFrom m0 sh ww so sc pl qo pn bm tg px fa hb r r2 n res) (fun _ _ _ => False) 0 0 23 [(0, .ref r), (1, .ref r2), (2, .int v2), (3, .int v3)] [] (HC m0 sh rr ww so sc pl qo pn bm tg px fa hb) n
def F_X7_takeFrom_23 (r : Nat) (r2 : Nat) (k23 : Int32 → Int32 → (Nat → Ras) → Out (Nat → Ras) Unit) (v2 : Int32) (v3 : Int32) (rr : (Nat → Ras)) : Out (Nat → Ras) Unit := if v2 ≤ v3 then (fok () rr) else (fon (F_X7_get v3 (rr r2)) (fun z32 s32 => fon (F_X7_set v3 z32 (rr r)) (fun z35 s35 => k23 v2 (v3 + 1) (va_up rr r s35)) (fun _ _ => fno)) (fun _ _ => fno))
set_option maxHeartbeats 1000000 in
set_option maxRecDepth 100000 in
theorem b_X7_takeFrom_23 (m0 : Mnt) (sh : Nat → Nat) (ww : Nat → Row) (so : Nat) (sc : Src) (pl : Pal) (qo : Qoi) (pn : Pnm) (bm : Bmp) (tg : Tga) (px : Pcx) (fa : A) (hb : aH) (r : Nat) (r2 : Nat) (n : Nat) (hr : isR r) (hr2 : isR r2) (k23 : Int32 → Int32 → (Nat → Ras) → Out (Nat → Ras) Unit) (hk23 : Q_X7_takeFrom_23 m0 sh ww so sc pl qo pn bm tg px fa hb r r2 n k23) : Q_X7_takeFrom_23 m0 sh ww so sc pl qo pn bm tg px fa hb r r2 n (F_X7_takeFrom_23 r r2 k23) := by
  intro v2 v3 rr res hE hF
  unfold F_X7_takeFrom_23 at hE
  refine aw_iload_n dX7_takeFrom_23 rfl ?_
  refine aw_iload_n dX7_takeFrom_24 rfl ?_
  refine aw_icmp_ge (tgt := 44) dX7_takeFrom_25 (by decide) (fun c25 => ?_) (fun c25 => ?_)
  · replace hE := fit hE c25
    exact aw_vret dX7_takeFrom_44 rfl (Nat.zero_le _) (Nat.zero_le _) (Nat.zero_le _) (Nat.zero_le _) ⟨_, _, hE.symm, rfl, rfl, rfl⟩
  · replace hE := fif hE c25
    refine aw_aload_n dX7_takeFrom_28 rfl ?_
    refine aw_iload_n dX7_takeFrom_29 rfl ?_
    refine aw_aload_n dX7_takeFrom_30 rfl ?_
    refine aw_iload_n dX7_takeFrom_31 rfl ?_
    refine aw_eqh (h2 := HC m0 sh (va_up rr r2 (rr r2)) ww so sc pl qo pn bm tg px fa hb) (by rw [vus rr r2]) ?_
    refine aw_callV dX7_takeFrom_32 (at_ras hr2) cvX7_30 rfl (kF_X7_get m0 sh rr r2 (rr r2) ww so sc pl qo pn bm tg px fa hb _ hr2 v3 (fon_ne hE hF)) rfl (Nat.le_of_ble_eq_true rfl) (by decide) (by decide) (by decide) (by decide) (fun _ _ _ hf => False.elim hf) (fun r32 h32 n32 hp32 => ?_)
    obtain ⟨z32, s32, e32, rfl, rfl, rfl⟩ := hp32
    replace hE := fon_ok e32 hE
    refine aw_eqh (h2 := HC m0 sh rr ww so sc pl qo pn bm tg px fa hb) (by rw [vus rr r2]) ?_
    refine aw_eqh (h2 := HC m0 sh (va_up rr r (rr r)) ww so sc pl qo pn bm tg px fa hb) (by rw [vus rr r]) ?_
    refine aw_callV dX7_takeFrom_35 (at_ras hr) cvX7_26 rfl (kF_X7_set m0 sh rr r (rr r) ww so sc pl qo pn bm tg px fa hb _ hr v3 z32 (fon_ne hE hF)) rfl (Nat.le_of_ble_eq_true rfl) (by decide) (by decide) (by decide) (by decide) (fun _ _ _ hf => False.elim hf) (fun r35 h35 n35 hp35 => ?_)
    obtain ⟨z35, s35, e35, rfl, rfl, rfl⟩ := hp35
    replace hE := fon_ok e35 hE
    refine aw_iinc (v := (v3 + 1)) (lv2 := [(3, _), (0, _), (1, _), (2, _)]) dX7_takeFrom_38 rfl (incE (by decide)) (by decide) rfl ?_
    refine aw_goto (tgt := 23) dX7_takeFrom_41 (by decide) ?_
    exact aw_lv _ (List.forall_mem_cons.mpr ⟨rfl, (List.forall_mem_cons.mpr ⟨rfl, (List.forall_mem_cons.mpr ⟨rfl, (List.forall_mem_cons.mpr ⟨rfl, fun _ h => absurd h List.not_mem_nil⟩)⟩)⟩)⟩) (hk23 v2 (v3 + 1) (va_up rr r s35) _ hE hF)
def F_X7_takeFrom (r : Nat) (r2 : Nat) (rr : (Nat → Ras)) : Out (Nat → Ras) Unit := fon (F_X7_count ((va_up (va_up rr r ((x_w (rr r2)), (x_g (rr r)), (x_p (rr r)))) r ((x_w ((va_up rr r ((x_w (rr r2)), (x_g (rr r)), (x_p (rr r)))) r)), (x_g ((va_up rr r ((x_w (rr r2)), (x_g (rr r)), (x_p (rr r)))) r2)), (x_p ((va_up rr r ((x_w (rr r2)), (x_g (rr r)), (x_p (rr r)))) r)))) r)) (fun z17 s17 => lp (fun _ _ _ => fno) (F_X7_takeFrom_23 r r2) FU z17 (0 : Int32) (va_up (va_up rr r ((x_w (rr r2)), (x_g (rr r)), (x_p (rr r)))) r ((x_w ((va_up rr r ((x_w (rr r2)), (x_g (rr r)), (x_p (rr r)))) r)), (x_g ((va_up rr r ((x_w (rr r2)), (x_g (rr r)), (x_p (rr r)))) r2)), (x_p ((va_up rr r ((x_w (rr r2)), (x_g (rr r)), (x_p (rr r)))) r))))) (fun _ _ => fno)
set_option maxHeartbeats 1000000 in
set_option maxRecDepth 100000 in
theorem kF_X7_takeFrom (m0 : Mnt) (sh : Nat → Nat) (rr : Nat → Ras) (ww : Nat → Row) (so : Nat) (sc : Src) (pl : Pal) (qo : Qoi) (pn : Pnm) (bm : Bmp) (tg : Tga) (px : Pcx) (fa : A) (hb : aH) (r : Nat) (r2 : Nat) (n : Nat) (hr : isR r) (hr2 : isR r2)  (hF : F_X7_takeFrom r r2 rr ≠ fno) : AM mX7_takeFrom 2 [.ref r, .ref r2] (HC m0 sh rr ww so sc pl qo pn bm tg px fa hb) n 0 0 0 0 (P_X7_takeFrom m0 sh ww so sc pl qo pn bm tg px fa hb r r2 n (F_X7_takeFrom r r2 rr)) (fun _ _ _ => False) := by
  generalize hE : F_X7_takeFrom r r2 rr = res at hF ⊢
  refine aw_of (by decide +kernel) rfl (Nat.le_of_ble_eq_true rfl) ?_
  unfold F_X7_takeFrom at hE
  refine aw_aload_n dX7_takeFrom_0 rfl ?_
  refine aw_aload_n dX7_takeFrom_1 rfl ?_
  refine aw_getf (v := .int (x_w (rr r2))) dX7_takeFrom_2 flX7_15_6 (at_rasT hr2) rfl ?_
  refine aw_putf dX7_takeFrom_5 ptX7_15_6 (at_rasT hr) (Nat.le_of_ble_eq_true rfl) ⟨rfl, rfl⟩ ?_
  refine aw_eqh (h2 := HC m0 sh (va_up rr r ((x_w (rr r2)), (x_g (rr r)), (x_p (rr r)))) ww so sc pl qo pn bm tg px fa hb) (up_rasT hr) ?_
  refine aw_aload_n dX7_takeFrom_8 rfl ?_
  refine aw_aload_n dX7_takeFrom_9 rfl ?_
  refine aw_getf (v := .int (x_g ((va_up rr r ((x_w (rr r2)), (x_g (rr r)), (x_p (rr r)))) r2))) dX7_takeFrom_10 flX7_19_6 (at_rasT hr2) rfl ?_
  refine aw_putf dX7_takeFrom_13 ptX7_19_6 (at_rasT hr) (Nat.le_of_ble_eq_true rfl) ⟨rfl, rfl⟩ ?_
  refine aw_eqh (h2 := HC m0 sh (va_up (va_up rr r ((x_w (rr r2)), (x_g (rr r)), (x_p (rr r)))) r ((x_w ((va_up rr r ((x_w (rr r2)), (x_g (rr r)), (x_p (rr r)))) r)), (x_g ((va_up rr r ((x_w (rr r2)), (x_g (rr r)), (x_p (rr r)))) r2)), (x_p ((va_up rr r ((x_w (rr r2)), (x_g (rr r)), (x_p (rr r)))) r)))) ww so sc pl qo pn bm tg px fa hb) (up_rasT hr) ?_
  refine aw_aload_n dX7_takeFrom_16 rfl ?_
  refine aw_eqh (h2 := HC m0 sh (va_up (va_up (va_up rr r ((x_w (rr r2)), (x_g (rr r)), (x_p (rr r)))) r ((x_w ((va_up rr r ((x_w (rr r2)), (x_g (rr r)), (x_p (rr r)))) r)), (x_g ((va_up rr r ((x_w (rr r2)), (x_g (rr r)), (x_p (rr r)))) r2)), (x_p ((va_up rr r ((x_w (rr r2)), (x_g (rr r)), (x_p (rr r)))) r)))) r ((va_up (va_up rr r ((x_w (rr r2)), (x_g (rr r)), (x_p (rr r)))) r ((x_w ((va_up rr r ((x_w (rr r2)), (x_g (rr r)), (x_p (rr r)))) r)), (x_g ((va_up rr r ((x_w (rr r2)), (x_g (rr r)), (x_p (rr r)))) r2)), (x_p ((va_up rr r ((x_w (rr r2)), (x_g (rr r)), (x_p (rr r)))) r)))) r)) ww so sc pl qo pn bm tg px fa hb) (by rw [vus (va_up (va_up rr r ((x_w (rr r2)), (x_g (rr r)), (x_p (rr r)))) r ((x_w ((va_up rr r ((x_w (rr r2)), (x_g (rr r)), (x_p (rr r)))) r)), (x_g ((va_up rr r ((x_w (rr r2)), (x_g (rr r)), (x_p (rr r)))) r2)), (x_p ((va_up rr r ((x_w (rr r2)), (x_g (rr r)), (x_p (rr r)))) r)))) r]) ?_
  refine aw_callV dX7_takeFrom_17 (at_ras hr) cvX7_22 rfl (kF_X7_count m0 sh (va_up (va_up rr r ((x_w (rr r2)), (x_g (rr r)), (x_p (rr r)))) r ((x_w ((va_up rr r ((x_w (rr r2)), (x_g (rr r)), (x_p (rr r)))) r)), (x_g ((va_up rr r ((x_w (rr r2)), (x_g (rr r)), (x_p (rr r)))) r2)), (x_p ((va_up rr r ((x_w (rr r2)), (x_g (rr r)), (x_p (rr r)))) r)))) r ((va_up (va_up rr r ((x_w (rr r2)), (x_g (rr r)), (x_p (rr r)))) r ((x_w ((va_up rr r ((x_w (rr r2)), (x_g (rr r)), (x_p (rr r)))) r)), (x_g ((va_up rr r ((x_w (rr r2)), (x_g (rr r)), (x_p (rr r)))) r2)), (x_p ((va_up rr r ((x_w (rr r2)), (x_g (rr r)), (x_p (rr r)))) r)))) r) ww so sc pl qo pn bm tg px fa hb _ hr  (fon_ne hE hF)) rfl (Nat.le_of_ble_eq_true rfl) (by decide) (by decide) (by decide) (by decide) (fun _ _ _ hf => False.elim hf) (fun r17 h17 n17 hp17 => ?_)
  obtain ⟨z17, s17, e17, rfl, rfl, rfl⟩ := hp17
  replace hE := fon_ok e17 hE
  refine aw_eqh (h2 := HC m0 sh (va_up (va_up rr r ((x_w (rr r2)), (x_g (rr r)), (x_p (rr r)))) r ((x_w ((va_up rr r ((x_w (rr r2)), (x_g (rr r)), (x_p (rr r)))) r)), (x_g ((va_up rr r ((x_w (rr r2)), (x_g (rr r)), (x_p (rr r)))) r2)), (x_p ((va_up rr r ((x_w (rr r2)), (x_g (rr r)), (x_p (rr r)))) r)))) ww so sc pl qo pn bm tg px fa hb) (by rw [vus (va_up (va_up rr r ((x_w (rr r2)), (x_g (rr r)), (x_p (rr r)))) r ((x_w ((va_up rr r ((x_w (rr r2)), (x_g (rr r)), (x_p (rr r)))) r)), (x_g ((va_up rr r ((x_w (rr r2)), (x_g (rr r)), (x_p (rr r)))) r2)), (x_p ((va_up rr r ((x_w (rr r2)), (x_g (rr r)), (x_p (rr r)))) r)))) r]) ?_
  refine aw_istore_n (lv2 := [(2, _), (0, _), (1, _)]) dX7_takeFrom_20 (by decide) rfl ?_
  refine aw_iconst (v := 0) dX7_takeFrom_21 (by decide) ?_
  refine aw_istore_n (lv2 := [(3, _), (2, _), (0, _), (1, _)]) dX7_takeFrom_22 (by decide) rfl ?_
  exact aw_lv _ (List.forall_mem_cons.mpr ⟨rfl, (List.forall_mem_cons.mpr ⟨rfl, (List.forall_mem_cons.mpr ⟨rfl, (List.forall_mem_cons.mpr ⟨rfl, fun _ h => absurd h List.not_mem_nil⟩)⟩)⟩)⟩) (lp_ind (Q_X7_takeFrom_23 m0 sh ww so sc pl qo pn bm tg px fa hb r r2 n) (fun _ _ _ res hq hF => (hF hq.symm).elim) (fun k hk => b_X7_takeFrom_23 m0 sh ww so sc pl qo pn bm tg px fa hb r r2 n hr hr2  k hk) FU z17 (0 : Int32) (va_up (va_up rr r ((x_w (rr r2)), (x_g (rr r)), (x_p (rr r)))) r ((x_w ((va_up rr r ((x_w (rr r2)), (x_g (rr r)), (x_p (rr r)))) r)), (x_g ((va_up rr r ((x_w (rr r2)), (x_g (rr r)), (x_p (rr r)))) r2)), (x_p ((va_up rr r ((x_w (rr r2)), (x_g (rr r)), (x_p (rr r)))) r)))) _ hE hF)
def P_X1_takeFrom (m0 : Mnt) (sh : Nat → Nat) (rr : Nat → Ras) (so : Nat) (sc : Src) (pl : Pal) (qo : Qoi) (pn : Pnm) (bm : Bmp) (tg : Tga) (px : Pcx) (fa : A) (hb : aH) (o : Nat) (o2 : Nat) (n : Nat) (res : Out (Nat → Row) Unit) : Option Value → aH → Nat → Prop := fun r1 h2 n2 => ∃ (a : Unit) (s : (Nat → Row)), res = fok a s ∧ r1 = none ∧ h2 = HC m0 sh rr s so sc pl qo pn bm tg px fa hb ∧ n = n2
def F_X1_takeFrom (o : Nat) (o2 : Nat) (ww : (Nat → Row)) : Out (Nat → Row) Unit := if cpOK (y_n ((va_up ww o ((y_n (ww o2)), (y_b (ww o)))) o)) (y_b ((va_up ww o ((y_n (ww o2)), (y_b (ww o)))) o2)) then (fok () (va_up (va_up ww o ((y_n (ww o2)), (y_b (ww o)))) o ((y_n ((va_up ww o ((y_n (ww o2)), (y_b (ww o)))) o)), (va_cpy (y_b ((va_up ww o ((y_n (ww o2)), (y_b (ww o)))) o2)) (y_b ((va_up ww o ((y_n (ww o2)), (y_b (ww o)))) o)) 0 0 (Int32.toNatClampNeg (y_n ((va_up ww o ((y_n (ww o2)), (y_b (ww o)))) o))))))) else fno
set_option maxHeartbeats 1000000 in
set_option maxRecDepth 100000 in
theorem kF_X1_takeFrom (m0 : Mnt) (sh : Nat → Nat) (rr : Nat → Ras) (ww : Nat → Row) (so : Nat) (sc : Src) (pl : Pal) (qo : Qoi) (pn : Pnm) (bm : Bmp) (tg : Tga) (px : Pcx) (fa : A) (hb : aH) (o : Nat) (o2 : Nat) (n : Nat) (ho : isW o) (ho2 : isW o2)  (hF : F_X1_takeFrom o o2 ww ≠ fno) : AM mX1_takeFrom 2 [.ref o, .ref o2] (HC m0 sh rr ww so sc pl qo pn bm tg px fa hb) n 0 0 0 0 (P_X1_takeFrom m0 sh rr so sc pl qo pn bm tg px fa hb o o2 n (F_X1_takeFrom o o2 ww)) (fun _ _ _ => False) := by
  generalize hE : F_X1_takeFrom o o2 ww = res at hF ⊢
  refine aw_of (by decide +kernel) rfl (Nat.le_of_ble_eq_true rfl) ?_
  unfold F_X1_takeFrom at hE
  refine aw_aload_n dX1_takeFrom_0 rfl ?_
  refine aw_aload_n dX1_takeFrom_1 rfl ?_
  refine aw_getf (v := .int (y_n (ww o2))) dX1_takeFrom_2 flX1_16_1 (at_rowT ho2) rfl ?_
  refine aw_putf dX1_takeFrom_5 ptX1_16_1 (at_rowT ho) (Nat.le_of_ble_eq_true rfl) ⟨rfl, rfl⟩ ?_
  refine aw_eqh (h2 := HC m0 sh rr (va_up ww o ((y_n (ww o2)), (y_b (ww o)))) so sc pl qo pn bm tg px fa hb) (up_rowT ho) ?_
  refine aw_aload_n dX1_takeFrom_8 rfl ?_
  refine aw_getf (v := .ref (o2 + 1)) dX1_takeFrom_9 flX1_10_1 (at_rowT ho2) rfl ?_
  refine aw_iconst (v := 0) dX1_takeFrom_12 (by decide) ?_
  refine aw_aload_n dX1_takeFrom_13 rfl ?_
  refine aw_getf (v := .ref (o + 1)) dX1_takeFrom_14 flX1_10_1 (at_rowT ho) rfl ?_
  refine aw_iconst (v := 0) dX1_takeFrom_17 (by decide) ?_
  refine aw_aload_n dX1_takeFrom_18 rfl ?_
  refine aw_getf (v := .int (y_n ((va_up ww o ((y_n (ww o2)), (y_b (ww o)))) o))) dX1_takeFrom_19 flX1_16_1 (at_rowT ho) rfl ?_
  obtain ⟨g22, hE⟩ := fgd hE hF
  refine aw_copy0 dX1_takeFrom_22 cpX1 (at_cellsT ho2) (at_cellsT ho) g22 (by decide) (Nat.le_of_ble_eq_true rfl) ?_
  refine aw_eqh (h2 := HC m0 sh rr (va_up (va_up ww o ((y_n (ww o2)), (y_b (ww o)))) o ((y_n ((va_up ww o ((y_n (ww o2)), (y_b (ww o)))) o)), (va_cpy (y_b ((va_up ww o ((y_n (ww o2)), (y_b (ww o)))) o2)) (y_b ((va_up ww o ((y_n (ww o2)), (y_b (ww o)))) o)) 0 0 (Int32.toNatClampNeg (y_n ((va_up ww o ((y_n (ww o2)), (y_b (ww o)))) o)))))) so sc pl qo pn bm tg px fa hb) (up_cellsT ho) ?_
  exact aw_vret dX1_takeFrom_25 rfl (Nat.zero_le _) (Nat.zero_le _) (Nat.zero_le _) (Nat.zero_le _) ⟨_, _, hE.symm, rfl, rfl, rfl⟩
def P_X8_open (m0 : Mnt) (sh : Nat → Nat) (rr : Nat → Ras) (ww : Nat → Row) (pl : Pal) (qo : Qoi) (pn : Pnm) (bm : Bmp) (tg : Tga) (px : Pcx) (fa : A) (hb : aH) (o : Nat) (n : Nat) (res : Out (Nat × Src) Unit) : Option Value → aH → Nat → Prop := fun r1 h2 n2 => ∃ (a : Unit) (s : (Nat × Src)), res = fok a s ∧ r1 = none ∧ h2 = HC m0 sh rr ww s.1 s.2 pl qo pn bm tg px fa hb ∧ n = n2
def F_X8_open (o : Nat) (ww : (Nat → Row)) (so : Nat) (sc : Src) : Out (Nat × Src) Unit := fok () (o, ((y_n (ww o)), 0, 0, (-1)))
set_option maxHeartbeats 1000000 in
set_option maxRecDepth 100000 in
theorem kF_X8_open (m0 : Mnt) (sh : Nat → Nat) (rr : Nat → Ras) (ww : Nat → Row) (so : Nat) (sc : Src) (pl : Pal) (qo : Qoi) (pn : Pnm) (bm : Bmp) (tg : Tga) (px : Pcx) (fa : A) (hb : aH) (o : Nat) (n : Nat) (ho : isW o)  (hF : F_X8_open o ww so sc ≠ fno) : AM mX8_open 1 [.ref 16, .ref o] (HC m0 sh rr ww so sc pl qo pn bm tg px fa hb) n 0 0 0 0 (P_X8_open m0 sh rr ww pl qo pn bm tg px fa hb o n (F_X8_open o ww so sc)) (fun _ _ _ => False) := by
  generalize hE : F_X8_open o ww so sc = res at hF ⊢
  refine aw_of (by decide +kernel) rfl (Nat.le_of_ble_eq_true rfl) ?_
  unfold F_X8_open at hE
  refine aw_aload_n dX8_open_0 rfl ?_
  refine aw_aload_n dX8_open_1 rfl ?_
  refine aw_getf (v := .ref (o + 1)) dX8_open_2 flX8_9_1 (at_rowT ho) rfl ?_
  refine aw_putf dX8_open_5 ptX8_15_7 at_src (Nat.le_of_ble_eq_true rfl) (fun _ => ⟨rfl, rfl⟩) ?_
  refine aw_eqh (h2 := HC m0 sh rr ww o sc pl qo pn bm tg px fa hb) up_srcR ?_
  refine aw_aload_n dX8_open_8 rfl ?_
  refine aw_aload_n dX8_open_9 rfl ?_
  refine aw_getf (v := .int (y_n (ww o))) dX8_open_10 flX8_18_1 (at_rowT ho) rfl ?_
  refine aw_putf dX8_open_13 ptX8_22_7 at_src (Nat.le_of_ble_eq_true rfl) ⟨rfl, rfl⟩ ?_
  refine aw_eqh (h2 := HC m0 sh rr ww o ((y_n (ww o)), (sc_pos sc), (sc_ft sc), (sc_fp sc)) pl qo pn bm tg px fa hb) up_src ?_
  refine aw_aload_n dX8_open_16 rfl ?_
  refine aw_iconst (v := 0) dX8_open_17 (by decide) ?_
  refine aw_putf dX8_open_18 ptX8_25_7 at_src (Nat.le_of_ble_eq_true rfl) ⟨rfl, rfl⟩ ?_
  refine aw_eqh (h2 := HC m0 sh rr ww o ((y_n (ww o)), 0, (sc_ft sc), (sc_fp sc)) pl qo pn bm tg px fa hb) up_src ?_
  refine aw_aload_n dX8_open_21 rfl ?_
  refine aw_iconst (v := 0) dX8_open_22 (by decide) ?_
  refine aw_putf dX8_open_23 ptX8_28_7 at_src (Nat.le_of_ble_eq_true rfl) ⟨rfl, rfl⟩ ?_
  refine aw_eqh (h2 := HC m0 sh rr ww o ((y_n (ww o)), 0, 0, (sc_fp sc)) pl qo pn bm tg px fa hb) up_src ?_
  refine aw_aload_n dX8_open_26 rfl ?_
  refine aw_iconst (v := (-1)) dX8_open_27 (by decide) ?_
  refine aw_putf dX8_open_28 ptX8_31_7 at_src (Nat.le_of_ble_eq_true rfl) ⟨rfl, rfl⟩ ?_
  refine aw_eqh (h2 := HC m0 sh rr ww o ((y_n (ww o)), 0, 0, (-1)) pl qo pn bm tg px fa hb) up_src ?_
  exact aw_vret dX8_open_31 rfl (Nat.zero_le _) (Nat.zero_le _) (Nat.zero_le _) (Nat.zero_le _) ⟨_, _, hE.symm, rfl, rfl, rfl⟩
def P_X10_feed (m0 : Mnt) (sh : Nat → Nat) (rr : Nat → Ras) (so : Nat) (sc : Src) (pl : Pal) (qo : Qoi) (pn : Pnm) (bm : Bmp) (tg : Tga) (px : Pcx) (fa : A) (hb : aH) (n : Nat) (res : Out (Nat → Row) Int32) : Option Value → aH → Nat → Prop := fun r1 h2 n2 => ∃ (a : Int32) (s : (Nat → Row)), res = fok a s ∧ r1 = some (.int a) ∧ h2 = HC m0 sh rr s so sc pl qo pn bm tg px fa hb ∧ n = n2
def F_X10_feed (a1 : Int32) (a2 : Int32) (a3 : Int32) (a4 : Int32) (a5 : Int32) (ww : (Nat → Row)) : Out (Nat → Row) Int32 := if (y_n (ww 12)) ≤ 65516 then (fon (F_X1_addHigh4 a1 (ww 12)) (fun z19 s19 => fon (F_X1_addHigh4 a2 ((va_up ww 12 s19) 12)) (fun z27 s27 => fon (F_X1_addHigh4 a3 ((va_up (va_up ww 12 s19) 12 s27) 12)) (fun z35 s35 => fon (F_X1_addHigh4 a4 ((va_up (va_up (va_up ww 12 s19) 12 s27) 12 s35) 12)) (fun z44 s44 => fon (F_X1_addHigh4 a5 ((va_up (va_up (va_up (va_up ww 12 s19) 12 s27) 12 s35) 12 s44) 12)) (fun z53 s53 => fok ((y_n ((va_up (va_up (va_up (va_up (va_up ww 12 s19) 12 s27) 12 s35) 12 s44) 12 s53) 12)) : Int32) (va_up (va_up (va_up (va_up (va_up ww 12 s19) 12 s27) 12 s35) 12 s44) 12 s53)) (fun _ _ => fno)) (fun _ _ => fno)) (fun _ _ => fno)) (fun _ _ => fno)) (fun _ _ => fno)) else (fok ((-1) : Int32) ww)
set_option maxHeartbeats 1000000 in
set_option maxRecDepth 100000 in
theorem kF_X10_feed (m0 : Mnt) (sh : Nat → Nat) (rr : Nat → Ras) (ww : Nat → Row) (so : Nat) (sc : Src) (pl : Pal) (qo : Qoi) (pn : Pnm) (bm : Bmp) (tg : Tga) (px : Pcx) (fa : A) (hb : aH) (n : Nat)  (a1 : Int32) (a2 : Int32) (a3 : Int32) (a4 : Int32) (a5 : Int32) (hF : F_X10_feed a1 a2 a3 a4 a5 ww ≠ fno) : AM mX10_feed 3 [.ref 0, .int a1, .int a2, .int a3, .int a4, .int a5] (HC m0 sh rr ww so sc pl qo pn bm tg px fa hb) n 0 0 0 0 (P_X10_feed m0 sh rr so sc pl qo pn bm tg px fa hb n (F_X10_feed a1 a2 a3 a4 a5 ww)) (fun _ _ _ => False) := by
  generalize hE : F_X10_feed a1 a2 a3 a4 a5 ww = res at hF ⊢
  refine aw_of (by decide +kernel) rfl (Nat.le_of_ble_eq_true rfl) ?_
  unfold F_X10_feed at hE
  refine aw_aload_n dX10_feed_0 rfl ?_
  refine aw_getf (v := .ref 12) dX10_feed_1 flX10_23_9 at_mint rfl ?_
  refine aw_getf (v := .int (y_n (ww 12))) dX10_feed_4 flX10_83_1 (at_rowT (by decide)) rfl ?_
  refine aw_ldc dX10_feed_7 kcX10_86 ?_
  refine aw_icmp_le (tgt := 14) dX10_feed_9 (by decide) (fun c9 => ?_) (fun c9 => ?_)
  · replace hE := fit hE c9
    refine aw_aload_n dX10_feed_14 rfl ?_
    refine aw_getf (v := .ref 12) dX10_feed_15 flX10_23_9 at_mint rfl ?_
    refine aw_iload_n dX10_feed_18 rfl ?_
    refine aw_eqh (h2 := HC m0 sh rr (va_up ww 12 (ww 12)) so sc pl qo pn bm tg px fa hb) (by rw [vus ww 12]) ?_
    refine aw_callV dX10_feed_19 (at_row (by decide)) cvX10_87 rfl (kF_X1_addHigh4 m0 sh rr ww 12 (ww 12) so sc pl qo pn bm tg px fa hb _ (by decide) a1 (fon_ne hE hF)) rfl (Nat.le_of_ble_eq_true rfl) (by decide) (by decide) (by decide) (by decide) (fun _ _ _ hf => False.elim hf) (fun r19 h19 n19 hp19 => ?_)
    obtain ⟨z19, s19, e19, rfl, rfl, rfl⟩ := hp19
    replace hE := fon_ok e19 hE
    refine aw_aload_n dX10_feed_22 rfl ?_
    refine aw_getf (v := .ref 12) dX10_feed_23 flX10_23_9 at_mint rfl ?_
    refine aw_iload_n dX10_feed_26 rfl ?_
    refine aw_eqh (h2 := HC m0 sh rr (va_up (va_up ww 12 s19) 12 ((va_up ww 12 s19) 12)) so sc pl qo pn bm tg px fa hb) (by rw [vus (va_up ww 12 s19) 12]) ?_
    refine aw_callV dX10_feed_27 (at_row (by decide)) cvX10_87 rfl (kF_X1_addHigh4 m0 sh rr (va_up ww 12 s19) 12 ((va_up ww 12 s19) 12) so sc pl qo pn bm tg px fa hb _ (by decide) a2 (fon_ne hE hF)) rfl (Nat.le_of_ble_eq_true rfl) (by decide) (by decide) (by decide) (by decide) (fun _ _ _ hf => False.elim hf) (fun r27 h27 n27 hp27 => ?_)
    obtain ⟨z27, s27, e27, rfl, rfl, rfl⟩ := hp27
    replace hE := fon_ok e27 hE
    refine aw_aload_n dX10_feed_30 rfl ?_
    refine aw_getf (v := .ref 12) dX10_feed_31 flX10_23_9 at_mint rfl ?_
    refine aw_iload_n dX10_feed_34 rfl ?_
    refine aw_eqh (h2 := HC m0 sh rr (va_up (va_up (va_up ww 12 s19) 12 s27) 12 ((va_up (va_up ww 12 s19) 12 s27) 12)) so sc pl qo pn bm tg px fa hb) (by rw [vus (va_up (va_up ww 12 s19) 12 s27) 12]) ?_
    refine aw_callV dX10_feed_35 (at_row (by decide)) cvX10_87 rfl (kF_X1_addHigh4 m0 sh rr (va_up (va_up ww 12 s19) 12 s27) 12 ((va_up (va_up ww 12 s19) 12 s27) 12) so sc pl qo pn bm tg px fa hb _ (by decide) a3 (fon_ne hE hF)) rfl (Nat.le_of_ble_eq_true rfl) (by decide) (by decide) (by decide) (by decide) (fun _ _ _ hf => False.elim hf) (fun r35 h35 n35 hp35 => ?_)
    obtain ⟨z35, s35, e35, rfl, rfl, rfl⟩ := hp35
    replace hE := fon_ok e35 hE
    refine aw_aload_n dX10_feed_38 rfl ?_
    refine aw_getf (v := .ref 12) dX10_feed_39 flX10_23_9 at_mint rfl ?_
    refine aw_iload dX10_feed_42 rfl ?_
    refine aw_eqh (h2 := HC m0 sh rr (va_up (va_up (va_up (va_up ww 12 s19) 12 s27) 12 s35) 12 ((va_up (va_up (va_up ww 12 s19) 12 s27) 12 s35) 12)) so sc pl qo pn bm tg px fa hb) (by rw [vus (va_up (va_up (va_up ww 12 s19) 12 s27) 12 s35) 12]) ?_
    refine aw_callV dX10_feed_44 (at_row (by decide)) cvX10_87 rfl (kF_X1_addHigh4 m0 sh rr (va_up (va_up (va_up ww 12 s19) 12 s27) 12 s35) 12 ((va_up (va_up (va_up ww 12 s19) 12 s27) 12 s35) 12) so sc pl qo pn bm tg px fa hb _ (by decide) a4 (fon_ne hE hF)) rfl (Nat.le_of_ble_eq_true rfl) (by decide) (by decide) (by decide) (by decide) (fun _ _ _ hf => False.elim hf) (fun r44 h44 n44 hp44 => ?_)
    obtain ⟨z44, s44, e44, rfl, rfl, rfl⟩ := hp44
    replace hE := fon_ok e44 hE
    refine aw_aload_n dX10_feed_47 rfl ?_
    refine aw_getf (v := .ref 12) dX10_feed_48 flX10_23_9 at_mint rfl ?_
    refine aw_iload dX10_feed_51 rfl ?_
    refine aw_eqh (h2 := HC m0 sh rr (va_up (va_up (va_up (va_up (va_up ww 12 s19) 12 s27) 12 s35) 12 s44) 12 ((va_up (va_up (va_up (va_up ww 12 s19) 12 s27) 12 s35) 12 s44) 12)) so sc pl qo pn bm tg px fa hb) (by rw [vus (va_up (va_up (va_up (va_up ww 12 s19) 12 s27) 12 s35) 12 s44) 12]) ?_
    refine aw_callV dX10_feed_53 (at_row (by decide)) cvX10_87 rfl (kF_X1_addHigh4 m0 sh rr (va_up (va_up (va_up (va_up ww 12 s19) 12 s27) 12 s35) 12 s44) 12 ((va_up (va_up (va_up (va_up ww 12 s19) 12 s27) 12 s35) 12 s44) 12) so sc pl qo pn bm tg px fa hb _ (by decide) a5 (fon_ne hE hF)) rfl (Nat.le_of_ble_eq_true rfl) (by decide) (by decide) (by decide) (by decide) (fun _ _ _ hf => False.elim hf) (fun r53 h53 n53 hp53 => ?_)
    obtain ⟨z53, s53, e53, rfl, rfl, rfl⟩ := hp53
    replace hE := fon_ok e53 hE
    refine aw_aload_n dX10_feed_56 rfl ?_
    refine aw_getf (v := .ref 12) dX10_feed_57 flX10_23_9 at_mint rfl ?_
    refine aw_getf (v := .int (y_n ((va_up (va_up (va_up (va_up (va_up ww 12 s19) 12 s27) 12 s35) 12 s44) 12 s53) 12))) dX10_feed_60 flX10_83_1 (at_rowT (by decide)) rfl ?_
    exact aw_iret dX10_feed_63 rfl (Nat.zero_le _) (Nat.zero_le _) (Nat.zero_le _) (Nat.zero_le _) ⟨_, _, hE.symm, rfl, rfl, rfl⟩
  · replace hE := fif hE c9
    refine aw_iconst (v := (-1)) dX10_feed_12 (by decide) ?_
    exact aw_iret dX10_feed_13 rfl (Nat.zero_le _) (Nat.zero_le _) (Nat.zero_le _) (Nat.zero_le _) ⟨_, _, hE.symm, rfl, rfl, rfl⟩
def P_X10_end (m0 : Mnt) (sh : Nat → Nat) (rr : Nat → Ras) (so : Nat) (sc : Src) (pl : Pal) (qo : Qoi) (pn : Pnm) (bm : Bmp) (tg : Tga) (px : Pcx) (fa : A) (hb : aH) (n : Nat) (res : Out (Nat → Row) Int32) : Option Value → aH → Nat → Prop := fun r1 h2 n2 => ∃ (a : Int32) (s : (Nat → Row)), res = fok a s ∧ r1 = some (.int a) ∧ h2 = HC m0 sh rr s so sc pl qo pn bm tg px fa hb ∧ n = n2
abbrev Q_X10_end_15 (m0 : Mnt) (sh : Nat → Nat) (rr : Nat → Ras) (so : Nat) (sc : Src) (pl : Pal) (qo : Qoi) (pn : Pnm) (bm : Bmp) (tg : Tga) (px : Pcx) (fa : A) (hb : aH) (n : Nat) (k : (Nat → Row) → Out (Nat → Row) Int32) : Prop := ∀ (ww : (Nat → Row)) (res : Out (Nat → Row) Int32), k ww = res → res ≠ fno → AW (fun _ _ => True) mX10_end (rmD 1 0 0) 0 0 (P_X10_end m0 sh rr so sc pl qo pn bm tg px fa hb n res) (fun _ _ _ => False) 0 0 15 [] [] (HC m0 sh rr ww so sc pl qo pn bm tg px fa hb) n
def F_X10_end_15   (ww : (Nat → Row)) : Out (Nat → Row) Int32 := fok (0 : Int32) ww
set_option maxHeartbeats 1000000 in
set_option maxRecDepth 100000 in
theorem b_X10_end_15 (m0 : Mnt) (sh : Nat → Nat) (rr : Nat → Ras) (so : Nat) (sc : Src) (pl : Pal) (qo : Qoi) (pn : Pnm) (bm : Bmp) (tg : Tga) (px : Pcx) (fa : A) (hb : aH) (n : Nat)   : Q_X10_end_15 m0 sh rr so sc pl qo pn bm tg px fa hb n (F_X10_end_15 ) := by
  intro ww res hE hF
  unfold F_X10_end_15 at hE
  refine aw_iconst (v := 0) dX10_end_15 (by decide) ?_
  exact aw_zret dX10_end_16 rfl (narB (by decide)) (Nat.zero_le _) (Nat.zero_le _) (Nat.zero_le _) (Nat.zero_le _) ⟨_, _, hE.symm, rfl, rfl, rfl⟩
def F_X10_end (a1 : Int32) (ww : (Nat → Row)) : Out (Nat → Row) Int32 := if a1 < 0 then (F_X10_end_15  ww) else (if a1 ≤ (y_n (ww 12)) then (fok (1 : Int32) (va_up ww 12 (a1, (y_b (ww 12))))) else (F_X10_end_15  ww))
set_option maxHeartbeats 1000000 in
set_option maxRecDepth 100000 in
theorem kF_X10_end (m0 : Mnt) (sh : Nat → Nat) (rr : Nat → Ras) (ww : Nat → Row) (so : Nat) (sc : Src) (pl : Pal) (qo : Qoi) (pn : Pnm) (bm : Bmp) (tg : Tga) (px : Pcx) (fa : A) (hb : aH) (n : Nat)  (a1 : Int32) (hF : F_X10_end a1 ww ≠ fno) : AM mX10_end 1 [.ref 0, .int a1] (HC m0 sh rr ww so sc pl qo pn bm tg px fa hb) n 0 0 0 0 (P_X10_end m0 sh rr so sc pl qo pn bm tg px fa hb n (F_X10_end a1 ww)) (fun _ _ _ => False) := by
  generalize hE : F_X10_end a1 ww = res at hF ⊢
  refine aw_of (by decide +kernel) rfl (Nat.le_of_ble_eq_true rfl) ?_
  unfold F_X10_end at hE
  refine aw_iload_n dX10_end_0 rfl ?_
  refine aw_if_lt (tgt := 15) dX10_end_1 (by decide) (fun c1 => ?_) (fun c1 => ?_)
  · replace hE := fit hE c1
    exact aw_lv _ (fun _ h => absurd h List.not_mem_nil) (b_X10_end_15 m0 sh rr so sc pl qo pn bm tg px fa hb n   ww _ hE hF)
  · replace hE := fif hE c1
    refine aw_iload_n dX10_end_4 rfl ?_
    refine aw_aload_n dX10_end_5 rfl ?_
    refine aw_getf (v := .ref 12) dX10_end_6 flX10_23_9 at_mint rfl ?_
    refine aw_getf (v := .int (y_n (ww 12))) dX10_end_9 flX10_83_1 (at_rowT (by decide)) rfl ?_
    refine aw_icmp_le (tgt := 17) dX10_end_12 (by decide) (fun c12 => ?_) (fun c12 => ?_)
    · replace hE := fit hE c12
      refine aw_aload_n dX10_end_17 rfl ?_
      refine aw_getf (v := .ref 12) dX10_end_18 flX10_23_9 at_mint rfl ?_
      refine aw_iload_n dX10_end_21 rfl ?_
      refine aw_putf dX10_end_22 ptX10_83_1 (at_rowT (by decide)) (Nat.le_of_ble_eq_true rfl) ⟨rfl, rfl⟩ ?_
      refine aw_eqh (h2 := HC m0 sh rr (va_up ww 12 (a1, (y_b (ww 12)))) so sc pl qo pn bm tg px fa hb) (up_rowT (by decide)) ?_
      refine aw_iconst (v := 1) dX10_end_25 (by decide) ?_
      exact aw_zret dX10_end_26 rfl (narB (by decide)) (Nat.zero_le _) (Nat.zero_le _) (Nat.zero_le _) (Nat.zero_le _) ⟨_, _, hE.symm, rfl, rfl, rfl⟩
    · replace hE := fif hE c12
      exact aw_lv _ (fun _ h => absurd h List.not_mem_nil) (b_X10_end_15 m0 sh rr so sc pl qo pn bm tg px fa hb n   ww _ hE hF)
def P_X10_again (m0 : Mnt) (sh : Nat → Nat) (rr : Nat → Ras) (so : Nat) (sc : Src) (pl : Pal) (qo : Qoi) (pn : Pnm) (bm : Bmp) (tg : Tga) (px : Pcx) (fa : A) (hb : aH) (n : Nat) (res : Out (Nat → Row) Int32) : Option Value → aH → Nat → Prop := fun r1 h2 n2 => ∃ (a : Int32) (s : (Nat → Row)), res = fok a s ∧ r1 = some (.int a) ∧ h2 = HC m0 sh rr s so sc pl qo pn bm tg px fa hb ∧ n = n2
def F_X10_again (ww : (Nat → Row)) : Out (Nat → Row) Int32 := if (y_n (ww 14)) = 0 then (fok ((-1) : Int32) ww) else (fon (F_X1_takeFrom 12 14 ww) (fun z20 s20 => fok ((y_n (s20 12)) : Int32) s20) (fun _ _ => fno))
set_option maxHeartbeats 1000000 in
set_option maxRecDepth 100000 in
theorem kF_X10_again (m0 : Mnt) (sh : Nat → Nat) (rr : Nat → Ras) (ww : Nat → Row) (so : Nat) (sc : Src) (pl : Pal) (qo : Qoi) (pn : Pnm) (bm : Bmp) (tg : Tga) (px : Pcx) (fa : A) (hb : aH) (n : Nat)   (hF : F_X10_again ww ≠ fno) : AM mX10_again 3 [.ref 0] (HC m0 sh rr ww so sc pl qo pn bm tg px fa hb) n 0 0 0 0 (P_X10_again m0 sh rr so sc pl qo pn bm tg px fa hb n (F_X10_again ww)) (fun _ _ _ => False) := by
  generalize hE : F_X10_again ww = res at hF ⊢
  refine aw_of (by decide +kernel) rfl (Nat.le_of_ble_eq_true rfl) ?_
  unfold F_X10_again at hE
  refine aw_aload_n dX10_again_0 rfl ?_
  refine aw_getf (v := .ref 14) dX10_again_1 flX10_27_9 at_mint rfl ?_
  refine aw_getf (v := .int (y_n (ww 14))) dX10_again_4 flX10_83_1 (at_rowT (by decide)) rfl ?_
  refine aw_if_ne (tgt := 12) dX10_again_7 (by decide) (fun c7 => ?_) (fun c7 => ?_)
  · replace hE := fif hE c7
    refine aw_aload_n dX10_again_12 rfl ?_
    refine aw_getf (v := .ref 12) dX10_again_13 flX10_23_9 at_mint rfl ?_
    refine aw_aload_n dX10_again_16 rfl ?_
    refine aw_getf (v := .ref 14) dX10_again_17 flX10_27_9 at_mint rfl ?_
    refine aw_callV dX10_again_20 (at_rowT (by decide)) cvX10_91 rfl (kF_X1_takeFrom m0 sh rr ww so sc pl qo pn bm tg px fa hb 12 14 _ (by decide) (by decide)  (fon_ne hE hF)) rfl (Nat.le_of_ble_eq_true rfl) (by decide) (by decide) (by decide) (by decide) (fun _ _ _ hf => False.elim hf) (fun r20 h20 n20 hp20 => ?_)
    obtain ⟨z20, s20, e20, rfl, rfl, rfl⟩ := hp20
    replace hE := fon_ok e20 hE
    refine aw_aload_n dX10_again_23 rfl ?_
    refine aw_getf (v := .ref 12) dX10_again_24 flX10_23_9 at_mint rfl ?_
    refine aw_getf (v := .int (y_n (s20 12))) dX10_again_27 flX10_83_1 (at_rowT (by decide)) rfl ?_
    exact aw_iret dX10_again_30 rfl (Nat.zero_le _) (Nat.zero_le _) (Nat.zero_le _) (Nat.zero_le _) ⟨_, _, hE.symm, rfl, rfl, rfl⟩
  · replace hE := fit hE c7
    refine aw_iconst (v := (-1)) dX10_again_10 (by decide) ?_
    exact aw_iret dX10_again_11 rfl (Nat.zero_le _) (Nat.zero_le _) (Nat.zero_le _) (Nat.zero_le _) ⟨_, _, hE.symm, rfl, rfl, rfl⟩
def P_X10_byteAt (m0 : Mnt) (sh : Nat → Nat) (rr : Nat → Ras) (ww : Nat → Row) (so : Nat) (sc : Src) (pl : Pal) (qo : Qoi) (pn : Pnm) (bm : Bmp) (tg : Tga) (px : Pcx) (fa : A) (hb : aH) (n : Nat) (res : Out Unit Int32) : Option Value → aH → Nat → Prop := fun r1 h2 n2 => ∃ (a : Int32) (s : Unit), res = fok a s ∧ r1 = some (.int a) ∧ h2 = HC m0 sh rr ww so sc pl qo pn bm tg px fa hb ∧ n = n2
def F_X10_byteAt (a1 : Int32) (ww : (Nat → Row)) : Out Unit Int32 := fon (F_X1_at a1 (ww 14)) (fun z5 s5 => fok (z5 : Int32) ()) (fun _ _ => fno)
set_option maxHeartbeats 1000000 in
set_option maxRecDepth 100000 in
theorem kF_X10_byteAt (m0 : Mnt) (sh : Nat → Nat) (rr : Nat → Ras) (ww : Nat → Row) (so : Nat) (sc : Src) (pl : Pal) (qo : Qoi) (pn : Pnm) (bm : Bmp) (tg : Tga) (px : Pcx) (fa : A) (hb : aH) (n : Nat)  (a1 : Int32) (hF : F_X10_byteAt a1 ww ≠ fno) : AM mX10_byteAt 2 [.ref 0, .int a1] (HC m0 sh rr ww so sc pl qo pn bm tg px fa hb) n 0 0 0 0 (P_X10_byteAt m0 sh rr ww so sc pl qo pn bm tg px fa hb n (F_X10_byteAt a1 ww)) (fun _ _ _ => False) := by
  generalize hE : F_X10_byteAt a1 ww = res at hF ⊢
  refine aw_of (by decide +kernel) rfl (Nat.le_of_ble_eq_true rfl) ?_
  unfold F_X10_byteAt at hE
  refine aw_aload_n dX10_byteAt_0 rfl ?_
  refine aw_getf (v := .ref 14) dX10_byteAt_1 flX10_27_9 at_mint rfl ?_
  refine aw_iload_n dX10_byteAt_4 rfl ?_
  refine aw_eqh (h2 := HC m0 sh rr (va_up ww 14 (ww 14)) so sc pl qo pn bm tg px fa hb) (by rw [vus ww 14]) ?_
  refine aw_callV dX10_byteAt_5 (at_row (by decide)) cvX10_126 rfl (kF_X1_at m0 sh rr ww 14 (ww 14) so sc pl qo pn bm tg px fa hb _ (by decide) a1 (fon_ne hE hF)) rfl (Nat.le_of_ble_eq_true rfl) (by decide) (by decide) (by decide) (by decide) (fun _ _ _ hf => False.elim hf) (fun r5 h5 n5 hp5 => ?_)
  obtain ⟨z5, s5, e5, rfl, rfl, rfl⟩ := hp5
  replace hE := fon_ok e5 hE
  refine aw_eqh (h2 := HC m0 sh rr ww so sc pl qo pn bm tg px fa hb) (by rw [vus ww 14]) ?_
  exact aw_iret dX10_byteAt_8 rfl (Nat.zero_le _) (Nat.zero_le _) (Nat.zero_le _) (Nat.zero_le _) ⟨_, _, hE.symm, rfl, rfl, rfl⟩
def P_X10_hasRaster (m0 : Mnt) (sh : Nat → Nat) (rr : Nat → Ras) (ww : Nat → Row) (so : Nat) (sc : Src) (pl : Pal) (qo : Qoi) (pn : Pnm) (bm : Bmp) (tg : Tga) (px : Pcx) (fa : A) (hb : aH) (n : Nat) (res : Out Unit Int32) : Option Value → aH → Nat → Prop := fun r1 h2 n2 => ∃ (a : Int32) (s : Unit), res = fok a s ∧ r1 = some (.int a) ∧ h2 = HC m0 sh rr ww so sc pl qo pn bm tg px fa hb ∧ n = n2
abbrev Q_X10_hasRaster_23 (m0 : Mnt) (sh : Nat → Nat) (rr : Nat → Ras) (ww : Nat → Row) (so : Nat) (sc : Src) (pl : Pal) (qo : Qoi) (pn : Pnm) (bm : Bmp) (tg : Tga) (px : Pcx) (fa : A) (hb : aH) (n : Nat) (k : Out Unit Int32) : Prop := ∀  (res : Out Unit Int32), k  = res → res ≠ fno → AW (fun _ _ => True) mX10_hasRaster (rmD 2 0 0) 0 0 (P_X10_hasRaster m0 sh rr ww so sc pl qo pn bm tg px fa hb n res) (fun _ _ _ => False) 0 0 23 [] [] (HC m0 sh rr ww so sc pl qo pn bm tg px fa hb) n
def F_X10_hasRaster_23 (sh : (Nat → Nat)) (rr : (Nat → Ras))   : Out Unit Int32 := fok (0 : Int32) ()
set_option maxHeartbeats 1000000 in
set_option maxRecDepth 100000 in
theorem b_X10_hasRaster_23 (m0 : Mnt) (sh : Nat → Nat) (rr : Nat → Ras) (ww : Nat → Row) (so : Nat) (sc : Src) (pl : Pal) (qo : Qoi) (pn : Pnm) (bm : Bmp) (tg : Tga) (px : Pcx) (fa : A) (hb : aH) (n : Nat)   : Q_X10_hasRaster_23 m0 sh rr ww so sc pl qo pn bm tg px fa hb n (F_X10_hasRaster_23 sh rr) := by
  intro res hE hF
  unfold F_X10_hasRaster_23 at hE
  refine aw_iconst (v := 0) dX10_hasRaster_23 (by decide) ?_
  exact aw_zret dX10_hasRaster_24 rfl (narB (by decide)) (Nat.zero_le _) (Nat.zero_le _) (Nat.zero_le _) (Nat.zero_le _) ⟨_, _, hE.symm, rfl, rfl, rfl⟩
def F_X10_hasRaster (a1 : Int32) (sh : (Nat → Nat)) (rr : (Nat → Ras)) : Out Unit Int32 := if (F_X10_isShelf a1) = 0 then (F_X10_hasRaster_23 sh rr ) else (if inb a1 4 then (if isR (sh (Int32.toNatClampNeg a1)) then (fon (F_X7_isEmpty (rr (sh (Int32.toNatClampNeg a1)))) (fun z13 s13 => if z13 = 0 then (fok (1 : Int32) ()) else (F_X10_hasRaster_23 sh rr )) (fun _ _ => fno)) else fno) else fno)
set_option maxHeartbeats 1000000 in
set_option maxRecDepth 100000 in
theorem kF_X10_hasRaster (m0 : Mnt) (sh : Nat → Nat) (rr : Nat → Ras) (ww : Nat → Row) (so : Nat) (sc : Src) (pl : Pal) (qo : Qoi) (pn : Pnm) (bm : Bmp) (tg : Tga) (px : Pcx) (fa : A) (hb : aH) (n : Nat)  (a1 : Int32) (hF : F_X10_hasRaster a1 sh rr ≠ fno) : AM mX10_hasRaster 2 [.ref 0, .int a1] (HC m0 sh rr ww so sc pl qo pn bm tg px fa hb) n 0 0 0 0 (P_X10_hasRaster m0 sh rr ww so sc pl qo pn bm tg px fa hb n (F_X10_hasRaster a1 sh rr)) (fun _ _ _ => False) := by
  generalize hE : F_X10_hasRaster a1 sh rr = res at hF ⊢
  refine aw_of (by decide +kernel) rfl (Nat.le_of_ble_eq_true rfl) ?_
  unfold F_X10_hasRaster at hE
  refine aw_iload_n dX10_hasRaster_0 rfl ?_
  refine aw_callS dX10_hasRaster_1  csX10_94 rfl (kF_X10_isShelf _ _ a1) rfl (Nat.le_of_ble_eq_true rfl) (by decide) (by decide) (by decide) (by decide) (fun _ _ _ hf => False.elim hf) (fun r1 h1 n1 hp1 => ?_)
  obtain ⟨rfl, rfl, rfl⟩ := hp1
  refine aw_if_eq (tgt := 23) dX10_hasRaster_4 (by decide) (fun c4 => ?_) (fun c4 => ?_)
  · replace hE := fit hE c4
    exact aw_lv _ (fun _ h => absurd h List.not_mem_nil) (b_X10_hasRaster_23 m0 sh rr ww so sc pl qo pn bm tg px fa hb n    _ hE hF)
  · replace hE := fif hE c4
    refine aw_aload_n dX10_hasRaster_7 rfl ?_
    refine aw_getf (v := .ref 1) dX10_hasRaster_8 flX10_11_9 at_mint rfl ?_
    refine aw_iload_n dX10_hasRaster_11 rfl ?_
    obtain ⟨g12, hE⟩ := fgd hE hF
    obtain ⟨G12, hE⟩ := fgd hE hF
    refine aw_aald (y := (sh (Int32.toNatClampNeg a1))) dX10_hasRaster_12 at_shelves (vp_in_iff.mpr g12) (if_pos (inbN g12)) ?_
    refine aw_eqh (h2 := HC m0 sh (va_up rr (sh (Int32.toNatClampNeg a1)) (rr (sh (Int32.toNatClampNeg a1)))) ww so sc pl qo pn bm tg px fa hb) (by rw [vus rr (sh (Int32.toNatClampNeg a1))]) ?_
    refine aw_callV dX10_hasRaster_13 (at_ras G12) cvX10_190 rfl (kF_X7_isEmpty m0 sh rr (sh (Int32.toNatClampNeg a1)) (rr (sh (Int32.toNatClampNeg a1))) ww so sc pl qo pn bm tg px fa hb _ G12  (fon_ne hE hF)) rfl (Nat.le_of_ble_eq_true rfl) (by decide) (by decide) (by decide) (by decide) (fun _ _ _ hf => False.elim hf) (fun r13 h13 n13 hp13 => ?_)
    obtain ⟨z13, s13, e13, rfl, rfl, rfl⟩ := hp13
    replace hE := fon_ok e13 hE
    refine aw_eqh (h2 := HC m0 sh rr ww so sc pl qo pn bm tg px fa hb) (by rw [vus rr (sh (Int32.toNatClampNeg a1))]) ?_
    refine aw_if_ne (tgt := 23) dX10_hasRaster_16 (by decide) (fun c16 => ?_) (fun c16 => ?_)
    · replace hE := fif hE c16
      exact aw_lv _ (fun _ h => absurd h List.not_mem_nil) (b_X10_hasRaster_23 m0 sh rr ww so sc pl qo pn bm tg px fa hb n    _ hE hF)
    · replace hE := fit hE c16
      refine aw_iconst (v := 1) dX10_hasRaster_19 (by decide) ?_
      refine aw_goto (tgt := 24) dX10_hasRaster_20 (by decide) ?_
      exact aw_zret dX10_hasRaster_24 rfl (narB (by decide)) (Nat.zero_le _) (Nat.zero_le _) (Nat.zero_le _) (Nat.zero_le _) ⟨_, _, hE.symm, rfl, rfl, rfl⟩
