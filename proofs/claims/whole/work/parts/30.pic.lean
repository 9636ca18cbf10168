abbrev A : Type := Nat → Int32
abbrev Out (s a : Type) : Type := Option ((a × s) ⊕ (String × s))
abbrev fok {s a : Type} (x : a) (y : s) : Out s a := some (Sum.inl (x, y))
abbrev fex {s a : Type} (E : String) (y : s) : Out s a := some (Sum.inr (E, y))
abbrev fno {s a : Type} : Out s a := none
def fon {s a t b : Type} (o : Out s a) (k : a → s → Out t b) (x : String → s → Out t b) : Out t b := match o with
  | some (Sum.inl q) => k q.1 q.2
  | some (Sum.inr q) => x q.1 q.2
  | none => none
theorem fon_ok {s a t b : Type} {o : Out s a} {k : a → s → Out t b} {x : String → s → Out t b} {u : a} {v : s} {res : Out t b} (e : o = fok u v) (h : fon o k x = res) : k u v = res := by subst e; exact h
theorem fon_ex {s a t b : Type} {o : Out s a} {k : a → s → Out t b} {x : String → s → Out t b} {E : String} {v : s} {res : Out t b} (e : o = fex E v) (h : fon o k x = res) : x E v = res := by subst e; exact h
theorem fon_ne {s a t b : Type} {o : Out s a} {k : a → s → Out t b} {x : String → s → Out t b} {res : Out t b} (h : fon o k x = res) (hF : res ≠ fno) : o ≠ fno := fun e => by subst e; exact hF h.symm
theorem fgd {s a : Type} {c : Prop} [Decidable c] {u res : Out s a} (h : (if c then u else fno) = res) (hF : res ≠ fno) : c ∧ u = res := by
  by_cases q : c
  · rw [if_pos q] at h; exact ⟨q, h⟩
  · rw [if_neg q] at h; exact (hF h.symm).elim
theorem fit {a : Type} {c : Prop} [Decidable c] {u v res : a} (h : (if c then u else v) = res) (q : c) : u = res := by rw [if_pos q] at h; exact h
theorem fif {a : Type} {c : Prop} [Decidable c] {u v res : a} (h : (if c then u else v) = res) (q : ¬ c) : v = res := by rw [if_neg q] at h; exact h
def lp {T : Type} (z : T) (f : T → T) : Nat → T
  | 0 => z
  | n + 1 => f (lp z f n)
theorem lp_ind {T : Type} {z : T} {f : T → T} (Q : T → Prop) (hz : Q z) (hs : ∀ k, Q k → Q (f k)) : ∀ n, Q (lp z f n)
  | 0 => hz
  | n + 1 => hs _ (lp_ind Q hz hs n)
def FU : Nat := 100000
abbrev inb (i : Int32) (n : Nat) : Prop := 0 ≤ i.toInt ∧ i.toInt < n
abbrev isB (x : Int32) : Prop := x = 0 ∨ x = 1
theorem vokB {x : Int32} (h : isB x) : vok .boolean (.int x) := by rcases h with rfl | rfl <;> exact ⟨by decide, by decide⟩
theorem narB {x : Int32} (h : isB x) : narrow .boolean (.int x) = .int x := by rcases h with rfl | rfl <;> decide
section AWR
variable {X : State → (Nat → Prop) → Prop} {M : aM} {R : Room} {gc gs k j pc n : Nat} {Po : Option Value → aH → Nat → Prop} {PX : String → aH → Nat → Prop} {lv : List (Nat × Value)} {st : List Value} {h h2 : aH}
theorem aw_eqh (e : h = h2) (kk : AW X M R gc gs Po PX k j pc lv st h2 n) : AW X M R gc gs Po PX k j pc lv st h n := by rw [e]; exact kk
end AWR
abbrev Mnt : Type := Nat × Int32
abbrev m0_sp (q : Mnt) : Nat := q.1
abbrev m0_fp (q : Mnt) : Int32 := q.2
abbrev Ras : Type := Int32 × Int32 × A
abbrev x_w (q : Ras) : Int32 := q.1
abbrev x_g (q : Ras) : Int32 := q.2.1
abbrev x_p (q : Ras) : A := q.2.2
abbrev Row : Type := Int32 × A
abbrev y_n (q : Row) : Int32 := q.1
abbrev y_b (q : Row) : A := q.2
abbrev Src : Type := Int32 × Int32 × Int32 × Int32
abbrev sc_size (q : Src) : Int32 := q.1
abbrev sc_pos (q : Src) : Int32 := q.2.1
abbrev sc_ft (q : Src) : Int32 := q.2.2.1
abbrev sc_fp (q : Src) : Int32 := q.2.2.2
abbrev Pal : Type := Int32 × A × A
abbrev pl_n (q : Pal) : Int32 := q.1
abbrev pl_col (q : Pal) : A := q.2.1
abbrev pl_slot (q : Pal) : A := q.2.2
abbrev Qoi : Type := Int32 × Int32 × Int32 × Int32 × A
abbrev qo_f1 (q : Qoi) : Int32 := q.1
abbrev qo_f2 (q : Qoi) : Int32 := q.2.1
abbrev qo_f3 (q : Qoi) : Int32 := q.2.2.1
abbrev qo_last (q : Qoi) : Int32 := q.2.2.2.1
abbrev qo_pl (q : Qoi) : A := q.2.2.2.2
abbrev Pnm : Type := Int32 × Int32 × Int32 × Int32
abbrev pn_f1 (q : Pnm) : Int32 := q.1
abbrev pn_f2 (q : Pnm) : Int32 := q.2.1
abbrev pn_f3 (q : Pnm) : Int32 := q.2.2.1
abbrev pn_np (q : Pnm) : Int32 := q.2.2.2
abbrev Bmp : Type := Int32 × Int32 × Int32 × Int32 × Int32 × Int32 × Int32 × Int32 × Int32 × Int32 × A
abbrev bm_f1 (q : Bmp) : Int32 := q.1
abbrev bm_f2 (q : Bmp) : Int32 := q.2.1
abbrev bm_f3 (q : Bmp) : Int32 := q.2.2.1
abbrev bm_top (q : Bmp) : Int32 := q.2.2.2.1
abbrev bm_bits (q : Bmp) : Int32 := q.2.2.2.2.1
abbrev bm_comp (q : Bmp) : Int32 := q.2.2.2.2.2.1
abbrev bm_used (q : Bmp) : Int32 := q.2.2.2.2.2.2.1
abbrev bm_packed (q : Bmp) : Int32 := q.2.2.2.2.2.2.2.1
abbrev bm_column (q : Bmp) : Int32 := q.2.2.2.2.2.2.2.2.1
abbrev bm_up (q : Bmp) : Int32 := q.2.2.2.2.2.2.2.2.2.1
abbrev bm_col (q : Bmp) : A := q.2.2.2.2.2.2.2.2.2.2
abbrev Tga : Type := Int32 × Int32 × Int32 × Int32 × Int32 × Int32 × Int32 × Int32 × Int32 × Int32 × Int32 × Int32 × Int32 × Int32 × Int32 × A
abbrev tg_f1 (q : Tga) : Int32 := q.1
abbrev tg_f2 (q : Tga) : Int32 := q.2.1
abbrev tg_f3 (q : Tga) : Int32 := q.2.2.1
abbrev tg_map (q : Tga) : Int32 := q.2.2.2.1
abbrev tg_type (q : Tga) : Int32 := q.2.2.2.2.1
abbrev tg_fe (q : Tga) : Int32 := q.2.2.2.2.2.1
abbrev tg_many (q : Tga) : Int32 := q.2.2.2.2.2.2.1
abbrev tg_deep (q : Tga) : Int32 := q.2.2.2.2.2.2.2.1
abbrev tg_bits (q : Tga) : Int32 := q.2.2.2.2.2.2.2.2.1
abbrev tg_flags (q : Tga) : Int32 := q.2.2.2.2.2.2.2.2.2.1
abbrev tg_ab (q : Tga) : Int32 := q.2.2.2.2.2.2.2.2.2.2.1
abbrev tg_idx (q : Tga) : Int32 := q.2.2.2.2.2.2.2.2.2.2.2.1
abbrev tg_packets (q : Tga) : Int32 := q.2.2.2.2.2.2.2.2.2.2.2.2.1
abbrev tg_left (q : Tga) : Int32 := q.2.2.2.2.2.2.2.2.2.2.2.2.2.1
abbrev tg_like (q : Tga) : Int32 := q.2.2.2.2.2.2.2.2.2.2.2.2.2.2.1
abbrev tg_ent (q : Tga) : A := q.2.2.2.2.2.2.2.2.2.2.2.2.2.2.2
abbrev Pcx : Type := Int32 × Int32 × Int32 × Int32 × Int32 × Int32 × Int32 × Int32 × A
abbrev px_f1 (q : Pcx) : Int32 := q.1
abbrev px_f2 (q : Pcx) : Int32 := q.2.1
abbrev px_f3 (q : Pcx) : Int32 := q.2.2.1
abbrev px_ver (q : Pcx) : Int32 := q.2.2.2.1
abbrev px_bits (q : Pcx) : Int32 := q.2.2.2.2.1
abbrev px_per (q : Pcx) : Int32 := q.2.2.2.2.2.1
abbrev px_planes (q : Pcx) : Int32 := q.2.2.2.2.2.2.1
abbrev px_step (q : Pcx) : Int32 := q.2.2.2.2.2.2.2.1
abbrev px_col (q : Pcx) : A := q.2.2.2.2.2.2.2.2
abbrev MO : Type := Int32 × Int32 × Int32 × Int32 × Int32 × Int32 × Int32
abbrev mo_taped (q : MO) : Int32 := q.1
abbrev mo_thrown (q : MO) : Int32 := q.2.1
abbrev mo_tf (q : MO) : Int32 := q.2.2.1
abbrev mo_t1 (q : MO) : Int32 := q.2.2.2.1
abbrev mo_t2 (q : MO) : Int32 := q.2.2.2.2.1
abbrev mo_t3 (q : MO) : Int32 := q.2.2.2.2.2.1
abbrev mo_fp (q : MO) : Int32 := q.2.2.2.2.2.2
abbrev MW : Type := Int32 × Int32 × Int32
abbrev mw_om (q : MW) : Int32 := q.1
abbrev mw_ho (q : MW) : Int32 := q.2.1
abbrev mw_cm (q : MW) : Int32 := q.2.2
abbrev MR : Type := Int32 × Int32 × Int32 × Int32 × Int32 × Int32 × Int32 × Int32 × Int32
abbrev mr_size (q : MR) : Int32 := q.1
abbrev mr_pos (q : MR) : Int32 := q.2.1
abbrev mr_kind (q : MR) : Int32 := q.2.2.1
abbrev mr_whr (q : MR) : Int32 := q.2.2.2.1
abbrev mr_gw (q : MR) : Int32 := q.2.2.2.2.1
abbrev mr_gh (q : MR) : Int32 := q.2.2.2.2.2.1
abbrev mr_one (q : MR) : Int32 := q.2.2.2.2.2.2.1
abbrev mr_two (q : MR) : Int32 := q.2.2.2.2.2.2.2.1
abbrev mr_three (q : MR) : Int32 := q.2.2.2.2.2.2.2.2
abbrev isR (r : Nat) : Prop := r = 2 ∨ r = 4 ∨ r = 6 ∨ r = 8 ∨ r = 10
abbrev isW (o : Nat) : Prop := o = 12 ∨ o = 14
abbrev isMS (o : Nat) : Prop := o = 32 ∨ o = 33
def rfv (k : Nat) : Value := if k = 0 then .null else .ref k
theorem rfv_ms {k : Nat} (h : isMS k) : rfv k = .ref k := by rcases h with rfl | rfl <;> rfl
def srcB (ms : Nat) (mt mu : A) : A := if ms = 33 then mu else mt
def fmts : Nat → Option Nat := fun i => if i = 0 then some 21 else if i = 1 then some 23 else if i = 2 then some 24 else if i = 3 then some 26 else if i = 4 then some 28 else none
/-- the class's side -/
def HC (m0 : Mnt) (sh : Nat → Nat) (rr : Nat → Ras) (ww : Nat → Row) (so : Nat) (sc : Src) (pl : Pal) (qo : Qoi) (pn : Pnm) (bm : Bmp) (tg : Tga) (px : Pcx) (fa : A) (hb : aH) : aH := fun k =>
  if k = 16 then some (.inr (7, [.ref (so + 1), .int (sc_size sc), .int (sc_pos sc), .int (sc_ft sc), .int (sc_fp sc)]))
  else if isR k then some (.inr (6, [.ref (k + 1), .int (x_w (rr k)), .int (x_g (rr k))]))
  else if k = 3 ∨ k = 5 ∨ k = 7 ∨ k = 9 ∨ k = 11 then some (.inl (.int, 4096, .inl (x_p (rr (k - 1)))))
  else if isW k then some (.inr (1, [.ref (k + 1), .int (y_n (ww k))]))
  else if k = 13 ∨ k = 15 then some (.inl (.byte, 65536, .inl (y_b (ww (k - 1)))))
  else if k = 17 then some (.inr (2, [.ref 18, .ref 19, .int (pl_n pl)]))
  else if k = 21 then some (.inr (5, [.int (qo_f1 qo), .int (qo_f2 qo), .int (qo_f3 qo), .ref 22, .int (qo_last qo)]))
  else if k = 23 then some (.inr (4, [.int (pn_f1 pn), .int (pn_f2 pn), .int (pn_f3 pn), .int (pn_np pn)]))
  else if k = 24 then some (.inr (0, [.int (bm_f1 bm), .int (bm_f2 bm), .int (bm_f3 bm), .ref 17, .ref 25, .int (bm_top bm), .int (bm_bits bm), .int (bm_comp bm), .int (bm_used bm), .int (bm_packed bm), .int (bm_column bm), .int (bm_up bm)]))
  else if k = 26 then some (.inr (8, [.int (tg_f1 tg), .int (tg_f2 tg), .int (tg_f3 tg), .ref 17, .ref 27, .int (tg_map tg), .int (tg_type tg), .int (tg_fe tg), .int (tg_many tg), .int (tg_deep tg), .int (tg_bits tg), .int (tg_flags tg), .int (tg_ab tg), .int (tg_idx tg), .int (tg_packets tg), .int (tg_left tg), .int (tg_like tg)]))
  else if k = 28 then some (.inr (3, [.int (px_f1 px), .int (px_f2 px), .int (px_f3 px), .ref 17, .ref 29, .int (px_ver px), .int (px_bits px), .int (px_per px), .int (px_planes px), .int (px_step px)]))
  else if k = 0 then some (.inr (9, [.ref 1, .ref 20, .ref 12, .ref 14, .ref 16, .ref 17, .ref 30, .ref (m0_sp m0), .int (m0_fp m0)]))
  else if k = 18 then some (.inl (.int, 4096, .inl (pl_col pl)))
  else if k = 19 then some (.inl (.int, 8192, .inl (pl_slot pl)))
  else if k = 22 then some (.inl (.int, 64, .inl (qo_pl qo)))
  else if k = 25 then some (.inl (.int, 256, .inl (bm_col bm)))
  else if k = 27 then some (.inl (.int, 256, .inl (tg_ent tg)))
  else if k = 29 then some (.inl (.int, 256, .inl (px_col px)))
  else if k = 30 then some (.inl (.int, 4, .inl fa))
  else if k = 1 then some (.inl (.object RX7, 4, .inr (.inr (.inr (.inr (fun i => if i < 4 then some (sh i) else none))))))
  else if k = 20 then some (.inl (.object RX2, 5, .inr (.inr (.inr (.inr fmts)))))
  else hb k
/-- the reference's side -/
def HM (mo : MO) (mw : MW) (mr : MR) (ms : Nat) (mt : A) (mu : A) (dd : A) (wi : A) (hi : A) (gt : A) (sp : A) (ta : A) (li : A) (sr : A) (co : A) (hb : aH) : aH := fun k =>
  if k = 31 then some (.inr (10, [.ref 32, .int (mo_taped mo), .ref 33, .int (mw_om mw), .int (mw_ho mw), .ref 34, .ref 35, .ref 36, .int (mo_thrown mo), rfv ms, .int (mr_size mr), .int (mr_pos mr), .int (mr_kind mr), .int (mr_whr mr), .ref 37, .int (mr_gw mr), .int (mr_gh mr), .int (mr_one mr), .int (mr_two mr), .int (mr_three mr), .int (mo_tf mo), .int (mo_t1 mo), .int (mo_t2 mo), .int (mo_t3 mo), .int (mo_fp mo), .ref 38, .ref 39, .ref 40, .ref 41, .ref 42, .int (mw_cm mw)]))
  else if k = 32 then some (.inl (.byte, 65536, .inl mt))
  else if k = 33 then some (.inl (.byte, 65536, .inl mu))
  else if k = 34 then some (.inl (.int, 16384, .inl dd))
  else if k = 35 then some (.inl (.int, 4, .inl wi))
  else if k = 36 then some (.inl (.int, 4, .inl hi))
  else if k = 37 then some (.inl (.int, 4096, .inl gt))
  else if k = 38 then some (.inl (.int, 64, .inl sp))
  else if k = 39 then some (.inl (.int, 65536, .inl ta))
  else if k = 40 then some (.inl (.byte, 16384, .inl li))
  else if k = 41 then some (.inl (.int, 4096, .inl sr))
  else if k = 42 then some (.inl (.int, 256, .inl co))
  else hb k
theorem at_src {m0 : Mnt} {sh : Nat → Nat} {rr : Nat → Ras} {ww : Nat → Row} {so : Nat} {sc : Src} {pl : Pal} {qo : Qoi} {pn : Pnm} {bm : Bmp} {tg : Tga} {px : Pcx} {fa : A} {hb : aH} : HC m0 sh rr ww so sc pl qo pn bm tg px fa hb 16 = some (.inr (7, [.ref (so + 1), .int (sc_size sc), .int (sc_pos sc), .int (sc_ft sc), .int (sc_fp sc)])) := rfl
theorem up_src {m0 : Mnt} {sh : Nat → Nat} {rr : Nat → Ras} {ww : Nat → Row} {so : Nat} {sc : Src} {pl : Pal} {qo : Qoi} {pn : Pnm} {bm : Bmp} {tg : Tga} {px : Pcx} {fa : A} {hb : aH} {u0 : Int32} {u1 : Int32} {u2 : Int32} {u3 : Int32} : va_up (HC m0 sh rr ww so sc pl qo pn bm tg px fa hb) 16 (some (.inr (7, [.ref (so + 1), .int u0, .int u1, .int u2, .int u3]))) = HC m0 sh rr ww so (u0, u1, u2, u3) pl qo pn bm tg px fa hb := by
  funext k
  by_cases e : k = 16
  · subst e; rw [va_up_self]; rfl
  · rw [va_up_ne _ _ e]; unfold HC; simp only [e, if_false]
theorem at_pal {m0 : Mnt} {sh : Nat → Nat} {rr : Nat → Ras} {ww : Nat → Row} {so : Nat} {sc : Src} {pl : Pal} {qo : Qoi} {pn : Pnm} {bm : Bmp} {tg : Tga} {px : Pcx} {fa : A} {hb : aH} : HC m0 sh rr ww so sc pl qo pn bm tg px fa hb 17 = some (.inr (2, [.ref 18, .ref 19, .int (pl_n pl)])) := rfl
theorem up_pal {m0 : Mnt} {sh : Nat → Nat} {rr : Nat → Ras} {ww : Nat → Row} {so : Nat} {sc : Src} {pl : Pal} {qo : Qoi} {pn : Pnm} {bm : Bmp} {tg : Tga} {px : Pcx} {fa : A} {hb : aH} {u0 : Int32} : va_up (HC m0 sh rr ww so sc pl qo pn bm tg px fa hb) 17 (some (.inr (2, [.ref 18, .ref 19, .int u0]))) = HC m0 sh rr ww so sc (u0, (pl_col pl), (pl_slot pl)) qo pn bm tg px fa hb := by
  funext k
  by_cases e : k = 17
  · subst e; rw [va_up_self]; rfl
  · rw [va_up_ne _ _ e]; unfold HC; simp only [e, if_false]
theorem at_qoi {m0 : Mnt} {sh : Nat → Nat} {rr : Nat → Ras} {ww : Nat → Row} {so : Nat} {sc : Src} {pl : Pal} {qo : Qoi} {pn : Pnm} {bm : Bmp} {tg : Tga} {px : Pcx} {fa : A} {hb : aH} : HC m0 sh rr ww so sc pl qo pn bm tg px fa hb 21 = some (.inr (5, [.int (qo_f1 qo), .int (qo_f2 qo), .int (qo_f3 qo), .ref 22, .int (qo_last qo)])) := rfl
theorem up_qoi {m0 : Mnt} {sh : Nat → Nat} {rr : Nat → Ras} {ww : Nat → Row} {so : Nat} {sc : Src} {pl : Pal} {qo : Qoi} {pn : Pnm} {bm : Bmp} {tg : Tga} {px : Pcx} {fa : A} {hb : aH} {u0 : Int32} {u1 : Int32} {u2 : Int32} {u3 : Int32} : va_up (HC m0 sh rr ww so sc pl qo pn bm tg px fa hb) 21 (some (.inr (5, [.int u0, .int u1, .int u2, .ref 22, .int u3]))) = HC m0 sh rr ww so sc pl (u0, u1, u2, u3, (qo_pl qo)) pn bm tg px fa hb := by
  funext k
  by_cases e : k = 21
  · subst e; rw [va_up_self]; rfl
  · rw [va_up_ne _ _ e]; unfold HC; simp only [e, if_false]
theorem at_pnm {m0 : Mnt} {sh : Nat → Nat} {rr : Nat → Ras} {ww : Nat → Row} {so : Nat} {sc : Src} {pl : Pal} {qo : Qoi} {pn : Pnm} {bm : Bmp} {tg : Tga} {px : Pcx} {fa : A} {hb : aH} : HC m0 sh rr ww so sc pl qo pn bm tg px fa hb 23 = some (.inr (4, [.int (pn_f1 pn), .int (pn_f2 pn), .int (pn_f3 pn), .int (pn_np pn)])) := rfl
theorem up_pnm {m0 : Mnt} {sh : Nat → Nat} {rr : Nat → Ras} {ww : Nat → Row} {so : Nat} {sc : Src} {pl : Pal} {qo : Qoi} {pn : Pnm} {bm : Bmp} {tg : Tga} {px : Pcx} {fa : A} {hb : aH} {u0 : Int32} {u1 : Int32} {u2 : Int32} {u3 : Int32} : va_up (HC m0 sh rr ww so sc pl qo pn bm tg px fa hb) 23 (some (.inr (4, [.int u0, .int u1, .int u2, .int u3]))) = HC m0 sh rr ww so sc pl qo (u0, u1, u2, u3) bm tg px fa hb := by
  funext k
  by_cases e : k = 23
  · subst e; rw [va_up_self]; rfl
  · rw [va_up_ne _ _ e]; unfold HC; simp only [e, if_false]
theorem at_bmp {m0 : Mnt} {sh : Nat → Nat} {rr : Nat → Ras} {ww : Nat → Row} {so : Nat} {sc : Src} {pl : Pal} {qo : Qoi} {pn : Pnm} {bm : Bmp} {tg : Tga} {px : Pcx} {fa : A} {hb : aH} : HC m0 sh rr ww so sc pl qo pn bm tg px fa hb 24 = some (.inr (0, [.int (bm_f1 bm), .int (bm_f2 bm), .int (bm_f3 bm), .ref 17, .ref 25, .int (bm_top bm), .int (bm_bits bm), .int (bm_comp bm), .int (bm_used bm), .int (bm_packed bm), .int (bm_column bm), .int (bm_up bm)])) := rfl
theorem up_bmp {m0 : Mnt} {sh : Nat → Nat} {rr : Nat → Ras} {ww : Nat → Row} {so : Nat} {sc : Src} {pl : Pal} {qo : Qoi} {pn : Pnm} {bm : Bmp} {tg : Tga} {px : Pcx} {fa : A} {hb : aH} {u0 : Int32} {u1 : Int32} {u2 : Int32} {u3 : Int32} {u4 : Int32} {u5 : Int32} {u6 : Int32} {u7 : Int32} {u8 : Int32} {u9 : Int32} : va_up (HC m0 sh rr ww so sc pl qo pn bm tg px fa hb) 24 (some (.inr (0, [.int u0, .int u1, .int u2, .ref 17, .ref 25, .int u3, .int u4, .int u5, .int u6, .int u7, .int u8, .int u9]))) = HC m0 sh rr ww so sc pl qo pn (u0, u1, u2, u3, u4, u5, u6, u7, u8, u9, (bm_col bm)) tg px fa hb := by
  funext k
  by_cases e : k = 24
  · subst e; rw [va_up_self]; rfl
  · rw [va_up_ne _ _ e]; unfold HC; simp only [e, if_false]
theorem at_tga {m0 : Mnt} {sh : Nat → Nat} {rr : Nat → Ras} {ww : Nat → Row} {so : Nat} {sc : Src} {pl : Pal} {qo : Qoi} {pn : Pnm} {bm : Bmp} {tg : Tga} {px : Pcx} {fa : A} {hb : aH} : HC m0 sh rr ww so sc pl qo pn bm tg px fa hb 26 = some (.inr (8, [.int (tg_f1 tg), .int (tg_f2 tg), .int (tg_f3 tg), .ref 17, .ref 27, .int (tg_map tg), .int (tg_type tg), .int (tg_fe tg), .int (tg_many tg), .int (tg_deep tg), .int (tg_bits tg), .int (tg_flags tg), .int (tg_ab tg), .int (tg_idx tg), .int (tg_packets tg), .int (tg_left tg), .int (tg_like tg)])) := rfl
theorem up_tga {m0 : Mnt} {sh : Nat → Nat} {rr : Nat → Ras} {ww : Nat → Row} {so : Nat} {sc : Src} {pl : Pal} {qo : Qoi} {pn : Pnm} {bm : Bmp} {tg : Tga} {px : Pcx} {fa : A} {hb : aH} {u0 : Int32} {u1 : Int32} {u2 : Int32} {u3 : Int32} {u4 : Int32} {u5 : Int32} {u6 : Int32} {u7 : Int32} {u8 : Int32} {u9 : Int32} {u10 : Int32} {u11 : Int32} {u12 : Int32} {u13 : Int32} {u14 : Int32} : va_up (HC m0 sh rr ww so sc pl qo pn bm tg px fa hb) 26 (some (.inr (8, [.int u0, .int u1, .int u2, .ref 17, .ref 27, .int u3, .int u4, .int u5, .int u6, .int u7, .int u8, .int u9, .int u10, .int u11, .int u12, .int u13, .int u14]))) = HC m0 sh rr ww so sc pl qo pn bm (u0, u1, u2, u3, u4, u5, u6, u7, u8, u9, u10, u11, u12, u13, u14, (tg_ent tg)) px fa hb := by
  funext k
  by_cases e : k = 26
  · subst e; rw [va_up_self]; rfl
  · rw [va_up_ne _ _ e]; unfold HC; simp only [e, if_false]
theorem at_pcx {m0 : Mnt} {sh : Nat → Nat} {rr : Nat → Ras} {ww : Nat → Row} {so : Nat} {sc : Src} {pl : Pal} {qo : Qoi} {pn : Pnm} {bm : Bmp} {tg : Tga} {px : Pcx} {fa : A} {hb : aH} : HC m0 sh rr ww so sc pl qo pn bm tg px fa hb 28 = some (.inr (3, [.int (px_f1 px), .int (px_f2 px), .int (px_f3 px), .ref 17, .ref 29, .int (px_ver px), .int (px_bits px), .int (px_per px), .int (px_planes px), .int (px_step px)])) := rfl
theorem up_pcx {m0 : Mnt} {sh : Nat → Nat} {rr : Nat → Ras} {ww : Nat → Row} {so : Nat} {sc : Src} {pl : Pal} {qo : Qoi} {pn : Pnm} {bm : Bmp} {tg : Tga} {px : Pcx} {fa : A} {hb : aH} {u0 : Int32} {u1 : Int32} {u2 : Int32} {u3 : Int32} {u4 : Int32} {u5 : Int32} {u6 : Int32} {u7 : Int32} : va_up (HC m0 sh rr ww so sc pl qo pn bm tg px fa hb) 28 (some (.inr (3, [.int u0, .int u1, .int u2, .ref 17, .ref 29, .int u3, .int u4, .int u5, .int u6, .int u7]))) = HC m0 sh rr ww so sc pl qo pn bm tg (u0, u1, u2, u3, u4, u5, u6, u7, (px_col px)) fa hb := by
  funext k
  by_cases e : k = 28
  · subst e; rw [va_up_self]; rfl
  · rw [va_up_ne _ _ e]; unfold HC; simp only [e, if_false]
theorem at_mint {m0 : Mnt} {sh : Nat → Nat} {rr : Nat → Ras} {ww : Nat → Row} {so : Nat} {sc : Src} {pl : Pal} {qo : Qoi} {pn : Pnm} {bm : Bmp} {tg : Tga} {px : Pcx} {fa : A} {hb : aH} : HC m0 sh rr ww so sc pl qo pn bm tg px fa hb 0 = some (.inr (9, [.ref 1, .ref 20, .ref 12, .ref 14, .ref 16, .ref 17, .ref 30, .ref (m0_sp m0), .int (m0_fp m0)])) := rfl
theorem up_mint {m0 : Mnt} {sh : Nat → Nat} {rr : Nat → Ras} {ww : Nat → Row} {so : Nat} {sc : Src} {pl : Pal} {qo : Qoi} {pn : Pnm} {bm : Bmp} {tg : Tga} {px : Pcx} {fa : A} {hb : aH} {u0 : Nat} {u1 : Int32} : va_up (HC m0 sh rr ww so sc pl qo pn bm tg px fa hb) 0 (some (.inr (9, [.ref 1, .ref 20, .ref 12, .ref 14, .ref 16, .ref 17, .ref 30, .ref u0, .int u1]))) = HC (u0, u1) sh rr ww so sc pl qo pn bm tg px fa hb := by
  funext k
  by_cases e : k = 0
  · subst e; rw [va_up_self]; rfl
  · rw [va_up_ne _ _ e]; unfold HC; simp only [e, if_false]
theorem at_palcol {m0 : Mnt} {sh : Nat → Nat} {rr : Nat → Ras} {ww : Nat → Row} {so : Nat} {sc : Src} {pl : Pal} {qo : Qoi} {pn : Pnm} {bm : Bmp} {tg : Tga} {px : Pcx} {fa : A} {hb : aH} : HC m0 sh rr ww so sc pl qo pn bm tg px fa hb 18 = some (.inl (.int, 4096, .inl (pl_col pl))) := rfl
theorem up_palcol {m0 : Mnt} {sh : Nat → Nat} {rr : Nat → Ras} {ww : Nat → Row} {so : Nat} {sc : Src} {pl : Pal} {qo : Qoi} {pn : Pnm} {bm : Bmp} {tg : Tga} {px : Pcx} {fa : A} {hb : aH} {u : A} : va_up (HC m0 sh rr ww so sc pl qo pn bm tg px fa hb) 18 (some (.inl (.int, 4096, .inl u))) = HC m0 sh rr ww so sc ((pl_n pl), u, (pl_slot pl)) qo pn bm tg px fa hb := by
  funext k
  by_cases e : k = 18
  · subst e; rw [va_up_self]; rfl
  · rw [va_up_ne _ _ e]; unfold HC; simp only [e, if_false]
theorem at_palslot {m0 : Mnt} {sh : Nat → Nat} {rr : Nat → Ras} {ww : Nat → Row} {so : Nat} {sc : Src} {pl : Pal} {qo : Qoi} {pn : Pnm} {bm : Bmp} {tg : Tga} {px : Pcx} {fa : A} {hb : aH} : HC m0 sh rr ww so sc pl qo pn bm tg px fa hb 19 = some (.inl (.int, 8192, .inl (pl_slot pl))) := rfl
theorem up_palslot {m0 : Mnt} {sh : Nat → Nat} {rr : Nat → Ras} {ww : Nat → Row} {so : Nat} {sc : Src} {pl : Pal} {qo : Qoi} {pn : Pnm} {bm : Bmp} {tg : Tga} {px : Pcx} {fa : A} {hb : aH} {u : A} : va_up (HC m0 sh rr ww so sc pl qo pn bm tg px fa hb) 19 (some (.inl (.int, 8192, .inl u))) = HC m0 sh rr ww so sc ((pl_n pl), (pl_col pl), u) qo pn bm tg px fa hb := by
  funext k
  by_cases e : k = 19
  · subst e; rw [va_up_self]; rfl
  · rw [va_up_ne _ _ e]; unfold HC; simp only [e, if_false]
theorem at_qoipl {m0 : Mnt} {sh : Nat → Nat} {rr : Nat → Ras} {ww : Nat → Row} {so : Nat} {sc : Src} {pl : Pal} {qo : Qoi} {pn : Pnm} {bm : Bmp} {tg : Tga} {px : Pcx} {fa : A} {hb : aH} : HC m0 sh rr ww so sc pl qo pn bm tg px fa hb 22 = some (.inl (.int, 64, .inl (qo_pl qo))) := rfl
theorem up_qoipl {m0 : Mnt} {sh : Nat → Nat} {rr : Nat → Ras} {ww : Nat → Row} {so : Nat} {sc : Src} {pl : Pal} {qo : Qoi} {pn : Pnm} {bm : Bmp} {tg : Tga} {px : Pcx} {fa : A} {hb : aH} {u : A} : va_up (HC m0 sh rr ww so sc pl qo pn bm tg px fa hb) 22 (some (.inl (.int, 64, .inl u))) = HC m0 sh rr ww so sc pl ((qo_f1 qo), (qo_f2 qo), (qo_f3 qo), (qo_last qo), u) pn bm tg px fa hb := by
  funext k
  by_cases e : k = 22
  · subst e; rw [va_up_self]; rfl
  · rw [va_up_ne _ _ e]; unfold HC; simp only [e, if_false]
theorem at_bmpcol {m0 : Mnt} {sh : Nat → Nat} {rr : Nat → Ras} {ww : Nat → Row} {so : Nat} {sc : Src} {pl : Pal} {qo : Qoi} {pn : Pnm} {bm : Bmp} {tg : Tga} {px : Pcx} {fa : A} {hb : aH} : HC m0 sh rr ww so sc pl qo pn bm tg px fa hb 25 = some (.inl (.int, 256, .inl (bm_col bm))) := rfl
theorem up_bmpcol {m0 : Mnt} {sh : Nat → Nat} {rr : Nat → Ras} {ww : Nat → Row} {so : Nat} {sc : Src} {pl : Pal} {qo : Qoi} {pn : Pnm} {bm : Bmp} {tg : Tga} {px : Pcx} {fa : A} {hb : aH} {u : A} : va_up (HC m0 sh rr ww so sc pl qo pn bm tg px fa hb) 25 (some (.inl (.int, 256, .inl u))) = HC m0 sh rr ww so sc pl qo pn ((bm_f1 bm), (bm_f2 bm), (bm_f3 bm), (bm_top bm), (bm_bits bm), (bm_comp bm), (bm_used bm), (bm_packed bm), (bm_column bm), (bm_up bm), u) tg px fa hb := by
  funext k
  by_cases e : k = 25
  · subst e; rw [va_up_self]; rfl
  · rw [va_up_ne _ _ e]; unfold HC; simp only [e, if_false]
theorem at_tgaent {m0 : Mnt} {sh : Nat → Nat} {rr : Nat → Ras} {ww : Nat → Row} {so : Nat} {sc : Src} {pl : Pal} {qo : Qoi} {pn : Pnm} {bm : Bmp} {tg : Tga} {px : Pcx} {fa : A} {hb : aH} : HC m0 sh rr ww so sc pl qo pn bm tg px fa hb 27 = some (.inl (.int, 256, .inl (tg_ent tg))) := rfl
theorem up_tgaent {m0 : Mnt} {sh : Nat → Nat} {rr : Nat → Ras} {ww : Nat → Row} {so : Nat} {sc : Src} {pl : Pal} {qo : Qoi} {pn : Pnm} {bm : Bmp} {tg : Tga} {px : Pcx} {fa : A} {hb : aH} {u : A} : va_up (HC m0 sh rr ww so sc pl qo pn bm tg px fa hb) 27 (some (.inl (.int, 256, .inl u))) = HC m0 sh rr ww so sc pl qo pn bm ((tg_f1 tg), (tg_f2 tg), (tg_f3 tg), (tg_map tg), (tg_type tg), (tg_fe tg), (tg_many tg), (tg_deep tg), (tg_bits tg), (tg_flags tg), (tg_ab tg), (tg_idx tg), (tg_packets tg), (tg_left tg), (tg_like tg), u) px fa hb := by
  funext k
  by_cases e : k = 27
  · subst e; rw [va_up_self]; rfl
  · rw [va_up_ne _ _ e]; unfold HC; simp only [e, if_false]
theorem at_pcxcol {m0 : Mnt} {sh : Nat → Nat} {rr : Nat → Ras} {ww : Nat → Row} {so : Nat} {sc : Src} {pl : Pal} {qo : Qoi} {pn : Pnm} {bm : Bmp} {tg : Tga} {px : Pcx} {fa : A} {hb : aH} : HC m0 sh rr ww so sc pl qo pn bm tg px fa hb 29 = some (.inl (.int, 256, .inl (px_col px))) := rfl
theorem up_pcxcol {m0 : Mnt} {sh : Nat → Nat} {rr : Nat → Ras} {ww : Nat → Row} {so : Nat} {sc : Src} {pl : Pal} {qo : Qoi} {pn : Pnm} {bm : Bmp} {tg : Tga} {px : Pcx} {fa : A} {hb : aH} {u : A} : va_up (HC m0 sh rr ww so sc pl qo pn bm tg px fa hb) 29 (some (.inl (.int, 256, .inl u))) = HC m0 sh rr ww so sc pl qo pn bm tg ((px_f1 px), (px_f2 px), (px_f3 px), (px_ver px), (px_bits px), (px_per px), (px_planes px), (px_step px), u) fa hb := by
  funext k
  by_cases e : k = 29
  · subst e; rw [va_up_self]; rfl
  · rw [va_up_ne _ _ e]; unfold HC; simp only [e, if_false]
theorem at_facts {m0 : Mnt} {sh : Nat → Nat} {rr : Nat → Ras} {ww : Nat → Row} {so : Nat} {sc : Src} {pl : Pal} {qo : Qoi} {pn : Pnm} {bm : Bmp} {tg : Tga} {px : Pcx} {fa : A} {hb : aH} : HC m0 sh rr ww so sc pl qo pn bm tg px fa hb 30 = some (.inl (.int, 4, .inl fa)) := rfl
theorem up_facts {m0 : Mnt} {sh : Nat → Nat} {rr : Nat → Ras} {ww : Nat → Row} {so : Nat} {sc : Src} {pl : Pal} {qo : Qoi} {pn : Pnm} {bm : Bmp} {tg : Tga} {px : Pcx} {fa : A} {hb : aH} {u : A} : va_up (HC m0 sh rr ww so sc pl qo pn bm tg px fa hb) 30 (some (.inl (.int, 4, .inl u))) = HC m0 sh rr ww so sc pl qo pn bm tg px u hb := by
  funext k
  by_cases e : k = 30
  · subst e; rw [va_up_self]; rfl
  · rw [va_up_ne _ _ e]; unfold HC; simp only [e, if_false]
theorem at_shelves {m0 : Mnt} {sh : Nat → Nat} {rr : Nat → Ras} {ww : Nat → Row} {so : Nat} {sc : Src} {pl : Pal} {qo : Qoi} {pn : Pnm} {bm : Bmp} {tg : Tga} {px : Pcx} {fa : A} {hb : aH} : HC m0 sh rr ww so sc pl qo pn bm tg px fa hb 1 = some (.inl (.object RX7, 4, .inr (.inr (.inr (.inr (fun i => if i < 4 then some (sh i) else none)))))) := rfl
theorem at_formats {m0 : Mnt} {sh : Nat → Nat} {rr : Nat → Ras} {ww : Nat → Row} {so : Nat} {sc : Src} {pl : Pal} {qo : Qoi} {pn : Pnm} {bm : Bmp} {tg : Tga} {px : Pcx} {fa : A} {hb : aH} : HC m0 sh rr ww so sc pl qo pn bm tg px fa hb 20 = some (.inl (.object RX2, 5, .inr (.inr (.inr (.inr fmts))))) := rfl
theorem at_ras {m0 : Mnt} {sh : Nat → Nat} {rr : Nat → Ras} {ww : Nat → Row} {so : Nat} {sc : Src} {pl : Pal} {qo : Qoi} {pn : Pnm} {bm : Bmp} {tg : Tga} {px : Pcx} {fa : A} {hb : aH} {r : Nat} {x : Ras} (hr : isR r) : HC m0 sh (va_up rr r x) ww so sc pl qo pn bm tg px fa hb r = some (.inr (6, [.ref (r + 1), .int (x_w x), .int (x_g x)])) := by
  have e : va_up rr r x r = x := va_up_self _ _ _
  rcases hr with rfl | rfl | rfl | rfl | rfl <;> (show some _ = _; rw [e])
theorem at_pix {m0 : Mnt} {sh : Nat → Nat} {rr : Nat → Ras} {ww : Nat → Row} {so : Nat} {sc : Src} {pl : Pal} {qo : Qoi} {pn : Pnm} {bm : Bmp} {tg : Tga} {px : Pcx} {fa : A} {hb : aH} {r : Nat} {x : Ras} (hr : isR r) : HC m0 sh (va_up rr r x) ww so sc pl qo pn bm tg px fa hb (r + 1) = some (.inl (.int, 4096, .inl (x_p x))) := by
  have e : va_up rr r x r = x := va_up_self _ _ _
  rcases hr with rfl | rfl | rfl | rfl | rfl <;> exact congrArg (fun q : Ras => (some (.inl (.int, 4096, .inl (x_p q))) : Option ao)) e
theorem at_row {m0 : Mnt} {sh : Nat → Nat} {rr : Nat → Ras} {ww : Nat → Row} {so : Nat} {sc : Src} {pl : Pal} {qo : Qoi} {pn : Pnm} {bm : Bmp} {tg : Tga} {px : Pcx} {fa : A} {hb : aH} {o : Nat} {y : Row} (ho : isW o) : HC m0 sh rr (va_up ww o y) so sc pl qo pn bm tg px fa hb o = some (.inr (1, [.ref (o + 1), .int (y_n y)])) := by
  have e : va_up ww o y o = y := va_up_self _ _ _
  rcases ho with rfl | rfl <;> (show some _ = _; rw [e])
theorem at_cells {m0 : Mnt} {sh : Nat → Nat} {rr : Nat → Ras} {ww : Nat → Row} {so : Nat} {sc : Src} {pl : Pal} {qo : Qoi} {pn : Pnm} {bm : Bmp} {tg : Tga} {px : Pcx} {fa : A} {hb : aH} {o : Nat} {y : Row} (ho : isW o) : HC m0 sh rr (va_up ww o y) so sc pl qo pn bm tg px fa hb (o + 1) = some (.inl (.byte, 65536, .inl (y_b y))) := by
  have e : va_up ww o y o = y := va_up_self _ _ _
  rcases ho with rfl | rfl <;> exact congrArg (fun q : Row => (some (.inl (.byte, 65536, .inl (y_b q))) : Option ao)) e
theorem at_scells {m0 : Mnt} {sh : Nat → Nat} {rr : Nat → Ras} {ww : Nat → Row} {so : Nat} {sc : Src} {pl : Pal} {qo : Qoi} {pn : Pnm} {bm : Bmp} {tg : Tga} {px : Pcx} {fa : A} {hb : aH} (ho : isW so) : HC m0 sh rr ww so sc pl qo pn bm tg px fa hb (so + 1) = some (.inl (.byte, 65536, .inl (y_b (ww so)))) := by
  rcases ho with rfl | rfl <;> rfl
theorem HC_rr {m0 : Mnt} {sh : Nat → Nat} {rr : Nat → Ras} {ww : Nat → Row} {so : Nat} {sc : Src} {pl : Pal} {qo : Qoi} {pn : Pnm} {bm : Bmp} {tg : Tga} {px : Pcx} {fa : A} {hb : aH} {rr2 : Nat → Ras} {k : Nat} (h1 : isR k → x_w (rr k) = x_w (rr2 k) ∧ x_g (rr k) = x_g (rr2 k)) (h2 : (k = 3 ∨ k = 5 ∨ k = 7 ∨ k = 9 ∨ k = 11) → x_p (rr (k - 1)) = x_p (rr2 (k - 1))) : HC m0 sh rr ww so sc pl qo pn bm tg px fa hb k = HC m0 sh rr2 ww so sc pl qo pn bm tg px fa hb k := by
  unfold HC
  exact ite_congr rfl (fun _ => rfl) (fun _ => ite_congr rfl (fun q => by rw [(h1 q).1, (h1 q).2]) (fun _ => ite_congr rfl (fun q => by rw [h2 q]) (fun _ => rfl)))
theorem HC_ww {m0 : Mnt} {sh : Nat → Nat} {rr : Nat → Ras} {ww : Nat → Row} {so : Nat} {sc : Src} {pl : Pal} {qo : Qoi} {pn : Pnm} {bm : Bmp} {tg : Tga} {px : Pcx} {fa : A} {hb : aH} {ww2 : Nat → Row} {k : Nat} (h1 : isW k → y_n (ww k) = y_n (ww2 k)) (h2 : (k = 13 ∨ k = 15) → y_b (ww (k - 1)) = y_b (ww2 (k - 1))) : HC m0 sh rr ww so sc pl qo pn bm tg px fa hb k = HC m0 sh rr ww2 so sc pl qo pn bm tg px fa hb k := by
  unfold HC
  exact ite_congr rfl (fun _ => rfl) (fun _ => ite_congr rfl (fun q => rfl) (fun _ => ite_congr rfl (fun q => rfl) (fun _ => ite_congr rfl (fun q => by rw [h1 q]) (fun _ => ite_congr rfl (fun q => by rw [h2 q]) (fun _ => rfl)))))
theorem up_ras {m0 : Mnt} {sh : Nat → Nat} {rr : Nat → Ras} {ww : Nat → Row} {so : Nat} {sc : Src} {pl : Pal} {qo : Qoi} {pn : Pnm} {bm : Bmp} {tg : Tga} {px : Pcx} {fa : A} {hb : aH} {r : Nat} {x : Ras} {u0 u1 : Int32} (hr : isR r) : va_up (HC m0 sh (va_up rr r x) ww so sc pl qo pn bm tg px fa hb) (r) (some (.inr (6, [.ref (r + 1), .int u0, .int u1]))) = HC m0 sh (va_up rr r (u0, u1, x_p x)) ww so sc pl qo pn bm tg px fa hb := by
  funext k
  by_cases e : k = r
  · subst e; rw [va_up_self, at_ras hr]
  · rw [va_up_ne _ _ e]
    exact HC_rr (fun q => ⟨(by rw [va_up_ne _ _ e, va_up_ne _ _ e]), (by rw [va_up_ne _ _ e, va_up_ne _ _ e])⟩) (fun q => (by unfold va_up; split <;> rfl))
theorem up_pix {m0 : Mnt} {sh : Nat → Nat} {rr : Nat → Ras} {ww : Nat → Row} {so : Nat} {sc : Src} {pl : Pal} {qo : Qoi} {pn : Pnm} {bm : Bmp} {tg : Tga} {px : Pcx} {fa : A} {hb : aH} {r : Nat} {x : Ras} {u : A} (hr : isR r) : va_up (HC m0 sh (va_up rr r x) ww so sc pl qo pn bm tg px fa hb) (r + 1) (some (.inl (.int, 4096, .inl u))) = HC m0 sh (va_up rr r (x_w x, x_g x, u)) ww so sc pl qo pn bm tg px fa hb := by
  funext k
  by_cases e : k = r + 1
  · subst e; rw [va_up_self, at_pix hr]
  · rw [va_up_ne _ _ e]
    exact HC_rr (fun q => ⟨(by unfold va_up; split <;> rfl), (by unfold va_up; split <;> rfl)⟩) (fun q => (by rw [va_up_ne _ _ (by omega), va_up_ne _ _ (by omega)]))
theorem up_row {m0 : Mnt} {sh : Nat → Nat} {rr : Nat → Ras} {ww : Nat → Row} {so : Nat} {sc : Src} {pl : Pal} {qo : Qoi} {pn : Pnm} {bm : Bmp} {tg : Tga} {px : Pcx} {fa : A} {hb : aH} {o : Nat} {y : Row} {u0 : Int32} (ho : isW o) : va_up (HC m0 sh rr (va_up ww o y) so sc pl qo pn bm tg px fa hb) (o) (some (.inr (1, [.ref (o + 1), .int u0]))) = HC m0 sh rr (va_up ww o (u0, y_b y)) so sc pl qo pn bm tg px fa hb := by
  funext k
  by_cases e : k = o
  · subst e; rw [va_up_self, at_row ho]
  · rw [va_up_ne _ _ e]
    exact HC_ww (fun q => (by rw [va_up_ne _ _ e, va_up_ne _ _ e])) (fun q => (by unfold va_up; split <;> rfl))
theorem up_cells {m0 : Mnt} {sh : Nat → Nat} {rr : Nat → Ras} {ww : Nat → Row} {so : Nat} {sc : Src} {pl : Pal} {qo : Qoi} {pn : Pnm} {bm : Bmp} {tg : Tga} {px : Pcx} {fa : A} {hb : aH} {o : Nat} {y : Row} {u : A} (ho : isW o) : va_up (HC m0 sh rr (va_up ww o y) so sc pl qo pn bm tg px fa hb) (o + 1) (some (.inl (.byte, 65536, .inl u))) = HC m0 sh rr (va_up ww o (y_n y, u)) so sc pl qo pn bm tg px fa hb := by
  funext k
  by_cases e : k = o + 1
  · subst e; rw [va_up_self, at_cells ho]
  · rw [va_up_ne _ _ e]
    exact HC_ww (fun q => (by unfold va_up; split <;> rfl)) (fun q => (by rw [va_up_ne _ _ (by omega), va_up_ne _ _ (by omega)]))
theorem at_mod {mo : MO} {mw : MW} {mr : MR} {ms : Nat} {mt : A} {mu : A} {dd : A} {wi : A} {hi : A} {gt : A} {sp : A} {ta : A} {li : A} {sr : A} {co : A} {hb : aH} : HM mo mw mr ms mt mu dd wi hi gt sp ta li sr co hb 31 = some (.inr (10, [.ref 32, .int (mo_taped mo), .ref 33, .int (mw_om mw), .int (mw_ho mw), .ref 34, .ref 35, .ref 36, .int (mo_thrown mo), rfv ms, .int (mr_size mr), .int (mr_pos mr), .int (mr_kind mr), .int (mr_whr mr), .ref 37, .int (mr_gw mr), .int (mr_gh mr), .int (mr_one mr), .int (mr_two mr), .int (mr_three mr), .int (mo_tf mo), .int (mo_t1 mo), .int (mo_t2 mo), .int (mo_t3 mo), .int (mo_fp mo), .ref 38, .ref 39, .ref 40, .ref 41, .ref 42, .int (mw_cm mw)])) := rfl
theorem up_mod {mo : MO} {mw : MW} {mr : MR} {ms : Nat} {mt : A} {mu : A} {dd : A} {wi : A} {hi : A} {gt : A} {sp : A} {ta : A} {li : A} {sr : A} {co : A} {hb : aH}  {mo0 mo1 mo2 mo3 mo4 mo5 mo6 : Int32} {mw0 mw1 mw2 : Int32} {mr0 mr1 mr2 mr3 mr4 mr5 mr6 mr7 mr8 : Int32} : va_up (HM mo mw mr ms mt mu dd wi hi gt sp ta li sr co hb) 31 (some (.inr (10, [.ref 32, .int mo0, .ref 33, .int mw0, .int mw1, .ref 34, .ref 35, .ref 36, .int mo1, rfv ms, .int mr0, .int mr1, .int mr2, .int mr3, .ref 37, .int mr4, .int mr5, .int mr6, .int mr7, .int mr8, .int mo2, .int mo3, .int mo4, .int mo5, .int mo6, .ref 38, .ref 39, .ref 40, .ref 41, .ref 42, .int mw2]))) = HM (mo0, mo1, mo2, mo3, mo4, mo5, mo6) (mw0, mw1, mw2) (mr0, mr1, mr2, mr3, mr4, mr5, mr6, mr7, mr8) ms mt mu dd wi hi gt sp ta li sr co hb := by
  funext k
  by_cases e : k = 31
  · subst e; rw [va_up_self]; rfl
  · rw [va_up_ne _ _ e]; unfold HM; simp only [e, if_false]
theorem at_mtape {mo : MO} {mw : MW} {mr : MR} {ms : Nat} {mt : A} {mu : A} {dd : A} {wi : A} {hi : A} {gt : A} {sp : A} {ta : A} {li : A} {sr : A} {co : A} {hb : aH} : HM mo mw mr ms mt mu dd wi hi gt sp ta li sr co hb 32 = some (.inl (.byte, 65536, .inl mt)) := rfl
theorem up_mtape {mo : MO} {mw : MW} {mr : MR} {ms : Nat} {mt : A} {mu : A} {dd : A} {wi : A} {hi : A} {gt : A} {sp : A} {ta : A} {li : A} {sr : A} {co : A} {hb : aH} {u : A} : va_up (HM mo mw mr ms mt mu dd wi hi gt sp ta li sr co hb) 32 (some (.inl (.byte, 65536, .inl u))) = HM mo mw mr ms u mu dd wi hi gt sp ta li sr co hb := by
  funext k
  by_cases e : k = 32
  · subst e; rw [va_up_self]; rfl
  · rw [va_up_ne _ _ e]; unfold HM; simp only [e, if_false]
theorem at_mout {mo : MO} {mw : MW} {mr : MR} {ms : Nat} {mt : A} {mu : A} {dd : A} {wi : A} {hi : A} {gt : A} {sp : A} {ta : A} {li : A} {sr : A} {co : A} {hb : aH} : HM mo mw mr ms mt mu dd wi hi gt sp ta li sr co hb 33 = some (.inl (.byte, 65536, .inl mu)) := rfl
theorem up_mout {mo : MO} {mw : MW} {mr : MR} {ms : Nat} {mt : A} {mu : A} {dd : A} {wi : A} {hi : A} {gt : A} {sp : A} {ta : A} {li : A} {sr : A} {co : A} {hb : aH} {u : A} : va_up (HM mo mw mr ms mt mu dd wi hi gt sp ta li sr co hb) 33 (some (.inl (.byte, 65536, .inl u))) = HM mo mw mr ms mt u dd wi hi gt sp ta li sr co hb := by
  funext k
  by_cases e : k = 33
  · subst e; rw [va_up_self]; rfl
  · rw [va_up_ne _ _ e]; unfold HM; simp only [e, if_false]
theorem at_mdots {mo : MO} {mw : MW} {mr : MR} {ms : Nat} {mt : A} {mu : A} {dd : A} {wi : A} {hi : A} {gt : A} {sp : A} {ta : A} {li : A} {sr : A} {co : A} {hb : aH} : HM mo mw mr ms mt mu dd wi hi gt sp ta li sr co hb 34 = some (.inl (.int, 16384, .inl dd)) := rfl
theorem up_mdots {mo : MO} {mw : MW} {mr : MR} {ms : Nat} {mt : A} {mu : A} {dd : A} {wi : A} {hi : A} {gt : A} {sp : A} {ta : A} {li : A} {sr : A} {co : A} {hb : aH} {u : A} : va_up (HM mo mw mr ms mt mu dd wi hi gt sp ta li sr co hb) 34 (some (.inl (.int, 16384, .inl u))) = HM mo mw mr ms mt mu u wi hi gt sp ta li sr co hb := by
  funext k
  by_cases e : k = 34
  · subst e; rw [va_up_self]; rfl
  · rw [va_up_ne _ _ e]; unfold HM; simp only [e, if_false]
theorem at_mwide {mo : MO} {mw : MW} {mr : MR} {ms : Nat} {mt : A} {mu : A} {dd : A} {wi : A} {hi : A} {gt : A} {sp : A} {ta : A} {li : A} {sr : A} {co : A} {hb : aH} : HM mo mw mr ms mt mu dd wi hi gt sp ta li sr co hb 35 = some (.inl (.int, 4, .inl wi)) := rfl
theorem up_mwide {mo : MO} {mw : MW} {mr : MR} {ms : Nat} {mt : A} {mu : A} {dd : A} {wi : A} {hi : A} {gt : A} {sp : A} {ta : A} {li : A} {sr : A} {co : A} {hb : aH} {u : A} : va_up (HM mo mw mr ms mt mu dd wi hi gt sp ta li sr co hb) 35 (some (.inl (.int, 4, .inl u))) = HM mo mw mr ms mt mu dd u hi gt sp ta li sr co hb := by
  funext k
  by_cases e : k = 35
  · subst e; rw [va_up_self]; rfl
  · rw [va_up_ne _ _ e]; unfold HM; simp only [e, if_false]
theorem at_mhigh {mo : MO} {mw : MW} {mr : MR} {ms : Nat} {mt : A} {mu : A} {dd : A} {wi : A} {hi : A} {gt : A} {sp : A} {ta : A} {li : A} {sr : A} {co : A} {hb : aH} : HM mo mw mr ms mt mu dd wi hi gt sp ta li sr co hb 36 = some (.inl (.int, 4, .inl hi)) := rfl
theorem up_mhigh {mo : MO} {mw : MW} {mr : MR} {ms : Nat} {mt : A} {mu : A} {dd : A} {wi : A} {hi : A} {gt : A} {sp : A} {ta : A} {li : A} {sr : A} {co : A} {hb : aH} {u : A} : va_up (HM mo mw mr ms mt mu dd wi hi gt sp ta li sr co hb) 36 (some (.inl (.int, 4, .inl u))) = HM mo mw mr ms mt mu dd wi u gt sp ta li sr co hb := by
  funext k
  by_cases e : k = 36
  · subst e; rw [va_up_self]; rfl
  · rw [va_up_ne _ _ e]; unfold HM; simp only [e, if_false]
theorem at_mgot {mo : MO} {mw : MW} {mr : MR} {ms : Nat} {mt : A} {mu : A} {dd : A} {wi : A} {hi : A} {gt : A} {sp : A} {ta : A} {li : A} {sr : A} {co : A} {hb : aH} : HM mo mw mr ms mt mu dd wi hi gt sp ta li sr co hb 37 = some (.inl (.int, 4096, .inl gt)) := rfl
theorem up_mgot {mo : MO} {mw : MW} {mr : MR} {ms : Nat} {mt : A} {mu : A} {dd : A} {wi : A} {hi : A} {gt : A} {sp : A} {ta : A} {li : A} {sr : A} {co : A} {hb : aH} {u : A} : va_up (HM mo mw mr ms mt mu dd wi hi gt sp ta li sr co hb) 37 (some (.inl (.int, 4096, .inl u))) = HM mo mw mr ms mt mu dd wi hi u sp ta li sr co hb := by
  funext k
  by_cases e : k = 37
  · subst e; rw [va_up_self]; rfl
  · rw [va_up_ne _ _ e]; unfold HM; simp only [e, if_false]
theorem at_mspots {mo : MO} {mw : MW} {mr : MR} {ms : Nat} {mt : A} {mu : A} {dd : A} {wi : A} {hi : A} {gt : A} {sp : A} {ta : A} {li : A} {sr : A} {co : A} {hb : aH} : HM mo mw mr ms mt mu dd wi hi gt sp ta li sr co hb 38 = some (.inl (.int, 64, .inl sp)) := rfl
theorem up_mspots {mo : MO} {mw : MW} {mr : MR} {ms : Nat} {mt : A} {mu : A} {dd : A} {wi : A} {hi : A} {gt : A} {sp : A} {ta : A} {li : A} {sr : A} {co : A} {hb : aH} {u : A} : va_up (HM mo mw mr ms mt mu dd wi hi gt sp ta li sr co hb) 38 (some (.inl (.int, 64, .inl u))) = HM mo mw mr ms mt mu dd wi hi gt u ta li sr co hb := by
  funext k
  by_cases e : k = 38
  · subst e; rw [va_up_self]; rfl
  · rw [va_up_ne _ _ e]; unfold HM; simp only [e, if_false]
theorem at_mtable {mo : MO} {mw : MW} {mr : MR} {ms : Nat} {mt : A} {mu : A} {dd : A} {wi : A} {hi : A} {gt : A} {sp : A} {ta : A} {li : A} {sr : A} {co : A} {hb : aH} : HM mo mw mr ms mt mu dd wi hi gt sp ta li sr co hb 39 = some (.inl (.int, 65536, .inl ta)) := rfl
theorem up_mtable {mo : MO} {mw : MW} {mr : MR} {ms : Nat} {mt : A} {mu : A} {dd : A} {wi : A} {hi : A} {gt : A} {sp : A} {ta : A} {li : A} {sr : A} {co : A} {hb : aH} {u : A} : va_up (HM mo mw mr ms mt mu dd wi hi gt sp ta li sr co hb) 39 (some (.inl (.int, 65536, .inl u))) = HM mo mw mr ms mt mu dd wi hi gt sp u li sr co hb := by
  funext k
  by_cases e : k = 39
  · subst e; rw [va_up_self]; rfl
  · rw [va_up_ne _ _ e]; unfold HM; simp only [e, if_false]
theorem at_mlines {mo : MO} {mw : MW} {mr : MR} {ms : Nat} {mt : A} {mu : A} {dd : A} {wi : A} {hi : A} {gt : A} {sp : A} {ta : A} {li : A} {sr : A} {co : A} {hb : aH} : HM mo mw mr ms mt mu dd wi hi gt sp ta li sr co hb 40 = some (.inl (.byte, 16384, .inl li)) := rfl
theorem up_mlines {mo : MO} {mw : MW} {mr : MR} {ms : Nat} {mt : A} {mu : A} {dd : A} {wi : A} {hi : A} {gt : A} {sp : A} {ta : A} {li : A} {sr : A} {co : A} {hb : aH} {u : A} : va_up (HM mo mw mr ms mt mu dd wi hi gt sp ta li sr co hb) 40 (some (.inl (.byte, 16384, .inl u))) = HM mo mw mr ms mt mu dd wi hi gt sp ta u sr co hb := by
  funext k
  by_cases e : k = 40
  · subst e; rw [va_up_self]; rfl
  · rw [va_up_ne _ _ e]; unfold HM; simp only [e, if_false]
theorem at_msorted {mo : MO} {mw : MW} {mr : MR} {ms : Nat} {mt : A} {mu : A} {dd : A} {wi : A} {hi : A} {gt : A} {sp : A} {ta : A} {li : A} {sr : A} {co : A} {hb : aH} : HM mo mw mr ms mt mu dd wi hi gt sp ta li sr co hb 41 = some (.inl (.int, 4096, .inl sr)) := rfl
theorem up_msorted {mo : MO} {mw : MW} {mr : MR} {ms : Nat} {mt : A} {mu : A} {dd : A} {wi : A} {hi : A} {gt : A} {sp : A} {ta : A} {li : A} {sr : A} {co : A} {hb : aH} {u : A} : va_up (HM mo mw mr ms mt mu dd wi hi gt sp ta li sr co hb) 41 (some (.inl (.int, 4096, .inl u))) = HM mo mw mr ms mt mu dd wi hi gt sp ta li u co hb := by
  funext k
  by_cases e : k = 41
  · subst e; rw [va_up_self]; rfl
  · rw [va_up_ne _ _ e]; unfold HM; simp only [e, if_false]
theorem at_mcols {mo : MO} {mw : MW} {mr : MR} {ms : Nat} {mt : A} {mu : A} {dd : A} {wi : A} {hi : A} {gt : A} {sp : A} {ta : A} {li : A} {sr : A} {co : A} {hb : aH} : HM mo mw mr ms mt mu dd wi hi gt sp ta li sr co hb 42 = some (.inl (.int, 256, .inl co)) := rfl
theorem up_mcols {mo : MO} {mw : MW} {mr : MR} {ms : Nat} {mt : A} {mu : A} {dd : A} {wi : A} {hi : A} {gt : A} {sp : A} {ta : A} {li : A} {sr : A} {co : A} {hb : aH} {u : A} : va_up (HM mo mw mr ms mt mu dd wi hi gt sp ta li sr co hb) 42 (some (.inl (.int, 256, .inl u))) = HM mo mw mr ms mt mu dd wi hi gt sp ta li sr u hb := by
  funext k
  by_cases e : k = 42
  · subst e; rw [va_up_self]; rfl
  · rw [va_up_ne _ _ e]; unfold HM; simp only [e, if_false]
theorem at_msrc {mo : MO} {mw : MW} {mr : MR} {ms : Nat} {mt : A} {mu : A} {dd : A} {wi : A} {hi : A} {gt : A} {sp : A} {ta : A} {li : A} {sr : A} {co : A} {hb : aH} (h : isMS ms) : HM mo mw mr ms mt mu dd wi hi gt sp ta li sr co hb ms = some (.inl (.byte, 65536, .inl (srcB ms mt mu))) := by rcases h with rfl | rfl <;> rfl
