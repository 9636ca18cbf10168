/-- the wrapped difference of two bytes -/
def dlt (p q : Nat) : Int32 := b8 (nI ((p + 256 - q) % 256))
theorem dlt_eq (x y : Int32) : (x - y).toInt8.toInt32 = dlt (ch x 0) (ch y 0) := by
  rw [← b8_eq, b8_mod]
  unfold dlt ch
  congr 2
  have h1 := tn_lt x; have h2 := tn_lt y
  rw [Int32.toBitVec_sub, BitVec.toNat_sub, Nat.pow_zero, Nat.div_one, Nat.div_one]
  omega
theorem dlt_r {x y : Int32} {s : Int32} {k : Nat} (hk : k ≤ 24) (hs : (s.toBitVec.smod 32).toNat = k) : ((x >>> s) - (y >>> s)).toInt8.toInt32 = dlt (ch x k) (ch y k) := by
  rw [dlt_eq, ch_shr x s k hk hs, ch_shr y s k hk hs]
theorem dlt_n {p q : Nat} (hp : p < 256) (hq : q < 256) : (nI p - nI q).toInt8.toInt32 = dlt p q := by
  rw [dlt_eq, ch_nI hp, ch_nI hq]
def wi2 (k : Nat) (v : Int32) : Prop := ¬ v < -(nI k) ∧ ¬ nI k ≤ v
theorem wi_eq (v K : Int32) (k : Nat) (hK : K = nI k) : (F_X6_isWithin v K = 0 ↔ ¬ wi2 k v) := by
  subst hK
  unfold F_X6_isWithin wi2
  by_cases c1 : v < -(nI k)
  · rw [if_pos c1]; exact ⟨fun _ h => h.1 c1, fun _ => rfl⟩
  · rw [if_neg c1]
    by_cases c2 : nI k ≤ v
    · rw [if_pos c2]; exact ⟨fun _ h => h.2 c2, fun _ => rfl⟩
    · rw [if_neg c2]; exact ⟨fun e => absurd e (by decide), fun h => absurd ⟨c1, c2⟩ h⟩
theorem neg_to {k : Nat} (h : k < 1000) : (-(nI k)).toInt = -(k : Int) := by
  rw [Int32.toInt_neg, nI_toInt (by omega)]
  exact Int.bmod_eq_of_le (by omega) (by omega)
theorem wi_nat {k : Nat} {v : Int32} (hk : k < 1000) (h : wi2 k v) : ∃ j, j < 2 * k ∧ v = nI j - nI k := by
  obtain ⟨h1, h2⟩ := h
  rw [Int32.lt_iff_toInt_lt, neg_to hk] at h1
  rw [Int32.le_iff_toInt_le, nI_toInt (by omega)] at h2
  refine ⟨(v.toInt + k).toNat, by omega, ?_⟩
  apply Int32.toInt_inj.mp
  rw [pk_sub_toInt (by omega) (by omega)]
  omega
theorem byte_1 : ∀ a, a < 4 → ∀ b, b < 4 → ∀ c, c < 4 → ((64 ||| ((nI a - nI 2 + 2) <<< ((4 : Int32) &&& 31))) ||| ((nI b - nI 2 + 2) <<< ((2 : Int32) &&& 31))) ||| (nI c - nI 2 + 2) = nI (64 + 16 * a + 4 * b + c) ∧ (((64 + (16 * (nI a - nI 2 + 2))) + (4 * (nI b - nI 2 + 2))) + (nI c - nI 2)) + 2 = nI (64 + 16 * a + 4 * b + c) := by decide +kernel
theorem byte_2 : ∀ a, a < 64 → (128 ||| (nI a - nI 32 + 32)) = nI (128 + a) ∧ 160 + (nI a - nI 32) = nI (128 + a) := by decide +kernel
theorem byte_3 : ∀ a, a < 16 → ∀ b, b < 16 → (((nI a - nI 8 + 8) <<< ((4 : Int32) &&& 31)) ||| (nI b - nI 8 + 8)) = nI (16 * a + b) ∧ ((16 * (nI a - nI 8 + 8)) + (nI b - nI 8)) + 8 = nI (16 * a + b) := by decide +kernel
def wib (k : Nat) (v : Int32) : Bool := !(decide (v < -(nI k))) && !(decide (nI k ≤ v))
theorem wib_iff {k : Nat} {v : Int32} : wib k v = true ↔ wi2 k v := by
  unfold wib wi2
  rw [Bool.and_eq_true, Bool.not_eq_true', Bool.not_eq_true', decide_eq_false_iff_not, decide_eq_false_iff_not]
def qc2 (v dgr e1 e2 : Int32) : List Nat := if wib 32 dgr = true ∧ wib 8 e1 = true ∧ wib 8 e2 = true then [ch (160 + dgr) 0, ch (((16 * (e1 + 8)) + e2) + 8) 0] else [254, ch v 24, ch v 16, ch v 8]
def qc1 (v dr dgr db : Int32) : List Nat := if wib 2 dr = true ∧ wib 2 dgr = true ∧ wib 2 db = true then [ch ((((64 + (16 * (dr + 2))) + (4 * (dgr + 2))) + db) + 2) 0] else qc2 v dgr (dr - dgr).toInt8.toInt32 (db - dgr).toInt8.toInt32
/-- the bytes of a pixel that is no run and no index -/
def qch (u v : Int32) : List Nat := if ch v 0 = ch u 0 then qc1 v (dlt (ch v 24) (ch u 24)) (dlt (ch v 16) (ch u 16)) (dlt (ch v 8) (ch u 8)) else [255, ch v 24, ch v 16, ch v 8, ch v 0]
/-- a chunk by both sides -/
theorem chunk_eq {f : A} {L : List Nat} (u v h cm f1 f2 f3 : Int32) (pl : A) (hne : pl (hm v) ≠ v) (hL : L.length + 5 ≤ 65536) :
    ∃ l : List Nat, 1 ≤ l.length ∧ l.length ≤ 5 ∧ F_X6_writePixel v (RwC f L) (f1, f2, f3, u, pl) = fok () (RwC f (L ++ l)) ∧ F_X11_chunk u v (MwL h cm L) (ap f L) = fok () (MwL h cm (L ++ l), ap f (L ++ l)) ∧ (l.length = 5 ∧ l.getD 0 0 = 255 ∨ l.length = 4 ∧ l.getD 0 0 = 254 ∨ l.length = 1 ∧ 64 ≤ l.getD 0 0 ∧ l.getD 0 0 < 128 ∨ l.length = 2 ∧ 128 ≤ l.getD 0 0 ∧ l.getD 0 0 < 192) ∧ l = qch u v := by
  have r1 := ch_lt v 24; have r2 := ch_lt v 16; have r3 := ch_lt v 8; have r4 := ch_lt v 0
  have q1 := ch_lt u 24; have q2 := ch_lt u 16; have q3 := ch_lt u 8; have q4 := ch_lt u 0
  have hh := hm_lt v
  unfold F_X6_writePixel F_X11_chunk qch
  dsimp only [qo_pl, qo_last]
  rw [home_hm, if_pos (inb_nI hh (by omega)), nI_clamp (by omega), if_neg hne, alpha_ch, alpha_ch, and_ch, and_ch, us_24, us_24, dlt_n r1 q1, dlt_r (k := 16) (by decide) (by decide), dlt_r (k := 8) (by decide) (by decide)]
  by_cases ca : ch v 0 = ch u 0
  case neg =>
    have ca1 : ¬ nI (ch v 0) = nI (ch u 0) := fun e => ca ((nI_inj (by omega) (by omega)).mp e)
    refine ⟨[255, ch v 24, ch v 16, ch v 8, ch v 0], by simp, by simp, ?_, ?_, Or.inl ⟨rfl, rfl⟩, (if_neg ca).symm⟩
    · rw [if_neg ca1, c_add _ (by omega), fon_fok]
      unfold F_X1_addHigh4
      rw [c_add _ (by simp only [List.length_append, List.length_cons, List.length_nil]; omega), fon_fok, c_add _ (by simp only [List.length_append, List.length_cons, List.length_nil]; omega), fon_fok, c_add _ (by simp only [List.length_append, List.length_cons, List.length_nil]; omega), fon_fok, c_add _ (by simp only [List.length_append, List.length_cons, List.length_nil]; omega), fon_fok, fon_fok, ch_shr _ _ 24 (by decide) (by decide), ch_shr _ _ 16 (by decide) (by decide), ch_shr _ _ 8 (by decide) (by decide), show ch 255 0 = 255 from by decide]
      simp only [List.append_assoc]
      rfl
    · rw [if_neg (fun e => ca1 e.symm)]
      unfold F_X11_chunk_68 F_X11_chunk_140 F_X11_chunk_218 F_X11_chunk_233
      rw [if_pos (c := (0 : Int32) = 0) rfl, if_pos (c := (0 : Int32) = 0) rfl, if_pos (c := (0 : Int32) = 0) rfl, r_put _ _ _ (by omega), fon_fok]
      dsimp only
      rw [r_put _ _ _ (by simp only [List.length_append, List.length_cons, List.length_nil]; omega), fon_fok]
      dsimp only
      rw [r_put _ _ _ (by simp only [List.length_append, List.length_cons, List.length_nil]; omega), fon_fok]
      dsimp only
      rw [r_put _ _ _ (by simp only [List.length_append, List.length_cons, List.length_nil]; omega), fon_fok, if_pos (c := (0 : Int32) = 0) rfl]
      dsimp only
      rw [r_put _ _ _ (by simp only [List.length_append, List.length_cons, List.length_nil]; omega), fon_fok, ch_shr _ _ 24 (by decide) (by decide), ch_shr _ _ 16 (by decide) (by decide), ch_shr _ _ 8 (by decide) (by decide), show ch 255 0 = 255 from by decide]
      simp only [List.append_assoc]
      rfl
  rw [if_pos (c := nI (ch v 0) = nI (ch u 0)) (by rw [ca]), if_pos (c := nI (ch u 0) = nI (ch v 0)) (by rw [ca]), if_pos (c := ch v 0 = ch u 0) ca]
  unfold F_X6_writeMove
  dsimp only [qo_last]
  rw [red_ch, red_ch, green_ch, green_ch, blue_ch, blue_ch, dlt_n r1 q1, dlt_n r2 q2, dlt_n r3 q3]
  generalize dlt (ch v 24) (ch u 24) = dr
  generalize dlt (ch v 16) (ch u 16) = dgr
  generalize dlt (ch v 8) (ch u 8) = db
  have hw2 := fun t => wi_eq t 2 2 rfl
  have hw32 := fun t => wi_eq t 32 32 rfl
  have hw8 := fun t => wi_eq t 8 8 rfl
  have mid : ¬ (wi2 2 dr ∧ wi2 2 dgr ∧ wi2 2 db) → ∃ l : List Nat, 1 ≤ l.length ∧ l.length ≤ 5 ∧ fon (F_X6_writeMove_96 (f1, f2, f3, u, pl) dr dgr db (RwC f L)) (fun z56 s56 => if z56 = 0 then (fon (F_X1_add 254 s56) (fun z66 s66 => fon (F_X1_add (nI (ch v 24)) s66) (fun z74 s74 => fon (F_X1_add (nI (ch v 16)) s74) (fun z82 s82 => fon (F_X1_add (nI (ch v 8)) s82) (fun z90 s90 => fok () s90) (fun _ _ => fno)) (fun _ _ => fno)) (fun _ _ => fno)) (fun _ _ => fno)) else (fok () s56)) (fun _ _ => fno) = fok () (RwC f (L ++ l)) ∧ F_X11_chunk_140 v dgr (dr - dgr).toInt8.toInt32 (db - dgr).toInt8.toInt32 1 (MwL h cm L) (ap f L) = fok () (MwL h cm (L ++ l), ap f (L ++ l)) ∧ (l.length = 5 ∧ l.getD 0 0 = 255 ∨ l.length = 4 ∧ l.getD 0 0 = 254 ∨ l.length = 1 ∧ 64 ≤ l.getD 0 0 ∧ l.getD 0 0 < 128 ∨ l.length = 2 ∧ 128 ≤ l.getD 0 0 ∧ l.getD 0 0 < 192) ∧ l = qc2 v dgr (dr - dgr).toInt8.toInt32 (db - dgr).toInt8.toInt32 := by
    intro _
    unfold F_X6_writeMove_96 F_X6_writeMove_173 F_X11_chunk_140 F_X11_chunk_218 F_X11_chunk_233
    rw [if_neg (c := (1 : Int32) = 0) (by decide), if_neg (c := (1 : Int32) = 0) (by decide)]
    generalize (dr - dgr).toInt8.toInt32 = e1
    generalize (db - dgr).toInt8.toInt32 = e2
    by_cases cm2 : wi2 32 dgr ∧ wi2 8 e1 ∧ wi2 8 e2
    · obtain ⟨m1, m2, m3⟩ := cm2
      obtain ⟨j1, hj1, rfl⟩ := wi_nat (by omega) m1
      obtain ⟨j2, hj2, rfl⟩ := wi_nat (by omega) m2
      obtain ⟨j3, hj3, rfl⟩ := wi_nat (by omega) m3
      refine ⟨[128 + j1, 16 * j2 + j3], by simp, by simp, ?_, ?_, Or.inr (Or.inr (Or.inr ⟨rfl, Nat.le_add_right _ _, show 128 + j1 < 192 by omega⟩)), by unfold qc2; rw [if_pos ⟨wib_iff.mpr m1, wib_iff.mpr m2, wib_iff.mpr m3⟩, (byte_2 j1 hj1).2, (byte_3 j2 hj2 j3 hj3).2, ch_nI (by omega), ch_nI (by omega)]⟩
      · rw [if_neg (fun e => (hw32 _).mp e m1), if_neg (fun e => (hw8 _).mp e m2), if_neg (fun e => (hw8 _).mp e m3), (byte_2 j1 hj1).1, (byte_3 j2 hj2 j3 hj3).1, c_add _ (by omega), fon_fok, c_add _ (by simp only [List.length_append, List.length_cons, List.length_nil]; omega), fon_fok, fon_fok, if_neg (by decide), ch_nI (by omega), ch_nI (by omega), List.append_assoc]
        rfl
      · rw [if_neg (c := nI j1 - nI 32 < -32) m1.1, if_neg (c := 32 ≤ nI j1 - nI 32) m1.2, if_neg (c := nI j2 - nI 8 < -8) m2.1, if_neg (c := 8 ≤ nI j2 - nI 8) m2.2, if_neg (c := nI j3 - nI 8 < -8) m3.1, if_neg (c := 8 ≤ nI j3 - nI 8) m3.2, (byte_2 j1 hj1).2, (byte_3 j2 hj2 j3 hj3).2, r_put _ _ _ (by omega), fon_fok]
        dsimp only
        rw [r_put _ _ _ (by simp only [List.length_append, List.length_cons, List.length_nil]; omega), fon_fok, ch_nI (by omega), ch_nI (by omega), List.append_assoc]
        rfl
    · refine ⟨[254, ch v 24, ch v 16, ch v 8], by simp, by simp, ?_, ?_, Or.inr (Or.inl ⟨rfl, rfl⟩), by unfold qc2; rw [if_neg (fun e => cm2 ⟨wib_iff.mp e.1, wib_iff.mp e.2.1, wib_iff.mp e.2.2⟩)]⟩
      · have e : (if F_X6_isWithin dgr 32 = 0 then fok (0 : Int32) (RwC f L) else if F_X6_isWithin e1 8 = 0 then fok 0 (RwC f L) else if F_X6_isWithin e2 8 = 0 then fok 0 (RwC f L) else fon (F_X1_add (128 ||| (dgr + 32)) (RwC f L)) (fun z151 s151 => fon (F_X1_add (((e1 + 8) <<< ((4 : Int32) &&& 31)) ||| (e2 + 8)) s151) (fun z168 s168 => fok (1 : Int32) s168) (fun _ _ => fno)) (fun _ _ => fno)) = fok (0 : Int32) (RwC f L) := by
          by_cases m1 : wi2 32 dgr
          · rw [if_neg (fun e => (hw32 _).mp e m1)]
            by_cases m2 : wi2 8 e1
            · rw [if_neg (fun e => (hw8 _).mp e m2), if_pos ((hw8 _).mpr (fun m3 => cm2 ⟨m1, m2, m3⟩))]
            · rw [if_pos ((hw8 _).mpr m2)]
          · rw [if_pos ((hw32 _).mpr m1)]
        rw [e, fon_fok, if_pos rfl, c_add _ (by omega), fon_fok, c_add _ (by simp only [List.length_append, List.length_cons, List.length_nil]; omega), fon_fok, c_add _ (by simp only [List.length_append, List.length_cons, List.length_nil]; omega), fon_fok, c_add _ (by simp only [List.length_append, List.length_cons, List.length_nil]; omega), fon_fok, ch_nI r1, ch_nI r2, ch_nI r3, show ch 254 0 = 254 from by decide]
        simp only [List.append_assoc]
        rfl
      · have g : ∀ (C D : Out (MW × A) Unit), (if dgr < -32 then D else if 32 ≤ dgr then D else if e1 < -8 then D else if 8 ≤ e1 then D else if e2 < -8 then D else if 8 ≤ e2 then D else C) = D := by
          intro C D
          by_cases a1 : dgr < -32
          · rw [if_pos a1]
          rw [if_neg a1]
          by_cases a2 : 32 ≤ dgr
          · rw [if_pos a2]
          rw [if_neg a2]
          by_cases a3 : e1 < -8
          · rw [if_pos a3]
          rw [if_neg a3]
          by_cases a4 : 8 ≤ e1
          · rw [if_pos a4]
          rw [if_neg a4]
          by_cases a5 : e2 < -8
          · rw [if_pos a5]
          rw [if_neg a5]
          by_cases a6 : 8 ≤ e2
          · rw [if_pos a6]
          exact absurd ⟨⟨a1, a2⟩, ⟨a3, a4⟩, ⟨a5, a6⟩⟩ cm2
        rw [g, r_put _ _ _ (by omega), fon_fok]
        dsimp only
        rw [r_put _ _ _ (by simp only [List.length_append, List.length_cons, List.length_nil]; omega), fon_fok]
        dsimp only
        rw [r_put _ _ _ (by simp only [List.length_append, List.length_cons, List.length_nil]; omega), fon_fok]
        dsimp only
        rw [r_put _ _ _ (by simp only [List.length_append, List.length_cons, List.length_nil]; omega), fon_fok, if_neg (c := (1 : Int32) = 0) (by decide), ch_shr _ _ 24 (by decide) (by decide), ch_shr _ _ 16 (by decide) (by decide), ch_shr _ _ 8 (by decide) (by decide), show ch 254 0 = 254 from by decide]
        simp only [List.append_assoc]
        rfl
  unfold F_X11_chunk_68
  rw [if_neg (c := (1 : Int32) = 0) (by decide)]
  by_cases m1 : wi2 2 dr
  case neg =>
    rw [if_pos ((hw2 _).mpr m1)]
    have g : ∀ (C D : Out (MW × A) Unit), (if dr < -2 then D else if 2 ≤ dr then D else C) = D := by
      intro C D
      by_cases a1 : dr < -2
      · rw [if_pos a1]
      rw [if_neg a1]
      by_cases a2 : 2 ≤ dr
      · rw [if_pos a2]
      exact absurd ⟨a1, a2⟩ m1
    rw [g]
    unfold qc1
    rw [if_neg (fun e => m1 (wib_iff.mp e.1))]
    exact mid (fun e => m1 e.1)
  rw [if_neg (fun e => (hw2 _).mp e m1), if_neg (c := dr < -2) m1.1, if_neg (c := 2 ≤ dr) m1.2]
  by_cases m2 : wi2 2 dgr
  case neg =>
    rw [if_pos ((hw2 _).mpr m2)]
    have g : ∀ (C D : Out (MW × A) Unit), (if dgr < -2 then D else if 2 ≤ dgr then D else C) = D := by
      intro C D
      by_cases a1 : dgr < -2
      · rw [if_pos a1]
      rw [if_neg a1]
      by_cases a2 : 2 ≤ dgr
      · rw [if_pos a2]
      exact absurd ⟨a1, a2⟩ m2
    rw [g]
    unfold qc1
    rw [if_neg (fun e => m2 (wib_iff.mp e.2.1))]
    exact mid (fun e => m2 e.2.1)
  rw [if_neg (fun e => (hw2 _).mp e m2), if_neg (c := dgr < -2) m2.1, if_neg (c := 2 ≤ dgr) m2.2]
  by_cases m3 : wi2 2 db
  case neg =>
    rw [if_pos ((hw2 _).mpr m3)]
    have g : ∀ (C D : Out (MW × A) Unit), (if db < -2 then D else if 2 ≤ db then D else C) = D := by
      intro C D
      by_cases a1 : db < -2
      · rw [if_pos a1]
      rw [if_neg a1]
      by_cases a2 : 2 ≤ db
      · rw [if_pos a2]
      exact absurd ⟨a1, a2⟩ m3
    rw [g]
    unfold qc1
    rw [if_neg (fun e => m3 (wib_iff.mp e.2.2))]
    exact mid (fun e => m3 e.2.2)
  rw [if_neg (fun e => (hw2 _).mp e m3), if_neg (c := db < -2) m3.1, if_neg (c := 2 ≤ db) m3.2]
  obtain ⟨j1, hj1, rfl⟩ := wi_nat (by omega) m1
  obtain ⟨j2, hj2, rfl⟩ := wi_nat (by omega) m2
  obtain ⟨j3, hj3, rfl⟩ := wi_nat (by omega) m3
  refine ⟨[64 + 16 * j1 + 4 * j2 + j3], by simp, by simp, ?_, ?_, Or.inr (Or.inr (Or.inl ⟨rfl, show 64 ≤ 64 + 16 * j1 + 4 * j2 + j3 by omega, show 64 + 16 * j1 + 4 * j2 + j3 < 128 by omega⟩)), by unfold qc1; rw [if_pos ⟨wib_iff.mpr m1, wib_iff.mpr m2, wib_iff.mpr m3⟩, (byte_1 j1 hj1 j2 hj2 j3 hj3).2, ch_nI (by omega)]⟩
  · rw [(byte_1 j1 hj1 j2 hj2 j3 hj3).1, c_add _ (by omega), fon_fok, fon_fok, if_neg (by decide), ch_nI (by omega)]
  · rw [(byte_1 j1 hj1 j2 hj2 j3 hj3).2, r_put _ _ _ (by omega), fon_fok, ch_nI (by omega)]
