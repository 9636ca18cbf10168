def PStep3 (n T M : Nat) (w g one three f1 f3 : Int32) (C : Out (Ras × Src × Pnm) Unit) (R : Out (MR × A) Int32) (K : MR → A → Out (MR × A) Int32) : Prop :=
  (∃ (p : Nat) (px gt : A) (np : Int32), p ≤ n ∧ C = fok () ((w, g, px), Sr n p, (f1, nI M, f3, np)) ∧ R = K (Mr n p w g one (nI M) three) gt ∧ ∀ i, i < T → px i = gt i) ∨
  (∃ (x : Ras) (sc : Src) (pn : Pnm) (mr : MR) (gt : A), C = fex ISE (x, sc, pn) ∧ R = fok 0 (mr, gt) ∧ Bad sc mr)
theorem p3_bad {n T M : Nat} {w g one three f1 f3 : Int32} {C : Out (Ras × Src × Pnm) Unit} {R : Out (MR × A) Int32} {K : MR → A → Out (MR × A) Int32} {x : Ras} {sc : Src} {pn : Pnm} {mr : MR} {gt : A} (h1 : C = fex ISE (x, sc, pn)) (h2 : R = fok 0 (mr, gt)) (h3 : Bad sc mr) : PStep3 n T M w g one three f1 f3 C R K := Or.inr ⟨x, sc, pn, mr, gt, h1, h2, h3⟩
theorem n34_eq (sb : A) (k16 : Int32 → Int32 → MR → A → Out (MR × A) Int32) (k34 : Int32 → Int32 → Int32 → Int32 → MR → A → Out (MR × A) Int32) (v1 v2 v3 v4 : Int32) (mr : MR) (gt : A) (h : ¬ v1 ≤ v4) : F_X11_readNumbers_34 sb k16 k34 v1 v2 v3 v4 mr gt = RSt sb mr gt (fun z s => k34 v1 v2 ((v3 <<< ((8 : Int32) &&& 31)) ||| z) (v4 + 1) s gt) := by
  unfold F_X11_readNumbers_34 RSt
  rw [if_neg h]
theorem s51_eq (sb : A) (k32 : Int32 → Int32 → Int32 → MR → A → Out (MR × A) Int32) (k51 : Int32 → Int32 → Int32 → Int32 → Int32 → MR → A → Out (MR × A) Int32) (v1 v2 v3 v4 v5 : Int32) (mr : MR) (gt : A) (h : ¬ v1 ≤ v5) : F_X11_readSamples_51 sb k32 k51 v1 v2 v3 v4 v5 mr gt = RSb sb v2 mr gt (fun z s => k51 v1 v2 v3 ((v4 <<< ((8 : Int32) &&& 31)) ||| z) (v5 + 1) s gt) := by
  unfold F_X11_readSamples_51 RSb
  rw [if_neg h]
theorem sh0 {s : Nat} (h : s < 256) : ((0 : Int32) <<< ((8 : Int32) &&& 31)) ||| nI s = nI s := by
  rw [show (0 : Int32) = nI 0 from rfl, or8 h (by omega), Nat.zero_mul, Nat.zero_add]
theorem pn_T0 {n W H p M : Nat} (sb : A) (hp : p ≤ n) (hn : n ≤ 65536) (hT : W * H ≤ 4096) (h1 : 1 ≤ M) (h2 : M ≤ 65535) (one three f1 f3 np : Int32) (hf : ¬ 3 < f1) (px gt : A) : PStep3 n (W * H) M (nI W) (nI H) one three f1 f3 (lp (fun _ _ _ _ _ _ => fno) (F_X5_readSamples_32 sb) FU 0 (nI (W * H)) 0 (nI W, nI H, px) (Sr n p) (f1, nI M, f3, np)) (lp (fun _ _ _ _ => fno) (F_X11_readNumbers_16 sb) FU 1 0 (Mr n p (nI W) (nI H) one (nI M) three) gt) (KT sb) := by
  have q := lp_D (z := fun _ _ _ _ _ _ => fno) (f := F_X5_readSamples_32 sb) (z2 := fun _ _ _ _ => fno) (f2 := F_X11_readNumbers_16 sb) (fun m k1 k2 => ∀ (p d : Nat) (px gt : A) (np : Int32), d + m = W * H → p ≤ n → (∀ i, i < d → px i = gt i) → PStep3 n (W * H) M (nI W) (nI H) one three f1 f3 (k1 0 (nI (W * H)) (nI d) (nI W, nI H, px) (Sr n p) (f1, nI M, f3, np)) (k2 1 (nI d) (Mr n p (nI W) (nI H) one (nI M) three) gt) (KT sb)) ?_ (W * H) (by omega)
  · exact q p 0 px gt np (by omega) hp (fun i hi => absurd hi (by omega))
  · intro m k1 k2 ih p d px gt np hd hp hx
    unfold F_X5_readSamples_32 F_X11_readNumbers_16
    dsimp only [mr_gw, mr_gh]
    rw [pk_mul]
    by_cases c0 : m = 0
    · have : d = W * H := by omega
      subst this
      rw [if_pos (Int32.le_refl _), if_pos (Int32.le_refl _)]
      exact Or.inl ⟨p, px, gt, np, hp, rfl, rfl, hx⟩
    have fin : ∀ (q : Nat) (v np : Int32), q ≤ n → PStep3 n (W * H) M (nI W) (nI H) one three f1 f3 (fon (F_X7_set (nI d) v (nI W, nI H, px)) (fun z93 s93 => k1 0 (nI (W * H)) (nI d + 1) s93 (Sr n q) (f1, nI M, f3, np)) (fun _ _ => fno)) (if inb (nI d) 4096 then (k2 1 (nI d + 1) (Mr n q (nI W) (nI H) one (nI M) three) (upd gt (Int32.toNatClampNeg (nI d)) v)) else fno) (KT sb) := by
      intro q v np hq
      rw [ut_set (by omega), fon_fok, if_pos (inb_nI (by omega) (by omega)), nI_clamp (by omega), nI_1]
      dsimp only [x_w, x_g, x_p]
      exact ih (m - 1) (by omega) q (d + 1) _ _ np (by omega) hq (fun i hi => by
        unfold upd; split
        · rfl
        · exact hx i (by omega))
    rw [if_neg (nI_ge (by omega) (by omega)), if_neg (nI_ge (by omega) (by omega)), lp_5, n34_eq _ _ _ _ _ _ _ _ _ (by decide)]
    rcases samT sb hp hn h1 h2 (nI W) (nI H) one three f1 f3 np hf gt with ⟨q1, s1, np1, q1a, q1b, hs1, e1, e2⟩ | ⟨sc, pn, mr, e1, e2, hb⟩
    case inr => rw [e1, fon_fex, e2]; exact p3_bad rfl rfl hb
    rw [e1, fon_fok, e2, if_pos rfl]
    unfold F_X5_readSamples_60 F_X5_readSamples_76 F_X11_readNumbers_34 F_X11_readNumbers_132
    rw [if_pos rfl, if_pos (c := (1 : Int32) ≤ 0 + 1) (by decide), if_pos rfl, sh0 hs1]
    exact fin q1 _ np1 q1b
theorem pn_T1 {n W H p M : Nat} (sb : A) (hp : p ≤ n) (hn : n ≤ 65536) (hT : W * H ≤ 4096) (h1 : 1 ≤ M) (h2 : M ≤ 65535) (one three f1 f3 np : Int32) (hf : ¬ 3 < f1) (px gt : A) : PStep3 n (W * H) M (nI W) (nI H) one three f1 f3 (lp (fun _ _ _ _ _ _ => fno) (F_X5_readSamples_32 sb) FU 1 (nI (W * H)) 0 (nI W, nI H, px) (Sr n p) (f1, nI M, f3, np)) (lp (fun _ _ _ _ => fno) (F_X11_readNumbers_16 sb) FU 3 0 (Mr n p (nI W) (nI H) one (nI M) three) gt) (KT sb) := by
  have q := lp_D (z := fun _ _ _ _ _ _ => fno) (f := F_X5_readSamples_32 sb) (z2 := fun _ _ _ _ => fno) (f2 := F_X11_readNumbers_16 sb) (fun m k1 k2 => ∀ (p d : Nat) (px gt : A) (np : Int32), d + m = W * H → p ≤ n → (∀ i, i < d → px i = gt i) → PStep3 n (W * H) M (nI W) (nI H) one three f1 f3 (k1 1 (nI (W * H)) (nI d) (nI W, nI H, px) (Sr n p) (f1, nI M, f3, np)) (k2 3 (nI d) (Mr n p (nI W) (nI H) one (nI M) three) gt) (KT sb)) ?_ (W * H) (by omega)
  · exact q p 0 px gt np (by omega) hp (fun i hi => absurd hi (by omega))
  · intro m k1 k2 ih p d px gt np hd hp hx
    unfold F_X5_readSamples_32 F_X11_readNumbers_16
    dsimp only [mr_gw, mr_gh]
    rw [pk_mul]
    by_cases c0 : m = 0
    · have : d = W * H := by omega
      subst this
      rw [if_pos (Int32.le_refl _), if_pos (Int32.le_refl _)]
      exact Or.inl ⟨p, px, gt, np, hp, rfl, rfl, hx⟩
    have fin : ∀ (q : Nat) (v np : Int32), q ≤ n → PStep3 n (W * H) M (nI W) (nI H) one three f1 f3 (fon (F_X7_set (nI d) v (nI W, nI H, px)) (fun z93 s93 => k1 1 (nI (W * H)) (nI d + 1) s93 (Sr n q) (f1, nI M, f3, np)) (fun _ _ => fno)) (if inb (nI d) 4096 then (k2 3 (nI d + 1) (Mr n q (nI W) (nI H) one (nI M) three) (upd gt (Int32.toNatClampNeg (nI d)) v)) else fno) (KT sb) := by
      intro q v np hq
      rw [ut_set (by omega), fon_fok, if_pos (inb_nI (by omega) (by omega)), nI_clamp (by omega), nI_1]
      dsimp only [x_w, x_g, x_p]
      exact ih (m - 1) (by omega) q (d + 1) _ _ np (by omega) hq (fun i hi => by
        unfold upd; split
        · rfl
        · exact hx i (by omega))
    rw [if_neg (nI_ge (by omega) (by omega)), if_neg (nI_ge (by omega) (by omega)), lp_5, n34_eq _ _ _ _ _ _ _ _ _ (by decide)]
    rcases samT sb hp hn h1 h2 (nI W) (nI H) one three f1 f3 np hf gt with ⟨q1, s1, np1, q1a, q1b, hs1, e1, e2⟩ | ⟨sc, pn, mr, e1, e2, hb⟩
    case inr => rw [e1, fon_fex, e2]; exact p3_bad rfl rfl hb
    rw [e1, fon_fok, e2, if_neg (c := (1 : Int32) = 0) (by decide), n34_eq _ _ _ _ _ _ _ _ _ (by decide), sh0 hs1]
    dsimp only
    rcases samT sb q1b hn h1 h2 (nI W) (nI H) one three f1 f3 np1 hf gt with ⟨q2, s2, np2, q2a, q2b, hs2, e1, e2⟩ | ⟨sc, pn, mr, e1, e2, hb⟩
    case inr => rw [e1, fon_fex, e2]; exact p3_bad rfl rfl hb
    rw [e1, fon_fok, e2]
    unfold F_X5_readSamples_60
    rw [if_neg (c := (1 : Int32) = 0) (by decide), n34_eq _ _ _ _ _ _ _ _ _ (by decide), or8 hs2 (by omega)]
    dsimp only
    rcases samT sb q2b hn h1 h2 (nI W) (nI H) one three f1 f3 np2 hf gt with ⟨q3, s3, np3, q3a, q3b, hs3, e1, e2⟩ | ⟨sc, pn, mr, e1, e2, hb⟩
    case inr => rw [e1, fon_fex, e2]; exact p3_bad rfl rfl hb
    rw [e1, fon_fok, e2]
    unfold F_X5_readSamples_76 F_X11_readNumbers_34 F_X11_readNumbers_132
    rw [if_pos (c := (3 : Int32) ≤ 0 + 1 + 1 + 1) (by decide), if_neg (c := (3 : Int32) = 1) (by decide), or8 hs3 (by omega), show (255 : Int32) = nI 255 from rfl, or8 (by omega) (by omega), mix_eq, mixN hs1 hs2 hs3 (by omega)]
    exact fin q3 _ np3 q3b
theorem pn_B0 {n W H p M : Nat} (sb : A) (hp : p ≤ n) (hn : n ≤ 65536) (hT : W * H ≤ 4096) (h1 : 1 ≤ M) (h2 : M ≤ 65535) (one three f1 f3 np : Int32) (hf : 3 < f1) (px gt : A) : PStep3 n (W * H) M (nI W) (nI H) one three f1 f3 (lp (fun _ _ _ _ _ _ => fno) (F_X5_readSamples_32 sb) FU 0 (nI (W * H)) 0 (nI W, nI H, px) (Sr n p) (f1, nI M, f3, np)) (lp (fun _ _ _ _ _ => fno) (F_X11_readSamples_32 sb) FU 1 (if 256 ≤ M then 2 else 1) 0 (Mr n p (nI W) (nI H) one (nI M) three) gt) KB := by
  have q := lp_D (z := fun _ _ _ _ _ _ => fno) (f := F_X5_readSamples_32 sb) (z2 := fun _ _ _ _ _ => fno) (f2 := F_X11_readSamples_32 sb) (fun m k1 k2 => ∀ (p d : Nat) (px gt : A) (np : Int32), d + m = W * H → p ≤ n → (∀ i, i < d → px i = gt i) → PStep3 n (W * H) M (nI W) (nI H) one three f1 f3 (k1 0 (nI (W * H)) (nI d) (nI W, nI H, px) (Sr n p) (f1, nI M, f3, np)) (k2 1 (if 256 ≤ M then 2 else 1) (nI d) (Mr n p (nI W) (nI H) one (nI M) three) gt) KB) ?_ (W * H) (by omega)
  · exact q p 0 px gt np (by omega) hp (fun i hi => absurd hi (by omega))
  · intro m k1 k2 ih p d px gt np hd hp hx
    unfold F_X5_readSamples_32 F_X11_readSamples_32
    dsimp only [mr_gw, mr_gh]
    rw [pk_mul]
    by_cases c0 : m = 0
    · have : d = W * H := by omega
      subst this
      rw [if_pos (Int32.le_refl _), if_pos (Int32.le_refl _)]
      exact Or.inl ⟨p, px, gt, np, hp, rfl, rfl, hx⟩
    have fin : ∀ (q : Nat) (v np : Int32), q ≤ n → PStep3 n (W * H) M (nI W) (nI H) one three f1 f3 (fon (F_X7_set (nI d) v (nI W, nI H, px)) (fun z93 s93 => k1 0 (nI (W * H)) (nI d + 1) s93 (Sr n q) (f1, nI M, f3, np)) (fun _ _ => fno)) (if inb (nI d) 4096 then (k2 1 (if 256 ≤ M then 2 else 1) (nI d + 1) (Mr n q (nI W) (nI H) one (nI M) three) (upd gt (Int32.toNatClampNeg (nI d)) v)) else fno) KB := by
      intro q v np hq
      rw [ut_set (by omega), fon_fok, if_pos (inb_nI (by omega) (by omega)), nI_clamp (by omega), nI_1]
      dsimp only [x_w, x_g, x_p]
      exact ih (m - 1) (by omega) q (d + 1) _ _ np (by omega) hq (fun i hi => by
        unfold upd; split
        · rfl
        · exact hx i (by omega))
    rw [if_neg (nI_ge (by omega) (by omega)), if_neg (nI_ge (by omega) (by omega)), lp_5, s51_eq _ _ _ _ _ _ _ _ _ _ (by decide)]
    rcases samB sb hp hn h1 h2 (nI W) (nI H) one three f1 f3 np hf gt with ⟨q1, s1, np1, q1a, q1b, hs1, e1, e2⟩ | ⟨sc, pn, mr, e1, e2, hb⟩
    case inr => rw [e1, fon_fex, e2]; exact p3_bad rfl rfl hb
    rw [e1, fon_fok, e2, if_pos rfl]
    unfold F_X5_readSamples_60 F_X5_readSamples_76 F_X11_readSamples_51 F_X11_readSamples_159
    rw [if_pos rfl, if_pos (c := (1 : Int32) ≤ 0 + 1) (by decide), if_pos rfl, sh0 hs1]
    exact fin q1 _ np1 q1b
theorem pn_B1 {n W H p M : Nat} (sb : A) (hp : p ≤ n) (hn : n ≤ 65536) (hT : W * H ≤ 4096) (h1 : 1 ≤ M) (h2 : M ≤ 65535) (one three f1 f3 np : Int32) (hf : 3 < f1) (px gt : A) : PStep3 n (W * H) M (nI W) (nI H) one three f1 f3 (lp (fun _ _ _ _ _ _ => fno) (F_X5_readSamples_32 sb) FU 1 (nI (W * H)) 0 (nI W, nI H, px) (Sr n p) (f1, nI M, f3, np)) (lp (fun _ _ _ _ _ => fno) (F_X11_readSamples_32 sb) FU 3 (if 256 ≤ M then 2 else 1) 0 (Mr n p (nI W) (nI H) one (nI M) three) gt) KB := by
  have q := lp_D (z := fun _ _ _ _ _ _ => fno) (f := F_X5_readSamples_32 sb) (z2 := fun _ _ _ _ _ => fno) (f2 := F_X11_readSamples_32 sb) (fun m k1 k2 => ∀ (p d : Nat) (px gt : A) (np : Int32), d + m = W * H → p ≤ n → (∀ i, i < d → px i = gt i) → PStep3 n (W * H) M (nI W) (nI H) one three f1 f3 (k1 1 (nI (W * H)) (nI d) (nI W, nI H, px) (Sr n p) (f1, nI M, f3, np)) (k2 3 (if 256 ≤ M then 2 else 1) (nI d) (Mr n p (nI W) (nI H) one (nI M) three) gt) KB) ?_ (W * H) (by omega)
  · exact q p 0 px gt np (by omega) hp (fun i hi => absurd hi (by omega))
  · intro m k1 k2 ih p d px gt np hd hp hx
    unfold F_X5_readSamples_32 F_X11_readSamples_32
    dsimp only [mr_gw, mr_gh]
    rw [pk_mul]
    by_cases c0 : m = 0
    · have : d = W * H := by omega
      subst this
      rw [if_pos (Int32.le_refl _), if_pos (Int32.le_refl _)]
      exact Or.inl ⟨p, px, gt, np, hp, rfl, rfl, hx⟩
    have fin : ∀ (q : Nat) (v np : Int32), q ≤ n → PStep3 n (W * H) M (nI W) (nI H) one three f1 f3 (fon (F_X7_set (nI d) v (nI W, nI H, px)) (fun z93 s93 => k1 1 (nI (W * H)) (nI d + 1) s93 (Sr n q) (f1, nI M, f3, np)) (fun _ _ => fno)) (if inb (nI d) 4096 then (k2 3 (if 256 ≤ M then 2 else 1) (nI d + 1) (Mr n q (nI W) (nI H) one (nI M) three) (upd gt (Int32.toNatClampNeg (nI d)) v)) else fno) KB := by
      intro q v np hq
      rw [ut_set (by omega), fon_fok, if_pos (inb_nI (by omega) (by omega)), nI_clamp (by omega), nI_1]
      dsimp only [x_w, x_g, x_p]
      exact ih (m - 1) (by omega) q (d + 1) _ _ np (by omega) hq (fun i hi => by
        unfold upd; split
        · rfl
        · exact hx i (by omega))
    rw [if_neg (nI_ge (by omega) (by omega)), if_neg (nI_ge (by omega) (by omega)), lp_5, s51_eq _ _ _ _ _ _ _ _ _ _ (by decide)]
    rcases samB sb hp hn h1 h2 (nI W) (nI H) one three f1 f3 np hf gt with ⟨q1, s1, np1, q1a, q1b, hs1, e1, e2⟩ | ⟨sc, pn, mr, e1, e2, hb⟩
    case inr => rw [e1, fon_fex, e2]; exact p3_bad rfl rfl hb
    rw [e1, fon_fok, e2, if_neg (c := (1 : Int32) = 0) (by decide), s51_eq _ _ _ _ _ _ _ _ _ _ (by decide), sh0 hs1]
    dsimp only
    rcases samB sb q1b hn h1 h2 (nI W) (nI H) one three f1 f3 np1 hf gt with ⟨q2, s2, np2, q2a, q2b, hs2, e1, e2⟩ | ⟨sc, pn, mr, e1, e2, hb⟩
    case inr => rw [e1, fon_fex, e2]; exact p3_bad rfl rfl hb
    rw [e1, fon_fok, e2]
    unfold F_X5_readSamples_60
    rw [if_neg (c := (1 : Int32) = 0) (by decide), s51_eq _ _ _ _ _ _ _ _ _ _ (by decide), or8 hs2 (by omega)]
    dsimp only
    rcases samB sb q2b hn h1 h2 (nI W) (nI H) one three f1 f3 np2 hf gt with ⟨q3, s3, np3, q3a, q3b, hs3, e1, e2⟩ | ⟨sc, pn, mr, e1, e2, hb⟩
    case inr => rw [e1, fon_fex, e2]; exact p3_bad rfl rfl hb
    rw [e1, fon_fok, e2]
    unfold F_X5_readSamples_76 F_X11_readSamples_51 F_X11_readSamples_159
    rw [if_pos (c := (3 : Int32) ≤ 0 + 1 + 1 + 1) (by decide), if_neg (c := (3 : Int32) = 1) (by decide), or8 hs3 (by omega), show (255 : Int32) = nI 255 from rfl, or8 (by omega) (by omega), mix_eq, mixN hs1 hs2 hs3 (by omega)]
    exact fin q3 _ np3 q3b
