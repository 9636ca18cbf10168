/-- the colours among the first k, by first appearance -/
def dl (f : A) : Nat → List Int32
  | 0 => []
  | k + 1 => if f k ∈ dl f k then dl f k else dl f k ++ [f k]
theorem dl_s (f : A) (k : Nat) : dl f (k + 1) = if f k ∈ dl f k then dl f k else dl f k ++ [f k] := rfl
theorem dl_len (f : A) : ∀ k, (dl f k).length ≤ k
  | 0 => Nat.le_refl _
  | k + 1 => by
    have := dl_len f k
    unfold dl
    split
    · omega
    · rw [List.length_append]; simp; omega
theorem dl_nd (f : A) : ∀ k, (dl f k).Nodup
  | 0 => List.nodup_nil
  | k + 1 => by
    have := dl_nd f k
    unfold dl
    split
    · exact this
    · rename_i h
      rw [List.nodup_append]
      refine ⟨this, by simp, ?_⟩
      intro a ha b hb e
      rw [List.mem_singleton] at hb
      subst e; subst hb
      exact h ha
theorem dl_mem (f : A) {v : Int32} : ∀ k, v ∈ dl f k ↔ ∃ j, j < k ∧ f j = v
  | 0 => ⟨fun h => absurd h List.not_mem_nil, fun ⟨j, h, _⟩ => absurd h (by omega)⟩
  | k + 1 => by
    have ih := dl_mem f (v := v) k
    unfold dl
    split
    · rename_i h
      rw [ih]
      constructor
      · intro ⟨j, hj, e⟩; exact ⟨j, by omega, e⟩
      · intro ⟨j, hj, e⟩
        by_cases c : j = k
        · subst c; subst e
          exact ih.mp h
        · exact ⟨j, by omega, e⟩
    · rw [List.mem_append, List.mem_singleton, ih]
      constructor
      · rintro (⟨j, hj, e⟩ | e)
        · exact ⟨j, by omega, e⟩
        · exact ⟨k, by omega, e.symm⟩
      · intro ⟨j, hj, e⟩
        by_cases c : j = k
        · subst c; exact Or.inr e.symm
        · exact Or.inl ⟨j, by omega, e⟩
theorem dl_cong {f g : A} : ∀ {k : Nat}, (∀ j, j < k → f j = g j) → dl f k = dl g k
  | 0, _ => rfl
  | k + 1, h => by
    unfold dl
    rw [dl_cong (k := k) (fun j hj => h j (by omega)), h k (by omega)]
/-- a list in cells -/
def inA (l : List Int32) (f : A) : Prop := ∀ j, j < l.length → f j = l.getD j 0
theorem inA_snoc {l : List Int32} {f : A} (h : inA l f) (v : Int32) : inA (l ++ [v]) (upd f l.length v) := by
  intro j hj
  rw [List.length_append] at hj
  simp at hj
  by_cases c : j = l.length
  · subst c; rw [pk_us]; simp [List.getD_eq_getElem?_getD]
  · rw [pk_un c, h j (by omega), List.getD_eq_getElem?_getD, List.getD_eq_getElem?_getD, List.getElem?_append_left (by omega)]
theorem getD_mem {l : List Int32} {j : Nat} (h : j < l.length) : l.getD j 0 ∈ l := by
  rw [List.getD_eq_getElem?_getD, List.getElem?_eq_getElem h]
  exact List.getElem_mem h
theorem getD_inj {l : List Int32} (h : l.Nodup) {i j : Nat} (hi : i < l.length) (hj : j < l.length) (e : l.getD i 0 = l.getD j 0) : i = j := by
  rw [List.getD_eq_getElem?_getD, List.getElem?_eq_getElem hi, List.getD_eq_getElem?_getD, List.getElem?_eq_getElem hj] at e
  exact (List.getElem_inj h).mp e
theorem mem_getD {l : List Int32} {v : Int32} (h : v ∈ l) : ∃ j, j < l.length ∧ l.getD j 0 = v := by
  obtain ⟨j, hj, e⟩ := List.mem_iff_getElem.mp h
  exact ⟨j, hj, by rw [List.getD_eq_getElem?_getD, List.getElem?_eq_getElem hj]; exact e⟩
/-- where a colour's walk begins -/
def hsh (v : Int32) : Int32 := us ((((v ^^^ (us v 15)) * 739982445) ^^^ (us ((v ^^^ (us v 15)) * 739982445) 12)) * 695872825) 19
def hs (v : Int32) : Nat := (hsh v).toBitVec.toNat
theorem hs_lt (v : Int32) : hs v < 8192 := by
  unfold hs hsh
  rw [us_tn _ 19 19 (by decide)]
  have := tn_lt ((((v ^^^ (us v 15)) * 739982445) ^^^ (us ((v ^^^ (us v 15)) * 739982445) 12)) * 695872825)
  omega
theorem nI_tn (x : Int32) : nI x.toBitVec.toNat = x := by
  apply Int32.toBitVec_inj.mp
  apply BitVec.eq_of_toNat_eq
  exact pk_tn (tn_lt x)
theorem hs_nI (v : Int32) : hsh v = nI (hs v) := (nI_tn _).symm
def wk (v : Int32) (t : Nat) : Nat := (hs v + t) % 8192
theorem wk_lt (v : Int32) (t : Nat) : wk v t < 8192 := Nat.mod_lt _ (by decide)
theorem wk_s (v : Int32) (t : Nat) : (nI (wk v t) + 1) &&& 8191 = nI (wk v (t + 1)) := by
  have := wk_lt v t
  rw [nI_1, pk_andN (by omega) (m := 8191) 13 rfl]
  congr 1
  unfold wk
  omega
/-- a table that holds the list's places -/
def Tab (l : List Int32) (sl : A) : Prop := (∀ s, s < 8192 → sl s = 0 ∨ ∃ j, j < l.length ∧ sl s = nI (j + 1)) ∧ (∀ j, j < l.length → ∃ t, t < 8192 ∧ sl (wk (l.getD j 0) t) = nI (j + 1) ∧ ∀ u, u < t → sl (wk (l.getD j 0) u) ≠ 0)
theorem wk_0 (v : Int32) : wk v 0 = hs v := by unfold wk; rw [Nat.add_zero]; exact Nat.mod_eq_of_lt (hs_lt v)
def cnt (sl : A) : Nat → Nat
  | 0 => 0
  | k + 1 => cnt sl k + if sl k = 0 then 0 else 1
theorem cnt_upd (sl : A) (s : Nat) (v : Int32) : ∀ k, cnt (upd sl s v) k ≤ cnt sl k + if s < k then 1 else 0
  | 0 => Nat.zero_le _
  | k + 1 => by
    have ih := cnt_upd sl s v k
    unfold cnt
    by_cases c : k = s
    · subst c
      rw [if_neg (by omega)] at ih
      rw [if_pos (by omega : k < k + 1), pk_us]
      split <;> split <;> omega
    · rw [pk_un c]
      split <;> split at ih <;> split <;> omega
theorem cnt_free {sl : A} : ∀ {k : Nat}, cnt sl k < k → ∃ s, s < k ∧ sl s = 0
  | 0, h => absurd h (by omega)
  | k + 1, h => by
    unfold cnt at h
    by_cases c : sl k = 0
    · exact ⟨k, by omega, c⟩
    · rw [if_neg c] at h
      obtain ⟨s, hs, e⟩ := cnt_free (sl := sl) (k := k) (by omega)
      exact ⟨s, by omega, e⟩
theorem cnt_0 : ∀ k, cnt (fun _ => 0) k = 0
  | 0 => rfl
  | k + 1 => by unfold cnt; rw [cnt_0 k, if_pos rfl]
theorem cnt_cong {f g : A} : ∀ {k : Nat}, (∀ j, j < k → f j = g j) → cnt f k = cnt g k
  | 0, _ => rfl
  | k + 1, h => by unfold cnt; rw [cnt_cong (k := k) (fun j hj => h j (by omega)), h k (by omega)]
theorem ut_slot (n : Int32) (col sl : A) (l : List Int32) (hl : l.length ≤ 4096) (hc : inA l col) (hT : ∀ s, s < 8192 → sl s = 0 ∨ ∃ j, j < l.length ∧ sl s = nI (j + 1)) (v : Int32) (t : Nat) (ht : t < 8192) (h1 : sl (wk v t) = 0 ∨ ∃ j, j < l.length ∧ sl (wk v t) = nI (j + 1) ∧ l.getD j 0 = v) (h2 : ∀ u, u < t → ∃ j, j < l.length ∧ sl (wk v u) = nI (j + 1) ∧ l.getD j 0 ≠ v) :
    F_X3_slotOf v (n, col, sl) = fok (nI (wk v t)) () := by
  unfold F_X3_slotOf
  have q := lp_M (z := fun _ _ _ => fno) (f := F_X3_slotOf_26 (n, col, sl)) (fun m k => ∀ u, u + m = t → k v (nI (wk v u)) (nI u) = fok (nI (wk v t)) ()) ?_ t (by omega)
  · have := q 0 (by omega)
    rw [wk_0, ← hs_nI] at this
    exact this
  · intro m k ih u hu
    have hw := wk_lt v u
    unfold F_X3_slotOf_26 F_X3_slotOf_60
    dsimp only [pl_slot, pl_col]
    rw [if_neg (by (simp (disch := omega) only [nI_toInt, Int32.lt_iff_toInt_lt, Int32.le_iff_toInt_le, ← Int32.toInt_inj, Int32.reduceToInt]; omega)), if_pos (inb_nI hw (by omega)), nI_clamp (by omega)]
    by_cases c0 : m = 0
    · have : u = t := by omega
      subst this
      rcases h1 with h1 | ⟨j, hj, h1, e⟩
      · rw [if_pos (by rw [h1]; decide)]
      · have h5 : sl (wk v u) - 1 = nI j := by rw [h1, nI_pred]
        rw [if_neg (by rw [h5]; exact nI_pos (by omega)), if_pos (by rw [h5]; exact inb_nI (by omega) (by omega)), if_pos (by rw [h5, nI_clamp (by omega), hc j hj]; exact e)]
    · obtain ⟨j, hj, h3, e⟩ := h2 u (by omega)
      have h5 : sl (wk v u) - 1 = nI j := by rw [h3, nI_pred]
      rw [if_neg (by rw [h5]; exact nI_pos (by omega)), if_pos (by rw [h5]; exact inb_nI (by omega) (by omega)), if_neg (by rw [h5, nI_clamp (by omega), hc j hj]; exact e), wk_s, nI_1]
      exact ih (m - 1) (by omega) (u + 1) (by omega)
/-- the walk finds the colour -/
theorem ut_found (n : Int32) {col sl : A} {l : List Int32} (hl : l.length ≤ 4096) (hn : l.Nodup) (hc : inA l col) (hT : Tab l sl) {j : Nat} (hj : j < l.length) : ∃ t, t < 8192 ∧ F_X3_slotOf (l.getD j 0) (n, col, sl) = fok (nI (wk (l.getD j 0) t)) () ∧ sl (wk (l.getD j 0) t) = nI (j + 1) := by
  obtain ⟨t, ht, e, hu⟩ := hT.2 j hj
  obtain ⟨t2, ⟨ht2, e2⟩, hm⟩ := pk_least (fun t => t < 8192 ∧ sl (wk (l.getD j 0) t) = nI (j + 1)) ⟨t, ht, e⟩
  have hle : t2 ≤ t := by
    rcases Nat.lt_or_ge t t2 with c | c
    · exact absurd ⟨ht, e⟩ (hm t c)
    · exact c
  refine ⟨t2, ht2, ?_, e2⟩
  refine ut_slot n col sl l hl hc hT.1 _ t2 ht2 (Or.inr ⟨j, hj, e2, rfl⟩) (fun u hut => ?_)
  rcases hT.1 _ (wk_lt (l.getD j 0) u) with z | ⟨i, hi, ei⟩
  · exact absurd z (hu u (by omega))
  · refine ⟨i, hi, ei, fun ev => ?_⟩
    have : i = j := getD_inj hn hi hj ev
    subst this
    exact hm u hut ⟨by omega, ei⟩
/-- the walk of a new colour ends at a free slot -/
theorem ut_new (n : Int32) {col sl : A} {l : List Int32} (hl : l.length ≤ 4096) (hc : inA l col) (hT : Tab l sl) (hf : ∃ s, s < 8192 ∧ sl s = 0) {v : Int32} (hv : v ∉ l) : ∃ t, t < 8192 ∧ F_X3_slotOf v (n, col, sl) = fok (nI (wk v t)) () ∧ sl (wk v t) = 0 ∧ ∀ u, u < t → sl (wk v u) ≠ 0 := by
  obtain ⟨s, hs8, es⟩ := hf
  have hh := hs_lt v
  have hex : ∃ t, t < 8192 ∧ sl (wk v t) = 0 := by
    refine ⟨(s + 8192 - hs v) % 8192, Nat.mod_lt _ (by decide), ?_⟩
    rw [show wk v ((s + 8192 - hs v) % 8192) = s from by unfold wk; omega]
    exact es
  obtain ⟨t, ⟨ht, e⟩, hm⟩ := pk_least (fun t => t < 8192 ∧ sl (wk v t) = 0) hex
  have hu : ∀ u, u < t → sl (wk v u) ≠ 0 := fun u hu z => hm u hu ⟨by omega, z⟩
  refine ⟨t, ht, ?_, e, hu⟩
  refine ut_slot n col sl l hl hc hT.1 v t ht (Or.inl e) (fun u hut => ?_)
  rcases hT.1 _ (wk_lt v u) with z | ⟨i, hi, ei⟩
  · exact absurd z (hu u hut)
  · exact ⟨i, hi, ei, fun ev => hv (ev ▸ getD_mem hi)⟩
theorem Tab_snoc {sl : A} {l : List Int32} (hl : l.length ≤ 4096) (hT : Tab l sl) {v : Int32} {t : Nat} (ht : t < 8192) (h0 : sl (wk v t) = 0) (hu : ∀ u, u < t → sl (wk v u) ≠ 0) : Tab (l ++ [v]) (upd sl (wk v t) (nI (l.length + 1))) := by
  have hlen : (l ++ [v]).length = l.length + 1 := by simp
  refine ⟨fun s hs => ?_, fun j hj => ?_⟩
  · by_cases c : s = wk v t
    · subst c; rw [pk_us]; exact Or.inr ⟨l.length, by omega, rfl⟩
    · rw [pk_un c]
      rcases hT.1 s hs with z | ⟨j, hj, e⟩
      · exact Or.inl z
      · exact Or.inr ⟨j, by omega, e⟩
  · have keep : ∀ s, sl s ≠ 0 → upd sl (wk v t) (nI (l.length + 1)) s = sl s := fun s hs => pk_un (fun e => hs (e ▸ h0))
    by_cases c : j = l.length
    · subst c
      have ev : (l ++ [v]).getD l.length 0 = v := by simp [List.getD_eq_getElem?_getD]
      rw [ev]
      refine ⟨t, ht, pk_us, fun u hut => ?_⟩
      rw [keep _ (hu u hut)]
      exact hu u hut
    · have ev : (l ++ [v]).getD j 0 = l.getD j 0 := by rw [List.getD_eq_getElem?_getD, List.getD_eq_getElem?_getD, List.getElem?_append_left (by omega)]
      rw [ev]
      obtain ⟨t2, h2, e2, hu2⟩ := hT.2 j (by omega)
      by_cases cz : nI (j + 1) = 0
      · exact absurd cz (nI_ne0 (by omega) (by have := hlen; omega))
      · refine ⟨t2, h2, ?_, fun u hut => ?_⟩
        · rw [keep _ (by rw [e2]; exact cz)]; exact e2
        · rw [keep _ (hu2 u hut)]; exact hu2 u hut
/-- a palette that holds the colours of l -/
def PalI (l : List Int32) (pl : Pal) : Prop := pl_n pl = nI l.length ∧ inA l (pl_col pl) ∧ Tab l (pl_slot pl)
theorem ut_gather {x : Ras} {W H : Nat} (b1 : x_w x = nI W) (b2 : x_g x = nI H) (hp : W * H ≤ 4096) (pl : Pal) : ∃ pl2, F_X3_gather x pl = fok () pl2 ∧ PalI (dl (x_p x) (W * H)) pl2 := by
  unfold F_X3_gather
  rw [ut_count b1 b2, fon_fok]
  obtain ⟨K, hK⟩ : ∃ K : Nat, K = 8192 := ⟨_, rfl⟩
  have q := lp_M (z := fun _ _ _ => fno) (f := F_X3_gather_20 x) (fun m k => ∀ j pl, j + m = W * H → PalI (dl (x_p x) j) pl → cnt (pl_slot pl) K ≤ j → ∃ pl2, k (nI (W * H)) (nI j) pl = fok () pl2 ∧ PalI (dl (x_p x) (W * H)) pl2) ?_ (W * H) (by omega)
  · refine q 0 _ (by omega) ⟨rfl, fun j hj => absurd hj (by simp [dl]), fun s hs => Or.inl ?_, fun j hj => absurd hj (by simp [dl])⟩ ?_
    · show fillN _ 8192 0 s = 0
      unfold fillN; rw [if_pos hs]
    · show cnt (fillN _ 8192 0) K ≤ 0
      rw [cnt_cong (g := fun _ => 0) (fun j hj => by unfold fillN; rw [if_pos (by omega)]), cnt_0]
      exact Nat.le_refl _
  · intro m k ih j pl hj hP hcnt
    obtain ⟨n, col, sl⟩ := pl
    obtain ⟨p1, p2, p3⟩ := hP
    dsimp only [pl_n, pl_col, pl_slot] at p1 p2 p3 hcnt
    subst p1
    have hlen := dl_len (x_p x) j
    unfold F_X3_gather_20
    by_cases c0 : m = 0
    · have : j = W * H := by omega
      subst this
      rw [if_pos (nI_le (by omega) (by omega))]
      exact ⟨_, rfl, rfl, p2, p3⟩
    · rw [if_neg (nI_ge (by omega) (by omega)), ut_get (by omega), fon_fok]
      by_cases c : x_p x j ∈ dl (x_p x) j
      · obtain ⟨i, hi, ei⟩ := mem_getD c
        obtain ⟨t, ht, e1, e2⟩ := ut_found (nI (dl (x_p x) j).length) (by omega) (dl_nd (x_p x) j) p2 p3 hi
        rw [ei] at e1 e2
        have hw := wk_lt (x_p x j) t
        rw [e1, fon_fok, if_pos (inb_nI hw (by omega))]
        dsimp only [pl_slot, pl_n, pl_col]
        rw [nI_clamp (by omega), if_neg (by rw [e2]; exact nI_ne0 (by omega) (by omega))]
        unfold F_X3_gather_92
        rw [nI_1]
        refine ih (m - 1) (by omega) (j + 1) _ (by omega) ?_ (by dsimp only [pl_slot]; omega)
        rw [dl_s, if_pos c]
        exact ⟨rfl, p2, p3⟩
      · obtain ⟨t, ht, e1, e2, e3⟩ := ut_new (nI (dl (x_p x) j).length) (by omega) p2 p3 (by obtain ⟨s, hs1, hs2⟩ := cnt_free (sl := sl) (k := K) (by omega); exact ⟨s, by omega, hs2⟩) c
        have hw := wk_lt (x_p x j) t
        rw [e1, fon_fok, if_pos (inb_nI hw (by omega))]
        dsimp only [pl_slot, pl_n, pl_col]
        rw [nI_clamp (by omega), if_pos e2, if_neg (by (simp (disch := omega) only [nI_toInt, Int32.lt_iff_toInt_lt, Int32.le_iff_toInt_le, ← Int32.toInt_inj, Int32.reduceToInt]; omega)), if_pos (inb_nI (by omega) (by omega)), if_pos (inb_nI hw (by omega)), nI_clamp (by omega)]
        unfold F_X3_gather_92
        rw [nI_1, nI_1]
        refine ih (m - 1) (by omega) (j + 1) _ (by omega) ?_ ?_
        · rw [dl_s, if_neg c]
          refine ⟨?_, inA_snoc p2 _, Tab_snoc (by omega) p3 ht e2 e3⟩
          show nI _ = nI _
          simp
        · have h1 := cnt_upd sl (wk (x_p x j) t) (nI ((dl (x_p x) j).length + 1)) K
          rw [if_pos (by omega)] at h1
          dsimp only [pl_slot]
          omega
theorem ut_number {l : List Int32} {pl : Pal} (hP : PalI l pl) (hl : l.length ≤ 4096) (hn : l.Nodup) {j : Nat} (hj : j < l.length) : F_X3_numberOf (l.getD j 0) pl = fok (nI j) () := by
  obtain ⟨n, col, sl⟩ := pl
  obtain ⟨p1, p2, p3⟩ := hP
  dsimp only [pl_n, pl_col, pl_slot] at p1 p2 p3
  obtain ⟨t, ht, e1, e2⟩ := ut_found n hl hn p2 p3 hj
  have hw := wk_lt (l.getD j 0) t
  unfold F_X3_numberOf
  rw [e1, fon_fok, if_pos (inb_nI hw (by omega))]
  dsimp only [pl_slot]
  rw [nI_clamp (by omega), e2, nI_pred]
  unfold iMax
  rw [if_neg (nI_pos (by omega))]
theorem ut_palget {l : List Int32} {pl : Pal} (hP : PalI l pl) (hl : l.length ≤ 4096) {j : Nat} (hj : j < l.length) : F_X3_get (nI j) pl = fok (l.getD j 0) () := by
  obtain ⟨p1, p2, p3⟩ := hP
  unfold F_X3_get
  rw [p1, if_neg (nI_pos (by omega)), if_neg (nI_ge hj (by omega)), if_pos (inb_nI (by omega) (by omega)), nI_clamp (by omega), p2 j hj]
theorem ut_palget0 {l : List Int32} {pl : Pal} (hP : PalI l pl) (hl : l.length ≤ 4096) {j : Nat} (hj : l.length ≤ j) (h31 : j < 2 ^ 31) : F_X3_get (nI j) pl = fok 0 () := by
  obtain ⟨p1, p2, p3⟩ := hP
  unfold F_X3_get F_X3_get_21
  rw [p1, if_neg (nI_pos (by omega)), if_pos (nI_le hj (by omega))]
