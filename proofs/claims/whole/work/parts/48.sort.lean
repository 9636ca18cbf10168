def kid (i c : Nat) : Prop := c = 2 * i + 1 ∨ c = 2 * i + 2
def heap (sr : A) (k n : Nat) : Prop := ∀ i c, k ≤ i → kid i c → c < n → (sr c).toInt ≤ (sr i).toInt
def vs (g : A) (n : Nat) (u : Int32) : Prop := ∃ i, i < n ∧ g i = u
/-- a heap from k on but for the hole p, where v will stand -/
def hole (s0 sr : A) (k n p : Nat) (v : Int32) : Prop := k ≤ p ∧ p < n ∧ (∀ i c, k ≤ i → i ≠ p → kid i c → c < n → c ≠ p → (sr c).toInt ≤ (sr i).toInt) ∧ (∀ q, k ≤ q → kid q p → v.toInt ≤ (sr q).toInt ∧ ∀ c, kid p c → c < n → (sr c).toInt ≤ (sr q).toInt) ∧ (∀ u, (u = v ∨ ∃ i, i < n ∧ i ≠ p ∧ sr i = u) ↔ vs s0 n u) ∧ ∀ j, n ≤ j → sr j = s0 j
def sfd (s0 sr : A) (k n : Nat) : Prop := heap sr k n ∧ (∀ u, vs sr n u ↔ vs s0 n u) ∧ ∀ j, n ≤ j → sr j = s0 j
theorem hole_end {s0 sr : A} {k n p : Nat} {v : Int32} (h : hole s0 sr k n p v) (hE : ∀ c, kid p c → c < n → (sr c).toInt ≤ v.toInt) : sfd s0 (upd sr p v) k n := by
  obtain ⟨h1, h2, hA, hB, hC, hD⟩ := h
  refine ⟨fun i c hi hk hc => ?_, fun u => ?_, fun j hj => ?_⟩
  · by_cases ci : i = p
    · subst ci
      rw [pk_us, pk_un (by unfold kid at hk; omega)]
      exact hE c hk hc
    · rw [pk_un ci]
      by_cases cc : c = p
      · subst cc; rw [pk_us]; exact (hB i hi hk).1
      · rw [pk_un cc]; exact hA i c hi ci hk hc cc
  · rw [← hC u]
    constructor
    · intro ⟨i, hi, e⟩
      by_cases ci : i = p
      · subst ci; rw [pk_us] at e; exact Or.inl e.symm
      · rw [pk_un ci] at e; exact Or.inr ⟨i, hi, ci, e⟩
    · rintro (e | ⟨i, hi, ci, e⟩)
      · exact ⟨p, h2, by rw [pk_us]; exact e.symm⟩
      · exact ⟨i, hi, by rw [pk_un ci]; exact e⟩
  · rw [pk_un (by omega)]; exact hD j hj
theorem hole_move {s0 sr : A} {k n p c : Nat} {v : Int32} (h : hole s0 sr k n p v) (hc : kid p c) (hcn : c < n) (hv : v.toInt < (sr c).toInt) (hm : ∀ d, kid p d → d < n → (sr d).toInt ≤ (sr c).toInt) : hole s0 (upd sr p (sr c)) k n c v := by
  obtain ⟨h1, h2, hA, hB, hC, hD⟩ := h
  have hpc : p < c := by unfold kid at hc; omega
  refine ⟨by omega, hcn, fun i d hi ci hk hd cd => ?_, fun q hq hk => ?_, fun u => ?_, fun j hj => ?_⟩
  · by_cases cp : i = p
    · subst cp
      rw [pk_us, pk_un (by unfold kid at hk; omega)]
      exact hm d hk hd
    · rw [pk_un cp]
      by_cases dp : d = p
      · subst dp; rw [pk_us]; exact (hB i hi hk).2 c hc hcn
      · rw [pk_un dp]; exact hA i d hi cp hk hd dp
  · have : q = p := by unfold kid at hc hk; omega
    subst this
    rw [pk_us]
    refine ⟨by omega, fun d hd hdn => ?_⟩
    have : c < d := by unfold kid at hd; omega
    rw [pk_un (by omega)]
    exact hA c d (by omega) (by omega) hd hdn (by omega)
  · rw [← hC u]
    constructor
    · rintro (e | ⟨i, hi, ci, e⟩)
      · exact Or.inl e
      · by_cases cp : i = p
        · subst cp; rw [pk_us] at e; exact Or.inr ⟨c, hcn, by omega, e⟩
        · rw [pk_un cp] at e; exact Or.inr ⟨i, hi, cp, e⟩
    · rintro (e | ⟨i, hi, ci, e⟩)
      · exact Or.inl e
      · by_cases cc : i = c
        · subst cc; exact Or.inr ⟨p, h2, by omega, by rw [pk_us]; exact e⟩
        · exact Or.inr ⟨i, hi, cc, by rw [pk_un ci]; exact e⟩
  · rw [pk_un (by omega)]; exact hD j hj
theorem sift_64 {s0 sr : A} {k n p c : Nat} {v : Int32} (hn : n ≤ 4096) (h : hole s0 sr k n p v) (hc : kid p c) (hcn : c < n) (hm : ∀ d, kid p d → d < n → (sr d).toInt ≤ (sr c).toInt) (kf : Int32 → Int32 → Int32 → Int32 → A → Out A Unit) (k0 : ∀ p sr, p < 4096 → kf (nI n) (nI p) v 0 sr = fok () (upd sr p v)) (k1 : ∀ sr, hole s0 sr k n c v → ∃ s2, kf (nI n) (nI c) v 1 sr = fok () s2 ∧ sfd s0 s2 k n) :
    ∃ s2, F_X11_sift_64 kf (nI n) (nI p) v (nI c) sr = fok () s2 ∧ sfd s0 s2 k n := by
  have hp : p < n := h.2.1
  unfold F_X11_sift_64
  rw [if_pos (inb_nI (by omega) (by omega)), nI_clamp (by omega)]
  unfold F_X11_sift_81 F_X11_sift_104
  by_cases cv : sr c ≤ v
  · rw [if_pos cv, if_pos rfl, k0 p sr (by omega)]
    refine ⟨_, rfl, hole_end h (fun d hd hdn => ?_)⟩
    have := hm d hd hdn
    rw [Int32.le_iff_toInt_le] at cv
    omega
  · rw [if_neg cv, if_neg (by decide), if_pos (inb_nI (by omega) (by omega)), if_pos (inb_nI (by omega) (by omega)), nI_clamp (by omega), nI_clamp (by omega)]
    rw [Int32.le_iff_toInt_le] at cv
    exact k1 _ (hole_move h hc hcn (by omega) hm)
theorem ut_sift {k n : Nat} (hk : k < n) (hn : n ≤ 4096) {s0 : A} (h : heap s0 (k + 1) n) : ∃ s2, F_X11_sift (nI k) (nI n) s0 = fok () s2 ∧ sfd s0 s2 k n := by
  unfold F_X11_sift
  rw [if_pos (inb_nI (by omega) (by omega)), nI_clamp (by omega)]
  have q := lp_M (z := fun _ _ _ _ _ => fno) (f := F_X11_sift_13) (fun m kf => (∀ p sr, p < 4096 → kf (nI n) (nI p) (s0 k) 0 sr = fok () (upd sr p (s0 k))) ∧ (∀ p sr, p + m = n → hole s0 sr k n p (s0 k) → ∃ s2, kf (nI n) (nI p) (s0 k) 1 sr = fok () s2 ∧ sfd s0 s2 k n)) ?_ (n - k) (by omega)
  · refine q.2 k s0 (by omega) ⟨by omega, hk, fun i c hi ci hc hcn _ => h i c (by omega) hc hcn, fun q hq hkq => absurd hkq (by unfold kid; omega), fun u => ⟨?_, ?_⟩, fun _ _ => rfl⟩
    · rintro (e | ⟨i, hi, _, e⟩)
      · exact ⟨k, hk, e.symm⟩
      · exact ⟨i, hi, e⟩
    · intro ⟨i, hi, e⟩
      by_cases c : i = k
      · subst c; exact Or.inl e.symm
      · exact Or.inr ⟨i, hi, c, e⟩
  · intro m kf ih
    refine ⟨fun p sr hp => ?_, fun p sr hm hh => ?_⟩
    · unfold F_X11_sift_13 F_X11_sift_107
      rw [if_pos rfl, if_pos (inb_nI hp (by omega)), nI_clamp (by omega)]
    · have hpn : p < n := hh.2.1
      have e1 : (2 : Int32) * nI p + 1 = nI (2 * p + 1) := by rw [show (2 : Int32) = nI 2 from rfl, pk_mul, nI_1]
      unfold F_X11_sift_13
      rw [e1, nI_1, if_neg (by decide)]
      by_cases c1 : n ≤ 2 * p + 1
      · rw [if_pos (nI_le c1 (by omega))]
        unfold F_X11_sift_107
        rw [if_pos (inb_nI (by omega) (by omega)), nI_clamp (by omega)]
        exact ⟨_, rfl, hole_end hh (fun c hc hcn => absurd hc (by unfold kid; omega))⟩
      · rw [if_neg (nI_ge (by omega) (by omega))]
        by_cases c2 : n ≤ 2 * p + 1 + 1
        · rw [if_pos (nI_le c2 (by omega))]
          exact sift_64 hn hh (Or.inl rfl) (by omega) (fun d hd hdn => by have : d = 2 * p + 1 := by { unfold kid at hd; omega }; subst this; exact Int.le_refl _) kf (ih 0 (by omega)).1 (fun sr h2 => (ih (n - (2 * p + 1)) (by omega)).2 _ _ (by omega) h2)
        · rw [if_neg (nI_ge (by omega) (by omega)), if_pos (inb_nI (by omega) (by omega)), if_pos (inb_nI (by omega) (by omega)), nI_clamp (by omega), nI_clamp (by omega)]
          by_cases c3 : sr (2 * p + 1 + 1) ≤ sr (2 * p + 1)
          · rw [if_pos c3]
            rw [Int32.le_iff_toInt_le] at c3
            exact sift_64 hn hh (Or.inl rfl) (by omega) (fun d hd hdn => by unfold kid at hd; rcases hd with e | e <;> subst e <;> first | exact Int.le_refl _ | exact c3) kf (ih 0 (by omega)).1 (fun sr h2 => (ih (n - (2 * p + 1)) (by omega)).2 _ _ (by omega) h2)
          · rw [if_neg c3]
            rw [Int32.le_iff_toInt_le] at c3
            exact sift_64 hn hh (Or.inr rfl) (by omega) (fun d hd hdn => by unfold kid at hd; rcases hd with e | e <;> subst e <;> first | exact Int.le_refl _ | (show _ ≤ (sr (2 * p + 1 + 1)).toInt; omega)) kf (ih 0 (by omega)).1 (fun sr h2 => (ih (n - (2 * p + 1 + 1)) (by omega)).2 _ _ (by omega) h2)
theorem heap_root {sr : A} {n : Nat} (h : heap sr 0 n) : ∀ i, i < n → (sr i).toInt ≤ (sr 0).toInt := by
  intro i
  induction i using Nat.strongRecOn with
  | ind i ih =>
    intro hi
    by_cases c : i = 0
    · subst c; exact Int.le_refl _
    · have h1 := ih ((i - 1) / 2) (by omega) (by omega)
      have h2 := h ((i - 1) / 2) i (by omega) (by unfold kid; omega) hi
      omega
/-- sorted from k on, and all before below -/
def tail (sr : A) (k n : Nat) : Prop := ∀ i j, i < j → k ≤ j → j < n → (sr i).toInt ≤ (sr j).toInt
/-- the colours of a sorted row -/
def sl_ (g : A) : Nat → List Int32
  | 0 => []
  | k + 1 => if k ≠ 0 ∧ g k = g (k - 1) then sl_ g k else sl_ g k ++ [g k]
theorem sl_mem (g : A) {v : Int32} : ∀ k, v ∈ sl_ g k ↔ vs g k v
  | 0 => ⟨fun h => absurd h List.not_mem_nil, fun ⟨j, h, _⟩ => absurd h (by omega)⟩
  | k + 1 => by
    have ih := sl_mem g (v := v) k
    unfold sl_
    split
    · rename_i h
      rw [ih]
      constructor
      · intro ⟨j, hj, e⟩; exact ⟨j, by omega, e⟩
      · intro ⟨j, hj, e⟩
        by_cases c : j = k
        · subst c; exact ⟨j - 1, by omega, by rw [← h.2]; exact e⟩
        · exact ⟨j, by omega, e⟩
    · rw [List.mem_append, List.mem_singleton, ih]
      constructor
      · rintro (⟨j, hj, e⟩ | e)
        · exact ⟨j, by omega, e⟩
        · exact ⟨k, by omega, e.symm⟩
      · intro ⟨j, hj, e⟩
        by_cases c : j = k
        · subst c; exact Or.inr e.symm
        · exact Or.inl ⟨j, by omega, e⟩
theorem sl_nd {g : A} {n : Nat} (h : tail g 0 n) : ∀ k, k ≤ n → (sl_ g k).Nodup
  | 0, _ => List.nodup_nil
  | k + 1, hk => by
    have ih := sl_nd h k (by omega)
    unfold sl_
    split
    · exact ih
    · rename_i hc
      rw [List.nodup_append]
      refine ⟨ih, by simp, ?_⟩
      intro a ha b hb e
      rw [List.mem_singleton] at hb
      subst e; subst hb
      obtain ⟨j, hj, e⟩ := (sl_mem g k).mp ha
      apply hc
      refine ⟨by omega, ?_⟩
      have h2 := h (k - 1) k (by omega) (by omega) (by omega)
      have h3 : (g j).toInt ≤ (g (k - 1)).toInt := by
        by_cases cj : j = k - 1
        · subst cj; exact Int.le_refl _
        · exact h j (k - 1) (by omega) (by omega) (by omega)
      rw [e] at h3
      exact Int32.toInt_inj.mp (by omega)
theorem nd_le : ∀ (l1 l2 : List Int32), l1.Nodup → (∀ x, x ∈ l1 → x ∈ l2) → l1.length ≤ l2.length
  | [], _, _, _ => Nat.zero_le _
  | a :: l1, l2, h, hs => by
    have ha : a ∈ l2 := hs a (List.mem_cons_self ..)
    rw [List.nodup_cons] at h
    have := nd_le l1 (l2.erase a) h.2 (fun x hx => (List.mem_erase_of_ne (fun (e : x = a) => h.1 (e ▸ hx))).mpr (hs x (List.mem_cons_of_mem _ hx)))
    rw [List.length_erase_of_mem ha] at this
    have : 0 < l2.length := List.length_pos_of_mem ha
    rw [List.length_cons]
    omega
theorem ut_cc112 {n : Nat} (hn : n ≤ 4096) (h0 : 1 ≤ n) (dd wi hi sr : A) : lp (fun _ _ _ _ => fno) (F_X11_colourCount_112 dd wi hi) FU (nI n) 1 1 sr = fok (nI (sl_ sr n).length) sr := by
  have q := lp_M (z := fun _ _ _ _ => fno) (f := F_X11_colourCount_112 dd wi hi) (fun m k => ∀ j, 1 ≤ j → j + m = n → k (nI n) (nI (sl_ sr j).length) (nI j) sr = fok (nI (sl_ sr n).length) sr) ?_ (n - 1) (by omega)
  · exact q 1 (by omega) (by omega)
  · intro m k ih j h1 hj
    unfold F_X11_colourCount_112 F_X11_colourCount_140
    by_cases c0 : m = 0
    · have : j = n := by omega
      subst this
      rw [if_pos (nI_le (by omega) (by omega))]
    · have e1 : nI j - 1 = nI (j - 1) := pk_sub (b := 1) h1
      rw [if_neg (nI_ge (by omega) (by omega)), if_pos (inb_nI (by omega) (by omega)), e1, if_pos (inb_nI (by omega) (by omega)), nI_clamp (by omega), nI_clamp (by omega), nI_1, nI_1]
      have r := ih (m - 1) (by omega) (j + 1) (by omega) (by omega)
      by_cases c : sr j = sr (j - 1)
      · rw [if_pos c]
        have e2 : sl_ sr (j + 1) = sl_ sr j := by
          show (if j ≠ 0 ∧ sr j = sr (j - 1) then sl_ sr j else sl_ sr j ++ [sr j]) = _
          rw [if_pos ⟨by omega, c⟩]
        rw [e2] at r
        exact r
      · rw [if_neg c]
        have e2 : sl_ sr (j + 1) = sl_ sr j ++ [sr j] := by
          show (if j ≠ 0 ∧ sr j = sr (j - 1) then sl_ sr j else sl_ sr j ++ [sr j]) = _
          rw [if_neg (fun z => c z.2)]
        rw [e2, List.length_append, List.length_singleton] at r
        exact r
theorem swap_vs {sr : A} {k n : Nat} (hk : k < n) (u : Int32) : vs (upd (upd sr 0 (sr k)) k (sr 0)) n u ↔ vs sr n u := by
  constructor
  · intro ⟨i, hi, e⟩
    by_cases c : i = k
    · subst c; rw [pk_us] at e; exact ⟨0, by omega, e⟩
    · rw [pk_un c] at e
      by_cases c0 : i = 0
      · subst c0; rw [pk_us] at e; exact ⟨k, hk, e⟩
      · rw [pk_un c0] at e; exact ⟨i, hi, e⟩
  · intro ⟨i, hi, e⟩
    by_cases c : i = 0
    · subst c; exact ⟨k, hk, by rw [pk_us]; exact e⟩
    · by_cases ck : i = k
      · subst ck; exact ⟨0, by omega, by rw [pk_un (by omega), pk_us]; exact e⟩
      · exact ⟨i, hi, by rw [pk_un ck, pk_un c]; exact e⟩
theorem vs_le {g : A} {n : Nat} {b : Int} (h : ∀ i, i < n → (g i).toInt ≤ b) {f : A} (hf : ∀ u, vs f n u → vs g n u) : ∀ i, i < n → (f i).toInt ≤ b := by
  intro i hi
  obtain ⟨j, hj, e⟩ := hf (f i) ⟨i, hi, rfl⟩
  rw [← e]
  exact h j hj
theorem vs_up {f g : A} {k n : Nat} (hk : k ≤ n) (h : ∀ u, vs f k u ↔ vs g k u) (h2 : ∀ j, k ≤ j → f j = g j) (u : Int32) : vs f n u ↔ vs g n u := by
  constructor
  · intro ⟨i, hi, e⟩
    by_cases c : i < k
    · obtain ⟨j, hj, e2⟩ := (h u).mp ⟨i, c, e⟩; exact ⟨j, by omega, e2⟩
    · exact ⟨i, hi, by rw [← h2 i (by omega)]; exact e⟩
  · intro ⟨i, hi, e⟩
    by_cases c : i < k
    · obtain ⟨j, hj, e2⟩ := (h u).mpr ⟨i, c, e⟩; exact ⟨j, by omega, e2⟩
    · exact ⟨i, hi, by rw [h2 i (by omega)]; exact e⟩
theorem ut_cc63 {n : Nat} (hn : n ≤ 4096) (h0 : 1 ≤ n) (dd wi hi s0 : A) (hh : heap s0 0 n) : ∃ sr, lp (fun _ _ _ => fno) (F_X11_colourCount_63 dd wi hi) FU (nI n) (nI (n - 1)) s0 = fok (nI (sl_ sr n).length) sr ∧ tail sr 0 n ∧ ∀ u, vs sr n u ↔ vs s0 n u := by
  have q := lp_M (z := fun _ _ _ => fno) (f := F_X11_colourCount_63 dd wi hi) (fun m k => ∀ sr, m < n → heap sr 0 (m + 1) → tail sr (m + 1) n → (∀ u, vs sr n u ↔ vs s0 n u) → ∃ s2, k (nI n) (nI m) sr = fok (nI (sl_ s2 n).length) s2 ∧ tail s2 0 n ∧ ∀ u, vs s2 n u ↔ vs s0 n u) ?_ (n - 1) (by omega)
  · refine q s0 (by omega) (by rw [show n - 1 + 1 = n from by omega]; exact hh) (fun i j hij hj hjn => absurd hj (by omega)) (fun u => Iff.rfl)
  · intro m k ih sr hm h1 h2 h3
    unfold F_X11_colourCount_63
    by_cases c0 : m = 0
    · subst c0
      rw [if_pos (by decide), ut_cc112 hn h0]
      exact ⟨sr, rfl, fun i j hij _ hj => h2 i j hij (by omega) hj, h3⟩
    · rw [if_neg (nI_nle (by omega) (by omega)), if_pos (by decide), if_pos (inb_nI (by omega) (by omega)), if_pos (by decide), if_pos (inb_nI (by omega) (by omega)), nI_clamp (by omega), sb_cl0]
      have hroot := heap_root h1
      obtain ⟨s2, e, d1, d2, d3⟩ := ut_sift (k := 0) (n := m) (by omega) (by omega) (s0 := upd (upd sr 0 (sr m)) m (sr 0)) (fun i c hi hc hcm => by
        rw [pk_un (by omega), pk_un (by unfold kid at hc; omega), pk_un (by unfold kid at hc; omega), pk_un (by omega)]
        exact h1 i c (by omega) hc (by omega))
      rw [show (nI 0) = 0 from rfl] at e
      rw [e, fon_fok, show nI m + -1 = nI (m - 1) from by rw [show m = (m - 1) + 1 from by omega, pk_m1]; rfl]
      have hv : ∀ u, vs s2 n u ↔ vs sr n u := fun u => (vs_up (by omega) d2 d3 u).trans (swap_vs (by omega) u)
      have hle : ∀ i, i < m → (s2 i).toInt ≤ (sr 0).toInt := by
        refine vs_le (g := upd (upd sr 0 (sr m)) m (sr 0)) (fun i hi => ?_) (fun u hu => (d2 u).mp hu)
        rw [pk_un (by omega)]
        by_cases ci : i = 0
        · subst ci; rw [pk_us]; exact hroot m (by omega)
        · rw [pk_un ci]; exact hroot i (by omega)
      have em : s2 m = sr 0 := by rw [d3 m (by omega), pk_us]
      have ej : ∀ j, m < j → s2 j = sr j := fun j hj => by rw [d3 j (by omega), pk_un (by omega), pk_un (by omega)]
      refine ih (m - 1) (by omega) s2 (by omega) (by rw [show m - 1 + 1 = m from by omega]; exact d1) (fun i j hij hj hjn => ?_) (fun u => (hv u).trans (h3 u))
      by_cases cj : j = m
      · subst cj; rw [em]; exact hle i hij
      · rw [ej j (by omega)]
        by_cases ci : i < m
        · have a1 := hle i ci
          have a2 := h2 0 j (by omega) (by omega) hjn
          omega
        · by_cases ci2 : i = m
          · subst ci2; rw [em]; exact h2 0 j (by omega) (by omega) hjn
          · rw [ej i (by omega)]; exact h2 i j hij (by omega) hjn
theorem ut_cc43 {n : Nat} (hn : n ≤ 4096) (h0 : 1 ≤ n) (dd wi hi s0 : A) : ∃ sr, lp (fun _ _ _ => fno) (F_X11_colourCount_43 dd wi hi) FU (nI n) (nI n / 2 - 1) s0 = fok (nI (sl_ sr n).length) sr ∧ tail sr 0 n ∧ ∀ u, vs sr n u ↔ vs s0 n u := by
  have q := lp_M (z := fun _ _ _ => fno) (f := F_X11_colourCount_43 dd wi hi) (fun m k => ∀ sr, m ≤ n / 2 → heap sr m n → (∀ u, vs sr n u ↔ vs s0 n u) → ∃ s2, k (nI n) (nI m - 1) sr = fok (nI (sl_ s2 n).length) s2 ∧ tail s2 0 n ∧ ∀ u, vs s2 n u ↔ vs s0 n u) ?_ (n / 2) (by omega)
  · rw [show (2 : Int32) = nI 2 from rfl, pk_div (by omega) (by omega) (by omega)]
    exact q s0 (by omega) (fun i c hi hc hcn => absurd hc (by unfold kid; omega)) (fun u => Iff.rfl)
  · intro m k ih sr hm h1 h2
    unfold F_X11_colourCount_43
    by_cases c0 : m = 0
    · subst c0
      rw [if_pos (by decide)]
      obtain ⟨s2, e, d1, d2⟩ := ut_cc63 hn h0 dd wi hi sr h1
      rw [show nI n - 1 = nI (n - 1) from pk_sub (b := 1) h0]
      exact ⟨s2, e, d1, fun u => (d2 u).trans (h2 u)⟩
    · rw [show nI m - 1 = nI (m - 1) from pk_sub (b := 1) (by omega), if_neg (nI_pos (by omega))]
      obtain ⟨s2, e, d1, d2, d3⟩ := ut_sift (k := m - 1) (n := n) (by omega) hn (s0 := sr) (by rw [show m - 1 + 1 = m from by omega]; exact h1)
      rw [e, fon_fok, show nI (m - 1) + -1 = nI (m - 1) - 1 from (Int32.sub_eq_add_neg ..).symm]
      exact ih (m - 1) (by omega) s2 (by omega) d1 (fun u => (d2 u).trans (h2 u))
theorem ut_colourCount {i W H : Nat} (hi4 : i < 4) (hp : W * H ≤ 4096) (h0 : 1 ≤ W * H) (dd wi hi s0 : A) (b3 : wi i = nI W) (b4 : hi i = nI H) : ∃ sr, F_X11_colourCount (nI i) dd wi hi s0 = fok (nI (dl (fun p => dd (4096 * i + p)) (W * H)).length) sr := by
  unfold F_X11_colourCount
  rw [ut_many hi4 b3 b4, fon_fok]
  have q := lp_M (z := fun _ _ _ _ => fno) (f := F_X11_colourCount_8 dd wi hi) (fun m k => ∀ j, j + m = W * H → ∃ sr, k (nI i) (nI (W * H)) (nI j) (frontN (fun p => dd (4096 * i + p)) s0 j) = fok (nI (dl (fun p => dd (4096 * i + p)) (W * H)).length) sr) ?_ (W * H) (by omega)
  · have := q 0 (by omega)
    rw [show frontN (fun p => dd (4096 * i + p)) s0 0 = s0 from by funext j; simp [frontN]] at this
    exact this
  · intro m k ih j hj
    unfold F_X11_colourCount_8
    by_cases c0 : m = 0
    · have : j = W * H := by omega
      subst this
      rw [if_pos (nI_le (by omega) (by omega))]
      obtain ⟨sr, e, d1, d2⟩ := ut_cc43 hp h0 dd wi hi (frontN (fun p => dd (4096 * i + p)) s0 (W * H))
      refine ⟨sr, ?_⟩
      rw [e]
      have hs : ∀ v, v ∈ sl_ sr (W * H) ↔ v ∈ dl (fun p => dd (4096 * i + p)) (W * H) := by
        intro v
        rw [sl_mem, d2, dl_mem]
        constructor
        · intro ⟨j, hj, e⟩; unfold frontN at e; rw [if_pos hj] at e; exact ⟨j, hj, e⟩
        · intro ⟨j, hj, e⟩; exact ⟨j, hj, by unfold frontN; rw [if_pos hj]; exact e⟩
      have l1 := nd_le _ _ (sl_nd d1 (W * H) (Nat.le_refl _)) (fun v hv => (hs v).mp hv)
      have l2 := nd_le _ _ (dl_nd (fun p => dd (4096 * i + p)) (W * H)) (fun v hv => (hs v).mpr hv)
      rw [show (sl_ sr (W * H)).length = (dl (fun p => dd (4096 * i + p)) (W * H)).length from by omega]
    · rw [if_neg (nI_ge (by omega) (by omega)), ix_dd, if_pos (inb_nI (by omega) (by omega)), if_pos (inb_nI (by omega) (by omega)), nI_clamp (by omega), nI_clamp (by omega), nI_1]
      have := frontN_s (fun p => dd (4096 * i + p)) s0 j
      rw [this]
      exact ih (m - 1) (by omega) (j + 1) (by omega)
