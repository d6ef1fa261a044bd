theorem rd_cI (w : wdT) (κ ι ι' r m κ₁ ι₁ r₁ k i : Nat) : wI (cpI w κ ι ι' r m) κ₁ ι₁ r₁ k i = if κ₁ = κ ∧ ι₁ = ι ∧ r₁ = r ∧ k = 0 ∧ i < m then wI w κ ι' r 0 i else wI w κ₁ ι₁ r₁ k i := rfl
theorem rd_cL (w : wdT) (κ ι ι' r m κ₁ ι₁ r₁ k i : Nat) : wL (cpL w κ ι ι' r m) κ₁ ι₁ r₁ k i = if κ₁ = κ ∧ ι₁ = ι ∧ r₁ = r ∧ k = 0 ∧ i < m then wL w κ ι' r 0 i else wL w κ₁ ι₁ r₁ k i := rfl
theorem rd_cIL (w : wdT) (κ ι ι' r m : Nat) : wI (cpL w κ ι ι' r m) = wI w := rfl
theorem rd_cLI (w : wdT) (κ ι ι' r m : Nat) : wL (cpI w κ ι ι' r m) = wL w := rfl
/-- what block ι holds behind a copy of block ι' -/
def cpAt (c : wdT) (ι' r k i : Nat) : Prop :=
  (r = 0 ∧ i = 0 ∧ (k = 1 ∨ k = 2 ∨ k = 4 ∨ k = 6)) ∨ (r = 4 ∧ k = 0 ∧ i = 0) ∨ (r = 9 ∧ k = 0 ∧ i = 0) ∨ ((r = 5 ∨ r = 6 ∨ r = 8) ∧ k = 0 ∧ i < 100) ∨ ((r = 10 ∨ r = 11 ∨ r = 12) ∧ k = 0 ∧ i < 600) ∨
  (r = 13 ∧ i < cN c ι' ∧ k ≤ 2) ∨ (r = 14 ∧ i < cG c ι' ∧ (k ≤ 7 ∨ k = 9)) ∨ (r = 15 ∧ i < cK c ι' ∧ k ≤ 4)
theorem ch_o (c : wdT) {ι ι' : Nat} (hne : ι' ≠ ι) (r k i : Nat) : wI (chW c ι ι') 0 ι' r k i = wI c 0 ι' r k i := by
  unfold chW
  simp only [rd_II, rd_IL]
  rw [if_neg (by omega), if_neg (by omega), if_neg (by omega), if_neg (by omega)]
theorem cpC_at (c : wdT) {ι ι' : Nat} (hne : ι' ≠ ι) {r k i : Nat} (h : cpAt c ι' r k i) : wI (cpC c ι ι') 0 ι r k i = wI c 0 ι' r k i := by
  have ho1 : ∀ n r k i, wI (cp1 c ι ι' n) 0 ι' r k i = wI c 0 ι' r k i := fun n r k i => (cp1_I c hne n (by omega)).trans (ch_o c hne r k i)
  have ho2 : ∀ n r k i, wI (cp2 c ι ι' n) 0 ι' r k i = wI c 0 ι' r k i := fun n r k i => (cp2_I c hne n (by omega)).trans (ch_o c hne r k i)
  have ho3 : ∀ n r k i, wI (cp3 c ι ι' n) 0 ι' r k i = wI c 0 ι' r k i := fun n r k i => (cp3_I c hne n (by omega)).trans (ch_o c hne r k i)
  unfold cpC wcW hcW
  simp only [rd_cI, rd_cIL, rd_II]
  rcases h with h | h | h | h | h | h | h | h
  · rw [if_neg (by omega), if_neg (by omega), if_neg (by omega), if_neg (by omega), if_neg (by omega), if_neg (by omega), if_neg (by omega), if_neg (by omega), cp3_I c hne _ (by omega)]
    obtain ⟨rfl, rfl, h⟩ := h
    unfold chW
    simp only [rd_II, rd_IL]
    rcases h with rfl | rfl | rfl | rfl
    · rw [if_neg (by omega), if_neg (by omega), if_neg (by omega), if_pos (by simp)]
    · rw [if_neg (by omega), if_neg (by omega), if_pos (by simp)]
    · rw [if_neg (by omega), if_pos (by simp)]
    · rw [if_pos (by simp)]
  · obtain ⟨rfl, rfl, rfl⟩ := h
    rw [if_neg (by omega), if_neg (by omega), if_neg (by omega), if_neg (by omega), if_neg (by omega), if_neg (by omega), if_neg (by omega), if_pos (by simp), ho3]
  · obtain ⟨rfl, rfl, rfl⟩ := h
    rw [if_neg (by omega), if_neg (by omega), if_neg (by omega), if_pos (by simp), if_neg (by omega), if_neg (by omega), if_neg (by omega), if_neg (by omega), ho3]
  · obtain ⟨hr, rfl, hi⟩ := h
    rw [if_neg (by omega), if_neg (by omega), if_neg (by omega), if_neg (by omega)]
    rcases hr with rfl | rfl | rfl
    · rw [if_neg (by omega), if_neg (by omega), if_pos (by simp [hi]), if_neg (by omega), ho3]
    · rw [if_neg (by omega), if_pos (by simp [hi]), if_neg (by omega), if_neg (by omega), ho3]
    · rw [if_pos (by simp [hi]), if_neg (by omega), if_neg (by omega), if_neg (by omega), ho3]
  · obtain ⟨hr, rfl, hi⟩ := h
    rcases hr with rfl | rfl | rfl
    · simp [hi, hne, ho3]
    · simp [hi, hne, ho3]
    · simp [hi, hne, ho3]
  · obtain ⟨rfl, hi, hk⟩ := h
    simp [hi, hne, ho3]
    unfold cp3
    rw [cpG_I _ hne, if_neg (by omega)]
    unfold cp2
    rw [cpG_I _ hne, if_neg (by omega)]
    unfold cp1
    rw [cpG_I _ hne, if_pos ⟨rfl, rfl, rfl, hi, by rcases (show k = 0 ∨ k = 1 ∨ k = 2 by omega) with rfl | rfl | rfl <;> rfl⟩, ch_o c hne]
  · obtain ⟨rfl, hi, hk⟩ := h
    simp [hi, hne, ho3]
    unfold cp3
    rw [cpG_I _ hne, if_neg (by omega)]
    unfold cp2
    rw [cpG_I _ hne, if_pos ⟨rfl, rfl, rfl, hi, by rcases (show k = 0 ∨ k = 1 ∨ k = 2 ∨ k = 3 ∨ k = 4 ∨ k = 5 ∨ k = 6 ∨ k = 7 ∨ k = 9 by omega) with rfl | rfl | rfl | rfl | rfl | rfl | rfl | rfl | rfl <;> rfl⟩, ho1]
  · obtain ⟨rfl, hi, hk⟩ := h
    simp [hi, hne, ho3]
    unfold cp3
    rw [cpG_I _ hne, if_pos ⟨rfl, rfl, rfl, hi, by rcases (show k = 0 ∨ k = 1 ∨ k = 2 ∨ k = 3 ∨ k = 4 by omega) with rfl | rfl | rfl | rfl | rfl <;> rfl⟩, ho2]
def cpAtL (c : wdT) (ι' r k i : Nat) : Prop :=
  (r = 0 ∧ i = 0 ∧ k = 0) ∨ (r = 7 ∧ k = 0 ∧ i < 100) ∨ (r = 13 ∧ i < cN c ι' ∧ (k = 3 ∨ k = 4 ∨ k = 5)) ∨ (r = 14 ∧ i < cG c ι' ∧ (k = 8 ∨ k = 10))
theorem ch_oL (c : wdT) {ι ι' : Nat} (hne : ι' ≠ ι) (r k i : Nat) : wL (chW c ι ι') 0 ι' r k i = wL c 0 ι' r k i := by
  unfold chW
  simp only [rd_LI, rd_LL]
  rw [if_neg (by omega)]
theorem cpC_atL (c : wdT) {ι ι' : Nat} (hne : ι' ≠ ι) {r k i : Nat} (h : cpAtL c ι' r k i) : wL (cpC c ι ι') 0 ι r k i = wL c 0 ι' r k i := by
  have ho1 : ∀ n r k i, wL (cp1 c ι ι' n) 0 ι' r k i = wL c 0 ι' r k i := fun n r k i => by
    unfold cp1
    rw [cpG_L _ hne, if_neg (by omega)]
    exact ch_oL c hne r k i
  have ho2 : ∀ n r k i, wL (cp2 c ι ι' n) 0 ι' r k i = wL c 0 ι' r k i := fun n r k i => by
    unfold cp2
    rw [cpG_L _ hne, if_neg (by omega)]
    exact ho1 _ r k i
  have ho3 : ∀ n r k i, wL (cp3 c ι ι' n) 0 ι' r k i = wL c 0 ι' r k i := fun n r k i => by
    unfold cp3
    rw [cpG_L _ hne, if_neg (by omega)]
    exact ho2 _ r k i
  unfold cpC wcW hcW
  simp only [rd_cL, rd_cLI, rd_LI]
  rcases h with h | h | h | h
  · obtain ⟨rfl, rfl, rfl⟩ := h
    rw [if_neg (by omega)]
    unfold cp3
    rw [cpG_L _ hne, if_neg (by omega)]
    unfold cp2
    rw [cpG_L _ hne, if_neg (by omega)]
    unfold cp1
    rw [cpG_L _ hne, if_neg (by omega)]
    unfold chW
    simp only [rd_LI, rd_LL]
    rw [if_pos (by simp)]
  · obtain ⟨rfl, rfl, hi⟩ := h
    rw [if_pos (by simp [hi]), ho3]
  · obtain ⟨rfl, hi, hk⟩ := h
    rw [if_neg (by omega)]
    unfold cp3
    rw [cpG_L _ hne, if_neg (by omega)]
    unfold cp2
    rw [cpG_L _ hne, if_neg (by omega)]
    unfold cp1
    rw [cpG_L _ hne, if_pos ⟨rfl, rfl, rfl, hi, by rcases hk with rfl | rfl | rfl <;> rfl⟩, ch_oL c hne]
  · obtain ⟨rfl, hi, hk⟩ := h
    rw [if_neg (by omega)]
    unfold cp3
    rw [cpG_L _ hne, if_neg (by omega)]
    unfold cp2
    rw [cpG_L _ hne, if_pos ⟨rfl, rfl, rfl, hi, by rcases hk with rfl | rfl <;> rfl⟩, ho1]
/-- blocks that hold the same below their counts stand in the same relation -/
theorem Rel_bl {K : Nat} {c c' : wdT} {ι ι' : Nat} {f : Nat → Int32} (hI : ∀ r k i, cpAt c ι' r k i → wI c' 0 ι r k i = wI c 0 ι' r k i) (hL : ∀ r k i, cpAtL c ι' r k i → wL c' 0 ι r k i = wL c 0 ι' r k i) (h : Rel K c ι' f) : Rel K c' ι f := by
  obtain ⟨⟨o1, o2, o3, o4, o5, o6, o7, o8⟩, ht, hN, hG, hC, hH, hW⟩ := h
  have b1 := o1.2
  have b4 := o4.2
  have b5 := o5.2
  have cn : wI c' 0 ι 0 2 0 = wI c 0 ι' 0 2 0 := hI 0 2 0 (by unfold cpAt cG cK; omega)
  have cg : wI c' 0 ι 0 4 0 = wI c 0 ι' 0 4 0 := hI 0 4 0 (by unfold cpAt cG cK; omega)
  have ck : wI c' 0 ι 0 6 0 = wI c 0 ι' 0 6 0 := hI 0 6 0 (by unfold cpAt cG cK; omega)
  have ch : wI c' 0 ι 4 0 0 = wI c 0 ι' 4 0 0 := hI 4 0 0 (by unfold cpAt cG cK; omega)
  have cw : wI c' 0 ι 9 0 0 = wI c 0 ι' 9 0 0 := hI 9 0 0 (by unfold cpAt cG cK; omega)
  have eN : cN c' ι = cN c ι' := by unfold cN; rw [cn]
  refine ⟨⟨by rw [cn]; exact o1, by rw [cg]; exact o2, by rw [ck]; exact o3, by rw [ch]; exact o4, by rw [cw]; exact o5, fun g hg => ?_, fun k hk => ?_, fun i hi => ?_⟩, ?_, fun n hn => ?_, fun g hg => ?_, fun k hk => ?_, fun i hi => ?_, fun k hk => ?_⟩
  · rw [cg] at hg
    rw [hI 14 1 g (by unfold cpAt cG; omega), hI 14 2 g (by unfold cpAt cG; omega), hI 14 3 g (by unfold cpAt cG; omega)]
    exact o6 g hg
  · rw [ck] at hk
    rw [hI 15 1 k (by unfold cpAt cK; omega), hI 15 2 k (by unfold cpAt cK; omega)]
    exact o7 k hk
  · rw [ch] at hi
    rw [hI 6 0 i (by unfold cpAt cG cK; omega)]
    exact o8 i hi
  · unfold RT at ht ⊢
    rw [cn, cg, ck, ch, cw, hI 0 1 0 (by unfold cpAt cG cK; omega), hL 0 0 0 (by unfold cpAtL cG; omega)]
    exact ht
  · rw [eN] at hn
    have q := hN n hn
    unfold RN at q ⊢
    rw [hI 13 0 n (by unfold cpAt cG cK; omega), hI 13 1 n (by unfold cpAt cG cK; omega), hI 13 2 n (by unfold cpAt cG cK; omega), hL 13 3 n (by unfold cpAtL cG; omega), hL 13 4 n (by unfold cpAtL cG; omega), hL 13 5 n (by unfold cpAtL cG; omega)]
    exact q
  · unfold cG at hg
    rw [cg] at hg
    have q := hG g hg
    unfold RG at q ⊢
    rw [eN]
    rw [hI 14 0 g (by unfold cpAt cG cK; omega), hI 14 1 g (by unfold cpAt cG cK; omega), hI 14 2 g (by unfold cpAt cG cK; omega), hI 14 3 g (by unfold cpAt cG cK; omega), hI 14 4 g (by unfold cpAt cG cK; omega), hI 14 5 g (by unfold cpAt cG cK; omega), hI 14 6 g (by unfold cpAt cG cK; omega), hI 14 7 g (by unfold cpAt cG cK; omega), hI 14 9 g (by unfold cpAt cG cK; omega), hL 14 8 g (by unfold cpAtL cG; omega), hL 14 10 g (by unfold cpAtL cG; omega)]
    exact q
  · unfold cK at hk
    rw [ck] at hk
    have q := hC k hk
    unfold RK at q ⊢
    rw [eN]
    rw [hI 15 0 k (by unfold cpAt cG cK; omega), hI 15 1 k (by unfold cpAt cG cK; omega), hI 15 2 k (by unfold cpAt cG cK; omega), hI 15 3 k (by unfold cpAt cG cK; omega), hI 15 4 k (by unfold cpAt cG cK; omega)]
    exact q
  · unfold cH at hi
    rw [ch] at hi
    have q := hH i hi
    unfold RH at q ⊢
    rw [eN]
    rw [hI 5 0 i (by unfold cpAt cG cK; omega), hI 6 0 i (by unfold cpAt cG cK; omega), hI 8 0 i (by unfold cpAt cG cK; omega), hL 7 0 i (by unfold cpAtL cG; omega)]
    exact q
  · unfold cW at hk
    rw [cw] at hk
    have q := hW k hk
    unfold RW at q ⊢
    rw [hI 10 0 k (by unfold cpAt cG cK; omega), hI 11 0 k (by unfold cpAt cG cK; omega), hI 12 0 k (by unfold cpAt cG cK; omega)]
    exact q
theorem Rel_cp {K : Nat} {c : wdT} {ι ι' : Nat} {f : Nat → Int32} (hne : ι' ≠ ι) (h : Rel K c ι' f) : Rel K (cpC c ι ι') ι f := Rel_bl (fun r k i z => cpC_at c hne z) (fun r k i z => cpC_atL c hne z) h
/-- .. and one that nothing was written to -/
theorem Rel_eq {K : Nat} {c c' : wdT} {ι : Nat} {f : Nat → Int32} (hI : ∀ r k i, wI c' 0 ι r k i = wI c 0 ι r k i) (hL : ∀ r k i, wL c' 0 ι r k i = wL c 0 ι r k i) (h : Rel K c ι f) : Rel K c' ι f := Rel_bl (fun r k i _ => hI r k i) (fun r k i _ => hL r k i) h

theorem nz_vn {x : Int32} {n : Nat} (h : vn x n) : x = nI (nz x) ∧ nz x < n := h
/-- hand event i is ahead of j, by the reference's array -/
abbrev hAF (f : Nat → Int32) (i j : Nat) : Prop := f (700 + 5 * i + 0) < f (700 + 5 * j + 0) ∨ (f (700 + 5 * i + 0) = f (700 + 5 * j + 0) ∧ (f (700 + 5 * i + 1) < f (700 + 5 * j + 1) ∨ (f (700 + 5 * i + 1) = f (700 + 5 * j + 1) ∧ f (700 + 5 * i + 4) < f (700 + 5 * j + 4))))
theorem not_le32 {x y : Int32} : ¬ y ≤ x ↔ x < y := by
  rw [Int32.lt_iff_toInt_lt, Int32.le_iff_toInt_le]
  omega
theorem Rel_hA {K : Nat} {c : wdT} {ι : Nat} {f : Nat → Int32} {i j : Nat} (h : Rel K c ι f) (hj : j < i) (hi : i < cH c ι) : hAF f i j ↔ hAh c ι i j := by
  obtain ⟨a1, a2, a3, a4, a5, a6, a7, a8, a9, a10⟩ := h.2.2.2.2.2.1 i hi
  obtain ⟨b1, b2, b3, b4, b5, b6, b7, b8, b9, b10⟩ := h.2.2.2.2.2.1 j (by omega)
  have hn : ¬ f (700 + 5 * i + 4) < f (700 + 5 * j + 4) := fun z => Int32.lt_irrefl (Int32.lt_trans z (a9 j hj))
  unfold hAF hAh
  rw [← a1, ← b1, a2, b2, up_lt, not_le32]
  constructor
  · rintro (q | ⟨q1, q | q⟩)
    · exact Or.inl q
    · exact Or.inr ⟨by rw [q1], q⟩
    · exact absurd q.2 hn
  · rintro (q | ⟨q1, q⟩)
    · exact Or.inl q
    · exact Or.inr ⟨up_inj q1, Or.inl q⟩
/-- gate g is ahead of b, by the reference's array -/
abbrev gAF (f : Nat → Int32) (g b : Nat) : Prop := f (250 + 14 * g + 8) < f (250 + 14 * b + 8) ∨ (f (250 + 14 * g + 8) = f (250 + 14 * b + 8) ∧ f (250 + 14 * g + 3) < f (250 + 14 * b + 3))
theorem Rel_gA {K : Nat} {c : wdT} {ι : Nat} {f : Nat → Int32} {g b : Nat} (h : Rel K c ι f) (hg : g < cG c ι) (hb : b < cG c ι) (wg : ¬ wI c 0 ι 14 7 g = -1) (wb : ¬ wI c 0 ι 14 7 b = -1) : gAF f g b ↔ gAh c ι g b := by
  have q1 := h.2.2.2.1 g hg
  have q2 := h.2.2.2.1 b hb
  unfold gAF gAh
  rw [← (q1.2.2.1 wg).1, ← (q2.2.2.1 wb).1, q1.1.2.2.2.1, q2.1.2.2.2.1, up_lt, not_le32]
  constructor
  · rintro (q | ⟨q1, q⟩)
    · exact Or.inl q
    · exact Or.inr ⟨by rw [q1], q⟩
  · rintro (q | ⟨q1, q⟩)
    · exact Or.inl q
    · exact Or.inr ⟨up_inj q1, q⟩
theorem gbs_wt (c : wdT) (ι : Nat) : ∀ n b, gbs c ι n = some b → ¬ wI c 0 ι 14 7 b = -1
  | 0, b, h => by cases h
  | n + 1, b, h => by
    by_cases q : ¬ wI c 0 ι 14 7 n = -1 ∧ gnx c ι n (gbs c ι n)
    · rw [gbs_t q] at h
      cases h
      exact q.1
    · rw [gbs_f q] at h
      exact gbs_wt c ι n b h
theorem i64_le_tr {x y z : Int64} (h : x ≤ y) (h' : y ≤ z) : x ≤ z := Int64.le_trans h h'
theorem hbs_min (c : wdT) (ι : Nat) : ∀ n i, i ≤ n → wL c 0 ι 7 0 (hbs c ι n) ≤ wL c 0 ι 7 0 i
  | 0, i, h => by
    have : i = 0 := by omega
    subst this
    exact Int64.le_refl _
  | n + 1, i, h => by
    by_cases q : hAh c ι (n + 1) (hbs c ι n)
    · rw [hbs_t q]
      have q2 : wL c 0 ι 7 0 (n + 1) ≤ wL c 0 ι 7 0 (hbs c ι n) := by
        rcases q with q | q
        · exact Int64.le_of_lt q
        · rw [q.1]; exact Int64.le_refl _
      by_cases e : i = n + 1
      · rw [e]; exact Int64.le_refl _
      · exact Int64.le_trans q2 (hbs_min c ι n i (by omega))
    · rw [hbs_f q]
      by_cases e : i = n + 1
      · rw [e]
        rw [Int64.le_iff_toInt_le]
        have z : ¬ wL c 0 ι 7 0 (n + 1) < wL c 0 ι 7 0 (hbs c ι n) := fun z => q (Or.inl z)
        rw [Int64.lt_iff_toInt_lt] at z
        omega
      · exact hbs_min c ι n i (by omega)
theorem gbs_min (c : wdT) (ι : Nat) : ∀ n g, g < n → ¬ wI c 0 ι 14 7 g = -1 → ∃ b, gbs c ι n = some b ∧ wL c 0 ι 14 8 b ≤ wL c 0 ι 14 8 g
  | 0, g, h, _ => by omega
  | n + 1, g, h, hw => by
    by_cases q : ¬ wI c 0 ι 14 7 n = -1 ∧ gnx c ι n (gbs c ι n)
    · rw [gbs_t q]
      refine ⟨n, rfl, ?_⟩
      by_cases e : g = n
      · rw [e]; exact Int64.le_refl _
      · obtain ⟨b, hb, hle⟩ := gbs_min c ι n g (by omega) hw
        have q2 := q.2
        rw [hb] at q2
        rcases q2 with q2 | q2
        · exact Int64.le_trans (Int64.le_of_lt q2) hle
        · rw [q2.1]; exact hle
    · rw [gbs_f q]
      by_cases e : g = n
      · subst e
        cases hb : gbs c ι g with
        | none => exact absurd ⟨hw, by rw [hb]; trivial⟩ q
        | some b =>
          refine ⟨b, rfl, ?_⟩
          have q2 : ¬ gAh c ι g b := fun z => q ⟨hw, by rw [hb]; exact z⟩
          rw [Int64.le_iff_toInt_le]
          have z : ¬ wL c 0 ι 14 8 g < wL c 0 ι 14 8 b := fun z => q2 (Or.inl z)
          rw [Int64.lt_iff_toInt_lt] at z
          omega
      · exact gbs_min c ι n g (by omega) hw
/-- when the next hand event comes, the next gate event -/
def hTF (f : Nat → Int32) : Option Nat → Int32
  | none => 1000005000
  | some a => f (700 + 5 * a + 0)
def gTF (f : Nat → Int32) : Option Nat → Int32
  | none => 1000005000
  | some b => f (250 + 14 * b + 8)
theorem hT0 (f : Nat → Int32) : hTF f none = 1000005000 := rfl
theorem hTs (f : Nat → Int32) (a : Nat) : hTF f (some a) = f (700 + 5 * a + 0) := rfl
theorem gT0 (f : Nat → Int32) : gTF f none = 1000005000 := rfl
theorem gTs (f : Nat → Int32) (b : Nat) : gTF f (some b) = f (250 + 14 * b + 8) := rfl
def nTF (f : Nat → Int32) (h g : Option Nat) : Int32 := if hTF f h < gTF f g then hTF f h else gTF f g
theorem i15 : (1000005000 : Int32).toInt = 1000005000 := by decide
theorem i9 : (1000000000 : Int64).toInt = 1000000000 := by decide
theorem Rel_nh {K : Nat} {c : wdT} {ι : Nat} {f : Nat → Int32} {a : Nat} (h : Rel K c ι f) (e : nxh c ι = some a) : a < cH c ι ∧ wL c 0 ι 7 0 a = (f (700 + 5 * a + 0)).toInt64 ∧ rg (f (700 + 5 * a + 0)) (f 0).toInt 1000000000 ∧ ∀ i, i < cH c ι → (f (700 + 5 * a + 0)).toInt ≤ (f (700 + 5 * i + 0)).toInt := by
  have h1 := nxh_lt e
  have q := h.2.2.2.2.2.1 a h1
  refine ⟨h1, q.1.symm, q.2.2.2.2.1, fun i hi => ?_⟩
  have q2 := h.2.2.2.2.2.1 i hi
  unfold nxh at e
  split at e
  · cases e
  · cases e
    have m := hbs_min c ι (nz (wI c 0 ι 4 0 0) - 1) i (by unfold cH at hi; omega)
    rw [← q.1, ← q2.1, up_le, Int32.le_iff_toInt_le] at m
    exact m
theorem Rel_nh0 {c : wdT} {ι : Nat} (e : nxh c ι = none) : cH c ι = 0 := by
  unfold nxh at e
  split at e
  · assumption
  · cases e
theorem Rel_ng {K : Nat} {c : wdT} {ι : Nat} {f : Nat → Int32} {b : Nat} (h : Rel K c ι f) (e : nxg c ι = some b) : b < cG c ι ∧ ¬ wI c 0 ι 14 7 b = -1 ∧ wL c 0 ι 14 8 b = (f (250 + 14 * b + 8)).toInt64 ∧ rg (f (250 + 14 * b + 8)) (f 0).toInt 1000001000 ∧ ∀ g, g < cG c ι → ¬ wI c 0 ι 14 7 g = -1 → (f (250 + 14 * b + 8)).toInt ≤ (f (250 + 14 * g + 8)).toInt := by
  have h1 := nxg_lt e
  have hw := gbs_wt c ι _ b e
  have q := h.2.2.2.1 b h1
  refine ⟨h1, hw, (q.2.2.1 hw).1.symm, (q.2.2.1 hw).2, fun g hg hgw => ?_⟩
  have q2 := h.2.2.2.1 g hg
  obtain ⟨b', hb', hle⟩ := gbs_min c ι (cG c ι) g hg hgw
  have e2 : gbs c ι (cG c ι) = some b := e
  rw [e2] at hb'
  cases hb'
  rw [← (q.2.2.1 hw).1, ← (q2.2.2.1 hgw).1, up_le, Int32.le_iff_toInt_le] at hle
  exact hle
theorem Rel_ng0 {c : wdT} {ι : Nat} (e : nxg c ι = none) (g : Nat) (hg : g < cG c ι) : wI c 0 ι 14 7 g = -1 := Classical.byContradiction (fun z => by
  obtain ⟨b', hb', _⟩ := gbs_min c ι (cG c ι) g hg z
  have e2 : gbs c ι (cG c ι) = none := e
  rw [e2] at hb'
  cases hb')
/-- the next event: when it comes, whether a hand's -/
theorem Rel_next {K : Nat} {c : wdT} {ι : Nat} {f : Nat → Int32} {y : Int64} (h : Rel K c ι f) (hy : y ≤ 1000000000) : ((whn c ι = -1 ∨ ¬ whn c ι ≤ y) ↔ ¬ (nTF f (nxh c ι) (nxg c ι)).toInt64 ≤ y) ∧
    ((nTF f (nxh c ι) (nxg c ι)).toInt64 ≤ y → whn c ι = (nTF f (nxh c ι) (nxg c ι)).toInt64 ∧ rg (nTF f (nxh c ι) (nxg c ι)) (f 0).toInt 1000000000 ∧
      (∀ g, g < cG c ι → ¬ wI c 0 ι 14 7 g = -1 → (nTF f (nxh c ι) (nxg c ι)).toInt ≤ (f (250 + 14 * g + 8)).toInt) ∧ (∀ i, i < cH c ι → (nTF f (nxh c ι) (nxg c ι)).toInt ≤ (f (700 + 5 * i + 0)).toInt) ∧
      (nxf c ι → hTF f (nxh c ι) < gTF f (nxg c ι) ∨ (hTF f (nxh c ι) = gTF f (nxg c ι) ∧ ∃ a b, nxh c ι = some a ∧ nxg c ι = some b ∧ f (700 + 5 * a + 1) ≤ f (250 + 14 * b + 3))) ∧
      (¬ nxf c ι → ¬ hTF f (nxh c ι) < gTF f (nxg c ι) ∧ ∃ b, nxg c ι = some b ∧ (hTF f (nxh c ι) = gTF f (nxg c ι) → ∃ a, nxh c ι = some a ∧ ¬ f (700 + 5 * a + 1) ≤ f (250 + 14 * b + 3)))) := by
  have hy2 : y.toInt ≤ 1000000000 := by rw [Int64.le_iff_toInt_le, i9] at hy; exact hy
  have t0 := h.2.1.2.2.2.2.2.2.2.1.1
  cases eh : nxh c ι with
  | none =>
    have z0 := Rel_nh0 eh
    have nf : ¬ nxf c ι := fun z => by unfold nxf at z; rw [eh] at z; exact z
    cases eg : nxg c ι with
    | none =>
      rw [whn_n nf eg]
      have e : nTF f none none = 1000005000 := by unfold nTF; rw [hT0, gT0, if_neg (by decide)]
      rw [e]
      have q : ¬ (1000005000 : Int32).toInt64 ≤ y := fun z => by
        rw [Int64.le_iff_toInt_le, x64, i15] at z
        omega
      exact ⟨⟨fun _ => q, fun _ => Or.inl rfl⟩, fun z => absurd z q⟩
    | some b =>
      obtain ⟨g1, g2, g3, g4, g5⟩ := Rel_ng h eg
      have u1 := g4.1
      have u2 := g4.2
      rw [whn_g nf eg, g3]
      have e : nTF f none (some b) = f (250 + 14 * b + 8) := by
        unfold nTF
        rw [hT0, gTs, if_neg (by rw [Int32.lt_iff_toInt_lt, i15]; omega)]
      rw [e]
      refine ⟨⟨fun z => z.elim (fun z => ?_) id, Or.inr⟩, fun z => ?_⟩
      · rw [← up_m1] at z
        have := up_inj z
        rw [this, im1] at u1
        omega
      · rw [Int64.le_iff_toInt_le, x64] at z
        refine ⟨rfl, ⟨u1, by omega⟩, g5, fun i hi => by omega, fun q => absurd q nf, fun _ => ⟨?_, b, rfl, fun q => ?_⟩⟩
        · rw [hT0, gTs, Int32.lt_iff_toInt_lt, i15]
          omega
        · rw [hT0, gTs] at q
          rw [← q, i15] at z
          omega
  | some a =>
    obtain ⟨k1, k2, k3, k4⟩ := Rel_nh h eh
    have v1 := k3.1
    have v2 := k3.2
    cases eg : nxg c ι with
    | none =>
      have nf : nxf c ι := by unfold nxf; rw [eh, eg]; trivial
      rw [whn_h nf eh, k2]
      have lt1 : f (700 + 5 * a + 0) < 1000005000 := by rw [Int32.lt_iff_toInt_lt, i15]; omega
      have e : nTF f (some a) none = f (700 + 5 * a + 0) := by
        unfold nTF
        rw [hTs, gT0, if_pos lt1]
      rw [e]
      refine ⟨⟨fun z => z.elim (fun z => ?_) id, Or.inr⟩, fun z => ?_⟩
      · rw [← up_m1] at z
        have := up_inj z
        rw [this, im1] at v1
        omega
      · exact ⟨rfl, k3, fun g hg hw => absurd (Rel_ng0 eg g hg) hw, k4, fun _ => Or.inl lt1, fun q => absurd nf q⟩
    | some b =>
      obtain ⟨g1, g2, g3, g4, g5⟩ := Rel_ng h eg
      have u1 := g4.1
      have u2 := g4.2
      have qa := h.2.2.2.2.2.1 a k1
      have qb := h.2.2.2.1 b g1
      have fx : nxf c ι ↔ (f (700 + 5 * a + 0) < f (250 + 14 * b + 8) ∨ (f (700 + 5 * a + 0) = f (250 + 14 * b + 8) ∧ f (700 + 5 * a + 1) ≤ f (250 + 14 * b + 3))) := by
        unfold nxf
        rw [eh, eg]
        show (wL c 0 ι 7 0 a < wL c 0 ι 14 8 b ∨ (wL c 0 ι 7 0 a = wL c 0 ι 14 8 b ∧ ¬ wI c 0 ι 14 3 b < wI c 0 ι 6 0 a)) ↔ _
        rw [k2, g3, up_lt, ← qa.2.1, ← qb.1.2.2.2.1]
        have e1 : ¬ f (250 + 14 * b + 3) < f (700 + 5 * a + 1) ↔ f (700 + 5 * a + 1) ≤ f (250 + 14 * b + 3) := by
          rw [Int32.lt_iff_toInt_lt, Int32.le_iff_toInt_le]
          omega
        rw [e1]
        exact ⟨fun z => z.elim Or.inl (fun z => Or.inr ⟨up_inj z.1, z.2⟩), fun z => z.elim Or.inl (fun z => Or.inr ⟨by rw [z.1], z.2⟩)⟩
      have en : nTF f (some a) (some b) = if f (700 + 5 * a + 0) < f (250 + 14 * b + 8) then f (700 + 5 * a + 0) else f (250 + 14 * b + 8) := rfl
      have ew : whn c ι = (nTF f (some a) (some b)).toInt64 := by
        by_cases nf : nxf c ι
        · rw [whn_h nf eh, k2, en]
          rcases fx.mp nf with z | z
          · rw [if_pos z]
          · rw [z.1]
            split <;> rfl
        · rw [whn_g nf eg, g3, en, if_neg (fun z => nf (fx.mpr (Or.inl z)))]
      have en1 : (nTF f (some a) (some b)).toInt ≤ (f (700 + 5 * a + 0)).toInt ∧ (nTF f (some a) (some b)).toInt ≤ (f (250 + 14 * b + 8)).toInt ∧ (f 0).toInt ≤ (nTF f (some a) (some b)).toInt := by
        rw [en]
        split
        · rename_i z
          rw [Int32.lt_iff_toInt_lt] at z
          omega
        · rename_i z
          rw [Int32.lt_iff_toInt_lt] at z
          omega
      rw [ew]
      refine ⟨⟨fun z => z.elim (fun z => ?_) id, Or.inr⟩, fun z => ⟨rfl, ⟨en1.2.2, by rw [Int64.le_iff_toInt_le, x64] at z; omega⟩, fun g hg hw => Int.le_trans en1.2.1 (g5 g hg hw), fun i hi => Int.le_trans en1.1 (k4 i hi), fun nf => ?_, fun nf => ⟨fun z => nf (fx.mpr (Or.inl z)), b, rfl, fun z => ⟨a, rfl, fun z2 => nf (fx.mpr (Or.inr ⟨z, z2⟩))⟩⟩⟩⟩
      · rw [← up_m1] at z
        have := up_inj z
        rw [this, im1] at en1
        omega
      · rcases fx.mp nf with z | z
        · exact Or.inl z
        · exact Or.inr ⟨z.1, a, b, rfl, rfl, z.2⟩
/-- a hand event comes: what it sets, and it waits no more -/
theorem Rel_th {K : Nat} {c : wdT} {ι : Nat} {f : Nat → Int32} {i : Nat} (h : Rel K c ι f) (hi : i < cH c ι) :
    Rel K (thX c ι i) ι (fu (fu (shF (fu f 4 (nI (cH c ι - 1))) (700 + 5 * i) (700 + 5 * (cH c ι - 1))) (10 + 10 * nz (f (700 + 5 * i + 1)) + (if f (700 + 5 * i + 2) = 0 then 1 else 2)) (if f (700 + 5 * i + 2) = 2 then -1 else f (700 + 5 * i + 3))) (10 + 10 * nz (f (700 + 5 * i + 1)) + 3) 1) := by
  obtain ⟨a1, a2, a3, a4, a5, a6, a7, a8, a9, a10⟩ := h.2.2.2.2.2.1 i hi
  have v24 := (h.1.2.2.2.2.2.2.2 i hi).2
  have key : ∀ (k j : Nat) (x : Int32), k ≤ 2 → Rel K (sI c 0 ι 13 j (nz (wI c 0 ι 6 0 i)) x) ι (fu (fu f (10 + 10 * nz (wI c 0 ι 6 0 i) + k) x) (10 + 10 * nz (wI c 0 ι 6 0 i) + 3) 1) →
      Rel K (dpW (sI c 0 ι 13 j (nz (wI c 0 ι 6 0 i)) x) ι i (cH c ι)) ι (fu (fu (shF (fu f 4 (nI (cH c ι - 1))) (700 + 5 * i) (700 + 5 * (cH c ι - 1))) (10 + 10 * nz (wI c 0 ι 6 0 i) + k) x) (10 + 10 * nz (wI c 0 ι 6 0 i) + 3) 1) := by
    intro k j x hk hr
    have ec : cH (sI c 0 ι 13 j (nz (wI c 0 ι 6 0 i)) x) ι = cH c ι := by
      unfold cH
      rw [rd_II, if_neg (by omega)]
    have q := Rel_drop hr (by rw [ec]; exact hi)
    rw [ec] at q
    have eF : shF (fu (fu (fu f (10 + 10 * nz (wI c 0 ι 6 0 i) + k) x) (10 + 10 * nz (wI c 0 ι 6 0 i) + 3) 1) 4 (nI (cH c ι - 1))) (700 + 5 * i) (700 + 5 * (cH c ι - 1)) = fu (fu (shF (fu f 4 (nI (cH c ι - 1))) (700 + 5 * i) (700 + 5 * (cH c ι - 1))) (10 + 10 * nz (wI c 0 ι 6 0 i) + k) x) (10 + 10 * nz (wI c 0 ι 6 0 i) + 3) 1 := by
      funext p
      have v25 : nz (wI c 0 ι 6 0 i) < 24 := v24
      clear v24
      unfold shF
      by_cases e1 : 700 + 5 * i ≤ p ∧ p < 700 + 5 * (cH c ι - 1)
      · rw [if_pos e1, fu_n (by omega), fu_n (by omega), fu_n (by omega), fu_n (by omega), fu_n (by omega), if_pos e1, fu_n (by omega)]
      · rw [if_neg e1]
        by_cases e2 : p = 4
        · subst e2
          rw [fu_s, fu_n (by omega), fu_n (by omega), if_neg e1, fu_s]
        · rw [fu_n e2]
          by_cases e3 : p = 10 + 10 * nz (wI c 0 ι 6 0 i) + 3
          · subst e3
            rw [fu_s, fu_s]
          · rw [fu_n e3, fu_n e3]
            by_cases e4 : p = 10 + 10 * nz (wI c 0 ι 6 0 i) + k
            · subst e4
              rw [fu_s, fu_s]
            · rw [fu_n e4, fu_n e4, if_neg e1, fu_n e2]
    rw [eF] at q
    exact q
  unfold thX thW thN
  rw [a2, a3]
  by_cases z0 : wI c 0 ι 5 0 i = 0
  · rw [if_pos z0, if_pos z0, if_neg (by rw [z0]; decide), a4 (by rw [z0]; decide)]
    exact key 1 0 _ (by decide) (Rel_hd h a10 a7)
  · rw [if_neg z0, if_neg z0]
    by_cases z1 : wI c 0 ι 5 0 i = 1
    · rw [if_pos z1, if_neg (by rw [z1]; decide), a4 (by rw [z1]; decide)]
      exact key 2 1 _ (by decide) (Rel_fc h a10 (rg_in a7 (by decide) (by decide)))
    · rw [if_neg z1]
      have z2 : wI c 0 ι 5 0 i = 2 := by
        have u1 := a6.1
        have u2 := a6.2
        have u3 : ¬ (wI c 0 ι 5 0 i).toInt = 0 := fun q => z0 (Int32.toInt_inj.mp (by rw [q]; rfl))
        have u4 : ¬ (wI c 0 ι 5 0 i).toInt = 1 := fun q => z1 (Int32.toInt_inj.mp (by rw [q]; rfl))
        exact Int32.toInt_inj.mp (by rw [i2]; omega)
      rw [if_pos z2]
      exact key 2 1 _ (by decide) (Rel_fc h a10 ⟨by decide, by decide⟩)

theorem ct_lt {x : Int32} {m p : Nat} (h : ct x m) (hm : m < 2 ^ 31) (hp : p ≤ nz x) (z : ¬ x ≤ nI p) : p < nz x := by
  have h2 := h.2
  rw [h.1] at z
  have q : ¬ nz x ≤ p := fun q => z ((nI_leI (a := nz x) (b := p) (by omega) (by omega)).mpr q)
  omega
theorem ct_ge {x : Int32} {m p : Nat} (h : ct x m) (hm : m < 2 ^ 31) (hp : p ≤ nz x) (z : x ≤ nI p) : p = nz x := by
  have h2 := h.2
  rw [h.1] at z
  have q := (nI_leI (a := nz x) (b := p) (by omega) (by omega)).mp z
  omega
section
variable {K : Nat} {c : wdT} {ι : Nat} {f : Nat → Int32} {p : Nat}
theorem Rel_n (h : Rel K c ι f) : f 2 = nI (cN c ι) ∧ cN c ι ≤ 24 := ⟨h.2.1.2.2.1.trans h.1.1.1, h.1.1.2⟩
theorem Rel_g (h : Rel K c ι f) : f 3 = nI (cG c ι) ∧ cG c ι ≤ 32 := ⟨h.2.1.2.2.2.1.trans h.1.2.1.1, h.1.2.1.2⟩
theorem Rel_h (h : Rel K c ι f) : f 4 = nI (cH c ι) ∧ cH c ι ≤ 100 := ⟨h.2.1.2.2.2.2.1.trans h.1.2.2.2.1.1, h.1.2.2.2.1.2⟩
theorem Rel_k (h : Rel K c ι f) : f 5 = nI (cK c ι) ∧ cK c ι ≤ 20 := ⟨h.2.1.2.2.2.2.2.1.trans h.1.2.2.1.1, h.1.2.2.1.2⟩
theorem Rel_w (h : Rel K c ι f) : f 6 = nI (cW c ι) ∧ cW c ι ≤ 600 := ⟨h.2.1.2.2.2.2.2.2.1.trans h.1.2.2.2.2.1.1, h.1.2.2.2.2.1.2⟩
theorem nI_l2 {x : Int32} {n m p : Nat} (h : x = nI n ∧ n ≤ m) (hm : m < 2 ^ 31) (hp : p ≤ n) (z : ¬ x ≤ nI p) : p < n := by
  have h2 := h.2
  rw [h.1] at z
  have q : ¬ n ≤ p := fun q => z ((nI_leI (a := n) (b := p) (by omega) (by omega)).mpr q)
  omega
theorem nI_g2 {x : Int32} {n m p : Nat} (h : x = nI n ∧ n ≤ m) (hm : m < 2 ^ 31) (hp : p ≤ n) (z : x ≤ nI p) : p = n := by
  have h2 := h.2
  rw [h.1] at z
  have q := (nI_leI (a := n) (b := p) (by omega) (by omega)).mp z
  omega
theorem Rel_va (h : Rel K c ι f) {g : Nat} (hg : g < cG c ι) : vn (f (250 + 14 * g + 1)) 24 ∧ vn (f (250 + 14 * g + 2)) 24 ∧ vn (f (250 + 14 * g + 3)) 24 := by
  have q := (h.2.2.2.1 g hg).1
  rw [q.2.1, q.2.2.1, q.2.2.2.1]
  exact h.1.2.2.2.2.2.1 g hg
theorem Rel_vk (h : Rel K c ι f) {k : Nat} (hk : k < cK c ι) : vn (f (1300 + 5 * k + 1)) 24 ∧ vn (f (1300 + 5 * k + 2)) 24 := by
  have q := h.2.2.2.2.1 k hk
  rw [q.2.1, q.2.2.1]
  exact h.1.2.2.2.2.2.2.1 k hk
end
/-- how the reference joins what drives a net -/
theorem drj_M (d h : Int32) (p : Prop) [Decidable p] : (if (if p then h else 3) = 3 then d else if d = 3 ∨ d = (if p then h else 3) then (if p then h else 3) else 2) = if p ∧ ¬ h = 3 ∧ ¬ h = d then (if d = 3 then h else 2) else d := by
  by_cases hp : p
  · simp only [if_pos hp]
    by_cases h3 : h = 3
    · rw [if_pos h3, if_neg (fun z => z.2.1 h3)]
    · rw [if_neg h3]
      by_cases hd : h = d
      · rw [if_pos (Or.inr hd.symm), if_neg (fun z => z.2.2 hd), hd]
      · rw [if_pos (⟨hp, h3, hd⟩ : p ∧ ¬ h = 3 ∧ ¬ h = d)]
        by_cases d3 : d = 3
        · rw [if_pos (Or.inl d3), if_pos d3]
        · rw [if_neg (fun z => z.elim d3 (fun z => hd z.symm)), if_neg d3]
  · simp only [if_neg hp]
    rw [if_pos trivial, if_neg (fun z => hp z.1)]
theorem drj_rg {K : Nat} {c : wdT} {ι : Nat} {f : Nat → Int32} {n : Nat} (h : Rel K c ι f) (hn : n < cN c ι) : ∀ p, p ≤ cG c ι → rg (drj c ι n p) 0 3
  | 0, _ => (h.2.2.1 n hn).2.2.2.2.2.2.2.1
  | p + 1, hp => by
    rw [drj_s]
    split
    · split
      · exact (h.2.2.2.1 p (by omega)).2.1.2.2.1
      · exact ⟨by decide, by decide⟩
    · exact drj_rg h hn p (by omega)
theorem aft_rg {K : Nat} {c : wdT} {ι : Nat} {f : Nat → Int32} {n : Nat} (h : Rel K c ι f) (hn : n < cN c ι) : rg (aft c ι n (cG c ι)) 0 3 := by
  unfold aft
  split
  · exact drj_rg h hn _ (Nat.le_refl _)
  · rename_i z
    have q := (h.2.2.1 n hn).2.2.2.2.2.2.2.2.1
    have u1 := q.1
    have u2 := q.2
    have u3 : ¬ (wI c 0 ι 13 1 n).toInt = -1 := fun q => z (Int32.toInt_inj.mp (by rw [q]; rfl))
    exact ⟨by omega, by omega⟩
