def fu (f : Nat → Int32) (k : Nat) (x : Int32) : Nat → Int32 := fun i => if i = k then x else f i
theorem fu_s (f : Nat → Int32) (k : Nat) (x : Int32) : fu f k x k = x := if_pos rfl
theorem fu_n {f : Nat → Int32} {k i : Nat} {x : Int32} (h : i ≠ k) : fu f k x i = f i := if_neg h
def rg (x : Int32) (a b : Int) : Prop := a ≤ x.toInt ∧ x.toInt ≤ b
abbrev cN (c : wdT) (ι : Nat) : Nat := nz (wI c 0 ι 0 2 0)
abbrev cG (c : wdT) (ι : Nat) : Nat := nz (wI c 0 ι 0 4 0)
abbrev cK (c : wdT) (ι : Nat) : Nat := nz (wI c 0 ι 0 6 0)
abbrev cH (c : wdT) (ι : Nat) : Nat := nz (wI c 0 ι 4 0 0)
abbrev cW (c : wdT) (ι : Nat) : Nat := nz (wI c 0 ι 9 0 0)
/-- the head of the reference's array: time, rule, counts -/
def RT (K : Nat) (c : wdT) (ι : Nat) (f : Nat → Int32) : Prop :=
  (f 0).toInt64 = wL c 0 ι 0 0 0 ∧ f 1 = wI c 0 ι 0 1 0 ∧ f 2 = wI c 0 ι 0 2 0 ∧ f 3 = wI c 0 ι 0 4 0 ∧ f 4 = wI c 0 ι 4 0 0 ∧ f 5 = wI c 0 ι 0 6 0 ∧ f 6 = wI c 0 ι 9 0 0 ∧
  rg (f 0) 0 1000000000 ∧ rg (f 1) 0 1 ∧ rg (f 7) 0 K
/-- a net -/
def RN (K : Nat) (c : wdT) (ι : Nat) (f : Nat → Int32) (n : Nat) : Prop :=
  f (10 + 10 * n + 0) = wI c 0 ι 13 2 n ∧ f (10 + 10 * n + 1) = wI c 0 ι 13 0 n ∧ f (10 + 10 * n + 2) = wI c 0 ι 13 1 n ∧
  (f (10 + 10 * n + 4)).toInt64 = wL c 0 ι 13 3 n ∧ (f (10 + 10 * n + 5)).toInt64 = wL c 0 ι 13 4 n ∧ (f (10 + 10 * n + 6)).toInt64 = wL c 0 ι 13 5 n ∧
  rg (wI c 0 ι 13 2 n) 0 3 ∧ rg (wI c 0 ι 13 0 n) 0 3 ∧ rg (wI c 0 ι 13 1 n) (-1) 3 ∧
  rg (f (10 + 10 * n + 4)) 0 K ∧ rg (f (10 + 10 * n + 5)) (-1) 1000000000 ∧ rg (f (10 + 10 * n + 6)) (-1) 1000000000
/-- a gate -/
def RG (c : wdT) (ι : Nat) (f : Nat → Int32) (g : Nat) : Prop :=
  (f (250 + 14 * g + 0) = wI c 0 ι 14 0 g ∧ f (250 + 14 * g + 1) = wI c 0 ι 14 1 g ∧ f (250 + 14 * g + 2) = wI c 0 ι 14 2 g ∧ f (250 + 14 * g + 3) = wI c 0 ι 14 3 g ∧
  f (250 + 14 * g + 4) = wI c 0 ι 14 4 g ∧ f (250 + 14 * g + 5) = wI c 0 ι 14 5 g ∧ f (250 + 14 * g + 6) = wI c 0 ι 14 6 g ∧ f (250 + 14 * g + 7) = wI c 0 ι 14 7 g ∧ f (250 + 14 * g + 9) = wI c 0 ι 14 9 g) ∧
  (rg (wI c 0 ι 14 4 g) 0 1000 ∧ rg (wI c 0 ι 14 5 g) 0 1000 ∧ rg (wI c 0 ι 14 6 g) 0 3 ∧ rg (wI c 0 ι 14 7 g) (-1) 3 ∧ rg (wI c 0 ι 14 9 g) (-1) 3) ∧
  (¬ wI c 0 ι 14 7 g = -1 → (f (250 + 14 * g + 8)).toInt64 = wL c 0 ι 14 8 g ∧ rg (f (250 + 14 * g + 8)) (f 0).toInt 1000001000) ∧
  (¬ wI c 0 ι 14 9 g = -1 → ¬ wI c 0 ι 14 7 g = -1 ∧ (f (250 + 14 * g + 10)).toInt64 = wL c 0 ι 14 10 g ∧ rg (f (250 + 14 * g + 10)) (f (250 + 14 * g + 8)).toInt 1000001000) ∧
  f (10 + 10 * nz (wI c 0 ι 14 3 g) + 3) = 1 ∧ nz (wI c 0 ι 14 1 g) < cN c ι ∧ nz (wI c 0 ι 14 2 g) < cN c ι ∧ nz (wI c 0 ι 14 3 g) < cN c ι
/-- a check -/
def RK (c : wdT) (ι : Nat) (f : Nat → Int32) (k : Nat) : Prop :=
  f (1300 + 5 * k + 0) = wI c 0 ι 15 0 k ∧ f (1300 + 5 * k + 1) = wI c 0 ι 15 1 k ∧ f (1300 + 5 * k + 2) = wI c 0 ι 15 2 k ∧ f (1300 + 5 * k + 3) = wI c 0 ι 15 3 k ∧ f (1300 + 5 * k + 4) = wI c 0 ι 15 4 k ∧
  rg (wI c 0 ι 15 0 k) 0 1 ∧ rg (wI c 0 ι 15 3 k) 0 1000 ∧ nz (wI c 0 ι 15 1 k) < cN c ι ∧ nz (wI c 0 ι 15 2 k) < cN c ι
/-- a hand event -/
def RH (c : wdT) (ι : Nat) (f : Nat → Int32) (h : Nat) : Prop :=
  (f (700 + 5 * h + 0)).toInt64 = wL c 0 ι 7 0 h ∧ f (700 + 5 * h + 1) = wI c 0 ι 6 0 h ∧ f (700 + 5 * h + 2) = wI c 0 ι 5 0 h ∧ (¬ wI c 0 ι 5 0 h = 2 → f (700 + 5 * h + 3) = wI c 0 ι 8 0 h) ∧
  rg (f (700 + 5 * h + 0)) (f 0).toInt 1000000000 ∧ rg (wI c 0 ι 5 0 h) 0 2 ∧ rg (wI c 0 ι 8 0 h) 0 3 ∧ f (700 + 5 * h + 4) < f 7 ∧ (∀ h', h' < h → f (700 + 5 * h' + 4) < f (700 + 5 * h + 4)) ∧ nz (wI c 0 ι 6 0 h) < cN c ι
/-- a change that is kept -/
def RW (c : wdT) (ι : Nat) (f : Nat → Int32) (k : Nat) : Prop :=
  f (1450 + 3 * k + 0) = wI c 0 ι 10 0 k ∧ f (1450 + 3 * k + 1) = wI c 0 ι 11 0 k ∧ f (1450 + 3 * k + 2) = wI c 0 ι 12 0 k ∧
  rg (wI c 0 ι 10 0 k) 0 1000000000 ∧ rg (wI c 0 ι 12 0 k) 0 3 ∧ vn (wI c 0 ι 11 0 k) 24
/-- circuit ι and the reference's array f say the same -/
def Rel (K : Nat) (c : wdT) (ι : Nat) (f : Nat → Int32) : Prop :=
  okC c ι ∧ RT K c ι f ∧ (∀ n, n < cN c ι → RN K c ι f n) ∧ (∀ g, g < cG c ι → RG c ι f g) ∧ (∀ k, k < cK c ι → RK c ι f k) ∧ (∀ h, h < cH c ι → RH c ι f h) ∧ (∀ k, k < cW c ι → RW c ι f k)
theorem RN_cg {K K' : Nat} {c c' : wdT} {ι : Nat} {f f' : Nat → Int32} {n : Nat} (hK : K ≤ K') (hI : ∀ k, wI c' 0 ι 13 k n = wI c 0 ι 13 k n) (hL : ∀ k, wL c' 0 ι 13 k n = wL c 0 ι 13 k n) (hf : ∀ j, j < 10 → f' (10 + 10 * n + j) = f (10 + 10 * n + j)) (h : RN K c ι f n) : RN K' c' ι f' n := by
  unfold RN at h ⊢
  rw [hI, hI, hI, hL, hL, hL, hf 0 (by decide), hf 1 (by decide), hf 2 (by decide), hf 4 (by decide), hf 5 (by decide), hf 6 (by decide)]
  obtain ⟨h1, h2, h3, h4, h5, h6, h7, h8, h9, h10, h11⟩ := h
  exact ⟨h1, h2, h3, h4, h5, h6, h7, h8, h9, ⟨h10.1, by have := h10.2; omega⟩, h11⟩
theorem RG_cg {c c' : wdT} {ι : Nat} {f f' : Nat → Int32} {g : Nat} (hN : cN c ι ≤ cN c' ι) (hI : ∀ k, wI c' 0 ι 14 k g = wI c 0 ι 14 k g) (hL : ∀ k, wL c' 0 ι 14 k g = wL c 0 ι 14 k g) (hf : ∀ j, j < 14 → f' (250 + 14 * g + j) = f (250 + 14 * g + j)) (h0 : f' 0 = f 0) (hw : f (10 + 10 * nz (wI c 0 ι 14 3 g) + 3) = 1 → f' (10 + 10 * nz (wI c 0 ι 14 3 g) + 3) = 1) (h : RG c ι f g) : RG c' ι f' g := by
  unfold RG at h ⊢
  simp only [hI, hL, h0, hf 0 (by decide), hf 1 (by decide), hf 2 (by decide), hf 3 (by decide), hf 4 (by decide), hf 5 (by decide), hf 6 (by decide), hf 7 (by decide), hf 8 (by decide), hf 9 (by decide), hf 10 (by decide)]
  exact ⟨h.1, h.2.1, h.2.2.1, h.2.2.2.1, hw h.2.2.2.2.1, Nat.lt_of_lt_of_le h.2.2.2.2.2.1 hN, Nat.lt_of_lt_of_le h.2.2.2.2.2.2.1 hN, Nat.lt_of_lt_of_le h.2.2.2.2.2.2.2 hN⟩
theorem RK_cg {c c' : wdT} {ι : Nat} {f f' : Nat → Int32} {k : Nat} (hN : cN c ι ≤ cN c' ι) (hI : ∀ j, wI c' 0 ι 15 j k = wI c 0 ι 15 j k) (hf : ∀ j, j < 5 → f' (1300 + 5 * k + j) = f (1300 + 5 * k + j)) (h : RK c ι f k) : RK c' ι f' k := by
  unfold RK at h ⊢
  rw [hI, hI, hI, hI, hI, hf 0 (by decide), hf 1 (by decide), hf 2 (by decide), hf 3 (by decide), hf 4 (by decide)]
  obtain ⟨a1, a2, a3, a4, a5, a6, a7, a8, a9⟩ := h
  exact ⟨a1, a2, a3, a4, a5, a6, a7, Nat.lt_of_lt_of_le a8 hN, Nat.lt_of_lt_of_le a9 hN⟩
theorem RH_cg {c c' : wdT} {ι : Nat} {f f' : Nat → Int32} {h : Nat} (hN : cN c ι ≤ cN c' ι) (hI : ∀ r, 5 ≤ r → r ≤ 8 → wI c' 0 ι r 0 h = wI c 0 ι r 0 h) (hL : wL c' 0 ι 7 0 h = wL c 0 ι 7 0 h) (hf : ∀ i, 700 ≤ i → i < 705 + 5 * h → f' i = f i) (h0 : f' 0 = f 0) (h7 : f 7 ≤ f' 7) (hh : RH c ι f h) : RH c' ι f' h := by
  unfold RH at hh ⊢
  rw [hI 5 (by decide) (by decide), hI 6 (by decide) (by decide), hI 8 (by decide) (by decide), hL, h0, hf (700 + 5 * h + 0) (by omega) (by omega), hf (700 + 5 * h + 1) (by omega) (by omega), hf (700 + 5 * h + 2) (by omega) (by omega), hf (700 + 5 * h + 3) (by omega) (by omega), hf (700 + 5 * h + 4) (by omega) (by omega)]
  obtain ⟨a1, a2, a3, a4, a5, a6, a7, a8, a9, a10⟩ := hh
  exact ⟨a1, a2, a3, a4, a5, a6, a7, Int32.lt_of_lt_of_le a8 h7, fun h' hh' => by rw [hf (700 + 5 * h' + 4) (by omega) (by omega)]; exact a9 h' hh', Nat.lt_of_lt_of_le a10 hN⟩
theorem RW_cg {c c' : wdT} {ι : Nat} {f f' : Nat → Int32} {k : Nat} (hI : ∀ r, 10 ≤ r → r ≤ 12 → wI c' 0 ι r 0 k = wI c 0 ι r 0 k) (hf : ∀ j, j < 3 → f' (1450 + 3 * k + j) = f (1450 + 3 * k + j)) (h : RW c ι f k) : RW c' ι f' k := by
  unfold RW at h ⊢
  rw [hI 10 (by decide) (by decide), hI 11 (by decide) (by decide), hI 12 (by decide) (by decide), hf 0 (by decide), hf 1 (by decide), hf 2 (by decide)]
  exact h

/-- a change in one gate alone -/
theorem Rel_gate {K : Nat} {c c' : wdT} {ι : Nat} {f f' : Nat → Int32} {g : Nat} (h : Rel K c ι f) (hI : ∀ r k i, ¬ (r = 14 ∧ i = g) → wI c' 0 ι r k i = wI c 0 ι r k i) (hL : ∀ r k i, ¬ (r = 14 ∧ i = g) → wL c' 0 ι r k i = wL c 0 ι r k i)
    (hab : ∀ k, 1 ≤ k → k ≤ 3 → wI c' 0 ι 14 k g = wI c 0 ι 14 k g) (hg : g < 32) (hf : ∀ i, ¬ (250 + 14 * g ≤ i ∧ i < 250 + 14 * g + 14) → f' i = f i) (hn : g < cG c ι → RG c' ι f' g) : Rel K c' ι f' := by
  obtain ⟨⟨o1, o2, o3, o4, o5, o6, o7, o8⟩, ht, hN, hG, hC, hH, hW⟩ := h
  have e0 : ∀ k i, wI c' 0 ι 0 k i = wI c 0 ι 0 k i := fun k i => hI 0 k i (by omega)
  have e4 : ∀ k i, wI c' 0 ι 4 k i = wI c 0 ι 4 k i := fun k i => hI 4 k i (by omega)
  have e9 : ∀ k i, wI c' 0 ι 9 k i = wI c 0 ι 9 k i := fun k i => hI 9 k i (by omega)
  have eN : cN c ι ≤ cN c' ι := by unfold cN; rw [e0]; exact Nat.le_refl _
  refine ⟨⟨by rw [e0]; exact o1, by rw [e0]; exact o2, by rw [e0]; exact o3, by rw [e4]; exact o4, by rw [e9]; exact o5, fun g' hg' => ?_, fun k hk => ?_, fun i hi => ?_⟩, ?_, fun n hn' => ?_, fun g' hg' => ?_, fun k hk => ?_, fun i hi => ?_, fun k hk => ?_⟩
  · rw [e0] at hg'
    by_cases e : g' = g
    · subst e
      rw [hab 1 (by decide) (by decide), hab 2 (by decide) (by decide), hab 3 (by decide) (by decide)]
      exact o6 g' hg'
    · rw [hI 14 1 g' (by omega), hI 14 2 g' (by omega), hI 14 3 g' (by omega)]
      exact o6 g' hg'
  · rw [e0] at hk
    rw [hI 15 1 k (by omega), hI 15 2 k (by omega)]
    exact o7 k hk
  · rw [e4] at hi
    rw [hI 6 0 i (by omega)]
    exact o8 i hi
  · unfold RT at ht ⊢
    rw [e0, e0, e0, e0, e4, e9, hL 0 0 0 (by omega), hf 0 (by omega), hf 1 (by omega), hf 2 (by omega), hf 3 (by omega), hf 4 (by omega), hf 5 (by omega), hf 6 (by omega), hf 7 (by omega)]
    exact ht
  · unfold cN at hn'
    rw [e0] at hn'
    exact RN_cg (Nat.le_refl K) (fun k => hI 13 k n (by omega)) (fun k => hL 13 k n (by omega)) (fun j hj => hf _ (by have := o1.2; omega)) (hN n hn')
  · unfold cG at hg'
    rw [e0] at hg'
    by_cases e : g' = g
    · subst e
      exact hn hg'
    · exact RG_cg eN (fun k => hI 14 k g' (by omega)) (fun k => hL 14 k g' (by omega)) (fun j hj => hf _ (by omega)) (hf 0 (by omega)) (fun z => by rw [hf _ (by have := (o6 g' hg').2.2.2; unfold nz; omega)]; exact z) (hG g' hg')
  · unfold cK at hk
    rw [e0] at hk
    exact RK_cg eN (fun j => hI 15 j k (by omega)) (fun j hj => hf _ (by omega)) (hC k hk)
  · unfold cH at hi
    rw [e4] at hi
    exact RH_cg eN (fun r h1 h2 => hI r 0 i (by omega)) (hL 7 0 i (by omega)) (fun j h1 h2 => hf j (by omega)) (hf 0 (by omega)) (by rw [hf 7 (by omega)]; exact Int32.le_refl _) (hH i hi)
  · unfold cW at hk
    rw [e9] at hk
    exact RW_cg (fun r h1 h2 => hI r 0 k (by omega)) (fun j hj => hf _ (by omega)) (hW k hk)
theorem i0 : (0 : Int32).toInt = 0 := by decide
theorem i1 : (1 : Int32).toInt = 1 := by decide
theorem i2 : (2 : Int32).toInt = 2 := by decide
theorem i3 : (3 : Int32).toInt = 3 := by decide
theorem im1 : (-1 : Int32).toInt = -1 := by decide
theorem i32_add {x y : Int32} (h1 : -2147483648 ≤ x.toInt + y.toInt) (h2 : x.toInt + y.toInt < 2147483648) : (x + y).toInt = x.toInt + y.toInt := by
  rw [Int32.toInt_add]
  exact Int.bmod_eq_of_le (by omega) (by omega)
theorem i32_sub {x y : Int32} (h1 : -2147483648 ≤ x.toInt - y.toInt) (h2 : x.toInt - y.toInt < 2147483648) : (x - y).toInt = x.toInt - y.toInt := by
  rw [Int32.toInt_sub]
  exact Int.bmod_eq_of_le (by omega) (by omega)
theorem x64 (x : Int32) : x.toInt64.toInt = x.toInt := Int32.toInt_toInt64 x
theorem i64_add {x y : Int64} (h1 : -9223372036854775808 ≤ x.toInt + y.toInt) (h2 : x.toInt + y.toInt < 9223372036854775808) : (x + y).toInt = x.toInt + y.toInt := by
  rw [Int64.toInt_add]
  exact Int.bmod_eq_of_le (by omega) (by omega)
theorem i64_sub {x y : Int64} (h1 : -9223372036854775808 ≤ x.toInt - y.toInt) (h2 : x.toInt - y.toInt < 9223372036854775808) : (x - y).toInt = x.toInt - y.toInt := by
  rw [Int64.toInt_sub]
  exact Int.bmod_eq_of_le (by omega) (by omega)
theorem up_add {x y : Int32} (h1 : -2147483648 ≤ x.toInt + y.toInt) (h2 : x.toInt + y.toInt < 2147483648) : (x + y).toInt64 = x.toInt64 + y.toInt64 := by
  have a := x64 x
  have b := x64 y
  apply Int64.toInt_inj.mp
  rw [x64, i32_add h1 h2, i64_add (by omega) (by omega), a, b]
theorem up_inj {x y : Int32} (h : x.toInt64 = y.toInt64) : x = y := Int32.toInt_inj.mp (by rw [← x64, ← x64, h])
theorem up_lt {x y : Int32} : x.toInt64 < y.toInt64 ↔ x < y := by rw [Int64.lt_iff_toInt_lt, Int32.lt_iff_toInt_lt, x64, x64]
theorem up_le {x y : Int32} : x.toInt64 ≤ y.toInt64 ↔ x ≤ y := by rw [Int64.le_iff_toInt_le, Int32.le_iff_toInt_le, x64, x64]
theorem up_m1 : (-1 : Int32).toInt64 = -1 := by decide
theorem ne_m1 {v : Int32} (h : rg v 0 3) : ¬ v = -1 := fun z => by have := h.1; rw [z, im1] at this; omega
theorem dly_rg {r s v : Int32} (h1 : rg r 0 1000) (h2 : rg s 0 1000) : rg (dly r s v) 0 1000 := by
  unfold dly
  repeat' split
  all_goals assumption
/-- a gate is asked -/
def askF (f : Nat → Int32) (g : Nat) (v : Int32) : Nat → Int32 :=
  if f (250 + 14 * g + 7) = -1 ∨ (¬ f (250 + 14 * g + 7) = v ∧ f 1 = 0) then
    fu (fu (fu f (250 + 14 * g + 7) (if v = f (250 + 14 * g + 6) then -1 else v)) (250 + 14 * g + 8) (f 0 + dly (f (250 + 14 * g + 4)) (f (250 + 14 * g + 5)) v)) (250 + 14 * g + 9) (-1)
  else if f (250 + 14 * g + 7) = v then fu f (250 + 14 * g + 9) (-1)
  else fu (fu (fu f (250 + 14 * g + 7) 2) (250 + 14 * g + 9) v) (250 + 14 * g + 10) (if f (250 + 14 * g + 8) < f 0 + dly (f (250 + 14 * g + 4)) (f (250 + 14 * g + 5)) v then f 0 + dly (f (250 + 14 * g + 4)) (f (250 + 14 * g + 5)) v else f (250 + 14 * g + 8))
theorem askF_n (f : Nat → Int32) (g : Nat) (v : Int32) (i : Nat) (h : ¬ (250 + 14 * g + 7 ≤ i ∧ i ≤ 250 + 14 * g + 10)) : askF f g v i = f i := by
  unfold askF
  split
  · rw [fu_n (by omega), fu_n (by omega), fu_n (by omega)]
  · split
    · rw [fu_n (by omega)]
    · rw [fu_n (by omega), fu_n (by omega), fu_n (by omega)]
theorem askW_n (w : wdT) (ι g : Nat) (v : Int32) (t : Int64) (rl : Int32) (r k i : Nat) (h : ¬ (r = 14 ∧ i = g)) : wI (askW w ι g v t rl) 0 ι r k i = wI w 0 ι r k i ∧ wL (askW w ι g v t rl) 0 ι r k i = wL w 0 ι r k i := by
  unfold askW
  split
  · simp only [rd_II, rd_LI]
    rw [if_neg (by omega)]
    exact ⟨rfl, trivial⟩
  · split
    · simp only [rd_II, rd_LI, rd_LL, rd_IL]
      rw [if_neg (by omega), if_neg (by omega), if_neg (by omega)]
      exact ⟨rfl, rfl⟩
    · simp only [rd_II, rd_LI, rd_LL, rd_IL]
      rw [if_neg (by omega), if_neg (by omega), if_neg (by omega)]
      exact ⟨rfl, rfl⟩
theorem ask1W {w : wdT} {ι g : Nat} {v : Int32} {t : Int64} {rl : Int32} (h : v = wI w 0 ι 14 7 g) : askW w ι g v t rl = sI w 0 ι 14 9 g (-1) := if_pos h
theorem ask1F {f : Nat → Int32} {g : Nat} {v : Int32} (hv : ¬ v = -1) (h : f (250 + 14 * g + 7) = v) : askF f g v = fu f (250 + 14 * g + 9) (-1) := by
  unfold askF
  rw [if_neg (by rw [h]; simp [hv]), if_pos h]
theorem ask2W {w : wdT} {ι g : Nat} {v : Int32} {t : Int64} {rl : Int32} (h : ¬ v = wI w 0 ι 14 7 g) (h7 : ¬ wI w 0 ι 14 7 g = -1) (hr : rl = 1) : askW w ι g v t rl = sL (sI (sI w 0 ι 14 7 g 2) 0 ι 14 9 g v) 0 ι 14 10 g (mxl (wL w 0 ι 14 8 g) (t + (dly (wI w 0 ι 14 4 g) (wI w 0 ι 14 5 g) v).toInt64)) := by
  unfold askW
  rw [if_neg h, if_pos ⟨h7, hr⟩]
theorem ask2F {f : Nat → Int32} {g : Nat} {v : Int32} (h : ¬ v = f (250 + 14 * g + 7)) (h7 : ¬ f (250 + 14 * g + 7) = -1) (hr : f 1 = 1) : askF f g v = fu (fu (fu f (250 + 14 * g + 7) 2) (250 + 14 * g + 9) v) (250 + 14 * g + 10) (if f (250 + 14 * g + 8) < f 0 + dly (f (250 + 14 * g + 4)) (f (250 + 14 * g + 5)) v then f 0 + dly (f (250 + 14 * g + 4)) (f (250 + 14 * g + 5)) v else f (250 + 14 * g + 8)) := by
  unfold askF
  rw [if_neg (by rw [hr]; simp [h7]), if_neg (fun z => h z.symm)]
theorem ask3W {w : wdT} {ι g : Nat} {v : Int32} {t : Int64} {rl : Int32} (h : ¬ v = wI w 0 ι 14 7 g) (h7 : wI w 0 ι 14 7 g = -1 ∨ rl = 0) : askW w ι g v t rl = sI (sL (sI w 0 ι 14 7 g (if v = wI w 0 ι 14 6 g then -1 else v)) 0 ι 14 8 g (t + (dly (wI w 0 ι 14 4 g) (wI w 0 ι 14 5 g) v).toInt64)) 0 ι 14 9 g (-1) := by
  unfold askW
  rw [if_neg h, if_neg (fun z => h7.elim (fun q => z.1 q) (fun q => by rw [q] at z; exact absurd z.2 (by decide)))]
theorem ask3F {f : Nat → Int32} {g : Nat} {v : Int32} (h : ¬ v = f (250 + 14 * g + 7)) (h7 : f (250 + 14 * g + 7) = -1 ∨ f 1 = 0) : askF f g v = fu (fu (fu f (250 + 14 * g + 7) (if v = f (250 + 14 * g + 6) then -1 else v)) (250 + 14 * g + 8) (f 0 + dly (f (250 + 14 * g + 4)) (f (250 + 14 * g + 5)) v)) (250 + 14 * g + 9) (-1) := by
  unfold askF
  rw [if_pos (h7.elim (fun q => Or.inl q) (fun q => Or.inr ⟨fun z => h z.symm, q⟩))]
theorem Rel_ask {K : Nat} {c : wdT} {ι : Nat} {f : Nat → Int32} {g : Nat} {v : Int32} (h : Rel K c ι f) (hg : g < cG c ι) (hv : rg v 0 3) : Rel K (askW c ι g v (wL c 0 ι 0 0 0) (wI c 0 ι 0 1 0)) ι (askF f g v) := by
  have hg2 : g < 32 := by have := h.1.2.1.2; unfold cG at hg; omega
  have hq := qk_ask c ι g v (wL c 0 ι 0 0 0) (wI c 0 ι 0 1 0)
  refine Rel_gate h (fun r k i z => (askW_n c ι g v _ _ r k i z).1) (fun r k i z => (askW_n c ι g v _ _ r k i z).2) (fun k h1 h2 => hq.1 0 ι 14 k g (by omega)) hg2 (fun i hi => askF_n f g v i (by omega)) (fun _ => ?_)
  have hG := h.2.2.2.1 g hg
  obtain ⟨t1, t2, _, _, _, _, _, t8, t9, _⟩ := h.2.1
  obtain ⟨⟨a0, a1, a2, a3, a4, a5, a6, a7, a9⟩, ⟨b4, b5, b6, b7, b9⟩, d7, d9, hw, hnn⟩ := hG
  have hd := dly_rg (v := v) b4 b5
  have hvn := ne_m1 hv
  have hnw : (f 0 + dly (f (250 + 14 * g + 4)) (f (250 + 14 * g + 5)) v).toInt = (f 0).toInt + (dly (wI c 0 ι 14 4 g) (wI c 0 ι 14 5 g) v).toInt := by
    rw [a4, a5]
    have q1 := t8.1
    have q2 := t8.2
    have q3 := hd.1
    have q4 := hd.2
    exact i32_add (by omega) (by omega)
  have h64 : (f 0 + dly (f (250 + 14 * g + 4)) (f (250 + 14 * g + 5)) v).toInt64 = wL c 0 ι 0 0 0 + (dly (wI c 0 ι 14 4 g) (wI c 0 ι 14 5 g) v).toInt64 := by
    rw [a4, a5, ← t1]
    have q1 := t8.1
    have q2 := t8.2
    have q3 := hd.1
    have q4 := hd.2
    exact up_add (by omega) (by omega)
  have hwf : (askF f g v) (10 + 10 * nz (wI c 0 ι 14 3 g) + 3) = 1 := by
    rw [askF_n _ _ _ _ (by have := (h.1.2.2.2.2.2.1 g hg).2.2.2; unfold nz; omega)]
    exact hw
  unfold RG cN
  rw [hq.1 0 ι 0 2 0 (by omega), hq.1 0 ι 14 0 g (by omega), hq.1 0 ι 14 1 g (by omega), hq.1 0 ι 14 2 g (by omega), hq.1 0 ι 14 3 g (by omega), hq.1 0 ι 14 4 g (by omega), hq.1 0 ι 14 5 g (by omega), hq.1 0 ι 14 6 g (by omega)]
  rw [askF_n f g v (250 + 14 * g + 0) (by omega), askF_n f g v (250 + 14 * g + 1) (by omega), askF_n f g v (250 + 14 * g + 2) (by omega), askF_n f g v (250 + 14 * g + 3) (by omega), askF_n f g v (250 + 14 * g + 4) (by omega), askF_n f g v (250 + 14 * g + 5) (by omega), askF_n f g v (250 + 14 * g + 6) (by omega), askF_n f g v 0 (by omega)]
  clear hq
  have rm : rg (-1) (-1) 3 := ⟨by decide, by decide⟩
  have r2 : rg 2 (-1) 3 := ⟨by decide, by decide⟩
  have rv : rg v (-1) 3 := ⟨by have := hv.1; omega, hv.2⟩
  by_cases q1 : v = wI c 0 ι 14 7 g
  · have z := q1
    have e7 : wI (askW c ι g v (wL c 0 ι 0 0 0) (wI c 0 ι 0 1 0)) 0 ι 14 7 g = wI c 0 ι 14 7 g := by rw [ask1W q1]; simp only [rd_II, rd_IL, eq_self, true_and, and_true, false_and, and_false, if_true, if_false, reduceIte, Nat.reduceEqDiff]
    have e9 : wI (askW c ι g v (wL c 0 ι 0 0 0) (wI c 0 ι 0 1 0)) 0 ι 14 9 g = -1 := by rw [ask1W q1]; simp only [rd_II, rd_IL, eq_self, true_and, and_true, false_and, and_false, if_true, if_false, reduceIte, Nat.reduceEqDiff]
    have e8 : wL (askW c ι g v (wL c 0 ι 0 0 0) (wI c 0 ι 0 1 0)) 0 ι 14 8 g = wL c 0 ι 14 8 g := by rw [ask1W q1]; simp only [rd_LL, rd_LI, eq_self, true_and, and_true, false_and, and_false, if_true, if_false, reduceIte, Nat.reduceEqDiff]
    have e10 : wL (askW c ι g v (wL c 0 ι 0 0 0) (wI c 0 ι 0 1 0)) 0 ι 14 10 g = wL c 0 ι 14 10 g := by rw [ask1W q1]; simp only [rd_LL, rd_LI, eq_self, true_and, and_true, false_and, and_false, if_true, if_false, reduceIte, Nat.reduceEqDiff]
    have k7 : askF f g v (250 + 14 * g + 7) = f (250 + 14 * g + 7) := by rw [ask1F hvn (a7.trans q1.symm)]; simp only [fu, eq_self, if_true, reduceIte, Nat.add_left_cancel_iff, Nat.reduceEqDiff]
    have k8 : askF f g v (250 + 14 * g + 8) = f (250 + 14 * g + 8) := by rw [ask1F hvn (a7.trans q1.symm)]; simp only [fu, eq_self, if_true, reduceIte, Nat.add_left_cancel_iff, Nat.reduceEqDiff]
    have k9 : askF f g v (250 + 14 * g + 9) = -1 := by rw [ask1F hvn (a7.trans q1.symm)]; simp only [fu, eq_self, if_true, reduceIte, Nat.add_left_cancel_iff, Nat.reduceEqDiff]
    have k10 : askF f g v (250 + 14 * g + 10) = f (250 + 14 * g + 10) := by rw [ask1F hvn (a7.trans q1.symm)]; simp only [fu, eq_self, if_true, reduceIte, Nat.add_left_cancel_iff, Nat.reduceEqDiff]
    rw [e7, e8, e9, e10, k7, k8, k9, k10]
    exact ⟨⟨a0, a1, a2, a3, a4, a5, a6, a7, rfl⟩, ⟨b4, b5, b6, b7, rm⟩, d7, fun z => absurd rfl z, hwf, hnn⟩
  by_cases q2 : wI c 0 ι 14 7 g = -1 ∨ wI c 0 ι 0 1 0 = 0
  · have z := q2
    have e7 : wI (askW c ι g v (wL c 0 ι 0 0 0) (wI c 0 ι 0 1 0)) 0 ι 14 7 g = (if v = wI c 0 ι 14 6 g then -1 else v) := by rw [ask3W q1 q2]; simp only [rd_II, rd_IL, eq_self, true_and, and_true, false_and, and_false, if_true, if_false, reduceIte, Nat.reduceEqDiff]
    have e9 : wI (askW c ι g v (wL c 0 ι 0 0 0) (wI c 0 ι 0 1 0)) 0 ι 14 9 g = -1 := by rw [ask3W q1 q2]; simp only [rd_II, rd_IL, eq_self, true_and, and_true, false_and, and_false, if_true, if_false, reduceIte, Nat.reduceEqDiff]
    have e8 : wL (askW c ι g v (wL c 0 ι 0 0 0) (wI c 0 ι 0 1 0)) 0 ι 14 8 g = (wL c 0 ι 0 0 0 + (dly (wI c 0 ι 14 4 g) (wI c 0 ι 14 5 g) v).toInt64) := by rw [ask3W q1 q2]; simp only [rd_LL, rd_LI, eq_self, true_and, and_true, false_and, and_false, if_true, if_false, reduceIte, Nat.reduceEqDiff]
    have e10 : wL (askW c ι g v (wL c 0 ι 0 0 0) (wI c 0 ι 0 1 0)) 0 ι 14 10 g = wL c 0 ι 14 10 g := by rw [ask3W q1 q2]; simp only [rd_LL, rd_LI, eq_self, true_and, and_true, false_and, and_false, if_true, if_false, reduceIte, Nat.reduceEqDiff]
    have k7 : askF f g v (250 + 14 * g + 7) = (if v = f (250 + 14 * g + 6) then -1 else v) := by rw [ask3F (by rw [a7]; exact q1) (by rw [a7, t2]; exact q2)]; simp only [fu, eq_self, if_true, reduceIte, Nat.add_left_cancel_iff, Nat.reduceEqDiff]
    have k8 : askF f g v (250 + 14 * g + 8) = (f 0 + dly (f (250 + 14 * g + 4)) (f (250 + 14 * g + 5)) v) := by rw [ask3F (by rw [a7]; exact q1) (by rw [a7, t2]; exact q2)]; simp only [fu, eq_self, if_true, reduceIte, Nat.add_left_cancel_iff, Nat.reduceEqDiff]
    have k9 : askF f g v (250 + 14 * g + 9) = -1 := by rw [ask3F (by rw [a7]; exact q1) (by rw [a7, t2]; exact q2)]; simp only [fu, eq_self, if_true, reduceIte, Nat.add_left_cancel_iff, Nat.reduceEqDiff]
    have k10 : askF f g v (250 + 14 * g + 10) = f (250 + 14 * g + 10) := by rw [ask3F (by rw [a7]; exact q1) (by rw [a7, t2]; exact q2)]; simp only [fu, eq_self, if_true, reduceIte, Nat.add_left_cancel_iff, Nat.reduceEqDiff]
    rw [e7, e8, e9, e10, k7, k8, k9, k10]
    rw [a6]
    refine ⟨⟨a0, a1, a2, a3, a4, a5, rfl, rfl, rfl⟩, ⟨b4, b5, b6, ?_, rm⟩, fun z => ⟨h64, ?_⟩, fun z => absurd rfl z, hwf, hnn⟩
    · split <;> assumption
    · have u1 := hd.1
      have u2 := hd.2
      have u3 := t8.1
      have u4 := t8.2
      exact ⟨by rw [hnw]; omega, by rw [hnw]; omega⟩
  · have q3 : ¬ wI c 0 ι 14 7 g = -1 := fun z => q2 (Or.inl z)
    have q4 : wI c 0 ι 0 1 0 = 1 := by
      have u1 := t9.1
      have u2 := t9.2
      rw [t2] at u1 u2
      have u3 : ¬ (wI c 0 ι 0 1 0).toInt = 0 := fun z => q2 (Or.inr (Int32.toInt_inj.mp (by rw [z]; rfl)))
      exact Int32.toInt_inj.mp (by rw [i1]; omega)
    obtain ⟨d8, d8r⟩ := d7 q3
    have e7 : wI (askW c ι g v (wL c 0 ι 0 0 0) (wI c 0 ι 0 1 0)) 0 ι 14 7 g = 2 := by rw [ask2W q1 q3 q4]; simp only [rd_II, rd_IL, eq_self, true_and, and_true, false_and, and_false, if_true, if_false, reduceIte, Nat.reduceEqDiff]
    have e9 : wI (askW c ι g v (wL c 0 ι 0 0 0) (wI c 0 ι 0 1 0)) 0 ι 14 9 g = v := by rw [ask2W q1 q3 q4]; simp only [rd_II, rd_IL, eq_self, true_and, and_true, false_and, and_false, if_true, if_false, reduceIte, Nat.reduceEqDiff]
    have e8 : wL (askW c ι g v (wL c 0 ι 0 0 0) (wI c 0 ι 0 1 0)) 0 ι 14 8 g = wL c 0 ι 14 8 g := by rw [ask2W q1 q3 q4]; simp only [rd_LL, rd_LI, eq_self, true_and, and_true, false_and, and_false, if_true, if_false, reduceIte, Nat.reduceEqDiff]
    have e10 : wL (askW c ι g v (wL c 0 ι 0 0 0) (wI c 0 ι 0 1 0)) 0 ι 14 10 g = mxl (wL c 0 ι 14 8 g) (wL c 0 ι 0 0 0 + (dly (wI c 0 ι 14 4 g) (wI c 0 ι 14 5 g) v).toInt64) := by rw [ask2W q1 q3 q4]; simp only [rd_LL, rd_LI, eq_self, true_and, and_true, false_and, and_false, if_true, if_false, reduceIte, Nat.reduceEqDiff]
    have k7 : askF f g v (250 + 14 * g + 7) = 2 := by rw [ask2F (by rw [a7]; exact q1) (by rw [a7]; exact q3) (by rw [t2]; exact q4)]; simp only [fu, eq_self, if_true, reduceIte, Nat.add_left_cancel_iff, Nat.reduceEqDiff]
    have k8 : askF f g v (250 + 14 * g + 8) = f (250 + 14 * g + 8) := by rw [ask2F (by rw [a7]; exact q1) (by rw [a7]; exact q3) (by rw [t2]; exact q4)]; simp only [fu, eq_self, if_true, reduceIte, Nat.add_left_cancel_iff, Nat.reduceEqDiff]
    have k9 : askF f g v (250 + 14 * g + 9) = v := by rw [ask2F (by rw [a7]; exact q1) (by rw [a7]; exact q3) (by rw [t2]; exact q4)]; simp only [fu, eq_self, if_true, reduceIte, Nat.add_left_cancel_iff, Nat.reduceEqDiff]
    have k10 : askF f g v (250 + 14 * g + 10) = (if f (250 + 14 * g + 8) < (f 0 + dly (f (250 + 14 * g + 4)) (f (250 + 14 * g + 5)) v) then (f 0 + dly (f (250 + 14 * g + 4)) (f (250 + 14 * g + 5)) v) else f (250 + 14 * g + 8)) := by rw [ask2F (by rw [a7]; exact q1) (by rw [a7]; exact q3) (by rw [t2]; exact q4)]; simp only [fu, eq_self, if_true, reduceIte, Nat.add_left_cancel_iff, Nat.reduceEqDiff]
    rw [e7, e8, e9, e10, k7, k8, k9, k10]
    have hm : (if f (250 + 14 * g + 8) < f 0 + dly (f (250 + 14 * g + 4)) (f (250 + 14 * g + 5)) v then f 0 + dly (f (250 + 14 * g + 4)) (f (250 + 14 * g + 5)) v else f (250 + 14 * g + 8)).toInt64 = mxl (wL c 0 ι 14 8 g) (wL c 0 ι 0 0 0 + (dly (wI c 0 ι 14 4 g) (wI c 0 ι 14 5 g) v).toInt64) := by
      unfold mxl
      rw [← h64, ← d8]
      simp only [up_lt]
      by_cases z1 : f (250 + 14 * g + 8) < f 0 + dly (f (250 + 14 * g + 4)) (f (250 + 14 * g + 5)) v
      · rw [if_pos z1, if_neg (fun z2 => Int32.lt_irrefl (Int32.lt_trans z1 z2))]
      · rw [if_neg z1]
        by_cases z2 : f 0 + dly (f (250 + 14 * g + 4)) (f (250 + 14 * g + 5)) v < f (250 + 14 * g + 8)
        · rw [if_pos z2]
        · rw [if_neg z2]
          have z3 : f (250 + 14 * g + 8) = f 0 + dly (f (250 + 14 * g + 4)) (f (250 + 14 * g + 5)) v := by
            rw [Int32.lt_iff_toInt_lt] at z1 z2
            exact Int32.toInt_inj.mp (by omega)
          rw [z3]
    refine ⟨⟨a0, a1, a2, a3, a4, a5, a6, rfl, rfl⟩, ⟨b4, b5, b6, r2, rv⟩, fun z => ⟨d8, d8r⟩, fun z => ⟨by decide, hm, ?_⟩, hwf, hnn⟩
    have u1 := hd.1
    have u2 := hd.2
    have u3 := t8.1
    have u4 := t8.2
    have u5 := d8r.1
    have u6 := d8r.2
    split
    · rename_i zz
      rw [Int32.lt_iff_toInt_lt] at zz
      exact ⟨by omega, by rw [hnw]; omega⟩
    · exact ⟨by omega, by omega⟩

/-- a change in one net alone -/
theorem Rel_net {K K' : Nat} {c c' : wdT} {ι : Nat} {f f' : Nat → Int32} {q : Nat} (hK : K ≤ K') (h : Rel K c ι f) (hI : ∀ r k i, ¬ (r = 13 ∧ i = q) → wI c' 0 ι r k i = wI c 0 ι r k i) (hL : ∀ r k i, ¬ (r = 13 ∧ i = q) → wL c' 0 ι r k i = wL c 0 ι r k i)
    (hq : q < 24) (hf : ∀ i, ¬ (10 + 10 * q ≤ i ∧ i < 10 + 10 * q + 10) → f' i = f i) (hw : f (10 + 10 * q + 3) = 1 → f' (10 + 10 * q + 3) = 1) (hn : q < cN c ι → RN K' c' ι f' q) : Rel K' c' ι f' := by
  obtain ⟨⟨o1, o2, o3, o4, o5, o6, o7, o8⟩, ht, hN, hG, hC, hH, hW⟩ := h
  have e0 : ∀ k i, wI c' 0 ι 0 k i = wI c 0 ι 0 k i := fun k i => hI 0 k i (by omega)
  have e4 : ∀ k i, wI c' 0 ι 4 k i = wI c 0 ι 4 k i := fun k i => hI 4 k i (by omega)
  have e9 : ∀ k i, wI c' 0 ι 9 k i = wI c 0 ι 9 k i := fun k i => hI 9 k i (by omega)
  have eN : cN c ι ≤ cN c' ι := by unfold cN; rw [e0]; exact Nat.le_refl _
  refine ⟨⟨by rw [e0]; exact o1, by rw [e0]; exact o2, by rw [e0]; exact o3, by rw [e4]; exact o4, by rw [e9]; exact o5, fun g' hg' => ?_, fun k hk => ?_, fun i hi => ?_⟩, ?_, fun n hn' => ?_, fun g' hg' => ?_, fun k hk => ?_, fun i hi => ?_, fun k hk => ?_⟩
  · rw [e0] at hg'
    rw [hI 14 1 g' (by omega), hI 14 2 g' (by omega), hI 14 3 g' (by omega)]
    exact o6 g' hg'
  · rw [e0] at hk
    rw [hI 15 1 k (by omega), hI 15 2 k (by omega)]
    exact o7 k hk
  · rw [e4] at hi
    rw [hI 6 0 i (by omega)]
    exact o8 i hi
  · unfold RT at ht ⊢
    rw [e0, e0, e0, e0, e4, e9, hL 0 0 0 (by omega), hf 0 (by omega), hf 1 (by omega), hf 2 (by omega), hf 3 (by omega), hf 4 (by omega), hf 5 (by omega), hf 6 (by omega), hf 7 (by omega)]
    obtain ⟨t1, t2, t3, t4, t5, t6, t7, t8, t9, t10⟩ := ht
    exact ⟨t1, t2, t3, t4, t5, t6, t7, t8, t9, t10.1, by have := t10.2; omega⟩
  · unfold cN at hn'
    rw [e0] at hn'
    by_cases e : n = q
    · subst e
      exact hn hn'
    · exact RN_cg hK (fun k => hI 13 k n (by omega)) (fun k => hL 13 k n (by omega)) (fun j hj => hf _ (by omega)) (hN n hn')
  · unfold cG at hg'
    rw [e0] at hg'
    have o := (o6 g' hg').2.2.2
    refine RG_cg eN (fun k => hI 14 k g' (by omega)) (fun k => hL 14 k g' (by omega)) (fun j hj => hf _ (by omega)) (hf 0 (by omega)) (fun z => ?_) (hG g' hg')
    by_cases e : nz (wI c 0 ι 14 3 g') = q
    · rw [e] at z ⊢
      exact hw z
    · rw [hf _ (by omega)]
      exact z
  · unfold cK at hk
    rw [e0] at hk
    exact RK_cg eN (fun j => hI 15 j k (by omega)) (fun j hj => hf _ (by omega)) (hC k hk)
  · unfold cH at hi
    rw [e4] at hi
    exact RH_cg eN (fun r h1 h2 => hI r 0 i (by omega)) (hL 7 0 i (by omega)) (fun j h1 h2 => hf j (by omega)) (hf 0 (by omega)) (by rw [hf 7 (by omega)]; exact Int32.le_refl _) (hH i hi)
  · unfold cW at hk
    rw [e9] at hk
    exact RW_cg (fun r h1 h2 => hI r 0 k (by omega)) (fun j hj => hf _ (by omega)) (hW k hk)
/-- how often a check was broken -/
theorem Rel_brk {K : Nat} {c : wdT} {ι : Nat} {f : Nat → Int32} {q : Nat} {x : Int32} (h : Rel K c ι f) (hq : q < 20) : Rel K (sI c 0 ι 15 4 q x) ι (fu f (1300 + 5 * q + 4) x) := by
  have hI : ∀ r k i, ¬ (r = 15 ∧ k = 4 ∧ i = q) → wI (sI c 0 ι 15 4 q x) 0 ι r k i = wI c 0 ι r k i := fun r k i z => by rw [rd_II, if_neg (by omega)]
  have hL : ∀ r k i, wL (sI c 0 ι 15 4 q x) 0 ι r k i = wL c 0 ι r k i := fun r k i => rfl
  have hf : ∀ i, ¬ i = 1300 + 5 * q + 4 → fu f (1300 + 5 * q + 4) x i = f i := fun i z => fu_n z
  have hx : wI (sI c 0 ι 15 4 q x) 0 ι 15 4 q = x := by rw [rd_II, if_pos (by simp)]
  generalize sI c 0 ι 15 4 q x = c' at hI hL hx ⊢
  have hfx : fu f (1300 + 5 * q + 4) x (1300 + 5 * q + 4) = x := fu_s _ _ _
  generalize fu f (1300 + 5 * q + 4) x = f' at hf hfx ⊢
  obtain ⟨⟨o1, o2, o3, o4, o5, o6, o7, o8⟩, ht, hN, hG, hC, hH, hW⟩ := h
  have e0 : ∀ k i, wI c' 0 ι 0 k i = wI c 0 ι 0 k i := fun k i => hI 0 k i (by omega)
  have e4 : ∀ k i, wI c' 0 ι 4 k i = wI c 0 ι 4 k i := fun k i => hI 4 k i (by omega)
  have e9 : ∀ k i, wI c' 0 ι 9 k i = wI c 0 ι 9 k i := fun k i => hI 9 k i (by omega)
  have eN : cN c ι ≤ cN c' ι := by unfold cN; rw [e0]; exact Nat.le_refl _
  refine ⟨⟨by rw [e0]; exact o1, by rw [e0]; exact o2, by rw [e0]; exact o3, by rw [e4]; exact o4, by rw [e9]; exact o5, fun g' hg' => ?_, fun k hk => ?_, fun i hi => ?_⟩, ?_, fun n hn' => ?_, fun g' hg' => ?_, fun k hk => ?_, fun i hi => ?_, fun k hk => ?_⟩
  · rw [e0] at hg'
    rw [hI 14 1 g' (by omega), hI 14 2 g' (by omega), hI 14 3 g' (by omega)]
    exact o6 g' hg'
  · rw [e0] at hk
    rw [hI 15 1 k (by omega), hI 15 2 k (by omega)]
    exact o7 k hk
  · rw [e4] at hi
    rw [hI 6 0 i (by omega)]
    exact o8 i hi
  · unfold RT at ht ⊢
    rw [e0, e0, e0, e0, e4, e9, hL, hf 0 (by omega), hf 1 (by omega), hf 2 (by omega), hf 3 (by omega), hf 4 (by omega), hf 5 (by omega), hf 6 (by omega), hf 7 (by omega)]
    exact ht
  · unfold cN at hn'
    rw [e0] at hn'
    have := o1.2
    exact RN_cg (Nat.le_refl K) (fun k => hI 13 k n (by omega)) (fun k => hL 13 k n) (fun j hj => hf _ (by omega)) (hN n hn')
  · unfold cG at hg'
    rw [e0] at hg'
    have o := (o6 g' hg').2.2.2
    have := o2.2
    exact RG_cg eN (fun k => hI 14 k g' (by omega)) (fun k => hL 14 k g') (fun j hj => hf _ (by omega)) (hf 0 (by omega)) (fun z => by rw [hf _ (by unfold nz; omega)]; exact z) (hG g' hg')
  · unfold cK at hk
    rw [e0] at hk
    by_cases e : k = q
    · subst e
      have hh := hC k hk
      unfold RK at hh ⊢
      unfold cN at hh ⊢
      rw [hI 15 0 k (by omega), hI 15 1 k (by omega), hI 15 2 k (by omega), hI 15 3 k (by omega), hx, hfx, hf (1300 + 5 * k + 0) (by omega), hf (1300 + 5 * k + 1) (by omega), hf (1300 + 5 * k + 2) (by omega), hf (1300 + 5 * k + 3) (by omega), e0]
      obtain ⟨a1, a2, a3, a4, a5, a6⟩ := hh
      exact ⟨a1, a2, a3, a4, rfl, a6⟩
    · exact RK_cg eN (fun j => hI 15 j k (by omega)) (fun j hj => hf _ (by omega)) (hC k hk)
  · unfold cH at hi
    rw [e4] at hi
    have := o4.2
    exact RH_cg eN (fun r h1 h2 => hI r 0 i (by omega)) (hL 7 0 i) (fun j h1 h2 => hf j (by omega)) (hf 0 (by omega)) (by rw [hf 7 (by omega)]; exact Int32.le_refl _) (hH i hi)
  · unfold cW at hk
    rw [e9] at hk
    exact RW_cg (fun r h1 h2 => hI r 0 k (by omega)) (fun j hj => hf _ (by omega)) (hW k hk)
/-- one change more is kept -/
theorem Rel_keep {K : Nat} {c : wdT} {ι : Nat} {f : Nat → Int32} {n v : Int32} (h : Rel K c ι f) (hv : rg v 0 3) (hn : vn n 24) (hlt : cW c ι < 600) : Rel K (kpW c ι (cW c ι) (wL c 0 ι 0 0 0) n v) ι (fu (fu (fu (fu f (1450 + 3 * cW c ι) (f 0)) (1450 + 3 * cW c ι + 1) n) (1450 + 3 * cW c ι + 2) v) 6 (nI (cW c ι + 1))) := by
  have e0t : (wL c 0 ι 0 0 0).toInt32 = f 0 := by
    rw [← h.2.1.1]
    exact Int32.toInt32_toInt64 _
  have hI : ∀ r k i, ¬ (9 ≤ r ∧ r ≤ 12) → wI (kpW c ι (cW c ι) (wL c 0 ι 0 0 0) n v) 0 ι r k i = wI c 0 ι r k i := fun r k i z => by
    unfold kpW
    rw [if_pos hlt]
    simp only [rd_II]
    rw [if_neg (by omega), if_neg (by omega), if_neg (by omega), if_neg (by omega)]
  have hL : ∀ r k i, wL (kpW c ι (cW c ι) (wL c 0 ι 0 0 0) n v) 0 ι r k i = wL c 0 ι r k i := fun r k i => by
    unfold kpW
    rw [if_pos hlt]
    rfl
  have hC9 : wI (kpW c ι (cW c ι) (wL c 0 ι 0 0 0) n v) 0 ι 9 0 0 = nI (cW c ι + 1) := by
    unfold kpW
    rw [if_pos hlt]
    simp only [rd_II]
    rw [if_pos (by simp)]
  have hO : ∀ r k, 10 ≤ r → r ≤ 12 → ¬ k = cW c ι → wI (kpW c ι (cW c ι) (wL c 0 ι 0 0 0) n v) 0 ι r 0 k = wI c 0 ι r 0 k := fun r k h1 h2 z => by
    unfold kpW
    rw [if_pos hlt]
    simp only [rd_II]
    rw [if_neg (by omega), if_neg (by omega), if_neg (by omega), if_neg (by omega)]
  have x10 : wI (kpW c ι (cW c ι) (wL c 0 ι 0 0 0) n v) 0 ι 10 0 (cW c ι) = f 0 := by
    unfold kpW
    rw [if_pos hlt, e0t]
    simp only [rd_II]
    rw [if_neg (by omega), if_neg (by omega), if_neg (by omega), if_pos (by simp)]
  have x11 : wI (kpW c ι (cW c ι) (wL c 0 ι 0 0 0) n v) 0 ι 11 0 (cW c ι) = n := by
    unfold kpW
    rw [if_pos hlt]
    simp only [rd_II]
    rw [if_neg (by omega), if_neg (by omega), if_pos (by simp)]
  have x12 : wI (kpW c ι (cW c ι) (wL c 0 ι 0 0 0) n v) 0 ι 12 0 (cW c ι) = v := by
    unfold kpW
    rw [if_pos hlt]
    simp only [rd_II]
    rw [if_neg (by omega), if_pos (by simp)]
  generalize kpW c ι (cW c ι) (wL c 0 ι 0 0 0) n v = c' at *
  have hf : ∀ i, ¬ i = 6 → ¬ (1450 + 3 * cW c ι ≤ i ∧ i < 1450 + 3 * cW c ι + 3) → fu (fu (fu (fu f (1450 + 3 * cW c ι) (f 0)) (1450 + 3 * cW c ι + 1) n) (1450 + 3 * cW c ι + 2) v) 6 (nI (cW c ι + 1)) i = f i := fun i z1 z2 => by
    rw [fu_n z1, fu_n (by omega), fu_n (by omega), fu_n (by omega)]
  have f6 : fu (fu (fu (fu f (1450 + 3 * cW c ι) (f 0)) (1450 + 3 * cW c ι + 1) n) (1450 + 3 * cW c ι + 2) v) 6 (nI (cW c ι + 1)) 6 = nI (cW c ι + 1) := fu_s _ _ _
  have y0 : fu (fu (fu (fu f (1450 + 3 * cW c ι) (f 0)) (1450 + 3 * cW c ι + 1) n) (1450 + 3 * cW c ι + 2) v) 6 (nI (cW c ι + 1)) (1450 + 3 * cW c ι + 0) = f 0 := by
    rw [fu_n (by omega), fu_n (by omega), fu_n (by omega)]
    exact fu_s _ _ _
  have y1 : fu (fu (fu (fu f (1450 + 3 * cW c ι) (f 0)) (1450 + 3 * cW c ι + 1) n) (1450 + 3 * cW c ι + 2) v) 6 (nI (cW c ι + 1)) (1450 + 3 * cW c ι + 1) = n := by
    rw [fu_n (by omega), fu_n (by omega), fu_s]
  have y2 : fu (fu (fu (fu f (1450 + 3 * cW c ι) (f 0)) (1450 + 3 * cW c ι + 1) n) (1450 + 3 * cW c ι + 2) v) 6 (nI (cW c ι + 1)) (1450 + 3 * cW c ι + 2) = v := by
    rw [fu_n (by omega), fu_s]
  generalize fu (fu (fu (fu f (1450 + 3 * cW c ι) (f 0)) (1450 + 3 * cW c ι + 1) n) (1450 + 3 * cW c ι + 2) v) 6 (nI (cW c ι + 1)) = f' at *
  obtain ⟨⟨o1, o2, o3, o4, o5, o6, o7, o8⟩, ht, hN, hG, hC, hH, hW⟩ := h
  have e0 : ∀ k i, wI c' 0 ι 0 k i = wI c 0 ι 0 k i := fun k i => hI 0 k i (by omega)
  have e4 : ∀ k i, wI c' 0 ι 4 k i = wI c 0 ι 4 k i := fun k i => hI 4 k i (by omega)
  have eN : cN c ι ≤ cN c' ι := by unfold cN; rw [e0]; exact Nat.le_refl _
  refine ⟨⟨by rw [e0]; exact o1, by rw [e0]; exact o2, by rw [e0]; exact o3, by rw [e4]; exact o4, by rw [hC9]; exact ct_nI hlt (by decide), fun g' hg' => ?_, fun k hk => ?_, fun i hi => ?_⟩, ?_, fun n hn' => ?_, fun g' hg' => ?_, fun k hk => ?_, fun i hi => ?_, fun k hk => ?_⟩
  · rw [e0] at hg'
    rw [hI 14 1 g' (by omega), hI 14 2 g' (by omega), hI 14 3 g' (by omega)]
    exact o6 g' hg'
  · rw [e0] at hk
    rw [hI 15 1 k (by omega), hI 15 2 k (by omega)]
    exact o7 k hk
  · rw [e4] at hi
    rw [hI 6 0 i (by omega)]
    exact o8 i hi
  · unfold RT at ht ⊢
    rw [e0, e0, e0, e0, e4, hC9, hL, hf 0 (by omega) (by omega), hf 1 (by omega) (by omega), hf 2 (by omega) (by omega), hf 3 (by omega) (by omega), hf 4 (by omega) (by omega), hf 5 (by omega) (by omega), f6, hf 7 (by omega) (by omega)]
    obtain ⟨t1, t2, t3, t4, t5, t6, t7, t8, t9, t10⟩ := ht
    exact ⟨t1, t2, t3, t4, t5, t6, rfl, t8, t9, t10⟩
  · unfold cN at hn'
    rw [e0] at hn'
    have := o1.2
    exact RN_cg (Nat.le_refl K) (fun k => hI 13 k n (by omega)) (fun k => hL 13 k n) (fun j hj => hf _ (by omega) (by omega)) (hN n hn')
  · unfold cG at hg'
    rw [e0] at hg'
    have o := (o6 g' hg').2.2.2
    have := o2.2
    exact RG_cg eN (fun k => hI 14 k g' (by omega)) (fun k => hL 14 k g') (fun j hj => hf _ (by omega) (by omega)) (hf 0 (by omega) (by omega)) (fun z => by rw [hf _ (by omega) (by unfold nz; omega)]; exact z) (hG g' hg')
  · unfold cK at hk
    rw [e0] at hk
    have := o3.2
    exact RK_cg eN (fun j => hI 15 j k (by omega)) (fun j hj => hf _ (by omega) (by omega)) (hC k hk)
  · unfold cH at hi
    rw [e4] at hi
    have := o4.2
    exact RH_cg eN (fun r h1 h2 => hI r 0 i (by omega)) (hL 7 0 i) (fun j h1 h2 => hf j (by omega) (by omega)) (hf 0 (by omega) (by omega)) (by rw [hf 7 (by omega) (by omega)]; exact Int32.le_refl _) (hH i hi)
  · unfold cW at hk
    rw [hC9] at hk
    have hk2 : k < cW c ι + 1 := by unfold nz at hk; rw [nI_clamp (by omega)] at hk; exact hk
    by_cases e : k = cW c ι
    · subst e
      unfold RW
      rw [x10, x11, x12, y0, y1, y2]
      exact ⟨rfl, rfl, rfl, ht.2.2.2.2.2.2.2.1, hv, hn⟩
    · exact RW_cg (fun r h1 h2 => hO r k h1 h2 e) (fun j hj => hf _ (by omega) (by omega)) (hW k (by omega))

theorem opn_rg {x : Int32} (h : rg x 0 3) : rg (opn x) 0 2 := by
  unfold opn
  split
  · exact ⟨by decide, by decide⟩
  · rename_i z
    have z2 : ¬ x.toInt = 3 := fun q => z (Int32.toInt_inj.mp (by rw [q]; rfl))
    have := h.1
    have := h.2
    exact ⟨by omega, by omega⟩
theorem rg_in {x : Int32} {a b a' b' : Int} (h : rg x a b) (h1 : a' ≤ a) (h2 : b ≤ b') : rg x a' b' := ⟨Int.le_trans h1 h.1, Int.le_trans h.2 h2⟩
theorem gvs_rg {kd hs a b : Int32} (hh : rg hs 0 3) (ha : rg a 0 3) (hb : rg b 0 3) : rg (gvs kd hs a b) 0 3 := by
  have h0 : rg 0 0 3 := ⟨by decide, by decide⟩
  have h1 : rg 1 0 3 := ⟨by decide, by decide⟩
  have h2 : rg 2 0 3 := ⟨by decide, by decide⟩
  have h3 : rg 3 0 3 := ⟨by decide, by decide⟩
  have ho := opn_rg ha
  have ho3 := rg_in ho (Int.le_refl 0) (show (2 : Int) ≤ 3 by decide)
  unfold gvs
  split
  · split
    · exact h2
    · rename_i z
      have z2 : ¬ (opn a).toInt = 2 := fun q => z (Int32.toInt_inj.mp (by rw [q]; rfl))
      have u1 := ho.1
      have u2 := ho.2
      have e : (1 - opn a).toInt = 1 - (opn a).toInt := by
        rw [i32_sub (by rw [i1]; omega) (by rw [i1]; omega), i1]
      exact ⟨by omega, by omega⟩
  · repeat' split
    all_goals assumption
/-- what gate g gives, by the reference's array -/
abbrev gvF (f : Nat → Int32) (g : Nat) : Int32 := gvs (f (250 + 14 * g + 0)) (f (250 + 14 * g + 6)) (f (10 + 10 * nz (f (250 + 14 * g + 1)) + 0)) (f (10 + 10 * nz (f (250 + 14 * g + 2)) + 0))
theorem Rel_gv {K : Nat} {c : wdT} {ι : Nat} {f : Nat → Int32} {g : Nat} (h : Rel K c ι f) (hg : g < cG c ι) : gvF f g = gvn c ι g ∧ rg (gvn c ι g) 0 3 := by
  obtain ⟨⟨a0, a1, a2, a3, a4, a5, a6, a7, a9⟩, ⟨b4, b5, b6, b7, b9⟩, d7, d9, hw, n1, n2, n3⟩ := h.2.2.2.1 g hg
  have ha := h.2.2.1 _ n1
  have hb := h.2.2.1 _ n2
  constructor
  · unfold gvF gvn
    rw [a0, a1, a2, a6, ha.1, hb.1]
    rfl
  · exact gvs_rg b6 ha.2.2.2.2.2.2.1 hb.2.2.2.2.2.2.1
theorem Rel_g0 {K : Nat} {c : wdT} {ι : Nat} {f : Nat → Int32} (h : Rel K c ι f) : wI c 0 ι 0 4 0 = nI (cG c ι) ∧ cG c ι ≤ 32 := h.1.2.1
/-- gate p hears net q -/
abbrev hrF (f : Nat → Int32) (p : Nat) (n r : Int32) : Prop := (f (250 + 14 * p + 0) = 7 ∧ f (250 + 14 * p + 2) = n ∧ ¬ r = 0) ∨ (¬ f (250 + 14 * p + 0) = 7 ∧ (f (250 + 14 * p + 1) = n ∨ f (250 + 14 * p + 2) = n))
theorem Rel_hr {K : Nat} {c : wdT} {ι : Nat} {f : Nat → Int32} {g : Nat} {n r : Int32} (h : Rel K c ι f) (hg : g < cG c ι) : hrF f g n r ↔ hrs c ι g n r := by
  obtain ⟨⟨a0, a1, a2, a3, a4, a5, a6, a7, a9⟩, _⟩ := h.2.2.2.1 g hg
  unfold hrF hrs
  rw [a0, a1, a2]
theorem cG_as (u : wdT) (ι : Nat) (n r : Int32) (p : Nat) : cG (asW u ι n r p) ι = cG u ι := by
  unfold cG
  rw [(qk_as u ι n r p).1 0 ι 0 4 0 (by omega)]
theorem Rel_as_t {K : Nat} {u : wdT} {ι : Nat} {f : Nat → Int32} {n r : Int32} {p : Nat} (h : Rel K (asW u ι n r p) ι f) (hp : p < cG u ι) (hh : hrF f p n r) : Rel K (asW u ι n r (p + 1)) ι (askF f p (gvF f p)) := by
  have hp2 : p < cG (asW u ι n r p) ι := by rw [cG_as]; exact hp
  have hg := Rel_gv h hp2
  rw [asW_s, if_pos ((Rel_hr h hp2).mp hh), hg.1]
  exact Rel_ask h hp2 hg.2
theorem Rel_as_f {K : Nat} {u : wdT} {ι : Nat} {f : Nat → Int32} {n r : Int32} {p : Nat} (h : Rel K (asW u ι n r p) ι f) (hp : p < cG u ι) (hh : ¬ hrF f p n r) : Rel K (asW u ι n r (p + 1)) ι f := by
  have hp2 : p < cG (asW u ι n r p) ι := by rw [cG_as]; exact hp
  rw [asW_s, if_neg (fun z => hh ((Rel_hr h hp2).mpr z))]
  exact h
theorem cG_bl (u : wdT) (ι k p : Nat) : cG (blW u ι k p) ι = cG u ι := by
  unfold cG
  rw [(qk_bl u ι k p).1 0 ι 0 4 0 (by omega)]
theorem Rel_bl_t {K : Nat} {u : wdT} {ι k : Nat} {f : Nat → Int32} {p : Nat} (h : Rel K (blW u ι k p) ι f) (hp : p < cG u ι) (h0 : f (250 + 14 * p + 0) = 7) (h2 : f (250 + 14 * p + 2) = wI u 0 ι 15 1 k) (h1 : f (250 + 14 * p + 1) = wI u 0 ι 15 2 k) : Rel K (blW u ι k (p + 1)) ι (askF f p 2) := by
  have hp2 : p < cG (blW u ι k p) ι := by rw [cG_bl]; exact hp
  obtain ⟨⟨a0, a1, a2, a3, a4, a5, a6, a7, a9⟩, _⟩ := h.2.2.2.1 p hp2
  have e1 := (qk_bl u ι k p).1 0 ι 15 1 k (by omega)
  have e2 := (qk_bl u ι k p).1 0 ι 15 2 k (by omega)
  rw [blW_s, if_pos ⟨by rw [← a0]; exact h0, by rw [← a2, e1]; exact h2, by rw [← a1, e2]; exact h1⟩]
  exact Rel_ask h hp2 ⟨by decide, by decide⟩
theorem Rel_bl_f {K : Nat} {u : wdT} {ι k : Nat} {f : Nat → Int32} {p : Nat} (h : Rel K (blW u ι k p) ι f) (hp : p < cG u ι) (hn : ¬ (f (250 + 14 * p + 0) = 7 ∧ f (250 + 14 * p + 2) = wI u 0 ι 15 1 k ∧ f (250 + 14 * p + 1) = wI u 0 ι 15 2 k)) : Rel K (blW u ι k (p + 1)) ι f := by
  have hp2 : p < cG (blW u ι k p) ι := by rw [cG_bl]; exact hp
  obtain ⟨⟨a0, a1, a2, a3, a4, a5, a6, a7, a9⟩, _⟩ := h.2.2.2.1 p hp2
  have e1 := (qk_bl u ι k p).1 0 ι 15 1 k (by omega)
  have e2 := (qk_bl u ι k p).1 0 ι 15 2 k (by omega)
  rw [blW_s, if_neg (fun z => hn ⟨by rw [a0]; exact z.1, by rw [a2, ← e1]; exact z.2.1, by rw [a1, ← e2]; exact z.2.2⟩)]
  exact h
abbrev nrF (f : Nat → Int32) (x l : Int32) : Prop := ¬ x = -1 ∧ f 0 - x < l
theorem nr_iff {f : Nat → Int32} {x l : Int32} (h0 : rg (f 0) 0 1000000000) (hx : rg x (-1) 1000000000) : nrF f x l ↔ wth x.toInt64 (f 0).toInt64 l := by
  unfold nrF wth
  have u1 := h0.1
  have u2 := h0.2
  have u3 := hx.1
  have u4 := hx.2
  rw [Int32.lt_iff_toInt_lt, Int64.lt_iff_toInt_lt, i32_sub (by omega) (by omega), i64_sub (by rw [x64, x64]; omega) (by rw [x64, x64]; omega), x64, x64, x64]
  constructor
  · exact fun z => ⟨fun q => z.1 (up_inj (by rw [q, up_m1])), z.2⟩
  · exact fun z => ⟨fun q => z.1 (by rw [q, up_m1]), z.2⟩
/-- check k is broken -/
abbrev bkF (f : Nat → Int32) (k : Nat) (n r : Int32) : Prop :=
  (f (1300 + 5 * k + 0) = 0 ∧ f (1300 + 5 * k + 1) = n ∧ ¬ r = 0 ∧ nrF f (f (10 + 10 * nz (f (1300 + 5 * k + 2)) + 5)) (f (1300 + 5 * k + 3))) ∨
  (f (1300 + 5 * k + 0) = 1 ∧ f (1300 + 5 * k + 2) = n ∧ nrF f (f (10 + 10 * nz (f (1300 + 5 * k + 1)) + 6)) (f (1300 + 5 * k + 3)))
theorem rg01 {x : Int32} (h : rg x 0 1) : x = 0 ∨ x = 1 := by
  have := h.1
  have := h.2
  rcases (show x.toInt = 0 ∨ x.toInt = 1 by omega) with q | q
  · exact Or.inl (Int32.toInt_inj.mp (by rw [q]; rfl))
  · exact Or.inr (Int32.toInt_inj.mp (by rw [q]; rfl))
theorem Rel_bk {K : Nat} {c : wdT} {ι : Nat} {f : Nat → Int32} {k : Nat} {n r : Int32} (h : Rel K c ι f) (hk : k < cK c ι) : bkF f k n r ↔ brk c ι k n r := by
  obtain ⟨a0, a1, a2, a3, a4, r0, r3, n1, n2⟩ := h.2.2.2.2.1 k hk
  have hc := h.2.2.1 _ n1
  have hd := h.2.2.1 _ n2
  obtain ⟨t1, t2, _, _, _, _, _, t8, t9, _⟩ := h.2.1
  obtain ⟨_, _, _, _, c5, c6, _, _, _, _, c11, c12⟩ := hc
  obtain ⟨_, _, _, _, d5, d6, _, _, _, _, d11, d12⟩ := hd
  unfold bkF brk
  rw [a0, a1, a2, a3, nr_iff t8 d11, nr_iff t8 c12, d5, c6, t1]
  have e : wI c 0 ι 15 0 k = 1 ↔ ¬ wI c 0 ι 15 0 k = 0 := by
    rcases rg01 r0 with q | q
    · rw [q]; decide
    · rw [q]; decide
  rw [e]
  rfl
theorem cK_tc (u : wdT) (ι ng : Nat) (n r : Int32) (p : Nat) : cK (tcW u ι ng n r p) ι = cK u ι := by
  unfold cK
  rw [(qc_tc u ι ng n r p).1 0 ι 0 6 0 (by omega)]
theorem cG_tc (u : wdT) (ι ng : Nat) (n r : Int32) (p : Nat) : cG (tcW u ι ng n r p) ι = cG u ι := by
  unfold cG
  rw [(qc_tc u ι ng n r p).1 0 ι 0 4 0 (by omega)]
theorem Rel_tc_t {K : Nat} {u : wdT} {ι ng : Nat} {f : Nat → Int32} {n r : Int32} {p : Nat} (h : Rel K (tcW u ι ng n r p) ι f) (hp : p < cK u ι) (hb : bkF f p n r) :
    Rel K (sI (tcW u ι ng n r p) 0 ι 15 4 p (wI (tcW u ι ng n r p) 0 ι 15 4 p + 1)) ι (fu f (1300 + 5 * p + 4) (f (1300 + 5 * p + 4) + 1)) ∧ tcW u ι ng n r (p + 1) = blW (sI (tcW u ι ng n r p) 0 ι 15 4 p (wI (tcW u ι ng n r p) 0 ι 15 4 p + 1)) ι p ng := by
  have hp2 : p < cK (tcW u ι ng n r p) ι := by rw [cK_tc]; exact hp
  obtain ⟨a0, a1, a2, a3, a4, r0, r3, n1, n2⟩ := h.2.2.2.2.1 p hp2
  have h20 : p < 20 := by have := h.1.2.2.1.2; unfold cK at hp2; omega
  constructor
  · rw [a4]
    exact Rel_brk h h20
  · exact tcW_t ((Rel_bk h hp2).mp hb)
theorem Rel_tc_f {K : Nat} {u : wdT} {ι ng : Nat} {f : Nat → Int32} {n r : Int32} {p : Nat} (h : Rel K (tcW u ι ng n r p) ι f) (hp : p < cK u ι) (hb : ¬ bkF f p n r) : Rel K (tcW u ι ng n r (p + 1)) ι f := by
  have hp2 : p < cK (tcW u ι ng n r p) ι := by rw [cK_tc]; exact hp
  rw [tcW_f (fun z => hb ((Rel_bk h hp2).mpr z))]
  exact h
/-- net q shows another value: one change more -/
theorem Rel_show {K : Nat} {c : wdT} {ι : Nat} {f : Nat → Int32} {q : Nat} {a : Int32} (h : Rel K c ι f) (hq : q < cN c ι) (ha : rg a 0 3) (hK : K < 1000000000) :
    Rel (K + 1) (sL (sI c 0 ι 13 2 q a) 0 ι 13 3 q (wL c 0 ι 13 3 q + 1)) ι (fu (fu f (10 + 10 * q + 0) a) (10 + 10 * q + 4) (f (10 + 10 * q + 4) + 1)) := by
  have hq2 : q < 24 := by have := h.1.1.2; unfold cN at hq; omega
  refine Rel_net (Nat.le_succ K) h (fun r k i z => ?_) (fun r k i z => ?_) hq2 (fun i z => ?_) (fun z => ?_) (fun _ => ?_)
  · simp only [rd_II, rd_IL]
    rw [if_neg (by omega)]
  · simp only [rd_LL, rd_LI]
    rw [if_neg (by omega)]
  · rw [fu_n (by omega), fu_n (by omega)]
  · rw [fu_n (by omega), fu_n (by omega)]
    exact z
  · obtain ⟨a1, a2, a3, a4, a5, a6, a7, a8, a9, a10, a11, a12⟩ := h.2.2.1 q hq
    have u1 := a10.1
    have u2 := a10.2
    have e1 : (f (10 + 10 * q + 4) + 1).toInt = (f (10 + 10 * q + 4)).toInt + 1 := by rw [i32_add (by rw [i1]; omega) (by rw [i1]; omega), i1]
    unfold RN
    simp only [rd_II, rd_IL, rd_LL, rd_LI]
    rw [fu_n (by omega), fu_s, fu_n (by omega), fu_n (by omega), fu_n (by omega), fu_n (by omega), fu_s, fu_n (by omega), fu_n (by omega), fu_n (by omega), fu_n (by omega)]
    simp only [eq_self, true_and, and_true, false_and, and_false, if_true, if_false, reduceIte, Nat.reduceEqDiff]
    refine ⟨a2, a3, ?_, a5, a6, ha, a8, a9, ⟨by omega, by omega⟩, a11, a12⟩
    rw [up_add (by rw [i1]; omega) (by rw [i1]; omega), a4]
    rfl
