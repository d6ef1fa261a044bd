theorem Rel_rule {K : Nat} {c : wdT} {ι : Nat} {f : Nat → Int32} {x : Int32} (h : Rel K c ι f) (hx : rg x 0 1) : Rel (K) (sI c 0 ι 0 1 0 x) ι (fu f 1 x) := by
  have hI : ∀ r k i, ¬ (r = 0 ∧ k = 1) → wI (sI c 0 ι 0 1 0 x) 0 ι r k i = wI c 0 ι r k i := fun r k i z => by simp only [rd_II, rd_IL]; rw [if_neg (by omega)]
  have hL : ∀ r k i, True → wL (sI c 0 ι 0 1 0 x) 0 ι r k i = wL c 0 ι r k i := fun r k i z => rfl
  have hx1 : wI (sI c 0 ι 0 1 0 x) 0 ι 0 1 0 = x := by rw [rd_II, if_pos (by simp)]
  generalize sI c 0 ι 0 1 0 x = c' at hI hL hx1 ⊢
  have hf : ∀ i, ¬ i = 1 → (fu f 1 x) i = f i := fun i z => fu_n z
  have hf1 : (fu f 1 x) 1 = x := fu_s _ _ _
  generalize fu f 1 x = f' at hf hf1 ⊢
  obtain ⟨⟨o1, o2, o3, o4, o5, o6, o7, o8⟩, ht, hN, hG, hC, hH, hW⟩ := h
  have b1 := o1.2
  have b2 := o2.2
  have b3 := o3.2
  have b4 := o4.2
  have b5 := o5.2
  have cn : wI c' 0 ι 0 2 0 = wI c 0 ι 0 2 0 := hI 0 2 0 (by omega)
  have cg : wI c' 0 ι 0 4 0 = wI c 0 ι 0 4 0 := hI 0 4 0 (by omega)
  have ck : wI c' 0 ι 0 6 0 = wI c 0 ι 0 6 0 := hI 0 6 0 (by omega)
  have ch : wI c' 0 ι 4 0 0 = wI c 0 ι 4 0 0 := hI 4 0 0 (by omega)
  have cw : wI c' 0 ι 9 0 0 = wI c 0 ι 9 0 0 := hI 9 0 0 (by omega)
  have eN : cN c ι ≤ cN c' ι := by unfold cN; rw [cn]; exact Nat.le_refl _
  refine ⟨⟨by rw [cn]; exact o1, by rw [cg]; exact o2, by rw [ck]; exact o3, by rw [ch]; exact o4, by rw [cw]; exact o5, fun g hg => ?_, fun k hk => ?_, fun i hi => ?_⟩, ?_, fun n hn => ?_, fun g hg => ?_, fun k hk => ?_, fun i hi => ?_, fun k hk => ?_⟩
  · rw [cg] at hg
    rw [hI 14 1 g (by omega), hI 14 2 g (by omega), hI 14 3 g (by omega)]
    exact o6 g hg
  · rw [ck] at hk
    rw [hI 15 1 k (by omega), hI 15 2 k (by omega)]
    exact o7 k hk
  · rw [ch] at hi
    rw [hI 6 0 i (by omega)]
    exact o8 i hi
  · unfold RT at ht ⊢
    rw [cn, cg, ck, ch, cw, hx1, hL 0 0 0 trivial, hf 0 (by omega), hf1, hf 2 (by omega), hf 3 (by omega), hf 4 (by omega), hf 5 (by omega), hf 6 (by omega), hf 7 (by omega)]
    obtain ⟨t1, t2, t3, t4, t5, t6, t7, t8, t9, t10⟩ := ht
    exact ⟨t1, rfl, t3, t4, t5, t6, t7, t8, hx, t10⟩
  · unfold cN at hn
    rw [cn] at hn
    exact RN_cg (by omega) (fun k => hI 13 k n (by omega)) (fun k => hL 13 k n trivial) (fun j hj => hf _ (by omega)) (hN n hn)
  · unfold cG at hg
    rw [cg] at hg
    have o := (o6 g hg).2.2.2
    exact RG_cg eN (fun k => hI 14 k g (by omega)) (fun k => hL 14 k g trivial) (fun j hj => hf _ (by omega)) (hf 0 (by omega)) (fun z => by rw [hf _ (by unfold nz; omega)]; exact z) (hG g hg)
  · unfold cK at hk
    rw [ck] at hk
    exact RK_cg eN (fun j => hI 15 j k (by omega)) (fun j hj => hf _ (by omega)) (hC k hk)
  · unfold cH at hi
    rw [ch] at hi
    exact RH_cg eN (fun r h1 h2 => hI r 0 i (by omega)) (hL 7 0 i trivial) (fun j h1 h2 => hf j (by omega)) (hf 0 (by omega)) (by rw [hf 7 (by omega)]; exact Int32.le_refl _) (hH i hi)
  · unfold cW at hk
    rw [cw] at hk
    exact RW_cg (fun r h1 h2 => hI r 0 k (by omega)) (fun j hj => hf _ (by omega)) (hW k hk)

theorem Rel_time {K : Nat} {c : wdT} {ι : Nat} {f : Nat → Int32} {x : Int32} (h : Rel K c ι f) (hx : rg x (f 0).toInt 1000000000) (hg : ∀ g, g < cG c ι → ¬ wI c 0 ι 14 7 g = -1 → x.toInt ≤ (f (250 + 14 * g + 8)).toInt) (hh : ∀ i, i < cH c ι → x.toInt ≤ (f (700 + 5 * i + 0)).toInt) : Rel (K) (sL c 0 ι 0 0 0 x.toInt64) ι (fu f 0 x) := by
  have hgg := hg
  have hhh := hh
  clear hg hh
  have hI : ∀ r k i, True → wI (sL c 0 ι 0 0 0 x.toInt64) 0 ι r k i = wI c 0 ι r k i := fun r k i z => rfl
  have hL : ∀ r k i, ¬ (r = 0) → wL (sL c 0 ι 0 0 0 x.toInt64) 0 ι r k i = wL c 0 ι r k i := fun r k i z => by simp only [rd_LL, rd_LI]; rw [if_neg (by omega)]
  have hx1 : wL (sL c 0 ι 0 0 0 x.toInt64) 0 ι 0 0 0 = x.toInt64 := by rw [rd_LL, if_pos (by simp)]
  generalize sL c 0 ι 0 0 0 x.toInt64 = c' at hI hL hx1 ⊢
  have hf : ∀ i, ¬ i = 0 → (fu f 0 x) i = f i := fun i z => fu_n z
  have hf1 : (fu f 0 x) 0 = x := fu_s _ _ _
  generalize fu f 0 x = f' at hf hf1 ⊢
  obtain ⟨⟨o1, o2, o3, o4, o5, o6, o7, o8⟩, ht, hN, hG, hC, hH, hW⟩ := h
  have b1 := o1.2
  have b2 := o2.2
  have b3 := o3.2
  have b4 := o4.2
  have b5 := o5.2
  have cn : wI c' 0 ι 0 2 0 = wI c 0 ι 0 2 0 := hI 0 2 0 trivial
  have cg : wI c' 0 ι 0 4 0 = wI c 0 ι 0 4 0 := hI 0 4 0 trivial
  have ck : wI c' 0 ι 0 6 0 = wI c 0 ι 0 6 0 := hI 0 6 0 trivial
  have ch : wI c' 0 ι 4 0 0 = wI c 0 ι 4 0 0 := hI 4 0 0 trivial
  have cw : wI c' 0 ι 9 0 0 = wI c 0 ι 9 0 0 := hI 9 0 0 trivial
  have eN : cN c ι ≤ cN c' ι := by unfold cN; rw [cn]; exact Nat.le_refl _
  refine ⟨⟨by rw [cn]; exact o1, by rw [cg]; exact o2, by rw [ck]; exact o3, by rw [ch]; exact o4, by rw [cw]; exact o5, fun g hg => ?_, fun k hk => ?_, fun i hi => ?_⟩, ?_, fun n hn => ?_, fun g hg => ?_, fun k hk => ?_, fun i hi => ?_, fun k hk => ?_⟩
  · rw [cg] at hg
    rw [hI 14 1 g trivial, hI 14 2 g trivial, hI 14 3 g trivial]
    exact o6 g hg
  · rw [ck] at hk
    rw [hI 15 1 k trivial, hI 15 2 k trivial]
    exact o7 k hk
  · rw [ch] at hi
    rw [hI 6 0 i trivial]
    exact o8 i hi
  · unfold RT at ht ⊢
    rw [cn, cg, ck, ch, cw, hx1, hI 0 1 0 trivial, hf1, hf 1 (by omega), hf 2 (by omega), hf 3 (by omega), hf 4 (by omega), hf 5 (by omega), hf 6 (by omega), hf 7 (by omega)]
    obtain ⟨t1, t2, t3, t4, t5, t6, t7, t8, t9, t10⟩ := ht
    exact ⟨rfl, t2, t3, t4, t5, t6, t7, ⟨Int.le_trans t8.1 hx.1, hx.2⟩, t9, t10⟩
  · unfold cN at hn
    rw [cn] at hn
    exact RN_cg (by omega) (fun k => hI 13 k n trivial) (fun k => hL 13 k n (by omega)) (fun j hj => hf _ (by omega)) (hN n hn)
  · unfold cG at hg
    rw [cg] at hg
    have q := hG g hg
    unfold RG at q ⊢
    simp only [hI _ _ _ trivial, hL 14 8 g (by omega), hL 14 10 g (by omega), hf1, hf (250 + 14 * g + 0) (by omega), hf (250 + 14 * g + 1) (by omega), hf (250 + 14 * g + 2) (by omega), hf (250 + 14 * g + 3) (by omega), hf (250 + 14 * g + 4) (by omega), hf (250 + 14 * g + 5) (by omega), hf (250 + 14 * g + 6) (by omega), hf (250 + 14 * g + 7) (by omega), hf (250 + 14 * g + 8) (by omega), hf (250 + 14 * g + 9) (by omega), hf (250 + 14 * g + 10) (by omega), hf (10 + 10 * nz (wI c 0 ι 14 3 g) + 3) (by omega)]
    obtain ⟨q1, q2, q3, q4, q5, q6, q7, q8⟩ := q
    unfold cN at q6 q7 q8 ⊢
    rw [cn]
    exact ⟨q1, q2, fun z => ⟨(q3 z).1, hgg g hg z, (q3 z).2.2⟩, q4, q5, q6, q7, q8⟩
  · unfold cK at hk
    rw [ck] at hk
    exact RK_cg eN (fun j => hI 15 j k trivial) (fun j hj => hf _ (by omega)) (hC k hk)
  · unfold cH at hi
    rw [ch] at hi
    have q := hH i hi
    unfold RH at q ⊢
    unfold cN at q ⊢
    rw [cn, hI 5 0 i trivial, hI 6 0 i trivial, hI 8 0 i trivial, hL 7 0 i (by omega), hf1, hf (700 + 5 * i + 0) (by omega), hf (700 + 5 * i + 1) (by omega), hf (700 + 5 * i + 2) (by omega), hf (700 + 5 * i + 3) (by omega), hf (700 + 5 * i + 4) (by omega), hf 7 (by omega)]
    obtain ⟨q1, q2, q3, q4, q5, q6, q7, q8, q9, q10⟩ := q
    exact ⟨q1, q2, q3, q4, ⟨hhh i hi, q5.2⟩, q6, q7, q8, fun h' z => by rw [hf _ (by omega)]; exact q9 h' z, q10⟩
  · unfold cW at hk
    rw [cw] at hk
    exact RW_cg (fun r h1 h2 => hI r 0 k trivial) (fun j hj => hf _ (by omega)) (hW k hk)

theorem RT_K {K K' : Nat} {c : wdT} {ι : Nat} {f : Nat → Int32} (hK : K ≤ K') (h : RT K c ι f) : RT K' c ι f := by
  obtain ⟨t1, t2, t3, t4, t5, t6, t7, t8, t9, t10⟩ := h
  exact ⟨t1, t2, t3, t4, t5, t6, t7, t8, t9, t10.1, by have := t10.2; omega⟩
theorem Rel_K {K K' : Nat} {c : wdT} {ι : Nat} {f : Nat → Int32} (hK : K ≤ K') (h : Rel K c ι f) : Rel K' c ι f := by
  obtain ⟨ho, ht, hN, hG, hC, hH, hW⟩ := h
  exact ⟨ho, RT_K hK ht, fun n hn => RN_cg hK (fun _ => rfl) (fun _ => rfl) (fun _ _ => rfl) (hN n hn), hG, hC, hH, hW⟩
/-- a gate takes what it waits for -/
def tkF (f : Nat → Int32) (g : Nat) : Nat → Int32 :=
  fu (fu (fu (fu f (250 + 14 * g + 6) (f (250 + 14 * g + 7))) (250 + 14 * g + 7) (if ¬ f (250 + 14 * g + 9) = -1 ∧ ¬ f (250 + 14 * g + 9) = f (250 + 14 * g + 7) then f (250 + 14 * g + 9) else -1)) (250 + 14 * g + 8) (f (250 + 14 * g + 10))) (250 + 14 * g + 9) (-1)
theorem tkF_n (f : Nat → Int32) (g i : Nat) (h : ¬ (250 + 14 * g + 6 ≤ i ∧ i ≤ 250 + 14 * g + 9)) : tkF f g i = f i := by
  unfold tkF
  rw [fu_n (by omega), fu_n (by omega), fu_n (by omega), fu_n (by omega)]
theorem Rel_tk {K : Nat} {c : wdT} {ι : Nat} {f : Nat → Int32} {g : Nat} (h : Rel K c ι f) (hg : g < cG c ι) (h7 : ¬ wI c 0 ι 14 7 g = -1) : Rel K (tkW c ι g) ι (tkF f g) := by
  have hg2 : g < 32 := by have := h.1.2.1.2; unfold cG at hg; omega
  refine Rel_gate h (fun r k i z => ?_) (fun r k i z => ?_) (fun k h1 h2 => ?_) hg2 (fun i hi => tkF_n f g i (by omega)) (fun _ => ?_)
  · unfold tkW
    simp only [rd_II, rd_IL]
    rw [if_neg (by omega), if_neg (by omega), if_neg (by omega)]
  · unfold tkW
    simp only [rd_LL, rd_LI]
    rw [if_neg (by omega)]
  · unfold tkW
    simp only [rd_II, rd_IL]
    rw [if_neg (by omega), if_neg (by omega), if_neg (by omega)]
  obtain ⟨⟨a0, a1, a2, a3, a4, a5, a6, a7, a9⟩, ⟨b4, b5, b6, b7, b9⟩, d7, d9, hw, hnn⟩ := h.2.2.2.1 g hg
  have k0 : ∀ k, k ≤ 5 → wI (tkW c ι g) 0 ι 14 k g = wI c 0 ι 14 k g := fun k hk => by
    unfold tkW
    simp only [rd_II, rd_IL]
    rw [if_neg (by omega), if_neg (by omega), if_neg (by omega)]
  have k6 : wI (tkW c ι g) 0 ι 14 6 g = wI c 0 ι 14 7 g := by
    unfold tkW
    simp only [rd_II, rd_IL]
    rw [if_neg (by omega), if_neg (by omega), if_pos (by simp)]
  have k7 : wI (tkW c ι g) 0 ι 14 7 g = if wI c 0 ι 14 9 g = wI c 0 ι 14 7 g then -1 else wI c 0 ι 14 9 g := by
    unfold tkW
    simp only [rd_II, rd_IL]
    rw [if_neg (by omega), if_pos (by simp)]
  have k9 : wI (tkW c ι g) 0 ι 14 9 g = -1 := by
    unfold tkW
    simp only [rd_II, rd_IL]
    rw [if_pos (by simp)]
  have k8 : wL (tkW c ι g) 0 ι 14 8 g = wL c 0 ι 14 10 g := by
    unfold tkW
    simp only [rd_LL, rd_LI]
    rw [if_pos (by simp)]
  have kn : cN (tkW c ι g) ι = cN c ι := by
    unfold cN tkW
    simp only [rd_II, rd_IL]
    rw [if_neg (by omega), if_neg (by omega), if_neg (by omega)]
  have m6 : tkF f g (250 + 14 * g + 6) = f (250 + 14 * g + 7) := by
    unfold tkF
    rw [fu_n (by omega), fu_n (by omega), fu_n (by omega), fu_s]
  have m7 : tkF f g (250 + 14 * g + 7) = if ¬ f (250 + 14 * g + 9) = -1 ∧ ¬ f (250 + 14 * g + 9) = f (250 + 14 * g + 7) then f (250 + 14 * g + 9) else -1 := by
    unfold tkF
    rw [fu_n (by omega), fu_n (by omega), fu_s]
  have m8 : tkF f g (250 + 14 * g + 8) = f (250 + 14 * g + 10) := by
    unfold tkF
    rw [fu_n (by omega), fu_s]
  have m9 : tkF f g (250 + 14 * g + 9) = -1 := by
    unfold tkF
    rw [fu_s]
  have o := (h.1.2.2.2.2.2.1 g hg).2.2.2
  unfold RG
  rw [k0 0 (by decide), k0 1 (by decide), k0 2 (by decide), k0 3 (by decide), k0 4 (by decide), k0 5 (by decide), k6, k7, k8, k9, kn, m6, m7, m8, m9, tkF_n f g (250 + 14 * g + 0) (by omega), tkF_n f g (250 + 14 * g + 1) (by omega), tkF_n f g (250 + 14 * g + 2) (by omega), tkF_n f g (250 + 14 * g + 3) (by omega), tkF_n f g (250 + 14 * g + 4) (by omega), tkF_n f g (250 + 14 * g + 5) (by omega), tkF_n f g 0 (by omega), tkF_n f g (10 + 10 * nz (wI c 0 ι 14 3 g) + 3) (by unfold nz; omega), a7, a9]
  have rm : rg (-1) (-1) 3 := ⟨by decide, by decide⟩
  have r7 : rg (wI c 0 ι 14 7 g) 0 3 := by
    have u1 := b7.1
    have u2 := b7.2
    have u3 : ¬ (wI c 0 ι 14 7 g).toInt = -1 := fun q => h7 (Int32.toInt_inj.mp (by rw [q]; rfl))
    exact ⟨by omega, by omega⟩
  have e7 : (if ¬ wI c 0 ι 14 9 g = -1 ∧ ¬ wI c 0 ι 14 9 g = wI c 0 ι 14 7 g then wI c 0 ι 14 9 g else -1) = if wI c 0 ι 14 9 g = wI c 0 ι 14 7 g then -1 else wI c 0 ι 14 9 g := by
    by_cases q : wI c 0 ι 14 9 g = wI c 0 ι 14 7 g
    · rw [if_pos q, if_neg (fun z => z.2 q)]
    · rw [if_neg q]
      by_cases q2 : wI c 0 ι 14 9 g = -1
      · rw [if_neg (fun z => z.1 q2), q2]
      · rw [if_pos ⟨q2, q⟩]
  refine ⟨⟨a0, a1, a2, a3, a4, a5, rfl, e7, rfl⟩, ⟨b4, b5, r7, ?_, rm⟩, fun z => ?_, fun z => absurd rfl z, hw, hnn⟩
  · split <;> assumption
  · have z9 : ¬ wI c 0 ι 14 9 g = -1 := fun q => by
      rw [q] at z
      split at z
      · exact z rfl
      · exact z rfl
    obtain ⟨_, d10, d10r⟩ := d9 z9
    have d8r := (d7 h7).2
    exact ⟨d10, Int.le_trans d8r.1 d10r.1, d10r.2⟩
/-- a gate's delays -/
theorem Rel_delay {K : Nat} {c : wdT} {ι : Nat} {f : Nat → Int32} {g : Nat} {x y : Int32} (h : Rel K c ι f) (hg : g < cG c ι) (hx : rg x 0 1000) (hy : rg y 0 1000) : Rel K (dlW c ι g x y) ι (fu (fu f (250 + 14 * g + 4) x) (250 + 14 * g + 5) y) := by
  have hg2 : g < 32 := by have := h.1.2.1.2; unfold cG at hg; omega
  refine Rel_gate h (fun r k i z => ?_) (fun r k i z => rfl) (fun k h1 h2 => ?_) hg2 (fun i hi => ?_) (fun _ => ?_)
  · unfold dlW
    simp only [rd_II]
    rw [if_neg (by omega), if_neg (by omega)]
  · unfold dlW
    simp only [rd_II]
    rw [if_neg (by omega), if_neg (by omega)]
  · rw [fu_n (by omega), fu_n (by omega)]
  obtain ⟨⟨a0, a1, a2, a3, a4, a5, a6, a7, a9⟩, ⟨b4, b5, b6, b7, b9⟩, d7, d9, hw, hnn⟩ := h.2.2.2.1 g hg
  have k0 : ∀ k, ¬ k = 4 → ¬ k = 5 → wI (dlW c ι g x y) 0 ι 14 k g = wI c 0 ι 14 k g := fun k h1 h2 => by
    unfold dlW
    simp only [rd_II]
    rw [if_neg (by omega), if_neg (by omega)]
  have k4 : wI (dlW c ι g x y) 0 ι 14 4 g = x := by
    unfold dlW
    simp only [rd_II]
    rw [if_neg (by omega), if_pos (by simp)]
  have k5 : wI (dlW c ι g x y) 0 ι 14 5 g = y := by
    unfold dlW
    simp only [rd_II]
    rw [if_pos (by simp)]
  have kl : ∀ k, wL (dlW c ι g x y) 0 ι 14 k g = wL c 0 ι 14 k g := fun k => rfl
  have kn : cN (dlW c ι g x y) ι = cN c ι := by
    unfold cN dlW
    simp only [rd_II]
    rw [if_neg (by omega), if_neg (by omega)]
  have o := (h.1.2.2.2.2.2.1 g hg).2.2.2
  have hf : ∀ i, ¬ i = 250 + 14 * g + 4 → ¬ i = 250 + 14 * g + 5 → fu (fu f (250 + 14 * g + 4) x) (250 + 14 * g + 5) y i = f i := fun i h1 h2 => by rw [fu_n h2, fu_n h1]
  have f4 : fu (fu f (250 + 14 * g + 4) x) (250 + 14 * g + 5) y (250 + 14 * g + 4) = x := by rw [fu_n (by omega), fu_s]
  unfold RG
  rw [k0 0 (by decide) (by decide), k0 1 (by decide) (by decide), k0 2 (by decide) (by decide), k0 3 (by decide) (by decide), k4, k5, k0 6 (by decide) (by decide), k0 7 (by decide) (by decide), k0 9 (by decide) (by decide), kl, kl, kn, f4, fu_s, hf (250 + 14 * g + 0) (by omega) (by omega), hf (250 + 14 * g + 1) (by omega) (by omega), hf (250 + 14 * g + 2) (by omega) (by omega), hf (250 + 14 * g + 3) (by omega) (by omega), hf (250 + 14 * g + 6) (by omega) (by omega), hf (250 + 14 * g + 7) (by omega) (by omega), hf (250 + 14 * g + 8) (by omega) (by omega), hf (250 + 14 * g + 9) (by omega) (by omega), hf (250 + 14 * g + 10) (by omega) (by omega), hf 0 (by omega) (by omega), hf (10 + 10 * nz (wI c 0 ι 14 3 g) + 3) (by unfold nz; omega) (by unfold nz; omega)]
  exact ⟨⟨a0, a1, a2, a3, rfl, rfl, a6, a7, a9⟩, ⟨hx, hy, b6, b7, b9⟩, d7, d9, hw, hnn⟩
/-- when a net changed last, when it rose last -/
theorem Rel_l5 {K : Nat} {c : wdT} {ι : Nat} {f : Nat → Int32} {q : Nat} (h : Rel K c ι f) (hq : q < cN c ι) : Rel K (sL c 0 ι 13 4 q (wL c 0 ι 0 0 0)) ι (fu f (10 + 10 * q + 5) (f 0)) := by
  have hq2 : q < 24 := by have := h.1.1.2; unfold cN at hq; omega
  refine Rel_net (Nat.le_refl K) h (fun r k i z => rfl) (fun r k i z => ?_) hq2 (fun i z => fu_n (by omega)) (fun z => by rw [fu_n (by omega)]; exact z) (fun _ => ?_)
  · rw [rd_LL, if_neg (by omega)]
  · obtain ⟨a1, a2, a3, a4, a5, a6, a7, a8, a9, a10, a11, a12⟩ := h.2.2.1 q hq
    have t8 := h.2.1.2.2.2.2.2.2.2.1
    unfold RN
    simp only [rd_IL, rd_LL]
    rw [fu_n (by omega), fu_n (by omega), fu_n (by omega), fu_n (by omega), fu_s, fu_n (by omega)]
    simp only [eq_self, true_and, and_true, false_and, and_false, if_true, if_false, reduceIte, Nat.reduceEqDiff]
    exact ⟨a1, a2, a3, a4, h.2.1.1, a6, a7, a8, a9, a10, ⟨by have := t8.1; omega, t8.2⟩, a12⟩
theorem Rel_l6 {K : Nat} {c : wdT} {ι : Nat} {f : Nat → Int32} {q : Nat} (h : Rel K c ι f) (hq : q < cN c ι) : Rel K (sL c 0 ι 13 5 q (wL c 0 ι 0 0 0)) ι (fu f (10 + 10 * q + 6) (f 0)) := by
  have hq2 : q < 24 := by have := h.1.1.2; unfold cN at hq; omega
  refine Rel_net (Nat.le_refl K) h (fun r k i z => rfl) (fun r k i z => ?_) hq2 (fun i z => fu_n (by omega)) (fun z => by rw [fu_n (by omega)]; exact z) (fun _ => ?_)
  · rw [rd_LL, if_neg (by omega)]
  · obtain ⟨a1, a2, a3, a4, a5, a6, a7, a8, a9, a10, a11, a12⟩ := h.2.2.1 q hq
    have t8 := h.2.1.2.2.2.2.2.2.2.1
    unfold RN
    simp only [rd_IL, rd_LL]
    rw [fu_n (by omega), fu_n (by omega), fu_n (by omega), fu_n (by omega), fu_n (by omega), fu_s]
    simp only [eq_self, true_and, and_true, false_and, and_false, if_true, if_false, reduceIte, Nat.reduceEqDiff]
    exact ⟨a1, a2, a3, a4, a5, h.2.1.1, a7, a8, a9, a10, a11, ⟨by have := t8.1; omega, t8.2⟩⟩
/-- what a net is driven with, or forced to, by hand; it follows from now on -/
theorem Rel_hd {K : Nat} {c : wdT} {ι : Nat} {f : Nat → Int32} {q : Nat} {x : Int32} (h : Rel K c ι f) (hq : q < cN c ι) (hx : rg x 0 3) : Rel K (sI c 0 ι 13 0 q x) ι (fu (fu f (10 + 10 * q + 1) x) (10 + 10 * q + 3) 1) := by
  have hq2 : q < 24 := by have := h.1.1.2; unfold cN at hq; omega
  refine Rel_net (Nat.le_refl K) h (fun r k i z => ?_) (fun r k i z => rfl) hq2 (fun i z => by rw [fu_n (by omega), fu_n (by omega)]) (fun z => fu_s _ _ _) (fun _ => ?_)
  · rw [rd_II, if_neg (by omega)]
  · obtain ⟨a1, a2, a3, a4, a5, a6, a7, a8, a9, a10, a11, a12⟩ := h.2.2.1 q hq
    unfold RN
    simp only [rd_II, rd_LI]
    rw [fu_n (by omega), fu_n (by omega), fu_n (by omega), fu_s, fu_n (by omega), fu_n (by omega), fu_n (by omega), fu_n (by omega), fu_n (by omega), fu_n (by omega), fu_n (by omega), fu_n (by omega)]
    simp only [eq_self, true_and, and_true, false_and, and_false, if_true, if_false, reduceIte, Nat.reduceEqDiff]
    exact ⟨a1, a3, a4, a5, a6, a7, hx, a9, a10, a11, a12⟩
theorem Rel_fc {K : Nat} {c : wdT} {ι : Nat} {f : Nat → Int32} {q : Nat} {x : Int32} (h : Rel K c ι f) (hq : q < cN c ι) (hx : rg x (-1) 3) : Rel K (sI c 0 ι 13 1 q x) ι (fu (fu f (10 + 10 * q + 2) x) (10 + 10 * q + 3) 1) := by
  have hq2 : q < 24 := by have := h.1.1.2; unfold cN at hq; omega
  refine Rel_net (Nat.le_refl K) h (fun r k i z => ?_) (fun r k i z => rfl) hq2 (fun i z => by rw [fu_n (by omega), fu_n (by omega)]) (fun z => fu_s _ _ _) (fun _ => ?_)
  · rw [rd_II, if_neg (by omega)]
  · obtain ⟨a1, a2, a3, a4, a5, a6, a7, a8, a9, a10, a11, a12⟩ := h.2.2.1 q hq
    unfold RN
    simp only [rd_II, rd_LI]
    rw [fu_n (by omega), fu_n (by omega), fu_n (by omega), fu_n (by omega), fu_n (by omega), fu_s, fu_n (by omega), fu_n (by omega), fu_n (by omega), fu_n (by omega), fu_n (by omega), fu_n (by omega)]
    simp only [eq_self, true_and, and_true, false_and, and_false, if_true, if_false, reduceIte, Nat.reduceEqDiff]
    exact ⟨a1, a2, a4, a5, a6, a7, a8, hx, a10, a11, a12⟩
/-- net q follows from now on -/
theorem Rel_fw {K : Nat} {c : wdT} {ι : Nat} {f : Nat → Int32} {q : Nat} (h : Rel K c ι f) (hq : q < 24) : Rel K c ι (fu f (10 + 10 * q + 3) 1) := by
  refine Rel_net (Nat.le_refl K) h (fun r k i z => rfl) (fun r k i z => rfl) hq (fun i z => by rw [fu_n (by omega)]) (fun z => fu_s _ _ _) (fun hq => ?_)
  have a := h.2.2.1 q hq
  unfold RN at a ⊢
  rw [fu_n (by omega), fu_n (by omega), fu_n (by omega), fu_n (by omega), fu_n (by omega), fu_n (by omega)]
  exact a
/-- one change more, kept while there is room -/
theorem Rel_rf2_t {K : Nat} {c : wdT} {ι : Nat} {f : Nat → Int32} {q : Nat} {a : Int32} (h : Rel K c ι f) (hq : q < cN c ι) (ha : rg a 0 3) (hK : K < 1000000000) (hw : cW c ι < 600) :
    Rel (K + 1) (rf2 c ι q (cW c ι) a) ι (fu (fu (fu (fu (fu (fu f (10 + 10 * q + 0) a) (10 + 10 * q + 4) (f (10 + 10 * q + 4) + 1)) (1450 + 3 * cW c ι) (f 0)) (1450 + 3 * cW c ι + 1) (nI q)) (1450 + 3 * cW c ι + 2) a) 6 (nI (cW c ι + 1))) := by
  have h1 := Rel_show h hq ha hK
  have ew : cW (sL (sI c 0 ι 13 2 q a) 0 ι 13 3 q (wL c 0 ι 13 3 q + 1)) ι = cW c ι := by
    unfold cW
    simp only [rd_II, rd_IL]
    rw [if_neg (by omega)]
  have et : wL (sL (sI c 0 ι 13 2 q a) 0 ι 13 3 q (wL c 0 ι 13 3 q + 1)) 0 ι 0 0 0 = wL c 0 ι 0 0 0 := by
    simp only [rd_LL, rd_LI]
    rw [if_neg (by omega)]
  have e0 : fu (fu f (10 + 10 * q + 0) a) (10 + 10 * q + 4) (f (10 + 10 * q + 4) + 1) 0 = f 0 := by rw [fu_n (by omega), fu_n (by omega)]
  have hq2 : q < 24 := by have := h.1.1.2; unfold cN at hq; omega
  have h2 := Rel_keep (n := nI q) h1 ha (by unfold vn; rw [nI_clamp (by omega)]; exact ⟨rfl, hq2⟩) (by rw [ew]; exact hw)
  rw [ew, et, e0] at h2
  exact h2
theorem Rel_rf2_f {K : Nat} {c : wdT} {ι : Nat} {f : Nat → Int32} {q : Nat} {a : Int32} (h : Rel K c ι f) (hq : q < cN c ι) (ha : rg a 0 3) (hK : K < 1000000000) (hw : ¬ cW c ι < 600) :
    Rel (K + 1) (rf2 c ι q (cW c ι) a) ι (fu (fu f (10 + 10 * q + 0) a) (10 + 10 * q + 4) (f (10 + 10 * q + 4) + 1)) := by
  have h1 := Rel_show h hq ha hK
  unfold rf2 kpW
  rw [if_neg hw]
  exact h1

/-- cells a .. b take what lies five cells behind -/
def shF (f : Nat → Int32) (a b : Nat) : Nat → Int32 := fun i => if a ≤ i ∧ i < b then f (i + 5) else f i

theorem Rel_drop {K : Nat} {c : wdT} {ι : Nat} {f : Nat → Int32} {p : Nat} (h : Rel K c ι f) (hp : p < cH c ι) : Rel (K) (dpW c ι p (cH c ι)) ι (shF (fu f 4 (nI (cH c ι - 1))) (700 + 5 * p) (700 + 5 * (cH c ι - 1))) := by
  have hI : ∀ r k i, ¬ (4 ≤ r ∧ r ≤ 8) → wI (dpW c ι p (cH c ι)) 0 ι r k i = wI c 0 ι r k i := fun r k i z => by
    unfold dpW
    rw [rd_II, if_neg (by omega), drW_I, if_neg (by omega)]
  have hL : ∀ r k i, ¬ r = 7 → wL (dpW c ι p (cH c ι)) 0 ι r k i = wL c 0 ι r k i := fun r k i z => by
    unfold dpW
    rw [rd_LI, drW_L, if_neg (by omega)]
  have h4 : wI (dpW c ι p (cH c ι)) 0 ι 4 0 0 = nI (cH c ι - 1) := by
    unfold dpW
    rw [rd_II, if_pos (by simp)]
  have hm : ∀ r i, (r = 5 ∨ r = 6 ∨ r = 8) → i < cH c ι - 1 → wI (dpW c ι p (cH c ι)) 0 ι r 0 i = wI c 0 ι r 0 (if p ≤ i then i + 1 else i) := fun r i hr hi => by
    unfold dpW
    rw [rd_II, if_neg (by omega), drW_I]
    split
    · rw [if_pos (by omega)]
    · rw [if_neg (by omega)]
  have hmL : ∀ i, i < cH c ι - 1 → wL (dpW c ι p (cH c ι)) 0 ι 7 0 i = wL c 0 ι 7 0 (if p ≤ i then i + 1 else i) := fun i hi => by
    unfold dpW
    rw [rd_LI, drW_L]
    split
    · rw [if_pos (by omega)]
    · rw [if_neg (by omega)]
  generalize dpW c ι p (cH c ι) = c' at hI hL h4 hm hmL ⊢
  have hf : ∀ i, ¬ (i = 4 ∨ (700 ≤ i ∧ i < 1200)) → (shF (fu f 4 (nI (cH c ι - 1))) (700 + 5 * p) (700 + 5 * (cH c ι - 1))) i = f i := fun i z => by
    unfold shF
    rw [if_neg (by have := h.1.2.2.2.1.2; unfold cH; omega), fu_n (by omega)]
  have hf4 : (shF (fu f 4 (nI (cH c ι - 1))) (700 + 5 * p) (700 + 5 * (cH c ι - 1))) 4 = nI (cH c ι - 1) := by
    unfold shF
    rw [if_neg (by omega), fu_s]
  have hfm : ∀ i j, i < cH c ι - 1 → j < 5 → (shF (fu f 4 (nI (cH c ι - 1))) (700 + 5 * p) (700 + 5 * (cH c ι - 1))) (700 + 5 * i + j) = f (700 + 5 * (if p ≤ i then i + 1 else i) + j) := fun i j hi hj => by
    unfold shF
    by_cases e : p ≤ i
    · rw [if_pos e, if_pos (by omega), fu_n (by omega)]
      congr 1
      omega
    · rw [if_neg e, if_neg (by omega), fu_n (by omega)]
  generalize shF (fu f 4 (nI (cH c ι - 1))) (700 + 5 * p) (700 + 5 * (cH c ι - 1)) = f' at hf hf4 hfm ⊢
  obtain ⟨⟨o1, o2, o3, o4, o5, o6, o7, o8⟩, ht, hN, hG, hC, hH, hW⟩ := h
  have b1 := o1.2
  have b2 := o2.2
  have b3 := o3.2
  have b4 := o4.2
  have b5 := o5.2
  have cn : wI c' 0 ι 0 2 0 = wI c 0 ι 0 2 0 := hI 0 2 0 (by omega)
  have cg : wI c' 0 ι 0 4 0 = wI c 0 ι 0 4 0 := hI 0 4 0 (by omega)
  have ck : wI c' 0 ι 0 6 0 = wI c 0 ι 0 6 0 := hI 0 6 0 (by omega)
  have cw : wI c' 0 ι 9 0 0 = wI c 0 ι 9 0 0 := hI 9 0 0 (by omega)
  have eN : cN c ι ≤ cN c' ι := by unfold cN; rw [cn]; exact Nat.le_refl _
  refine ⟨⟨by rw [cn]; exact o1, by rw [cg]; exact o2, by rw [ck]; exact o3, by rw [h4]; exact ct_nI (by unfold cH; omega) (by decide), by rw [cw]; exact o5, fun g hg => ?_, fun k hk => ?_, fun i hi => ?_⟩, ?_, fun n hn => ?_, fun g hg => ?_, fun k hk => ?_, fun i hi => ?_, fun k hk => ?_⟩
  · rw [cg] at hg
    rw [hI 14 1 g (by omega), hI 14 2 g (by omega), hI 14 3 g (by omega)]
    exact o6 g hg
  · rw [ck] at hk
    rw [hI 15 1 k (by omega), hI 15 2 k (by omega)]
    exact o7 k hk
  · rw [h4] at hi
    have hi2 : i < cH c ι - 1 := by unfold nz at hi; rw [nI_clamp (by unfold cH; omega)] at hi; exact hi
    rw [hm 6 i (by omega) hi2]
    exact o8 _ (by unfold cH at hi2; split <;> omega)
  · unfold RT at ht ⊢
    rw [cn, cg, ck, h4, cw, hI 0 1 0 (by omega), hL 0 0 0 (by omega), hf 0 (by omega), hf 1 (by omega), hf 2 (by omega), hf 3 (by omega), hf4, hf 5 (by omega), hf 6 (by omega), hf 7 (by omega)]
    obtain ⟨t1, t2, t3, t4, t5, t6, t7, t8, t9, t10⟩ := ht
    exact ⟨t1, t2, t3, t4, rfl, t6, t7, t8, t9, t10⟩
  · unfold cN at hn
    rw [cn] at hn
    exact RN_cg (by omega) (fun k => hI 13 k n (by omega)) (fun k => hL 13 k n (by omega)) (fun j hj => hf _ (by omega)) (hN n hn)
  · unfold cG at hg
    rw [cg] at hg
    have o := (o6 g hg).2.2.2
    exact RG_cg eN (fun k => hI 14 k g (by omega)) (fun k => hL 14 k g (by omega)) (fun j hj => hf _ (by omega)) (hf 0 (by omega)) (fun z => by rw [hf _ (by unfold nz; omega)]; exact z) (hG g hg)
  · unfold cK at hk
    rw [ck] at hk
    exact RK_cg eN (fun j => hI 15 j k (by omega)) (fun j hj => hf _ (by omega)) (hC k hk)
  · unfold cH at hi
    rw [h4] at hi
    have hi2 : i < cH c ι - 1 := by unfold nz at hi; rw [nI_clamp (by unfold cH; omega)] at hi; exact hi
    have q := hH (if p ≤ i then i + 1 else i) (by split <;> omega)
    unfold RH at q ⊢
    unfold cN at q ⊢
    rw [cn, hm 5 i (by omega) hi2, hm 6 i (by omega) hi2, hm 8 i (by omega) hi2, hmL i hi2, hf 0 (by omega), hf 7 (by omega), hfm i 0 hi2 (by omega), hfm i 1 hi2 (by omega), hfm i 2 hi2 (by omega), hfm i 3 hi2 (by omega), hfm i 4 hi2 (by omega)]
    obtain ⟨q1, q2, q3, q4, q5, q6, q7, q8, q9, q10⟩ := q
    refine ⟨q1, q2, q3, q4, q5, q6, q7, q8, fun h' z => ?_, q10⟩
    rw [hfm h' 4 (by omega) (by omega)]
    exact q9 _ (by split <;> split <;> omega)
  · unfold cW at hk
    rw [cw] at hk
    exact RW_cg (fun r h1 h2 => hI r 0 k (by omega)) (fun j hj => hf _ (by omega)) (hW k hk)

theorem Rel_tell {K : Nat} {c : wdT} {ι : Nat} {f : Nat → Int32} {act n v v' t : Int32} (h : Rel K c ι f) (hlt : cH c ι < 100) (hn : vn n 24) (hn2 : nz n < cN c ι) (ht0 : rg t (f 0).toInt 1000000000) (ha : rg act 0 2) (hv : rg v 0 3) (hvv : ¬ act = 2 → v' = v) (hK : K < 1000000000) : Rel (K + 1) (apW c ι (cH c ι) act n t.toInt64 v) ι (fu (fu (fu (fu (fu (fu (fu f 4 (nI (cH c ι + 1))) (700 + 5 * cH c ι) t) (700 + 5 * cH c ι + 1) n) (700 + 5 * cH c ι + 2) act) (700 + 5 * cH c ι + 3) v') (700 + 5 * cH c ι + 4) (f 7)) 7 (f 7 + 1)) := by
  have hnn := hn
  clear hn
  have e7 : (f 7 + 1).toInt = (f 7).toInt + 1 := by
    have u1 := h.2.1.2.2.2.2.2.2.2.2.2.1
    have u2 := h.2.1.2.2.2.2.2.2.2.2.2.2
    rw [i32_add (by rw [i1]; omega) (by rw [i1]; omega), i1]
  have hI : ∀ r k i, ¬ (r = 4 ∧ k = 0) → ¬ (5 ≤ r ∧ r ≤ 8 ∧ i = cH c ι) → wI (apW c ι (cH c ι) act n t.toInt64 v) 0 ι r k i = wI c 0 ι r k i := fun r k i z z2 => by unfold apW; simp only [rd_II, rd_IL]; rw [if_neg (by omega), if_neg (by omega), if_neg (by omega), if_neg (by omega)]
  have hL : ∀ r k i, ¬ (r = 7 ∧ i = cH c ι) → wL (apW c ι (cH c ι) act n t.toInt64 v) 0 ι r k i = wL c 0 ι r k i := fun r k i z => by unfold apW; simp only [rd_LL, rd_LI]; rw [if_neg (by omega)]
  have h4 : wI (apW c ι (cH c ι) act n t.toInt64 v) 0 ι 4 0 0 = nI (cH c ι + 1) := by unfold apW; simp only [rd_II, rd_IL]; rw [if_pos (by simp)]
  have x5 : wI (apW c ι (cH c ι) act n t.toInt64 v) 0 ι 5 0 (cH c ι) = act := by unfold apW; simp only [rd_II, rd_IL]; rw [if_neg (by omega), if_neg (by omega), if_neg (by omega), if_pos (by simp)]
  have x6 : wI (apW c ι (cH c ι) act n t.toInt64 v) 0 ι 6 0 (cH c ι) = n := by unfold apW; simp only [rd_II, rd_IL]; rw [if_neg (by omega), if_neg (by omega), if_pos (by simp)]
  have x7 : wL (apW c ι (cH c ι) act n t.toInt64 v) 0 ι 7 0 (cH c ι) = t.toInt64 := by unfold apW; simp only [rd_LL, rd_LI]; rw [if_pos (by simp)]
  have x8 : wI (apW c ι (cH c ι) act n t.toInt64 v) 0 ι 8 0 (cH c ι) = v := by unfold apW; simp only [rd_II, rd_IL]; rw [if_neg (by omega), if_pos (by simp)]
  generalize apW c ι (cH c ι) act n t.toInt64 v = c' at hI hL h4 x5 x6 x7 x8 ⊢
  have hf : ∀ i, ¬ (i = 4 ∨ i = 7 ∨ (700 + 5 * cH c ι ≤ i ∧ i < 705 + 5 * cH c ι)) → (fu (fu (fu (fu (fu (fu (fu f 4 (nI (cH c ι + 1))) (700 + 5 * cH c ι) t) (700 + 5 * cH c ι + 1) n) (700 + 5 * cH c ι + 2) act) (700 + 5 * cH c ι + 3) v') (700 + 5 * cH c ι + 4) (f 7)) 7 (f 7 + 1)) i = f i := fun i z => by rw [fu_n (by omega), fu_n (by omega), fu_n (by omega), fu_n (by omega), fu_n (by omega), fu_n (by omega), fu_n (by omega)]
  have f4 : (fu (fu (fu (fu (fu (fu (fu f 4 (nI (cH c ι + 1))) (700 + 5 * cH c ι) t) (700 + 5 * cH c ι + 1) n) (700 + 5 * cH c ι + 2) act) (700 + 5 * cH c ι + 3) v') (700 + 5 * cH c ι + 4) (f 7)) 7 (f 7 + 1)) 4 = nI (cH c ι + 1) := by rw [fu_n (by omega), fu_n (by omega), fu_n (by omega), fu_n (by omega), fu_n (by omega), fu_n (by omega), fu_s]
  have f7 : (fu (fu (fu (fu (fu (fu (fu f 4 (nI (cH c ι + 1))) (700 + 5 * cH c ι) t) (700 + 5 * cH c ι + 1) n) (700 + 5 * cH c ι + 2) act) (700 + 5 * cH c ι + 3) v') (700 + 5 * cH c ι + 4) (f 7)) 7 (f 7 + 1)) 7 = f 7 + 1 := fu_s _ _ _
  have y0 : (fu (fu (fu (fu (fu (fu (fu f 4 (nI (cH c ι + 1))) (700 + 5 * cH c ι) t) (700 + 5 * cH c ι + 1) n) (700 + 5 * cH c ι + 2) act) (700 + 5 * cH c ι + 3) v') (700 + 5 * cH c ι + 4) (f 7)) 7 (f 7 + 1)) (700 + 5 * cH c ι + 0) = t := by rw [fu_n (by omega), fu_n (by omega), fu_n (by omega), fu_n (by omega), fu_n (by omega)]; exact fu_s _ _ _
  have y1 : (fu (fu (fu (fu (fu (fu (fu f 4 (nI (cH c ι + 1))) (700 + 5 * cH c ι) t) (700 + 5 * cH c ι + 1) n) (700 + 5 * cH c ι + 2) act) (700 + 5 * cH c ι + 3) v') (700 + 5 * cH c ι + 4) (f 7)) 7 (f 7 + 1)) (700 + 5 * cH c ι + 1) = n := by rw [fu_n (by omega), fu_n (by omega), fu_n (by omega), fu_n (by omega), fu_s]
  have y2 : (fu (fu (fu (fu (fu (fu (fu f 4 (nI (cH c ι + 1))) (700 + 5 * cH c ι) t) (700 + 5 * cH c ι + 1) n) (700 + 5 * cH c ι + 2) act) (700 + 5 * cH c ι + 3) v') (700 + 5 * cH c ι + 4) (f 7)) 7 (f 7 + 1)) (700 + 5 * cH c ι + 2) = act := by rw [fu_n (by omega), fu_n (by omega), fu_n (by omega), fu_s]
  have y3 : (fu (fu (fu (fu (fu (fu (fu f 4 (nI (cH c ι + 1))) (700 + 5 * cH c ι) t) (700 + 5 * cH c ι + 1) n) (700 + 5 * cH c ι + 2) act) (700 + 5 * cH c ι + 3) v') (700 + 5 * cH c ι + 4) (f 7)) 7 (f 7 + 1)) (700 + 5 * cH c ι + 3) = v' := by rw [fu_n (by omega), fu_n (by omega), fu_s]
  have y4 : (fu (fu (fu (fu (fu (fu (fu f 4 (nI (cH c ι + 1))) (700 + 5 * cH c ι) t) (700 + 5 * cH c ι + 1) n) (700 + 5 * cH c ι + 2) act) (700 + 5 * cH c ι + 3) v') (700 + 5 * cH c ι + 4) (f 7)) 7 (f 7 + 1)) (700 + 5 * cH c ι + 4) = f 7 := by rw [fu_n (by omega), fu_s]
  generalize fu (fu (fu (fu (fu (fu (fu f 4 (nI (cH c ι + 1))) (700 + 5 * cH c ι) t) (700 + 5 * cH c ι + 1) n) (700 + 5 * cH c ι + 2) act) (700 + 5 * cH c ι + 3) v') (700 + 5 * cH c ι + 4) (f 7)) 7 (f 7 + 1) = f' at hf f4 f7 y0 y1 y2 y3 y4 ⊢
  obtain ⟨⟨o1, o2, o3, o4, o5, o6, o7, o8⟩, ht, hN, hG, hC, hH, hW⟩ := h
  have b1 := o1.2
  have b2 := o2.2
  have b3 := o3.2
  have b4 := o4.2
  have b5 := o5.2
  have cn : wI c' 0 ι 0 2 0 = wI c 0 ι 0 2 0 := hI 0 2 0 (by omega) (by omega)
  have cg : wI c' 0 ι 0 4 0 = wI c 0 ι 0 4 0 := hI 0 4 0 (by omega) (by omega)
  have ck : wI c' 0 ι 0 6 0 = wI c 0 ι 0 6 0 := hI 0 6 0 (by omega) (by omega)
  have cw : wI c' 0 ι 9 0 0 = wI c 0 ι 9 0 0 := hI 9 0 0 (by omega) (by omega)
  have eN : cN c ι ≤ cN c' ι := by unfold cN; rw [cn]; exact Nat.le_refl _
  refine ⟨⟨by rw [cn]; exact o1, by rw [cg]; exact o2, by rw [ck]; exact o3, by rw [h4]; exact ct_nI hlt (by decide), by rw [cw]; exact o5, fun g hg => ?_, fun k hk => ?_, fun i hi => ?_⟩, ?_, fun n hn => ?_, fun g hg => ?_, fun k hk => ?_, fun i hi => ?_, fun k hk => ?_⟩
  · rw [cg] at hg
    rw [hI 14 1 g (by omega) (by omega), hI 14 2 g (by omega) (by omega), hI 14 3 g (by omega) (by omega)]
    exact o6 g hg
  · rw [ck] at hk
    rw [hI 15 1 k (by omega) (by omega), hI 15 2 k (by omega) (by omega)]
    exact o7 k hk
  · rw [h4] at hi
    have hi2 : i < cH c ι + 1 := by unfold nz at hi; rw [nI_clamp (by unfold cH; omega)] at hi; exact hi
    by_cases e : i = cH c ι
    · subst e
      rw [x6]
      exact hnn
    · rw [hI 6 0 i (by omega) (by omega)]
      exact o8 i (by unfold cH at hi2 e; omega)
  · unfold RT at ht ⊢
    rw [cn, cg, ck, h4, cw, hI 0 1 0 (by omega) (by omega), hL 0 0 0 (by omega), hf 0 (by omega), hf 1 (by omega), hf 2 (by omega), hf 3 (by omega), f4, hf 5 (by omega), hf 6 (by omega), f7]
    obtain ⟨t1, t2, t3, t4, t5, t6, t7, t8, t9, t10⟩ := ht
    exact ⟨t1, t2, t3, t4, rfl, t6, t7, t8, t9, by rw [e7]; have := t10.1; omega, by rw [e7]; have := t10.2; omega⟩
  · unfold cN at hn
    rw [cn] at hn
    exact RN_cg (by omega) (fun k => hI 13 k n (by omega) (by omega)) (fun k => hL 13 k n (by omega)) (fun j hj => hf _ (by omega)) (hN n hn)
  · unfold cG at hg
    rw [cg] at hg
    have o := (o6 g hg).2.2.2
    exact RG_cg eN (fun k => hI 14 k g (by omega) (by omega)) (fun k => hL 14 k g (by omega)) (fun j hj => hf _ (by omega)) (hf 0 (by omega)) (fun z => by rw [hf _ (by unfold nz; omega)]; exact z) (hG g hg)
  · unfold cK at hk
    rw [ck] at hk
    exact RK_cg eN (fun j => hI 15 j k (by omega) (by omega)) (fun j hj => hf _ (by omega)) (hC k hk)
  · unfold cH at hi
    rw [h4] at hi
    have hi2 : i < cH c ι + 1 := by unfold nz at hi; rw [nI_clamp (by unfold cH; omega)] at hi; exact hi
    have h77 : f 7 < f' 7 := by rw [f7, Int32.lt_iff_toInt_lt, e7]; omega
    by_cases e : i = cH c ι
    · subst e
      unfold RH
      unfold cN
      rw [cn, x5, x6, x7, x8, y0, y1, y2, y3, y4, hf 0 (by omega)]
      refine ⟨rfl, rfl, rfl, hvv, ht0, ha, hv, h77, fun h' z => ?_, hn2⟩
      rw [hf _ (by omega)]
      exact (hH h' z).2.2.2.2.2.2.2.1
    · exact RH_cg eN (fun r h1 h2 => hI r 0 i (by omega) (by omega)) (hL 7 0 i (by omega)) (fun j h1 h2 => hf j (by omega)) (hf 0 (by omega)) (Int32.le_of_lt h77) (hH i (by omega))
  · unfold cW at hk
    rw [cw] at hk
    exact RW_cg (fun r h1 h2 => hI r 0 k (by omega) (by omega)) (fun j hj => hf _ (by omega)) (hW k hk)

theorem Rel_anew {K : Nat} {c : wdT} {ι : Nat} {f : Nat → Int32} (h : Rel K c ι f) (hlt : cN c ι < 24) : Rel (K) (anW c ι (cN c ι)) ι (fu (fu (fu (fu (fu (fu (fu (fu f 2 (nI (cN c ι + 1))) (10 + 10 * cN c ι + 0) 2) (10 + 10 * cN c ι + 1) 3) (10 + 10 * cN c ι + 2) (-1)) (10 + 10 * cN c ι + 3) 0) (10 + 10 * cN c ι + 4) 0) (10 + 10 * cN c ι + 5) (-1)) (10 + 10 * cN c ι + 6) (-1)) := by
  have hI : ∀ r k i, ¬ (r = 0 ∧ k = 2) → ¬ (r = 13 ∧ i = cN c ι) → wI (anW c ι (cN c ι)) 0 ι r k i = wI c 0 ι r k i := fun r k i z z2 => by unfold anW bnW; simp only [rd_II, rd_IL, rd_LI]; rw [if_neg (by omega), if_neg (by omega), if_neg (by omega), if_neg (by omega)]
  have hL : ∀ r k i, ¬ (r = 13 ∧ i = cN c ι) → wL (anW c ι (cN c ι)) 0 ι r k i = wL c 0 ι r k i := fun r k i z => by unfold anW bnW; simp only [rd_LL, rd_LI]; rw [if_neg (by omega), if_neg (by omega), if_neg (by omega)]
  have h2 : wI (anW c ι (cN c ι)) 0 ι 0 2 0 = nI (cN c ι + 1) := by unfold anW bnW; simp only [rd_II, rd_IL, rd_LL, rd_LI]; rw [if_pos (by simp)]
  have x0 : wI (anW c ι (cN c ι)) 0 ι 13 0 (cN c ι) = 3 := by unfold anW bnW; simp only [rd_II, rd_IL, rd_LL, rd_LI]; rw [if_neg (by omega), if_neg (by omega), if_neg (by omega), if_pos (by simp)]
  have x1 : wI (anW c ι (cN c ι)) 0 ι 13 1 (cN c ι) = -1 := by unfold anW bnW; simp only [rd_II, rd_IL, rd_LL, rd_LI]; rw [if_neg (by omega), if_neg (by omega), if_pos (by simp)]
  have x2 : wI (anW c ι (cN c ι)) 0 ι 13 2 (cN c ι) = 2 := by unfold anW bnW; simp only [rd_II, rd_IL, rd_LL, rd_LI]; rw [if_neg (by omega), if_pos (by simp)]
  have x3 : wL (anW c ι (cN c ι)) 0 ι 13 3 (cN c ι) = 0 := by unfold anW bnW; simp only [rd_II, rd_IL, rd_LL, rd_LI]; rw [if_neg (by omega), if_neg (by omega), if_pos (by simp)]
  have x4 : wL (anW c ι (cN c ι)) 0 ι 13 4 (cN c ι) = -1 := by unfold anW bnW; simp only [rd_II, rd_IL, rd_LL, rd_LI]; rw [if_neg (by omega), if_pos (by simp)]
  have x5 : wL (anW c ι (cN c ι)) 0 ι 13 5 (cN c ι) = -1 := by unfold anW bnW; simp only [rd_II, rd_IL, rd_LL, rd_LI]; rw [if_pos (by simp)]
  generalize anW c ι (cN c ι) = c' at hI hL h2 x0 x1 x2 x3 x4 x5 ⊢
  have hf : ∀ i, ¬ (i = 2 ∨ (10 + 10 * cN c ι ≤ i ∧ i < 20 + 10 * cN c ι)) → (fu (fu (fu (fu (fu (fu (fu (fu f 2 (nI (cN c ι + 1))) (10 + 10 * cN c ι + 0) 2) (10 + 10 * cN c ι + 1) 3) (10 + 10 * cN c ι + 2) (-1)) (10 + 10 * cN c ι + 3) 0) (10 + 10 * cN c ι + 4) 0) (10 + 10 * cN c ι + 5) (-1)) (10 + 10 * cN c ι + 6) (-1)) i = f i := fun i z => by rw [fu_n (by omega), fu_n (by omega), fu_n (by omega), fu_n (by omega), fu_n (by omega), fu_n (by omega), fu_n (by omega), fu_n (by omega)]
  have f2 : (fu (fu (fu (fu (fu (fu (fu (fu f 2 (nI (cN c ι + 1))) (10 + 10 * cN c ι + 0) 2) (10 + 10 * cN c ι + 1) 3) (10 + 10 * cN c ι + 2) (-1)) (10 + 10 * cN c ι + 3) 0) (10 + 10 * cN c ι + 4) 0) (10 + 10 * cN c ι + 5) (-1)) (10 + 10 * cN c ι + 6) (-1)) 2 = nI (cN c ι + 1) := by rw [fu_n (by omega), fu_n (by omega), fu_n (by omega), fu_n (by omega), fu_n (by omega), fu_n (by omega), fu_n (by omega), fu_s]
  have y0 : (fu (fu (fu (fu (fu (fu (fu (fu f 2 (nI (cN c ι + 1))) (10 + 10 * cN c ι + 0) 2) (10 + 10 * cN c ι + 1) 3) (10 + 10 * cN c ι + 2) (-1)) (10 + 10 * cN c ι + 3) 0) (10 + 10 * cN c ι + 4) 0) (10 + 10 * cN c ι + 5) (-1)) (10 + 10 * cN c ι + 6) (-1)) (10 + 10 * cN c ι + 0) = 2 := by rw [fu_n (by omega), fu_n (by omega), fu_n (by omega), fu_n (by omega), fu_n (by omega), fu_n (by omega), fu_s]
  have y1 : (fu (fu (fu (fu (fu (fu (fu (fu f 2 (nI (cN c ι + 1))) (10 + 10 * cN c ι + 0) 2) (10 + 10 * cN c ι + 1) 3) (10 + 10 * cN c ι + 2) (-1)) (10 + 10 * cN c ι + 3) 0) (10 + 10 * cN c ι + 4) 0) (10 + 10 * cN c ι + 5) (-1)) (10 + 10 * cN c ι + 6) (-1)) (10 + 10 * cN c ι + 1) = 3 := by rw [fu_n (by omega), fu_n (by omega), fu_n (by omega), fu_n (by omega), fu_n (by omega), fu_s]
  have y2 : (fu (fu (fu (fu (fu (fu (fu (fu f 2 (nI (cN c ι + 1))) (10 + 10 * cN c ι + 0) 2) (10 + 10 * cN c ι + 1) 3) (10 + 10 * cN c ι + 2) (-1)) (10 + 10 * cN c ι + 3) 0) (10 + 10 * cN c ι + 4) 0) (10 + 10 * cN c ι + 5) (-1)) (10 + 10 * cN c ι + 6) (-1)) (10 + 10 * cN c ι + 2) = -1 := by rw [fu_n (by omega), fu_n (by omega), fu_n (by omega), fu_n (by omega), fu_s]
  have y3 : (fu (fu (fu (fu (fu (fu (fu (fu f 2 (nI (cN c ι + 1))) (10 + 10 * cN c ι + 0) 2) (10 + 10 * cN c ι + 1) 3) (10 + 10 * cN c ι + 2) (-1)) (10 + 10 * cN c ι + 3) 0) (10 + 10 * cN c ι + 4) 0) (10 + 10 * cN c ι + 5) (-1)) (10 + 10 * cN c ι + 6) (-1)) (10 + 10 * cN c ι + 3) = 0 := by rw [fu_n (by omega), fu_n (by omega), fu_n (by omega), fu_s]
  have y4 : (fu (fu (fu (fu (fu (fu (fu (fu f 2 (nI (cN c ι + 1))) (10 + 10 * cN c ι + 0) 2) (10 + 10 * cN c ι + 1) 3) (10 + 10 * cN c ι + 2) (-1)) (10 + 10 * cN c ι + 3) 0) (10 + 10 * cN c ι + 4) 0) (10 + 10 * cN c ι + 5) (-1)) (10 + 10 * cN c ι + 6) (-1)) (10 + 10 * cN c ι + 4) = 0 := by rw [fu_n (by omega), fu_n (by omega), fu_s]
  have y5 : (fu (fu (fu (fu (fu (fu (fu (fu f 2 (nI (cN c ι + 1))) (10 + 10 * cN c ι + 0) 2) (10 + 10 * cN c ι + 1) 3) (10 + 10 * cN c ι + 2) (-1)) (10 + 10 * cN c ι + 3) 0) (10 + 10 * cN c ι + 4) 0) (10 + 10 * cN c ι + 5) (-1)) (10 + 10 * cN c ι + 6) (-1)) (10 + 10 * cN c ι + 5) = -1 := by rw [fu_n (by omega), fu_s]
  have y6 : (fu (fu (fu (fu (fu (fu (fu (fu f 2 (nI (cN c ι + 1))) (10 + 10 * cN c ι + 0) 2) (10 + 10 * cN c ι + 1) 3) (10 + 10 * cN c ι + 2) (-1)) (10 + 10 * cN c ι + 3) 0) (10 + 10 * cN c ι + 4) 0) (10 + 10 * cN c ι + 5) (-1)) (10 + 10 * cN c ι + 6) (-1)) (10 + 10 * cN c ι + 6) = -1 := by rw [fu_s]
  generalize fu (fu (fu (fu (fu (fu (fu (fu f 2 (nI (cN c ι + 1))) (10 + 10 * cN c ι + 0) 2) (10 + 10 * cN c ι + 1) 3) (10 + 10 * cN c ι + 2) (-1)) (10 + 10 * cN c ι + 3) 0) (10 + 10 * cN c ι + 4) 0) (10 + 10 * cN c ι + 5) (-1)) (10 + 10 * cN c ι + 6) (-1) = f' at hf f2 y0 y1 y2 y3 y4 y5 y6 ⊢
  obtain ⟨⟨o1, o2, o3, o4, o5, o6, o7, o8⟩, ht, hN, hG, hC, hH, hW⟩ := h
  have b1 := o1.2
  have b2 := o2.2
  have b3 := o3.2
  have b4 := o4.2
  have b5 := o5.2
  have cg : wI c' 0 ι 0 4 0 = wI c 0 ι 0 4 0 := hI 0 4 0 (by omega) (by omega)
  have ck : wI c' 0 ι 0 6 0 = wI c 0 ι 0 6 0 := hI 0 6 0 (by omega) (by omega)
  have ch : wI c' 0 ι 4 0 0 = wI c 0 ι 4 0 0 := hI 4 0 0 (by omega) (by omega)
  have cw : wI c' 0 ι 9 0 0 = wI c 0 ι 9 0 0 := hI 9 0 0 (by omega) (by omega)
  have eN : cN c ι ≤ cN c' ι := by
    show cN c ι ≤ nz (wI c' 0 ι 0 2 0)
    rw [h2]
    unfold nz
    rw [nI_clamp (by omega)]
    omega
  refine ⟨⟨by rw [h2]; exact ct_nI hlt (by decide), by rw [cg]; exact o2, by rw [ck]; exact o3, by rw [ch]; exact o4, by rw [cw]; exact o5, fun g hg => ?_, fun k hk => ?_, fun i hi => ?_⟩, ?_, fun n hn => ?_, fun g hg => ?_, fun k hk => ?_, fun i hi => ?_, fun k hk => ?_⟩
  · rw [cg] at hg
    rw [hI 14 1 g (by omega) (by omega), hI 14 2 g (by omega) (by omega), hI 14 3 g (by omega) (by omega)]
    exact o6 g hg
  · rw [ck] at hk
    rw [hI 15 1 k (by omega) (by omega), hI 15 2 k (by omega) (by omega)]
    exact o7 k hk
  · rw [ch] at hi
    rw [hI 6 0 i (by omega) (by omega)]
    exact o8 i hi
  · unfold RT at ht ⊢
    rw [h2, cg, ck, ch, cw, hI 0 1 0 (by omega) (by omega), hL 0 0 0 (by omega), hf 0 (by omega), hf 1 (by omega), f2, hf 3 (by omega), hf 4 (by omega), hf 5 (by omega), hf 6 (by omega), hf 7 (by omega)]
    obtain ⟨t1, t2, t3, t4, t5, t6, t7, t8, t9, t10⟩ := ht
    exact ⟨t1, t2, rfl, t4, t5, t6, t7, t8, t9, t10⟩
  · unfold cN at hn
    rw [h2] at hn
    have hn2 : n < cN c ι + 1 := by unfold nz at hn; rw [nI_clamp (by unfold cN; omega)] at hn; exact hn
    by_cases e : n = cN c ι
    · subst e
      unfold RN
      rw [x0, x1, x2, x3, x4, x5, y0, y1, y2, y4, y5, y6]
      exact ⟨rfl, rfl, rfl, rfl, rfl, rfl, ⟨by decide, by decide⟩, ⟨by decide, by decide⟩, ⟨by decide, by decide⟩, ⟨by decide, by rw [i0]; omega⟩, ⟨by decide, by decide⟩, ⟨by decide, by decide⟩⟩
    · exact RN_cg (by omega) (fun k => hI 13 k n (by omega) (by omega)) (fun k => hL 13 k n (by omega)) (fun j hj => hf _ (by omega)) (hN n (by omega))
  · unfold cG at hg
    rw [cg] at hg
    have o := (hG g hg).2.2.2.2.2.2.2
    exact RG_cg eN (fun k => hI 14 k g (by omega) (by omega)) (fun k => hL 14 k g (by omega)) (fun j hj => hf _ (by omega)) (hf 0 (by omega)) (fun z => by rw [hf _ (by omega)]; exact z) (hG g hg)
  · unfold cK at hk
    rw [ck] at hk
    exact RK_cg eN (fun j => hI 15 j k (by omega) (by omega)) (fun j hj => hf _ (by omega)) (hC k hk)
  · unfold cH at hi
    rw [ch] at hi
    exact RH_cg eN (fun r h1 h2 => hI r 0 i (by omega) (by omega)) (hL 7 0 i (by omega)) (fun j h1 h2 => hf j (by omega)) (hf 0 (by omega)) (by rw [hf 7 (by omega)]; exact Int32.le_refl _) (hH i hi)
  · unfold cW at hk
    rw [cw] at hk
    exact RW_cg (fun r h1 h2 => hI r 0 k (by omega) (by omega)) (fun j hj => hf _ (by omega)) (hW k hk)

theorem Rel_achk {K : Nat} {c : wdT} {ι : Nat} {f : Nat → Int32} {kd ck' dt lm : Int32} (h : Rel K c ι f) (hlt : cK c ι < 20) (hkd : rg kd 0 1) (hlm : rg lm 0 1000) (v1 : vn ck' 24) (v2 : vn dt 24) (m1 : nz ck' < cN c ι) (m2 : nz dt < cN c ι) : Rel (K) (acW c ι (cK c ι) kd ck' dt lm) ι (fu (fu (fu (fu (fu (fu f (1300 + 5 * cK c ι) kd) (1300 + 5 * cK c ι + 1) ck') (1300 + 5 * cK c ι + 2) dt) (1300 + 5 * cK c ι + 3) lm) (1300 + 5 * cK c ι + 4) 0) 5 (nI (cK c ι + 1))) := by
  have hI : ∀ r k i, ¬ (r = 0 ∧ k = 6) → ¬ (r = 15 ∧ i = cK c ι) → wI (acW c ι (cK c ι) kd ck' dt lm) 0 ι r k i = wI c 0 ι r k i := fun r k i z z2 => by unfold acW bcW; simp only [rd_II]; rw [if_neg (by omega), if_neg (by omega), if_neg (by omega), if_neg (by omega), if_neg (by omega), if_neg (by omega)]
  have hL : ∀ r k i, ¬ (r = 99) → wL (acW c ι (cK c ι) kd ck' dt lm) 0 ι r k i = wL c 0 ι r k i := fun r k i z => rfl
  have h6 : wI (acW c ι (cK c ι) kd ck' dt lm) 0 ι 0 6 0 = nI (cK c ι + 1) := by unfold acW bcW; simp only [rd_II]; rw [if_pos (by simp)]
  have x0 : wI (acW c ι (cK c ι) kd ck' dt lm) 0 ι 15 0 (cK c ι) = kd := by unfold acW bcW; simp only [rd_II]; rw [if_neg (by omega), if_neg (by omega), if_neg (by omega), if_neg (by omega), if_neg (by omega), if_pos (by simp)]
  have x1 : wI (acW c ι (cK c ι) kd ck' dt lm) 0 ι 15 1 (cK c ι) = ck' := by unfold acW bcW; simp only [rd_II]; rw [if_neg (by omega), if_neg (by omega), if_neg (by omega), if_neg (by omega), if_pos (by simp)]
  have x2 : wI (acW c ι (cK c ι) kd ck' dt lm) 0 ι 15 2 (cK c ι) = dt := by unfold acW bcW; simp only [rd_II]; rw [if_neg (by omega), if_neg (by omega), if_neg (by omega), if_pos (by simp)]
  have x3 : wI (acW c ι (cK c ι) kd ck' dt lm) 0 ι 15 3 (cK c ι) = lm := by unfold acW bcW; simp only [rd_II]; rw [if_neg (by omega), if_neg (by omega), if_pos (by simp)]
  have x4 : wI (acW c ι (cK c ι) kd ck' dt lm) 0 ι 15 4 (cK c ι) = 0 := by unfold acW bcW; simp only [rd_II]; rw [if_neg (by omega), if_pos (by simp)]
  generalize acW c ι (cK c ι) kd ck' dt lm = c' at hI hL h6 x0 x1 x2 x3 x4 ⊢
  have hf : ∀ i, ¬ (i = 5 ∨ (1300 + 5 * cK c ι ≤ i ∧ i < 1305 + 5 * cK c ι)) → (fu (fu (fu (fu (fu (fu f (1300 + 5 * cK c ι) kd) (1300 + 5 * cK c ι + 1) ck') (1300 + 5 * cK c ι + 2) dt) (1300 + 5 * cK c ι + 3) lm) (1300 + 5 * cK c ι + 4) 0) 5 (nI (cK c ι + 1))) i = f i := fun i z => by rw [fu_n (by omega), fu_n (by omega), fu_n (by omega), fu_n (by omega), fu_n (by omega), fu_n (by omega)]
  have f5 : (fu (fu (fu (fu (fu (fu f (1300 + 5 * cK c ι) kd) (1300 + 5 * cK c ι + 1) ck') (1300 + 5 * cK c ι + 2) dt) (1300 + 5 * cK c ι + 3) lm) (1300 + 5 * cK c ι + 4) 0) 5 (nI (cK c ι + 1))) 5 = nI (cK c ι + 1) := fu_s _ _ _
  have y0 : (fu (fu (fu (fu (fu (fu f (1300 + 5 * cK c ι) kd) (1300 + 5 * cK c ι + 1) ck') (1300 + 5 * cK c ι + 2) dt) (1300 + 5 * cK c ι + 3) lm) (1300 + 5 * cK c ι + 4) 0) 5 (nI (cK c ι + 1))) (1300 + 5 * cK c ι + 0) = kd := by rw [fu_n (by omega), fu_n (by omega), fu_n (by omega), fu_n (by omega), fu_n (by omega)]; exact fu_s _ _ _
  have y1 : (fu (fu (fu (fu (fu (fu f (1300 + 5 * cK c ι) kd) (1300 + 5 * cK c ι + 1) ck') (1300 + 5 * cK c ι + 2) dt) (1300 + 5 * cK c ι + 3) lm) (1300 + 5 * cK c ι + 4) 0) 5 (nI (cK c ι + 1))) (1300 + 5 * cK c ι + 1) = ck' := by rw [fu_n (by omega), fu_n (by omega), fu_n (by omega), fu_n (by omega)]; exact fu_s _ _ _
  have y2 : (fu (fu (fu (fu (fu (fu f (1300 + 5 * cK c ι) kd) (1300 + 5 * cK c ι + 1) ck') (1300 + 5 * cK c ι + 2) dt) (1300 + 5 * cK c ι + 3) lm) (1300 + 5 * cK c ι + 4) 0) 5 (nI (cK c ι + 1))) (1300 + 5 * cK c ι + 2) = dt := by rw [fu_n (by omega), fu_n (by omega), fu_n (by omega)]; exact fu_s _ _ _
  have y3 : (fu (fu (fu (fu (fu (fu f (1300 + 5 * cK c ι) kd) (1300 + 5 * cK c ι + 1) ck') (1300 + 5 * cK c ι + 2) dt) (1300 + 5 * cK c ι + 3) lm) (1300 + 5 * cK c ι + 4) 0) 5 (nI (cK c ι + 1))) (1300 + 5 * cK c ι + 3) = lm := by rw [fu_n (by omega), fu_n (by omega)]; exact fu_s _ _ _
  have y4 : (fu (fu (fu (fu (fu (fu f (1300 + 5 * cK c ι) kd) (1300 + 5 * cK c ι + 1) ck') (1300 + 5 * cK c ι + 2) dt) (1300 + 5 * cK c ι + 3) lm) (1300 + 5 * cK c ι + 4) 0) 5 (nI (cK c ι + 1))) (1300 + 5 * cK c ι + 4) = 0 := by rw [fu_n (by omega)]; exact fu_s _ _ _
  generalize fu (fu (fu (fu (fu (fu f (1300 + 5 * cK c ι) kd) (1300 + 5 * cK c ι + 1) ck') (1300 + 5 * cK c ι + 2) dt) (1300 + 5 * cK c ι + 3) lm) (1300 + 5 * cK c ι + 4) 0) 5 (nI (cK c ι + 1)) = f' at hf f5 y0 y1 y2 y3 y4 ⊢
  obtain ⟨⟨o1, o2, o3, o4, o5, o6, o7, o8⟩, ht, hN, hG, hC, hH, hW⟩ := h
  have b1 := o1.2
  have b2 := o2.2
  have b3 := o3.2
  have b4 := o4.2
  have b5 := o5.2
  have cn : wI c' 0 ι 0 2 0 = wI c 0 ι 0 2 0 := hI 0 2 0 (by omega) (by omega)
  have cg : wI c' 0 ι 0 4 0 = wI c 0 ι 0 4 0 := hI 0 4 0 (by omega) (by omega)
  have ch : wI c' 0 ι 4 0 0 = wI c 0 ι 4 0 0 := hI 4 0 0 (by omega) (by omega)
  have cw : wI c' 0 ι 9 0 0 = wI c 0 ι 9 0 0 := hI 9 0 0 (by omega) (by omega)
  have eN : cN c ι ≤ cN c' ι := by unfold cN; rw [cn]; exact Nat.le_refl _
  refine ⟨⟨by rw [cn]; exact o1, by rw [cg]; exact o2, by rw [h6]; exact ct_nI hlt (by decide), by rw [ch]; exact o4, by rw [cw]; exact o5, fun g hg => ?_, fun k hk => ?_, fun i hi => ?_⟩, ?_, fun n hn => ?_, fun g hg => ?_, fun k hk => ?_, fun i hi => ?_, fun k hk => ?_⟩
  · rw [cg] at hg
    rw [hI 14 1 g (by omega) (by omega), hI 14 2 g (by omega) (by omega), hI 14 3 g (by omega) (by omega)]
    exact o6 g hg
  · rw [h6] at hk
    have hk2 : k < cK c ι + 1 := by unfold nz at hk; rw [nI_clamp (by unfold cK; omega)] at hk; exact hk
    by_cases e : k = cK c ι
    · subst e
      rw [x1, x2]
      exact ⟨v1, v2⟩
    · rw [hI 15 1 k (by omega) (by omega), hI 15 2 k (by omega) (by omega)]
      exact o7 k (by unfold cK at hk2 e; omega)
  · rw [ch] at hi
    rw [hI 6 0 i (by omega) (by omega)]
    exact o8 i hi
  · unfold RT at ht ⊢
    rw [cn, cg, h6, ch, cw, hI 0 1 0 (by omega) (by omega), hL 0 0 0 (by omega), hf 0 (by omega), hf 1 (by omega), hf 2 (by omega), hf 3 (by omega), hf 4 (by omega), f5, hf 6 (by omega), hf 7 (by omega)]
    obtain ⟨t1, t2, t3, t4, t5, t6, t7, t8, t9, t10⟩ := ht
    exact ⟨t1, t2, t3, t4, t5, rfl, t7, t8, t9, t10⟩
  · unfold cN at hn
    rw [cn] at hn
    exact RN_cg (by omega) (fun k => hI 13 k n (by omega) (by omega)) (fun k => hL 13 k n (by omega)) (fun j hj => hf _ (by omega)) (hN n hn)
  · unfold cG at hg
    rw [cg] at hg
    have o := (o6 g hg).2.2.2
    exact RG_cg eN (fun k => hI 14 k g (by omega) (by omega)) (fun k => hL 14 k g (by omega)) (fun j hj => hf _ (by omega)) (hf 0 (by omega)) (fun z => by rw [hf _ (by unfold nz; omega)]; exact z) (hG g hg)
  · unfold cK at hk
    rw [h6] at hk
    have hk2 : k < cK c ι + 1 := by unfold nz at hk; rw [nI_clamp (by unfold cK; omega)] at hk; exact hk
    by_cases e : k = cK c ι
    · subst e
      unfold RK
      unfold cN
      rw [cn, x0, x1, x2, x3, x4, y0, y1, y2, y3, y4]
      exact ⟨rfl, rfl, rfl, rfl, rfl, hkd, hlm, m1, m2⟩
    · exact RK_cg eN (fun j => hI 15 j k (by omega) (by omega)) (fun j hj => hf _ (by omega)) (hC k (by omega))
  · unfold cH at hi
    rw [ch] at hi
    exact RH_cg eN (fun r h1 h2 => hI r 0 i (by omega) (by omega)) (hL 7 0 i (by omega)) (fun j h1 h2 => hf j (by omega)) (hf 0 (by omega)) (by rw [hf 7 (by omega)]; exact Int32.le_refl _) (hH i hi)
  · unfold cW at hk
    rw [cw] at hk
    exact RW_cg (fun r h1 h2 => hI r 0 k (by omega) (by omega)) (fun j hj => hf _ (by omega)) (hW k hk)

theorem Rel_agate {K : Nat} {c : wdT} {ι : Nat} {f : Nat → Int32} {kd a b o : Int32} (h : Rel K c ι f) (hlt : cG c ι < 32) (v1 : vn a 24) (v2 : vn b 24) (v3 : vn o 24) (m1 : nz a < cN c ι) (m2 : nz b < cN c ι) (m3 : nz o < cN c ι) : Rel (K) (ag0 c ι (cG c ι) kd a b o) ι (fu (fu (fu (fu (fu (fu (fu (fu (fu (fu (fu (fu (fu f 3 (nI (cG c ι + 1))) (250 + 14 * cG c ι + 0) kd) (250 + 14 * cG c ι + 1) a) (250 + 14 * cG c ι + 2) b) (250 + 14 * cG c ι + 3) o) (250 + 14 * cG c ι + 4) 1) (250 + 14 * cG c ι + 5) 1) (250 + 14 * cG c ι + 6) (if kd = 5 then 3 else 2)) (250 + 14 * cG c ι + 7) (-1)) (250 + 14 * cG c ι + 8) 0) (250 + 14 * cG c ι + 9) (-1)) (250 + 14 * cG c ι + 10) 0) (10 + 10 * nz o + 3) 1) := by
  have hz := v3.2
  have hnz : nz o < 24 := v3.2
  have hI : ∀ r k i, ¬ (r = 0 ∧ k = 4) → ¬ (r = 14 ∧ i = cG c ι) → wI (ag0 c ι (cG c ι) kd a b o) 0 ι r k i = wI c 0 ι r k i := fun r k i z z2 => by unfold ag0 bgW; simp only [rd_II]; rw [if_neg (by omega), if_neg (by omega), if_neg (by omega), if_neg (by omega), if_neg (by omega), if_neg (by omega), if_neg (by omega), if_neg (by omega), if_neg (by omega), if_neg (by omega)]
  have hL : ∀ r k i, ¬ (r = 99) → wL (ag0 c ι (cG c ι) kd a b o) 0 ι r k i = wL c 0 ι r k i := fun r k i z => rfl
  have h4 : wI (ag0 c ι (cG c ι) kd a b o) 0 ι 0 4 0 = nI (cG c ι + 1) := by unfold ag0 bgW; simp only [rd_II]; rw [if_pos (by simp)]
  have x0 : wI (ag0 c ι (cG c ι) kd a b o) 0 ι 14 0 (cG c ι) = kd := by unfold ag0 bgW; simp only [rd_II]; rw [if_neg (by omega), if_neg (by omega), if_neg (by omega), if_neg (by omega), if_neg (by omega), if_neg (by omega), if_neg (by omega), if_neg (by omega), if_neg (by omega), if_pos (by simp)]
  have x1 : wI (ag0 c ι (cG c ι) kd a b o) 0 ι 14 1 (cG c ι) = a := by unfold ag0 bgW; simp only [rd_II]; rw [if_neg (by omega), if_neg (by omega), if_neg (by omega), if_neg (by omega), if_neg (by omega), if_neg (by omega), if_neg (by omega), if_neg (by omega), if_pos (by simp)]
  have x2 : wI (ag0 c ι (cG c ι) kd a b o) 0 ι 14 2 (cG c ι) = b := by unfold ag0 bgW; simp only [rd_II]; rw [if_neg (by omega), if_neg (by omega), if_neg (by omega), if_neg (by omega), if_neg (by omega), if_neg (by omega), if_neg (by omega), if_pos (by simp)]
  have x3 : wI (ag0 c ι (cG c ι) kd a b o) 0 ι 14 3 (cG c ι) = o := by unfold ag0 bgW; simp only [rd_II]; rw [if_neg (by omega), if_neg (by omega), if_neg (by omega), if_neg (by omega), if_neg (by omega), if_neg (by omega), if_pos (by simp)]
  have x4 : wI (ag0 c ι (cG c ι) kd a b o) 0 ι 14 4 (cG c ι) = 1 := by unfold ag0 bgW; simp only [rd_II]; rw [if_neg (by omega), if_neg (by omega), if_neg (by omega), if_neg (by omega), if_neg (by omega), if_pos (by simp)]
  have x5 : wI (ag0 c ι (cG c ι) kd a b o) 0 ι 14 5 (cG c ι) = 1 := by unfold ag0 bgW; simp only [rd_II]; rw [if_neg (by omega), if_neg (by omega), if_neg (by omega), if_neg (by omega), if_pos (by simp)]
  have x6 : wI (ag0 c ι (cG c ι) kd a b o) 0 ι 14 6 (cG c ι) = (if kd = 5 then 3 else 2) := by unfold ag0 bgW; simp only [rd_II]; rw [if_neg (by omega), if_neg (by omega), if_neg (by omega), if_pos (by simp)]
  have x7 : wI (ag0 c ι (cG c ι) kd a b o) 0 ι 14 7 (cG c ι) = (-1) := by unfold ag0 bgW; simp only [rd_II]; rw [if_neg (by omega), if_neg (by omega), if_pos (by simp)]
  have x9 : wI (ag0 c ι (cG c ι) kd a b o) 0 ι 14 9 (cG c ι) = (-1) := by unfold ag0 bgW; simp only [rd_II]; rw [if_neg (by omega), if_pos (by simp)]
  generalize ag0 c ι (cG c ι) kd a b o = c' at hI hL h4 x0 x1 x2 x3 x4 x5 x6 x7 x9 ⊢
  have hf : ∀ i, ¬ (i = 3 ∨ i = 10 + 10 * nz o + 3 ∨ (250 + 14 * cG c ι ≤ i ∧ i < 264 + 14 * cG c ι)) → (fu (fu (fu (fu (fu (fu (fu (fu (fu (fu (fu (fu (fu f 3 (nI (cG c ι + 1))) (250 + 14 * cG c ι + 0) kd) (250 + 14 * cG c ι + 1) a) (250 + 14 * cG c ι + 2) b) (250 + 14 * cG c ι + 3) o) (250 + 14 * cG c ι + 4) 1) (250 + 14 * cG c ι + 5) 1) (250 + 14 * cG c ι + 6) (if kd = 5 then 3 else 2)) (250 + 14 * cG c ι + 7) (-1)) (250 + 14 * cG c ι + 8) 0) (250 + 14 * cG c ι + 9) (-1)) (250 + 14 * cG c ι + 10) 0) (10 + 10 * nz o + 3) 1) i = f i := fun i z => by rw [fu_n (by omega), fu_n (by omega), fu_n (by omega), fu_n (by omega), fu_n (by omega), fu_n (by omega), fu_n (by omega), fu_n (by omega), fu_n (by omega), fu_n (by omega), fu_n (by omega), fu_n (by omega), fu_n (by omega)]
  have f3 : (fu (fu (fu (fu (fu (fu (fu (fu (fu (fu (fu (fu (fu f 3 (nI (cG c ι + 1))) (250 + 14 * cG c ι + 0) kd) (250 + 14 * cG c ι + 1) a) (250 + 14 * cG c ι + 2) b) (250 + 14 * cG c ι + 3) o) (250 + 14 * cG c ι + 4) 1) (250 + 14 * cG c ι + 5) 1) (250 + 14 * cG c ι + 6) (if kd = 5 then 3 else 2)) (250 + 14 * cG c ι + 7) (-1)) (250 + 14 * cG c ι + 8) 0) (250 + 14 * cG c ι + 9) (-1)) (250 + 14 * cG c ι + 10) 0) (10 + 10 * nz o + 3) 1) 3 = nI (cG c ι + 1) := by rw [fu_n (by omega), fu_n (by omega), fu_n (by omega), fu_n (by omega), fu_n (by omega), fu_n (by omega), fu_n (by omega), fu_n (by omega), fu_n (by omega), fu_n (by omega), fu_n (by omega), fu_n (by omega), fu_s]
  have fo : (fu (fu (fu (fu (fu (fu (fu (fu (fu (fu (fu (fu (fu f 3 (nI (cG c ι + 1))) (250 + 14 * cG c ι + 0) kd) (250 + 14 * cG c ι + 1) a) (250 + 14 * cG c ι + 2) b) (250 + 14 * cG c ι + 3) o) (250 + 14 * cG c ι + 4) 1) (250 + 14 * cG c ι + 5) 1) (250 + 14 * cG c ι + 6) (if kd = 5 then 3 else 2)) (250 + 14 * cG c ι + 7) (-1)) (250 + 14 * cG c ι + 8) 0) (250 + 14 * cG c ι + 9) (-1)) (250 + 14 * cG c ι + 10) 0) (10 + 10 * nz o + 3) 1) (10 + 10 * nz o + 3) = 1 := fu_s _ _ _
  have y0 : (fu (fu (fu (fu (fu (fu (fu (fu (fu (fu (fu (fu (fu f 3 (nI (cG c ι + 1))) (250 + 14 * cG c ι + 0) kd) (250 + 14 * cG c ι + 1) a) (250 + 14 * cG c ι + 2) b) (250 + 14 * cG c ι + 3) o) (250 + 14 * cG c ι + 4) 1) (250 + 14 * cG c ι + 5) 1) (250 + 14 * cG c ι + 6) (if kd = 5 then 3 else 2)) (250 + 14 * cG c ι + 7) (-1)) (250 + 14 * cG c ι + 8) 0) (250 + 14 * cG c ι + 9) (-1)) (250 + 14 * cG c ι + 10) 0) (10 + 10 * nz o + 3) 1) (250 + 14 * cG c ι + 0) = kd := by rw [fu_n (by omega), fu_n (by omega), fu_n (by omega), fu_n (by omega), fu_n (by omega), fu_n (by omega), fu_n (by omega), fu_n (by omega), fu_n (by omega), fu_n (by omega), fu_n (by omega)]; exact fu_s _ _ _
  have y1 : (fu (fu (fu (fu (fu (fu (fu (fu (fu (fu (fu (fu (fu f 3 (nI (cG c ι + 1))) (250 + 14 * cG c ι + 0) kd) (250 + 14 * cG c ι + 1) a) (250 + 14 * cG c ι + 2) b) (250 + 14 * cG c ι + 3) o) (250 + 14 * cG c ι + 4) 1) (250 + 14 * cG c ι + 5) 1) (250 + 14 * cG c ι + 6) (if kd = 5 then 3 else 2)) (250 + 14 * cG c ι + 7) (-1)) (250 + 14 * cG c ι + 8) 0) (250 + 14 * cG c ι + 9) (-1)) (250 + 14 * cG c ι + 10) 0) (10 + 10 * nz o + 3) 1) (250 + 14 * cG c ι + 1) = a := by rw [fu_n (by omega), fu_n (by omega), fu_n (by omega), fu_n (by omega), fu_n (by omega), fu_n (by omega), fu_n (by omega), fu_n (by omega), fu_n (by omega), fu_n (by omega)]; exact fu_s _ _ _
  have y2 : (fu (fu (fu (fu (fu (fu (fu (fu (fu (fu (fu (fu (fu f 3 (nI (cG c ι + 1))) (250 + 14 * cG c ι + 0) kd) (250 + 14 * cG c ι + 1) a) (250 + 14 * cG c ι + 2) b) (250 + 14 * cG c ι + 3) o) (250 + 14 * cG c ι + 4) 1) (250 + 14 * cG c ι + 5) 1) (250 + 14 * cG c ι + 6) (if kd = 5 then 3 else 2)) (250 + 14 * cG c ι + 7) (-1)) (250 + 14 * cG c ι + 8) 0) (250 + 14 * cG c ι + 9) (-1)) (250 + 14 * cG c ι + 10) 0) (10 + 10 * nz o + 3) 1) (250 + 14 * cG c ι + 2) = b := by rw [fu_n (by omega), fu_n (by omega), fu_n (by omega), fu_n (by omega), fu_n (by omega), fu_n (by omega), fu_n (by omega), fu_n (by omega), fu_n (by omega)]; exact fu_s _ _ _
  have y3 : (fu (fu (fu (fu (fu (fu (fu (fu (fu (fu (fu (fu (fu f 3 (nI (cG c ι + 1))) (250 + 14 * cG c ι + 0) kd) (250 + 14 * cG c ι + 1) a) (250 + 14 * cG c ι + 2) b) (250 + 14 * cG c ι + 3) o) (250 + 14 * cG c ι + 4) 1) (250 + 14 * cG c ι + 5) 1) (250 + 14 * cG c ι + 6) (if kd = 5 then 3 else 2)) (250 + 14 * cG c ι + 7) (-1)) (250 + 14 * cG c ι + 8) 0) (250 + 14 * cG c ι + 9) (-1)) (250 + 14 * cG c ι + 10) 0) (10 + 10 * nz o + 3) 1) (250 + 14 * cG c ι + 3) = o := by rw [fu_n (by omega), fu_n (by omega), fu_n (by omega), fu_n (by omega), fu_n (by omega), fu_n (by omega), fu_n (by omega), fu_n (by omega)]; exact fu_s _ _ _
  have y4 : (fu (fu (fu (fu (fu (fu (fu (fu (fu (fu (fu (fu (fu f 3 (nI (cG c ι + 1))) (250 + 14 * cG c ι + 0) kd) (250 + 14 * cG c ι + 1) a) (250 + 14 * cG c ι + 2) b) (250 + 14 * cG c ι + 3) o) (250 + 14 * cG c ι + 4) 1) (250 + 14 * cG c ι + 5) 1) (250 + 14 * cG c ι + 6) (if kd = 5 then 3 else 2)) (250 + 14 * cG c ι + 7) (-1)) (250 + 14 * cG c ι + 8) 0) (250 + 14 * cG c ι + 9) (-1)) (250 + 14 * cG c ι + 10) 0) (10 + 10 * nz o + 3) 1) (250 + 14 * cG c ι + 4) = 1 := by rw [fu_n (by omega), fu_n (by omega), fu_n (by omega), fu_n (by omega), fu_n (by omega), fu_n (by omega), fu_n (by omega)]; exact fu_s _ _ _
  have y5 : (fu (fu (fu (fu (fu (fu (fu (fu (fu (fu (fu (fu (fu f 3 (nI (cG c ι + 1))) (250 + 14 * cG c ι + 0) kd) (250 + 14 * cG c ι + 1) a) (250 + 14 * cG c ι + 2) b) (250 + 14 * cG c ι + 3) o) (250 + 14 * cG c ι + 4) 1) (250 + 14 * cG c ι + 5) 1) (250 + 14 * cG c ι + 6) (if kd = 5 then 3 else 2)) (250 + 14 * cG c ι + 7) (-1)) (250 + 14 * cG c ι + 8) 0) (250 + 14 * cG c ι + 9) (-1)) (250 + 14 * cG c ι + 10) 0) (10 + 10 * nz o + 3) 1) (250 + 14 * cG c ι + 5) = 1 := by rw [fu_n (by omega), fu_n (by omega), fu_n (by omega), fu_n (by omega), fu_n (by omega), fu_n (by omega)]; exact fu_s _ _ _
  have y6 : (fu (fu (fu (fu (fu (fu (fu (fu (fu (fu (fu (fu (fu f 3 (nI (cG c ι + 1))) (250 + 14 * cG c ι + 0) kd) (250 + 14 * cG c ι + 1) a) (250 + 14 * cG c ι + 2) b) (250 + 14 * cG c ι + 3) o) (250 + 14 * cG c ι + 4) 1) (250 + 14 * cG c ι + 5) 1) (250 + 14 * cG c ι + 6) (if kd = 5 then 3 else 2)) (250 + 14 * cG c ι + 7) (-1)) (250 + 14 * cG c ι + 8) 0) (250 + 14 * cG c ι + 9) (-1)) (250 + 14 * cG c ι + 10) 0) (10 + 10 * nz o + 3) 1) (250 + 14 * cG c ι + 6) = (if kd = 5 then 3 else 2) := by rw [fu_n (by omega), fu_n (by omega), fu_n (by omega), fu_n (by omega), fu_n (by omega)]; exact fu_s _ _ _
  have y7 : (fu (fu (fu (fu (fu (fu (fu (fu (fu (fu (fu (fu (fu f 3 (nI (cG c ι + 1))) (250 + 14 * cG c ι + 0) kd) (250 + 14 * cG c ι + 1) a) (250 + 14 * cG c ι + 2) b) (250 + 14 * cG c ι + 3) o) (250 + 14 * cG c ι + 4) 1) (250 + 14 * cG c ι + 5) 1) (250 + 14 * cG c ι + 6) (if kd = 5 then 3 else 2)) (250 + 14 * cG c ι + 7) (-1)) (250 + 14 * cG c ι + 8) 0) (250 + 14 * cG c ι + 9) (-1)) (250 + 14 * cG c ι + 10) 0) (10 + 10 * nz o + 3) 1) (250 + 14 * cG c ι + 7) = (-1) := by rw [fu_n (by omega), fu_n (by omega), fu_n (by omega), fu_n (by omega)]; exact fu_s _ _ _
  have y9 : (fu (fu (fu (fu (fu (fu (fu (fu (fu (fu (fu (fu (fu f 3 (nI (cG c ι + 1))) (250 + 14 * cG c ι + 0) kd) (250 + 14 * cG c ι + 1) a) (250 + 14 * cG c ι + 2) b) (250 + 14 * cG c ι + 3) o) (250 + 14 * cG c ι + 4) 1) (250 + 14 * cG c ι + 5) 1) (250 + 14 * cG c ι + 6) (if kd = 5 then 3 else 2)) (250 + 14 * cG c ι + 7) (-1)) (250 + 14 * cG c ι + 8) 0) (250 + 14 * cG c ι + 9) (-1)) (250 + 14 * cG c ι + 10) 0) (10 + 10 * nz o + 3) 1) (250 + 14 * cG c ι + 9) = (-1) := by rw [fu_n (by omega), fu_n (by omega)]; exact fu_s _ _ _
  generalize fu (fu (fu (fu (fu (fu (fu (fu (fu (fu (fu (fu (fu f 3 (nI (cG c ι + 1))) (250 + 14 * cG c ι + 0) kd) (250 + 14 * cG c ι + 1) a) (250 + 14 * cG c ι + 2) b) (250 + 14 * cG c ι + 3) o) (250 + 14 * cG c ι + 4) 1) (250 + 14 * cG c ι + 5) 1) (250 + 14 * cG c ι + 6) (if kd = 5 then 3 else 2)) (250 + 14 * cG c ι + 7) (-1)) (250 + 14 * cG c ι + 8) 0) (250 + 14 * cG c ι + 9) (-1)) (250 + 14 * cG c ι + 10) 0) (10 + 10 * nz o + 3) 1 = f' at hf f3 fo y0 y1 y2 y3 y4 y5 y6 y7 y9 ⊢
  obtain ⟨⟨o1, o2, o3, o4, o5, o6, o7, o8⟩, ht, hN, hG, hC, hH, hW⟩ := h
  have b1 := o1.2
  have b2 := o2.2
  have b3 := o3.2
  have b4 := o4.2
  have b5 := o5.2
  have cn : wI c' 0 ι 0 2 0 = wI c 0 ι 0 2 0 := hI 0 2 0 (by omega) (by omega)
  have ck : wI c' 0 ι 0 6 0 = wI c 0 ι 0 6 0 := hI 0 6 0 (by omega) (by omega)
  have ch : wI c' 0 ι 4 0 0 = wI c 0 ι 4 0 0 := hI 4 0 0 (by omega) (by omega)
  have cw : wI c' 0 ι 9 0 0 = wI c 0 ι 9 0 0 := hI 9 0 0 (by omega) (by omega)
  have eN : cN c ι ≤ cN c' ι := by unfold cN; rw [cn]; exact Nat.le_refl _
  refine ⟨⟨by rw [cn]; exact o1, by rw [h4]; exact ct_nI hlt (by decide), by rw [ck]; exact o3, by rw [ch]; exact o4, by rw [cw]; exact o5, fun g hg => ?_, fun k hk => ?_, fun i hi => ?_⟩, ?_, fun n hn => ?_, fun g hg => ?_, fun k hk => ?_, fun i hi => ?_, fun k hk => ?_⟩
  · rw [h4] at hg
    have hg2 : g < cG c ι + 1 := by unfold nz at hg; rw [nI_clamp (by unfold cG; omega)] at hg; exact hg
    by_cases e : g = cG c ι
    · subst e
      rw [x1, x2, x3]
      exact ⟨v1, v2, v3⟩
    · rw [hI 14 1 g (by omega) (by omega), hI 14 2 g (by omega) (by omega), hI 14 3 g (by omega) (by omega)]
      exact o6 g (by unfold cG at hg2 e; omega)
  · rw [ck] at hk
    rw [hI 15 1 k (by omega) (by omega), hI 15 2 k (by omega) (by omega)]
    exact o7 k hk
  · rw [ch] at hi
    rw [hI 6 0 i (by omega) (by omega)]
    exact o8 i hi
  · unfold RT at ht ⊢
    rw [cn, h4, ck, ch, cw, hI 0 1 0 (by omega) (by omega), hL 0 0 0 (by omega), hf 0 (by omega), hf 1 (by omega), hf 2 (by omega), f3, hf 4 (by omega), hf 5 (by omega), hf 6 (by omega), hf 7 (by omega)]
    obtain ⟨t1, t2, t3, t4, t5, t6, t7, t8, t9, t10⟩ := ht
    exact ⟨t1, t2, t3, rfl, t5, t6, t7, t8, t9, t10⟩
  · unfold cN at hn
    rw [cn] at hn
    have q := hN n hn
    unfold RN at q ⊢
    rw [hI 13 0 n (by omega) (by omega), hI 13 1 n (by omega) (by omega), hI 13 2 n (by omega) (by omega), hL 13 3 n (by omega), hL 13 4 n (by omega), hL 13 5 n (by omega), hf (10 + 10 * n + 0) (by omega), hf (10 + 10 * n + 1) (by omega), hf (10 + 10 * n + 2) (by omega), hf (10 + 10 * n + 4) (by omega), hf (10 + 10 * n + 5) (by omega), hf (10 + 10 * n + 6) (by omega)]
    exact q
  · unfold cG at hg
    rw [h4] at hg
    have hg2 : g < cG c ι + 1 := by unfold nz at hg; rw [nI_clamp (by unfold cG; omega)] at hg; exact hg
    by_cases e : g = cG c ι
    · subst e
      unfold RG
      unfold cN
      rw [cn, x0, x1, x2, x3, x4, x5, x6, x7, x9, y0, y1, y2, y3, y4, y5, y6, y7, y9, fo]
      refine ⟨⟨rfl, rfl, rfl, rfl, rfl, rfl, rfl, rfl, rfl⟩, ⟨⟨by decide, by decide⟩, ⟨by decide, by decide⟩, ?_, ⟨by decide, by decide⟩, ⟨by decide, by decide⟩⟩, fun z => absurd rfl z, fun z => absurd rfl z, rfl, m1, m2, m3⟩
      split
      · exact ⟨by decide, by decide⟩
      · exact ⟨by decide, by decide⟩
    · have hgo := o6 g (by unfold cG at hg2 e; omega)
      have oo := hgo.2.2.2
      refine RG_cg eN (fun k => hI 14 k g (by omega) (by omega)) (fun k => hL 14 k g (by omega)) (fun j hj => hf _ (by omega)) (hf 0 (by omega)) (fun z => ?_) (hG g (by omega))
      by_cases e2 : nz (wI c 0 ι 14 3 g) = nz o
      · rw [e2]
        exact fo
      · rw [hf _ (by unfold nz at e2 hnz ⊢; omega)]
        exact z
  · unfold cK at hk
    rw [ck] at hk
    exact RK_cg eN (fun j => hI 15 j k (by omega) (by omega)) (fun j hj => hf _ (by omega)) (hC k hk)
  · unfold cH at hi
    rw [ch] at hi
    exact RH_cg eN (fun r h1 h2 => hI r 0 i (by omega) (by omega)) (hL 7 0 i (by omega)) (fun j h1 h2 => hf j (by omega)) (hf 0 (by omega)) (by rw [hf 7 (by omega)]; exact Int32.le_refl _) (hH i hi)
  · unfold cW at hk
    rw [cw] at hk
    exact RW_cg (fun r h1 h2 => hI r 0 k (by omega) (by omega)) (fun j hj => hf _ (by omega)) (hW k hk)
