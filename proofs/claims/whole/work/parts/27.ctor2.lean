/-- a circuit under construction, without its nets, gates and checks -/
def caP (E : gE) (O : Nat → Option va_E) (a : Nat) : Nat → Option va_E := ovs (ovs (ovs (ovs (ovs (ovs (ovs (ovs (ovs (ovs (ovs (ovs (ovs (O) (a) (.inr (1, [.long 0, .int 0, .int 0, .ref (a + 1), .int 0, .ref (a + 2), .int 0, .ref (a + 3), .ref (a + 4), .ref (a + 9)]))) (a + 1) (aR E 2 24)) (a + 2) (aR E 3 32)) (a + 3) (aR E 4 20)) (a + 4) (.inr (5, [.int 0, .ref (a + 4 + 1), .ref (a + 4 + 2), .ref (a + 4 + 3), .ref (a + 4 + 4)]))) (a + 5) (aI E 100)) (a + 6) (aI E 100)) (a + 7) (aL E 100)) (a + 8) (aI E 100)) (a + 9) (.inr (6, [.int 0, .ref (a + 9 + 1), .ref (a + 9 + 2), .ref (a + 9 + 3)]))) (a + 10) (aI E 600)) (a + 11) (aI E 600)) (a + 12) (aI E 600)
theorem caP_0 (E : gE) (O : Nat → Option va_E) (a : Nat) : caP E O a (a + 0) = some (.inr (1, [.long 0, .int 0, .int 0, .ref (a + 1), .int 0, .ref (a + 2), .int 0, .ref (a + 3), .ref (a + 4), .ref (a + 9)])) := ((ovs_ne _ _ (by omega)).trans ((ovs_ne _ _ (by omega)).trans ((ovs_ne _ _ (by omega)).trans ((ovs_ne _ _ (by omega)).trans ((ovs_ne _ _ (by omega)).trans ((ovs_ne _ _ (by omega)).trans ((ovs_ne _ _ (by omega)).trans ((ovs_ne _ _ (by omega)).trans ((ovs_ne _ _ (by omega)).trans ((ovs_ne _ _ (by omega)).trans ((ovs_ne _ _ (by omega)).trans ((ovs_ne _ _ (by omega)).trans (ovs_same _ _ _)))))))))))))
theorem caP_1 (E : gE) (O : Nat → Option va_E) (a : Nat) : caP E O a (a + 1) = some (aR E 2 24) := ((ovs_ne _ _ (by omega)).trans ((ovs_ne _ _ (by omega)).trans ((ovs_ne _ _ (by omega)).trans ((ovs_ne _ _ (by omega)).trans ((ovs_ne _ _ (by omega)).trans ((ovs_ne _ _ (by omega)).trans ((ovs_ne _ _ (by omega)).trans ((ovs_ne _ _ (by omega)).trans ((ovs_ne _ _ (by omega)).trans ((ovs_ne _ _ (by omega)).trans ((ovs_ne _ _ (by omega)).trans (ovs_same _ _ _))))))))))))
theorem caP_2 (E : gE) (O : Nat → Option va_E) (a : Nat) : caP E O a (a + 2) = some (aR E 3 32) := ((ovs_ne _ _ (by omega)).trans ((ovs_ne _ _ (by omega)).trans ((ovs_ne _ _ (by omega)).trans ((ovs_ne _ _ (by omega)).trans ((ovs_ne _ _ (by omega)).trans ((ovs_ne _ _ (by omega)).trans ((ovs_ne _ _ (by omega)).trans ((ovs_ne _ _ (by omega)).trans ((ovs_ne _ _ (by omega)).trans ((ovs_ne _ _ (by omega)).trans (ovs_same _ _ _)))))))))))
theorem caP_3 (E : gE) (O : Nat → Option va_E) (a : Nat) : caP E O a (a + 3) = some (aR E 4 20) := ((ovs_ne _ _ (by omega)).trans ((ovs_ne _ _ (by omega)).trans ((ovs_ne _ _ (by omega)).trans ((ovs_ne _ _ (by omega)).trans ((ovs_ne _ _ (by omega)).trans ((ovs_ne _ _ (by omega)).trans ((ovs_ne _ _ (by omega)).trans ((ovs_ne _ _ (by omega)).trans ((ovs_ne _ _ (by omega)).trans (ovs_same _ _ _))))))))))
theorem caP_4 (E : gE) (O : Nat → Option va_E) (a : Nat) : caP E O a (a + 4) = some (.inr (5, [.int 0, .ref (a + 4 + 1), .ref (a + 4 + 2), .ref (a + 4 + 3), .ref (a + 4 + 4)])) := ((ovs_ne _ _ (by omega)).trans ((ovs_ne _ _ (by omega)).trans ((ovs_ne _ _ (by omega)).trans ((ovs_ne _ _ (by omega)).trans ((ovs_ne _ _ (by omega)).trans ((ovs_ne _ _ (by omega)).trans ((ovs_ne _ _ (by omega)).trans ((ovs_ne _ _ (by omega)).trans (ovs_same _ _ _)))))))))
theorem caP_5 (E : gE) (O : Nat → Option va_E) (a : Nat) : caP E O a (a + 5) = some (aI E 100) := ((ovs_ne _ _ (by omega)).trans ((ovs_ne _ _ (by omega)).trans ((ovs_ne _ _ (by omega)).trans ((ovs_ne _ _ (by omega)).trans ((ovs_ne _ _ (by omega)).trans ((ovs_ne _ _ (by omega)).trans ((ovs_ne _ _ (by omega)).trans (ovs_same _ _ _))))))))
theorem caP_6 (E : gE) (O : Nat → Option va_E) (a : Nat) : caP E O a (a + 6) = some (aI E 100) := ((ovs_ne _ _ (by omega)).trans ((ovs_ne _ _ (by omega)).trans ((ovs_ne _ _ (by omega)).trans ((ovs_ne _ _ (by omega)).trans ((ovs_ne _ _ (by omega)).trans ((ovs_ne _ _ (by omega)).trans (ovs_same _ _ _)))))))
theorem caP_7 (E : gE) (O : Nat → Option va_E) (a : Nat) : caP E O a (a + 7) = some (aL E 100) := ((ovs_ne _ _ (by omega)).trans ((ovs_ne _ _ (by omega)).trans ((ovs_ne _ _ (by omega)).trans ((ovs_ne _ _ (by omega)).trans ((ovs_ne _ _ (by omega)).trans (ovs_same _ _ _))))))
theorem caP_8 (E : gE) (O : Nat → Option va_E) (a : Nat) : caP E O a (a + 8) = some (aI E 100) := ((ovs_ne _ _ (by omega)).trans ((ovs_ne _ _ (by omega)).trans ((ovs_ne _ _ (by omega)).trans ((ovs_ne _ _ (by omega)).trans (ovs_same _ _ _)))))
theorem caP_9 (E : gE) (O : Nat → Option va_E) (a : Nat) : caP E O a (a + 9) = some (.inr (6, [.int 0, .ref (a + 9 + 1), .ref (a + 9 + 2), .ref (a + 9 + 3)])) := ((ovs_ne _ _ (by omega)).trans ((ovs_ne _ _ (by omega)).trans ((ovs_ne _ _ (by omega)).trans (ovs_same _ _ _))))
theorem caP_10 (E : gE) (O : Nat → Option va_E) (a : Nat) : caP E O a (a + 10) = some (aI E 600) := ((ovs_ne _ _ (by omega)).trans ((ovs_ne _ _ (by omega)).trans (ovs_same _ _ _)))
theorem caP_11 (E : gE) (O : Nat → Option va_E) (a : Nat) : caP E O a (a + 11) = some (aI E 600) := ((ovs_ne _ _ (by omega)).trans (ovs_same _ _ _))
theorem caP_12 (E : gE) (O : Nat → Option va_E) (a : Nat) : caP E O a (a + 12) = some (aI E 600) := (ovs_same _ _ _)
theorem caP_lt (E : gE) (O : Nat → Option va_E) {a q : Nat} (h : q < a) : caP E O a q = O q := by
  unfold caP
  iterate 13 rw [ovs_ne _ _ (by omega)]
/-- .. with i of the objects at b, whose references the array at ar has -/
def lpO (E : gE) (P : Nat → Option va_E) (ar b : Nat) (e : va_E) (t n i : Nat) : Nat → Option va_E := fun q =>
  if q = ar then some (.inl (aty E t, n, .inr (.inr (.inr (.inr (fun x => if x < i then some (b + x) else none)))))) else if b ≤ q ∧ q < b + i then some e else P q
theorem lpO_ar (E : gE) (P : Nat → Option va_E) (ar b : Nat) (e : va_E) (t n i : Nat) : lpO E P ar b e t n i ar = some (.inl (aty E t, n, .inr (.inr (.inr (.inr (fun x => if x < i then some (b + x) else none)))))) := if_pos rfl
theorem lpO_b (E : gE) (P : Nat → Option va_E) {ar b : Nat} (e : va_E) (t n i : Nat) {q : Nat} (h : q ≠ ar) (h2 : b ≤ q ∧ q < b + i) : lpO E P ar b e t n i q = some e := by
  unfold lpO
  rw [if_neg h, if_pos h2]
theorem lpO_P (E : gE) (P : Nat → Option va_E) {ar b : Nat} (e : va_E) (t n i : Nat) {q : Nat} (h : q ≠ ar) (h2 : ¬ (b ≤ q ∧ q < b + i)) : lpO E P ar b e t n i q = P q := by
  unfold lpO
  rw [if_neg h, if_neg h2]
theorem va_up_lp (b i : Nat) : va_up (fun x => if x < i then some (b + x) else none) i (some (b + i)) = fun x => if x < i + 1 then some (b + x) else none := by
  funext x
  unfold va_up
  by_cases h : x = i
  · subst h
    simp
  · by_cases h2 : x < i
    · simp [h, h2, show x < i + 1 by omega]
    · simp [h, h2, show ¬ x < i + 1 by omega]
/-- one object more -/
theorem lp_next {E : gE} {P : Nat → Option va_E} {ar b : Nat} {e : va_E} {t n i : Nat} (h : ar < b) : ∀ q x, lpO E P ar b e t n (i + 1) q = some x → ovs (ovs (lpO E P ar b e t n i) (b + i) e) ar (.inl (aty E t, n, .inr (.inr (.inr (.inr (va_up (fun x => if x < i then some (b + x) else none) i (some (b + i)))))))) q = some x := by
  intro q x hq
  rw [va_up_lp]
  unfold lpO at hq
  by_cases h1 : q = ar
  · subst h1
    rw [if_pos rfl] at hq
    rw [ovs_same]
    exact hq
  · rw [if_neg h1] at hq
    rw [ovs_ne _ _ h1]
    by_cases h2 : q = b + i
    · subst h2
      rw [if_pos (by omega)] at hq
      rw [ovs_same]
      exact hq
    · rw [ovs_ne _ _ h2]
      unfold lpO
      rw [if_neg h1]
      by_cases h3 : b ≤ q ∧ q < b + i
      · rw [if_pos h3]
        rw [if_pos (by omega)] at hq
        exact hq
      · rw [if_neg h3]
        rw [if_neg (by omega)] at hq
        exact hq
theorem lp_0 {E : gE} {P : Nat → Option va_E} {ar b : Nat} {e : va_E} {t n : Nat} (h : P ar = some (aR E t n)) : ∀ q x, lpO E P ar b e t n 0 q = some x → P q = some x := by
  intro q x hq
  unfold lpO at hq
  by_cases h1 : q = ar
  · subst h1
    rw [if_pos rfl] at hq
    rw [h, ← hq]
    rfl
  · rw [if_neg h1, if_neg (by omega)] at hq
    exact hq
theorem go_kn {F : gT} {pc : Nat} {lv : lvT} {st : List Value} {G : Heap → Prop} {k n k' n' : Nat} (hk : k' = k) (hn : n' = n) (kk : Go F pc lv st G k' n') : Go F pc lv st G k n := by
  subst hk
  subst hn
  exact kk
abbrev ne0 : va_E := .inr (2, [.int 0, .int 0, .int 0, .long 0, .long 0, .long 0])
abbrev ga0 : va_E := .inr (3, [.int 0, .int 0, .int 0, .int 0, .int 0, .int 0, .int 0, .int 0, .long 0, .int 0, .long 0])
abbrev ch0 : va_E := .inr (4, [.int 0, .int 0, .int 0, .int 0, .int 0])
def ca1 (E : gE) (O : Nat → Option va_E) (a i : Nat) : Nat → Option va_E := lpO E (caP E O a) (a + 1) (a + 13) ne0 2 24 i
def ca2 (E : gE) (O : Nat → Option va_E) (a i : Nat) : Nat → Option va_E := lpO E (ca1 E O a 24) (a + 2) (a + 37) ga0 3 32 i
def ca3 (E : gE) (O : Nat → Option va_E) (a i : Nat) : Nat → Option va_E := lpO E (ca2 E O a 32) (a + 3) (a + 69) ch0 4 20 i
/-- the zero world of a new block -/
def zW (w : wdT) (κ ι : Nat) : wdT := (fun κ' ι' r k i => if κ' = κ ∧ ι' = ι then 0 else wI w κ' ι' r k i, fun κ' ι' r k i => if κ' = κ ∧ ι' = ι then 0 else wL w κ' ι' r k i, fun κ' ι' r k i => if κ' = κ ∧ ι' = ι then none else wP w κ' ι' r k i)
theorem zW_I (w : wdT) (κ ι r k i : Nat) : wI (zW w κ ι) κ ι r k i = 0 := if_pos ⟨rfl, rfl⟩
theorem zW_L (w : wdT) (κ ι r k i : Nat) : wL (zW w κ ι) κ ι r k i = 0 := if_pos ⟨rfl, rfl⟩
theorem zW_P (w : wdT) (κ ι r k i : Nat) : wP (zW w κ ι) κ ι r k i = none := if_pos ⟨rfl, rfl⟩
theorem zW_In {w : wdT} {κ ι κ' ι' r k i : Nat} (h : ¬ (κ' = κ ∧ ι' = ι)) : wI (zW w κ ι) κ' ι' r k i = wI w κ' ι' r k i := if_neg h
theorem zW_Ln {w : wdT} {κ ι κ' ι' r k i : Nat} (h : ¬ (κ' = κ ∧ ι' = ι)) : wL (zW w κ ι) κ' ι' r k i = wL w κ' ι' r k i := if_neg h
theorem zW_Pn {w : wdT} {κ ι κ' ι' r k i : Nat} (h : ¬ (κ' = κ ∧ ι' = ι)) : wP (zW w κ ι) κ' ι' r k i = wP w κ' ι' r k i := if_neg h
theorem fvs_congM {B B' : bsT} {w w' : wdT} {κ ι r i : Nat} : ∀ (fs : List kdT) (k : Nat), (∀ (k : Nat) (c : kdT), c ∈ fs → fv B' w' κ ι r i k c = fv B w κ ι r i k c) → fvs B' w' κ ι r i k fs = fvs B w κ ι r i k fs
  | [], _, _ => rfl
  | c :: t, k, h => by
    simp only [fvs]
    rw [h k c List.mem_cons_self, fvs_congM t (k + 1) (fun k c hc => h k c (List.mem_cons_of_mem _ hc))]
/-- fixed references stay in the block, but for the EventWaves object's own -/
theorem sch_ref (κ r : Nat) (g : rgT) (h : (sch κ)[r]? = some g) (ci : Nat) (fs : List kdT) (hb : g.2.2 = .inl (ci, fs)) : ∀ c ∈ fs, c.2.2 = 0 ∨ (κ = 1 ∧ (c.2.2 = 2 ∨ c.2.2 = 4)) := by
  have hm := List.mem_of_getElem? h
  have key : ∀ κ, κ < 5 → ∀ g ∈ sch κ, ∀ ci fs, g.2.2 = .inl (ci, fs) → ∀ c ∈ fs, c.2.2 = 0 ∨ (κ = 1 ∧ (c.2.2 = 2 ∨ c.2.2 = 4)) := by
    intro κ hκ g hg
    have hall : (sch κ).all (fun g => match g.2.2 with | .inl o => o.2.all (fun c => c.2.2 == 0 || (κ == 1 && (c.2.2 == 2 || c.2.2 == 4))) | .inr _ => true) = true := by
      match κ, hκ with
      | 0, _ => decide
      | 1, _ => decide
      | 2, _ => decide
      | 3, _ => decide
      | 4, _ => decide
    have h1 := List.all_eq_true.mp hall g hg
    intro ci fs hb c hc
    rw [hb] at h1
    have h2 := List.all_eq_true.mp h1 c hc
    simpa using h2
  rcases Nat.lt_or_ge κ 5 with h5 | h5
  · exact key κ h5 g hm ci fs hb
  · obtain ⟨n, rfl⟩ : ∃ n, κ = n + 5 := ⟨κ - 5, by omega⟩
    exact absurd hm (by simp [sch])
/-- what stands already doesn't hear of a new block -/
theorem cel_old {E : gE} {B : bsT} {w : wdT} {κ ι a κ' ι' r i : Nat} {g : rgT} (hr : (sch κ')[r]? = some g) (hn : ¬ (κ' = κ ∧ ι' = ι)) (hx : κ' = 1 → ¬ (ι = 0 ∧ (κ = 0 ∨ κ = 2))) : cel E (upB B κ ι a) (zW w κ ι) κ' ι' r g.2.2 i = cel E B w κ' ι' r g.2.2 i := by
  have had : ∀ r i, ad (upB B κ ι a) κ' ι' r i = ad B κ' ι' r i := fun r i => by unfold ad; rw [upB_ne _ _ hn]
  cases hb : g.2.2 with
  | inl o =>
    obtain ⟨ci, fs⟩ := o
    have hc := sch_ref κ' r g hr ci fs hb
    unfold cel
    simp only
    rw [fvs_congM (B := B) (B' := upB B κ ι a) (w := w) (w' := zW w κ ι) fs 0 (fun k c hm => ?_)]
    unfold fv
    split
    · rw [zW_In hn]
    · rw [zW_Ln hn]
    · rw [zW_Pn hn]
    · unfold tgt
      rcases hc c hm with h0 | ⟨h1, h2 | h2⟩
      · rw [h0]
        simp only [had]
      · rw [h2]
        show Value.ref (ad (upB B κ ι a) 0 0 c.2.1 0) = Value.ref (ad B 0 0 c.2.1 0)
        unfold ad
        rw [upB_ne _ _ (fun z => hx h1 ⟨z.2.symm, Or.inl z.1.symm⟩)]
      · rw [h2]
        show Value.ref (ad (upB B κ ι a) 2 0 c.2.1 0) = Value.ref (ad B 2 0 c.2.1 0)
        unfold ad
        rw [upB_ne _ _ (fun z => hx h1 ⟨z.2.symm, Or.inr z.1.symm⟩)]
  | inr o =>
    unfold cel avs
    simp only
    split
    · simp only [zW_In hn]
    · simp only [zW_Ln hn]
    · simp only [zW_Pn hn]
    · simp only [had]
theorem arrV_cg {cA : ClassId} {n : Nat} {f g : Nat → Value} (h : ∀ j, j < n → f j = g j) : arrV cA n f = arrV cA n g := by
  unfold arrV
  congr 1
  apply Array.ext
  · simp
  · intro j h1 h2
    simp only [Array.getElem_ofFn]
    simp at h1
    exact h j h1
theorem ca3_lo (E : gE) (O : Nat → Option va_E) (a : Nat) {q : Nat} (h1 : q ≠ a + 1) (h2 : q ≠ a + 2) (h3 : q ≠ a + 3) (h4 : q < a + 13) : ca3 E O a 20 q = caP E O a q :=
  (lpO_P _ _ _ _ _ _ h3 (by omega)).trans ((lpO_P _ _ _ _ _ _ h2 (by omega)).trans (lpO_P _ _ _ _ _ _ h1 (by omega)))
theorem ca3_1 (E : gE) (O : Nat → Option va_E) (a : Nat) : ca3 E O a 20 (a + 1) = some (.inl (aty E 2, 24, .inr (.inr (.inr (.inr (fun x => if x < 24 then some (a + 13 + x) else none)))))) :=
  (lpO_P _ _ _ _ _ _ (by omega) (by omega)).trans ((lpO_P _ _ _ _ _ _ (by omega) (by omega)).trans (lpO_ar _ _ _ _ _ _ _ _))
theorem ca3_2 (E : gE) (O : Nat → Option va_E) (a : Nat) : ca3 E O a 20 (a + 2) = some (.inl (aty E 3, 32, .inr (.inr (.inr (.inr (fun x => if x < 32 then some (a + 37 + x) else none)))))) :=
  (lpO_P _ _ _ _ _ _ (by omega) (by omega)).trans (lpO_ar _ _ _ _ _ _ _ _)
theorem ca3_3 (E : gE) (O : Nat → Option va_E) (a : Nat) : ca3 E O a 20 (a + 3) = some (.inl (aty E 4, 20, .inr (.inr (.inr (.inr (fun x => if x < 20 then some (a + 69 + x) else none)))))) := lpO_ar _ _ _ _ _ _ _ _
theorem ca3_n (E : gE) (O : Nat → Option va_E) (a : Nat) {i : Nat} (h : i < 24) : ca3 E O a 20 (a + 13 + i) = some ne0 :=
  (lpO_P _ _ _ _ _ _ (by omega) (by omega)).trans ((lpO_P _ _ _ _ _ _ (by omega) (by omega)).trans (lpO_b _ _ _ _ _ _ (by omega) (by omega)))
theorem ca3_g (E : gE) (O : Nat → Option va_E) (a : Nat) {i : Nat} (h : i < 32) : ca3 E O a 20 (a + 37 + i) = some ga0 :=
  (lpO_P _ _ _ _ _ _ (by omega) (by omega)).trans (lpO_b _ _ _ _ _ _ (by omega) (by omega))
theorem ca3_c (E : gE) (O : Nat → Option va_E) (a : Nat) {i : Nat} (h : i < 20) : ca3 E O a 20 (a + 69 + i) = some ch0 := lpO_b _ _ _ _ _ _ (by omega) (by omega)
theorem va_arr {E : gE} {q t n : Nat} {f g : Nat → Option Nat} {H : Heap} (h : ∀ j, j < n → f j = g j) (hv : va_at E.1 vwCl (q, .inl (aty E t, n, .inr (.inr (.inr (.inr f))))) H) : va_at E.1 vwCl (q, .inl (aty E t, n, .inr (.inr (.inr (.inr g))))) H := by
  have h1 : H[q]? = some (vp_cell (aty E t) (n, .inr (.inr (.inr (.inr f))))) := hv
  show H[q]? = some (vp_cell (aty E t) (n, .inr (.inr (.inr (.inr g)))))
  rw [h1, vp_cell_q, vp_cell_q]
  exact congrArg some (arrV_cg (fun j hj => by rw [h j hj]))
theorem va_eqq {E : gE} {q : Nat} {e e' : va_E} (h : e = e') : ∀ H, va_at E.1 vwCl (q, e) H → va_at E.1 vwCl (q, e') H := fun H hv => by rw [← h]; exact hv
set_option maxHeartbeats 4000000 in
/-- a finished circuit -/
theorem ca_commit {E : gE} {B : bsT} {on : Nat → Nat → Bool} {O : Nat → Option va_E} {a ι : Nat} {w : wdT} {H : Heap} (hg : gw E B (on, ca3 E O a 20, a + 89) w H) (h5 : ∀ κ' ι', on κ' ι' = true → 0 < bln κ') (hoff : on 0 ι = false) (hx : ∀ ι', on 1 ι' = true → ¬ ι = 0) (hO : ∀ q, a ≤ q → O q = none) :
    gw E (upB B 0 ι a) (upN on 0 ι, O, a + 89) (zW w 0 ι) H := by
  have hae : E.2.2.size ≤ a := (hg.2.2.2.1 a _ ((ca3_lo E O a (by omega) (by omega) (by omega) (by omega)).trans (caP_0 E O a))).1
  refine gw_commit (N := (on, ca3 E O a 20, a + 89)) hg h5 hoff hae (by decide) ?_ ?_ ?_ ?_
  · intro d hd
    show ∃ e, ca3 E O a 20 (a + d) = some e
    have hd : d < 89 := hd
    by_cases h1 : d < 13
    · by_cases e1 : d = 1
      · subst e1; exact ⟨_, ca3_1 E O a⟩
      · by_cases e2 : d = 2
        · subst e2; exact ⟨_, ca3_2 E O a⟩
        · by_cases e3 : d = 3
          · subst e3; exact ⟨_, ca3_3 E O a⟩
          · rw [ca3_lo E O a (by omega) (by omega) (by omega) (by omega)]
            match d, h1 with
            | 0, _ => exact ⟨_, caP_0 E O a⟩
            | 1, _ => exact ⟨_, caP_1 E O a⟩
            | 2, _ => exact ⟨_, caP_2 E O a⟩
            | 3, _ => exact ⟨_, caP_3 E O a⟩
            | 4, _ => exact ⟨_, caP_4 E O a⟩
            | 5, _ => exact ⟨_, caP_5 E O a⟩
            | 6, _ => exact ⟨_, caP_6 E O a⟩
            | 7, _ => exact ⟨_, caP_7 E O a⟩
            | 8, _ => exact ⟨_, caP_8 E O a⟩
            | 9, _ => exact ⟨_, caP_9 E O a⟩
            | 10, _ => exact ⟨_, caP_10 E O a⟩
            | 11, _ => exact ⟨_, caP_11 E O a⟩
            | 12, _ => exact ⟨_, caP_12 E O a⟩
            | d + 13, h => exact absurd h (by omega)
    · by_cases h2 : d < 37
      · obtain ⟨i, rfl⟩ : ∃ i, d = 13 + i := ⟨d - 13, by omega⟩
        exact ⟨_, by rw [← Nat.add_assoc]; exact ca3_n E O a (by omega)⟩
      · by_cases h3 : d < 69
        · obtain ⟨i, rfl⟩ : ∃ i, d = 37 + i := ⟨d - 37, by omega⟩
          exact ⟨_, by rw [← Nat.add_assoc]; exact ca3_g E O a (by omega)⟩
        · obtain ⟨i, rfl⟩ : ∃ i, d = 69 + i := ⟨d - 69, by omega⟩
          exact ⟨_, by rw [← Nat.add_assoc]; exact ca3_c E O a (by omega)⟩
  · intro r g i hr hi
    have had : ∀ r i, ad (upB B 0 ι a) 0 ι r i = a + rof 0 r + i := fun r i => by unfold ad; rw [upB_same]
    match r, hr with
    | 0, hr =>
      cases hr
      have hi0 : i = 0 := by have hi : i < 1 := hi; omega
      subst hi0
      refine ⟨_, (ca3_lo E O a (by simp) (by simp) (by simp) (by simp)).trans (caP_0 E O a), va_eqq ?_⟩
      simp only [cel, fvs, fv, avs, tgt, had, zW_I, zW_L]
      rfl
    | 1, hr =>
      cases hr
      have hi0 : i = 0 := by have hi : i < 1 := hi; omega
      subst hi0
      refine ⟨_, ca3_1 E O a, fun H hv => va_arr (fun j hj => ?_) hv⟩
      rw [if_pos hj, had]
      rfl
    | 2, hr =>
      cases hr
      have hi0 : i = 0 := by have hi : i < 1 := hi; omega
      subst hi0
      refine ⟨_, ca3_2 E O a, fun H hv => va_arr (fun j hj => ?_) hv⟩
      rw [if_pos hj, had]
      rfl
    | 3, hr =>
      cases hr
      have hi0 : i = 0 := by have hi : i < 1 := hi; omega
      subst hi0
      refine ⟨_, ca3_3 E O a, fun H hv => va_arr (fun j hj => ?_) hv⟩
      rw [if_pos hj, had]
      rfl
    | 4, hr =>
      cases hr
      have hi0 : i = 0 := by have hi : i < 1 := hi; omega
      subst hi0
      refine ⟨_, (ca3_lo E O a (by simp) (by simp) (by simp) (by simp)).trans (caP_4 E O a), va_eqq ?_⟩
      simp only [cel, fvs, fv, avs, tgt, had, zW_I, zW_L]
      rfl
    | 5, hr =>
      cases hr
      have hi0 : i = 0 := by have hi : i < 1 := hi; omega
      subst hi0
      refine ⟨_, (ca3_lo E O a (by simp) (by simp) (by simp) (by simp)).trans (caP_5 E O a), va_eqq ?_⟩
      simp only [cel, fvs, fv, avs, tgt, had, zW_I, zW_L]
    | 6, hr =>
      cases hr
      have hi0 : i = 0 := by have hi : i < 1 := hi; omega
      subst hi0
      refine ⟨_, (ca3_lo E O a (by simp) (by simp) (by simp) (by simp)).trans (caP_6 E O a), va_eqq ?_⟩
      simp only [cel, fvs, fv, avs, tgt, had, zW_I, zW_L]
    | 7, hr =>
      cases hr
      have hi0 : i = 0 := by have hi : i < 1 := hi; omega
      subst hi0
      refine ⟨_, (ca3_lo E O a (by simp) (by simp) (by simp) (by simp)).trans (caP_7 E O a), va_eqq ?_⟩
      simp only [cel, fvs, fv, avs, tgt, had, zW_I, zW_L]
    | 8, hr =>
      cases hr
      have hi0 : i = 0 := by have hi : i < 1 := hi; omega
      subst hi0
      refine ⟨_, (ca3_lo E O a (by simp) (by simp) (by simp) (by simp)).trans (caP_8 E O a), va_eqq ?_⟩
      simp only [cel, fvs, fv, avs, tgt, had, zW_I, zW_L]
    | 9, hr =>
      cases hr
      have hi0 : i = 0 := by have hi : i < 1 := hi; omega
      subst hi0
      refine ⟨_, (ca3_lo E O a (by simp) (by simp) (by simp) (by simp)).trans (caP_9 E O a), va_eqq ?_⟩
      simp only [cel, fvs, fv, avs, tgt, had, zW_I, zW_L]
      rfl
    | 10, hr =>
      cases hr
      have hi0 : i = 0 := by have hi : i < 1 := hi; omega
      subst hi0
      refine ⟨_, (ca3_lo E O a (by simp) (by simp) (by simp) (by simp)).trans (caP_10 E O a), va_eqq ?_⟩
      simp only [cel, fvs, fv, avs, tgt, had, zW_I, zW_L]
    | 11, hr =>
      cases hr
      have hi0 : i = 0 := by have hi : i < 1 := hi; omega
      subst hi0
      refine ⟨_, (ca3_lo E O a (by simp) (by simp) (by simp) (by simp)).trans (caP_11 E O a), va_eqq ?_⟩
      simp only [cel, fvs, fv, avs, tgt, had, zW_I, zW_L]
    | 12, hr =>
      cases hr
      have hi0 : i = 0 := by have hi : i < 1 := hi; omega
      subst hi0
      refine ⟨_, (ca3_lo E O a (by simp) (by simp) (by simp) (by simp)).trans (caP_12 E O a), va_eqq ?_⟩
      simp only [cel, fvs, fv, avs, tgt, had, zW_I, zW_L]
    | 13, hr =>
      cases hr
      refine ⟨_, ca3_n E O a hi, va_eqq ?_⟩
      simp only [cel, fvs, fv, zW_I, zW_L]
    | 14, hr =>
      cases hr
      refine ⟨_, ca3_g E O a hi, va_eqq ?_⟩
      simp only [cel, fvs, fv, zW_I, zW_L]
    | 15, hr =>
      cases hr
      refine ⟨_, ca3_c E O a hi, va_eqq ?_⟩
      simp only [cel, fvs, fv, zW_I, zW_L]
    | r + 16, hr => exact absurd hr (by simp [sch])
  · intro κ' ι' r g i h hr hi
    exact cel_old hr (fun z => by rw [z.1, z.2] at h; exact absurd (h.symm.trans hoff) (by decide)) (fun h1 z => by subst h1; exact hx ι' h z.1)
  · intro q e hq
    have hlt : q < a := Nat.lt_of_not_le (fun z => by rw [hO q z] at hq; cases hq)
    refine ⟨?_, by omega⟩
    show ca3 E O a 20 q = some e
    rw [ca3_lo E O a (by omega) (by omega) (by omega) (by omega), caP_lt E O hlt]
    exact hq
set_option maxHeartbeats 4000000 in
set_option maxRecDepth 100000 in
theorem con_Ci_init {l : Launch} (hlt : l.stackTraces = false) {E : gE} {B : bsT} {w : wdT} {on : Nat → Nat → Bool} {O : Nat → Option va_E} {a : Nat} {ι : Nat} (h5 : ∀ κ' ι', on κ' ι' = true → 0 < bln κ') (hoff : on 0 ι = false) (hx : ∀ ι', on 1 ι' = true → ¬ ι = 0) (hO : ∀ q, a ≤ q → O q = none) : Con l E y_Ci_init (Cond.code y_Ci_init c_Ci_init 2 none :: gAll) rm_Ci_init [.ref a] (gw E B (on, ovs (O) (a) (.inr (1, [.long 0, .int 0, .int 0, .null, .int 0, .null, .int 0, .null, .null, .null])), a + 1) w) (fun v H => v = none ∧ gw E (upB B 0 ι a) (upN on 0 ι, O, a + 89) (zW w 0 ι) H) (fun _ _ => False) 88 2881 := by
  refine con_of (by decide) hlt (Nat.le_of_ble_eq_true rfl) ?_
  intro F hF hM htab hnm hE hlo hl
  subst hl
  have hF : Fb F c_Ci_init R_Ci 2 rm_Ci_init := hF
  have hK := hE.1
  have hT := hE.2.1
  refine go_lv (lv' := [(0, _)]) ⟨rfl, trivial⟩ ?_
  have L114 : ∀ m i : Nat, i + m = 20 → Go F 114 [(0, .ref a), (1, .int (nI i))] [] (gw E B (on, ca3 E O a i, a + 69 + i) w) (68 + i) (2781 + 5 * i) := by
    intro m
    induction m using Nat.strongRecOn with
    | _ m ih =>
      intro i hm
      refine go_iload_n hF d_Ci_init_114 rfl ?_
      refine go_bipush (v := 20) hF d_Ci_init_115 (by decide) ?_
      refine go_icmp_ge (tgt := 139) hF d_Ci_init_117 (by decide) (fun h117 => ?_) (fun h117 => ?_)
      · have e : i = 20 := (by have := (nI_leI (a := 20) (b := i) (by omega) (by omega)).mp h117; omega)
        subst e
        exact go_vret hF hM d_Ci_init_139 (by decide) (by decide) (fun H hG => ⟨rfl, ca_commit hG h5 hoff hx hO⟩)
      · refine go_aload_n hF d_Ci_init_120 rfl ?_
        have hp2 : i < 20 := by
          have z : ¬ 20 ≤ i := fun z => h117 ((nI_leI (a := 20) (b := i) (by omega) (by omega)).mpr z)
          omega
        obtain ⟨f9, rfl⟩ : ∃ f9, m = f9 + 1 := ⟨m - 1, by omega⟩
        refine gs_getO (a := a) (N := (on, ca3 E O a i, a + 69 + i)) hF hK d_Ci_init_121 fl_Ci_29 ((lpO_P _ _ _ _ _ _ (by omega) (by omega)).trans ((lpO_P _ _ _ _ _ _ (by omega) (by omega)).trans ((lpO_P _ _ _ _ _ _ (by omega) (by omega)).trans (caP_0 E O a)))) rfl ?_
        refine go_iload_n hF d_Ci_init_124 rfl ?_
        refine gs_new (N := (on, ca3 E O a i, a + 69 + i)) hF hK d_Ci_init_125 nw_Ci_27 ⟨show 68 + i + 1 ≤ 88 by omega, show 2781 + 5 * i + 5 ≤ 2881 by omega⟩ ?_
        refine go_G (G' := gw E B (on, ovs (ca3 E O a i) (a + 69 + i) ch0, a + 69 + i + 1) w) (fun H hG => hG) ?_
        refine go_dup hF d_Ci_init_128 rfl ?_
        refine go_ctor hF hE hlo d_Ci_init_129 rfl (con_Ch_init (G := gw E B (on, ovs (ca3 E O a i) (a + 69 + i) ch0, a + 69 + i + 1) w) (a := a + 69 + i) hlt) mt_Ch_init mi_Ch_init (Or.inr ⟨_, ln_Ci_49⟩) ⟨rfl, rfl, by decide, by decide⟩ rfl (Nat.le_of_ble_eq_true rfl) ⟨show 68 + i + 1 + 0 ≤ 88 by omega, show 2781 + 5 * i + 5 + 0 ≤ 2881 by omega⟩ (fun M => gx_no) rfl (fun v => ?_)
        refine go_and (fun hv => ?_)
        subst hv
        refine gs_aastO (N := (on, ovs (ca3 E O a i) (a + 69 + i) ch0, a + 69 + i + 1)) (a := a + 3) (v := a + 69 + i) (t := 4) (n := 20) (ci := 4) (r := (R_Ch, T_Ch, 5)) (q := i) hF hK hT hlo d_Ci_init_132 ((ovs_ne _ _ (by omega)).trans (lpO_ar _ _ _ _ _ _ _ _)) rfl (ovs_same _ _ _) rfl rfl hp2 (by decide) ?_
        refine go_G (G' := gw E B (on, ca3 E O a (i + 1), a + 69 + (i + 1)) w) (fun H hG => gw_sub hG (lp_next (by omega))) ?_
        refine go_iincN hF d_Ci_init_133 rfl (by decide) ?_
        refine go_lv (lv' := [(0, _), (1, _)]) ⟨rfl, rfl, trivial⟩ ?_
        refine go_goto (tgt := 114) hF d_Ci_init_136 (by decide) ?_
        refine go_kn (k' := 68 + (i + 1)) (n' := 2781 + 5 * (i + 1)) (by omega) (by omega) ?_
        exact ih f9 (by omega) (i + 1) (by omega)
  have L87 : ∀ m i : Nat, i + m = 32 → Go F 87 [(0, .ref a), (1, .int (nI i))] [] (gw E B (on, ca2 E O a i, a + 37 + i) w) (36 + i) (2429 + 11 * i) := by
    intro m
    induction m using Nat.strongRecOn with
    | _ m ih =>
      intro i hm
      refine go_iload_n hF d_Ci_init_87 rfl ?_
      refine go_bipush (v := 32) hF d_Ci_init_88 (by decide) ?_
      refine go_icmp_ge (tgt := 112) hF d_Ci_init_90 (by decide) (fun h90 => ?_) (fun h90 => ?_)
      · refine go_iconst (v := 0) hF d_Ci_init_112 (by decide) ?_
        refine go_istore_n hF d_Ci_init_113 (by decide) ?_
        refine go_lv (lv' := [(0, _), (1, _)]) ⟨rfl, rfl, trivial⟩ ?_
        have e : i = 32 := (by have := (nI_leI (a := 32) (b := i) (by omega) (by omega)).mp h90; omega)
        subst e
        refine go_G (G' := gw E B (on, ca3 E O a 0, a + 69 + 0) w) (fun H hG => gw_sub (N := (on, ca2 E O a 32, a + 69)) hG (lp_0 ((lpO_P _ _ _ _ _ _ (by omega) (by omega)).trans ((lpO_P _ _ _ _ _ _ (by omega) (by omega)).trans (caP_3 E O a))))) ?_
        exact go_kn (by decide) (by decide) (L114 20 0 rfl)
      · refine go_aload_n hF d_Ci_init_93 rfl ?_
        have hp2 : i < 32 := by
          have z : ¬ 32 ≤ i := fun z => h90 ((nI_leI (a := 32) (b := i) (by omega) (by omega)).mpr z)
          omega
        obtain ⟨f9, rfl⟩ : ∃ f9, m = f9 + 1 := ⟨m - 1, by omega⟩
        refine gs_getO (a := a) (N := (on, ca2 E O a i, a + 37 + i)) hF hK d_Ci_init_94 fl_Ci_23 ((lpO_P _ _ _ _ _ _ (by omega) (by omega)).trans ((lpO_P _ _ _ _ _ _ (by omega) (by omega)).trans (caP_0 E O a))) rfl ?_
        refine go_iload_n hF d_Ci_init_97 rfl ?_
        refine gs_new (N := (on, ca2 E O a i, a + 37 + i)) hF hK d_Ci_init_98 nw_Ci_21 ⟨show 36 + i + 1 ≤ 88 by omega, show 2429 + 11 * i + 11 ≤ 2881 by omega⟩ ?_
        refine go_G (G' := gw E B (on, ovs (ca2 E O a i) (a + 37 + i) ga0, a + 37 + i + 1) w) (fun H hG => hG) ?_
        refine go_dup hF d_Ci_init_101 rfl ?_
        refine go_ctor hF hE hlo d_Ci_init_102 rfl (con_Ga_init (G := gw E B (on, ovs (ca2 E O a i) (a + 37 + i) ga0, a + 37 + i + 1) w) (a := a + 37 + i) hlt) mt_Ga_init mi_Ga_init (Or.inr ⟨_, ln_Ci_48⟩) ⟨rfl, rfl, by decide, by decide⟩ rfl (Nat.le_of_ble_eq_true rfl) ⟨show 36 + i + 1 + 0 ≤ 88 by omega, show 2429 + 11 * i + 11 + 0 ≤ 2881 by omega⟩ (fun M => gx_no) rfl (fun v => ?_)
        refine go_and (fun hv => ?_)
        subst hv
        refine gs_aastO (N := (on, ovs (ca2 E O a i) (a + 37 + i) ga0, a + 37 + i + 1)) (a := a + 2) (v := a + 37 + i) (t := 3) (n := 32) (ci := 3) (r := (R_Ga, T_Ga, 11)) (q := i) hF hK hT hlo d_Ci_init_105 ((ovs_ne _ _ (by omega)).trans (lpO_ar _ _ _ _ _ _ _ _)) rfl (ovs_same _ _ _) rfl rfl hp2 (by decide) ?_
        refine go_G (G' := gw E B (on, ca2 E O a (i + 1), a + 37 + (i + 1)) w) (fun H hG => gw_sub hG (lp_next (by omega))) ?_
        refine go_iincN hF d_Ci_init_106 rfl (by decide) ?_
        refine go_lv (lv' := [(0, _), (1, _)]) ⟨rfl, rfl, trivial⟩ ?_
        refine go_goto (tgt := 87) hF d_Ci_init_109 (by decide) ?_
        refine go_kn (k' := 36 + (i + 1)) (n' := 2429 + 11 * (i + 1)) (by omega) (by omega) ?_
        exact ih f9 (by omega) (i + 1) (by omega)
  have L60 : ∀ m i : Nat, i + m = 24 → Go F 60 [(0, .ref a), (1, .int (nI i))] [] (gw E B (on, ca1 E O a i, a + 13 + i) w) (12 + i) (2285 + 6 * i) := by
    intro m
    induction m using Nat.strongRecOn with
    | _ m ih =>
      intro i hm
      refine go_iload_n hF d_Ci_init_60 rfl ?_
      refine go_bipush (v := 24) hF d_Ci_init_61 (by decide) ?_
      refine go_icmp_ge (tgt := 85) hF d_Ci_init_63 (by decide) (fun h63 => ?_) (fun h63 => ?_)
      · refine go_iconst (v := 0) hF d_Ci_init_85 (by decide) ?_
        refine go_istore_n hF d_Ci_init_86 (by decide) ?_
        refine go_lv (lv' := [(0, _), (1, _)]) ⟨rfl, rfl, trivial⟩ ?_
        have e : i = 24 := (by have := (nI_leI (a := 24) (b := i) (by omega) (by omega)).mp h63; omega)
        subst e
        refine go_G (G' := gw E B (on, ca2 E O a 0, a + 37 + 0) w) (fun H hG => gw_sub (N := (on, ca1 E O a 24, a + 37)) hG (lp_0 ((lpO_P _ _ _ _ _ _ (by omega) (by omega)).trans (caP_2 E O a)))) ?_
        exact go_kn (by decide) (by decide) (L87 32 0 rfl)
      · refine go_aload_n hF d_Ci_init_66 rfl ?_
        have hp2 : i < 24 := by
          have z : ¬ 24 ≤ i := fun z => h63 ((nI_leI (a := 24) (b := i) (by omega) (by omega)).mpr z)
          omega
        obtain ⟨f9, rfl⟩ : ∃ f9, m = f9 + 1 := ⟨m - 1, by omega⟩
        refine gs_getO (a := a) (N := (on, ca1 E O a i, a + 13 + i)) hF hK d_Ci_init_67 fl_Ci_17 ((lpO_P _ _ _ _ _ _ (by omega) (by omega)).trans (caP_0 E O a)) rfl ?_
        refine go_iload_n hF d_Ci_init_70 rfl ?_
        refine gs_new (N := (on, ca1 E O a i, a + 13 + i)) hF hK d_Ci_init_71 nw_Ci_15 ⟨show 12 + i + 1 ≤ 88 by omega, show 2285 + 6 * i + 6 ≤ 2881 by omega⟩ ?_
        refine go_G (G' := gw E B (on, ovs (ca1 E O a i) (a + 13 + i) ne0, a + 13 + i + 1) w) (fun H hG => hG) ?_
        refine go_dup hF d_Ci_init_74 rfl ?_
        refine go_ctor hF hE hlo d_Ci_init_75 rfl (con_Ne_init (G := gw E B (on, ovs (ca1 E O a i) (a + 13 + i) ne0, a + 13 + i + 1) w) (a := a + 13 + i) hlt) mt_Ne_init mi_Ne_init (Or.inr ⟨_, ln_Ci_47⟩) ⟨rfl, rfl, by decide, by decide⟩ rfl (Nat.le_of_ble_eq_true rfl) ⟨show 12 + i + 1 + 0 ≤ 88 by omega, show 2285 + 6 * i + 6 + 0 ≤ 2881 by omega⟩ (fun M => gx_no) rfl (fun v => ?_)
        refine go_and (fun hv => ?_)
        subst hv
        refine gs_aastO (N := (on, ovs (ca1 E O a i) (a + 13 + i) ne0, a + 13 + i + 1)) (a := a + 1) (v := a + 13 + i) (t := 2) (n := 24) (ci := 2) (r := (R_Ne, T_Ne, 6)) (q := i) hF hK hT hlo d_Ci_init_78 ((ovs_ne _ _ (by omega)).trans (lpO_ar _ _ _ _ _ _ _ _)) rfl (ovs_same _ _ _) rfl rfl hp2 (by decide) ?_
        refine go_G (G' := gw E B (on, ca1 E O a (i + 1), a + 13 + (i + 1)) w) (fun H hG => gw_sub hG (lp_next (by omega))) ?_
        refine go_iincN hF d_Ci_init_79 rfl (by decide) ?_
        refine go_lv (lv' := [(0, _), (1, _)]) ⟨rfl, rfl, trivial⟩ ?_
        refine go_goto (tgt := 60) hF d_Ci_init_82 (by decide) ?_
        refine go_kn (k' := 12 + (i + 1)) (n' := 2285 + 6 * (i + 1)) (by omega) (by omega) ?_
        exact ih f9 (by omega) (i + 1) (by omega)
  refine go_aload_n hF d_Ci_init_0 rfl ?_
  refine go_objInit hF d_Ci_init_1 lo_Ci oi_1 oi_2 ⟨by decide, by decide⟩ ?_
  refine go_aload_n hF d_Ci_init_4 rfl ?_
  refine go_iconst (v := 0) hF d_Ci_init_5 (by decide) ?_
  refine gs_putO (N := (on, ovs (O) (a) (.inr (1, [.long 0, .int 0, .int 0, .null, .int 0, .null, .int 0, .null, .null, .null])), a + 1)) hF hK hlo d_Ci_init_6 fl_Ci_9 ct_Ci fs_Ci_1 rfl rfl (ovs_same _ _ _) (Nat.le_of_ble_eq_true rfl) ?_
  refine go_G (G' := gw E B (on, ovs (O) (a) (.inr (1, [.long 0, .int 0, .int 0, .null, .int 0, .null, .int 0, .null, .null, .null])), a + 1) w) (fun H hG => by rw [ovs_ovs] at hG; exact hG) ?_
  refine go_aload_n hF d_Ci_init_9 rfl ?_
  refine go_bipush (v := 24) hF d_Ci_init_10 (by decide) ?_
  refine gs_anew (N := (on, ovs (O) (a) (.inr (1, [.long 0, .int 0, .int 0, .null, .int 0, .null, .int 0, .null, .null, .null])), a + 1)) (t := 2) (C := "EventWaves$Net") hF hK hT d_Ci_init_12 (by decide) ⟨by decide, by decide⟩ rfl rfl cl_Ci_15 hE.2.2.2.2.2.2.1.1 ?_
  refine go_G (G' := gw E B (on, ovs (ovs (O) (a) (.inr (1, [.long 0, .int 0, .int 0, .null, .int 0, .null, .int 0, .null, .null, .null]))) (a + 1) (aR E 2 24), a + 2) w) (fun H hG => hG) ?_
  refine gs_putOF (N := (on, ovs (ovs (O) (a) (.inr (1, [.long 0, .int 0, .int 0, .null, .int 0, .null, .int 0, .null, .null, .null]))) (a + 1) (aR E 2 24), a + 2)) (v := .ref (a + 1)) hF hK hlo hnm d_Ci_init_15 fl_Ci_17 ct_Ci ff_Ci_3 rfl rfl ((ovs_ne _ _ (by omega)).trans (ovs_same _ _ _)) (Nat.le_of_ble_eq_true rfl) ?_
  refine go_G (G' := gw E B (on, ovs (ovs (O) (a) (.inr (1, [.long 0, .int 0, .int 0, .ref (a + 1), .int 0, .null, .int 0, .null, .null, .null]))) (a + 1) (aR E 2 24), a + 2) w) (fun H hG => by rw [ovs_comm (show a ≠ a + 1 by omega), ovs_ovs] at hG; exact hG) ?_
  refine go_aload_n hF d_Ci_init_18 rfl ?_
  refine go_bipush (v := 32) hF d_Ci_init_19 (by decide) ?_
  refine gs_anew (N := (on, ovs (ovs (O) (a) (.inr (1, [.long 0, .int 0, .int 0, .ref (a + 1), .int 0, .null, .int 0, .null, .null, .null]))) (a + 1) (aR E 2 24), a + 2)) (t := 3) (C := "EventWaves$Gate") hF hK hT d_Ci_init_21 (by decide) ⟨by decide, by decide⟩ rfl rfl cl_Ci_21 hE.2.2.2.2.2.2.1.2.1 ?_
  refine go_G (G' := gw E B (on, ovs (ovs (ovs (O) (a) (.inr (1, [.long 0, .int 0, .int 0, .ref (a + 1), .int 0, .null, .int 0, .null, .null, .null]))) (a + 1) (aR E 2 24)) (a + 2) (aR E 3 32), a + 3) w) (fun H hG => hG) ?_
  refine gs_putOF (N := (on, ovs (ovs (ovs (O) (a) (.inr (1, [.long 0, .int 0, .int 0, .ref (a + 1), .int 0, .null, .int 0, .null, .null, .null]))) (a + 1) (aR E 2 24)) (a + 2) (aR E 3 32), a + 3)) (v := .ref (a + 2)) hF hK hlo hnm d_Ci_init_24 fl_Ci_23 ct_Ci ff_Ci_5 rfl rfl ((ovs_ne _ _ (by omega)).trans ((ovs_ne _ _ (by omega)).trans (ovs_same _ _ _))) (Nat.le_of_ble_eq_true rfl) ?_
  refine go_G (G' := gw E B (on, ovs (ovs (ovs (O) (a) (.inr (1, [.long 0, .int 0, .int 0, .ref (a + 1), .int 0, .ref (a + 2), .int 0, .null, .null, .null]))) (a + 1) (aR E 2 24)) (a + 2) (aR E 3 32), a + 3) w) (fun H hG => by rw [ovs_comm (show a ≠ a + 2 by omega), ovs_comm (show a ≠ a + 1 by omega), ovs_ovs] at hG; exact hG) ?_
  refine go_aload_n hF d_Ci_init_27 rfl ?_
  refine go_bipush (v := 20) hF d_Ci_init_28 (by decide) ?_
  refine gs_anew (N := (on, ovs (ovs (ovs (O) (a) (.inr (1, [.long 0, .int 0, .int 0, .ref (a + 1), .int 0, .ref (a + 2), .int 0, .null, .null, .null]))) (a + 1) (aR E 2 24)) (a + 2) (aR E 3 32), a + 3)) (t := 4) (C := "EventWaves$Check") hF hK hT d_Ci_init_30 (by decide) ⟨by decide, by decide⟩ rfl rfl cl_Ci_27 hE.2.2.2.2.2.2.1.2.2.1 ?_
  refine go_G (G' := gw E B (on, ovs (ovs (ovs (ovs (O) (a) (.inr (1, [.long 0, .int 0, .int 0, .ref (a + 1), .int 0, .ref (a + 2), .int 0, .null, .null, .null]))) (a + 1) (aR E 2 24)) (a + 2) (aR E 3 32)) (a + 3) (aR E 4 20), a + 4) w) (fun H hG => hG) ?_
  refine gs_putOF (N := (on, ovs (ovs (ovs (ovs (O) (a) (.inr (1, [.long 0, .int 0, .int 0, .ref (a + 1), .int 0, .ref (a + 2), .int 0, .null, .null, .null]))) (a + 1) (aR E 2 24)) (a + 2) (aR E 3 32)) (a + 3) (aR E 4 20), a + 4)) (v := .ref (a + 3)) hF hK hlo hnm d_Ci_init_33 fl_Ci_29 ct_Ci ff_Ci_7 rfl rfl ((ovs_ne _ _ (by omega)).trans ((ovs_ne _ _ (by omega)).trans ((ovs_ne _ _ (by omega)).trans (ovs_same _ _ _)))) (Nat.le_of_ble_eq_true rfl) ?_
  refine go_G (G' := gw E B (on, ovs (ovs (ovs (ovs (O) (a) (.inr (1, [.long 0, .int 0, .int 0, .ref (a + 1), .int 0, .ref (a + 2), .int 0, .ref (a + 3), .null, .null]))) (a + 1) (aR E 2 24)) (a + 2) (aR E 3 32)) (a + 3) (aR E 4 20), a + 4) w) (fun H hG => by rw [ovs_comm (show a ≠ a + 3 by omega), ovs_comm (show a ≠ a + 2 by omega), ovs_comm (show a ≠ a + 1 by omega), ovs_ovs] at hG; exact hG) ?_
  refine go_aload_n hF d_Ci_init_36 rfl ?_
  refine gs_new (N := (on, ovs (ovs (ovs (ovs (O) (a) (.inr (1, [.long 0, .int 0, .int 0, .ref (a + 1), .int 0, .ref (a + 2), .int 0, .ref (a + 3), .null, .null]))) (a + 1) (aR E 2 24)) (a + 2) (aR E 3 32)) (a + 3) (aR E 4 20), a + 4)) hF hK d_Ci_init_37 nw_Ci_33 ⟨by decide, by decide⟩ ?_
  refine go_G (G' := gw E B (on, ovs (ovs (ovs (ovs (ovs (O) (a) (.inr (1, [.long 0, .int 0, .int 0, .ref (a + 1), .int 0, .ref (a + 2), .int 0, .ref (a + 3), .null, .null]))) (a + 1) (aR E 2 24)) (a + 2) (aR E 3 32)) (a + 3) (aR E 4 20)) (a + 4) (.inr (5, [.int 0, .null, .null, .null, .null])), a + 4 + 1) w) (fun H hG => hG) ?_
  refine go_dup hF d_Ci_init_40 rfl ?_
  refine go_ctor hF hE hlo d_Ci_init_41 rfl (con_Ha_init (on := on) (O := ovs (ovs (ovs (ovs (O) (a) (.inr (1, [.long 0, .int 0, .int 0, .ref (a + 1), .int 0, .ref (a + 2), .int 0, .ref (a + 3), .null, .null]))) (a + 1) (aR E 2 24)) (a + 2) (aR E 3 32)) (a + 3) (aR E 4 20)) (b := a + 4) hlt) mt_Ha_init mi_Ha_init (Or.inr ⟨_, ln_Ci_35⟩) ⟨rfl, rfl, by decide, by decide⟩ rfl (Nat.le_of_ble_eq_true rfl) ⟨by decide, by decide⟩ (fun M => gx_no) rfl (fun v => ?_)
  refine go_and (fun hv => ?_)
  subst hv
  refine go_G (G' := gw E B (on, ovs (ovs (ovs (ovs (ovs (ovs (ovs (ovs (ovs (O) (a) (.inr (1, [.long 0, .int 0, .int 0, .ref (a + 1), .int 0, .ref (a + 2), .int 0, .ref (a + 3), .null, .null]))) (a + 1) (aR E 2 24)) (a + 2) (aR E 3 32)) (a + 3) (aR E 4 20)) (a + 4) (.inr (5, [.int 0, .ref (a + 4 + 1), .ref (a + 4 + 2), .ref (a + 4 + 3), .ref (a + 4 + 4)]))) (a + 5) (aI E 100)) (a + 6) (aI E 100)) (a + 7) (aL E 100)) (a + 8) (aI E 100), a + 9) w) (fun H hG => hG) ?_
  refine gs_putOF (N := (on, ovs (ovs (ovs (ovs (ovs (ovs (ovs (ovs (ovs (O) (a) (.inr (1, [.long 0, .int 0, .int 0, .ref (a + 1), .int 0, .ref (a + 2), .int 0, .ref (a + 3), .null, .null]))) (a + 1) (aR E 2 24)) (a + 2) (aR E 3 32)) (a + 3) (aR E 4 20)) (a + 4) (.inr (5, [.int 0, .ref (a + 4 + 1), .ref (a + 4 + 2), .ref (a + 4 + 3), .ref (a + 4 + 4)]))) (a + 5) (aI E 100)) (a + 6) (aI E 100)) (a + 7) (aL E 100)) (a + 8) (aI E 100), a + 9)) (v := .ref (a + 4)) hF hK hlo hnm d_Ci_init_44 fl_Ci_36 ct_Ci ff_Ci_8 rfl rfl ((ovs_ne _ _ (by omega)).trans ((ovs_ne _ _ (by omega)).trans ((ovs_ne _ _ (by omega)).trans ((ovs_ne _ _ (by omega)).trans ((ovs_ne _ _ (by omega)).trans ((ovs_ne _ _ (by omega)).trans ((ovs_ne _ _ (by omega)).trans ((ovs_ne _ _ (by omega)).trans (ovs_same _ _ _))))))))) (Nat.le_of_ble_eq_true rfl) ?_
  refine go_G (G' := gw E B (on, ovs (ovs (ovs (ovs (ovs (ovs (ovs (ovs (ovs (O) (a) (.inr (1, [.long 0, .int 0, .int 0, .ref (a + 1), .int 0, .ref (a + 2), .int 0, .ref (a + 3), .ref (a + 4), .null]))) (a + 1) (aR E 2 24)) (a + 2) (aR E 3 32)) (a + 3) (aR E 4 20)) (a + 4) (.inr (5, [.int 0, .ref (a + 4 + 1), .ref (a + 4 + 2), .ref (a + 4 + 3), .ref (a + 4 + 4)]))) (a + 5) (aI E 100)) (a + 6) (aI E 100)) (a + 7) (aL E 100)) (a + 8) (aI E 100), a + 9) w) (fun H hG => by rw [ovs_comm (show a ≠ a + 8 by omega), ovs_comm (show a ≠ a + 7 by omega), ovs_comm (show a ≠ a + 6 by omega), ovs_comm (show a ≠ a + 5 by omega), ovs_comm (show a ≠ a + 4 by omega), ovs_comm (show a ≠ a + 3 by omega), ovs_comm (show a ≠ a + 2 by omega), ovs_comm (show a ≠ a + 1 by omega), ovs_ovs] at hG; exact hG) ?_
  refine go_aload_n hF d_Ci_init_47 rfl ?_
  refine gs_new (N := (on, ovs (ovs (ovs (ovs (ovs (ovs (ovs (ovs (ovs (O) (a) (.inr (1, [.long 0, .int 0, .int 0, .ref (a + 1), .int 0, .ref (a + 2), .int 0, .ref (a + 3), .ref (a + 4), .null]))) (a + 1) (aR E 2 24)) (a + 2) (aR E 3 32)) (a + 3) (aR E 4 20)) (a + 4) (.inr (5, [.int 0, .ref (a + 4 + 1), .ref (a + 4 + 2), .ref (a + 4 + 3), .ref (a + 4 + 4)]))) (a + 5) (aI E 100)) (a + 6) (aI E 100)) (a + 7) (aL E 100)) (a + 8) (aI E 100), a + 9)) hF hK d_Ci_init_48 nw_Ci_40 ⟨by decide, by decide⟩ ?_
  refine go_G (G' := gw E B (on, ovs (ovs (ovs (ovs (ovs (ovs (ovs (ovs (ovs (ovs (O) (a) (.inr (1, [.long 0, .int 0, .int 0, .ref (a + 1), .int 0, .ref (a + 2), .int 0, .ref (a + 3), .ref (a + 4), .null]))) (a + 1) (aR E 2 24)) (a + 2) (aR E 3 32)) (a + 3) (aR E 4 20)) (a + 4) (.inr (5, [.int 0, .ref (a + 4 + 1), .ref (a + 4 + 2), .ref (a + 4 + 3), .ref (a + 4 + 4)]))) (a + 5) (aI E 100)) (a + 6) (aI E 100)) (a + 7) (aL E 100)) (a + 8) (aI E 100)) (a + 9) (.inr (6, [.int 0, .null, .null, .null])), a + 9 + 1) w) (fun H hG => hG) ?_
  refine go_dup hF d_Ci_init_51 rfl ?_
  refine go_ctor hF hE hlo d_Ci_init_52 rfl (con_Wa_init (on := on) (O := ovs (ovs (ovs (ovs (ovs (ovs (ovs (ovs (ovs (O) (a) (.inr (1, [.long 0, .int 0, .int 0, .ref (a + 1), .int 0, .ref (a + 2), .int 0, .ref (a + 3), .ref (a + 4), .null]))) (a + 1) (aR E 2 24)) (a + 2) (aR E 3 32)) (a + 3) (aR E 4 20)) (a + 4) (.inr (5, [.int 0, .ref (a + 4 + 1), .ref (a + 4 + 2), .ref (a + 4 + 3), .ref (a + 4 + 4)]))) (a + 5) (aI E 100)) (a + 6) (aI E 100)) (a + 7) (aL E 100)) (a + 8) (aI E 100)) (b := a + 9) hlt) mt_Wa_init mi_Wa_init (Or.inr ⟨_, ln_Ci_42⟩) ⟨rfl, rfl, by decide, by decide⟩ rfl (Nat.le_of_ble_eq_true rfl) ⟨by decide, by decide⟩ (fun M => gx_no) rfl (fun v => ?_)
  refine go_and (fun hv => ?_)
  subst hv
  refine go_G (G' := gw E B (on, ovs (ovs (ovs (ovs (ovs (ovs (ovs (ovs (ovs (ovs (ovs (ovs (ovs (O) (a) (.inr (1, [.long 0, .int 0, .int 0, .ref (a + 1), .int 0, .ref (a + 2), .int 0, .ref (a + 3), .ref (a + 4), .null]))) (a + 1) (aR E 2 24)) (a + 2) (aR E 3 32)) (a + 3) (aR E 4 20)) (a + 4) (.inr (5, [.int 0, .ref (a + 4 + 1), .ref (a + 4 + 2), .ref (a + 4 + 3), .ref (a + 4 + 4)]))) (a + 5) (aI E 100)) (a + 6) (aI E 100)) (a + 7) (aL E 100)) (a + 8) (aI E 100)) (a + 9) (.inr (6, [.int 0, .ref (a + 9 + 1), .ref (a + 9 + 2), .ref (a + 9 + 3)]))) (a + 10) (aI E 600)) (a + 11) (aI E 600)) (a + 12) (aI E 600), a + 13) w) (fun H hG => hG) ?_
  refine gs_putOF (N := (on, ovs (ovs (ovs (ovs (ovs (ovs (ovs (ovs (ovs (ovs (ovs (ovs (ovs (O) (a) (.inr (1, [.long 0, .int 0, .int 0, .ref (a + 1), .int 0, .ref (a + 2), .int 0, .ref (a + 3), .ref (a + 4), .null]))) (a + 1) (aR E 2 24)) (a + 2) (aR E 3 32)) (a + 3) (aR E 4 20)) (a + 4) (.inr (5, [.int 0, .ref (a + 4 + 1), .ref (a + 4 + 2), .ref (a + 4 + 3), .ref (a + 4 + 4)]))) (a + 5) (aI E 100)) (a + 6) (aI E 100)) (a + 7) (aL E 100)) (a + 8) (aI E 100)) (a + 9) (.inr (6, [.int 0, .ref (a + 9 + 1), .ref (a + 9 + 2), .ref (a + 9 + 3)]))) (a + 10) (aI E 600)) (a + 11) (aI E 600)) (a + 12) (aI E 600), a + 13)) (v := .ref (a + 9)) hF hK hlo hnm d_Ci_init_55 fl_Ci_43 ct_Ci ff_Ci_9 rfl rfl ((ovs_ne _ _ (by omega)).trans ((ovs_ne _ _ (by omega)).trans ((ovs_ne _ _ (by omega)).trans ((ovs_ne _ _ (by omega)).trans ((ovs_ne _ _ (by omega)).trans ((ovs_ne _ _ (by omega)).trans ((ovs_ne _ _ (by omega)).trans ((ovs_ne _ _ (by omega)).trans ((ovs_ne _ _ (by omega)).trans ((ovs_ne _ _ (by omega)).trans ((ovs_ne _ _ (by omega)).trans ((ovs_ne _ _ (by omega)).trans (ovs_same _ _ _))))))))))))) (Nat.le_of_ble_eq_true rfl) ?_
  refine go_G (G' := gw E B (on, ovs (ovs (ovs (ovs (ovs (ovs (ovs (ovs (ovs (ovs (ovs (ovs (ovs (O) (a) (.inr (1, [.long 0, .int 0, .int 0, .ref (a + 1), .int 0, .ref (a + 2), .int 0, .ref (a + 3), .ref (a + 4), .ref (a + 9)]))) (a + 1) (aR E 2 24)) (a + 2) (aR E 3 32)) (a + 3) (aR E 4 20)) (a + 4) (.inr (5, [.int 0, .ref (a + 4 + 1), .ref (a + 4 + 2), .ref (a + 4 + 3), .ref (a + 4 + 4)]))) (a + 5) (aI E 100)) (a + 6) (aI E 100)) (a + 7) (aL E 100)) (a + 8) (aI E 100)) (a + 9) (.inr (6, [.int 0, .ref (a + 9 + 1), .ref (a + 9 + 2), .ref (a + 9 + 3)]))) (a + 10) (aI E 600)) (a + 11) (aI E 600)) (a + 12) (aI E 600), a + 13) w) (fun H hG => by rw [ovs_comm (show a ≠ a + 12 by omega), ovs_comm (show a ≠ a + 11 by omega), ovs_comm (show a ≠ a + 10 by omega), ovs_comm (show a ≠ a + 9 by omega), ovs_comm (show a ≠ a + 8 by omega), ovs_comm (show a ≠ a + 7 by omega), ovs_comm (show a ≠ a + 6 by omega), ovs_comm (show a ≠ a + 5 by omega), ovs_comm (show a ≠ a + 4 by omega), ovs_comm (show a ≠ a + 3 by omega), ovs_comm (show a ≠ a + 2 by omega), ovs_comm (show a ≠ a + 1 by omega), ovs_ovs] at hG; exact hG) ?_
  refine go_iconst (v := 0) hF d_Ci_init_58 (by decide) ?_
  refine go_istore_n hF d_Ci_init_59 (by decide) ?_
  refine go_lv (lv' := [(0, _), (1, _)]) ⟨rfl, rfl, trivial⟩ ?_
  refine go_G (G' := gw E B (on, ca1 E O a 0, a + 13 + 0) w) (fun H hG => gw_sub (N := (on, caP E O a, a + 13)) hG (lp_0 (caP_1 E O a))) ?_
  exact go_kn (by decide) (by decide) (L60 24 0 rfl)
