/-! COPIES of whole arrays, from one block of a kind to another. -/
def cpI (w : wdT) (κ ι ι' r m : Nat) : wdT := (fun κ₁ ι₁ r₁ k i => if κ₁ = κ ∧ ι₁ = ι ∧ r₁ = r ∧ k = 0 ∧ i < m then wI w κ ι' r 0 i else wI w κ₁ ι₁ r₁ k i, w.2)
def cpL (w : wdT) (κ ι ι' r m : Nat) : wdT := (w.1, fun κ₁ ι₁ r₁ k i => if κ₁ = κ ∧ ι₁ = ι ∧ r₁ = r ∧ k = 0 ∧ i < m then wL w κ ι' r 0 i else wL w κ₁ ι₁ r₁ k i, w.2.2)
theorem agr_cpI (w : wdT) (κ ι ι' r m : Nat) : agr w (cpI w κ ι ι' r m) κ ι r (fun _ => True) := fun κ₁ ι₁ r₁ k i h => ⟨if_neg (fun z => h ⟨z.1, z.2.1, z.2.2.1, trivial⟩), rfl, rfl⟩
theorem agr_cpL (w : wdT) (κ ι ι' r m : Nat) : agr w (cpL w κ ι ι' r m) κ ι r (fun _ => True) := fun κ₁ ι₁ r₁ k i h => ⟨rfl, if_neg (fun z => h ⟨z.1, z.2.1, z.2.2.1, trivial⟩), rfl⟩
def CPW (own : String) (idx : Nat) : Prop := Cond.methodLink own idx arraycopyName ∈ gAll ∧ Cond.native arraycopyName ∈ gAll ∧ Cond.static arraycopyName ∈ gAll ∧ Cond.initialized "java/lang/System" ∈ gAll
section CPY
variable {F : gT} {cc : ByteArray} {own : String} {nL : Nat} {rm : Room} {pc : Nat} {lv : lvT} {st : List Value} {kc ks : Nat} {E : gE} {B : bsT} {N : nwT} {w : wdT}
theorem gs_copy (hF : Fb F cc own nL rm) (hE : va_K E.1 vwCl E.2.1 (gs F)) (hT : E.2.1.map Prod.snd = atyL) (hlo : gLo F = E.2.2.size) {w' : wdT} {κ ι ι' r t m o idx : Nat} {c : kdT} {ty : FieldType} (hd : decode cc pc = .ok (.invokestatic idx, 3)) (ho : N.1 κ ι = true) (ho' : N.1 κ ι' = true)
    (hr : (sch κ)[r]? = some (o, 1, .inr (t, m, c))) (ht : atyL[t]? = some ty) (hp : refKind ty = false) (hm : m < 2 ^ 31) (hw : CPW own idx) (hfr : 1 ≤ rm.frames) (hlc : (st.map fun v => v.category).sum + 18 ≤ rm.locals) (hag : agr w w' κ ι r (fun _ => True))
    (hrd : ∀ i, i < m → fits ty ((vp_cell (aty E t) (m, avs B w κ ι' r c)).slots.getD i .null) = true) (htk : ∀ (U : State) (dc : ClassId) (i : Nat), i < m → U.takes dc ((vp_cell (aty E t) (m, avs B w κ ι' r c)).slots.getD i .null))
    (hcp : copied (vp_cell (aty E t) (m, avs B w κ ι' r c)) (vp_cell (aty E t) (m, avs B w κ ι r c)) 0 0 (nI m) = vp_cell (aty E t) (m, avs B w' κ ι r c)) {x : Int32} (hx : x = nI m)
    (kk : Go F (pc + 3) lv st (gw E B N w') kc ks) : Go F pc lv (.int x :: .int 0 :: .ref (ad B κ ι r 0) :: .int 0 :: .ref (ad B κ ι' r 0) :: st) (gw E B N w) kc ks := by
  intro H locs ls hG hL hl T hTh X
  subst hx
  have hc0 : H[ad B κ ι' r 0]? = some (vp_cell (aty E t) (m, avs B w κ ι' r c)) := gw_arr hG ho' hr
  have hc1 : H[ad B κ ι r 0]? = some (vp_cell (aty E t) (m, avs B w κ ι r c)) := gw_arr hG ho hr
  have hA := (hE.2 t _ (aty_of hT ht)).1
  obtain ⟨-, k0, hk0, cm0, hkk0⟩ := vp_cell_arr hA (m, avs B w κ ι' r c)
  obtain ⟨-, k1, hk1, cm1, hkk1⟩ := vp_cell_arr hA (m, avs B w κ ι r c)
  have hR := hF.2.2.2.2.2.2.2.1
  have hww := hF.2.2.2.2.2.1
  have hcl : (nI m).toNatClampNeg = m := nI_clamp hm
  have hti : (nI m).toInt = m := nI_toInt hm
  have hz : (0 : Int32).toInt = 0 := rfl
  have hvn : ∀ q : vp_A, (vp_cell (aty E t) q).vm = .none := fun q => by
    obtain ⟨n, f⟩ := q
    rcases f with f | f | f | f | f <;> rfl
  obtain ⟨vm', X', step⟩ := X.arraycopy hF.1 hF.2.2.2.2.1 (hww _ hw.1) (hww _ hw.2.1) (hww _ hw.2.2.1) (hww _ hw.2.2.2) (src := ad B κ ι' r 0) (dst := ad B κ ι r 0) (srcPos := 0) (destPos := 0) (n := nI m) (by rw [hTh]; exact hc0) (by rw [hTh]; exact hc1)
    (fun _ h => by rw [hvn] at h; cases h) (fun _ h => by rw [hvn] at h; cases h) (fun h => by rw [hvn] at h; cases h) (fun h => by rw [hvn] at h; cases h) hk0 hk1 hkk0 hkk1 (by simp [hp]) (by decide) (by decide) (nI_pos hm)
    (by rw [hti, hz, vp_cell_size]; show ¬ (0 : Int) + m > m; omega) (by rw [hti, hz, vp_cell_size]; show ¬ (0 : Int) + m > m; omega)
    (fun vm₁ _ i hi => by
      rw [hcl] at hi
      have e0 : (0 : Int32).toNatClampNeg + i = i := by show 0 + i = i; omega
      rw [e0]
      exact ⟨hrd i hi, htk _ _ i hi⟩)
    (g := F0 (gm F) pc ls (.int (nI m) :: .int 0 :: .ref (ad B κ ι r 0) :: .int 0 :: .ref (ad B κ ι' r 0) :: st)) rfl (hl.1.trans (hF.2.2.2.1.trans hF.2.2.1.symm)) (rest := st) rfl (by rw [hF.2.1]; exact hd) (by rw [hR]; exact hfr) (by rw [hR]; show 2 * 0 + _ + (7 + 11) ≤ _; omega)
  rw [hcp] at X' step
  have hlt : ad B κ ι r 0 < H.size := (Array.getElem?_eq_some_iff.mp hc1).1
  have hheap : ((T.setVm vm').setCell (ad B κ ι r 0) (vp_cell (aty E t) (m, avs B w' κ ι r c))).heap = H.setIfInBounds (ad B κ ι r 0) (vp_cell (aty E t) (m, avs B w' κ ι r c)) := by rw [← hTh]; rfl
  obtain ⟨t9, a1, b1⟩ := kk _ _ ls (gw_put (i := 0) (H' := H.setIfInBounds (ad B κ ι r 0) (vp_cell (aty E t) (m, avs B w' κ ι r c))) hG ho hr Nat.zero_lt_one hag (fun i' h1 h2 => absurd h1 (by simp; omega)) (by simp) (fun q hq => by simp [Array.getElem?_setIfInBounds, Ne.symm hq]) (show (H.setIfInBounds _ _)[_]? = some (vp_cell _ _) by simp [Array.getElem?_setIfInBounds, hlt])) (fun z hz => by
    rcases List.mem_append.mp hz with h | h
    · exact hL z h
    · obtain ⟨y, -, hy⟩ := List.mem_map.mp h
      rw [← hy, hlo]
      exact ad_lo hG.2.2.2.2 ho) hl _ hheap X'
  exact ⟨t9, step t9 a1, b1⟩
theorem gs_copyi (hF : Fb F cc own nL rm) (hE : va_K E.1 vwCl E.2.1 (gs F)) (hT : E.2.1.map Prod.snd = atyL) (hlo : gLo F = E.2.2.size) {κ ι ι' r t m o idx : Nat} {u : Nat × Nat} (hd : decode cc pc = .ok (.invokestatic idx, 3)) (ho : N.1 κ ι = true) (ho' : N.1 κ ι' = true)
    (hr : (sch κ)[r]? = some (o, 1, .inr (t, m, 0, u))) (ht : atyL[t]? = some .int) (hm : m < 2 ^ 31) (hw : CPW own idx) (hfr : 1 ≤ rm.frames) (hlc : (st.map fun v => v.category).sum + 18 ≤ rm.locals) {x : Int32} (hx : x = nI m)
    (kk : Go F (pc + 3) lv st (gw E B N (cpI w κ ι ι' r m)) kc ks) : Go F pc lv (.int x :: .int 0 :: .ref (ad B κ ι r 0) :: .int 0 :: .ref (ad B κ ι' r 0) :: st) (gw E B N w) kc ks := by
  have hget : ∀ i, i < m → (vp_cell (aty E t) (m, avs B w κ ι' r (0, u))).slots.getD i .null = .int (wI w κ ι' r 0 i) := fun i hi => by
    show (vp_cell (aty E t) (m, .inl (fun i => wI w κ ι' r 0 i))).slots.getD i .null = _
    rw [vp_cell_i, Array.getD_eq_getD_getElem?, arrV_read _ _ hi]
    rfl
  refine gs_copy hF hE hT hlo hd ho ho' hr ht rfl hm hw hfr hlc (agr_cpI w κ ι ι' r m) (fun i hi => by rw [hget i hi]; rfl) (fun U dc i hi => by rw [hget i hi]; exact trivial) ?_ hx kk
  have e1 := va_copied (fun z => Value.int z) (aty E t) (aty E t) (n0 := m) (n1 := m) (sp := 0) (dp := 0) (n := m) (fun i => wI w κ ι' r 0 i) (fun i => wI w κ ι r 0 i) (by omega)
  show copied (vp_cell (aty E t) (m, .inl (fun i => wI w κ ι' r 0 i))) (vp_cell (aty E t) (m, .inl (fun i => wI w κ ι r 0 i))) 0 0 (nI m) = vp_cell (aty E t) (m, .inl (fun i => wI (cpI w κ ι ι' r m) κ ι r 0 i))
  rw [vp_cell_i, vp_cell_i, vp_cell_i]
  unfold copied
  rw [nI_clamp hm]
  refine e1.trans (arrV_cg (fun j hj => ?_))
  show Value.int (va_cpy _ _ 0 0 m j) = Value.int (wI (cpI w κ ι ι' r m) κ ι r 0 j)
  unfold va_cpy
  rw [if_pos (by omega)]
  show Value.int (wI w κ ι' r 0 (0 + (j - 0))) = Value.int (if κ = κ ∧ ι = ι ∧ r = r ∧ 0 = 0 ∧ j < m then wI w κ ι' r 0 j else _)
  rw [if_pos ⟨rfl, rfl, rfl, rfl, hj⟩, Nat.zero_add, Nat.sub_zero]
theorem gs_copyl (hF : Fb F cc own nL rm) (hE : va_K E.1 vwCl E.2.1 (gs F)) (hT : E.2.1.map Prod.snd = atyL) (hlo : gLo F = E.2.2.size) {κ ι ι' r t m o idx : Nat} {u : Nat × Nat} (hd : decode cc pc = .ok (.invokestatic idx, 3)) (ho : N.1 κ ι = true) (ho' : N.1 κ ι' = true)
    (hr : (sch κ)[r]? = some (o, 1, .inr (t, m, 1, u))) (ht : atyL[t]? = some .long) (hm : m < 2 ^ 31) (hw : CPW own idx) (hfr : 1 ≤ rm.frames) (hlc : (st.map fun v => v.category).sum + 18 ≤ rm.locals) {x : Int32} (hx : x = nI m)
    (kk : Go F (pc + 3) lv st (gw E B N (cpL w κ ι ι' r m)) kc ks) : Go F pc lv (.int x :: .int 0 :: .ref (ad B κ ι r 0) :: .int 0 :: .ref (ad B κ ι' r 0) :: st) (gw E B N w) kc ks := by
  have hget : ∀ i, i < m → (vp_cell (aty E t) (m, avs B w κ ι' r (1, u))).slots.getD i .null = .long (wL w κ ι' r 0 i) := fun i hi => by
    show (vp_cell (aty E t) (m, .inr (.inl (fun i => wL w κ ι' r 0 i)))).slots.getD i .null = _
    rw [vp_cell_l, Array.getD_eq_getD_getElem?, arrV_read _ _ hi]
    rfl
  refine gs_copy hF hE hT hlo hd ho ho' hr ht rfl hm hw hfr hlc (agr_cpL w κ ι ι' r m) (fun i hi => by rw [hget i hi]; rfl) (fun U dc i hi => by rw [hget i hi]; exact trivial) ?_ hx kk
  have e1 := va_copied (fun z => Value.long z) (aty E t) (aty E t) (n0 := m) (n1 := m) (sp := 0) (dp := 0) (n := m) (fun i => wL w κ ι' r 0 i) (fun i => wL w κ ι r 0 i) (by omega)
  show copied (vp_cell (aty E t) (m, .inr (.inl (fun i => wL w κ ι' r 0 i)))) (vp_cell (aty E t) (m, .inr (.inl (fun i => wL w κ ι r 0 i)))) 0 0 (nI m) = vp_cell (aty E t) (m, .inr (.inl (fun i => wL (cpL w κ ι ι' r m) κ ι r 0 i)))
  rw [vp_cell_l, vp_cell_l, vp_cell_l]
  unfold copied
  rw [nI_clamp hm]
  refine e1.trans (arrV_cg (fun j hj => ?_))
  show Value.long (va_cpy _ _ 0 0 m j) = Value.long (wL (cpL w κ ι ι' r m) κ ι r 0 j)
  unfold va_cpy
  rw [if_pos (by omega)]
  show Value.long (wL w κ ι' r 0 (0 + (j - 0))) = Value.long (if κ = κ ∧ ι = ι ∧ r = r ∧ 0 = 0 ∧ j < m then wL w κ ι' r 0 j else _)
  rw [if_pos ⟨rfl, rfl, rfl, rfl, hj⟩, Nat.zero_add, Nat.sub_zero]
end CPY
theorem cw_n : Cond.native arraycopyName ∈ gAll := gm_of (i := 356) (by decide +kernel) (by decide +kernel)
theorem cw_s : Cond.static arraycopyName ∈ gAll := gm_of (i := 355) (by decide +kernel) (by decide +kernel)
theorem cw_i : Cond.initialized "java/lang/System" ∈ gAll := gm_of (i := 54) (by decide +kernel) (by decide +kernel)
theorem cw_Ha : CPW R_Ha 29 := ⟨lj_Ha_29, cw_n, cw_s, cw_i⟩
theorem cw_Wa : CPW R_Wa 25 := ⟨lj_Wa_25, cw_n, cw_s, cw_i⟩
/-- object i of region r: its fields of block ι' into block ι; KI: its ints, KL: its longs -/
def cpR (w : wdT) (ι ι' r : Nat) (KI KL : Nat → Bool) (i : Nat) : wdT := (fun κ₁ ι₁ r₁ k j => if κ₁ = 0 ∧ ι₁ = ι ∧ r₁ = r ∧ j = i ∧ KI k = true then wI w 0 ι' r k i else wI w κ₁ ι₁ r₁ k j, fun κ₁ ι₁ r₁ k j => if κ₁ = 0 ∧ ι₁ = ι ∧ r₁ = r ∧ j = i ∧ KL k = true then wL w 0 ι' r k i else wL w κ₁ ι₁ r₁ k j, w.2.2)
def cpG (w : wdT) (ι ι' r : Nat) (KI KL : Nat → Bool) : Nat → wdT
  | 0 => w
  | n + 1 => cpR (cpG w ι ι' r KI KL n) ι ι' r KI KL n
theorem cpG_s (w : wdT) (ι ι' r : Nat) (KI KL : Nat → Bool) (n : Nat) : cpG w ι ι' r KI KL (n + 1) = cpR (cpG w ι ι' r KI KL n) ι ι' r KI KL n := rfl
theorem cpG_I (w : wdT) {ι ι' : Nat} (hne : ι' ≠ ι) (r : Nat) (KI KL : Nat → Bool) : ∀ n κ₁ ι₁ r₁ k j, wI (cpG w ι ι' r KI KL n) κ₁ ι₁ r₁ k j = if κ₁ = 0 ∧ ι₁ = ι ∧ r₁ = r ∧ j < n ∧ KI k = true then wI w 0 ι' r k j else wI w κ₁ ι₁ r₁ k j
  | 0, κ₁, ι₁, r₁, k, j => by rw [if_neg (by omega)]; rfl
  | n + 1, κ₁, ι₁, r₁, k, j => by
    rw [cpG_s]
    show (if κ₁ = 0 ∧ ι₁ = ι ∧ r₁ = r ∧ j = n ∧ KI k = true then wI (cpG w ι ι' r KI KL n) 0 ι' r k n else wI (cpG w ι ι' r KI KL n) κ₁ ι₁ r₁ k j) = _
    rw [cpG_I w hne r KI KL n, cpG_I w hne r KI KL n, if_neg (show ¬ (0 = 0 ∧ ι' = ι ∧ r = r ∧ n < n ∧ KI k = true) by omega)]
    by_cases h : κ₁ = 0 ∧ ι₁ = ι ∧ r₁ = r ∧ j = n ∧ KI k = true
    · rw [if_pos h, if_pos ⟨h.1, h.2.1, h.2.2.1, by omega, h.2.2.2.2⟩, h.2.2.2.1]
    · rw [if_neg h]
      by_cases h2 : κ₁ = 0 ∧ ι₁ = ι ∧ r₁ = r ∧ j < n ∧ KI k = true
      · rw [if_pos h2, if_pos ⟨h2.1, h2.2.1, h2.2.2.1, by omega, h2.2.2.2.2⟩]
      · rw [if_neg h2, if_neg (fun z => by rcases Nat.lt_or_ge j n with y | y; exact h2 ⟨z.1, z.2.1, z.2.2.1, y, z.2.2.2.2⟩; exact h ⟨z.1, z.2.1, z.2.2.1, by omega, z.2.2.2.2⟩)]
theorem cpG_L (w : wdT) {ι ι' : Nat} (hne : ι' ≠ ι) (r : Nat) (KI KL : Nat → Bool) : ∀ n κ₁ ι₁ r₁ k j, wL (cpG w ι ι' r KI KL n) κ₁ ι₁ r₁ k j = if κ₁ = 0 ∧ ι₁ = ι ∧ r₁ = r ∧ j < n ∧ KL k = true then wL w 0 ι' r k j else wL w κ₁ ι₁ r₁ k j
  | 0, κ₁, ι₁, r₁, k, j => by rw [if_neg (by omega)]; rfl
  | n + 1, κ₁, ι₁, r₁, k, j => by
    rw [cpG_s]
    show (if κ₁ = 0 ∧ ι₁ = ι ∧ r₁ = r ∧ j = n ∧ KL k = true then wL (cpG w ι ι' r KI KL n) 0 ι' r k n else wL (cpG w ι ι' r KI KL n) κ₁ ι₁ r₁ k j) = _
    rw [cpG_L w hne r KI KL n, cpG_L w hne r KI KL n, if_neg (show ¬ (0 = 0 ∧ ι' = ι ∧ r = r ∧ n < n ∧ KL k = true) by omega)]
    by_cases h : κ₁ = 0 ∧ ι₁ = ι ∧ r₁ = r ∧ j = n ∧ KL k = true
    · rw [if_pos h, if_pos ⟨h.1, h.2.1, h.2.2.1, by omega, h.2.2.2.2⟩, h.2.2.2.1]
    · rw [if_neg h]
      by_cases h2 : κ₁ = 0 ∧ ι₁ = ι ∧ r₁ = r ∧ j < n ∧ KL k = true
      · rw [if_pos h2, if_pos ⟨h2.1, h2.2.1, h2.2.2.1, by omega, h2.2.2.2.2⟩]
      · rw [if_neg h2, if_neg (fun z => by rcases Nat.lt_or_ge j n with y | y; exact h2 ⟨z.1, z.2.1, z.2.2.1, y, z.2.2.2.2⟩; exact h ⟨z.1, z.2.1, z.2.2.1, by omega, z.2.2.2.2⟩)]
theorem cpG_P (w : wdT) (ι ι' r : Nat) (KI KL : Nat → Bool) : ∀ n, wP (cpG w ι ι' r KI KL n) = wP w
  | 0 => rfl
  | n + 1 => cpG_P w ι ι' r KI KL n
abbrev kiNe : Nat → Bool := (fun k => k == 0 || k == 1 || k == 2)
abbrev klNe : Nat → Bool := (fun k => k == 3 || k == 4 || k == 5)
theorem cpNe_eq (w : wdT) (ι ι' i : Nat) : (sL (sL (sL (sI (sI (sI w 0 ι 13 0 i (wI w 0 ι' 13 0 i)) 0 ι 13 1 i (wI w 0 ι' 13 1 i)) 0 ι 13 2 i (wI w 0 ι' 13 2 i)) 0 ι 13 3 i (wL w 0 ι' 13 3 i)) 0 ι 13 4 i (wL w 0 ι' 13 4 i)) 0 ι 13 5 i (wL w 0 ι' 13 5 i)) = cpR w ι ι' 13 kiNe klNe i := by
  refine Prod.ext ?_ (Prod.ext ?_ rfl)
  · funext κ₁ ι₁ r₁ k j
    show wI (sL (sL (sL (sI (sI (sI w 0 ι 13 0 i (wI w 0 ι' 13 0 i)) 0 ι 13 1 i (wI w 0 ι' 13 1 i)) 0 ι 13 2 i (wI w 0 ι' 13 2 i)) 0 ι 13 3 i (wL w 0 ι' 13 3 i)) 0 ι 13 4 i (wL w 0 ι' 13 4 i)) 0 ι 13 5 i (wL w 0 ι' 13 5 i)) κ₁ ι₁ r₁ k j = if κ₁ = 0 ∧ ι₁ = ι ∧ r₁ = 13 ∧ j = i ∧ kiNe k = true then wI w 0 ι' 13 k i else wI w κ₁ ι₁ r₁ k j
    simp only [rd_II, rd_IL]
    by_cases h : κ₁ = 0 ∧ ι₁ = ι ∧ r₁ = 13 ∧ j = i
    · obtain ⟨rfl, rfl, rfl, rfl⟩ := h
      by_cases hk : kiNe k = true
      · refine Eq.trans ?_ (Eq.symm (if_pos ⟨rfl, rfl, rfl, rfl, hk⟩))
        simp only [kiNe, Bool.or_eq_true, beq_iff_eq, Bool.false_eq_true, or_assoc] at hk
        rcases hk with rfl | rfl | rfl <;> simp
      · refine Eq.trans ?_ (Eq.symm (if_neg (fun z => hk z.2.2.2.2)))
        simp only [kiNe, Bool.or_eq_true, beq_iff_eq, not_or, or_assoc] at hk
        simp [hk]
    · refine Eq.trans ?_ (Eq.symm (if_neg (fun z => h ⟨z.1, z.2.1, z.2.2.1, z.2.2.2.1⟩)))
      iterate 3 rw [if_neg (fun z => h ⟨z.1, z.2.1, z.2.2.1, z.2.2.2.2⟩)]
  · funext κ₁ ι₁ r₁ k j
    show wL (sL (sL (sL (sI (sI (sI w 0 ι 13 0 i (wI w 0 ι' 13 0 i)) 0 ι 13 1 i (wI w 0 ι' 13 1 i)) 0 ι 13 2 i (wI w 0 ι' 13 2 i)) 0 ι 13 3 i (wL w 0 ι' 13 3 i)) 0 ι 13 4 i (wL w 0 ι' 13 4 i)) 0 ι 13 5 i (wL w 0 ι' 13 5 i)) κ₁ ι₁ r₁ k j = if κ₁ = 0 ∧ ι₁ = ι ∧ r₁ = 13 ∧ j = i ∧ klNe k = true then wL w 0 ι' 13 k i else wL w κ₁ ι₁ r₁ k j
    simp only [rd_LL, rd_LI]
    by_cases h : κ₁ = 0 ∧ ι₁ = ι ∧ r₁ = 13 ∧ j = i
    · obtain ⟨rfl, rfl, rfl, rfl⟩ := h
      by_cases hk : klNe k = true
      · refine Eq.trans ?_ (Eq.symm (if_pos ⟨rfl, rfl, rfl, rfl, hk⟩))
        simp only [klNe, Bool.or_eq_true, beq_iff_eq, Bool.false_eq_true, or_assoc] at hk
        rcases hk with rfl | rfl | rfl <;> simp
      · refine Eq.trans ?_ (Eq.symm (if_neg (fun z => hk z.2.2.2.2)))
        simp only [klNe, Bool.or_eq_true, beq_iff_eq, not_or, or_assoc] at hk
        simp [hk]
    · refine Eq.trans ?_ (Eq.symm (if_neg (fun z => h ⟨z.1, z.2.1, z.2.2.1, z.2.2.2.1⟩)))
      iterate 3 rw [if_neg (fun z => h ⟨z.1, z.2.1, z.2.2.1, z.2.2.2.2⟩)]
set_option maxHeartbeats 4000000 in
set_option maxRecDepth 100000 in
theorem con_Ne_copyFrom {l : Launch} (hlt : l.stackTraces = false) {E : gE} {B : bsT} {N : nwT} {w : wdT} {ι ι' i : Nat} (ho : N.1 0 ι = true) (hp : N.1 0 ι' = true) (hne : ι' ≠ ι) (hi : i < 24) : Con l E y_Ne_copyFrom (Cond.code y_Ne_copyFrom c_Ne_copyFrom 2 none :: gAll) rm_Ne_copyFrom [.ref (ad B 0 ι 13 i), .ref (ad B 0 ι' 13 i)] (gw E B N w) (fun v H => v = none ∧ gw E B N (cpR w ι ι' 13 kiNe klNe i) H) (fun _ _ => False) 0 0 := by
  refine con_of (by decide) hlt (Nat.le_of_ble_eq_true rfl) ?_
  intro F hF hM htab hnm hE hlo hl
  subst hl
  have hF : Fb F c_Ne_copyFrom R_Ne 2 rm_Ne_copyFrom := hF
  have hK := hE.1
  have hT := hE.2.1
  refine go_lv (lv' := [(0, _), (1, _)]) ⟨rfl, rfl, trivial⟩ ?_
  refine go_aload_n hF d_Ne_copyFrom_0 rfl ?_
  refine go_aload_n hF d_Ne_copyFrom_1 rfl ?_
  refine gs_geti hF hK d_Ne_copyFrom_2 fl_Ne_9 hp rfl rfl hi rfl ?_
  refine gs_puti hF hK hlo d_Ne_copyFrom_5 fl_Ne_9 ct_Ne fs_Ne_0 ho rfl rfl hi rfl rfl ?_
  refine go_aload_n hF d_Ne_copyFrom_8 rfl ?_
  refine go_aload_n hF d_Ne_copyFrom_9 rfl ?_
  refine gs_geti hF hK d_Ne_copyFrom_10 fl_Ne_15 hp rfl rfl hi rfl ?_
  refine gs_puti hF hK hlo d_Ne_copyFrom_13 fl_Ne_15 ct_Ne fs_Ne_1 ho rfl rfl hi rfl rfl ?_
  refine go_aload_n hF d_Ne_copyFrom_16 rfl ?_
  refine go_aload_n hF d_Ne_copyFrom_17 rfl ?_
  refine gs_geti hF hK d_Ne_copyFrom_18 fl_Ne_18 hp rfl rfl hi rfl ?_
  refine gs_puti hF hK hlo d_Ne_copyFrom_21 fl_Ne_18 ct_Ne fs_Ne_2 ho rfl rfl hi rfl rfl ?_
  refine go_aload_n hF d_Ne_copyFrom_24 rfl ?_
  refine go_aload_n hF d_Ne_copyFrom_25 rfl ?_
  refine gs_getl hF hK d_Ne_copyFrom_26 fl_Ne_21 hp rfl rfl hi rfl ?_
  refine gs_putl hF hK hlo d_Ne_copyFrom_29 fl_Ne_21 ct_Ne fs_Ne_3 ho rfl rfl hi rfl rfl ?_
  refine go_aload_n hF d_Ne_copyFrom_32 rfl ?_
  refine go_aload_n hF d_Ne_copyFrom_33 rfl ?_
  refine gs_getl hF hK d_Ne_copyFrom_34 fl_Ne_27 hp rfl rfl hi rfl ?_
  refine gs_putl hF hK hlo d_Ne_copyFrom_37 fl_Ne_27 ct_Ne fs_Ne_4 ho rfl rfl hi rfl rfl ?_
  refine go_aload_n hF d_Ne_copyFrom_40 rfl ?_
  refine go_aload_n hF d_Ne_copyFrom_41 rfl ?_
  refine gs_getl hF hK d_Ne_copyFrom_42 fl_Ne_30 hp rfl rfl hi rfl ?_
  refine gs_putl hF hK hlo d_Ne_copyFrom_45 fl_Ne_30 ct_Ne fs_Ne_5 ho rfl rfl hi rfl rfl ?_
  exact go_vret hF hM d_Ne_copyFrom_48 (by decide) (by decide) (fun H hG => ⟨rfl, by simp only [rd_II, rd_LL, rd_PP, rd_IL, rd_IP, rd_LI, rd_LP, rd_PI, rd_PL, eq_self, true_and, and_true, false_and, and_false, if_true, if_false, reduceIte, reduceCtorEq, Nat.reduceEqDiff, Nat.one_ne_zero, Nat.zero_ne_one, hne] at hG; rw [← cpNe_eq]; exact hG⟩)
abbrev kiGa : Nat → Bool := (fun k => k == 0 || k == 1 || k == 2 || k == 3 || k == 4 || k == 5 || k == 6 || k == 7 || k == 9)
abbrev klGa : Nat → Bool := (fun k => k == 8 || k == 10)
theorem cpGa_eq (w : wdT) (ι ι' i : Nat) : (sL (sI (sL (sI (sI (sI (sI (sI (sI (sI (sI w 0 ι 14 0 i (wI w 0 ι' 14 0 i)) 0 ι 14 1 i (wI w 0 ι' 14 1 i)) 0 ι 14 2 i (wI w 0 ι' 14 2 i)) 0 ι 14 3 i (wI w 0 ι' 14 3 i)) 0 ι 14 4 i (wI w 0 ι' 14 4 i)) 0 ι 14 5 i (wI w 0 ι' 14 5 i)) 0 ι 14 6 i (wI w 0 ι' 14 6 i)) 0 ι 14 7 i (wI w 0 ι' 14 7 i)) 0 ι 14 8 i (wL w 0 ι' 14 8 i)) 0 ι 14 9 i (wI w 0 ι' 14 9 i)) 0 ι 14 10 i (wL w 0 ι' 14 10 i)) = cpR w ι ι' 14 kiGa klGa i := by
  refine Prod.ext ?_ (Prod.ext ?_ rfl)
  · funext κ₁ ι₁ r₁ k j
    show wI (sL (sI (sL (sI (sI (sI (sI (sI (sI (sI (sI w 0 ι 14 0 i (wI w 0 ι' 14 0 i)) 0 ι 14 1 i (wI w 0 ι' 14 1 i)) 0 ι 14 2 i (wI w 0 ι' 14 2 i)) 0 ι 14 3 i (wI w 0 ι' 14 3 i)) 0 ι 14 4 i (wI w 0 ι' 14 4 i)) 0 ι 14 5 i (wI w 0 ι' 14 5 i)) 0 ι 14 6 i (wI w 0 ι' 14 6 i)) 0 ι 14 7 i (wI w 0 ι' 14 7 i)) 0 ι 14 8 i (wL w 0 ι' 14 8 i)) 0 ι 14 9 i (wI w 0 ι' 14 9 i)) 0 ι 14 10 i (wL w 0 ι' 14 10 i)) κ₁ ι₁ r₁ k j = if κ₁ = 0 ∧ ι₁ = ι ∧ r₁ = 14 ∧ j = i ∧ kiGa k = true then wI w 0 ι' 14 k i else wI w κ₁ ι₁ r₁ k j
    simp only [rd_II, rd_IL]
    by_cases h : κ₁ = 0 ∧ ι₁ = ι ∧ r₁ = 14 ∧ j = i
    · obtain ⟨rfl, rfl, rfl, rfl⟩ := h
      by_cases hk : kiGa k = true
      · refine Eq.trans ?_ (Eq.symm (if_pos ⟨rfl, rfl, rfl, rfl, hk⟩))
        simp only [kiGa, Bool.or_eq_true, beq_iff_eq, Bool.false_eq_true, or_assoc] at hk
        rcases hk with rfl | rfl | rfl | rfl | rfl | rfl | rfl | rfl | rfl <;> simp
      · refine Eq.trans ?_ (Eq.symm (if_neg (fun z => hk z.2.2.2.2)))
        simp only [kiGa, Bool.or_eq_true, beq_iff_eq, not_or, or_assoc] at hk
        simp [hk]
    · refine Eq.trans ?_ (Eq.symm (if_neg (fun z => h ⟨z.1, z.2.1, z.2.2.1, z.2.2.2.1⟩)))
      iterate 9 rw [if_neg (fun z => h ⟨z.1, z.2.1, z.2.2.1, z.2.2.2.2⟩)]
  · funext κ₁ ι₁ r₁ k j
    show wL (sL (sI (sL (sI (sI (sI (sI (sI (sI (sI (sI w 0 ι 14 0 i (wI w 0 ι' 14 0 i)) 0 ι 14 1 i (wI w 0 ι' 14 1 i)) 0 ι 14 2 i (wI w 0 ι' 14 2 i)) 0 ι 14 3 i (wI w 0 ι' 14 3 i)) 0 ι 14 4 i (wI w 0 ι' 14 4 i)) 0 ι 14 5 i (wI w 0 ι' 14 5 i)) 0 ι 14 6 i (wI w 0 ι' 14 6 i)) 0 ι 14 7 i (wI w 0 ι' 14 7 i)) 0 ι 14 8 i (wL w 0 ι' 14 8 i)) 0 ι 14 9 i (wI w 0 ι' 14 9 i)) 0 ι 14 10 i (wL w 0 ι' 14 10 i)) κ₁ ι₁ r₁ k j = if κ₁ = 0 ∧ ι₁ = ι ∧ r₁ = 14 ∧ j = i ∧ klGa k = true then wL w 0 ι' 14 k i else wL w κ₁ ι₁ r₁ k j
    simp only [rd_LL, rd_LI]
    by_cases h : κ₁ = 0 ∧ ι₁ = ι ∧ r₁ = 14 ∧ j = i
    · obtain ⟨rfl, rfl, rfl, rfl⟩ := h
      by_cases hk : klGa k = true
      · refine Eq.trans ?_ (Eq.symm (if_pos ⟨rfl, rfl, rfl, rfl, hk⟩))
        simp only [klGa, Bool.or_eq_true, beq_iff_eq, Bool.false_eq_true, or_assoc] at hk
        rcases hk with rfl | rfl <;> simp
      · refine Eq.trans ?_ (Eq.symm (if_neg (fun z => hk z.2.2.2.2)))
        simp only [klGa, Bool.or_eq_true, beq_iff_eq, not_or, or_assoc] at hk
        simp [hk]
    · refine Eq.trans ?_ (Eq.symm (if_neg (fun z => h ⟨z.1, z.2.1, z.2.2.1, z.2.2.2.1⟩)))
      iterate 2 rw [if_neg (fun z => h ⟨z.1, z.2.1, z.2.2.1, z.2.2.2.2⟩)]
set_option maxHeartbeats 4000000 in
set_option maxRecDepth 100000 in
theorem con_Ga_copyFrom {l : Launch} (hlt : l.stackTraces = false) {E : gE} {B : bsT} {N : nwT} {w : wdT} {ι ι' i : Nat} (ho : N.1 0 ι = true) (hp : N.1 0 ι' = true) (hne : ι' ≠ ι) (hi : i < 32) : Con l E y_Ga_copyFrom (Cond.code y_Ga_copyFrom c_Ga_copyFrom 2 none :: gAll) rm_Ga_copyFrom [.ref (ad B 0 ι 14 i), .ref (ad B 0 ι' 14 i)] (gw E B N w) (fun v H => v = none ∧ gw E B N (cpR w ι ι' 14 kiGa klGa i) H) (fun _ _ => False) 0 0 := by
  refine con_of (by decide) hlt (Nat.le_of_ble_eq_true rfl) ?_
  intro F hF hM htab hnm hE hlo hl
  subst hl
  have hF : Fb F c_Ga_copyFrom R_Ga 2 rm_Ga_copyFrom := hF
  have hK := hE.1
  have hT := hE.2.1
  refine go_lv (lv' := [(0, _), (1, _)]) ⟨rfl, rfl, trivial⟩ ?_
  refine go_aload_n hF d_Ga_copyFrom_0 rfl ?_
  refine go_aload_n hF d_Ga_copyFrom_1 rfl ?_
  refine gs_geti hF hK d_Ga_copyFrom_2 fl_Ga_9 hp rfl rfl hi rfl ?_
  refine gs_puti hF hK hlo d_Ga_copyFrom_5 fl_Ga_9 ct_Ga fs_Ga_0 ho rfl rfl hi rfl rfl ?_
  refine go_aload_n hF d_Ga_copyFrom_8 rfl ?_
  refine go_aload_n hF d_Ga_copyFrom_9 rfl ?_
  refine gs_geti hF hK d_Ga_copyFrom_10 fl_Ga_15 hp rfl rfl hi rfl ?_
  refine gs_puti hF hK hlo d_Ga_copyFrom_13 fl_Ga_15 ct_Ga fs_Ga_1 ho rfl rfl hi rfl rfl ?_
  refine go_aload_n hF d_Ga_copyFrom_16 rfl ?_
  refine go_aload_n hF d_Ga_copyFrom_17 rfl ?_
  refine gs_geti hF hK d_Ga_copyFrom_18 fl_Ga_18 hp rfl rfl hi rfl ?_
  refine gs_puti hF hK hlo d_Ga_copyFrom_21 fl_Ga_18 ct_Ga fs_Ga_2 ho rfl rfl hi rfl rfl ?_
  refine go_aload_n hF d_Ga_copyFrom_24 rfl ?_
  refine go_aload_n hF d_Ga_copyFrom_25 rfl ?_
  refine gs_geti hF hK d_Ga_copyFrom_26 fl_Ga_21 hp rfl rfl hi rfl ?_
  refine gs_puti hF hK hlo d_Ga_copyFrom_29 fl_Ga_21 ct_Ga fs_Ga_3 ho rfl rfl hi rfl rfl ?_
  refine go_aload_n hF d_Ga_copyFrom_32 rfl ?_
  refine go_aload_n hF d_Ga_copyFrom_33 rfl ?_
  refine gs_geti hF hK d_Ga_copyFrom_34 fl_Ga_24 hp rfl rfl hi rfl ?_
  refine gs_puti hF hK hlo d_Ga_copyFrom_37 fl_Ga_24 ct_Ga fs_Ga_4 ho rfl rfl hi rfl rfl ?_
  refine go_aload_n hF d_Ga_copyFrom_40 rfl ?_
  refine go_aload_n hF d_Ga_copyFrom_41 rfl ?_
  refine gs_geti hF hK d_Ga_copyFrom_42 fl_Ga_27 hp rfl rfl hi rfl ?_
  refine gs_puti hF hK hlo d_Ga_copyFrom_45 fl_Ga_27 ct_Ga fs_Ga_5 ho rfl rfl hi rfl rfl ?_
  refine go_aload_n hF d_Ga_copyFrom_48 rfl ?_
  refine go_aload_n hF d_Ga_copyFrom_49 rfl ?_
  refine gs_geti hF hK d_Ga_copyFrom_50 fl_Ga_30 hp rfl rfl hi rfl ?_
  refine gs_puti hF hK hlo d_Ga_copyFrom_53 fl_Ga_30 ct_Ga fs_Ga_6 ho rfl rfl hi rfl rfl ?_
  refine go_aload_n hF d_Ga_copyFrom_56 rfl ?_
  refine go_aload_n hF d_Ga_copyFrom_57 rfl ?_
  refine gs_geti hF hK d_Ga_copyFrom_58 fl_Ga_33 hp rfl rfl hi rfl ?_
  refine gs_puti hF hK hlo d_Ga_copyFrom_61 fl_Ga_33 ct_Ga fs_Ga_7 ho rfl rfl hi rfl rfl ?_
  refine go_aload_n hF d_Ga_copyFrom_64 rfl ?_
  refine go_aload_n hF d_Ga_copyFrom_65 rfl ?_
  refine gs_getl hF hK d_Ga_copyFrom_66 fl_Ga_39 hp rfl rfl hi rfl ?_
  refine gs_putl hF hK hlo d_Ga_copyFrom_69 fl_Ga_39 ct_Ga fs_Ga_8 ho rfl rfl hi rfl rfl ?_
  refine go_aload_n hF d_Ga_copyFrom_72 rfl ?_
  refine go_aload_n hF d_Ga_copyFrom_73 rfl ?_
  refine gs_geti hF hK d_Ga_copyFrom_74 fl_Ga_36 hp rfl rfl hi rfl ?_
  refine gs_puti hF hK hlo d_Ga_copyFrom_77 fl_Ga_36 ct_Ga fs_Ga_9 ho rfl rfl hi rfl rfl ?_
  refine go_aload_n hF d_Ga_copyFrom_80 rfl ?_
  refine go_aload_n hF d_Ga_copyFrom_81 rfl ?_
  refine gs_getl hF hK d_Ga_copyFrom_82 fl_Ga_43 hp rfl rfl hi rfl ?_
  refine gs_putl hF hK hlo d_Ga_copyFrom_85 fl_Ga_43 ct_Ga fs_Ga_10 ho rfl rfl hi rfl rfl ?_
  exact go_vret hF hM d_Ga_copyFrom_88 (by decide) (by decide) (fun H hG => ⟨rfl, by simp only [rd_II, rd_LL, rd_PP, rd_IL, rd_IP, rd_LI, rd_LP, rd_PI, rd_PL, eq_self, true_and, and_true, false_and, and_false, if_true, if_false, reduceIte, reduceCtorEq, Nat.reduceEqDiff, Nat.one_ne_zero, Nat.zero_ne_one, hne] at hG; rw [← cpGa_eq]; exact hG⟩)
abbrev kiCh : Nat → Bool := (fun k => k == 0 || k == 1 || k == 2 || k == 3 || k == 4)
abbrev klCh : Nat → Bool := (fun k => false)
theorem cpCh_eq (w : wdT) (ι ι' i : Nat) : (sI (sI (sI (sI (sI w 0 ι 15 0 i (wI w 0 ι' 15 0 i)) 0 ι 15 1 i (wI w 0 ι' 15 1 i)) 0 ι 15 2 i (wI w 0 ι' 15 2 i)) 0 ι 15 3 i (wI w 0 ι' 15 3 i)) 0 ι 15 4 i (wI w 0 ι' 15 4 i)) = cpR w ι ι' 15 kiCh klCh i := by
  refine Prod.ext ?_ (Prod.ext ?_ rfl)
  · funext κ₁ ι₁ r₁ k j
    show wI (sI (sI (sI (sI (sI w 0 ι 15 0 i (wI w 0 ι' 15 0 i)) 0 ι 15 1 i (wI w 0 ι' 15 1 i)) 0 ι 15 2 i (wI w 0 ι' 15 2 i)) 0 ι 15 3 i (wI w 0 ι' 15 3 i)) 0 ι 15 4 i (wI w 0 ι' 15 4 i)) κ₁ ι₁ r₁ k j = if κ₁ = 0 ∧ ι₁ = ι ∧ r₁ = 15 ∧ j = i ∧ kiCh k = true then wI w 0 ι' 15 k i else wI w κ₁ ι₁ r₁ k j
    simp only [rd_II, rd_IL]
    by_cases h : κ₁ = 0 ∧ ι₁ = ι ∧ r₁ = 15 ∧ j = i
    · obtain ⟨rfl, rfl, rfl, rfl⟩ := h
      by_cases hk : kiCh k = true
      · refine Eq.trans ?_ (Eq.symm (if_pos ⟨rfl, rfl, rfl, rfl, hk⟩))
        simp only [kiCh, Bool.or_eq_true, beq_iff_eq, Bool.false_eq_true, or_assoc] at hk
        rcases hk with rfl | rfl | rfl | rfl | rfl <;> simp
      · refine Eq.trans ?_ (Eq.symm (if_neg (fun z => hk z.2.2.2.2)))
        simp only [kiCh, Bool.or_eq_true, beq_iff_eq, not_or, or_assoc] at hk
        simp [hk]
    · refine Eq.trans ?_ (Eq.symm (if_neg (fun z => h ⟨z.1, z.2.1, z.2.2.1, z.2.2.2.1⟩)))
      iterate 5 rw [if_neg (fun z => h ⟨z.1, z.2.1, z.2.2.1, z.2.2.2.2⟩)]
  · funext κ₁ ι₁ r₁ k j
    show wL (sI (sI (sI (sI (sI w 0 ι 15 0 i (wI w 0 ι' 15 0 i)) 0 ι 15 1 i (wI w 0 ι' 15 1 i)) 0 ι 15 2 i (wI w 0 ι' 15 2 i)) 0 ι 15 3 i (wI w 0 ι' 15 3 i)) 0 ι 15 4 i (wI w 0 ι' 15 4 i)) κ₁ ι₁ r₁ k j = if κ₁ = 0 ∧ ι₁ = ι ∧ r₁ = 15 ∧ j = i ∧ klCh k = true then wL w 0 ι' 15 k i else wL w κ₁ ι₁ r₁ k j
    simp only [rd_LL, rd_LI]
    rw [if_neg (fun z => Bool.noConfusion z.2.2.2.2)]
set_option maxHeartbeats 4000000 in
set_option maxRecDepth 100000 in
theorem con_Ch_copyFrom {l : Launch} (hlt : l.stackTraces = false) {E : gE} {B : bsT} {N : nwT} {w : wdT} {ι ι' i : Nat} (ho : N.1 0 ι = true) (hp : N.1 0 ι' = true) (hne : ι' ≠ ι) (hi : i < 20) : Con l E y_Ch_copyFrom (Cond.code y_Ch_copyFrom c_Ch_copyFrom 2 none :: gAll) rm_Ch_copyFrom [.ref (ad B 0 ι 15 i), .ref (ad B 0 ι' 15 i)] (gw E B N w) (fun v H => v = none ∧ gw E B N (cpR w ι ι' 15 kiCh klCh i) H) (fun _ _ => False) 0 0 := by
  refine con_of (by decide) hlt (Nat.le_of_ble_eq_true rfl) ?_
  intro F hF hM htab hnm hE hlo hl
  subst hl
  have hF : Fb F c_Ch_copyFrom R_Ch 2 rm_Ch_copyFrom := hF
  have hK := hE.1
  have hT := hE.2.1
  refine go_lv (lv' := [(0, _), (1, _)]) ⟨rfl, rfl, trivial⟩ ?_
  refine go_aload_n hF d_Ch_copyFrom_0 rfl ?_
  refine go_aload_n hF d_Ch_copyFrom_1 rfl ?_
  refine gs_geti hF hK d_Ch_copyFrom_2 fl_Ch_9 hp rfl rfl hi rfl ?_
  refine gs_puti hF hK hlo d_Ch_copyFrom_5 fl_Ch_9 ct_Ch fs_Ch_0 ho rfl rfl hi rfl rfl ?_
  refine go_aload_n hF d_Ch_copyFrom_8 rfl ?_
  refine go_aload_n hF d_Ch_copyFrom_9 rfl ?_
  refine gs_geti hF hK d_Ch_copyFrom_10 fl_Ch_15 hp rfl rfl hi rfl ?_
  refine gs_puti hF hK hlo d_Ch_copyFrom_13 fl_Ch_15 ct_Ch fs_Ch_1 ho rfl rfl hi rfl rfl ?_
  refine go_aload_n hF d_Ch_copyFrom_16 rfl ?_
  refine go_aload_n hF d_Ch_copyFrom_17 rfl ?_
  refine gs_geti hF hK d_Ch_copyFrom_18 fl_Ch_18 hp rfl rfl hi rfl ?_
  refine gs_puti hF hK hlo d_Ch_copyFrom_21 fl_Ch_18 ct_Ch fs_Ch_2 ho rfl rfl hi rfl rfl ?_
  refine go_aload_n hF d_Ch_copyFrom_24 rfl ?_
  refine go_aload_n hF d_Ch_copyFrom_25 rfl ?_
  refine gs_geti hF hK d_Ch_copyFrom_26 fl_Ch_21 hp rfl rfl hi rfl ?_
  refine gs_puti hF hK hlo d_Ch_copyFrom_29 fl_Ch_21 ct_Ch fs_Ch_3 ho rfl rfl hi rfl rfl ?_
  refine go_aload_n hF d_Ch_copyFrom_32 rfl ?_
  refine go_aload_n hF d_Ch_copyFrom_33 rfl ?_
  refine gs_geti hF hK d_Ch_copyFrom_34 fl_Ch_24 hp rfl rfl hi rfl ?_
  refine gs_puti hF hK hlo d_Ch_copyFrom_37 fl_Ch_24 ct_Ch fs_Ch_4 ho rfl rfl hi rfl rfl ?_
  exact go_vret hF hM d_Ch_copyFrom_40 (by decide) (by decide) (fun H hG => ⟨rfl, by simp only [rd_II, rd_LL, rd_PP, rd_IL, rd_IP, rd_LI, rd_LP, rd_PI, rd_PL, eq_self, true_and, and_true, false_and, and_false, if_true, if_false, reduceIte, reduceCtorEq, Nat.reduceEqDiff, Nat.one_ne_zero, Nat.zero_ne_one, hne] at hG; rw [← cpCh_eq]; exact hG⟩)
