/-! THE WORLD: objects lie in BLOCKS (a kind κ and a number ι), each at an address of its own; a block's REGIONS (r) are objects of one
class or one array, at fixed distances. What they hold (wdT): ints wI, longs wL, pointers wP, by block, region, field (0 for arrays), index.
Where they lie: B (a block's address) and N: which blocks there are, the cells that belong to no block (yet), the heap's size.
'sch κ' (the regions of a block of kind κ), 'bln κ' (its length), atyL (the arrays' element types) and rows on them stand ahead of this part. -/
abbrev wdT : Type := (Nat → Nat → Nat → Nat → Nat → Int32) × (Nat → Nat → Nat → Nat → Nat → Int64) × (Nat → Nat → Nat → Nat → Nat → Option Nat)
abbrev bsT : Type := Nat → Nat → Nat
abbrev nwT : Type := (Nat → Nat → Bool) × (Nat → Option va_E) × Nat
abbrev wI (w : wdT) : Nat → Nat → Nat → Nat → Nat → Int32 := w.1
abbrev wL (w : wdT) : Nat → Nat → Nat → Nat → Nat → Int64 := w.2.1
abbrev wP (w : wdT) : Nat → Nat → Nat → Nat → Nat → Option Nat := w.2.2
def up5 {α : Type} (f : Nat → Nat → Nat → Nat → Nat → α) (a b c d e : Nat) (x : α) : Nat → Nat → Nat → Nat → Nat → α := fun a' b' c' d' e' => if a' = a ∧ b' = b ∧ c' = c ∧ d' = d ∧ e' = e then x else f a' b' c' d' e'
def sI (w : wdT) (a b c d e : Nat) (x : Int32) : wdT := (up5 w.1 a b c d e x, w.2)
def sL (w : wdT) (a b c d e : Nat) (x : Int64) : wdT := (w.1, up5 w.2.1 a b c d e x, w.2.2)
def sP (w : wdT) (a b c d e : Nat) (x : Option Nat) : wdT := (w.1, w.2.1, up5 w.2.2 a b c d e x)
theorem up5_same {α : Type} (f : Nat → Nat → Nat → Nat → Nat → α) (a b c d e : Nat) (x : α) : up5 f a b c d e x a b c d e = x := if_pos ⟨rfl, rfl, rfl, rfl, rfl⟩
theorem up5_ne {α : Type} (f : Nat → Nat → Nat → Nat → Nat → α) {a b c d e a' b' c' d' e' : Nat} (x : α) (h : ¬ (a' = a ∧ b' = b ∧ c' = c ∧ d' = d ∧ e' = e)) : up5 f a b c d e x a' b' c' d' e' = f a' b' c' d' e' := if_neg h
/-- how far from its block's beginning a region lies -/
def rof (κ r : Nat) : Nat := ((sch κ).getD r (0, 0, .inl (0, []))).1
def ad (B : bsT) (κ ι r i : Nat) : Nat := B κ ι + rof κ r + i
/-- where a fixed reference points: the same block (0: the region's first, 1: its own index), or the first block of another kind -/
def tgt (B : bsT) (κ ι i : Nat) (t : Nat × Nat) : Nat := match t.2 with
  | 0 => ad B κ ι t.1 0
  | 1 => ad B κ ι t.1 i
  | κ' + 2 => ad B κ' 0 t.1 0
def fv (B : bsT) (w : wdT) (κ ι r i k : Nat) (c : kdT) : Value := match c.1 with
  | 0 => .int (wI w κ ι r k i)
  | 1 => .long (wL w κ ι r k i)
  | 2 => va_rf (wP w κ ι r k i)
  | _ => .ref (tgt B κ ι i c.2)
def fvs (B : bsT) (w : wdT) (κ ι r i : Nat) : Nat → List kdT → List Value
  | _, [] => []
  | k, c :: t => fv B w κ ι r i k c :: fvs B w κ ι r i (k + 1) t
def avs (B : bsT) (w : wdT) (κ ι r : Nat) (c : kdT) : (Nat → Int32) ⊕ (Nat → Int64) ⊕ (Nat → UInt32) ⊕ (Nat → UInt64) ⊕ (Nat → Option Nat) := match c.1 with
  | 0 => .inl (fun i => wI w κ ι r 0 i)
  | 1 => .inr (.inl (fun i => wL w κ ι r 0 i))
  | 2 => .inr (.inr (.inr (.inr (fun i => wP w κ ι r 0 i))))
  | _ => .inr (.inr (.inr (.inr (fun i => some (ad B κ ι c.2.1 i)))))
abbrev gE : Type := va_G × List (ClassId × FieldType) × Heap
def aty (E : gE) (t : Nat) : ClassId := (E.2.1.getD t (0, .int)).1
def cel (E : gE) (B : bsT) (w : wdT) (κ ι r : Nat) (b : rbT) (i : Nat) : va_E := match b with
  | .inl o => .inr (o.1, fvs B w κ ι r i 0 o.2)
  | .inr a => .inl (aty E a.1, a.2.1, avs B w κ ι r a.2.2)
def wfw (E : gE) (B : bsT) (N : nwT) : Prop :=
  (∀ κ ι, N.1 κ ι = true → E.2.2.size ≤ B κ ι ∧ B κ ι + bln κ ≤ N.2.2) ∧
  (∀ κ ι κ' ι', N.1 κ ι = true → N.1 κ' ι' = true → ¬ (κ = κ' ∧ ι = ι') → B κ ι + bln κ ≤ B κ' ι' ∨ B κ' ι' + bln κ' ≤ B κ ι) ∧
  (∀ a e κ ι, N.2.1 a = some e → N.1 κ ι = true → a < B κ ι ∨ B κ ι + bln κ ≤ a)
def gw (E : gE) (B : bsT) (N : nwT) (w : wdT) (H : Heap) : Prop :=
  (E.2.2.size ≤ H.size ∧ ∀ q : Nat, q < E.2.2.size → H[q]? = E.2.2[q]?) ∧ H.size = N.2.2 ∧
  (∀ (κ ι r : Nat) (g : rgT) (i : Nat), N.1 κ ι = true → (sch κ)[r]? = some g → i < g.2.1 → va_at E.1 vwCl (ad B κ ι r i, cel E B w κ ι r g.2.2 i) H) ∧
  (∀ (a : Nat) (e : va_E), N.2.1 a = some e → E.2.2.size ≤ a ∧ va_at E.1 vwCl (a, e) H) ∧ wfw E B N
theorem rof_of {κ r : Nat} {g : rgT} (h : (sch κ)[r]? = some g) : rof κ r = g.1 := by
  unfold rof
  rw [List.getD_eq_getElem?_getD, h]
  rfl
/-- places in blocks are apart -/
theorem ad_inj {E : gE} {B : bsT} {N : nwT} (hw : wfw E B N) {κ ι r i κ' ι' r' i' : Nat} {g g' : rgT} (ho : N.1 κ ι = true) (ho' : N.1 κ' ι' = true) (hg : (sch κ)[r]? = some g) (hg' : (sch κ')[r']? = some g') (hi : i < g.2.1) (hi' : i' < g'.2.1)
    (e : ad B κ ι r i = ad B κ' ι' r' i') : κ = κ' ∧ ι = ι' ∧ r = r' ∧ i = i' := by
  unfold ad at e
  rw [rof_of hg, rof_of hg'] at e
  have h1 := sch_len κ r g hg
  have h2 := sch_len κ' r' g' hg'
  by_cases hb : κ = κ' ∧ ι = ι'
  · obtain ⟨rfl, rfl⟩ := hb
    by_cases hr : r = r'
    · subst hr
      cases hg.symm.trans hg'
      exact ⟨rfl, rfl, rfl, by omega⟩
    · have h3 := sch_apart κ r r' g g' hg hg' hr
      omega
  · have h4 := hw.2.1 κ ι κ' ι' ho ho' hb
    omega
theorem ad_lo {E : gE} {B : bsT} {N : nwT} (hw : wfw E B N) {κ ι r i : Nat} (ho : N.1 κ ι = true) : E.2.2.size ≤ ad B κ ι r i := by
  have h := (hw.1 κ ι ho).1
  unfold ad
  omega
theorem ad_ov {E : gE} {B : bsT} {N : nwT} (hw : wfw E B N) {κ ι r i : Nat} {g : rgT} {a : Nat} {e : va_E} (ho : N.1 κ ι = true) (hg : (sch κ)[r]? = some g) (hi : i < g.2.1) (ha : N.2.1 a = some e) : ad B κ ι r i ≠ a := by
  have h := hw.2.2 a e κ ι ha ho
  have h1 := sch_len κ r g hg
  unfold ad
  rw [rof_of hg]
  omega
theorem fvs_len (B : bsT) (w : wdT) (κ ι r i : Nat) : ∀ (k : Nat) (fs : List kdT), (fvs B w κ ι r i k fs).length = fs.length
  | _, [] => rfl
  | k, c :: t => by simp [fvs, fvs_len B w κ ι r i (k + 1) t]
theorem fvs_at (B : bsT) (w : wdT) (κ ι r i : Nat) : ∀ (k q : Nat) (fs : List kdT) (c : kdT), fs[q]? = some c → (fvs B w κ ι r i k fs)[q]? = some (fv B w κ ι r i (k + q) c)
  | k, 0, c :: t, c', h => by
    simp at h
    subst h
    simp [fvs]
  | k, q + 1, c :: t, c', h => by
    have h' : t[q]? = some c' := by simpa using h
    have := fvs_at B w κ ι r i (k + 1) q t c' h'
    simp only [fvs, List.getElem?_cons_succ]
    rw [this]
    congr 2
    omega
  | k, q, [], c', h => by simp at h
/-- the fields of an object elsewhere don't hear of it -/
theorem fvs_cong {B : bsT} {w w' : wdT} {κ ι r i : Nat} (h : ∀ (k : Nat) (c : kdT), fv B w' κ ι r i k c = fv B w κ ι r i k c) : ∀ (k : Nat) (fs : List kdT), fvs B w' κ ι r i k fs = fvs B w κ ι r i k fs
  | _, [] => rfl
  | k, c :: t => by simp only [fvs]; rw [h k c, fvs_cong h (k + 1) t]
theorem fvs_set {B : bsT} {w w' : wdT} {κ ι r i : Nat} {v : Value} {q : Nat} (hn : ∀ (k : Nat) (c : kdT), k ≠ q → fv B w' κ ι r i k c = fv B w κ ι r i k c) :
    ∀ (k p : Nat) (fs : List kdT) (c : kdT), fs[p]? = some c → k + p = q → fv B w' κ ι r i q c = v → fvs B w' κ ι r i k fs = (fvs B w κ ι r i k fs).set p v
  | k, 0, c :: t, c', h, e, hv => by
    simp at h
    subst h
    have : k = q := by omega
    subst this
    have ht : ∀ (k' : Nat) (fs : List kdT), k < k' → fvs B w' κ ι r i k' fs = fvs B w κ ι r i k' fs := by
      intro k' fs
      induction fs generalizing k' with
      | nil => intro _; rfl
      | cons a b ih => intro hk; simp only [fvs]; rw [hn k' a (by omega), ih (k' + 1) (by omega)]
    simp only [fvs, List.set_cons_zero]
    rw [hv, ht (k + 1) t (by omega)]
  | k, p + 1, c :: t, c', h, e, hv => by
    have h' : t[p]? = some c' := by simpa using h
    simp only [fvs, List.set_cons_succ]
    rw [hn k c (by omega), fvs_set hn (k + 1) p t c' h' (by omega) hv]
  | k, p, [], c', h, _, _ => by simp at h
/-- two worlds that differ at most in region r of block κ ι, at the indices J -/
def agr (w w' : wdT) (κ ι r : Nat) (J : Nat → Prop) : Prop :=
  ∀ κ' ι' r' k' i' : Nat, ¬ (κ' = κ ∧ ι' = ι ∧ r' = r ∧ J i') → wI w' κ' ι' r' k' i' = wI w κ' ι' r' k' i' ∧ wL w' κ' ι' r' k' i' = wL w κ' ι' r' k' i' ∧ wP w' κ' ι' r' k' i' = wP w κ' ι' r' k' i'
theorem fv_agr {B : bsT} {w w' : wdT} {κ ι r : Nat} {J : Nat → Prop} (h : agr w w' κ ι r J) {κ' ι' r' i' : Nat} (hn : ¬ (κ' = κ ∧ ι' = ι ∧ r' = r ∧ J i')) (k : Nat) (c : kdT) : fv B w' κ' ι' r' i' k c = fv B w κ' ι' r' i' k c := by
  obtain ⟨h1, h2, h3⟩ := h κ' ι' r' k i' hn
  unfold fv
  split
  · rw [h1]
  · rw [h2]
  · rw [h3]
  · rfl
theorem cel_agr {E : gE} {B : bsT} {w w' : wdT} {κ ι r : Nat} {J : Nat → Prop} (h : agr w w' κ ι r J) {κ' ι' r' : Nat} (hn : ¬ (κ' = κ ∧ ι' = ι ∧ r' = r)) (b : rbT) (i' : Nat) : cel E B w' κ' ι' r' b i' = cel E B w κ' ι' r' b i' := by
  have hn' : ∀ i, ¬ (κ' = κ ∧ ι' = ι ∧ r' = r ∧ J i) := fun i q => hn ⟨q.1, q.2.1, q.2.2.1⟩
  cases b with
  | inl o =>
    unfold cel
    simp only
    rw [fvs_cong (fun k c => fv_agr h (hn' i') k c)]
  | inr a =>
    have e : avs B w' κ' ι' r' a.2.2 = avs B w κ' ι' r' a.2.2 := by
      unfold avs
      split
      · exact congrArg Sum.inl (funext fun i => (h κ' ι' r' 0 i (hn' i)).1)
      · exact congrArg (fun f => Sum.inr (Sum.inl f)) (funext fun i => (h κ' ι' r' 0 i (hn' i)).2.1)
      · exact congrArg (fun f => Sum.inr (Sum.inr (Sum.inr (Sum.inr f)))) (funext fun i => (h κ' ι' r' 0 i (hn' i)).2.2)
      · rfl
    unfold cel
    simp only
    rw [e]
theorem cel_agr_obj {E : gE} {B : bsT} {w w' : wdT} {κ ι r : Nat} {J : Nat → Prop} (h : agr w w' κ ι r J) {i' : Nat} (hJ : ¬ J i') (o : Nat × List kdT) : cel E B w' κ ι r (.inl o) i' = cel E B w κ ι r (.inl o) i' := by
  unfold cel
  simp only
  rw [fvs_cong (fun k c => fv_agr h (fun q => hJ q.2.2.2) k c)]
/-- a write into one cell of one block -/
theorem gw_put {E : gE} {B : bsT} {N : nwT} {w w' : wdT} {H H' : Heap} {κ ι r i : Nat} {g : rgT} {J : Nat → Prop} (hg : gw E B N w H) (ho : N.1 κ ι = true) (hr : (sch κ)[r]? = some g) (hi : i < g.2.1) (ha : agr w w' κ ι r J)
    (hJ : ∀ i', i' < g.2.1 → i' ≠ i → cel E B w' κ ι r g.2.2 i' = cel E B w κ ι r g.2.2 i')
    (hz : H'.size = H.size) (hq : ∀ q : Nat, q ≠ ad B κ ι r i → H'[q]? = H[q]?) (hc : va_at E.1 vwCl (ad B κ ι r i, cel E B w' κ ι r g.2.2 i) H') : gw E B N w' H' := by
  obtain ⟨⟨g0, g1⟩, g2, g3, g4, g5⟩ := hg
  refine ⟨⟨by rw [hz]; exact g0, fun q h => ?_⟩, by rw [hz, g2], ?_, ?_, g5⟩
  · rw [hq q (fun e => by have := ad_lo (r := r) (i := i) g5 ho; omega)]
    exact g1 q h
  · intro κ' ι' r' g' i' ho' hr' hi'
    by_cases he : κ' = κ ∧ ι' = ι ∧ r' = r
    · obtain ⟨rfl, rfl, rfl⟩ := he
      cases hr.symm.trans hr'
      by_cases hii : i' = i
      · subst hii
        exact hc
      · rw [hJ i' hi' hii]
        exact (g3 κ' ι' r' g i' ho hr hi').kept (hq _ (fun e => hii (ad_inj g5 ho ho hr hr hi' hi e).2.2.2))
    · rw [cel_agr ha he]
      exact (g3 κ' ι' r' g' i' ho' hr' hi').kept (hq _ (fun e => he (by obtain ⟨e1, e2, e3, -⟩ := ad_inj g5 ho' ho hr' hr hi' hi e; exact ⟨e1, e2, e3⟩)))
  · intro a e' hae
    obtain ⟨q1, q2⟩ := g4 a e' hae
    exact ⟨q1, q2.kept (hq a (fun z => ad_ov g5 ho hr hi hae z.symm))⟩
theorem agr_sI (w : wdT) (κ ι r k i : Nat) (x : Int32) : agr w (sI w κ ι r k i x) κ ι r (fun q => q = i) :=
  fun κ' ι' r' k' i' h => ⟨up5_ne _ _ (fun q => h ⟨q.1, q.2.1, q.2.2.1, q.2.2.2.2⟩), rfl, rfl⟩
theorem agr_sL (w : wdT) (κ ι r k i : Nat) (x : Int64) : agr w (sL w κ ι r k i x) κ ι r (fun q => q = i) :=
  fun κ' ι' r' k' i' h => ⟨rfl, up5_ne _ _ (fun q => h ⟨q.1, q.2.1, q.2.2.1, q.2.2.2.2⟩), rfl⟩
theorem agr_sP (w : wdT) (κ ι r k i : Nat) (x : Option Nat) : agr w (sP w κ ι r k i x) κ ι r (fun q => q = i) :=
  fun κ' ι' r' k' i' h => ⟨rfl, rfl, up5_ne _ _ (fun q => h ⟨q.1, q.2.1, q.2.2.1, q.2.2.2.2⟩)⟩
theorem agr_all {w w' : wdT} {κ ι r : Nat} {J : Nat → Prop} (h : agr w w' κ ι r J) : agr w w' κ ι r (fun _ => True) := fun κ' ι' r' k' i' hn => h κ' ι' r' k' i' (fun q => hn ⟨q.1, q.2.1, q.2.2.1, trivial⟩)
/-- a field of a class of ours, by the pool index in 'own' -/
def FL (own : String) (idx ci k : Nat) : Prop := ∃ (C : String) (T : u_T) (N : Nat), vwCl[ci]? = some (C, T, N) ∧ (∀ x ∈ u_ws C T N, x ∈ gAll) ∧ k < N ∧ Cond.fieldLink own idx (T k).1 (T k).2.1 (T k).2.2.1 ∈ gAll
/-- what a store needs of a class's table: types, names apart -/
def CT (ci : Nat) : Prop := ∃ (C : String) (T : u_T) (N : Nat) (ty : Nat → FieldType), vwCl[ci]? = some (C, T, N) ∧ (∀ x ∈ u_ws C T N, x ∈ gAll) ∧ (∀ k, k < N → parseFieldDescriptor (T k).2.2.1 = some (ty k)) ∧ (∀ a, a < N → ∀ b, b < N → a ≠ b → (T a).2.1 ≠ (T b).2.1)
/-- a field that may be stored: not final, of that type -/
def FS (ci k : Nat) (ty : FieldType) : Prop := ∃ (C : String) (T : u_T) (N : Nat), vwCl[ci]? = some (C, T, N) ∧ (T k).2.2.2 = false ∧ parseFieldDescriptor (T k).2.2.1 = some ty
section GS
variable {F : gT} {cc : ByteArray} {own : String} {nL : Nat} {rm : Room} {pc : Nat} {lv : lvT} {st : List Value} {kc ks : Nat} {E : gE} {B : bsT} {N : nwT} {w : wdT}
/-- the raw row: a field of a cell that the heap holds -/
theorem gh_get (hF : Fb F cc own nL rm) (hE : va_K E.1 vwCl E.2.1 (gs F)) {G : Heap → Prop} {a idx ci k : Nat} {fs : List Value} {v : Value} (hd : decode cc pc = .ok (.getfield idx, 3)) (hfl : FL own idx ci k) (hc : ∀ H, G H → va_at E.1 vwCl (a, .inr (ci, fs)) H) (hv : fs[k]? = some v)
    (kk : Go F (pc + 3) lv (v :: st) G kc ks) : Go F pc lv (.ref a :: st) G kc ks := by
  intro H locs ls hG hL hl
  obtain ⟨C, T, N, e1, e2, e3, e4⟩ := hfl
  have hP : va_P E.1 vwCl [(a, .inr (ci, fs))] H := fun q x hq => by
    have hz : q < 1 := (List.getElem?_eq_some_iff.mp hq).1
    have : q = 0 := by omega
    subst this
    cases hq
    exact hc H hG
  exact va_get (C := C) (T := T) (N := N) hF.1 hF.2.1 hF.2.2.2.2.2.1 e2 hF.2.2.2.2.1 hE hP 0 rfl e1 k e3 (hF.2.2.2.2.2.1 _ e4) (fun _ h => h) hv hd (kk H locs ls hG hL hl)
theorem gs_get (hF : Fb F cc own nL rm) (hE : va_K E.1 vwCl E.2.1 (gs F)) {κ ι r i idx ci k : Nat} {g : rgT} {fs : List kdT} {v : Value} (hd : decode cc pc = .ok (.getfield idx, 3)) (hfl : FL own idx ci k) (ho : N.1 κ ι = true) (hr : (sch κ)[r]? = some g) (hb : g.2.2 = .inl (ci, fs)) (hi : i < g.2.1) (hv : (fvs B w κ ι r i 0 fs)[k]? = some v)
    (kk : Go F (pc + 3) lv (v :: st) (gw E B N w) kc ks) : Go F pc lv (.ref (ad B κ ι r i) :: st) (gw E B N w) kc ks :=
  gh_get hF hE hd hfl (fun H hG => by have h := hG.2.2.1 κ ι r g i ho hr hi; rw [hb] at h; exact h) hv kk
/-- a store into a field of a cell: the raw row -/
theorem gh_put (hF : Fb F cc own nL rm) (hE : va_K E.1 vwCl E.2.1 (gs F)) {G G' : Heap → Prop} {a idx ci k : Nat} {fs : List Value} {v : Value} {ty : FieldType} (hd : decode cc pc = .ok (.putfield idx, 3)) (hfl : FL own idx ci k) (hct : CT ci) (hfs : FS ci k ty) (hn : narrow ty v = v) (hfit : fits ty v = true) (ha : gLo F ≤ a)
    (hc : ∀ H, G H → va_at E.1 vwCl (a, .inr (ci, fs)) H) (hk : k < fs.length) (hG' : ∀ H H', G H → H'.size = H.size → (∀ q : Nat, q ≠ a → H'[q]? = H[q]?) → va_at E.1 vwCl (a, .inr (ci, fs.set k v)) H' → G' H')
    (kk : Go F (pc + 3) lv st G' kc ks) : Go F pc lv (v :: .ref a :: st) G kc ks := by
  intro H locs ls hG hL hl
  obtain ⟨C, T, N, e1, e2, e3, e4⟩ := hfl
  obtain ⟨C', T', N', ty0, f1, -, f3, f4⟩ := hct
  obtain ⟨C'', T'', N'', g1, g2, g3⟩ := hfs
  cases e1.symm.trans f1
  cases e1.symm.trans g1
  have hap := va_apart (own := own) hF.2.2.2.2.2.1 e2 ty0 f3 f4 hE e1
  obtain ⟨r, h1, cell, q1, q2, q3, q4⟩ := hc H hG
  cases h1.symm.trans e1
  obtain ⟨hS, hfc, kC, hkC, hkind⟩ := hE.1 ci _ e1
  obtain ⟨cf, kf, fi, f, hi, hsl⟩ := hS k e3
  have hlay := hF.2.2.2.2.2.1 _ (e2 _ (u_in_lay e3))
  unfold u_lay at hlay
  rw [if_neg (by rw [g2]; decide)] at hlay
  have hst := (u_facts hfc hkC (u_lays hF.2.2.2.2.2.1 e2 e3) hi).1
  have h6 := u_store hfc hkC hkind hlay hi g3 hn hfit
  refine W.putK hF.1 hF.2.1 (f := f) ⟨hF.2.2.2.2.1, hF.2.2.2.2.2.1 _ e4, ⟨_, _, _, hi⟩, hst⟩ (by rw [q2]; exact h6) q1 q3 (by rw [hsl]; exact k2_hasslot (q4 k e3)) rfl rfl hd fun H' c1 c2 c3 => ?_
  rw [hsl] at c1 ⊢
  exact kk H' _ ls (hG' H H' hG c2 c3 ⟨_, e1, t_OB.to (V := updV (vp_V fs) k v) ⟨_, c1, q2, q3, t_set q4 hap e3 v⟩ (fun j _ => vp_updV_set hk v j)⟩) (fun z hz => by
    rcases List.mem_append.mp hz with h | h
    · exact hL z h
    · rw [List.mem_singleton.mp h]; exact ha) hl
theorem gw_va {H : Heap} (hG : gw E B N w H) {κ ι r i ci : Nat} {g : rgT} {fs : List kdT} (ho : N.1 κ ι = true) (hr : (sch κ)[r]? = some g) (hb : g.2.2 = .inl (ci, fs)) (hi : i < g.2.1) : va_at E.1 vwCl (ad B κ ι r i, .inr (ci, fvs B w κ ι r i 0 fs)) H := by
  have h := hG.2.2.1 κ ι r g i ho hr hi
  rw [hb] at h
  exact h
/-- a store into a block's object: any new world that differs there alone -/
theorem gs_put (hF : Fb F cc own nL rm) (hE : va_K E.1 vwCl E.2.1 (gs F)) (hlo : gLo F = E.2.2.size) {w' : wdT} {κ ι r i idx ci k : Nat} {g : rgT} {fs : List kdT} {v : Value} {ty : FieldType} {c : kdT} (hd : decode cc pc = .ok (.putfield idx, 3)) (hfl : FL own idx ci k) (hct : CT ci) (hfs : FS ci k ty) (hn : narrow ty v = v) (hfit : fits ty v = true)
    (ho : N.1 κ ι = true) (hr : (sch κ)[r]? = some g) (hb : g.2.2 = .inl (ci, fs)) (hi : i < g.2.1) (hk : fs[k]? = some c) (ha : agr w w' κ ι r (fun q => q = i)) (hne : ∀ (k' : Nat) (c' : kdT), k' ≠ k → fv B w' κ ι r i k' c' = fv B w κ ι r i k' c') (hv : fv B w' κ ι r i k c = v)
    (kk : Go F (pc + 3) lv st (gw E B N w') kc ks) : Go F pc lv (v :: .ref (ad B κ ι r i) :: st) (gw E B N w) kc ks := by
  refine go_fact (P := wfw E B N) (fun H hG => hG.2.2.2.2) (fun hwf => ?_)
  refine gh_put hF hE hd hfl hct hfs hn hfit (by rw [hlo]; exact ad_lo hwf ho) (fun H hG => gw_va hG ho hr hb hi) (by rw [fvs_len]; exact (List.getElem?_eq_some_iff.mp hk).1) (fun H H' hG hz hq hc => ?_) kk
  refine gw_put hG ho hr hi ha (fun i' hi' hne' => ?_) hz hq ?_
  · rw [hb]
    exact cel_agr_obj ha hne' _
  · rw [hb]
    unfold cel
    simp only
    rw [fvs_set hne 0 k fs c hk (by omega) hv]
    exact hc
theorem gs_puti (hF : Fb F cc own nL rm) (hE : va_K E.1 vwCl E.2.1 (gs F)) (hlo : gLo F = E.2.2.size) {κ ι r i idx ci k : Nat} {g : rgT} {fs : List kdT} {x : Int32} {c : kdT} (hd : decode cc pc = .ok (.putfield idx, 3)) (hfl : FL own idx ci k) (hct : CT ci) (hfs : FS ci k .int)
    (ho : N.1 κ ι = true) (hr : (sch κ)[r]? = some g) (hb : g.2.2 = .inl (ci, fs)) (hi : i < g.2.1) (hk : fs[k]? = some c) (h0 : c.1 = 0)
    (kk : Go F (pc + 3) lv st (gw E B N (sI w κ ι r k i x)) kc ks) : Go F pc lv (.int x :: .ref (ad B κ ι r i) :: st) (gw E B N w) kc ks := by
  refine gs_put hF hE hlo hd hfl hct hfs rfl rfl ho hr hb hi hk (agr_sI w κ ι r k i x) (fun k' c' h => ?_) ?_ kk
  · unfold fv
    split
    · show Value.int (up5 _ _ _ _ _ _ _ _ _ _ _ _) = _
      rw [up5_ne _ _ (fun q => h q.2.2.2.1)]
    · rfl
    · rfl
    · rfl
  · unfold fv
    rw [h0]
    show Value.int (up5 _ _ _ _ _ _ _ _ _ _ _ _) = _
    rw [up5_same]
theorem gs_putl (hF : Fb F cc own nL rm) (hE : va_K E.1 vwCl E.2.1 (gs F)) (hlo : gLo F = E.2.2.size) {κ ι r i idx ci k : Nat} {g : rgT} {fs : List kdT} {x : Int64} {c : kdT} (hd : decode cc pc = .ok (.putfield idx, 3)) (hfl : FL own idx ci k) (hct : CT ci) (hfs : FS ci k .long)
    (ho : N.1 κ ι = true) (hr : (sch κ)[r]? = some g) (hb : g.2.2 = .inl (ci, fs)) (hi : i < g.2.1) (hk : fs[k]? = some c) (h0 : c.1 = 1)
    (kk : Go F (pc + 3) lv st (gw E B N (sL w κ ι r k i x)) kc ks) : Go F pc lv (.long x :: .ref (ad B κ ι r i) :: st) (gw E B N w) kc ks := by
  refine gs_put hF hE hlo hd hfl hct hfs rfl rfl ho hr hb hi hk (agr_sL w κ ι r k i x) (fun k' c' h => ?_) ?_ kk
  · unfold fv
    split
    · rfl
    · show Value.long (up5 _ _ _ _ _ _ _ _ _ _ _ _) = _
      rw [up5_ne _ _ (fun q => h q.2.2.2.1)]
    · rfl
    · rfl
  · unfold fv
    rw [h0]
    show Value.long (up5 _ _ _ _ _ _ _ _ _ _ _ _) = _
    rw [up5_same]
theorem aty_of (hT : E.2.1.map Prod.snd = atyL) {t : Nat} {ty : FieldType} (h : atyL[t]? = some ty) : E.2.1[t]? = some (aty E t, ty) := by
  rw [← hT, List.getElem?_map] at h
  cases he : E.2.1[t]? with
  | none => rw [he] at h; cases h
  | some x =>
    rw [he] at h
    cases h
    unfold aty
    rw [List.getD_eq_getElem?_getD, he]
    rfl
theorem gw_arr {H : Heap} (hG : gw E B N w H) {κ ι r t m : Nat} {c : kdT} {o : Nat} (ho : N.1 κ ι = true) (hr : (sch κ)[r]? = some (o, 1, .inr (t, m, c))) : va_at E.1 vwCl (ad B κ ι r 0, .inl (aty E t, m, avs B w κ ι r c)) H :=
  hG.2.2.1 κ ι r _ 0 ho hr (Nat.zero_lt_one)
theorem va_P1 {D : va_G} {cl : List vw_C} {a : Nat} {e : va_E} {H : Heap} (h : va_at D cl (a, e) H) : va_P D cl [(a, e)] H := fun q x hq => by
  have hz : q < 1 := (List.getElem?_eq_some_iff.mp hq).1
  have : q = 0 := by omega
  subst this
  cases hq
  exact h
theorem gs_iald (hF : Fb F cc own nL rm) (hE : va_K E.1 vwCl E.2.1 (gs F)) (hT : E.2.1.map Prod.snd = atyL) {κ ι r t m o q : Nat} {u : Nat × Nat} {x : Int32} (hd : decode cc pc = .ok (.iaload, 1)) (ho : N.1 κ ι = true) (hr : (sch κ)[r]? = some (o, 1, .inr (t, m, 0, u))) (ht : atyL[t]? = some .int) (hx : x = nI q) (hq : q < m) (hm : m < 2 ^ 31)
    (kk : Go F (pc + 1) lv (.int (wI w κ ι r 0 q) :: st) (gw E B N w) kc ks) : Go F pc lv (.int x :: .ref (ad B κ ι r 0) :: st) (gw E B N w) kc ks := by
  intro H locs ls hG hL hl
  subst hx
  refine va_iald (D := E.1) (cl := vwCl) (f := fun i => wI w κ ι r 0 i) hF.1 hF.2.1 hE (va_P1 (gw_arr hG ho hr)) 0 t rfl (aty_of hT ht) (vp_in_nI hq hm) hd ?_
  show W _ _ _ _ _ _ _ _ _ _ _ _ _ _ _ (F0 _ _ _ (.int (wI w κ ι r 0 (nI q).toNatClampNeg) :: _))
  rw [nI_clamp (by omega)]
  exact kk H locs ls hG hL hl
theorem gs_lald (hF : Fb F cc own nL rm) (hE : va_K E.1 vwCl E.2.1 (gs F)) (hT : E.2.1.map Prod.snd = atyL) {κ ι r t m o q : Nat} {u : Nat × Nat} {x : Int32} (hd : decode cc pc = .ok (.laload, 1)) (ho : N.1 κ ι = true) (hr : (sch κ)[r]? = some (o, 1, .inr (t, m, 1, u))) (ht : atyL[t]? = some .long) (hx : x = nI q) (hq : q < m) (hm : m < 2 ^ 31)
    (kk : Go F (pc + 1) lv (.long (wL w κ ι r 0 q) :: st) (gw E B N w) kc ks) : Go F pc lv (.int x :: .ref (ad B κ ι r 0) :: st) (gw E B N w) kc ks := by
  intro H locs ls hG hL hl
  subst hx
  refine va_lald (D := E.1) (cl := vwCl) (f := fun i => wL w κ ι r 0 i) hF.1 hF.2.1 hE (va_P1 (gw_arr hG ho hr)) 0 t rfl (aty_of hT ht) (vp_in_nI hq hm) hd ?_
  show W _ _ _ _ _ _ _ _ _ _ _ _ _ _ _ (F0 _ _ _ (.long (wL w κ ι r 0 (nI q).toNatClampNeg) :: _))
  rw [nI_clamp (by omega)]
  exact kk H locs ls hG hL hl
/-- an array of fixed references: place q points at index q of region r' -/
theorem gs_aald (hF : Fb F cc own nL rm) (hE : va_K E.1 vwCl E.2.1 (gs F)) (hT : E.2.1.map Prod.snd = atyL) {κ ι r t m o q r' u : Nat} {C : String} {x : Int32} (hd : decode cc pc = .ok (.aaload, 1)) (ho : N.1 κ ι = true) (hr : (sch κ)[r]? = some (o, 1, .inr (t, m, 3, r', u))) (ht : atyL[t]? = some (.object C)) (hx : x = nI q) (hq : q < m) (hm : m < 2 ^ 31)
    (kk : Go F (pc + 1) lv (.ref (ad B κ ι r' q) :: st) (gw E B N w) kc ks) : Go F pc lv (.int x :: .ref (ad B κ ι r 0) :: st) (gw E B N w) kc ks := by
  intro H locs ls hG hL hl
  subst hx
  refine va_aldq (D := E.1) (cl := vwCl) (f := fun i => some (ad B κ ι r' i)) hF.1 hF.2.1 hE (va_P1 (gw_arr hG ho hr)) 0 t rfl (aty_of hT ht) (vp_in_nI hq hm) hd ?_
  show W _ _ _ _ _ _ _ _ _ _ _ _ _ _ _ (F0 _ _ _ (.ref (ad B κ ι r' (nI q).toNatClampNeg) :: _))
  rw [nI_clamp (by omega)]
  exact kk H locs ls hG hL hl
/-- an array of pointers -/
theorem gs_aaldp (hF : Fb F cc own nL rm) (hE : va_K E.1 vwCl E.2.1 (gs F)) (hT : E.2.1.map Prod.snd = atyL) {κ ι r t m o q : Nat} {u : Nat × Nat} {C : String} {x : Int32} (hd : decode cc pc = .ok (.aaload, 1)) (ho : N.1 κ ι = true) (hr : (sch κ)[r]? = some (o, 1, .inr (t, m, 2, u))) (ht : atyL[t]? = some (.object C)) (hx : x = nI q) (hq : q < m) (hm : m < 2 ^ 31)
    (kk : Go F (pc + 1) lv (va_rf (wP w κ ι r 0 q) :: st) (gw E B N w) kc ks) : Go F pc lv (.int x :: .ref (ad B κ ι r 0) :: st) (gw E B N w) kc ks := by
  intro H locs ls hG hL hl
  subst hx
  refine va_aldq (D := E.1) (cl := vwCl) (f := fun i => wP w κ ι r 0 i) hF.1 hF.2.1 hE (va_P1 (gw_arr hG ho hr)) 0 t rfl (aty_of hT ht) (vp_in_nI hq hm) hd ?_
  show W _ _ _ _ _ _ _ _ _ _ _ _ _ _ _ (F0 _ _ _ (va_rf (wP w κ ι r 0 (nI q).toNatClampNeg) :: _))
  rw [nI_clamp (by omega)]
  exact kk H locs ls hG hL hl
theorem vp_cell_size (cA : ClassId) (a : vp_A) : (vp_cell cA a).slots.size = a.1 := by
  obtain ⟨n, f⟩ := a
  rcases f with f | f | f | f | f <;> exact arrV_size _ _ _
theorem vp_cell_arr {U : State} {cA : ClassId} {ty : FieldType} (h : ArrOfT U cA ty) (a : vp_A) : U.isArrayOf (vp_cell cA a) ty := by
  obtain ⟨n, f⟩ := a
  rcases f with f | f | f | f | f <;> exact h _ _
theorem gs_alen (hF : Fb F cc own nL rm) (hE : va_K E.1 vwCl E.2.1 (gs F)) (hT : E.2.1.map Prod.snd = atyL) {κ ι r t m o : Nat} {c : kdT} {ty : FieldType} (hd : decode cc pc = .ok (.arraylength, 1)) (ho : N.1 κ ι = true) (hr : (sch κ)[r]? = some (o, 1, .inr (t, m, c))) (ht : atyL[t]? = some ty)
    (kk : Go F (pc + 1) lv (.int (nI m) :: st) (gw E B N w) kc ks) : Go F pc lv (.ref (ad B κ ι r 0) :: st) (gw E B N w) kc ks := by
  intro H locs ls hG hL hl
  exact W.alen (n := nI m) hF.1 hF.2.1 (gw_arr hG ho hr) (vp_cell_arr (hE.2 t _ (aty_of hT ht)).1 _) (by rw [vp_cell_size]; rfl) rfl rfl hd (kk H locs ls hG hL hl)
theorem gs_iast (hF : Fb F cc own nL rm) (hE : va_K E.1 vwCl E.2.1 (gs F)) (hT : E.2.1.map Prod.snd = atyL) (hlo : gLo F = E.2.2.size) {κ ι r t m o q : Nat} {u : Nat × Nat} {x y : Int32} (hd : decode cc pc = .ok (.iastore, 1)) (ho : N.1 κ ι = true) (hr : (sch κ)[r]? = some (o, 1, .inr (t, m, 0, u))) (ht : atyL[t]? = some .int) (hx : x = nI q) (hq : q < m) (hm : m < 2 ^ 31)
    (kk : Go F (pc + 1) lv st (gw E B N (sI w κ ι r 0 q y)) kc ks) : Go F pc lv (.int y :: .int x :: .ref (ad B κ ι r 0) :: st) (gw E B N w) kc ks := by
  intro H locs ls hG hL hl
  subst hx
  have hwf := hG.2.2.2.2
  have hc := gw_arr hG ho hr
  have hin : ¬ (nI q < 0 ∨ (vp_cell (aty E t) (m, avs B w κ ι r (0, u))).slots.size ≤ (nI q).toNatClampNeg) := by rw [vp_cell_size]; exact vp_in_nI hq hm
  refine W.iast hF.1 hF.2.1 hc (vp_cell_arr (hE.2 t _ (aty_of hT ht)).1 _) (fun q => by cases q) hin rfl rfl hd fun H' e1 z1 o1 => ?_
  refine kk H' _ ls (gw_put (i := 0) hG ho hr Nat.zero_lt_one (agr_all (agr_sI w κ ι r 0 q y)) (fun i' h1 h2 => absurd h1 (by simp; omega)) z1 o1 ?_) (fun z hz => ?_) hl
  · show H'[_]? = some (vp_cell _ _)
    rw [e1, nI_clamp (by omega)]
    show some ((vp_cell (aty E t) (m, .inl (fun i => wI w κ ι r 0 i))).setSlot q (.int y)) = some (vp_cell (aty E t) (m, .inl (fun i => wI (sI w κ ι r 0 q y) κ ι r 0 i)))
    rw [vp_cell_i, vp_cell_i, arrV_store]
    congr 2
    funext j
    by_cases hj : j = q
    · subst hj
      simp [updV, wI, sI, up5]
    · simp [updV, wI, sI, up5, hj]
  · rcases List.mem_append.mp hz with h | h
    · exact hL z h
    · rw [List.mem_singleton.mp h, hlo]
      exact ad_lo hwf ho
theorem gs_last (hF : Fb F cc own nL rm) (hE : va_K E.1 vwCl E.2.1 (gs F)) (hT : E.2.1.map Prod.snd = atyL) (hlo : gLo F = E.2.2.size) {κ ι r t m o q : Nat} {u : Nat × Nat} {x : Int32} {y : Int64} (hd : decode cc pc = .ok (.lastore, 1)) (ho : N.1 κ ι = true) (hr : (sch κ)[r]? = some (o, 1, .inr (t, m, 1, u))) (ht : atyL[t]? = some .long) (hx : x = nI q) (hq : q < m) (hm : m < 2 ^ 31)
    (kk : Go F (pc + 1) lv st (gw E B N (sL w κ ι r 0 q y)) kc ks) : Go F pc lv (.long y :: .int x :: .ref (ad B κ ι r 0) :: st) (gw E B N w) kc ks := by
  intro H locs ls hG hL hl
  subst hx
  have hwf := hG.2.2.2.2
  have hc := gw_arr hG ho hr
  have hin : ¬ (nI q < 0 ∨ (vp_cell (aty E t) (m, avs B w κ ι r (1, u))).slots.size ≤ (nI q).toNatClampNeg) := by rw [vp_cell_size]; exact vp_in_nI hq hm
  refine W.last hF.1 hF.2.1 hc (vp_cell_arr (hE.2 t _ (aty_of hT ht)).1 _) (fun q => by cases q) hin rfl rfl hd fun H' e1 z1 o1 => ?_
  refine kk H' _ ls (gw_put (i := 0) hG ho hr Nat.zero_lt_one (agr_all (agr_sL w κ ι r 0 q y)) (fun i' h1 h2 => absurd h1 (by simp; omega)) z1 o1 ?_) (fun z hz => ?_) hl
  · show H'[_]? = some (vp_cell _ _)
    rw [e1, nI_clamp (by omega)]
    show some ((vp_cell (aty E t) (m, .inr (.inl (fun i => wL w κ ι r 0 i)))).setSlot q (.long y)) = some (vp_cell (aty E t) (m, .inr (.inl (fun i => wL (sL w κ ι r 0 q y) κ ι r 0 i))))
    rw [vp_cell_l, vp_cell_l, arrV_store]
    congr 2
    funext j
    by_cases hj : j = q
    · subst hj
      simp [updV, wL, sL, up5]
    · simp [updV, wL, sL, up5, hj]
  · rcases List.mem_append.mp hz with h | h
    · exact hL z h
    · rw [List.mem_singleton.mp h, hlo]
      exact ad_lo hwf ho
/-! cells of no block: new objects and arrays, and writes into them -/
def ovs (O : Nat → Option va_E) (a : Nat) (e : va_E) : Nat → Option va_E := fun q => if q = a then some e else O q
theorem ovs_same (O : Nat → Option va_E) (a : Nat) (e : va_E) : ovs O a e a = some e := if_pos rfl
theorem ovs_ne (O : Nat → Option va_E) {a q : Nat} (e : va_E) (h : q ≠ a) : ovs O a e q = O q := if_neg h
/-- a cell that belongs to no block is written -/
theorem gw_ovput {H H' : Heap} {a : Nat} {e e' : va_E} (hg : gw E B N w H) (ha : N.2.1 a = some e) (hz : H'.size = H.size) (hq : ∀ q : Nat, q ≠ a → H'[q]? = H[q]?) (hc : va_at E.1 vwCl (a, e') H') : gw E B (N.1, ovs N.2.1 a e', N.2.2) w H' := by
  obtain ⟨⟨g0, g1⟩, g2, g3, g4, g5, g6, g7⟩ := hg
  refine ⟨⟨by rw [hz]; exact g0, fun q h => ?_⟩, by rw [hz, g2], ?_, ?_, g5, g6, ?_⟩
  · rw [hq q (fun z => by have := (g4 a e ha).1; omega)]
    exact g1 q h
  · intro κ ι r g i ho hr hi
    exact (g3 κ ι r g i ho hr hi).kept (hq _ (ad_ov ⟨g5, g6, g7⟩ ho hr hi ha))
  · intro q x hx
    by_cases hqa : q = a
    · subst hqa
      have h9 : ovs N.2.1 q e' q = some x := hx
      rw [ovs_same] at h9
      cases h9
      exact ⟨(g4 q e ha).1, hc⟩
    · have hx' : N.2.1 q = some x := by
        have h9 : ovs N.2.1 a e' q = some x := hx
        rw [ovs_ne _ _ hqa] at h9
        exact h9
      exact ⟨(g4 q x hx').1, (g4 q x hx').2.kept (hq q hqa)⟩
  · intro q x κ ι hx ho
    by_cases hqa : q = a
    · subst hqa
      exact g7 q e κ ι ha ho
    · have h9 : ovs N.2.1 a e' q = some x := hx
      rw [ovs_ne _ _ hqa] at h9
      exact g7 q x κ ι h9 ho
/-- a new cell at the heap's end -/
theorem gw_ovnew {H H' : Heap} {e : va_E} (hg : gw E B N w H) (hz : H'.size = H.size + 1) (hq : ∀ q : Nat, q < H.size → H'[q]? = H[q]?) (hc : va_at E.1 vwCl (N.2.2, e) H') : gw E B (N.1, ovs N.2.1 N.2.2 e, N.2.2 + 1) w H' := by
  obtain ⟨⟨g0, g1⟩, g2, g3, g4, g5, g6, g7⟩ := hg
  refine ⟨⟨by omega, fun q h => ?_⟩, by rw [hz, g2], ?_, ?_, ?_, g6, ?_⟩
  · rw [hq q (by omega)]
    exact g1 q h
  · intro κ ι r g i ho hr hi
    have h := g3 κ ι r g i ho hr hi
    exact h.kept (hq _ h.lt)
  · intro q x hx
    by_cases hqa : q = N.2.2
    · subst hqa
      have h9 : ovs N.2.1 N.2.2 e N.2.2 = some x := hx
      rw [ovs_same] at h9
      cases h9
      exact ⟨by omega, hc⟩
    · have h9 : ovs N.2.1 N.2.2 e q = some x := hx
      rw [ovs_ne _ _ hqa] at h9
      have h := g4 q x h9
      exact ⟨h.1, h.2.kept (hq q h.2.lt)⟩
  · intro κ ι ho
    have := g5 κ ι ho
    exact ⟨this.1, by show _ ≤ N.2.2 + 1; omega⟩
  · intro q x κ ι hx ho
    by_cases hqa : q = N.2.2
    · subst hqa
      exact Or.inr (g5 κ ι ho).2
    · have h9 : ovs N.2.1 N.2.2 e q = some x := hx
      rw [ovs_ne _ _ hqa] at h9
      exact g7 q x κ ι h9 ho
theorem gs_getO (hF : Fb F cc own nL rm) (hE : va_K E.1 vwCl E.2.1 (gs F)) {a idx ci k : Nat} {fs : List Value} {v : Value} (hd : decode cc pc = .ok (.getfield idx, 3)) (hfl : FL own idx ci k) (ha : N.2.1 a = some (.inr (ci, fs))) (hv : fs[k]? = some v)
    (kk : Go F (pc + 3) lv (v :: st) (gw E B N w) kc ks) : Go F pc lv (.ref a :: st) (gw E B N w) kc ks :=
  gh_get hF hE hd hfl (fun H hG => (hG.2.2.2.1 a _ ha).2) hv kk
theorem gs_putO (hF : Fb F cc own nL rm) (hE : va_K E.1 vwCl E.2.1 (gs F)) (hlo : gLo F = E.2.2.size) {a idx ci k : Nat} {fs : List Value} {v : Value} {ty : FieldType} (hd : decode cc pc = .ok (.putfield idx, 3)) (hfl : FL own idx ci k) (hct : CT ci) (hfs : FS ci k ty) (hn : narrow ty v = v) (hfit : fits ty v = true) (ha : N.2.1 a = some (.inr (ci, fs))) (hk : k < fs.length)
    (kk : Go F (pc + 3) lv st (gw E B (N.1, ovs N.2.1 a (.inr (ci, fs.set k v)), N.2.2) w) kc ks) : Go F pc lv (v :: .ref a :: st) (gw E B N w) kc ks := by
  refine go_fact (P := E.2.2.size ≤ a) (fun H hG => (hG.2.2.2.1 a _ ha).1) (fun hla => ?_)
  exact gh_put hF hE hd hfl hct hfs hn hfit (by rw [hlo]; exact hla) (fun H hG => (hG.2.2.2.1 a _ ha).2) hk (fun H H' hG hz hq hc => gw_ovput hG ha hz hq hc) kk
end GS
