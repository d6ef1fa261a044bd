/-! THE SCHEMA: which blocks there are. kind 0: a circuit (live: number 0, remembered: 1 ..); 1: the EventWaves object; 2: its array of remembered circuits, its tape; 3: the law's array 'out'; 4: the reference and its arrays.
A region: its distance, how many, and what: an object (its class in vwCl, its fields) or an array (its type in atyL, its length, its elements). A field: (0, ..) int, (1, ..) long, (2, ..) a pointer, (3, r, m) a fixed reference. -/
abbrev kdT : Type := Nat × Nat × Nat
abbrev rbT : Type := (Nat × List kdT) ⊕ (Nat × Nat × kdT)
abbrev rgT : Type := Nat × Nat × rbT
def atyL : List FieldType := [.int, .long, .object "EventWaves$Net", .object "EventWaves$Gate", .object "EventWaves$Check", .object "EventWaves$Circuit"]
def sch : Nat → List rgT
  | 0 => [(0, 1, .inl (1, [(1, 0, 0), (0, 0, 0), (0, 0, 0), (3, 1, 0), (0, 0, 0), (3, 2, 0), (0, 0, 0), (3, 3, 0), (3, 4, 0), (3, 9, 0)])),
      (1, 1, .inr (2, 24, 3, 13, 0)), (2, 1, .inr (3, 32, 3, 14, 0)), (3, 1, .inr (4, 20, 3, 15, 0)),
      (4, 1, .inl (5, [(0, 0, 0), (3, 5, 0), (3, 6, 0), (3, 7, 0), (3, 8, 0)])),
      (5, 1, .inr (0, 100, 0, 0, 0)), (6, 1, .inr (0, 100, 0, 0, 0)), (7, 1, .inr (1, 100, 1, 0, 0)), (8, 1, .inr (0, 100, 0, 0, 0)),
      (9, 1, .inl (6, [(0, 0, 0), (3, 10, 0), (3, 11, 0), (3, 12, 0)])),
      (10, 1, .inr (0, 600, 0, 0, 0)), (11, 1, .inr (0, 600, 0, 0, 0)), (12, 1, .inr (0, 600, 0, 0, 0)),
      (13, 24, .inl (2, [(0, 0, 0), (0, 0, 0), (0, 0, 0), (1, 0, 0), (1, 0, 0), (1, 0, 0)])),
      (37, 32, .inl (3, [(0, 0, 0), (0, 0, 0), (0, 0, 0), (0, 0, 0), (0, 0, 0), (0, 0, 0), (0, 0, 0), (0, 0, 0), (1, 0, 0), (0, 0, 0), (1, 0, 0)])),
      (69, 20, .inl (4, [(0, 0, 0), (0, 0, 0), (0, 0, 0), (0, 0, 0), (0, 0, 0)]))]
  | 1 => [(0, 1, .inl (0, [(3, 0, 2), (3, 0, 4), (0, 0, 0), (3, 1, 4)]))]
  | 2 => [(0, 1, .inr (5, 4, 2, 0, 0)), (1, 1, .inl (7, [(0, 0, 0), (3, 2, 0)])), (2, 1, .inr (0, 2000, 0, 0, 0))]
  | 3 => [(0, 1, .inr (1, 1, 1, 0, 0))]
  | 4 => [(0, 1, .inl (9, [(0, 0, 0), (3, 1, 0), (3, 2, 0), (0, 0, 0), (3, 3, 0), (0, 0, 0), (3, 4, 0), (3, 5, 0), (3, 6, 0)])),
      (1, 1, .inr (0, 3300, 0, 0, 0)), (2, 1, .inr (0, 13200, 0, 0, 0)), (3, 1, .inr (0, 2000, 0, 0, 0)), (4, 1, .inr (0, 1000, 0, 0, 0)), (5, 1, .inr (0, 1000, 0, 0, 0)), (6, 1, .inr (0, 1000, 0, 0, 0))]
  | _ => []
def bln : Nat → Nat
  | 0 => 89
  | 1 => 1
  | 2 => 3
  | 3 => 1
  | 4 => 7
  | _ => 0
theorem sch_len (κ r : Nat) (g : rgT) (h : (sch κ)[r]? = some g) : g.1 + g.2.1 ≤ bln κ := by
  have hm := List.mem_of_getElem? h
  match κ, hm with
  | 0, hm => exact (by decide : ∀ g ∈ sch 0, g.1 + g.2.1 ≤ bln 0) g hm
  | 1, hm => exact (by decide : ∀ g ∈ sch 1, g.1 + g.2.1 ≤ bln 1) g hm
  | 2, hm => exact (by decide : ∀ g ∈ sch 2, g.1 + g.2.1 ≤ bln 2) g hm
  | 3, hm => exact (by decide : ∀ g ∈ sch 3, g.1 + g.2.1 ≤ bln 3) g hm
  | 4, hm => exact (by decide : ∀ g ∈ sch 4, g.1 + g.2.1 ≤ bln 4) g hm
  | n + 5, hm => exact absurd hm (by simp [sch])
theorem sch_pw (κ : Nat) : (sch κ).Pairwise (fun g g' => g.1 + g.2.1 ≤ g'.1) := by
  match κ with
  | 0 => decide
  | 1 => decide
  | 2 => decide
  | 3 => decide
  | 4 => decide
  | n + 5 => exact List.Pairwise.nil
theorem sch_apart (κ r r' : Nat) (g g' : rgT) (h : (sch κ)[r]? = some g) (h' : (sch κ)[r']? = some g') (hr : r ≠ r') : g.1 + g.2.1 ≤ g'.1 ∨ g'.1 + g'.2.1 ≤ g.1 := by
  obtain ⟨l1, e1⟩ := List.getElem?_eq_some_iff.mp h
  obtain ⟨l2, e2⟩ := List.getElem?_eq_some_iff.mp h'
  have hp := List.pairwise_iff_getElem.mp (sch_pw κ)
  rcases Nat.lt_or_gt_of_ne hr with hl | hl
  · have := hp r r' l1 l2 hl
    rw [e1, e2] at this
    exact Or.inl this
  · have := hp r' r l2 l1 hl
    rw [e1, e2] at this
    exact Or.inr this
