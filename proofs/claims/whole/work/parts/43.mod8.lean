abbrev tn (c : wdT) : Nat := nz (wI c 2 0 1 0 0)
/-- the tape's byte at p -/
def bt (c : wdT) (p : Nat) : Int32 := if p < tn c then wI c 2 0 2 0 p else -1
theorem ltn {c : wdT} (hc : ct (wI c 2 0 1 0 0) 2000) {p : Nat} (hp : p < 2 ^ 31) : nI p < wI c 2 0 1 0 0 ↔ p < tn c := by
  have h2 := hc.2
  rw [hc.1, nI_ltI hp (by omega)]
theorem bon_bt {c : wdT} (hc : ct (wI c 2 0 1 0 0) 2000) {p : Nat} (hp : p < 2 ^ 31) : bon c (nI p) = bt c p := by
  unfold bon bt
  have e : (0 ≤ nI p ∧ nI p < wI c 2 0 1 0 0) ↔ p < tn c := ⟨fun z => (ltn hc hp).mp z.2, fun z => ⟨by rw [Int32.le_iff_toInt_le, i0, nI_toInt hp]; omega, (ltn hc hp).mpr z⟩⟩
  by_cases h : p < tn c
  · rw [if_pos h, if_pos (e.mpr h)]
    unfold nz
    rw [nI_clamp hp]
  · rw [if_neg h, if_neg (fun z => h (e.mp z))]
theorem skp_st {c : wdT} (hc : ct (wI c 2 0 1 0 0) 2000) (P : Int32 → Prop) : ∀ m p, tn c ≤ p + m → p + m < 2 ^ 30 → skp c P m p = skp c P (m + 1) p
  | 0, p, h, hb => by
    rw [skp_s, if_neg (fun z => by have := (ltn hc (by omega)).mp z.1; omega)]
    rfl
  | m + 1, p, h, hb => by
    rw [skp_s, skp_s]
    rw [skp_st hc P m (p + 1) (by omega) (by omega)]
theorem skp_go {c : wdT} (hc : ct (wI c 2 0 1 0 0) 2000) {P : Int32 → Prop} {p : Nat} (h : p < tn c) (hP : P (bt c p)) : skp c P 3000 p = skp c P 3000 (p + 1) := by
  have h2 := hc.2
  have h3 : tn c ≤ 2000 := h2
  rw [skp_s c P 2999 p, if_pos ⟨(ltn hc (by omega)).mpr h, by rw [bon_bt hc (by omega)]; exact hP⟩]
  exact skp_st hc P 2999 (p + 1) (by omega) (by omega)
theorem skp_no {c : wdT} (hc : ct (wI c 2 0 1 0 0) 2000) {P : Int32 → Prop} {p : Nat} (hp : p < 2 ^ 31) (h : ¬ (p < tn c ∧ P (bt c p))) : skp c P 3000 p = p := by
  rw [skp_s c P 2999 p, if_neg (fun z => h ⟨(ltn hc hp).mp z.1, by rw [← bon_bt hc hp]; exact z.2⟩)]
theorem ten_1 {c : wdT} (hc : ct (wI c 2 0 1 0 0) 2000) {p : Nat} (hp : p < 2000) (h : p + 1 < tn c) (hd : dgt (bt c (p + 1))) : ¬ ten c p = p + 1 := by
  unfold ten
  rw [skp_go hc h hd]
  have := (skp_le c dgt 3000 (p + 1 + 1)).1
  omega
theorem ten_0 {c : wdT} (hc : ct (wI c 2 0 1 0 0) 2000) {p : Nat} (hp : p < 2000) (h : ¬ (p + 1 < tn c ∧ dgt (bt c (p + 1)))) : ten c p = p + 1 := by
  unfold ten
  exact skp_no hc (by omega) h
/-- the lines of the tape, from p on -/
noncomputable def psL (c : wdT) : Nat → Nat → Int64 → List (Int32 × Int64 × Int32)
  | 0, _, _ => []
  | m + 1, p, t => if nI p < wI c 2 0 1 0 0 then
      (if bon c (nI p) = 35 then @ite _ (ttOk c p) (Classical.propDecidable _) (psL c m (skp c blk 3000 (ten c p)) (tnm c p)) []
       else @ite _ (tlOk c t p) (Classical.propDecidable _) ((bon c (nI p + 1) - 33, t, vof (bon c (nI p))) :: psL c m (skp c blk 3000 (p + 2)) t) [])
      else []
theorem psL_s (c : wdT) (m p : Nat) (t : Int64) : psL c (m + 1) p t = if nI p < wI c 2 0 1 0 0 then
      (if bon c (nI p) = 35 then @ite _ (ttOk c p) (Classical.propDecidable _) (psL c m (skp c blk 3000 (ten c p)) (tnm c p)) []
       else @ite _ (tlOk c t p) (Classical.propDecidable _) ((bon c (nI p + 1) - 33, t, vof (bon c (nI p))) :: psL c m (skp c blk 3000 (p + 2)) t) [])
      else [] := rfl
theorem ps_len (c : wdT) : ∀ m p t f, (ps c m p t f).2 = f + (psL c m p t).length
  | 0, _, _, _ => rfl
  | m + 1, p, t, f => by
    rw [ps_s, psL_s]
    split
    · split
      · split
        · exact ps_len c m _ _ f
        · rfl
      · split
        · rw [ps_len c m _ _ (f + 1), List.length_cons]
          omega
        · rfl
    · rfl
def ap1 (u : wdT) (x : Int32 × Int64 × Int32) : wdT := apW u 0 (nz (wI u 0 0 4 0 0)) 0 x.1 x.2.1 x.2.2
def apL (u : wdT) (L : List (Int32 × Int64 × Int32)) : wdT := L.foldl ap1 u
theorem psT_apL (c : wdT) : ∀ m p t u, psT c 1 m p t u = apL u (psL c m p t)
  | 0, _, _, _ => rfl
  | m + 1, p, t, u => by
    rw [psT_s, psL_s]
    split
    · split
      · split
        · exact psT_apL c m _ _ u
        · rfl
      · split
        · rw [psT_apL c m _ _ _]
          unfold tlA
          rw [if_neg (by decide)]
          rfl
        · rfl
    · rfl
/-- what a line must be -/
def tkOk (c : wdT) (x : Int32 × Int64 × Int32) : Prop := isN c x.1 ∧ rg x.2.2 0 3 ∧ wL c 0 0 0 0 0 ≤ x.2.1 ∧ x.2.1 ≤ 1000000000
theorem vof_rg {x : Int32} (h : ¬ vof x = -1) : rg (vof x) 0 3 := by
  unfold vof at h ⊢
  rw [vfl_s, vfl_s, vfl_s, vfl_s] at h ⊢
  repeat' split
  all_goals first | exact ⟨by decide, by decide⟩ | skip
  rename_i h1 h2 h3 h4
  rw [if_neg h1, if_neg h2, if_neg h3, if_neg h4] at h
  exact absurd rfl h
theorem psL_ok (c : wdT) : ∀ m p t, (t = -1 ∨ (wL c 0 0 0 0 0 ≤ t ∧ t ≤ 1000000000)) → ∀ x ∈ psL c m p t, tkOk c x
  | 0, _, _, _, x, hx => by cases hx
  | m + 1, p, t, ht, x, hx => by
    rw [psL_s] at hx
    split at hx
    · split at hx
      · split at hx
        · rename_i h
          exact psL_ok c m _ _ (Or.inr h.2) x hx
        · cases hx
      · split at hx
        · rename_i h
          rcases List.mem_cons.mp hx with e | hx
          · rw [e]
            exact ⟨h.2.2, vof_rg h.1, ht.resolve_left h.2.1⟩
          · exact psL_ok c m _ _ ht x hx
        · cases hx
    · cases hx
noncomputable def allL (c : wdT) : List (Int32 × Int64 × Int32) := psL c 2000 (skp c blk 3000 0) (-1)
/-- the lines that the reference has put down -/
def arr (u : wdT) (L : List (Int32 × Int64 × Int32)) : Prop := ∀ j x, L[j]? = some x → wI u 4 0 5 0 j = x.1 ∧ (wI u 4 0 4 0 j).toInt64 = x.2.1 ∧ wI u 4 0 6 0 j = x.2.2
def tmR (tm : Int32) (t : Int64) : Prop := (tm = -1 ∧ t = -1) ∨ (0 ≤ tm.toInt ∧ tm.toInt ≤ 1000000000 ∧ t = tm.toInt64)
/-- how far the reference has read: place p, k lines, the time -/
def rdI (c u : wdT) (p k : Nat) (tm : Int32) : Prop := ∃ m t L0, ps c m (skp c blk 3000 p) t k = psO c ∧ allL c = L0 ++ psL c m (skp c blk 3000 p) t ∧ L0.length = k ∧ arr u L0 ∧ tmR tm t ∧ 2 * k ≤ p ∧ p ≤ 2001 ∧ tn c ≤ p + m
theorem rdI_b {c u : wdT} (hc : ct (wI c 2 0 1 0 0) 2000) {p k : Nat} {tm : Int32} (h : rdI c u p k tm) (hp : p < tn c) (hb : blk (bt c p)) : rdI c u (p + 1) k tm := by
  obtain ⟨m, t, L0, h1, h2, h3, h4, h5, h6, h7, h8⟩ := h
  rw [skp_go hc hp hb] at h1 h2
  have h9 : tn c ≤ 2000 := hc.2
  exact ⟨m, t, L0, h1, h2, h3, h4, h5, by omega, by omega, by omega⟩
theorem rdI_e {c u : wdT} (hc : ct (wI c 2 0 1 0 0) 2000) {p k : Nat} {tm : Int32} (h : rdI c u p k tm) (hp : ¬ p < tn c) : psO c = (none, k) ∧ (allL c).length = k ∧ arr u (allL c) := by
  obtain ⟨m, t, L0, h1, h2, h3, h4, h5, h6, h7, h8⟩ := h
  rw [skp_no hc (by omega) (fun z => hp z.1)] at h1 h2
  have e1 : ps c m p t k = (none, k) := by
    cases m with
    | zero => rfl
    | succ m => rw [ps_s, if_neg (fun z => hp ((ltn hc (by omega)).mp z))]
  have e2 : psL c m p t = [] := by
    cases m with
    | zero => rfl
    | succ m => rw [psL_s, if_neg (fun z => hp ((ltn hc (by omega)).mp z))]
  rw [e2, List.append_nil] at h2
  rw [h2]
  exact ⟨h1.symm.trans e1, h3, h4⟩
theorem rdI_t {c u : wdT} (hc : ct (wI c 2 0 1 0 0) 2000) {p k : Nat} {tm : Int32} (h : rdI c u p k tm) (hp : p < tn c) (hb : ¬ blk (bt c p)) (h35 : bt c p = 35) {tm' : Int32} (ht : ttOk c p) (htm : tmR tm' (tnm c p)) : rdI c u (ten c p) k tm' := by
  obtain ⟨m, t, L0, h1, h2, h3, h4, h5, h6, h7, h8⟩ := h
  have h9 : tn c ≤ 2000 := hc.2
  rw [skp_no hc (by omega) (fun z => hb z.2)] at h1 h2
  obtain ⟨m, rfl⟩ : ∃ m', m = m' + 1 := ⟨m - 1, by omega⟩
  rw [ps_s, if_pos ((ltn hc (by omega)).mpr hp), if_pos (by rw [bon_bt hc (by omega)]; exact h35), if_pos ht] at h1
  rw [psL_s, if_pos ((ltn hc (by omega)).mpr hp), if_pos (by rw [bon_bt hc (by omega)]; exact h35), if_pos ht] at h2
  have h10 := (skp_le c dgt 3000 (p + 1)).1
  have h11 : ten c p ≤ 2001 := skp_b c dgt 2001 (by decide) hc.1 (by have := hc.2; omega) _ _ (by omega)
  have h12 : p + 1 ≤ ten c p := h10
  exact ⟨m, _, L0, h1, h2, h3, h4, htm, by omega, h11, by omega⟩
theorem rdI_tf {c u : wdT} (hc : ct (wI c 2 0 1 0 0) 2000) {p k : Nat} {tm : Int32} (h : rdI c u p k tm) (hp : p < tn c) (hb : ¬ blk (bt c p)) (h35 : bt c p = 35) (ht : ¬ ttOk c p) : psO c = (some p, k) := by
  obtain ⟨m, t, L0, h1, h2, h3, h4, h5, h6, h7, h8⟩ := h
  rw [skp_no hc (by omega) (fun z => hb z.2)] at h1 h2
  obtain ⟨m, rfl⟩ : ∃ m', m = m' + 1 := ⟨m - 1, by omega⟩
  rw [ps_s, if_pos ((ltn hc (by omega)).mpr hp), if_pos (by rw [bon_bt hc (by omega)]; exact h35), if_neg ht] at h1
  exact h1.symm
/-- a line is right -/
def lnF (c : wdT) (tm : Int32) (p : Nat) : Prop := 0 ≤ vof (bt c p) ∧ p + 1 < tn c ∧ 0 ≤ tm ∧ isN c (bt c (p + 1) - 33)
theorem vof_0 (x : Int32) : 0 ≤ vof x ↔ ¬ vof x = -1 := by
  constructor
  · intro z e
    rw [e] at z
    exact absurd z (by decide)
  · intro z
    have := (vof_rg z).1
    rw [Int32.le_iff_toInt_le, i0]
    exact this
theorem lnF_iff {c : wdT} (hc : ct (wI c 2 0 1 0 0) 2000) {p : Nat} {tm : Int32} (hp : p < tn c) {t : Int64} (ht : tmR tm t) : lnF c tm p ↔ tlOk c t p := by
  have h9 : tn c ≤ 2000 := hc.2
  unfold lnF tlOk
  rw [show nI p + 1 = nI (p + 1) from nI_1 p, bon_bt hc (by omega), bon_bt hc (by omega), vof_0]
  have e : 0 ≤ tm ↔ ¬ t = -1 := by
    rcases ht with z | z
    · rw [z.1, z.2]; decide
    · rw [Int32.le_iff_toInt_le, i0, z.2.2]
      refine ⟨fun _ q => ?_, fun _ => z.1⟩
      rw [← up_m1] at q
      have := up_inj q
      rw [this, im1] at z
      omega
  rw [e]
  constructor
  · exact fun z => ⟨z.1, z.2.2.1, z.2.2.2⟩
  · intro z
    refine ⟨z.1, ?_, z.2.1, z.2.2⟩
    refine Classical.byContradiction (fun q => ?_)
    have e1 : bt c (p + 1) = -1 := by unfold bt; rw [if_neg q]
    rw [e1] at z
    exact absurd z.2.2.1 (by decide)
theorem rdI_l {c u : wdT} (hc : ct (wI c 2 0 1 0 0) 2000) {p k : Nat} {tm : Int32} (h : rdI c u p k tm) (hp : p < tn c) (hb : ¬ blk (bt c p)) (h35 : ¬ bt c p = 35) (hl : lnF c tm p) {u' : wdT} (hu : ∀ r j, (r = 4 ∨ r = 5 ∨ r = 6) → j < k → wI u' 4 0 r 0 j = wI u 4 0 r 0 j) (h5' : wI u' 4 0 5 0 k = bt c (p + 1) - 33) (h4' : wI u' 4 0 4 0 k = tm) (h6' : wI u' 4 0 6 0 k = vof (bt c p)) : rdI c u' (p + 2) (k + 1) tm := by
  obtain ⟨m, t, L0, h1, h2, h3, h4, h5, h6, h7, h8⟩ := h
  have h9 : tn c ≤ 2000 := hc.2
  have hlo := (lnF_iff hc hp h5).mp hl
  rw [skp_no hc (by omega) (fun z => hb z.2)] at h1 h2
  obtain ⟨m, rfl⟩ : ∃ m', m = m' + 1 := ⟨m - 1, by omega⟩
  rw [ps_s, if_pos ((ltn hc (by omega)).mpr hp), if_neg (by rw [bon_bt hc (by omega)]; exact h35), if_pos hlo] at h1
  rw [psL_s, if_pos ((ltn hc (by omega)).mpr hp), if_neg (by rw [bon_bt hc (by omega)]; exact h35), if_pos hlo] at h2
  rw [show nI p + 1 = nI (p + 1) from nI_1 p, bon_bt hc (by omega), bon_bt hc (by omega)] at h2
  refine ⟨m, t, L0 ++ [(bt c (p + 1) - 33, t, vof (bt c p))], h1, by rw [h2, List.append_assoc]; rfl, by rw [List.length_append, h3]; rfl, ?_, h5, by omega, by have := hl.2.1; omega, by omega⟩
  intro j x hx
  rcases Nat.lt_or_ge j k with q | q
  · rw [List.getElem?_append_left (by rw [h3]; exact q)] at hx
    rw [hu 5 j (by omega) q, hu 4 j (by omega) q, hu 6 j (by omega) q]
    exact h4 j x hx
  · rw [List.getElem?_append_right (by rw [h3]; exact q), h3] at hx
    rcases Nat.eq_or_lt_of_le q with e | q
    · subst e
      rw [Nat.sub_self] at hx
      cases hx
      refine ⟨h5', ?_, h6'⟩
      rw [h4']
      rcases h5 with z | z
      · exfalso
        have := hl.2.2.1
        rw [z.1] at this
        exact absurd this (by decide)
      · exact z.2.2.symm
    · rw [List.getElem?_eq_none (by show 1 ≤ j - k; omega)] at hx
      cases hx
theorem rdI_lf {c u : wdT} (hc : ct (wI c 2 0 1 0 0) 2000) {p k : Nat} {tm : Int32} (h : rdI c u p k tm) (hp : p < tn c) (hb : ¬ blk (bt c p)) (h35 : ¬ bt c p = 35) (hl : ¬ lnF c tm p) : psO c = (some p, k) := by
  obtain ⟨m, t, L0, h1, h2, h3, h4, h5, h6, h7, h8⟩ := h
  rw [skp_no hc (by omega) (fun z => hb z.2)] at h1 h2
  obtain ⟨m, rfl⟩ : ∃ m', m = m' + 1 := ⟨m - 1, by omega⟩
  rw [ps_s, if_pos ((ltn hc (by omega)).mpr hp), if_neg (by rw [bon_bt hc (by omega)]; exact h35), if_neg (fun z => hl ((lnF_iff hc hp h5).mpr z))] at h1
  exact h1.symm
/-- the number as the reference has it, beside the class's -/
def nvR (a v : Int64) : Prop := 0 ≤ v.toInt ∧ v.toInt ≤ 2000000000 ∧ ((v.toInt ≤ 1000000000 ∧ a = v) ∨ (1000000000 < v.toInt ∧ a = 1000000001))
theorem i64_mul {x y : Int64} (h1 : -9223372036854775808 ≤ x.toInt * y.toInt) (h2 : x.toInt * y.toInt < 9223372036854775808) : (x * y).toInt = x.toInt * y.toInt := by
  rw [Int64.toInt_mul]
  exact Int.bmod_eq_of_le (by omega) (by omega)
theorem nvR_s {a v : Int64} {b : Int32} (h : nvR a v) (hb : dgt b) : nvR (if 1000000001 < a * 10 + (b - 48).toInt64 then 1000000001 else a * 10 + (b - 48).toInt64) (if 10 * v + b.toInt64 - 48 ≤ 2000000000 then 10 * v + b.toInt64 - 48 else 2000000000) := by
  obtain ⟨h1, h2, h3⟩ := h
  have hb1 : 48 ≤ b.toInt := by have := hb.1; rw [Int32.le_iff_toInt_le] at this; exact this
  have hb2 : b.toInt ≤ 57 := by have := hb.2; rw [Int32.le_iff_toInt_le] at this; exact this
  have e10 : (10 : Int64).toInt = 10 := by decide
  have e48 : (48 : Int64).toInt = 48 := by decide
  have e48' : (48 : Int32).toInt = 48 := by decide
  have e2 : (2000000000 : Int64).toInt = 2000000000 := by decide
  have e1 : (1000000001 : Int64).toInt = 1000000001 := by decide
  have m1 : (10 * v).toInt = 10 * v.toInt := by rw [i64_mul (by rw [e10]; omega) (by rw [e10]; omega), e10]
  have m2 : (10 * v + b.toInt64).toInt = 10 * v.toInt + b.toInt := by rw [i64_add (by rw [m1, x64]; omega) (by rw [m1, x64]; omega), m1, x64]
  have m3 : (10 * v + b.toInt64 - 48).toInt = 10 * v.toInt + b.toInt - 48 := by rw [i64_sub (by rw [m2, e48]; omega) (by rw [m2, e48]; omega), m2, e48]
  have d1 : (b - 48).toInt64.toInt = b.toInt - 48 := by rw [x64, i32_sub (by rw [e48']; omega) (by rw [e48']; omega), e48']
  have ha : 0 ≤ a.toInt ∧ a.toInt ≤ 1000000001 := by
    rcases h3 with z | z
    · rw [z.2]; omega
    · rw [z.2, e1]; omega
  have m4 : (a * 10).toInt = a.toInt * 10 := by rw [i64_mul (by rw [e10]; omega) (by rw [e10]; omega), e10]
  have m5 : (a * 10 + (b - 48).toInt64).toInt = a.toInt * 10 + (b.toInt - 48) := by rw [i64_add (by rw [m4, d1]; omega) (by rw [m4, d1]; omega), m4, d1]
  unfold nvR
  rcases h3 with z | z
  · have ez : a.toInt = v.toInt := by rw [z.2]
    by_cases q : 10 * v + b.toInt64 - 48 ≤ 2000000000
    · rw [if_pos q]
      have q2 := q
      rw [Int64.le_iff_toInt_le, m3, e2] at q2
      refine ⟨by omega, by omega, ?_⟩
      by_cases q3 : 1000000001 < a * 10 + (b - 48).toInt64
      · rw [if_pos q3]
        rw [Int64.lt_iff_toInt_lt, m5, e1] at q3
        exact Or.inr ⟨by omega, rfl⟩
      · rw [if_neg q3]
        rw [Int64.lt_iff_toInt_lt, m5, e1] at q3
        rcases (show a.toInt * 10 + (b.toInt - 48) = 1000000001 ∨ a.toInt * 10 + (b.toInt - 48) ≤ 1000000000 by omega) with q4 | q4
        · exact Or.inr ⟨by omega, Int64.toInt_inj.mp (by rw [m5, e1]; exact q4)⟩
        · exact Or.inl ⟨by omega, Int64.toInt_inj.mp (by rw [m5, m3]; omega)⟩
    · rw [if_neg q, e2]
      rw [Int64.le_iff_toInt_le, m3, e2] at q
      refine ⟨by omega, by omega, Or.inr ⟨by omega, ?_⟩⟩
      rw [if_pos (by rw [Int64.lt_iff_toInt_lt, m5, e1]; omega)]
  · have ez : a.toInt = 1000000001 := by rw [z.2]; exact e1
    rw [if_pos (show 1000000001 < a * 10 + (b - 48).toInt64 by rw [Int64.lt_iff_toInt_lt, m5, e1]; omega)]
    by_cases q : 10 * v + b.toInt64 - 48 ≤ 2000000000
    · rw [if_pos q]
      have q2 := q
      rw [Int64.le_iff_toInt_le, m3, e2] at q2
      exact ⟨by omega, by omega, Or.inr ⟨by omega, rfl⟩⟩
    · rw [if_neg q, e2]
      exact ⟨by omega, by omega, Or.inr ⟨by omega, rfl⟩⟩
theorem nvR_ok {a v now : Int64} (h : nvR a v) : (v < now ∨ ¬ v ≤ 1000000000) ↔ ¬ (now ≤ a ∧ a ≤ 1000000000) := by
  obtain ⟨h1, h2, h3⟩ := h
  have e1 : (1000000001 : Int64).toInt = 1000000001 := by decide
  simp only [Int64.lt_iff_toInt_lt, Int64.le_iff_toInt_le, i9]
  rcases h3 with z | z
  · rw [z.2]; omega
  · rw [z.2, e1]; omega
theorem ps_b (c : wdT) (hc : ct (wI c 2 0 1 0 0) 2000) : ∀ m p t f, p ≤ 2001 → (ps c m p t f).2 ≤ f + m ∧ ∀ q, (ps c m p t f).1 = some q → q ≤ 2001
  | 0, _, _, _, _ => ⟨Nat.le_refl _, fun q h => by cases h⟩
  | m + 1, p, t, f, hp => by
    have hb : ∀ P m p, p ≤ 2001 → skp c P m p ≤ 2001 := fun P => skp_b c P 2001 (by decide) hc.1 (by have := hc.2; omega)
    rw [ps_s]
    split
    · rename_i h0
      have h1 := (ltn hc (by omega)).mp h0
      have h2 : tn c ≤ 2000 := hc.2
      split
      · split
        · have := ps_b c hc m (skp c blk 3000 (ten c p)) (tnm c p) f (hb _ _ _ (hb _ _ _ (by omega)))
          exact ⟨by omega, this.2⟩
        · exact ⟨by omega, fun q h => by cases h; omega⟩
      · split
        · have := ps_b c hc m (skp c blk 3000 (p + 2)) t (f + 1) (hb _ _ _ (by omega))
          exact ⟨by omega, this.2⟩
        · exact ⟨by omega, fun q h => by cases h; omega⟩
    · exact ⟨by omega, fun q h => by cases h⟩
theorem psO_b {c : wdT} (hc : ct (wI c 2 0 1 0 0) 2000) : (psO c).2 ≤ 2000 ∧ ∀ q, (psO c).1 = some q → q ≤ 2001 := by
  have := ps_b c hc 2000 (skp c blk 3000 0) (-1) 0 (skp_b c blk 2001 (by decide) hc.1 (by have := hc.2; omega) _ _ (by omega))
  exact ⟨by have := this.1; unfold psO; omega, this.2⟩
theorem ap1_n (u : wdT) (x : Int32 × Int64 × Int32) : wI (ap1 u x) 0 0 0 2 0 = wI u 0 0 0 2 0 ∧ wL (ap1 u x) 0 0 0 0 0 = wL u 0 0 0 0 0 ∧ wI (ap1 u x) 0 0 4 0 0 = nI (cH u 0 + 1) := by
  unfold ap1 apW
  simp only [rd_II, rd_IL, rd_LL, rd_LI]
  rw [if_neg (by omega), if_neg (by omega), if_neg (by omega), if_neg (by omega), if_neg (by omega), if_pos (by simp)]
  exact ⟨rfl, rfl, rfl⟩
theorem apL_n (c : wdT) : ∀ (L : List (Int32 × Int64 × Int32)) (u : wdT), wI (apL u L) 0 0 0 2 0 = wI u 0 0 0 2 0 ∧ wL (apL u L) 0 0 0 0 0 = wL u 0 0 0 0 0 ∧ (cH u 0 + L.length < 2 ^ 31 → cH (apL u L) 0 = cH u 0 + L.length)
  | [], u => ⟨rfl, rfl, fun _ => rfl⟩
  | x :: L, u => by
    have h := apL_n c L (ap1 u x)
    have h1 := ap1_n u x
    refine ⟨h.1.trans h1.1, h.2.1.trans h1.2.1, fun q => ?_⟩
    rw [List.length_cons] at q ⊢
    have e : cH (ap1 u x) 0 = cH u 0 + 1 := by
      show nz (wI (ap1 u x) 0 0 4 0 0) = _
      rw [h1.2.2]
      show (nI (cH u 0 + 1)).toNatClampNeg = _
      rw [nI_clamp (by omega)]
    have := h.2.2 (by rw [e]; omega)
    rw [e] at this
    show cH (apL (ap1 u x) L) 0 = _
    rw [this]
    omega
theorem apL_s (u : wdT) (L : List (Int32 × Int64 × Int32)) (j : Nat) (x : Int32 × Int64 × Int32) (h : L[j]? = some x) : apL u (L.take (j + 1)) = ap1 (apL u (L.take j)) x := by
  unfold apL
  have hl : j < L.length := (List.getElem?_eq_some_iff.mp h).1
  have hx : L[j] = x := (List.getElem?_eq_some_iff.mp h).2
  rw [List.take_succ_eq_append_getElem hl, List.foldl_append, hx]
  rfl

/-- the reference's tape is the class's -/
def tpR (c w : wdT) : Prop := wI w 4 0 0 5 0 = wI c 2 0 1 0 0 ∧ ∀ i, i < tn c → wI w 4 0 3 0 i = wI c 2 0 2 0 i
/-- u differs from w at most in the lines put down -/
def frM (w u : wdT) : Prop := (∀ a b r k i, ¬ (a = 4 ∧ b = 0 ∧ (r = 4 ∨ r = 5 ∨ r = 6)) → wI u a b r k i = wI w a b r k i) ∧ u.2 = w.2
theorem frM_rf (w : wdT) : frM w w := ⟨fun _ _ _ _ _ _ => rfl, rfl⟩
theorem frM_s {w u : wdT} {r k i : Nat} {x : Int32} (h : frM w u) (hr : r = 4 ∨ r = 5 ∨ r = 6) : frM w (sI u 4 0 r k i x) := ⟨fun a b r' k' i' z => by rw [rd_II, if_neg (by omega)]; exact h.1 a b r' k' i' z, h.2⟩
/-- .. and in what was thrown and how long the tape is -/
def frR (w w2 : wdT) (T z : Int32) : Prop := (∀ a b r k i, ¬ (a = 4 ∧ b = 0 ∧ (r = 4 ∨ r = 5 ∨ r = 6 ∨ (r = 0 ∧ (k = 0 ∨ k = 5)))) → wI w2 a b r k i = wI w a b r k i) ∧ w2.2 = w.2 ∧ wI w2 4 0 0 0 0 = T ∧ wI w2 4 0 0 5 0 = z
noncomputable def tRd (c : wdT) : Int32 := ifC (rdOk c) 0 1
theorem tp_bt {c w u : wdT} (h : tpR c w) (hf : frM (sI w 4 0 0 0 0 0) u) (p : Nat) : (if p < tn c then wI u 4 0 3 0 p else -1) = bt c p := by
  unfold bt
  by_cases q : p < tn c
  · rw [if_pos q, if_pos q, hf.1 4 0 3 0 p (by omega), rd_II, if_neg (by omega)]
    exact h.2 p q
  · rw [if_neg q, if_neg q]
theorem tp_b {c w u : wdT} (h : tpR c w) (hf : frM (sI w 4 0 0 0 0 0) u) {p : Nat} (q : p < tn c) : wI u 4 0 3 0 p = bt c p := by
  have := tp_bt h hf p
  rw [if_pos q] at this
  exact this
theorem tp_n {c w u : wdT} (hc : ct (wI c 2 0 1 0 0) 2000) (h : tpR c w) (hf : frM (sI w 4 0 0 0 0 0) u) : wI u 4 0 0 5 0 = nI (tn c) := by
  rw [hf.1 4 0 0 5 0 (by omega), rd_II, if_neg (by omega), h.1]
  exact hc.1
theorem nI_p2 (p : Nat) : nI p + 2 = nI (p + 2) := nI_add p 2
theorem nvR_t {a v : Int64} (h : nvR a v) (hv : v ≤ 1000000000) : tmR v.toInt32 a := by
  obtain ⟨h1, h2, h3⟩ := h
  rw [Int64.le_iff_toInt_le, i9] at hv
  obtain ⟨d1, d2⟩ := dn_up h1 hv
  rcases h3 with z | z
  · exact Or.inr ⟨by omega, by omega, by rw [d1]; exact z.2⟩
  · omega
theorem ps_none {c : wdT} {k : Nat} (h : psO c = (none, k)) : rdV c = nI k ∧ rdW c = sI (psU c 1) 2 0 1 0 0 0 ∧ (rdOk c ↔ cH c 0 + k ≤ 100) := by
  refine ⟨?_, ?_, ?_⟩
  · unfold rdV; rw [h]
  · unfold rdW; rw [h]
  · unfold rdOk
    rw [h]
    exact ⟨fun z => z rfl, fun z _ => z⟩
theorem ps_some {c : wdT} {p k : Nat} (h : psO c = (some p, k)) : rdV c = -1 - nI p ∧ rdW c = sI c 2 0 1 0 0 0 ∧ rdOk c := by
  refine ⟨?_, ?_, ?_⟩
  · unfold rdV; rw [h]
  · unfold rdW; rw [h]
  · unfold rdOk
    rw [h]
    intro z
    cases z
theorem Rel_tp {K : Nat} {c : wdT} {f : Nat → Int32} {x : Int32} (h : Rel K c 0 f) : Rel K (sI c 2 0 1 0 0 x) 0 f := Rel_eq (fun r k i => by rw [rd_II, if_neg (by omega)]) (fun r k i => rfl) h
/-- one line more is told -/
theorem Rel_ap {K : Nat} {c u : wdT} {f : Nat → Int32} {x : Int32 × Int64 × Int32} {tm : Int32} (h : Rel K u 0 f) (hc : okC c 0) (hlt : cH u 0 < 100) (hK : K < 1000000000) (h2 : wI u 0 0 0 2 0 = wI c 0 0 0 2 0) (ht : wL u 0 0 0 0 0 = wL c 0 0 0 0 0) (hx : tkOk c x) (hm : tm.toInt64 = x.2.1) :
    Rel (K + 1) (ap1 u x) 0 (fu (fu (fu (fu (fu (fu (fu f 4 (nI (cH u 0 + 1))) (700 + 5 * cH u 0) tm) (700 + 5 * cH u 0 + 1) x.1) (700 + 5 * cH u 0 + 2) 0) (700 + 5 * cH u 0 + 3) x.2.2) (700 + 5 * cH u 0 + 4) (f 7)) 7 (f 7 + 1)) := by
  obtain ⟨x1, x2, x3, x4⟩ := hx
  unfold ap1
  rw [← hm]
  refine Rel_tell h hlt (isN_vn hc x1) ?_ ?_ ⟨by decide, by decide⟩ x2 (fun _ => rfl) hK
  · have := isN_lt hc x1
    unfold cN
    rw [h2]
    exact this
  · rw [← ht, ← h.2.1.1, ← hm, up_le, Int32.le_iff_toInt_le] at x3
    rw [← hm, Int64.le_iff_toInt_le, x64, i9] at x4
    exact ⟨x3, x4⟩
theorem fr_5 {w u : wdT} (h : frM (sI w 4 0 0 0 0 0) u) : frR w (sI u 4 0 0 5 0 0) 0 0 := by
  refine ⟨fun a b r k i z => ?_, h.2, ?_, ?_⟩
  · rw [rd_II, if_neg (by omega), h.1 a b r k i (by omega), rd_II, if_neg (by omega)]
  · rw [rd_II, if_neg (by omega), h.1 4 0 0 0 0 (by omega), rd_II, if_pos (by simp)]
  · rw [rd_II, if_pos (by simp)]
theorem fr_1 {w u : wdT} (h : frM (sI w 4 0 0 0 0 0) u) : frR w (sI u 4 0 0 0 0 1) 1 (wI w 4 0 0 5 0) := by
  refine ⟨fun a b r k i z => ?_, h.2, ?_, ?_⟩
  · rw [rd_II, if_neg (by omega), h.1 a b r k i (by omega), rd_II, if_neg (by omega)]
  · rw [rd_II, if_pos (by simp)]
  · rw [rd_II, if_neg (by omega), h.1 4 0 0 5 0 (by omega), rd_II, if_neg (by omega)]
theorem bt_dg {c : wdT} {p : Nat} (h : dgt (bt c p)) : p < tn c ∧ dgt (bt c p) := by
  refine ⟨Classical.byContradiction (fun z => ?_), h⟩
  unfold bt at h
  rw [if_neg z] at h
  exact absurd h.1 (by decide)
theorem w5n {u : wdT} {r j : Nat} {x y : Int32} (h : wI u 4 0 r 0 j = x) : wI (sI u 4 0 0 5 0 y) 4 0 r 0 j = x := by
  rw [rd_II, if_neg (by omega)]
  exact h
theorem rdI_0 {c u : wdT} (hc : ct (wI c 2 0 1 0 0) 2000) : rdI c u 0 0 (-1) := by
  have h : tn c ≤ 2000 := hc.2
  exact ⟨2000, -1, [], rfl, rfl, rfl, fun j x hx => by simp at hx, Or.inl ⟨rfl, rfl⟩, by omega, by omega, by omega⟩
set_option maxHeartbeats 4000000 in
set_option maxRecDepth 100000 in
theorem con_Mo_read {l : Launch} (hlt : l.stackTraces = false) {E : gE} {B : bsT} {N : nwT} {w : wdT} {f : Nat → Int32} (h4 : N.1 4 0 = true) {K : Nat} {c : wdT} (hc : ct (wI c 2 0 1 0 0) 2000) (htp : tpR c w) (hKK : K + 100 < 1000000000) (hR : Rel K c 0 f) : Con l E y_Mo_read (Cond.code y_Mo_read c_Mo_read 9 (some .int) :: gAll) rm_Mo_read [.ref (ad B 4 0 0 0)] (gw E B N (mW w f)) (fun v H => ∃ f2 w2 b, v = some (.int b) ∧ frR w w2 (tRd c) (ifC (tRd c = 0) 0 (wI w 4 0 0 5 0)) ∧ (tRd c = 0 → b = rdV c ∧ Rel (K + 100) (rdW c) 0 f2) ∧ (¬ tRd c = 0 → f2 = f) ∧ gw E B N (mW w2 f2) H) (fun _ _ => False) 0 0 := by
  refine con_of (by decide) hlt (Nat.le_of_ble_eq_true rfl) ?_
  intro F hF hM htab hnm hE hlo hl
  subst hl
  have hF : Fb F c_Mo_read R_Mo 9 rm_Mo_read := hF
  have hK := hE.1
  have hT := hE.2.1
  refine go_lv (lv' := [(0, _)]) ⟨rfl, trivial⟩ ?_
  have h20 : tn c ≤ 2000 := hc.2
  have JF : ∀ (p k : Nat) (tm x1 : Int32) (u : wdT), psO c = (some p, k) → p ≤ 2001 → frM (sI w 4 0 0 0 0 0) u → Go F 14 [(0, .ref (ad B 4 0 0 0)), (1, .int x1), (2, .int (nI k)), (3, .int tm), (4, .int (nI p))] [] (gw E B N (mW u f)) 0 0 := by
    intro p k tm x1 u hps hp2 hfr
    have hq := ps_some hps
    have hTT : tRd c = 0 := ifC_t hq.2.2
    refine go_iload hF d_Mo_read_14 rfl ?_
    refine go_if_ge (tgt := 282) hF d_Mo_read_16 (by decide) (fun h16 => ?_) (fun h16 => ?_)
    · refine go_iload hF d_Mo_read_282 rfl ?_
      refine go_if_ge (tgt := 307) hF d_Mo_read_284 (by decide) (fun h284 => ?_) (fun h284 => ?_)
      · refine go_aload_n hF d_Mo_read_307 rfl ?_
        refine go_iconst (v := 0) hF d_Mo_read_308 (by decide) ?_
        refine gs_puti hF hK hlo d_Mo_read_309 fl_Mo_107 ct_Mo fs_Mo_5 h4 rfl rfl (by decide) rfl rfl ?_
        rw [mW_0]
        refine go_iload hF d_Mo_read_312 rfl ?_
        refine go_if_lt (tgt := 322) hF d_Mo_read_314 (by decide) (fun h314 => ?_) (fun h314 => ?_)
        · exact absurd h314 (nI_pos (show p < 2 ^ 31 by omega))
        · refine go_iconst (v := -1) hF d_Mo_read_317 (by decide) ?_
          refine go_iload hF d_Mo_read_318 rfl ?_
          refine go_isub hF d_Mo_read_320 ?_
          exact go_iret hF hM d_Mo_read_321 (by decide) (by decide) (fun H hG => ⟨f, _, _, rfl, by rw [hTT, ifC_t rfl]; exact fr_5 hfr, fun _ => ⟨hq.1.symm, by rw [hq.2.1]; exact Rel_tp (Rel_K (by omega) hR)⟩, fun z => absurd hTT z, hG⟩)
      · exact absurd (nI_pos' (show p < 2 ^ 31 by omega)) h284
    · exact absurd (nI_pos' (show p < 2 ^ 31 by omega)) h16
  have L325 : ∀ (tm x1 : Int32) (u : wdT), frM (sI w 4 0 0 0 0 0) u → arr u (allL c) → psO c = (none, (allL c).length) → cH c 0 + (allL c).length ≤ 100 → ∀ (m j : Nat) (f2 : Nat → Int32), (allL c).length - j = m → j ≤ (allL c).length → Rel (K + j) (apL c ((allL c).take j)) 0 f2 → Go F 325 [(0, .ref (ad B 4 0 0 0)), (1, .int x1), (2, .int (nI (allL c).length)), (3, .int tm), (4, .int (-1)), (5, .int (nI j))] [] (gw E B N (mW (sI u 4 0 0 5 0 0) f2)) 0 0 := by
    intro tm x1 u hfr harr hps hcap
    intro m
    induction m using Nat.strongRecOn with
    | _ m ih =>
      intro j f2 hm hj hr
      have hq := ps_none hps
      have hTT : tRd c = 0 := ifC_t (hq.2.2.mpr hcap)
      have han := apL_n c ((allL c).take j) c
      have htl : ((allL c).take j).length = j := by rw [List.length_take]; omega
      refine go_iload hF d_Mo_read_325 rfl ?_
      refine go_iload_n hF d_Mo_read_327 rfl ?_
      refine go_icmp_ge (tgt := 363) hF d_Mo_read_328 (by decide) (fun h328 => ?_) (fun h328 => ?_)
      · refine go_iload_n hF d_Mo_read_363 rfl ?_
        exact go_iret hF hM d_Mo_read_364 (by decide) (by decide) (fun H hG => ⟨f2, _, _, rfl, by rw [hTT, ifC_t rfl]; exact fr_5 hfr, fun _ => ⟨hq.1.symm, by
          have hj2 : j = (allL c).length := by
            have hl9 : (allL c).length ≤ 100 := by omega
            have := (nI_leI (a := (allL c).length) (b := j) (by omega) (by omega)).mp h328
            omega
          rw [hq.2.1]
          have hr2 : Rel (K + j) (apL c (allL c)) 0 f2 := by
            have e : (allL c).take j = allL c := by rw [hj2, List.take_length]
            rw [e] at hr
            exact hr
          rw [show psU c 1 = apL c (allL c) from psT_apL c _ _ _ _]
          exact Rel_tp (Rel_K (by omega) hr2)⟩, fun z => absurd hTT z, hG⟩)
      · have hjl : j < (allL c).length := by
          have hl9 : (allL c).length ≤ 100 := by omega
          have z : ¬ (allL c).length ≤ j := fun z => h328 ((nI_leI (a := (allL c).length) (b := j) (by omega) (by omega)).mpr z)
          omega
        obtain ⟨x, hx⟩ : ∃ x, (allL c)[j]? = some x := ⟨_, List.getElem?_eq_getElem hjl⟩
        obtain ⟨y1, y2, y3⟩ := harr j x hx
        have hcj : cH (apL c ((allL c).take j)) 0 = cH c 0 + j := by rw [han.2.2 (by rw [htl]; omega), htl]
        have hrn := Rel_ap hr hR.1 (by omega) (by omega) han.1 han.2.1 (psL_ok c 2000 _ (-1) (Or.inl rfl) x (List.mem_of_getElem? hx)) y2
        refine go_aload_n hF d_Mo_read_331 rfl ?_
        refine go_aload_n hF d_Mo_read_332 rfl ?_
        refine gs_getr hF hK d_Mo_read_333 fl_Mo_22 h4 rfl rfl (by decide) rfl ?_
        refine go_iload hF d_Mo_read_336 rfl ?_
        refine gs_mo (r := 5) hF hK hT d_Mo_read_338 h4 (by decide) rfl rfl rfl (by omega) (by decide) ?_
        refine go_aload_n hF d_Mo_read_339 rfl ?_
        refine gs_getr hF hK d_Mo_read_340 fl_Mo_19 h4 rfl rfl (by decide) rfl ?_
        refine go_iload hF d_Mo_read_343 rfl ?_
        refine gs_mo (r := 4) hF hK hT d_Mo_read_345 h4 (by decide) rfl rfl rfl (by omega) (by decide) ?_
        refine go_iconst (v := 0) hF d_Mo_read_346 (by decide) ?_
        refine go_aload_n hF d_Mo_read_347 rfl ?_
        refine gs_getr hF hK d_Mo_read_348 fl_Mo_25 h4 rfl rfl (by decide) rfl ?_
        refine go_iload hF d_Mo_read_351 rfl ?_
        refine gs_mo (r := 6) hF hK hT d_Mo_read_353 h4 (by decide) rfl rfl rfl (by omega) (by decide) ?_
        rw [w5n y1, w5n y3, w5n (rfl : wI u 4 0 4 0 j = wI u 4 0 4 0 j)]
        refine go_callVX hF hE hlo d_Mo_read_354 (con_Mo_tell (k := cH (apL c ((allL c).take j)) 0) hlt h4 (Rel_h hr).1 (by omega)) mt_Mo_tell mv_Mo_tell lk_Mo_83 ⟨rfl, rfl, by decide, by decide⟩ rfl (Nat.le_of_ble_eq_true rfl) ⟨by decide, by decide⟩ (fun H hG => gw_recv (q := (R_Mo, T_Mo, 9)) hK hG h4 rfl rfl (by decide) rfl) (fun M => gx_no) rfl (fun v => ?_)
        refine go_and (fun hv => ?_)
        subst hv
        refine go_iincN hF d_Mo_read_357 rfl (by decide) ?_
        refine go_lv (lv' := [(0, _), (1, _), (2, _), (3, _), (4, _), (5, _)]) ⟨rfl, rfl, rfl, rfl, rfl, rfl, trivial⟩ ?_
        refine go_goto (tgt := 325) hF d_Mo_read_360 (by decide) ?_
        refine go_lv (lv' := [(0, _), (1, _), (2, _), (3, _), (4, _), (5, _)]) ⟨rfl, rfl, rfl, rfl, rfl, rfl, trivial⟩ ?_
        exact ih _ (by omega) (j + 1) _ rfl (by omega) (by rw [apL_s c (allL c) j x hx]; exact hrn)
  have L98 : ∀ (p k : Nat) (tm : Int32) (u : wdT), frM (sI w 4 0 0 0 0 0) u → rdI c u p k tm → p < tn c → ¬ blk (bt c p) → bt c p = 35 → (p + 1 < tn c ∧ dgt (bt c (p + 1))) → (∀ (p' : Nat) (tm' : Int32), p < p' → rdI c u p' k tm' → Go F 14 [(0, .ref (ad B 4 0 0 0)), (1, .int (nI p')), (2, .int (nI k)), (3, .int tm'), (4, .int (-1))] [] (gw E B N (mW u f)) 0 0) → ∀ (m q : Nat) (a v : Int64), 3000 - q = m → p + 1 ≤ q → q ≤ ten c p → skp c dgt 3000 q = ten c p → nmb c (ten c p - q) q a = tnm c p → nvR a v → Go F 98 [(0, .ref (ad B 4 0 0 0)), (1, .int (nI q)), (2, .int (nI k)), (3, .int tm), (4, .int (-1)), (5, .int (bt c p)), (6, .int (nI p)), (7, .long v)] [] (gw E B N (mW u f)) 0 0 := by
    intro p k tm u hfr hri hpn hnb h35 hdg hI
    intro m
    induction m using Nat.strongRecOn with
    | _ m ih =>
      intro q a v hm hq1 hq2 hsk hnm2 hnv
      have htn := tp_n hc htp hfr
      have hten : ten c p ≤ 2001 := skp_b c dgt 2001 (by decide) hc.1 (by have := hc.2; omega) _ _ (by omega)
      refine go_aload_n hF d_Mo_read_98 rfl ?_
      refine go_iload_n hF d_Mo_read_99 rfl ?_
      refine go_callVX hF hE hlo d_Mo_read_100 (con_Mo_byteAt (p := q) (n := tn c) hlt h4 rfl htn h20 (by omega)) mt_Mo_byteAt mv_Mo_byteAt lk_Mo_110 ⟨rfl, rfl, by decide, by decide⟩ rfl (Nat.le_of_ble_eq_true rfl) ⟨by decide, by decide⟩ (fun H hG => gw_recv (q := (R_Mo, T_Mo, 9)) hK hG h4 rfl rfl (by decide) rfl) (fun M => gx_no) rfl (fun v => ?_)
      refine go_and (fun hv => ?_)
      subst hv
      rw [show (if q < tn c then wI u 4 0 3 0 (q) else -1) = bt c (q) from tp_bt htp hfr _]
      refine go_callSX hF hE hlo d_Mo_read_103 (con_Mo_isDigit hlt (bt c q)) mt_Mo_isDigit ms_Mo_isDigit lk_Mo_113 ⟨rfl, rfl, by decide, by decide⟩ rfl (Nat.le_of_ble_eq_true rfl) ⟨by decide, by decide⟩ (fun M => gx_no) rfl (fun v => ?_)
      refine go_and (fun hv => ?_)
      subst hv
      refine go_if_eq (tgt := 154) hF d_Mo_read_106 (by decide) (fun h106 => ?_) (fun h106 => ?_)
      · have hqe : q = ten c p := by rw [← hsk]; exact (skp_no hc (by omega) (fun z => bi_0 h106 z.2)).symm
        subst hqe
        rw [Nat.sub_self] at hnm2
        have hnm3 : a = tnm c p := hnm2
        subst hnm3
        refine go_lload hF d_Mo_read_154 rfl ?_
        refine go_aload_n hF d_Mo_read_156 rfl ?_
        refine gs_getr hF hK d_Mo_read_157 fl_Mo_7 h4 rfl rfl (by decide) rfl ?_
        refine go_iconst (v := 0) hF d_Mo_read_160 (by decide) ?_
        refine gs_md hF hK hT d_Mo_read_161 h4 (show (0 : Int32) = nI 0 from rfl) (by decide) ?_
        refine go_i2l hF d_Mo_read_162 ?_
        refine go_lif_lt (tgt := 176) hF d_Mo_read_163 d_Mo_read_164 (by decide) (fun h163 => ?_) (fun h163 => ?_)
        · refine go_iload hF d_Mo_read_176 rfl ?_
          refine go_goto (tgt := 182) hF d_Mo_read_178 (by decide) ?_
          refine go_istore hF d_Mo_read_182 (by decide) ?_
          refine go_lv (lv' := [(0, _), (1, _), (2, _), (3, _), (4, _), (5, _), (6, _), (7, _)]) ⟨rfl, rfl, rfl, rfl, rfl, rfl, rfl, rfl, trivial⟩ ?_
          refine go_lload hF d_Mo_read_184 rfl ?_
          refine go_l2i hF d_Mo_read_186 ?_
          refine go_istore_n hF d_Mo_read_187 (by decide) ?_
          refine go_lv (lv' := [(0, _), (1, _), (2, _), (3, _), (4, _), (5, _), (6, _), (7, _)]) ⟨rfl, rfl, rfl, rfl, rfl, rfl, rfl, rfl, trivial⟩ ?_
          refine go_goto (tgt := 279) hF d_Mo_read_188 (by decide) ?_
          refine go_goto (tgt := 14) hF d_Mo_read_279 (by decide) ?_
          refine go_lv (lv' := [(0, _), (1, _), (2, _), (3, _), (4, _)]) ⟨rfl, rfl, rfl, rfl, rfl, trivial⟩ ?_
          exact JF p k _ _ u (rdI_tf hc hri hpn hnb h35 (fun z => (nvR_ok hnv).mp (Or.inl (by rw [← hR.2.1.1]; exact h163)) z.2)) (by omega) hfr
        · refine go_lload hF d_Mo_read_167 rfl ?_
          refine go_ldc2 hF kl_Mo_81 d_Mo_read_169 ?_
          refine go_lif_le (tgt := 181) hF d_Mo_read_172 d_Mo_read_173 (by decide) (fun h172 => ?_) (fun h172 => ?_)
          · refine go_iconst (v := -1) hF d_Mo_read_181 (by decide) ?_
            refine go_istore hF d_Mo_read_182 (by decide) ?_
            refine go_lv (lv' := [(0, _), (1, _), (2, _), (3, _), (4, _), (5, _), (6, _), (7, _)]) ⟨rfl, rfl, rfl, rfl, rfl, rfl, rfl, rfl, trivial⟩ ?_
            refine go_lload hF d_Mo_read_184 rfl ?_
            refine go_l2i hF d_Mo_read_186 ?_
            refine go_istore_n hF d_Mo_read_187 (by decide) ?_
            refine go_lv (lv' := [(0, _), (1, _), (2, _), (3, _), (4, _), (5, _), (6, _), (7, _)]) ⟨rfl, rfl, rfl, rfl, rfl, rfl, rfl, rfl, trivial⟩ ?_
            refine go_goto (tgt := 279) hF d_Mo_read_188 (by decide) ?_
            refine go_goto (tgt := 14) hF d_Mo_read_279 (by decide) ?_
            refine go_lv (lv' := [(0, _), (1, _), (2, _), (3, _), (4, _)]) ⟨rfl, rfl, rfl, rfl, rfl, trivial⟩ ?_
            exact hI (ten c p) v.toInt32 (by omega) (rdI_t hc hri hpn hnb h35 ⟨ten_1 hc (by omega) hdg.1 hdg.2, Classical.byContradiction (fun z => ((nvR_ok hnv).mpr z).elim (fun z => h163 (by rw [hR.2.1.1]; exact z)) (fun z => z h172))⟩ (nvR_t hnv h172))
          · refine go_iload hF d_Mo_read_176 rfl ?_
            refine go_goto (tgt := 182) hF d_Mo_read_178 (by decide) ?_
            refine go_istore hF d_Mo_read_182 (by decide) ?_
            refine go_lv (lv' := [(0, _), (1, _), (2, _), (3, _), (4, _), (5, _), (6, _), (7, _)]) ⟨rfl, rfl, rfl, rfl, rfl, rfl, rfl, rfl, trivial⟩ ?_
            refine go_lload hF d_Mo_read_184 rfl ?_
            refine go_l2i hF d_Mo_read_186 ?_
            refine go_istore_n hF d_Mo_read_187 (by decide) ?_
            refine go_lv (lv' := [(0, _), (1, _), (2, _), (3, _), (4, _), (5, _), (6, _), (7, _)]) ⟨rfl, rfl, rfl, rfl, rfl, rfl, rfl, rfl, trivial⟩ ?_
            refine go_goto (tgt := 279) hF d_Mo_read_188 (by decide) ?_
            refine go_goto (tgt := 14) hF d_Mo_read_279 (by decide) ?_
            refine go_lv (lv' := [(0, _), (1, _), (2, _), (3, _), (4, _)]) ⟨rfl, rfl, rfl, rfl, rfl, trivial⟩ ?_
            exact JF p k _ _ u (rdI_tf hc hri hpn hnb h35 (fun z => (nvR_ok hnv).mp (Or.inr h172) z.2)) (by omega) hfr
      · obtain ⟨hqn, hqd⟩ : q < tn c ∧ dgt (bt c q) := bt_dg (bi_1 h106)
        have hq3 : q + 1 ≤ ten c p := by rw [← hsk, skp_go hc hqn hqd]; exact (skp_le c dgt 3000 (q + 1)).1
        refine go_ldc2 hF kl_Mo_116 d_Mo_read_109 ?_
        refine go_lload hF d_Mo_read_112 rfl ?_
        refine go_lmul hF d_Mo_read_114 ?_
        refine go_aload_n hF d_Mo_read_115 rfl ?_
        refine gs_getr hF hK d_Mo_read_116 fl_Mo_16 h4 rfl rfl (by decide) rfl ?_
        refine go_iload_n hF d_Mo_read_119 rfl ?_
        refine gs_mo (r := 3) hF hK hT d_Mo_read_120 h4 (by decide) rfl rfl rfl (by omega) (by decide) ?_
        rw [tp_b htp hfr hqn]
        refine go_i2l hF d_Mo_read_121 ?_
        refine go_ladd hF d_Mo_read_122 ?_
        refine go_ldc2 hF kl_Mo_118 d_Mo_read_123 ?_
        refine go_lsub hF d_Mo_read_126 ?_
        refine go_lstore hF d_Mo_read_127 (by decide) ?_
        refine go_lv (lv' := [(0, _), (1, _), (2, _), (3, _), (4, _), (5, _), (6, _), (7, _)]) ⟨rfl, rfl, rfl, rfl, rfl, rfl, rfl, rfl, trivial⟩ ?_
        refine go_lload hF d_Mo_read_129 rfl ?_
        refine go_ldc2 hF kl_Mo_120 d_Mo_read_131 ?_
        refine go_lif_le (tgt := 144) hF d_Mo_read_134 d_Mo_read_135 (by decide) (fun h134 => ?_) (fun h134 => ?_)
        · refine go_lload hF d_Mo_read_144 rfl ?_
          refine go_lstore hF d_Mo_read_146 (by decide) ?_
          refine go_lv (lv' := [(0, _), (1, _), (2, _), (3, _), (4, _), (5, _), (6, _), (7, _)]) ⟨rfl, rfl, rfl, rfl, rfl, rfl, rfl, rfl, trivial⟩ ?_
          refine go_iincN hF d_Mo_read_148 rfl (by decide) ?_
          refine go_lv (lv' := [(0, _), (1, _), (2, _), (3, _), (4, _), (5, _), (6, _), (7, _)]) ⟨rfl, rfl, rfl, rfl, rfl, rfl, rfl, rfl, trivial⟩ ?_
          refine go_goto (tgt := 98) hF d_Mo_read_151 (by decide) ?_
          refine go_lv (lv' := [(0, _), (1, _), (2, _), (3, _), (4, _), (5, _), (6, _), (7, .long (if 10 * v + (bt c q).toInt64 - 48 ≤ 2000000000 then 10 * v + (bt c q).toInt64 - 48 else 2000000000))]) ⟨rfl, rfl, rfl, rfl, rfl, rfl, rfl, by rw [if_pos h134]; rfl, trivial⟩ ?_
          exact ih _ (by omega) (q + 1) _ _ rfl (by omega) hq3 (by rw [← skp_go hc hqn hqd]; exact hsk) (by rw [← hnm2, show ten c p - q = (ten c p - (q + 1)) + 1 by omega, nmb_s, bon_bt hc (by omega)]) (nvR_s hnv hqd)
        · refine go_ldc2 hF kl_Mo_120 d_Mo_read_138 ?_
          refine go_goto (tgt := 146) hF d_Mo_read_141 (by decide) ?_
          refine go_lstore hF d_Mo_read_146 (by decide) ?_
          refine go_lv (lv' := [(0, _), (1, _), (2, _), (3, _), (4, _), (5, _), (6, _), (7, _)]) ⟨rfl, rfl, rfl, rfl, rfl, rfl, rfl, rfl, trivial⟩ ?_
          refine go_iincN hF d_Mo_read_148 rfl (by decide) ?_
          refine go_lv (lv' := [(0, _), (1, _), (2, _), (3, _), (4, _), (5, _), (6, _), (7, _)]) ⟨rfl, rfl, rfl, rfl, rfl, rfl, rfl, rfl, trivial⟩ ?_
          refine go_goto (tgt := 98) hF d_Mo_read_151 (by decide) ?_
          refine go_lv (lv' := [(0, _), (1, _), (2, _), (3, _), (4, _), (5, _), (6, _), (7, .long (if 10 * v + (bt c q).toInt64 - 48 ≤ 2000000000 then 10 * v + (bt c q).toInt64 - 48 else 2000000000))]) ⟨rfl, rfl, rfl, rfl, rfl, rfl, rfl, by rw [if_neg h134]; rfl, trivial⟩ ?_
          exact ih _ (by omega) (q + 1) _ _ rfl (by omega) hq3 (by rw [← skp_go hc hqn hqd]; exact hsk) (by rw [← hnm2, show ten c p - q = (ten c p - (q + 1)) + 1 by omega, nmb_s, bon_bt hc (by omega)]) (nvR_s hnv hqd)
  have L14 : ∀ (m p k : Nat) (tm : Int32) (u : wdT), 2001 - p = m → frM (sI w 4 0 0 0 0 0) u → rdI c u p k tm → Go F 14 [(0, .ref (ad B 4 0 0 0)), (1, .int (nI p)), (2, .int (nI k)), (3, .int tm), (4, .int (-1))] [] (gw E B N (mW u f)) 0 0 := by
    intro m
    induction m using Nat.strongRecOn with
    | _ m ih =>
      intro p k tm u hm hfr hri
      have htn := tp_n hc htp hfr
      have hp21 : p ≤ 2001 ∧ 2 * k ≤ p := by obtain ⟨_, _, _, _, _, _, _, _, q1, q2, _⟩ := hri; exact ⟨q2, q1⟩
      refine go_iload hF d_Mo_read_14 rfl ?_
      refine go_if_ge (tgt := 282) hF d_Mo_read_16 (by decide) (fun h16 => ?_) (fun h16 => ?_)
      · exact absurd h16 (by decide)
      · refine go_iload_n hF d_Mo_read_19 rfl ?_
        refine go_aload_n hF d_Mo_read_20 rfl ?_
        refine gs_geti hF hK d_Mo_read_21 fl_Mo_107 h4 rfl rfl (by decide) rfl ?_
        rw [mW_g]
        refine go_icmp_ge (tgt := 282) hF d_Mo_read_24 (by decide) (fun h24 => ?_) (fun h24 => ?_)
        · refine go_iload hF d_Mo_read_282 rfl ?_
          refine go_if_ge (tgt := 307) hF d_Mo_read_284 (by decide) (fun h284 => ?_) (fun h284 => ?_)
          · exact absurd h284 (by decide)
          · have hend := rdI_e hc hri (show ¬ p < tn c from fun z => by rw [htn] at h24; have := (nI_leI (a := tn c) (b := p) (by omega) (by omega)).mp h24; omega)
            have hhc := Rel_h hR
            have hkl : k ≤ 1001 := by omega
            refine go_aload_n hF d_Mo_read_287 rfl ?_
            refine gs_getr hF hK d_Mo_read_288 fl_Mo_7 h4 rfl rfl (by decide) rfl ?_
            refine go_iconst (v := 4) hF d_Mo_read_291 (by decide) ?_
            refine gs_md hF hK hT d_Mo_read_292 h4 (show (4 : Int32) = nI 4 from rfl) (by decide) ?_
            refine go_iload_n hF d_Mo_read_293 rfl ?_
            refine go_iadd hF d_Mo_read_294 ?_
            refine go_bipush (v := 100) hF d_Mo_read_295 (by decide) ?_
            refine go_icmp_le (tgt := 307) hF d_Mo_read_297 (by decide) (fun h297 => ?_) (fun h297 => ?_)
            · have hcap : cH c 0 + k ≤ 100 := by
                rw [hhc.1, nI_add] at h297
                exact (nI_leI (a := cH c 0 + k) (b := 100) (by omega) (by decide)).mp h297
              refine go_aload_n hF d_Mo_read_307 rfl ?_
              refine go_iconst (v := 0) hF d_Mo_read_308 (by decide) ?_
              refine gs_puti hF hK hlo d_Mo_read_309 fl_Mo_107 ct_Mo fs_Mo_5 h4 rfl rfl (by decide) rfl rfl ?_
              rw [mW_0]
              refine go_iload hF d_Mo_read_312 rfl ?_
              refine go_if_lt (tgt := 322) hF d_Mo_read_314 (by decide) (fun h314 => ?_) (fun h314 => ?_)
              · refine go_iconst (v := 0) hF d_Mo_read_322 (by decide) ?_
                refine go_istore hF d_Mo_read_323 (by decide) ?_
                refine go_lv (lv' := [(0, _), (1, _), (2, _), (3, _), (4, _), (5, _)]) ⟨rfl, rfl, rfl, rfl, rfl, rfl, trivial⟩ ?_
                refine go_lv (lv' := [(0, _), (1, _), (2, .int (nI (allL c).length)), (3, _), (4, _), (5, .int (nI 0))]) ⟨rfl, rfl, by rw [hend.2.1]; rfl, rfl, rfl, rfl, trivial⟩ ?_
                exact L325 tm _ u hfr hend.2.2 (by rw [hend.2.1]; exact hend.1) (by rw [hend.2.1]; exact hcap) _ 0 f rfl (Nat.zero_le _) hR
              · exact absurd (by decide) h314
            · have hTT : tRd c = 1 := ifC_f (fun z => by
                have z2 := ((ps_none hend.1).2.2).mp z
                rw [hhc.1, nI_add] at h297
                exact h297 (nI_le z2 (by decide)))
              refine go_aload_n hF d_Mo_read_300 rfl ?_
              refine go_iconst (v := 1) hF d_Mo_read_301 (by decide) ?_
              refine gs_puti hF hK hlo d_Mo_read_302 fl_Mo_28 ct_Mo fs_Mo_0 h4 rfl rfl (by decide) rfl rfl ?_
              rw [mW_0]
              refine go_iconst (v := 0) hF d_Mo_read_305 (by decide) ?_
              exact go_iret hF hM d_Mo_read_306 (by decide) (by decide) (fun H hG => ⟨f, _, _, rfl, by rw [hTT, ifC_f (by decide)]; exact fr_1 hfr, fun z => absurd (hTT.symm.trans z) (by decide), fun _ => rfl, hG⟩)
        · have hpn : p < tn c := by
            rw [htn] at h24
            have z : ¬ tn c ≤ p := fun z => h24 ((nI_leI (a := tn c) (b := p) (by omega) (by omega)).mpr z)
            omega
          refine go_aload_n hF d_Mo_read_27 rfl ?_
          refine gs_getr hF hK d_Mo_read_28 fl_Mo_16 h4 rfl rfl (by decide) rfl ?_
          refine go_iload_n hF d_Mo_read_31 rfl ?_
          refine gs_mo (r := 3) hF hK hT d_Mo_read_32 h4 (by decide) rfl rfl rfl (by omega) (by decide) ?_
          rw [tp_b htp hfr hpn]
          refine go_istore hF d_Mo_read_33 (by decide) ?_
          refine go_lv (lv' := [(0, _), (1, _), (2, _), (3, _), (4, _), (5, _)]) ⟨rfl, rfl, rfl, rfl, rfl, rfl, trivial⟩ ?_
          refine go_iload hF d_Mo_read_35 rfl ?_
          refine go_bipush (v := 32) hF d_Mo_read_37 (by decide) ?_
          refine go_icmp_eq (tgt := 63) hF d_Mo_read_39 (by decide) (fun h39 => ?_) (fun h39 => ?_)
          · refine go_iincN hF d_Mo_read_63 rfl (by decide) ?_
            refine go_lv (lv' := [(0, _), (1, _), (2, _), (3, _), (4, _), (5, _)]) ⟨rfl, rfl, rfl, rfl, rfl, rfl, trivial⟩ ?_
            refine go_goto (tgt := 279) hF d_Mo_read_66 (by decide) ?_
            refine go_goto (tgt := 14) hF d_Mo_read_279 (by decide) ?_
            refine go_lv (lv' := [(0, _), (1, _), (2, _), (3, _), (4, _)]) ⟨rfl, rfl, rfl, rfl, rfl, trivial⟩ ?_
            exact ih _ (by omega) (p + 1) k tm u rfl hfr (rdI_b hc hri hpn (Or.inr (Or.inr (Or.inr h39))))
          · refine go_iload hF d_Mo_read_42 rfl ?_
            refine go_bipush (v := 9) hF d_Mo_read_44 (by decide) ?_
            refine go_icmp_eq (tgt := 63) hF d_Mo_read_46 (by decide) (fun h46 => ?_) (fun h46 => ?_)
            · refine go_iincN hF d_Mo_read_63 rfl (by decide) ?_
              refine go_lv (lv' := [(0, _), (1, _), (2, _), (3, _), (4, _), (5, _)]) ⟨rfl, rfl, rfl, rfl, rfl, rfl, trivial⟩ ?_
              refine go_goto (tgt := 279) hF d_Mo_read_66 (by decide) ?_
              refine go_goto (tgt := 14) hF d_Mo_read_279 (by decide) ?_
              refine go_lv (lv' := [(0, _), (1, _), (2, _), (3, _), (4, _)]) ⟨rfl, rfl, rfl, rfl, rfl, trivial⟩ ?_
              exact ih _ (by omega) (p + 1) k tm u rfl hfr (rdI_b hc hri hpn (Or.inl h46))
            · refine go_iload hF d_Mo_read_49 rfl ?_
              refine go_bipush (v := 10) hF d_Mo_read_51 (by decide) ?_
              refine go_icmp_eq (tgt := 63) hF d_Mo_read_53 (by decide) (fun h53 => ?_) (fun h53 => ?_)
              · refine go_iincN hF d_Mo_read_63 rfl (by decide) ?_
                refine go_lv (lv' := [(0, _), (1, _), (2, _), (3, _), (4, _), (5, _)]) ⟨rfl, rfl, rfl, rfl, rfl, rfl, trivial⟩ ?_
                refine go_goto (tgt := 279) hF d_Mo_read_66 (by decide) ?_
                refine go_goto (tgt := 14) hF d_Mo_read_279 (by decide) ?_
                refine go_lv (lv' := [(0, _), (1, _), (2, _), (3, _), (4, _)]) ⟨rfl, rfl, rfl, rfl, rfl, trivial⟩ ?_
                exact ih _ (by omega) (p + 1) k tm u rfl hfr (rdI_b hc hri hpn (Or.inr (Or.inl h53)))
              · refine go_iload hF d_Mo_read_56 rfl ?_
                refine go_bipush (v := 13) hF d_Mo_read_58 (by decide) ?_
                refine go_icmp_ne (tgt := 69) hF d_Mo_read_60 (by decide) (fun h60 => ?_) (fun h60 => ?_)
                · have hnb : ¬ blk (bt c p) := fun z => by
                    rcases z with z | z | z | z
                    · exact h46 z
                    · exact h53 z
                    · exact h60 z
                    · exact h39 z
                  refine go_iload hF d_Mo_read_69 rfl ?_
                  refine go_bipush (v := 35) hF d_Mo_read_71 (by decide) ?_
                  refine go_icmp_ne (tgt := 191) hF d_Mo_read_73 (by decide) (fun h73 => ?_) (fun h73 => ?_)
                  · refine go_iload hF d_Mo_read_191 rfl ?_
                    refine go_callSX hF hE hlo d_Mo_read_193 (con_Mo_valueOf hlt (bt c p)) mt_Mo_valueOf ms_Mo_valueOf lk_Mo_122 ⟨rfl, rfl, by decide, by decide⟩ rfl (Nat.le_of_ble_eq_true rfl) ⟨by decide, by decide⟩ (fun M => gx_no) rfl (fun v => ?_)
                    refine go_and (fun hv => ?_)
                    subst hv
                    refine go_if_lt (tgt := 276) hF d_Mo_read_196 (by decide) (fun h196 => ?_) (fun h196 => ?_)
                    · refine go_iload_n hF d_Mo_read_276 rfl ?_
                      refine go_istore hF d_Mo_read_277 (by decide) ?_
                      refine go_lv (lv' := [(0, _), (1, _), (2, _), (3, _), (4, _), (5, _)]) ⟨rfl, rfl, rfl, rfl, rfl, rfl, trivial⟩ ?_
                      refine go_goto (tgt := 14) hF d_Mo_read_279 (by decide) ?_
                      refine go_lv (lv' := [(0, _), (1, _), (2, _), (3, _), (4, _)]) ⟨rfl, rfl, rfl, rfl, rfl, trivial⟩ ?_
                      exact JF p k tm _ u (rdI_lf hc hri hpn hnb h73 (fun z => Int32.lt_irrefl (Int32.lt_of_lt_of_le h196 z.1))) (by omega) hfr
                    · refine go_iload_n hF d_Mo_read_199 rfl ?_
                      refine go_iconst (v := 1) hF d_Mo_read_200 (by decide) ?_
                      refine go_iadd hF d_Mo_read_201 ?_
                      refine go_aload_n hF d_Mo_read_202 rfl ?_
                      refine gs_geti hF hK d_Mo_read_203 fl_Mo_107 h4 rfl rfl (by decide) rfl ?_
                      rw [mW_g]
                      refine go_icmp_ge (tgt := 276) hF d_Mo_read_206 (by decide) (fun h206 => ?_) (fun h206 => ?_)
                      · have hpl : ¬ p + 1 < tn c := fun z => by
                          rw [nI_1, htn] at h206
                          have := (nI_leI (a := tn c) (b := p + 1) (by omega) (by omega)).mp h206
                          omega
                        refine go_iload_n hF d_Mo_read_276 rfl ?_
                        refine go_istore hF d_Mo_read_277 (by decide) ?_
                        refine go_lv (lv' := [(0, _), (1, _), (2, _), (3, _), (4, _), (5, _)]) ⟨rfl, rfl, rfl, rfl, rfl, rfl, trivial⟩ ?_
                        refine go_goto (tgt := 14) hF d_Mo_read_279 (by decide) ?_
                        refine go_lv (lv' := [(0, _), (1, _), (2, _), (3, _), (4, _)]) ⟨rfl, rfl, rfl, rfl, rfl, trivial⟩ ?_
                        exact JF p k tm _ u (rdI_lf hc hri hpn hnb h73 (fun z => hpl z.2.1)) (by omega) hfr
                      · have hpl2 : p + 1 < tn c := by
                          rw [nI_1, htn] at h206
                          have z : ¬ tn c ≤ p + 1 := fun z => h206 ((nI_leI (a := tn c) (b := p + 1) (by omega) (by omega)).mpr z)
                          omega
                        refine go_iload_n hF d_Mo_read_209 rfl ?_
                        refine go_if_lt (tgt := 276) hF d_Mo_read_210 (by decide) (fun h210 => ?_) (fun h210 => ?_)
                        · refine go_iload_n hF d_Mo_read_276 rfl ?_
                          refine go_istore hF d_Mo_read_277 (by decide) ?_
                          refine go_lv (lv' := [(0, _), (1, _), (2, _), (3, _), (4, _), (5, _)]) ⟨rfl, rfl, rfl, rfl, rfl, rfl, trivial⟩ ?_
                          refine go_goto (tgt := 14) hF d_Mo_read_279 (by decide) ?_
                          refine go_lv (lv' := [(0, _), (1, _), (2, _), (3, _), (4, _)]) ⟨rfl, rfl, rfl, rfl, rfl, trivial⟩ ?_
                          exact JF p k tm _ u (rdI_lf hc hri hpn hnb h73 (fun z => Int32.lt_irrefl (Int32.lt_of_lt_of_le h210 z.2.2.1))) (by omega) hfr
                        · refine go_aload_n hF d_Mo_read_213 rfl ?_
                          refine go_aload_n hF d_Mo_read_214 rfl ?_
                          refine gs_getr hF hK d_Mo_read_215 fl_Mo_16 h4 rfl rfl (by decide) rfl ?_
                          refine go_iload_n hF d_Mo_read_218 rfl ?_
                          refine go_iconst (v := 1) hF d_Mo_read_219 (by decide) ?_
                          refine go_iadd hF d_Mo_read_220 ?_
                          refine gs_mo (r := 3) hF hK hT d_Mo_read_221 h4 (by decide) rfl rfl (nI_1 p) (by omega) (by decide) ?_
                          rw [tp_b htp hfr hpl2]
                          refine go_bipush (v := 33) hF d_Mo_read_222 (by decide) ?_
                          refine go_isub hF d_Mo_read_224 ?_
                          refine go_callVX hF hE hlo d_Mo_read_225 (con_Mo_isNet hlt h4 _) mt_Mo_isNet mv_Mo_isNet lk_Mo_70 ⟨rfl, rfl, by decide, by decide⟩ rfl (Nat.le_of_ble_eq_true rfl) ⟨by decide, by decide⟩ (fun H hG => gw_recv (q := (R_Mo, T_Mo, 9)) hK hG h4 rfl rfl (by decide) rfl) (fun M => gx_no) rfl (fun v => ?_)
                          refine go_and (fun hv => ?_)
                          subst hv
                          refine go_if_eq (tgt := 276) hF d_Mo_read_228 (by decide) (fun h228 => ?_) (fun h228 => ?_)
                          · refine go_iload_n hF d_Mo_read_276 rfl ?_
                            refine go_istore hF d_Mo_read_277 (by decide) ?_
                            refine go_lv (lv' := [(0, _), (1, _), (2, _), (3, _), (4, _), (5, _)]) ⟨rfl, rfl, rfl, rfl, rfl, rfl, trivial⟩ ?_
                            refine go_goto (tgt := 14) hF d_Mo_read_279 (by decide) ?_
                            refine go_lv (lv' := [(0, _), (1, _), (2, _), (3, _), (4, _)]) ⟨rfl, rfl, rfl, rfl, rfl, trivial⟩ ?_
                            exact JF p k tm _ u (rdI_lf hc hri hpn hnb h73 (fun z => bi_0 h228 ((Rel_isN hR _).mpr z.2.2.2))) (by omega) hfr
                          · have hln : lnF c tm p := ⟨not_lt h196, hpl2, not_lt h210, (Rel_isN hR _).mp (bi_1 h228)⟩
                            have hfr2 := frM_s (r := 4) (k := 0) (i := k) (x := tm) hfr (by omega)
                            refine go_aload_n hF d_Mo_read_231 rfl ?_
                            refine gs_getr hF hK d_Mo_read_232 fl_Mo_19 h4 rfl rfl (by decide) rfl ?_
                            refine go_iload_n hF d_Mo_read_235 rfl ?_
                            refine go_iload_n hF d_Mo_read_236 rfl ?_
                            refine gs_mp (r := 4) hF hK hT hlo d_Mo_read_237 h4 (by decide) rfl rfl rfl (by omega) (by decide) ?_
                            refine go_aload_n hF d_Mo_read_238 rfl ?_
                            refine gs_getr hF hK d_Mo_read_239 fl_Mo_22 h4 rfl rfl (by decide) rfl ?_
                            refine go_iload_n hF d_Mo_read_242 rfl ?_
                            refine go_aload_n hF d_Mo_read_243 rfl ?_
                            refine gs_getr hF hK d_Mo_read_244 fl_Mo_16 h4 rfl rfl (by decide) rfl ?_
                            refine go_iload_n hF d_Mo_read_247 rfl ?_
                            refine go_iconst (v := 1) hF d_Mo_read_248 (by decide) ?_
                            refine go_iadd hF d_Mo_read_249 ?_
                            refine gs_mo (r := 3) hF hK hT d_Mo_read_250 h4 (by decide) rfl rfl (nI_1 p) (by omega) (by decide) ?_
                            rw [tp_b htp hfr2 hpl2]
                            refine go_bipush (v := 33) hF d_Mo_read_251 (by decide) ?_
                            refine go_isub hF d_Mo_read_253 ?_
                            refine gs_mp (r := 5) hF hK hT hlo d_Mo_read_254 h4 (by decide) rfl rfl rfl (by omega) (by decide) ?_
                            refine go_aload_n hF d_Mo_read_255 rfl ?_
                            refine gs_getr hF hK d_Mo_read_256 fl_Mo_25 h4 rfl rfl (by decide) rfl ?_
                            refine go_iload_n hF d_Mo_read_259 rfl ?_
                            refine go_iload hF d_Mo_read_260 rfl ?_
                            refine go_callSX hF hE hlo d_Mo_read_262 (con_Mo_valueOf hlt (bt c p)) mt_Mo_valueOf ms_Mo_valueOf lk_Mo_122 ⟨rfl, rfl, by decide, by decide⟩ rfl (Nat.le_of_ble_eq_true rfl) ⟨by decide, by decide⟩ (fun M => gx_no) rfl (fun v => ?_)
                            refine go_and (fun hv => ?_)
                            subst hv
                            refine gs_mp (r := 6) hF hK hT hlo d_Mo_read_265 h4 (by decide) rfl rfl rfl (by omega) (by decide) ?_
                            refine go_iincN hF d_Mo_read_266 rfl (by decide) ?_
                            refine go_lv (lv' := [(0, _), (1, _), (2, _), (3, _), (4, _), (5, _)]) ⟨rfl, rfl, rfl, rfl, rfl, rfl, trivial⟩ ?_
                            refine go_iload_n hF d_Mo_read_269 rfl ?_
                            refine go_iconst (v := 2) hF d_Mo_read_270 (by decide) ?_
                            refine go_iadd hF d_Mo_read_271 ?_
                            refine go_istore_n hF d_Mo_read_272 (by decide) ?_
                            refine go_lv (lv' := [(0, _), (1, _), (2, _), (3, _), (4, _), (5, _)]) ⟨rfl, rfl, rfl, rfl, rfl, rfl, trivial⟩ ?_
                            refine go_goto (tgt := 279) hF d_Mo_read_273 (by decide) ?_
                            refine go_goto (tgt := 14) hF d_Mo_read_279 (by decide) ?_
                            refine go_lv (lv' := [(0, _), (1, .int (nI (p + 2))), (2, .int (nI (k + 1))), (3, _), (4, _)]) ⟨rfl, by rw [← nI_p2]; rfl, rfl, rfl, rfl, trivial⟩ ?_
                            exact ih _ (by omega) (p + 2) (k + 1) tm _ rfl (frM_s (frM_s (frM_s hfr (by omega)) (by omega)) (by omega)) (rdI_l hc hri hpn hnb h73 hln (fun r j hr hj => by rw [rd_II, if_neg (by omega), rd_II, if_neg (by omega), rd_II, if_neg (by omega)]) (by rw [rd_II, if_neg (by omega), rd_II, if_pos (by simp)]) (by rw [rd_II, if_neg (by omega), rd_II, if_neg (by omega), rd_II, if_pos (by simp)]) (by rw [rd_II, if_pos (by simp)]))
                  · refine go_aload_n hF d_Mo_read_76 rfl ?_
                    refine go_iload_n hF d_Mo_read_77 rfl ?_
                    refine go_iconst (v := 1) hF d_Mo_read_78 (by decide) ?_
                    refine go_iadd hF d_Mo_read_79 ?_
                    refine go_callVX hF hE hlo d_Mo_read_80 (con_Mo_byteAt (p := p + 1) (n := tn c) hlt h4 (nI_1 p) htn h20 (by omega)) mt_Mo_byteAt mv_Mo_byteAt lk_Mo_110 ⟨rfl, rfl, by decide, by decide⟩ rfl (Nat.le_of_ble_eq_true rfl) ⟨by decide, by decide⟩ (fun H hG => gw_recv (q := (R_Mo, T_Mo, 9)) hK hG h4 rfl rfl (by decide) rfl) (fun M => gx_no) rfl (fun v => ?_)
                    refine go_and (fun hv => ?_)
                    subst hv
                    rw [show (if p + 1 < tn c then wI u 4 0 3 0 (p + 1) else -1) = bt c (p + 1) from tp_bt htp hfr _]
                    refine go_callSX hF hE hlo d_Mo_read_83 (con_Mo_isDigit hlt (bt c (p + 1))) mt_Mo_isDigit ms_Mo_isDigit lk_Mo_113 ⟨rfl, rfl, by decide, by decide⟩ rfl (Nat.le_of_ble_eq_true rfl) ⟨by decide, by decide⟩ (fun M => gx_no) rfl (fun v => ?_)
                    refine go_and (fun hv => ?_)
                    subst hv
                    refine go_if_eq (tgt := 191) hF d_Mo_read_86 (by decide) (fun h86 => ?_) (fun h86 => ?_)
                    · have hnd : ¬ (p + 1 < tn c ∧ dgt (bt c (p + 1))) := fun z => bi_0 h86 z.2
                      refine go_iload hF d_Mo_read_191 rfl ?_
                      refine go_callSX hF hE hlo d_Mo_read_193 (con_Mo_valueOf hlt (bt c p)) mt_Mo_valueOf ms_Mo_valueOf lk_Mo_122 ⟨rfl, rfl, by decide, by decide⟩ rfl (Nat.le_of_ble_eq_true rfl) ⟨by decide, by decide⟩ (fun M => gx_no) rfl (fun v => ?_)
                      refine go_and (fun hv => ?_)
                      subst hv
                      refine go_if_lt (tgt := 276) hF d_Mo_read_196 (by decide) (fun h196 => ?_) (fun h196 => ?_)
                      · refine go_iload_n hF d_Mo_read_276 rfl ?_
                        refine go_istore hF d_Mo_read_277 (by decide) ?_
                        refine go_lv (lv' := [(0, _), (1, _), (2, _), (3, _), (4, _), (5, _)]) ⟨rfl, rfl, rfl, rfl, rfl, rfl, trivial⟩ ?_
                        refine go_goto (tgt := 14) hF d_Mo_read_279 (by decide) ?_
                        refine go_lv (lv' := [(0, _), (1, _), (2, _), (3, _), (4, _)]) ⟨rfl, rfl, rfl, rfl, rfl, trivial⟩ ?_
                        exact JF p k tm _ u (rdI_tf hc hri hpn hnb h73 (fun z => z.1 (ten_0 hc (by omega) hnd))) (by omega) hfr
                      · rw [h73] at h196
                        exact absurd (by decide) h196
                    · refine go_iload_n hF d_Mo_read_89 rfl ?_
                      refine go_istore hF d_Mo_read_90 (by decide) ?_
                      refine go_lv (lv' := [(0, _), (1, _), (2, _), (3, _), (4, _), (5, _), (6, _)]) ⟨rfl, rfl, rfl, rfl, rfl, rfl, rfl, trivial⟩ ?_
                      refine go_iincN hF d_Mo_read_92 rfl (by decide) ?_
                      refine go_lv (lv' := [(0, _), (1, _), (2, _), (3, _), (4, _), (5, _), (6, _)]) ⟨rfl, rfl, rfl, rfl, rfl, rfl, rfl, trivial⟩ ?_
                      refine go_lconst (v := 0) hF d_Mo_read_95 (by decide) ?_
                      refine go_lstore hF d_Mo_read_96 (by decide) ?_
                      refine go_lv (lv' := [(0, _), (1, _), (2, _), (3, _), (4, _), (5, _), (6, _), (7, _)]) ⟨rfl, rfl, rfl, rfl, rfl, rfl, rfl, rfl, trivial⟩ ?_
                      have hdg : p + 1 < tn c ∧ dgt (bt c (p + 1)) := bt_dg (bi_1 h86)
                      refine go_lv (lv' := [(0, _), (1, .int (nI (p + 1))), (2, _), (3, _), (4, _), (5, _), (6, _), (7, _)]) ⟨rfl, rfl, rfl, rfl, rfl, rfl, rfl, rfl, trivial⟩ ?_
                      exact L98 p k tm u hfr hri hpn hnb h73 hdg (fun p' tm' q1 q2 => ih _ (by omega) p' k tm' u rfl hfr q2) _ (p + 1) 0 0 rfl (Nat.le_refl _) (skp_le c dgt 3000 (p + 1)).1 rfl rfl ⟨by decide, by decide, Or.inl ⟨by decide, rfl⟩⟩
                · refine go_iincN hF d_Mo_read_63 rfl (by decide) ?_
                  refine go_lv (lv' := [(0, _), (1, _), (2, _), (3, _), (4, _), (5, _)]) ⟨rfl, rfl, rfl, rfl, rfl, rfl, trivial⟩ ?_
                  refine go_goto (tgt := 279) hF d_Mo_read_66 (by decide) ?_
                  refine go_goto (tgt := 14) hF d_Mo_read_279 (by decide) ?_
                  refine go_lv (lv' := [(0, _), (1, _), (2, _), (3, _), (4, _)]) ⟨rfl, rfl, rfl, rfl, rfl, trivial⟩ ?_
                  exact ih _ (by omega) (p + 1) k tm u rfl hfr (rdI_b hc hri hpn (Or.inr (Or.inr (Or.inl h60))))
  refine go_aload_n hF d_Mo_read_0 rfl ?_
  refine go_iconst (v := 0) hF d_Mo_read_1 (by decide) ?_
  refine gs_puti hF hK hlo d_Mo_read_2 fl_Mo_28 ct_Mo fs_Mo_0 h4 rfl rfl (by decide) rfl rfl ?_
  rw [mW_0]
  refine go_iconst (v := 0) hF d_Mo_read_5 (by decide) ?_
  refine go_istore_n hF d_Mo_read_6 (by decide) ?_
  refine go_lv (lv' := [(0, _), (1, _)]) ⟨rfl, rfl, trivial⟩ ?_
  refine go_iconst (v := 0) hF d_Mo_read_7 (by decide) ?_
  refine go_istore_n hF d_Mo_read_8 (by decide) ?_
  refine go_lv (lv' := [(0, _), (1, _), (2, _)]) ⟨rfl, rfl, rfl, trivial⟩ ?_
  refine go_iconst (v := -1) hF d_Mo_read_9 (by decide) ?_
  refine go_istore_n hF d_Mo_read_10 (by decide) ?_
  refine go_lv (lv' := [(0, _), (1, _), (2, _), (3, _)]) ⟨rfl, rfl, rfl, rfl, trivial⟩ ?_
  refine go_iconst (v := -1) hF d_Mo_read_11 (by decide) ?_
  refine go_istore hF d_Mo_read_12 (by decide) ?_
  refine go_lv (lv' := [(0, _), (1, _), (2, _), (3, _), (4, _)]) ⟨rfl, rfl, rfl, rfl, rfl, trivial⟩ ?_
  exact L14 _ 0 0 (-1) (sI w 4 0 0 0 0 0) rfl (frM_rf _) (rdI_0 hc)
