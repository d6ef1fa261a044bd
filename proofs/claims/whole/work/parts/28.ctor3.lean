theorem upN_t {f : Nat → Nat → Bool} {κ ι κ' ι' : Nat} (h : upN f κ ι κ' ι' = true) : (κ' = κ ∧ ι' = ι) ∨ f κ' ι' = true := by
  unfold upN at h
  by_cases hz : κ' = κ ∧ ι' = ι
  · exact Or.inl hz
  · rw [if_neg hz] at h
    exact Or.inr h
theorem upN_s (f : Nat → Nat → Bool) (κ ι : Nat) : upN f κ ι κ ι = true := if_pos ⟨rfl, rfl⟩
theorem upN_n {f : Nat → Nat → Bool} {κ ι κ' ι' : Nat} (h : ¬ (κ' = κ ∧ ι' = ι)) : upN f κ ι κ' ι' = f κ' ι' := if_neg h
set_option maxHeartbeats 4000000 in
/-- the EventWaves object, its remembered circuits and its tape join -/
theorem ew_commit {E : gE} {B : bsT} {on : Nat → Nat → Bool} {O : Nat → Option va_E} {a : Nat} {w : wdT} {H : Heap} (hg : gw E (upB B 0 0 (a + 1)) ((upN on 0 0), ovs (ovs (ovs (ovs O a (.inr (0, [.ref (a + 1), .ref (a + 90), .int 0, .ref (a + 91)]))) (a + 90) (aR E 5 4)) (a + 91) (.inr (7, [.int 0, .ref (a + 91 + 1)]))) (a + 91 + 1) (aI E 2000), a + 93) (zW w 0 0) H) (h5 : ∀ κ' ι', on κ' ι' = true → 0 < bln κ') (h2 : on 2 0 = false) (h1 : ∀ ι', on 1 ι' = false) (hO : ∀ q, a ≤ q → O q = none) :
    gw E (upB (upB (upB B 0 0 (a + 1)) 2 0 (a + 90)) 1 0 a) ((upN (upN (upN on 0 0) 2 0) 1 0), O, a + 93) (zW (zW (zW w 0 0) 2 0) 1 0) H := by
  have hae : E.2.2.size ≤ a := (hg.2.2.2.1 a _ ((ovs_ne _ _ (by omega)).trans ((ovs_ne _ _ (by omega)).trans ((ovs_ne _ _ (by omega)).trans (ovs_same _ _ _))))).1
  have h51 : ∀ κ' ι', (upN on 0 0) κ' ι' = true → 0 < bln κ' := fun κ' ι' h => by
    rcases upN_t h with ⟨z, -⟩ | h
    · subst z; decide
    · exact h5 κ' ι' h
  have h52 : ∀ κ' ι', (upN (upN on 0 0) 2 0) κ' ι' = true → 0 < bln κ' := fun κ' ι' h => by
    rcases upN_t h with ⟨z, -⟩ | h
    · subst z; decide
    · exact h51 κ' ι' h
  have g2 : gw E (upB (upB B 0 0 (a + 1)) 2 0 (a + 90)) ((upN (upN on 0 0) 2 0), ovs O a (.inr (0, [.ref (a + 1), .ref (a + 90), .int 0, .ref (a + 91)])), a + 93) (zW (zW w 0 0) 2 0) H := by
    refine gw_commit (N := ((upN on 0 0), ovs (ovs (ovs (ovs O a (.inr (0, [.ref (a + 1), .ref (a + 90), .int 0, .ref (a + 91)]))) (a + 90) (aR E 5 4)) (a + 91) (.inr (7, [.int 0, .ref (a + 91 + 1)]))) (a + 91 + 1) (aI E 2000), a + 93)) hg h51 (show upN on 0 0 2 0 = false from (upN_n (by omega)).trans h2) (by omega) (by decide) ?_ ?_ ?_ ?_
    · intro d hd
      have hd : d < 3 := hd
      match d, hd with
      | 0, _ => exact ⟨_, (ovs_ne _ _ (by omega)).trans ((ovs_ne _ _ (by omega)).trans (ovs_same _ _ _))⟩
      | 1, _ => exact ⟨_, (ovs_ne _ _ (by omega)).trans (ovs_same _ _ _)⟩
      | 2, _ => exact ⟨_, ovs_same _ _ _⟩
      | d + 3, h => exact absurd h (by omega)
    · intro r g i hr hi
      have had : ∀ r i, ad (upB (upB B 0 0 (a + 1)) 2 0 (a + 90)) 2 0 r i = a + 90 + rof 2 r + i := fun r i => by unfold ad; rw [upB_same]
      match r, hr with
      | 0, hr =>
        cases hr
        have hi0 : i = 0 := by have hi : i < 1 := hi; omega
        subst hi0
        refine ⟨_, (ovs_ne _ _ (by simp)).trans ((ovs_ne _ _ (by simp)).trans (ovs_same _ _ _)), va_eqq ?_⟩
        simp only [cel, avs, zW_P]
      | 1, hr =>
        cases hr
        have hi0 : i = 0 := by have hi : i < 1 := hi; omega
        subst hi0
        refine ⟨_, (ovs_ne _ _ (by simp)).trans (ovs_same _ _ _), va_eqq ?_⟩
        simp only [cel, fvs, fv, tgt, had, zW_I]
        rfl
      | 2, hr =>
        cases hr
        have hi0 : i = 0 := by have hi : i < 1 := hi; omega
        subst hi0
        refine ⟨_, ovs_same _ _ _, va_eqq ?_⟩
        simp only [cel, avs, zW_I]
      | r + 3, hr => exact absurd hr (by simp [sch])
    · intro κ' ι' r g i h hr hi
      refine cel_old hr (fun z => ?_) (fun h9 => ?_)
      · rw [z.1, z.2] at h
        have e9 : upN on 0 0 2 0 = false := (upN_n (by omega)).trans h2
        exact Bool.noConfusion (e9.symm.trans h)
      · subst h9
        have e9 : upN on 0 0 1 ι' = false := (upN_n (by omega)).trans (h1 ι')
        exact Bool.noConfusion (e9.symm.trans h)
    · intro q e hq
      have hqa : q = a ∨ q < a := by
        by_cases h : q = a
        · exact Or.inl h
        · right
          rw [ovs_ne _ _ h] at hq
          exact Nat.lt_of_not_le (fun z => by rw [hO q z] at hq; cases hq)
      refine ⟨?_, by rcases hqa with z | z <;> omega⟩
      exact (ovs_ne _ _ (by omega)).trans ((ovs_ne _ _ (by omega)).trans ((ovs_ne _ _ (by omega)).trans hq))
  refine gw_commit (N := ((upN (upN on 0 0) 2 0), ovs O a (.inr (0, [.ref (a + 1), .ref (a + 90), .int 0, .ref (a + 91)])), a + 93)) g2 h52 (show upN (upN on 0 0) 2 0 1 0 = false from (upN_n (by omega)).trans ((upN_n (by omega)).trans (h1 0))) hae (by decide) ?_ ?_ ?_ ?_
  · intro d hd
    have hd : d < 1 := hd
    obtain rfl : d = 0 := by omega
    exact ⟨_, ovs_same _ _ _⟩
  · intro r g i hr hi
    match r, hr with
    | 0, hr =>
      cases hr
      have hi0 : i = 0 := by have hi : i < 1 := hi; omega
      subst hi0
      refine ⟨_, ovs_same _ _ _, va_eqq ?_⟩
      have e0 : (upB (upB (upB B 0 0 (a + 1)) 2 0 (a + 90)) 1 0 a) 0 0 = a + 1 := (upB_ne _ _ (by omega)).trans ((upB_ne _ _ (by omega)).trans (upB_same _ _ _ _))
      have e2 : (upB (upB (upB B 0 0 (a + 1)) 2 0 (a + 90)) 1 0 a) 2 0 = a + 90 := (upB_ne _ _ (by omega)).trans (upB_same _ _ _ _)
      simp only [cel, fvs, fv, tgt, ad, e0, e2, zW_I]
      rfl
    | r + 1, hr => exact absurd hr (by simp [sch])
  · intro κ' ι' r g i h hr hi
    refine cel_old hr (fun z => ?_) (fun h9 z => by omega)
    rw [z.1, z.2] at h
    have e9 : upN (upN on 0 0) 2 0 1 0 = false := (upN_n (by omega)).trans ((upN_n (by omega)).trans (h1 0))
    exact Bool.noConfusion (e9.symm.trans h)
  · intro q e hq
    have hlt : q < a := Nat.lt_of_not_le (fun z => by rw [hO q z] at hq; cases hq)
    exact ⟨(ovs_ne _ _ (by omega)).trans hq, by show ¬ (a ≤ q ∧ q < a + 1); omega⟩
set_option maxHeartbeats 4000000 in
set_option maxRecDepth 100000 in
theorem con_EW_init {l : Launch} (hlt : l.stackTraces = false) {E : gE} {B : bsT} {w : wdT} {on : Nat → Nat → Bool} {O : Nat → Option va_E} {a : Nat} (h5 : ∀ κ' ι', on κ' ι' = true → 0 < bln κ') (h0 : on 0 0 = false) (h2 : on 2 0 = false) (h1 : ∀ ι', on 1 ι' = false) (hO : ∀ q, a ≤ q → O q = none) : Con l E y_EW_init (Cond.code y_EW_init c_EW_init 1 none :: gAll) rm_EW_init [.ref a] (gw E B (on, ovs (O) (a) (.inr (0, [.null, .null, .int 0, .null])), a + 1) w) (fun v H => v = none ∧ gw E (upB (upB (upB B 0 0 (a + 1)) 2 0 (a + 90)) 1 0 a) ((upN (upN (upN on 0 0) 2 0) 1 0), O, a + 93) (zW (zW (zW w 0 0) 2 0) 1 0) H) (fun _ _ => False) 92 4897 := by
  refine con_of (by decide) hlt (Nat.le_of_ble_eq_true rfl) ?_
  intro F hF hM htab hnm hE hlo hl
  subst hl
  have hF : Fb F c_EW_init R_EW 1 rm_EW_init := hF
  have hK := hE.1
  have hT := hE.2.1
  refine go_lv (lv' := [(0, _)]) ⟨rfl, trivial⟩ ?_
  refine go_aload_n hF d_EW_init_0 rfl ?_
  refine go_objInit hF d_EW_init_1 lo_EW oi_1 oi_2 ⟨by decide, by decide⟩ ?_
  refine go_aload_n hF d_EW_init_4 rfl ?_
  refine gs_new (N := (on, ovs (O) (a) (.inr (0, [.null, .null, .int 0, .null])), a + 1)) hF hK d_EW_init_5 nw_EW_7 ⟨by decide, by decide⟩ ?_
  refine go_G (G' := gw E B (on, ovs (ovs (O) (a) (.inr (0, [.null, .null, .int 0, .null]))) (a + 1) (.inr (1, [.long 0, .int 0, .int 0, .null, .int 0, .null, .int 0, .null, .null, .null])), a + 1 + 1) w) (fun H hG => hG) ?_
  refine go_dup hF d_EW_init_8 rfl ?_
  refine go_ctor hF hE hlo d_EW_init_9 rfl (con_Ci_init (on := on) (O := ovs O a (.inr (0, [.null, .null, .int 0, .null]))) (a := a + 1) (ι := 0) hlt h5 h0 (fun ι' z => absurd (z.symm.trans (h1 ι')) (by decide)) (fun q hq => (ovs_ne _ _ (by omega)).trans (hO q (by omega)))) mt_Ci_init mi_Ci_init (Or.inl lk_EW_9) ⟨rfl, rfl, by decide, by decide⟩ rfl (Nat.le_of_ble_eq_true rfl) ⟨by decide, by decide⟩ (fun M => gx_no) rfl (fun v => ?_)
  refine go_and (fun hv => ?_)
  subst hv
  refine go_G (G' := gw E (upB B 0 0 (a + 1)) ((upN on 0 0), ovs O a (.inr (0, [.null, .null, .int 0, .null])), a + 90) (zW w 0 0)) (fun H hG => hG) ?_
  refine gs_putOF (N := ((upN on 0 0), ovs (O) (a) (.inr (0, [.null, .null, .int 0, .null])), a + 90)) (v := .ref (a + 1)) hF hK hlo hnm d_EW_init_12 fl_EW_10 ct_EW ff_EW_0 rfl rfl (ovs_same _ _ _) (Nat.le_of_ble_eq_true rfl) ?_
  refine go_G (G' := gw E (upB B 0 0 (a + 1)) ((upN on 0 0), ovs (O) (a) (.inr (0, [.ref (a + 1), .null, .int 0, .null])), a + 90) (zW w 0 0)) (fun H hG => by rw [ovs_ovs] at hG; exact hG) ?_
  refine go_aload_n hF d_EW_init_15 rfl ?_
  refine go_iconst (v := 4) hF d_EW_init_16 (by decide) ?_
  refine gs_anew (N := ((upN on 0 0), ovs (O) (a) (.inr (0, [.ref (a + 1), .null, .int 0, .null])), a + 90)) (t := 5) (C := "EventWaves$Circuit") (n := 4) hF hK hT d_EW_init_17 (by decide) ⟨by decide, by decide⟩ rfl rfl cl_EW_7 hE.2.2.2.2.2.2.1.2.2.2 ?_
  refine go_G (G' := gw E (upB B 0 0 (a + 1)) ((upN on 0 0), ovs (ovs (O) (a) (.inr (0, [.ref (a + 1), .null, .int 0, .null]))) (a + 90) (aR E 5 4), a + 91) (zW w 0 0)) (fun H hG => hG) ?_
  refine gs_putOF (N := ((upN on 0 0), ovs (ovs (O) (a) (.inr (0, [.ref (a + 1), .null, .int 0, .null]))) (a + 90) (aR E 5 4), a + 91)) (v := .ref (a + 90)) hF hK hlo hnm d_EW_init_20 fl_EW_16 ct_EW ff_EW_1 rfl rfl ((ovs_ne _ _ (by omega)).trans (ovs_same _ _ _)) (Nat.le_of_ble_eq_true rfl) ?_
  refine go_G (G' := gw E (upB B 0 0 (a + 1)) ((upN on 0 0), ovs (ovs (O) (a) (.inr (0, [.ref (a + 1), .ref (a + 90), .int 0, .null]))) (a + 90) (aR E 5 4), a + 91) (zW w 0 0)) (fun H hG => by rw [ovs_comm (show a ≠ a + 90 by omega), ovs_ovs] at hG; exact hG) ?_
  refine go_aload_n hF d_EW_init_23 rfl ?_
  refine gs_new (N := ((upN on 0 0), ovs (ovs (O) (a) (.inr (0, [.ref (a + 1), .ref (a + 90), .int 0, .null]))) (a + 90) (aR E 5 4), a + 91)) hF hK d_EW_init_24 nw_EW_20 ⟨by decide, by decide⟩ ?_
  refine go_G (G' := gw E (upB B 0 0 (a + 1)) ((upN on 0 0), ovs (ovs (ovs (O) (a) (.inr (0, [.ref (a + 1), .ref (a + 90), .int 0, .null]))) (a + 90) (aR E 5 4)) (a + 91) (.inr (7, [.int 0, .null])), a + 91 + 1) (zW w 0 0)) (fun H hG => hG) ?_
  refine go_dup hF d_EW_init_27 rfl ?_
  refine go_ctor hF hE hlo d_EW_init_28 rfl (con_Ta_init (on := (upN on 0 0)) (O := ovs (ovs (O) (a) (.inr (0, [.ref (a + 1), .ref (a + 90), .int 0, .null]))) (a + 90) (aR E 5 4)) (b := a + 91) hlt) mt_Ta_init mi_Ta_init (Or.inr ⟨_, ln_EW_22⟩) ⟨rfl, rfl, by decide, by decide⟩ rfl (Nat.le_of_ble_eq_true rfl) ⟨by decide, by decide⟩ (fun M => gx_no) rfl (fun v => ?_)
  refine go_and (fun hv => ?_)
  subst hv
  refine go_G (G' := gw E (upB B 0 0 (a + 1)) ((upN on 0 0), ovs (ovs (ovs (ovs (O) (a) (.inr (0, [.ref (a + 1), .ref (a + 90), .int 0, .null]))) (a + 90) (aR E 5 4)) (a + 91) (.inr (7, [.int 0, .ref (a + 91 + 1)]))) (a + 91 + 1) (aI E 2000), a + 93) (zW w 0 0)) (fun H hG => hG) ?_
  refine gs_putOF (N := ((upN on 0 0), ovs (ovs (ovs (ovs (O) (a) (.inr (0, [.ref (a + 1), .ref (a + 90), .int 0, .null]))) (a + 90) (aR E 5 4)) (a + 91) (.inr (7, [.int 0, .ref (a + 91 + 1)]))) (a + 91 + 1) (aI E 2000), a + 93)) (v := .ref (a + 91)) hF hK hlo hnm d_EW_init_31 fl_EW_23 ct_EW ff_EW_3 rfl rfl ((ovs_ne _ _ (by omega)).trans ((ovs_ne _ _ (by omega)).trans ((ovs_ne _ _ (by omega)).trans (ovs_same _ _ _)))) (Nat.le_of_ble_eq_true rfl) ?_
  refine go_G (G' := gw E (upB B 0 0 (a + 1)) ((upN on 0 0), ovs (ovs (ovs (ovs (O) (a) (.inr (0, [.ref (a + 1), .ref (a + 90), .int 0, .ref (a + 91)]))) (a + 90) (aR E 5 4)) (a + 91) (.inr (7, [.int 0, .ref (a + 91 + 1)]))) (a + 91 + 1) (aI E 2000), a + 93) (zW w 0 0)) (fun H hG => by rw [ovs_comm (show a ≠ a + 91 + 1 by omega), ovs_comm (show a ≠ a + 91 by omega), ovs_comm (show a ≠ a + 90 by omega), ovs_ovs] at hG; exact hG) ?_
  exact go_vret hF hM d_EW_init_34 (by decide) (by decide) (fun H hG => ⟨rfl, ew_commit hG h5 h2 h1 hO⟩)
