set_option maxHeartbeats 4000000 in
set_option maxRecDepth 100000 in
theorem con_Ne_init {l : Launch} (hlt : l.stackTraces = false) {E : gE} {G : Heap → Prop} {a : Nat} : Con l E y_Ne_init (Cond.code y_Ne_init c_Ne_init 1 none :: gAll) rm_Ne_init [.ref a] G (fun v H => v = none ∧ G H) (fun _ _ => False) 0 0 := by
  refine con_of (by decide) hlt (Nat.le_of_ble_eq_true rfl) ?_
  intro F hF hM htab hnm hE hlo hl
  subst hl
  have hF : Fb F c_Ne_init R_Ne 1 rm_Ne_init := hF
  have hK := hE.1
  have hT := hE.2.1
  refine go_lv (lv' := [(0, _)]) ⟨rfl, trivial⟩ ?_
  refine go_aload_n hF d_Ne_init_0 rfl ?_
  refine go_objInit hF d_Ne_init_1 lo_Ne oi_1 oi_2 ⟨by decide, by decide⟩ ?_
  exact go_vret hF hM d_Ne_init_4 (by decide) (by decide) (fun H hG => ⟨rfl, hG⟩)
set_option maxHeartbeats 4000000 in
set_option maxRecDepth 100000 in
theorem con_Ga_init {l : Launch} (hlt : l.stackTraces = false) {E : gE} {G : Heap → Prop} {a : Nat} : Con l E y_Ga_init (Cond.code y_Ga_init c_Ga_init 1 none :: gAll) rm_Ga_init [.ref a] G (fun v H => v = none ∧ G H) (fun _ _ => False) 0 0 := by
  refine con_of (by decide) hlt (Nat.le_of_ble_eq_true rfl) ?_
  intro F hF hM htab hnm hE hlo hl
  subst hl
  have hF : Fb F c_Ga_init R_Ga 1 rm_Ga_init := hF
  have hK := hE.1
  have hT := hE.2.1
  refine go_lv (lv' := [(0, _)]) ⟨rfl, trivial⟩ ?_
  refine go_aload_n hF d_Ga_init_0 rfl ?_
  refine go_objInit hF d_Ga_init_1 lo_Ga oi_1 oi_2 ⟨by decide, by decide⟩ ?_
  exact go_vret hF hM d_Ga_init_4 (by decide) (by decide) (fun H hG => ⟨rfl, hG⟩)
set_option maxHeartbeats 4000000 in
set_option maxRecDepth 100000 in
theorem con_Ch_init {l : Launch} (hlt : l.stackTraces = false) {E : gE} {G : Heap → Prop} {a : Nat} : Con l E y_Ch_init (Cond.code y_Ch_init c_Ch_init 1 none :: gAll) rm_Ch_init [.ref a] G (fun v H => v = none ∧ G H) (fun _ _ => False) 0 0 := by
  refine con_of (by decide) hlt (Nat.le_of_ble_eq_true rfl) ?_
  intro F hF hM htab hnm hE hlo hl
  subst hl
  have hF : Fb F c_Ch_init R_Ch 1 rm_Ch_init := hF
  have hK := hE.1
  have hT := hE.2.1
  refine go_lv (lv' := [(0, _)]) ⟨rfl, trivial⟩ ?_
  refine go_aload_n hF d_Ch_init_0 rfl ?_
  refine go_objInit hF d_Ch_init_1 lo_Ch oi_1 oi_2 ⟨by decide, by decide⟩ ?_
  exact go_vret hF hM d_Ch_init_4 (by decide) (by decide) (fun H hG => ⟨rfl, hG⟩)
set_option maxHeartbeats 4000000 in
set_option maxRecDepth 100000 in
theorem con_Tr_init {l : Launch} (hlt : l.stackTraces = false) {E : gE} {B : bsT} {N : nwT} {w : wdT} {tr : Nat} : Con l E y_Tr_init (Cond.code y_Tr_init c_Tr_init 3 none :: gAll) rm_Tr_init [.ref tr, .ref (ad B 2 0 1 0), .ref (ad B 0 0 0 0)] (gw E B (N.1, ovs N.2.1 tr (.inr (8, [.null, .null, .long 0, .int 0])), N.2.2) w) (fun v H => v = none ∧ gw E B (nr N B tr 0 0) w H) (fun _ _ => False) 0 0 := by
  refine con_of (by decide) hlt (Nat.le_of_ble_eq_true rfl) ?_
  intro F hF hM htab hnm hE hlo hl
  subst hl
  have hF : Fb F c_Tr_init R_Tr 3 rm_Tr_init := hF
  have hK := hE.1
  have hT := hE.2.1
  refine go_lv (lv' := [(0, _), (1, _), (2, _)]) ⟨rfl, rfl, rfl, trivial⟩ ?_
  refine go_aload_n hF d_Tr_init_0 rfl ?_
  refine go_objInit hF d_Tr_init_1 lo_Tr oi_1 oi_2 ⟨by decide, by decide⟩ ?_
  refine go_aload_n hF d_Tr_init_4 rfl ?_
  refine go_aload_n hF d_Tr_init_5 rfl ?_
  refine gs_putOF hF hK hlo hnm d_Tr_init_6 fl_Tr_9 ct_Tr ff_Tr_0 rfl rfl (ovs_same _ _ _) (Nat.le_of_ble_eq_true rfl) ?_
  refine go_G (fun H hG => nr_put hG) ?_
  refine go_aload_n hF d_Tr_init_9 rfl ?_
  refine go_aload_n hF d_Tr_init_10 rfl ?_
  refine gs_putOF hF hK hlo hnm d_Tr_init_11 fl_Tr_15 ct_Tr ff_Tr_1 rfl rfl (ovs_same _ _ _) (Nat.le_of_ble_eq_true rfl) ?_
  refine go_G (fun H hG => nr_put hG) ?_
  exact go_vret hF hM d_Tr_init_14 (by decide) (by decide) (fun H hG => ⟨rfl, hG⟩)
theorem ovs_comm {O : Nat → Option va_E} {a b : Nat} {x y : va_E} (h : a ≠ b) : ovs (ovs O b x) a y = ovs (ovs O a y) b x := by
  funext q
  unfold ovs
  by_cases h1 : q = a
  · by_cases h2 : q = b
    · exact absurd (h1.symm.trans h2) h
    · simp [h1, h]
  · simp [h1]
abbrev aI (E : gE) (n : Nat) : va_E := .inl (aty E 0, n, .inl (fun _ => 0))
abbrev aL (E : gE) (n : Nat) : va_E := .inl (aty E 1, n, .inr (.inl (fun _ => 0)))
abbrev aR (E : gE) (t n : Nat) : va_E := .inl (aty E t, n, .inr (.inr (.inr (.inr (fun _ => none)))))
/-- what its constructor leaves at b and behind -/
def ovHa (E : gE) (O : Nat → Option va_E) (b : Nat) : Nat → Option va_E := ovs (ovs (ovs (ovs (ovs (O) (b) (.inr (5, [.int 0, .ref (b + 1), .ref (b + 2), .ref (b + 3), .ref (b + 4)]))) (b + 1) (aI E 100)) (b + 2) (aI E 100)) (b + 3) (aL E 100)) (b + 4) (aI E 100)
set_option maxHeartbeats 4000000 in
set_option maxRecDepth 100000 in
theorem con_Ha_init {l : Launch} (hlt : l.stackTraces = false) {E : gE} {B : bsT} {w : wdT} {on : Nat → Nat → Bool} {O : Nat → Option va_E} {b : Nat}  : Con l E y_Ha_init (Cond.code y_Ha_init c_Ha_init 1 none :: gAll) rm_Ha_init [.ref b] (gw E B (on, ovs (O) (b) (.inr (5, [.int 0, .null, .null, .null, .null])), b + 1) w) (fun v H => v = none ∧ gw E B (on, ovHa E O b, b + 5) w H) (fun _ _ => False) 4 400 := by
  refine con_of (by decide) hlt (Nat.le_of_ble_eq_true rfl) ?_
  intro F hF hM htab hnm hE hlo hl
  subst hl
  have hF : Fb F c_Ha_init R_Ha 1 rm_Ha_init := hF
  have hK := hE.1
  have hT := hE.2.1
  refine go_lv (lv' := [(0, _)]) ⟨rfl, trivial⟩ ?_
  refine go_aload_n hF d_Ha_init_0 rfl ?_
  refine go_objInit hF d_Ha_init_1 lo_Ha oi_1 oi_2 ⟨by decide, by decide⟩ ?_
  refine go_aload_n hF d_Ha_init_4 rfl ?_
  refine go_bipush (v := 100) hF d_Ha_init_5 (by decide) ?_
  refine gs_newai (N := (on, ovs (O) (b) (.inr (5, [.int 0, .null, .null, .null, .null])), b + 1)) hF hK hT d_Ha_init_7 (by decide) ⟨by decide, by decide⟩ rfl ac_int ?_
  refine go_G (G' := gw E B (on, ovs (ovs (O) (b) (.inr (5, [.int 0, .null, .null, .null, .null]))) (b + 1) (aI E 100), b + 2) w) (fun H hG => hG) ?_
  refine gs_putOF (N := (on, ovs (ovs (O) (b) (.inr (5, [.int 0, .null, .null, .null, .null]))) (b + 1) (aI E 100), b + 2)) (v := .ref (b + 1)) hF hK hlo hnm d_Ha_init_9 fl_Ha_9 ct_Ha ff_Ha_1 rfl rfl ((ovs_ne _ _ (by omega)).trans (ovs_same _ _ _)) (Nat.le_of_ble_eq_true rfl) ?_
  refine go_G (G' := gw E B (on, ovs (ovs (O) (b) (.inr (5, [.int 0, .ref (b + 1), .null, .null, .null]))) (b + 1) (aI E 100), b + 2) w) (fun H hG => by rw [ovs_comm (show b ≠ b + 1 by omega), ovs_ovs] at hG; exact hG) ?_
  refine go_aload_n hF d_Ha_init_12 rfl ?_
  refine go_bipush (v := 100) hF d_Ha_init_13 (by decide) ?_
  refine gs_newai (N := (on, ovs (ovs (O) (b) (.inr (5, [.int 0, .ref (b + 1), .null, .null, .null]))) (b + 1) (aI E 100), b + 2)) hF hK hT d_Ha_init_15 (by decide) ⟨by decide, by decide⟩ rfl ac_int ?_
  refine go_G (G' := gw E B (on, ovs (ovs (ovs (O) (b) (.inr (5, [.int 0, .ref (b + 1), .null, .null, .null]))) (b + 1) (aI E 100)) (b + 2) (aI E 100), b + 3) w) (fun H hG => hG) ?_
  refine gs_putOF (N := (on, ovs (ovs (ovs (O) (b) (.inr (5, [.int 0, .ref (b + 1), .null, .null, .null]))) (b + 1) (aI E 100)) (b + 2) (aI E 100), b + 3)) (v := .ref (b + 2)) hF hK hlo hnm d_Ha_init_17 fl_Ha_15 ct_Ha ff_Ha_2 rfl rfl ((ovs_ne _ _ (by omega)).trans ((ovs_ne _ _ (by omega)).trans (ovs_same _ _ _))) (Nat.le_of_ble_eq_true rfl) ?_
  refine go_G (G' := gw E B (on, ovs (ovs (ovs (O) (b) (.inr (5, [.int 0, .ref (b + 1), .ref (b + 2), .null, .null]))) (b + 1) (aI E 100)) (b + 2) (aI E 100), b + 3) w) (fun H hG => by rw [ovs_comm (show b ≠ b + 2 by omega), ovs_comm (show b ≠ b + 1 by omega), ovs_ovs] at hG; exact hG) ?_
  refine go_aload_n hF d_Ha_init_20 rfl ?_
  refine go_bipush (v := 100) hF d_Ha_init_21 (by decide) ?_
  refine gs_newal (N := (on, ovs (ovs (ovs (O) (b) (.inr (5, [.int 0, .ref (b + 1), .ref (b + 2), .null, .null]))) (b + 1) (aI E 100)) (b + 2) (aI E 100), b + 3)) hF hK hT d_Ha_init_23 (by decide) ⟨by decide, by decide⟩ rfl ac_long ?_
  refine go_G (G' := gw E B (on, ovs (ovs (ovs (ovs (O) (b) (.inr (5, [.int 0, .ref (b + 1), .ref (b + 2), .null, .null]))) (b + 1) (aI E 100)) (b + 2) (aI E 100)) (b + 3) (aL E 100), b + 4) w) (fun H hG => hG) ?_
  refine gs_putOF (N := (on, ovs (ovs (ovs (ovs (O) (b) (.inr (5, [.int 0, .ref (b + 1), .ref (b + 2), .null, .null]))) (b + 1) (aI E 100)) (b + 2) (aI E 100)) (b + 3) (aL E 100), b + 4)) (v := .ref (b + 3)) hF hK hlo hnm d_Ha_init_25 fl_Ha_18 ct_Ha ff_Ha_3 rfl rfl ((ovs_ne _ _ (by omega)).trans ((ovs_ne _ _ (by omega)).trans ((ovs_ne _ _ (by omega)).trans (ovs_same _ _ _)))) (Nat.le_of_ble_eq_true rfl) ?_
  refine go_G (G' := gw E B (on, ovs (ovs (ovs (ovs (O) (b) (.inr (5, [.int 0, .ref (b + 1), .ref (b + 2), .ref (b + 3), .null]))) (b + 1) (aI E 100)) (b + 2) (aI E 100)) (b + 3) (aL E 100), b + 4) w) (fun H hG => by rw [ovs_comm (show b ≠ b + 3 by omega), ovs_comm (show b ≠ b + 2 by omega), ovs_comm (show b ≠ b + 1 by omega), ovs_ovs] at hG; exact hG) ?_
  refine go_aload_n hF d_Ha_init_28 rfl ?_
  refine go_bipush (v := 100) hF d_Ha_init_29 (by decide) ?_
  refine gs_newai (N := (on, ovs (ovs (ovs (ovs (O) (b) (.inr (5, [.int 0, .ref (b + 1), .ref (b + 2), .ref (b + 3), .null]))) (b + 1) (aI E 100)) (b + 2) (aI E 100)) (b + 3) (aL E 100), b + 4)) hF hK hT d_Ha_init_31 (by decide) ⟨by decide, by decide⟩ rfl ac_int ?_
  refine go_G (G' := gw E B (on, ovs (ovs (ovs (ovs (ovs (O) (b) (.inr (5, [.int 0, .ref (b + 1), .ref (b + 2), .ref (b + 3), .null]))) (b + 1) (aI E 100)) (b + 2) (aI E 100)) (b + 3) (aL E 100)) (b + 4) (aI E 100), b + 5) w) (fun H hG => hG) ?_
  refine gs_putOF (N := (on, ovs (ovs (ovs (ovs (ovs (O) (b) (.inr (5, [.int 0, .ref (b + 1), .ref (b + 2), .ref (b + 3), .null]))) (b + 1) (aI E 100)) (b + 2) (aI E 100)) (b + 3) (aL E 100)) (b + 4) (aI E 100), b + 5)) (v := .ref (b + 4)) hF hK hlo hnm d_Ha_init_33 fl_Ha_22 ct_Ha ff_Ha_4 rfl rfl ((ovs_ne _ _ (by omega)).trans ((ovs_ne _ _ (by omega)).trans ((ovs_ne _ _ (by omega)).trans ((ovs_ne _ _ (by omega)).trans (ovs_same _ _ _))))) (Nat.le_of_ble_eq_true rfl) ?_
  refine go_G (G' := gw E B (on, ovs (ovs (ovs (ovs (ovs (O) (b) (.inr (5, [.int 0, .ref (b + 1), .ref (b + 2), .ref (b + 3), .ref (b + 4)]))) (b + 1) (aI E 100)) (b + 2) (aI E 100)) (b + 3) (aL E 100)) (b + 4) (aI E 100), b + 5) w) (fun H hG => by rw [ovs_comm (show b ≠ b + 4 by omega), ovs_comm (show b ≠ b + 3 by omega), ovs_comm (show b ≠ b + 2 by omega), ovs_comm (show b ≠ b + 1 by omega), ovs_ovs] at hG; exact hG) ?_
  exact go_vret hF hM d_Ha_init_36 (by decide) (by decide) (fun H hG => ⟨rfl, hG⟩)
/-- what its constructor leaves at b and behind -/
def ovWa (E : gE) (O : Nat → Option va_E) (b : Nat) : Nat → Option va_E := ovs (ovs (ovs (ovs (O) (b) (.inr (6, [.int 0, .ref (b + 1), .ref (b + 2), .ref (b + 3)]))) (b + 1) (aI E 600)) (b + 2) (aI E 600)) (b + 3) (aI E 600)
set_option maxHeartbeats 4000000 in
set_option maxRecDepth 100000 in
theorem con_Wa_init {l : Launch} (hlt : l.stackTraces = false) {E : gE} {B : bsT} {w : wdT} {on : Nat → Nat → Bool} {O : Nat → Option va_E} {b : Nat}  : Con l E y_Wa_init (Cond.code y_Wa_init c_Wa_init 1 none :: gAll) rm_Wa_init [.ref b] (gw E B (on, ovs (O) (b) (.inr (6, [.int 0, .null, .null, .null])), b + 1) w) (fun v H => v = none ∧ gw E B (on, ovWa E O b, b + 4) w H) (fun _ _ => False) 3 1800 := by
  refine con_of (by decide) hlt (Nat.le_of_ble_eq_true rfl) ?_
  intro F hF hM htab hnm hE hlo hl
  subst hl
  have hF : Fb F c_Wa_init R_Wa 1 rm_Wa_init := hF
  have hK := hE.1
  have hT := hE.2.1
  refine go_lv (lv' := [(0, _)]) ⟨rfl, trivial⟩ ?_
  refine go_aload_n hF d_Wa_init_0 rfl ?_
  refine go_objInit hF d_Wa_init_1 lo_Wa oi_1 oi_2 ⟨by decide, by decide⟩ ?_
  refine go_aload_n hF d_Wa_init_4 rfl ?_
  refine go_sipush (v := 600) hF d_Wa_init_5 (by decide) ?_
  refine gs_newai (N := (on, ovs (O) (b) (.inr (6, [.int 0, .null, .null, .null])), b + 1)) hF hK hT d_Wa_init_8 (by decide) ⟨by decide, by decide⟩ rfl ac_int ?_
  refine go_G (G' := gw E B (on, ovs (ovs (O) (b) (.inr (6, [.int 0, .null, .null, .null]))) (b + 1) (aI E 600), b + 2) w) (fun H hG => hG) ?_
  refine gs_putOF (N := (on, ovs (ovs (O) (b) (.inr (6, [.int 0, .null, .null, .null]))) (b + 1) (aI E 600), b + 2)) (v := .ref (b + 1)) hF hK hlo hnm d_Wa_init_10 fl_Wa_9 ct_Wa ff_Wa_1 rfl rfl ((ovs_ne _ _ (by omega)).trans (ovs_same _ _ _)) (Nat.le_of_ble_eq_true rfl) ?_
  refine go_G (G' := gw E B (on, ovs (ovs (O) (b) (.inr (6, [.int 0, .ref (b + 1), .null, .null]))) (b + 1) (aI E 600), b + 2) w) (fun H hG => by rw [ovs_comm (show b ≠ b + 1 by omega), ovs_ovs] at hG; exact hG) ?_
  refine go_aload_n hF d_Wa_init_13 rfl ?_
  refine go_sipush (v := 600) hF d_Wa_init_14 (by decide) ?_
  refine gs_newai (N := (on, ovs (ovs (O) (b) (.inr (6, [.int 0, .ref (b + 1), .null, .null]))) (b + 1) (aI E 600), b + 2)) hF hK hT d_Wa_init_17 (by decide) ⟨by decide, by decide⟩ rfl ac_int ?_
  refine go_G (G' := gw E B (on, ovs (ovs (ovs (O) (b) (.inr (6, [.int 0, .ref (b + 1), .null, .null]))) (b + 1) (aI E 600)) (b + 2) (aI E 600), b + 3) w) (fun H hG => hG) ?_
  refine gs_putOF (N := (on, ovs (ovs (ovs (O) (b) (.inr (6, [.int 0, .ref (b + 1), .null, .null]))) (b + 1) (aI E 600)) (b + 2) (aI E 600), b + 3)) (v := .ref (b + 2)) hF hK hlo hnm d_Wa_init_19 fl_Wa_15 ct_Wa ff_Wa_2 rfl rfl ((ovs_ne _ _ (by omega)).trans ((ovs_ne _ _ (by omega)).trans (ovs_same _ _ _))) (Nat.le_of_ble_eq_true rfl) ?_
  refine go_G (G' := gw E B (on, ovs (ovs (ovs (O) (b) (.inr (6, [.int 0, .ref (b + 1), .ref (b + 2), .null]))) (b + 1) (aI E 600)) (b + 2) (aI E 600), b + 3) w) (fun H hG => by rw [ovs_comm (show b ≠ b + 2 by omega), ovs_comm (show b ≠ b + 1 by omega), ovs_ovs] at hG; exact hG) ?_
  refine go_aload_n hF d_Wa_init_22 rfl ?_
  refine go_sipush (v := 600) hF d_Wa_init_23 (by decide) ?_
  refine gs_newai (N := (on, ovs (ovs (ovs (O) (b) (.inr (6, [.int 0, .ref (b + 1), .ref (b + 2), .null]))) (b + 1) (aI E 600)) (b + 2) (aI E 600), b + 3)) hF hK hT d_Wa_init_26 (by decide) ⟨by decide, by decide⟩ rfl ac_int ?_
  refine go_G (G' := gw E B (on, ovs (ovs (ovs (ovs (O) (b) (.inr (6, [.int 0, .ref (b + 1), .ref (b + 2), .null]))) (b + 1) (aI E 600)) (b + 2) (aI E 600)) (b + 3) (aI E 600), b + 4) w) (fun H hG => hG) ?_
  refine gs_putOF (N := (on, ovs (ovs (ovs (ovs (O) (b) (.inr (6, [.int 0, .ref (b + 1), .ref (b + 2), .null]))) (b + 1) (aI E 600)) (b + 2) (aI E 600)) (b + 3) (aI E 600), b + 4)) (v := .ref (b + 3)) hF hK hlo hnm d_Wa_init_28 fl_Wa_18 ct_Wa ff_Wa_3 rfl rfl ((ovs_ne _ _ (by omega)).trans ((ovs_ne _ _ (by omega)).trans ((ovs_ne _ _ (by omega)).trans (ovs_same _ _ _)))) (Nat.le_of_ble_eq_true rfl) ?_
  refine go_G (G' := gw E B (on, ovs (ovs (ovs (ovs (O) (b) (.inr (6, [.int 0, .ref (b + 1), .ref (b + 2), .ref (b + 3)]))) (b + 1) (aI E 600)) (b + 2) (aI E 600)) (b + 3) (aI E 600), b + 4) w) (fun H hG => by rw [ovs_comm (show b ≠ b + 3 by omega), ovs_comm (show b ≠ b + 2 by omega), ovs_comm (show b ≠ b + 1 by omega), ovs_ovs] at hG; exact hG) ?_
  exact go_vret hF hM d_Wa_init_31 (by decide) (by decide) (fun H hG => ⟨rfl, hG⟩)
/-- what its constructor leaves at b and behind -/
def ovTa (E : gE) (O : Nat → Option va_E) (b : Nat) : Nat → Option va_E := ovs (ovs (O) (b) (.inr (7, [.int 0, .ref (b + 1)]))) (b + 1) (aI E 2000)
set_option maxHeartbeats 4000000 in
set_option maxRecDepth 100000 in
theorem con_Ta_init {l : Launch} (hlt : l.stackTraces = false) {E : gE} {B : bsT} {w : wdT} {on : Nat → Nat → Bool} {O : Nat → Option va_E} {b : Nat}  : Con l E y_Ta_init (Cond.code y_Ta_init c_Ta_init 1 none :: gAll) rm_Ta_init [.ref b] (gw E B (on, ovs (O) (b) (.inr (7, [.int 0, .null])), b + 1) w) (fun v H => v = none ∧ gw E B (on, ovTa E O b, b + 2) w H) (fun _ _ => False) 1 2000 := by
  refine con_of (by decide) hlt (Nat.le_of_ble_eq_true rfl) ?_
  intro F hF hM htab hnm hE hlo hl
  subst hl
  have hF : Fb F c_Ta_init R_Ta 1 rm_Ta_init := hF
  have hK := hE.1
  have hT := hE.2.1
  refine go_lv (lv' := [(0, _)]) ⟨rfl, trivial⟩ ?_
  refine go_aload_n hF d_Ta_init_0 rfl ?_
  refine go_objInit hF d_Ta_init_1 lo_Ta oi_1 oi_2 ⟨by decide, by decide⟩ ?_
  refine go_aload_n hF d_Ta_init_4 rfl ?_
  refine go_sipush (v := 2000) hF d_Ta_init_5 (by decide) ?_
  refine gs_newai (N := (on, ovs (O) (b) (.inr (7, [.int 0, .null])), b + 1)) hF hK hT d_Ta_init_8 (by decide) ⟨by decide, by decide⟩ rfl ac_int ?_
  refine go_G (G' := gw E B (on, ovs (ovs (O) (b) (.inr (7, [.int 0, .null]))) (b + 1) (aI E 2000), b + 2) w) (fun H hG => hG) ?_
  refine gs_putOF (N := (on, ovs (ovs (O) (b) (.inr (7, [.int 0, .null]))) (b + 1) (aI E 2000), b + 2)) (v := .ref (b + 1)) hF hK hlo hnm d_Ta_init_10 fl_Ta_9 ct_Ta ff_Ta_1 rfl rfl ((ovs_ne _ _ (by omega)).trans (ovs_same _ _ _)) (Nat.le_of_ble_eq_true rfl) ?_
  refine go_G (G' := gw E B (on, ovs (ovs (O) (b) (.inr (7, [.int 0, .ref (b + 1)]))) (b + 1) (aI E 2000), b + 2) w) (fun H hG => by rw [ovs_comm (show b ≠ b + 1 by omega), ovs_ovs] at hG; exact hG) ?_
  exact go_vret hF hM d_Ta_init_13 (by decide) (by decide) (fun H hG => ⟨rfl, hG⟩)
/-- what its constructor leaves at b and behind -/
def ovMo (E : gE) (O : Nat → Option va_E) (b : Nat) : Nat → Option va_E := ovs (ovs (ovs (ovs (ovs (ovs (ovs (O) (b) (.inr (9, [.int 0, .ref (b + 1), .ref (b + 2), .int 0, .ref (b + 3), .int 0, .ref (b + 4), .ref (b + 5), .ref (b + 6)]))) (b + 1) (aI E 3300)) (b + 2) (aI E 13200)) (b + 3) (aI E 2000)) (b + 4) (aI E 1000)) (b + 5) (aI E 1000)) (b + 6) (aI E 1000)
set_option maxHeartbeats 4000000 in
set_option maxRecDepth 100000 in
theorem con_Mo_init {l : Launch} (hlt : l.stackTraces = false) {E : gE} {B : bsT} {w : wdT} {on : Nat → Nat → Bool} {O : Nat → Option va_E} {b : Nat}  : Con l E y_Mo_init (Cond.code y_Mo_init c_Mo_init 1 none :: gAll) rm_Mo_init [.ref b] (gw E B (on, ovs (O) (b) (.inr (9, [.int 0, .null, .null, .int 0, .null, .int 0, .null, .null, .null])), b + 1) w) (fun v H => v = none ∧ gw E B (on, ovMo E O b, b + 7) w H) (fun _ _ => False) 6 21500 := by
  refine con_of (by decide) hlt (Nat.le_of_ble_eq_true rfl) ?_
  intro F hF hM htab hnm hE hlo hl
  subst hl
  have hF : Fb F c_Mo_init R_Mo 1 rm_Mo_init := hF
  have hK := hE.1
  have hT := hE.2.1
  refine go_lv (lv' := [(0, _)]) ⟨rfl, trivial⟩ ?_
  refine go_aload_n hF d_Mo_init_0 rfl ?_
  refine go_objInit hF d_Mo_init_1 lo_Mo oi_1 oi_2 ⟨by decide, by decide⟩ ?_
  refine go_aload_n hF d_Mo_init_4 rfl ?_
  refine go_sipush (v := 3300) hF d_Mo_init_5 (by decide) ?_
  refine gs_newai (N := (on, ovs (O) (b) (.inr (9, [.int 0, .null, .null, .int 0, .null, .int 0, .null, .null, .null])), b + 1)) hF hK hT d_Mo_init_8 (by decide) ⟨by decide, by decide⟩ rfl ac_int ?_
  refine go_G (G' := gw E B (on, ovs (ovs (O) (b) (.inr (9, [.int 0, .null, .null, .int 0, .null, .int 0, .null, .null, .null]))) (b + 1) (aI E 3300), b + 2) w) (fun H hG => hG) ?_
  refine gs_putOF (N := (on, ovs (ovs (O) (b) (.inr (9, [.int 0, .null, .null, .int 0, .null, .int 0, .null, .null, .null]))) (b + 1) (aI E 3300), b + 2)) (v := .ref (b + 1)) hF hK hlo hnm d_Mo_init_10 fl_Mo_7 ct_Mo ff_Mo_1 rfl rfl ((ovs_ne _ _ (by omega)).trans (ovs_same _ _ _)) (Nat.le_of_ble_eq_true rfl) ?_
  refine go_G (G' := gw E B (on, ovs (ovs (O) (b) (.inr (9, [.int 0, .ref (b + 1), .null, .int 0, .null, .int 0, .null, .null, .null]))) (b + 1) (aI E 3300), b + 2) w) (fun H hG => by rw [ovs_comm (show b ≠ b + 1 by omega), ovs_ovs] at hG; exact hG) ?_
  refine go_aload_n hF d_Mo_init_13 rfl ?_
  refine go_sipush (v := 13200) hF d_Mo_init_14 (by decide) ?_
  refine gs_newai (N := (on, ovs (ovs (O) (b) (.inr (9, [.int 0, .ref (b + 1), .null, .int 0, .null, .int 0, .null, .null, .null]))) (b + 1) (aI E 3300), b + 2)) hF hK hT d_Mo_init_17 (by decide) ⟨by decide, by decide⟩ rfl ac_int ?_
  refine go_G (G' := gw E B (on, ovs (ovs (ovs (O) (b) (.inr (9, [.int 0, .ref (b + 1), .null, .int 0, .null, .int 0, .null, .null, .null]))) (b + 1) (aI E 3300)) (b + 2) (aI E 13200), b + 3) w) (fun H hG => hG) ?_
  refine gs_putOF (N := (on, ovs (ovs (ovs (O) (b) (.inr (9, [.int 0, .ref (b + 1), .null, .int 0, .null, .int 0, .null, .null, .null]))) (b + 1) (aI E 3300)) (b + 2) (aI E 13200), b + 3)) (v := .ref (b + 2)) hF hK hlo hnm d_Mo_init_19 fl_Mo_13 ct_Mo ff_Mo_2 rfl rfl ((ovs_ne _ _ (by omega)).trans ((ovs_ne _ _ (by omega)).trans (ovs_same _ _ _))) (Nat.le_of_ble_eq_true rfl) ?_
  refine go_G (G' := gw E B (on, ovs (ovs (ovs (O) (b) (.inr (9, [.int 0, .ref (b + 1), .ref (b + 2), .int 0, .null, .int 0, .null, .null, .null]))) (b + 1) (aI E 3300)) (b + 2) (aI E 13200), b + 3) w) (fun H hG => by rw [ovs_comm (show b ≠ b + 2 by omega), ovs_comm (show b ≠ b + 1 by omega), ovs_ovs] at hG; exact hG) ?_
  refine go_aload_n hF d_Mo_init_22 rfl ?_
  refine go_sipush (v := 2000) hF d_Mo_init_23 (by decide) ?_
  refine gs_newai (N := (on, ovs (ovs (ovs (O) (b) (.inr (9, [.int 0, .ref (b + 1), .ref (b + 2), .int 0, .null, .int 0, .null, .null, .null]))) (b + 1) (aI E 3300)) (b + 2) (aI E 13200), b + 3)) hF hK hT d_Mo_init_26 (by decide) ⟨by decide, by decide⟩ rfl ac_int ?_
  refine go_G (G' := gw E B (on, ovs (ovs (ovs (ovs (O) (b) (.inr (9, [.int 0, .ref (b + 1), .ref (b + 2), .int 0, .null, .int 0, .null, .null, .null]))) (b + 1) (aI E 3300)) (b + 2) (aI E 13200)) (b + 3) (aI E 2000), b + 4) w) (fun H hG => hG) ?_
  refine gs_putOF (N := (on, ovs (ovs (ovs (ovs (O) (b) (.inr (9, [.int 0, .ref (b + 1), .ref (b + 2), .int 0, .null, .int 0, .null, .null, .null]))) (b + 1) (aI E 3300)) (b + 2) (aI E 13200)) (b + 3) (aI E 2000), b + 4)) (v := .ref (b + 3)) hF hK hlo hnm d_Mo_init_28 fl_Mo_16 ct_Mo ff_Mo_4 rfl rfl ((ovs_ne _ _ (by omega)).trans ((ovs_ne _ _ (by omega)).trans ((ovs_ne _ _ (by omega)).trans (ovs_same _ _ _)))) (Nat.le_of_ble_eq_true rfl) ?_
  refine go_G (G' := gw E B (on, ovs (ovs (ovs (ovs (O) (b) (.inr (9, [.int 0, .ref (b + 1), .ref (b + 2), .int 0, .ref (b + 3), .int 0, .null, .null, .null]))) (b + 1) (aI E 3300)) (b + 2) (aI E 13200)) (b + 3) (aI E 2000), b + 4) w) (fun H hG => by rw [ovs_comm (show b ≠ b + 3 by omega), ovs_comm (show b ≠ b + 2 by omega), ovs_comm (show b ≠ b + 1 by omega), ovs_ovs] at hG; exact hG) ?_
  refine go_aload_n hF d_Mo_init_31 rfl ?_
  refine go_sipush (v := 1000) hF d_Mo_init_32 (by decide) ?_
  refine gs_newai (N := (on, ovs (ovs (ovs (ovs (O) (b) (.inr (9, [.int 0, .ref (b + 1), .ref (b + 2), .int 0, .ref (b + 3), .int 0, .null, .null, .null]))) (b + 1) (aI E 3300)) (b + 2) (aI E 13200)) (b + 3) (aI E 2000), b + 4)) hF hK hT d_Mo_init_35 (by decide) ⟨by decide, by decide⟩ rfl ac_int ?_
  refine go_G (G' := gw E B (on, ovs (ovs (ovs (ovs (ovs (O) (b) (.inr (9, [.int 0, .ref (b + 1), .ref (b + 2), .int 0, .ref (b + 3), .int 0, .null, .null, .null]))) (b + 1) (aI E 3300)) (b + 2) (aI E 13200)) (b + 3) (aI E 2000)) (b + 4) (aI E 1000), b + 5) w) (fun H hG => hG) ?_
  refine gs_putOF (N := (on, ovs (ovs (ovs (ovs (ovs (O) (b) (.inr (9, [.int 0, .ref (b + 1), .ref (b + 2), .int 0, .ref (b + 3), .int 0, .null, .null, .null]))) (b + 1) (aI E 3300)) (b + 2) (aI E 13200)) (b + 3) (aI E 2000)) (b + 4) (aI E 1000), b + 5)) (v := .ref (b + 4)) hF hK hlo hnm d_Mo_init_37 fl_Mo_19 ct_Mo ff_Mo_6 rfl rfl ((ovs_ne _ _ (by omega)).trans ((ovs_ne _ _ (by omega)).trans ((ovs_ne _ _ (by omega)).trans ((ovs_ne _ _ (by omega)).trans (ovs_same _ _ _))))) (Nat.le_of_ble_eq_true rfl) ?_
  refine go_G (G' := gw E B (on, ovs (ovs (ovs (ovs (ovs (O) (b) (.inr (9, [.int 0, .ref (b + 1), .ref (b + 2), .int 0, .ref (b + 3), .int 0, .ref (b + 4), .null, .null]))) (b + 1) (aI E 3300)) (b + 2) (aI E 13200)) (b + 3) (aI E 2000)) (b + 4) (aI E 1000), b + 5) w) (fun H hG => by rw [ovs_comm (show b ≠ b + 4 by omega), ovs_comm (show b ≠ b + 3 by omega), ovs_comm (show b ≠ b + 2 by omega), ovs_comm (show b ≠ b + 1 by omega), ovs_ovs] at hG; exact hG) ?_
  refine go_aload_n hF d_Mo_init_40 rfl ?_
  refine go_sipush (v := 1000) hF d_Mo_init_41 (by decide) ?_
  refine gs_newai (N := (on, ovs (ovs (ovs (ovs (ovs (O) (b) (.inr (9, [.int 0, .ref (b + 1), .ref (b + 2), .int 0, .ref (b + 3), .int 0, .ref (b + 4), .null, .null]))) (b + 1) (aI E 3300)) (b + 2) (aI E 13200)) (b + 3) (aI E 2000)) (b + 4) (aI E 1000), b + 5)) hF hK hT d_Mo_init_44 (by decide) ⟨by decide, by decide⟩ rfl ac_int ?_
  refine go_G (G' := gw E B (on, ovs (ovs (ovs (ovs (ovs (ovs (O) (b) (.inr (9, [.int 0, .ref (b + 1), .ref (b + 2), .int 0, .ref (b + 3), .int 0, .ref (b + 4), .null, .null]))) (b + 1) (aI E 3300)) (b + 2) (aI E 13200)) (b + 3) (aI E 2000)) (b + 4) (aI E 1000)) (b + 5) (aI E 1000), b + 6) w) (fun H hG => hG) ?_
  refine gs_putOF (N := (on, ovs (ovs (ovs (ovs (ovs (ovs (O) (b) (.inr (9, [.int 0, .ref (b + 1), .ref (b + 2), .int 0, .ref (b + 3), .int 0, .ref (b + 4), .null, .null]))) (b + 1) (aI E 3300)) (b + 2) (aI E 13200)) (b + 3) (aI E 2000)) (b + 4) (aI E 1000)) (b + 5) (aI E 1000), b + 6)) (v := .ref (b + 5)) hF hK hlo hnm d_Mo_init_46 fl_Mo_22 ct_Mo ff_Mo_7 rfl rfl ((ovs_ne _ _ (by omega)).trans ((ovs_ne _ _ (by omega)).trans ((ovs_ne _ _ (by omega)).trans ((ovs_ne _ _ (by omega)).trans ((ovs_ne _ _ (by omega)).trans (ovs_same _ _ _)))))) (Nat.le_of_ble_eq_true rfl) ?_
  refine go_G (G' := gw E B (on, ovs (ovs (ovs (ovs (ovs (ovs (O) (b) (.inr (9, [.int 0, .ref (b + 1), .ref (b + 2), .int 0, .ref (b + 3), .int 0, .ref (b + 4), .ref (b + 5), .null]))) (b + 1) (aI E 3300)) (b + 2) (aI E 13200)) (b + 3) (aI E 2000)) (b + 4) (aI E 1000)) (b + 5) (aI E 1000), b + 6) w) (fun H hG => by rw [ovs_comm (show b ≠ b + 5 by omega), ovs_comm (show b ≠ b + 4 by omega), ovs_comm (show b ≠ b + 3 by omega), ovs_comm (show b ≠ b + 2 by omega), ovs_comm (show b ≠ b + 1 by omega), ovs_ovs] at hG; exact hG) ?_
  refine go_aload_n hF d_Mo_init_49 rfl ?_
  refine go_sipush (v := 1000) hF d_Mo_init_50 (by decide) ?_
  refine gs_newai (N := (on, ovs (ovs (ovs (ovs (ovs (ovs (O) (b) (.inr (9, [.int 0, .ref (b + 1), .ref (b + 2), .int 0, .ref (b + 3), .int 0, .ref (b + 4), .ref (b + 5), .null]))) (b + 1) (aI E 3300)) (b + 2) (aI E 13200)) (b + 3) (aI E 2000)) (b + 4) (aI E 1000)) (b + 5) (aI E 1000), b + 6)) hF hK hT d_Mo_init_53 (by decide) ⟨by decide, by decide⟩ rfl ac_int ?_
  refine go_G (G' := gw E B (on, ovs (ovs (ovs (ovs (ovs (ovs (ovs (O) (b) (.inr (9, [.int 0, .ref (b + 1), .ref (b + 2), .int 0, .ref (b + 3), .int 0, .ref (b + 4), .ref (b + 5), .null]))) (b + 1) (aI E 3300)) (b + 2) (aI E 13200)) (b + 3) (aI E 2000)) (b + 4) (aI E 1000)) (b + 5) (aI E 1000)) (b + 6) (aI E 1000), b + 7) w) (fun H hG => hG) ?_
  refine gs_putOF (N := (on, ovs (ovs (ovs (ovs (ovs (ovs (ovs (O) (b) (.inr (9, [.int 0, .ref (b + 1), .ref (b + 2), .int 0, .ref (b + 3), .int 0, .ref (b + 4), .ref (b + 5), .null]))) (b + 1) (aI E 3300)) (b + 2) (aI E 13200)) (b + 3) (aI E 2000)) (b + 4) (aI E 1000)) (b + 5) (aI E 1000)) (b + 6) (aI E 1000), b + 7)) (v := .ref (b + 6)) hF hK hlo hnm d_Mo_init_55 fl_Mo_25 ct_Mo ff_Mo_8 rfl rfl ((ovs_ne _ _ (by omega)).trans ((ovs_ne _ _ (by omega)).trans ((ovs_ne _ _ (by omega)).trans ((ovs_ne _ _ (by omega)).trans ((ovs_ne _ _ (by omega)).trans ((ovs_ne _ _ (by omega)).trans (ovs_same _ _ _))))))) (Nat.le_of_ble_eq_true rfl) ?_
  refine go_G (G' := gw E B (on, ovs (ovs (ovs (ovs (ovs (ovs (ovs (O) (b) (.inr (9, [.int 0, .ref (b + 1), .ref (b + 2), .int 0, .ref (b + 3), .int 0, .ref (b + 4), .ref (b + 5), .ref (b + 6)]))) (b + 1) (aI E 3300)) (b + 2) (aI E 13200)) (b + 3) (aI E 2000)) (b + 4) (aI E 1000)) (b + 5) (aI E 1000)) (b + 6) (aI E 1000), b + 7) w) (fun H hG => by rw [ovs_comm (show b ≠ b + 6 by omega), ovs_comm (show b ≠ b + 5 by omega), ovs_comm (show b ≠ b + 4 by omega), ovs_comm (show b ≠ b + 3 by omega), ovs_comm (show b ≠ b + 2 by omega), ovs_comm (show b ≠ b + 1 by omega), ovs_ovs] at hG; exact hG) ?_
  exact go_vret hF hM d_Mo_init_58 (by decide) (by decide) (fun H hG => ⟨rfl, hG⟩)
