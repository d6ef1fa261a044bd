def hcW (w : wdT) (ι ι' : Nat) : wdT := cpI (cpL (cpI (cpI (sI w 0 ι 4 0 0 (wI w 0 ι' 4 0 0)) 0 ι ι' 5 100) 0 ι ι' 6 100) 0 ι ι' 7 100) 0 ι ι' 8 100
def wcW (w : wdT) (ι ι' : Nat) : wdT := cpI (cpI (cpI (sI w 0 ι 9 0 0 (wI w 0 ι' 9 0 0)) 0 ι ι' 10 600) 0 ι ι' 11 600) 0 ι ι' 12 600
def chW (w : wdT) (ι ι' : Nat) : wdT := sI (sI (sI (sI (sL w 0 ι 0 0 0 (wL w 0 ι' 0 0 0)) 0 ι 0 1 0 (wI w 0 ι' 0 1 0)) 0 ι 0 2 0 (wI w 0 ι' 0 2 0)) 0 ι 0 4 0 (wI w 0 ι' 0 4 0)) 0 ι 0 6 0 (wI w 0 ι' 0 6 0)
def cp1 (w : wdT) (ι ι' n : Nat) : wdT := cpG (chW w ι ι') ι ι' 13 kiNe klNe n
def cp2 (w : wdT) (ι ι' n : Nat) : wdT := cpG (cp1 w ι ι' (nz (wI w 0 ι' 0 2 0))) ι ι' 14 kiGa klGa n
def cp3 (w : wdT) (ι ι' n : Nat) : wdT := cpG (cp2 w ι ι' (nz (wI w 0 ι' 0 4 0))) ι ι' 15 kiCh klCh n
def cpC (w : wdT) (ι ι' : Nat) : wdT := wcW (hcW (cp3 w ι ι' (nz (wI w 0 ι' 0 6 0))) ι ι') ι ι'
theorem cp1_I (w : wdT) {ι ι' : Nat} (hne : ι' ≠ ι) (n : Nat) {κ₁ ι₁ r k j : Nat} (h : ¬ (κ₁ = 0 ∧ ι₁ = ι ∧ r = 13)) : wI (cp1 w ι ι' n) κ₁ ι₁ r k j = wI (chW w ι ι') κ₁ ι₁ r k j := (cpG_I _ hne _ _ _ _ _ _ _ _ _).trans (if_neg (fun z => h ⟨z.1, z.2.1, z.2.2.1⟩))
theorem cp2_I (w : wdT) {ι ι' : Nat} (hne : ι' ≠ ι) (n : Nat) {κ₁ ι₁ r k j : Nat} (h : ¬ (κ₁ = 0 ∧ ι₁ = ι ∧ (r = 13 ∨ r = 14))) : wI (cp2 w ι ι' n) κ₁ ι₁ r k j = wI (chW w ι ι') κ₁ ι₁ r k j := ((cpG_I _ hne _ _ _ _ _ _ _ _ _).trans (if_neg (fun z => h ⟨z.1, z.2.1, Or.inr z.2.2.1⟩))).trans (cp1_I w hne _ (fun z => h ⟨z.1, z.2.1, Or.inl z.2.2⟩))
theorem cp3_I (w : wdT) {ι ι' : Nat} (hne : ι' ≠ ι) (n : Nat) {κ₁ ι₁ r k j : Nat} (h : ¬ (κ₁ = 0 ∧ ι₁ = ι ∧ (r = 13 ∨ r = 14 ∨ r = 15))) : wI (cp3 w ι ι' n) κ₁ ι₁ r k j = wI (chW w ι ι') κ₁ ι₁ r k j := ((cpG_I _ hne _ _ _ _ _ _ _ _ _).trans (if_neg (fun z => h ⟨z.1, z.2.1, Or.inr (Or.inr z.2.2.1)⟩))).trans (cp2_I w hne _ (fun z => h ⟨z.1, z.2.1, by rcases z.2.2 with y | y; exact Or.inl y; exact Or.inr (Or.inl y)⟩))
set_option maxHeartbeats 4000000 in
set_option maxRecDepth 100000 in
theorem con_Ha_copyFrom {l : Launch} (hlt : l.stackTraces = false) {E : gE} {B : bsT} {N : nwT} {w : wdT} {ι ι' : Nat} (ho : N.1 0 ι = true) (hp : N.1 0 ι' = true) : Con l E y_Ha_copyFrom (Cond.code y_Ha_copyFrom c_Ha_copyFrom 2 none :: gAll) rm_Ha_copyFrom [.ref (ad B 0 ι 4 0), .ref (ad B 0 ι' 4 0)] (gw E B N w) (fun v H => v = none ∧ gw E B N (hcW w ι ι') H) (fun _ _ => False) 0 0 := by
  refine con_of (by decide) hlt (Nat.le_of_ble_eq_true rfl) ?_
  intro F hF hM htab hnm hE hlo hl
  subst hl
  have hF : Fb F c_Ha_copyFrom R_Ha 2 rm_Ha_copyFrom := hF
  have hK := hE.1
  have hT := hE.2.1
  refine go_lv (lv' := [(0, _), (1, _)]) ⟨rfl, rfl, trivial⟩ ?_
  refine go_aload_n hF d_Ha_copyFrom_0 rfl ?_
  refine go_aload_n hF d_Ha_copyFrom_1 rfl ?_
  refine gs_geti hF hK d_Ha_copyFrom_2 fl_Ha_25 hp rfl rfl (by decide) rfl ?_
  refine gs_puti hF hK hlo d_Ha_copyFrom_5 fl_Ha_25 ct_Ha fs_Ha_0 ho rfl rfl (by decide) rfl rfl ?_
  refine go_aload_n hF d_Ha_copyFrom_8 rfl ?_
  refine gs_getr hF hK d_Ha_copyFrom_9 fl_Ha_9 hp rfl rfl (by decide) rfl ?_
  refine go_iconst (v := 0) hF d_Ha_copyFrom_12 (by decide) ?_
  refine go_aload_n hF d_Ha_copyFrom_13 rfl ?_
  refine gs_getr hF hK d_Ha_copyFrom_14 fl_Ha_9 ho rfl rfl (by decide) rfl ?_
  refine go_iconst (v := 0) hF d_Ha_copyFrom_17 (by decide) ?_
  refine go_bipush (v := 100) hF d_Ha_copyFrom_18 (by decide) ?_
  -- JDK CALL 20
  refine gs_copyi hF hK hT hlo d_Ha_copyFrom_20 ho hp rfl rfl (by decide) cw_Ha (by decide) (by decide) rfl ?_
  refine go_aload_n hF d_Ha_copyFrom_23 rfl ?_
  refine gs_getr hF hK d_Ha_copyFrom_24 fl_Ha_15 hp rfl rfl (by decide) rfl ?_
  refine go_iconst (v := 0) hF d_Ha_copyFrom_27 (by decide) ?_
  refine go_aload_n hF d_Ha_copyFrom_28 rfl ?_
  refine gs_getr hF hK d_Ha_copyFrom_29 fl_Ha_15 ho rfl rfl (by decide) rfl ?_
  refine go_iconst (v := 0) hF d_Ha_copyFrom_32 (by decide) ?_
  refine go_bipush (v := 100) hF d_Ha_copyFrom_33 (by decide) ?_
  -- JDK CALL 35
  refine gs_copyi hF hK hT hlo d_Ha_copyFrom_35 ho hp rfl rfl (by decide) cw_Ha (by decide) (by decide) rfl ?_
  refine go_aload_n hF d_Ha_copyFrom_38 rfl ?_
  refine gs_getr hF hK d_Ha_copyFrom_39 fl_Ha_18 hp rfl rfl (by decide) rfl ?_
  refine go_iconst (v := 0) hF d_Ha_copyFrom_42 (by decide) ?_
  refine go_aload_n hF d_Ha_copyFrom_43 rfl ?_
  refine gs_getr hF hK d_Ha_copyFrom_44 fl_Ha_18 ho rfl rfl (by decide) rfl ?_
  refine go_iconst (v := 0) hF d_Ha_copyFrom_47 (by decide) ?_
  refine go_bipush (v := 100) hF d_Ha_copyFrom_48 (by decide) ?_
  -- JDK CALL 50
  refine gs_copyl hF hK hT hlo d_Ha_copyFrom_50 ho hp rfl rfl (by decide) cw_Ha (by decide) (by decide) rfl ?_
  refine go_aload_n hF d_Ha_copyFrom_53 rfl ?_
  refine gs_getr hF hK d_Ha_copyFrom_54 fl_Ha_22 hp rfl rfl (by decide) rfl ?_
  refine go_iconst (v := 0) hF d_Ha_copyFrom_57 (by decide) ?_
  refine go_aload_n hF d_Ha_copyFrom_58 rfl ?_
  refine gs_getr hF hK d_Ha_copyFrom_59 fl_Ha_22 ho rfl rfl (by decide) rfl ?_
  refine go_iconst (v := 0) hF d_Ha_copyFrom_62 (by decide) ?_
  refine go_bipush (v := 100) hF d_Ha_copyFrom_63 (by decide) ?_
  -- JDK CALL 65
  refine gs_copyi hF hK hT hlo d_Ha_copyFrom_65 ho hp rfl rfl (by decide) cw_Ha (by decide) (by decide) rfl ?_
  exact go_vret hF hM d_Ha_copyFrom_68 (by decide) (by decide) (fun H hG => ⟨rfl, hG⟩)
set_option maxHeartbeats 4000000 in
set_option maxRecDepth 100000 in
theorem con_Wa_copyFrom {l : Launch} (hlt : l.stackTraces = false) {E : gE} {B : bsT} {N : nwT} {w : wdT} {ι ι' : Nat} (ho : N.1 0 ι = true) (hp : N.1 0 ι' = true) : Con l E y_Wa_copyFrom (Cond.code y_Wa_copyFrom c_Wa_copyFrom 2 none :: gAll) rm_Wa_copyFrom [.ref (ad B 0 ι 9 0), .ref (ad B 0 ι' 9 0)] (gw E B N w) (fun v H => v = none ∧ gw E B N (wcW w ι ι') H) (fun _ _ => False) 0 0 := by
  refine con_of (by decide) hlt (Nat.le_of_ble_eq_true rfl) ?_
  intro F hF hM htab hnm hE hlo hl
  subst hl
  have hF : Fb F c_Wa_copyFrom R_Wa 2 rm_Wa_copyFrom := hF
  have hK := hE.1
  have hT := hE.2.1
  refine go_lv (lv' := [(0, _), (1, _)]) ⟨rfl, rfl, trivial⟩ ?_
  refine go_aload_n hF d_Wa_copyFrom_0 rfl ?_
  refine go_aload_n hF d_Wa_copyFrom_1 rfl ?_
  refine gs_geti hF hK d_Wa_copyFrom_2 fl_Wa_21 hp rfl rfl (by decide) rfl ?_
  refine gs_puti hF hK hlo d_Wa_copyFrom_5 fl_Wa_21 ct_Wa fs_Wa_0 ho rfl rfl (by decide) rfl rfl ?_
  refine go_aload_n hF d_Wa_copyFrom_8 rfl ?_
  refine gs_getr hF hK d_Wa_copyFrom_9 fl_Wa_9 hp rfl rfl (by decide) rfl ?_
  refine go_iconst (v := 0) hF d_Wa_copyFrom_12 (by decide) ?_
  refine go_aload_n hF d_Wa_copyFrom_13 rfl ?_
  refine gs_getr hF hK d_Wa_copyFrom_14 fl_Wa_9 ho rfl rfl (by decide) rfl ?_
  refine go_iconst (v := 0) hF d_Wa_copyFrom_17 (by decide) ?_
  refine go_sipush (v := 600) hF d_Wa_copyFrom_18 (by decide) ?_
  -- JDK CALL 21
  refine gs_copyi hF hK hT hlo d_Wa_copyFrom_21 ho hp rfl rfl (by decide) cw_Wa (by decide) (by decide) rfl ?_
  refine go_aload_n hF d_Wa_copyFrom_24 rfl ?_
  refine gs_getr hF hK d_Wa_copyFrom_25 fl_Wa_15 hp rfl rfl (by decide) rfl ?_
  refine go_iconst (v := 0) hF d_Wa_copyFrom_28 (by decide) ?_
  refine go_aload_n hF d_Wa_copyFrom_29 rfl ?_
  refine gs_getr hF hK d_Wa_copyFrom_30 fl_Wa_15 ho rfl rfl (by decide) rfl ?_
  refine go_iconst (v := 0) hF d_Wa_copyFrom_33 (by decide) ?_
  refine go_sipush (v := 600) hF d_Wa_copyFrom_34 (by decide) ?_
  -- JDK CALL 37
  refine gs_copyi hF hK hT hlo d_Wa_copyFrom_37 ho hp rfl rfl (by decide) cw_Wa (by decide) (by decide) rfl ?_
  refine go_aload_n hF d_Wa_copyFrom_40 rfl ?_
  refine gs_getr hF hK d_Wa_copyFrom_41 fl_Wa_18 hp rfl rfl (by decide) rfl ?_
  refine go_iconst (v := 0) hF d_Wa_copyFrom_44 (by decide) ?_
  refine go_aload_n hF d_Wa_copyFrom_45 rfl ?_
  refine gs_getr hF hK d_Wa_copyFrom_46 fl_Wa_18 ho rfl rfl (by decide) rfl ?_
  refine go_iconst (v := 0) hF d_Wa_copyFrom_49 (by decide) ?_
  refine go_sipush (v := 600) hF d_Wa_copyFrom_50 (by decide) ?_
  -- JDK CALL 53
  refine gs_copyi hF hK hT hlo d_Wa_copyFrom_53 ho hp rfl rfl (by decide) cw_Wa (by decide) (by decide) rfl ?_
  exact go_vret hF hM d_Wa_copyFrom_56 (by decide) (by decide) (fun H hG => ⟨rfl, hG⟩)
set_option maxHeartbeats 4000000 in
set_option maxRecDepth 100000 in
theorem con_Ci_copyFrom {l : Launch} (hlt : l.stackTraces = false) {E : gE} {B : bsT} {N : nwT} {w : wdT} {ι ι' : Nat} (ho : N.1 0 ι = true) (hp : N.1 0 ι' = true) (hne : ι' ≠ ι) (h1 : ct (wI w 0 ι' 0 2 0) 24) (h2 : ct (wI w 0 ι' 0 4 0) 32) (h3 : ct (wI w 0 ι' 0 6 0) 20) : Con l E y_Ci_copyFrom (Cond.code y_Ci_copyFrom c_Ci_copyFrom 3 none :: gAll) rm_Ci_copyFrom [.ref (ad B 0 ι 0 0), .ref (ad B 0 ι' 0 0)] (gw E B N w) (fun v H => v = none ∧ gw E B N (cpC w ι ι') H) (fun _ _ => False) 0 0 := by
  refine con_of (by decide) hlt (Nat.le_of_ble_eq_true rfl) ?_
  intro F hF hM htab hnm hE hlo hl
  subst hl
  have hF : Fb F c_Ci_copyFrom R_Ci 3 rm_Ci_copyFrom := hF
  have hK := hE.1
  have hT := hE.2.1
  refine go_lv (lv' := [(0, _), (1, _)]) ⟨rfl, rfl, trivial⟩ ?_
  have L104 : ∀ m p : Nat, p + m = nz (wI w 0 ι' 0 6 0) → Go F 104 [(0, .ref (ad B 0 ι 0 0)), (1, .ref (ad B 0 ι' 0 0)), (2, .int (nI p))] [] (gw E B N (cp3 w ι ι' p)) 0 0 := by
    intro m
    induction m using Nat.strongRecOn with
    | _ m ih =>
      intro p hm
      have hcc : wI (cp3 w ι ι' p) 0 ι 0 6 0 = nI (nz (wI w 0 ι' 0 6 0)) := (cp3_I w hne p (by omega)).trans (Eq.trans (by unfold chW; simp only [rd_II, rd_LL, rd_PP, rd_IL, rd_IP, rd_LI, rd_LP, rd_PI, rd_PL, eq_self, true_and, and_true, false_and, and_false, if_true, if_false, reduceIte, reduceCtorEq, Nat.reduceEqDiff, Nat.one_ne_zero, Nat.zero_ne_one]) h3.1)
      have hle := h3.2
      refine go_iload_n hF d_Ci_copyFrom_104 rfl ?_
      refine go_aload_n hF d_Ci_copyFrom_105 rfl ?_
      refine gs_geti hF hK d_Ci_copyFrom_106 fl_Ci_60 ho rfl rfl (by decide) rfl ?_
      refine go_icmp_ge (tgt := 133) hF d_Ci_copyFrom_109 (by decide) (fun h109 => ?_) (fun h109 => ?_)
      · rw [hcc] at h109
        have e : p = nz (wI w 0 ι' 0 6 0) := (by have := (nI_leI (a := nz (wI w 0 ι' 0 6 0)) (b := p) (by omega) (by omega)).mp h109; omega)
        subst e
        
        refine go_aload_n hF d_Ci_copyFrom_133 rfl ?_
        refine gs_getr hF hK d_Ci_copyFrom_134 fl_Ci_36 ho rfl rfl (by decide) rfl ?_
        refine go_aload_n hF d_Ci_copyFrom_137 rfl ?_
        refine gs_getr hF hK d_Ci_copyFrom_138 fl_Ci_36 hp rfl rfl (by decide) rfl ?_
        refine go_callVX hF hE hlo d_Ci_copyFrom_141 (con_Ha_copyFrom hlt ho hp) mt_Ha_copyFrom mv_Ha_copyFrom lk_Ci_73 ⟨rfl, rfl, by decide, by decide⟩ rfl (Nat.le_of_ble_eq_true rfl) ⟨by decide, by decide⟩ (fun H hG => gw_recv (q := (R_Ha, T_Ha, 5)) hK hG ho rfl rfl (by decide) rfl) (fun M => gx_no) rfl (fun v => ?_)
        refine go_and (fun hv => ?_)
        subst hv
        refine go_aload_n hF d_Ci_copyFrom_144 rfl ?_
        refine gs_getr hF hK d_Ci_copyFrom_145 fl_Ci_43 ho rfl rfl (by decide) rfl ?_
        refine go_aload_n hF d_Ci_copyFrom_148 rfl ?_
        refine gs_getr hF hK d_Ci_copyFrom_149 fl_Ci_43 hp rfl rfl (by decide) rfl ?_
        refine go_callVX hF hE hlo d_Ci_copyFrom_152 (con_Wa_copyFrom hlt ho hp) mt_Wa_copyFrom mv_Wa_copyFrom lk_Ci_76 ⟨rfl, rfl, by decide, by decide⟩ rfl (Nat.le_of_ble_eq_true rfl) ⟨by decide, by decide⟩ (fun H hG => gw_recv (q := (R_Wa, T_Wa, 4)) hK hG ho rfl rfl (by decide) rfl) (fun M => gx_no) rfl (fun v => ?_)
        refine go_and (fun hv => ?_)
        subst hv
        exact go_vret hF hM d_Ci_copyFrom_155 (by decide) (by decide) (fun H hG => ⟨rfl, hG⟩)
      · have hp2 : p < nz (wI w 0 ι' 0 6 0) := by
          rw [hcc] at h109
          have z : ¬ nz (wI w 0 ι' 0 6 0) ≤ p := fun z => h109 ((nI_leI (a := nz (wI w 0 ι' 0 6 0)) (b := p) (by omega) (by omega)).mpr z)
          omega
        obtain ⟨f9, rfl⟩ : ∃ f9, m = f9 + 1 := ⟨m - 1, by omega⟩
        refine go_aload_n hF d_Ci_copyFrom_112 rfl ?_
        refine gs_getr hF hK d_Ci_copyFrom_113 fl_Ci_29 ho rfl rfl (by decide) rfl ?_
        refine go_iload_n hF d_Ci_copyFrom_116 rfl ?_
        refine gs_aald hF hK hT d_Ci_copyFrom_117 ho rfl rfl rfl (by omega) (by decide) ?_
        refine go_aload_n hF d_Ci_copyFrom_118 rfl ?_
        refine gs_getr hF hK d_Ci_copyFrom_119 fl_Ci_29 hp rfl rfl (by decide) rfl ?_
        refine go_iload_n hF d_Ci_copyFrom_122 rfl ?_
        refine gs_aald hF hK hT d_Ci_copyFrom_123 hp rfl rfl rfl (by omega) (by decide) ?_
        refine go_callVX hF hE hlo d_Ci_copyFrom_124 (con_Ch_copyFrom hlt ho hp hne (show p < 20 by omega)) mt_Ch_copyFrom mv_Ch_copyFrom lk_Ci_70 ⟨rfl, rfl, by decide, by decide⟩ rfl (Nat.le_of_ble_eq_true rfl) ⟨by decide, by decide⟩ (fun H hG => gw_recv (q := (R_Ch, T_Ch, 5)) hK hG ho rfl rfl (show _ < 20 from (by omega)) rfl) (fun M => gx_no) rfl (fun v => ?_)
        refine go_and (fun hv => ?_)
        subst hv
        refine go_iincN hF d_Ci_copyFrom_127 rfl (by decide) ?_
        refine go_lv (lv' := [(0, _), (1, _), (2, _)]) ⟨rfl, rfl, rfl, trivial⟩ ?_
        refine go_goto (tgt := 104) hF d_Ci_copyFrom_130 (by decide) ?_
        refine go_lv (lv' := [(0, _), (1, _), (2, _)]) ⟨rfl, rfl, rfl, trivial⟩ ?_
        exact ih f9 (by omega) (p + 1) (by omega)
  have L73 : ∀ m p : Nat, p + m = nz (wI w 0 ι' 0 4 0) → Go F 73 [(0, .ref (ad B 0 ι 0 0)), (1, .ref (ad B 0 ι' 0 0)), (2, .int (nI p))] [] (gw E B N (cp2 w ι ι' p)) 0 0 := by
    intro m
    induction m using Nat.strongRecOn with
    | _ m ih =>
      intro p hm
      have hcc : wI (cp2 w ι ι' p) 0 ι 0 4 0 = nI (nz (wI w 0 ι' 0 4 0)) := (cp2_I w hne p (by omega)).trans (Eq.trans (by unfold chW; simp only [rd_II, rd_LL, rd_PP, rd_IL, rd_IP, rd_LI, rd_LP, rd_PI, rd_PL, eq_self, true_and, and_true, false_and, and_false, if_true, if_false, reduceIte, reduceCtorEq, Nat.reduceEqDiff, Nat.one_ne_zero, Nat.zero_ne_one]) h2.1)
      have hle := h2.2
      refine go_iload_n hF d_Ci_copyFrom_73 rfl ?_
      refine go_aload_n hF d_Ci_copyFrom_74 rfl ?_
      refine gs_geti hF hK d_Ci_copyFrom_75 fl_Ci_57 ho rfl rfl (by decide) rfl ?_
      refine go_icmp_ge (tgt := 102) hF d_Ci_copyFrom_78 (by decide) (fun h78 => ?_) (fun h78 => ?_)
      · rw [hcc] at h78
        have e : p = nz (wI w 0 ι' 0 4 0) := (by have := (nI_leI (a := nz (wI w 0 ι' 0 4 0)) (b := p) (by omega) (by omega)).mp h78; omega)
        subst e
        
        refine go_iconst (v := 0) hF d_Ci_copyFrom_102 (by decide) ?_
        refine go_istore_n hF d_Ci_copyFrom_103 (by decide) ?_
        refine go_lv (lv' := [(0, _), (1, _), (2, _)]) ⟨rfl, rfl, rfl, trivial⟩ ?_
        exact L104 _ 0 (Nat.zero_add _)
      · have hp2 : p < nz (wI w 0 ι' 0 4 0) := by
          rw [hcc] at h78
          have z : ¬ nz (wI w 0 ι' 0 4 0) ≤ p := fun z => h78 ((nI_leI (a := nz (wI w 0 ι' 0 4 0)) (b := p) (by omega) (by omega)).mpr z)
          omega
        obtain ⟨f9, rfl⟩ : ∃ f9, m = f9 + 1 := ⟨m - 1, by omega⟩
        refine go_aload_n hF d_Ci_copyFrom_81 rfl ?_
        refine gs_getr hF hK d_Ci_copyFrom_82 fl_Ci_23 ho rfl rfl (by decide) rfl ?_
        refine go_iload_n hF d_Ci_copyFrom_85 rfl ?_
        refine gs_aald hF hK hT d_Ci_copyFrom_86 ho rfl rfl rfl (by omega) (by decide) ?_
        refine go_aload_n hF d_Ci_copyFrom_87 rfl ?_
        refine gs_getr hF hK d_Ci_copyFrom_88 fl_Ci_23 hp rfl rfl (by decide) rfl ?_
        refine go_iload_n hF d_Ci_copyFrom_91 rfl ?_
        refine gs_aald hF hK hT d_Ci_copyFrom_92 hp rfl rfl rfl (by omega) (by decide) ?_
        refine go_callVX hF hE hlo d_Ci_copyFrom_93 (con_Ga_copyFrom hlt ho hp hne (show p < 32 by omega)) mt_Ga_copyFrom mv_Ga_copyFrom lk_Ci_67 ⟨rfl, rfl, by decide, by decide⟩ rfl (Nat.le_of_ble_eq_true rfl) ⟨by decide, by decide⟩ (fun H hG => gw_recv (q := (R_Ga, T_Ga, 11)) hK hG ho rfl rfl (show _ < 32 from (by omega)) rfl) (fun M => gx_no) rfl (fun v => ?_)
        refine go_and (fun hv => ?_)
        subst hv
        refine go_iincN hF d_Ci_copyFrom_96 rfl (by decide) ?_
        refine go_lv (lv' := [(0, _), (1, _), (2, _)]) ⟨rfl, rfl, rfl, trivial⟩ ?_
        refine go_goto (tgt := 73) hF d_Ci_copyFrom_99 (by decide) ?_
        refine go_lv (lv' := [(0, _), (1, _), (2, _)]) ⟨rfl, rfl, rfl, trivial⟩ ?_
        exact ih f9 (by omega) (p + 1) (by omega)
  have L42 : ∀ m p : Nat, p + m = nz (wI w 0 ι' 0 2 0) → Go F 42 [(0, .ref (ad B 0 ι 0 0)), (1, .ref (ad B 0 ι' 0 0)), (2, .int (nI p))] [] (gw E B N (cp1 w ι ι' p)) 0 0 := by
    intro m
    induction m using Nat.strongRecOn with
    | _ m ih =>
      intro p hm
      have hcc : wI (cp1 w ι ι' p) 0 ι 0 2 0 = nI (nz (wI w 0 ι' 0 2 0)) := (cp1_I w hne p (by omega)).trans (Eq.trans (by unfold chW; simp only [rd_II, rd_LL, rd_PP, rd_IL, rd_IP, rd_LI, rd_LP, rd_PI, rd_PL, eq_self, true_and, and_true, false_and, and_false, if_true, if_false, reduceIte, reduceCtorEq, Nat.reduceEqDiff, Nat.one_ne_zero, Nat.zero_ne_one]) h1.1)
      have hle := h1.2
      refine go_iload_n hF d_Ci_copyFrom_42 rfl ?_
      refine go_aload_n hF d_Ci_copyFrom_43 rfl ?_
      refine gs_geti hF hK d_Ci_copyFrom_44 fl_Ci_54 ho rfl rfl (by decide) rfl ?_
      refine go_icmp_ge (tgt := 71) hF d_Ci_copyFrom_47 (by decide) (fun h47 => ?_) (fun h47 => ?_)
      · rw [hcc] at h47
        have e : p = nz (wI w 0 ι' 0 2 0) := (by have := (nI_leI (a := nz (wI w 0 ι' 0 2 0)) (b := p) (by omega) (by omega)).mp h47; omega)
        subst e
        
        refine go_iconst (v := 0) hF d_Ci_copyFrom_71 (by decide) ?_
        refine go_istore_n hF d_Ci_copyFrom_72 (by decide) ?_
        refine go_lv (lv' := [(0, _), (1, _), (2, _)]) ⟨rfl, rfl, rfl, trivial⟩ ?_
        exact L73 _ 0 (Nat.zero_add _)
      · have hp2 : p < nz (wI w 0 ι' 0 2 0) := by
          rw [hcc] at h47
          have z : ¬ nz (wI w 0 ι' 0 2 0) ≤ p := fun z => h47 ((nI_leI (a := nz (wI w 0 ι' 0 2 0)) (b := p) (by omega) (by omega)).mpr z)
          omega
        obtain ⟨f9, rfl⟩ : ∃ f9, m = f9 + 1 := ⟨m - 1, by omega⟩
        refine go_aload_n hF d_Ci_copyFrom_50 rfl ?_
        refine gs_getr hF hK d_Ci_copyFrom_51 fl_Ci_17 ho rfl rfl (by decide) rfl ?_
        refine go_iload_n hF d_Ci_copyFrom_54 rfl ?_
        refine gs_aald hF hK hT d_Ci_copyFrom_55 ho rfl rfl rfl (by omega) (by decide) ?_
        refine go_aload_n hF d_Ci_copyFrom_56 rfl ?_
        refine gs_getr hF hK d_Ci_copyFrom_57 fl_Ci_17 hp rfl rfl (by decide) rfl ?_
        refine go_iload_n hF d_Ci_copyFrom_60 rfl ?_
        refine gs_aald hF hK hT d_Ci_copyFrom_61 hp rfl rfl rfl (by omega) (by decide) ?_
        refine go_callVX hF hE hlo d_Ci_copyFrom_62 (con_Ne_copyFrom hlt ho hp hne (show p < 24 by omega)) mt_Ne_copyFrom mv_Ne_copyFrom lk_Ci_63 ⟨rfl, rfl, by decide, by decide⟩ rfl (Nat.le_of_ble_eq_true rfl) ⟨by decide, by decide⟩ (fun H hG => gw_recv (q := (R_Ne, T_Ne, 6)) hK hG ho rfl rfl (show _ < 24 from (by omega)) rfl) (fun M => gx_no) rfl (fun v => ?_)
        refine go_and (fun hv => ?_)
        subst hv
        refine go_iincN hF d_Ci_copyFrom_65 rfl (by decide) ?_
        refine go_lv (lv' := [(0, _), (1, _), (2, _)]) ⟨rfl, rfl, rfl, trivial⟩ ?_
        refine go_goto (tgt := 42) hF d_Ci_copyFrom_68 (by decide) ?_
        refine go_lv (lv' := [(0, _), (1, _), (2, _)]) ⟨rfl, rfl, rfl, trivial⟩ ?_
        exact ih f9 (by omega) (p + 1) (by omega)
  refine go_aload_n hF d_Ci_copyFrom_0 rfl ?_
  refine go_aload_n hF d_Ci_copyFrom_1 rfl ?_
  refine gs_getl hF hK d_Ci_copyFrom_2 fl_Ci_50 hp rfl rfl (by decide) rfl ?_
  refine gs_putl hF hK hlo d_Ci_copyFrom_5 fl_Ci_50 ct_Ci fs_Ci_0 ho rfl rfl (by decide) rfl rfl ?_
  refine go_aload_n hF d_Ci_copyFrom_8 rfl ?_
  refine go_aload_n hF d_Ci_copyFrom_9 rfl ?_
  refine gs_geti hF hK d_Ci_copyFrom_10 fl_Ci_9 hp rfl rfl (by decide) rfl ?_
  refine gs_puti hF hK hlo d_Ci_copyFrom_13 fl_Ci_9 ct_Ci fs_Ci_1 ho rfl rfl (by decide) rfl rfl ?_
  refine go_aload_n hF d_Ci_copyFrom_16 rfl ?_
  refine go_aload_n hF d_Ci_copyFrom_17 rfl ?_
  refine gs_geti hF hK d_Ci_copyFrom_18 fl_Ci_54 hp rfl rfl (by decide) rfl ?_
  refine gs_puti hF hK hlo d_Ci_copyFrom_21 fl_Ci_54 ct_Ci fs_Ci_2 ho rfl rfl (by decide) rfl rfl ?_
  refine go_aload_n hF d_Ci_copyFrom_24 rfl ?_
  refine go_aload_n hF d_Ci_copyFrom_25 rfl ?_
  refine gs_geti hF hK d_Ci_copyFrom_26 fl_Ci_57 hp rfl rfl (by decide) rfl ?_
  refine gs_puti hF hK hlo d_Ci_copyFrom_29 fl_Ci_57 ct_Ci fs_Ci_4 ho rfl rfl (by decide) rfl rfl ?_
  refine go_aload_n hF d_Ci_copyFrom_32 rfl ?_
  refine go_aload_n hF d_Ci_copyFrom_33 rfl ?_
  refine gs_geti hF hK d_Ci_copyFrom_34 fl_Ci_60 hp rfl rfl (by decide) rfl ?_
  refine gs_puti hF hK hlo d_Ci_copyFrom_37 fl_Ci_60 ct_Ci fs_Ci_6 ho rfl rfl (by decide) rfl rfl ?_
  refine go_iconst (v := 0) hF d_Ci_copyFrom_40 (by decide) ?_
  refine go_istore_n hF d_Ci_copyFrom_41 (by decide) ?_
  refine go_lv (lv' := [(0, _), (1, _), (2, _)]) ⟨rfl, rfl, rfl, trivial⟩ ?_
  refine go_G (G' := gw E B N (cp1 w ι ι' 0)) (fun H hG => by simp only [rd_II, rd_LL, rd_PP, rd_IL, rd_IP, rd_LI, rd_LP, rd_PI, rd_PL, eq_self, true_and, and_true, false_and, and_false, if_true, if_false, reduceIte, reduceCtorEq, Nat.reduceEqDiff, Nat.one_ne_zero, Nat.zero_ne_one, hne] at hG; exact hG) ?_
  exact L42 _ 0 (Nat.zero_add _)
