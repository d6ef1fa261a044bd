theorem cpI_n (w : wdT) (κ ι ι' r m : Nat) {κ₁ ι₁ r₁ k j : Nat} (h : ¬ (κ₁ = κ ∧ ι₁ = ι)) : wI (cpI w κ ι ι' r m) κ₁ ι₁ r₁ k j = wI w κ₁ ι₁ r₁ k j := if_neg (fun z => h ⟨z.1, z.2.1⟩)
theorem cpL_n (w : wdT) (κ ι ι' r m : Nat) {κ₁ ι₁ r₁ k j : Nat} (h : ¬ (κ₁ = κ ∧ ι₁ = ι)) : wL (cpL w κ ι ι' r m) κ₁ ι₁ r₁ k j = wL w κ₁ ι₁ r₁ k j := if_neg (fun z => h ⟨z.1, z.2.1⟩)
theorem sI_n (w : wdT) {a b c d e : Nat} (x : Int32) {κ₁ ι₁ r₁ k j : Nat} (h : ¬ (κ₁ = a ∧ ι₁ = b)) : wI (sI w a b c d e x) κ₁ ι₁ r₁ k j = wI w κ₁ ι₁ r₁ k j := up5_ne _ _ (fun z => h ⟨z.1, z.2.1⟩)
theorem sL_n (w : wdT) {a b c d e : Nat} (x : Int64) {κ₁ ι₁ r₁ k j : Nat} (h : ¬ (κ₁ = a ∧ ι₁ = b)) : wL (sL w a b c d e x) κ₁ ι₁ r₁ k j = wL w κ₁ ι₁ r₁ k j := up5_ne _ _ (fun z => h ⟨z.1, z.2.1⟩)
theorem cpG_In (w : wdT) {ι ι' : Nat} (hne : ι' ≠ ι) (r : Nat) (KI KL : Nat → Bool) (n : Nat) {κ₁ ι₁ r₁ k j : Nat} (h : ¬ (κ₁ = 0 ∧ ι₁ = ι)) : wI (cpG w ι ι' r KI KL n) κ₁ ι₁ r₁ k j = wI w κ₁ ι₁ r₁ k j := (cpG_I w hne r KI KL n κ₁ ι₁ r₁ k j).trans (if_neg (fun z => h ⟨z.1, z.2.1⟩))
theorem cpG_Ln (w : wdT) {ι ι' : Nat} (hne : ι' ≠ ι) (r : Nat) (KI KL : Nat → Bool) (n : Nat) {κ₁ ι₁ r₁ k j : Nat} (h : ¬ (κ₁ = 0 ∧ ι₁ = ι)) : wL (cpG w ι ι' r KI KL n) κ₁ ι₁ r₁ k j = wL w κ₁ ι₁ r₁ k j := (cpG_L w hne r KI KL n κ₁ ι₁ r₁ k j).trans (if_neg (fun z => h ⟨z.1, z.2.1⟩))
/-- other blocks don't hear of a copy -/
theorem cpC_In (w : wdT) {ι ι' : Nat} (hne : ι' ≠ ι) {κ₁ ι₁ r k j : Nat} (h : ¬ (κ₁ = 0 ∧ ι₁ = ι)) : wI (cpC w ι ι') κ₁ ι₁ r k j = wI w κ₁ ι₁ r k j := by
  unfold cpC wcW hcW
  rw [cpI_n _ _ _ _ _ _ h, cpI_n _ _ _ _ _ _ h, cpI_n _ _ _ _ _ _ h, sI_n _ _ h, cpI_n _ _ _ _ _ _ h]
  show wI (cpI (cpI _ 0 ι ι' 5 100) 0 ι ι' 6 100) κ₁ ι₁ r k j = _
  rw [cpI_n _ _ _ _ _ _ h, cpI_n _ _ _ _ _ _ h, sI_n _ _ h]
  unfold cp3 cp2 cp1
  rw [cpG_In _ hne _ _ _ _ h, cpG_In _ hne _ _ _ _ h, cpG_In _ hne _ _ _ _ h]
  unfold chW
  rw [sI_n _ _ h, sI_n _ _ h, sI_n _ _ h, sI_n _ _ h]
  rfl
theorem cpC_Ln (w : wdT) {ι ι' : Nat} (hne : ι' ≠ ι) {κ₁ ι₁ r k j : Nat} (h : ¬ (κ₁ = 0 ∧ ι₁ = ι)) : wL (cpC w ι ι') κ₁ ι₁ r k j = wL w κ₁ ι₁ r k j := by
  unfold cpC wcW hcW
  show wL (cpL _ 0 ι ι' 7 100) κ₁ ι₁ r k j = _
  rw [cpL_n _ _ _ _ _ _ h]
  show wL (cp3 w ι ι' _) κ₁ ι₁ r k j = _
  unfold cp3 cp2 cp1
  rw [cpG_Ln _ hne _ _ _ _ h, cpG_Ln _ hne _ _ _ _ h, cpG_Ln _ hne _ _ _ _ h]
  unfold chW
  show wL (sL w 0 ι 0 0 0 _) κ₁ ι₁ r k j = _
  exact sL_n _ _ h
theorem cpC_P (w : wdT) (ι ι' : Nat) : wP (cpC w ι ι') = wP w := by
  show wP (cp3 w ι ι' _) = wP w
  unfold cp3 cp2 cp1
  rw [cpG_P, cpG_P, cpG_P]
  rfl
/-- the world behind save: number s is remembered, its block at a -/
def svW (w : wdT) (s a : Nat) : wdT := sI (sP (cpC (zW w 0 (s + 1)) (s + 1) 0) 2 0 0 0 s (some a)) 1 0 0 2 0 (nI (s + 1))
theorem ad_up {B : bsT} {κ ι a κ' ι' r i : Nat} (h : ¬ (κ' = κ ∧ ι' = ι)) : ad (upB B κ ι a) κ' ι' r i = ad B κ' ι' r i := by
  unfold ad
  rw [upB_ne _ _ h]
theorem ad_up0 {B : bsT} {ι a : Nat} : ad (upB B 0 ι a) 0 ι 0 0 = a := by
  unfold ad
  rw [upB_same]
  rfl
theorem nz_s {s : Nat} (h : s < 4) : s < 4 := h
set_option maxHeartbeats 4000000 in
set_option maxRecDepth 100000 in
theorem con_EW_save {l : Launch} (hlt : l.stackTraces = false) {E : gE} {B : bsT} {N : nwT} {w : wdT} (hb : N.1 1 0 = true) (ho : N.1 0 0 = true) (h2 : N.1 2 0 = true) (ok : okC w 0) {s : Nat} (hs : wI w 1 0 0 2 0 = nI s) (hs4 : s ≤ 4) (h5 : ∀ κ' ι', N.1 κ' ι' = true → 0 < bln κ') (hoff : N.1 0 (s + 1) = false) (hO : ∀ q, N.2.2 ≤ q → N.2.1 q = none) : Con l E y_EW_save (Cond.code y_EW_save c_EW_save 2 (some .int) :: gAll) rm_EW_save [.ref (ad B 1 0 0 0)] (gw E B N w) (fun v H => v = some (.int (nI s)) ∧ s < 4 ∧ gw E (upB B 0 (s + 1) N.2.2) (upN N.1 0 (s + 1), N.2.1, N.2.2 + 89) (svW w s N.2.2) H) (fun M H => (M = xIS ∧ ¬ s < 4) ∧ gw E B (nx1 N) w H) 89 2891 := by
  refine con_of (by decide) hlt (Nat.le_of_ble_eq_true rfl) ?_
  intro F hF hM htab hnm hE hlo hl
  subst hl
  have hF : Fb F c_EW_save R_EW 2 rm_EW_save := hF
  have hK := hE.1
  have hT := hE.2.1
  refine go_lv (lv' := [(0, _)]) ⟨rfl, trivial⟩ ?_
  refine go_aload_n hF d_EW_save_0 rfl ?_
  refine gs_geti hF hK d_EW_save_1 fl_EW_203 hb rfl rfl (by decide) rfl ?_
  refine go_iconst (v := 4) hF d_EW_save_4 (by decide) ?_
  refine go_icmp_lt (tgt := 18) hF d_EW_save_5 (by decide) (fun h5_ => ?_) (fun h5_ => ?_)
  · have h5' : s < 4 := by
      rw [hs] at h5_
      exact (nI_ltI (a := s) (b := 4) (by omega) (by omega)).mp h5_
    refine gs_new (N := N) hF hK d_EW_save_18 nw_EW_7 ⟨by decide, by decide⟩ ?_
    refine go_G (G' := gw E B (N.1, ovs N.2.1 N.2.2 (.inr (1, [.long 0, .int 0, .int 0, .null, .int 0, .null, .int 0, .null, .null, .null])), N.2.2 + 1) w) (fun H hG => hG) ?_
    refine go_dup hF d_EW_save_21 rfl ?_
    refine go_ctor hF hE hlo d_EW_save_22 rfl (con_Ci_init (on := N.1) (O := N.2.1) (a := N.2.2) (ι := s + 1) hlt h5 hoff (fun ι' _ => by omega) hO) mt_Ci_init mi_Ci_init (Or.inl lk_EW_9) ⟨rfl, rfl, by decide, by decide⟩ rfl (Nat.le_of_ble_eq_true rfl) ⟨by decide, by decide⟩ (fun M => gx_no) rfl (fun v => ?_)
    refine go_and (fun hv => ?_)
    subst hv
    refine go_astore_n hF d_EW_save_25 (by decide) ?_
    have hb0 := hb
    have hb : upN N.1 0 (s + 1) 1 0 = true := (upN_n (by omega)).trans hb
    have ho : upN N.1 0 (s + 1) 0 0 = true := (upN_n (by omega)).trans ho
    have h2 : upN N.1 0 (s + 1) 2 0 = true := (upN_n (by omega)).trans h2
    have hn : upN N.1 0 (s + 1) 0 (s + 1) = true := upN_s _ _ _
    refine go_lv (lv' := [(0, .ref (ad (upB B 0 (s + 1) N.2.2) 1 0 0 0)), (1, .ref (ad (upB B 0 (s + 1) N.2.2) 0 (s + 1) 0 0))]) ⟨by rw [ad_up (by omega)]; rfl, by rw [ad_up0]; rfl, trivial⟩ ?_
    have z1 : ∀ r k i, wI (zW w 0 (s + 1)) 0 0 r k i = wI w 0 0 r k i := fun r k i => zW_In (by omega)
    have z2 : wI (cpC (zW w 0 (s + 1)) (s + 1) 0) 1 0 0 2 0 = nI s := ((cpC_In _ (by omega) (by omega)).trans (zW_In (by omega))).trans hs
    refine go_aload_n hF d_EW_save_26 rfl ?_
    refine go_aload_n hF d_EW_save_27 rfl ?_
    refine gs_getx hF hK d_EW_save_28 fl_EW_10 hb rfl rfl (by decide) rfl ?_
    refine go_callVX hF hE hlo d_EW_save_31 (con_Ci_copyFrom (B := (upB B 0 (s + 1) N.2.2)) (N := (upN N.1 0 (s + 1), N.2.1, N.2.2 + 89)) (w := (zW w 0 (s + 1))) (ι := s + 1) (ι' := 0) hlt hn ho (by omega) (by rw [z1]; exact ok.1) (by rw [z1]; exact ok.2.1) (by rw [z1]; exact ok.2.2.1)) mt_Ci_copyFrom mv_Ci_copyFrom lk_EW_208 ⟨rfl, rfl, by decide, by decide⟩ rfl (Nat.le_of_ble_eq_true rfl) ⟨by decide, by decide⟩ (fun H hG => gw_recv (q := (R_Ci, T_Ci, 10)) hK hG hn rfl rfl (by decide) rfl) (fun M => gx_no) rfl (fun v => ?_)
    refine go_and (fun hv => ?_)
    subst hv
    refine go_aload_n hF d_EW_save_34 rfl ?_
    refine gs_getx hF hK d_EW_save_35 fl_EW_16 hb rfl rfl (by decide) rfl ?_
    refine go_aload_n hF d_EW_save_38 rfl ?_
    refine gs_geti hF hK d_EW_save_39 fl_EW_203 hb rfl rfl (by decide) rfl ?_
    refine go_aload_n hF d_EW_save_42 rfl ?_
    refine gs_aastP (N := (upN N.1 0 (s + 1), N.2.1, N.2.2 + 89)) (κ := 2) (ι := 0) (r := 0) (κ' := 0) (ι' := s + 1) (r' := 0) (i' := 0) (ci := 1) (rr := (R_Ci, T_Ci, 10)) hF hK hT hlo d_EW_save_43 h2 rfl rfl hn rfl rfl (by decide) rfl z2 (nz_s h5') (by decide) ?_
    refine go_G (G' := gw E (upB B 0 (s + 1) N.2.2) (upN N.1 0 (s + 1), N.2.1, N.2.2 + 89) (sP (cpC (zW w 0 (s + 1)) (s + 1) 0) 2 0 0 0 s (some N.2.2))) (fun H hG => by rw [ad_up0] at hG; exact hG) ?_
    refine go_aload_n hF d_EW_save_44 rfl ?_
    refine go_dup hF d_EW_save_45 rfl ?_
    refine gs_geti hF hK d_EW_save_46 fl_EW_203 hb rfl rfl (by decide) rfl ?_
    refine go_iconst (v := 1) hF d_EW_save_49 (by decide) ?_
    refine go_iadd hF d_EW_save_50 ?_
    refine gs_puti hF hK hlo d_EW_save_51 fl_EW_203 ct_EW fs_EW_2 hb rfl rfl (by decide) rfl rfl ?_
    refine go_aload_n hF d_EW_save_54 rfl ?_
    refine gs_geti hF hK d_EW_save_55 fl_EW_203 hb rfl rfl (by decide) rfl ?_
    refine go_iconst (v := 1) hF d_EW_save_58 (by decide) ?_
    refine go_isub hF d_EW_save_59 ?_
    exact go_iret hF hM d_EW_save_60 (by decide) (by decide) (fun H hG => ⟨by
      simp only [rd_II, rd_LL, rd_PP, rd_IL, rd_IP, rd_LI, rd_LP, rd_PI, rd_PL, eq_self, true_and, and_true, false_and, and_false, if_true, if_false, reduceIte, reduceCtorEq, Nat.reduceEqDiff, Nat.one_ne_zero, Nat.zero_ne_one]
      show some (Value.int (wI (cpC (zW w 0 (s + 1)) (s + 1) 0) 1 0 0 2 0 + 1 - 1)) = _
      rw [z2, nI_1, nI_pred], h5', by
      have e : wI (sP (cpC (zW w 0 (s + 1)) (s + 1) 0) 2 0 0 0 s (some N.2.2)) 1 0 0 2 0 + 1 = nI (s + 1) := by show wI (cpC (zW w 0 (s + 1)) (s + 1) 0) 1 0 0 2 0 + 1 = _; rw [z2, nI_1]
      rw [e] at hG
      exact hG⟩)
  · exact gs_throw (text := "as much is remembered as can be") hF hM htab hE th_IS d_EW_save_8 d_EW_save_11 d_EW_save_12 d_EW_save_14 d_EW_save_17 (by decide +kernel) (by decide) (by decide) (by decide) (by decide) (fun H hG => ⟨⟨rfl, fun z => h5_ (by rw [hs]; exact nI_lt z (by decide))⟩, hG⟩)
/-- the remembered circuits, as the array of pointers has them -/
def svP (B : bsT) (w : wdT) (s : Nat) : Prop := ∀ i, i < s → wP w 2 0 0 0 i = some (ad B 0 (i + 1) 0 0)
def bkOk (s : Nat) (x : Int32) : Prop := 0 ≤ x ∧ x < nI s
set_option maxHeartbeats 4000000 in
set_option maxRecDepth 100000 in
theorem con_EW_back {l : Launch} (hlt : l.stackTraces = false) {E : gE} {B : bsT} {N : nwT} {w : wdT} (hb : N.1 1 0 = true) (ho : N.1 0 0 = true) (h2 : N.1 2 0 = true) {s : Nat} (hs : wI w 1 0 0 2 0 = nI s) (hs4 : s ≤ 4) (x : Int32) (hP : svP B w s) (hon : ∀ i, i < s → N.1 0 (i + 1) = true) (hok : ∀ i, i < s → ct (wI w 0 (i + 1) 0 2 0) 24 ∧ ct (wI w 0 (i + 1) 0 4 0) 32 ∧ ct (wI w 0 (i + 1) 0 6 0) 20) : Con l E y_EW_back (Cond.code y_EW_back c_EW_back 3 (some .boolean) :: gAll) rm_EW_back [.ref (ad B 1 0 0 0), .int x] (gw E B N w) (fun v H => (bkOk s x ∧ v = some (.int 1) ∧ gw E B N (cpC w 0 (nz x + 1)) H) ∨ (¬ bkOk s x ∧ v = some (.int 0) ∧ gw E B N w H)) (fun _ _ => False) 0 0 := by
  refine con_of (by decide) hlt (Nat.le_of_ble_eq_true rfl) ?_
  intro F hF hM htab hnm hE hlo hl
  subst hl
  have hF : Fb F c_EW_back R_EW 3 rm_EW_back := hF
  have hK := hE.1
  have hT := hE.2.1
  refine go_lv (lv' := [(0, _), (1, _)]) ⟨rfl, rfl, trivial⟩ ?_
  refine go_iload_n hF d_EW_back_0 rfl ?_
  refine go_if_lt (tgt := 12) hF d_EW_back_1 (by decide) (fun h1 => ?_) (fun h1 => ?_)
  · refine go_iconst (v := 0) hF d_EW_back_12 (by decide) ?_
    exact go_zret hF hM d_EW_back_13 rfl (by decide) (by decide) (fun H hG => Or.inr ⟨fun z => Int32.lt_irrefl (Int32.lt_of_lt_of_le h1 z.1), rfl, hG⟩)
  · refine go_iload_n hF d_EW_back_4 rfl ?_
    refine go_aload_n hF d_EW_back_5 rfl ?_
    refine gs_geti hF hK d_EW_back_6 fl_EW_203 hb rfl rfl (by decide) rfl ?_
    refine go_icmp_lt (tgt := 14) hF d_EW_back_9 (by decide) (fun h9 => ?_) (fun h9 => ?_)
    · have hx : bkOk s x := ⟨not_lt h1, by rw [← hs]; exact h9⟩
      have hq := nz_of hx.1 (by omega) hx.2
      refine go_aload_n hF d_EW_back_14 rfl ?_
      refine gs_getx hF hK d_EW_back_15 fl_EW_16 hb rfl rfl (by decide) rfl ?_
      refine go_iload_n hF d_EW_back_18 rfl ?_
      refine gs_aaldp hF hK hT d_EW_back_19 h2 rfl rfl hq.1 (show nz x < 4 by have := hq.2; omega) (by decide) ?_
      rw [hP _ hq.2]
      have hp := hon _ hq.2
      have hk := hok _ hq.2
      refine go_astore_n hF d_EW_back_20 (by decide) ?_
      refine go_lv (lv' := [(0, _), (1, _), (2, _)]) ⟨rfl, rfl, rfl, trivial⟩ ?_
      refine go_aload_n hF d_EW_back_21 rfl ?_
      refine go_ifnonnull (tgt := 27) hF d_EW_back_22 (by decide) ?_
      refine go_aload_n hF d_EW_back_27 rfl ?_
      refine gs_getx hF hK d_EW_back_28 fl_EW_10 hb rfl rfl (by decide) rfl ?_
      refine go_aload_n hF d_EW_back_31 rfl ?_
      refine go_callVX hF hE hlo d_EW_back_32 (con_Ci_copyFrom (ι := 0) (ι' := nz x + 1) hlt ho hp (by omega) hk.1 hk.2.1 hk.2.2) mt_Ci_copyFrom mv_Ci_copyFrom lk_EW_208 ⟨rfl, rfl, by decide, by decide⟩ rfl (Nat.le_of_ble_eq_true rfl) ⟨by decide, by decide⟩ (fun H hG => gw_recv (q := (R_Ci, T_Ci, 10)) hK hG ho rfl rfl (by decide) rfl) (fun M => gx_no) rfl (fun v => ?_)
      refine go_and (fun hv => ?_)
      subst hv
      refine go_iconst (v := 1) hF d_EW_back_35 (by decide) ?_
      exact go_zret hF hM d_EW_back_36 rfl (by decide) (by decide) (fun H hG => Or.inl ⟨hx, rfl, hG⟩)
    · refine go_iconst (v := 0) hF d_EW_back_12 (by decide) ?_
      exact go_zret hF hM d_EW_back_13 rfl (by decide) (by decide) (fun H hG => Or.inr ⟨fun z => h9 (by rw [hs]; exact z.2), rfl, hG⟩)
