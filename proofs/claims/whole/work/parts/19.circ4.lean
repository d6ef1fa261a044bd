theorem vn_nI {q n : Nat} (h : q < n) (hn : n < 2 ^ 31) : vn (nI q) n := by
  unfold vn
  rw [nI_clamp (by omega)]
  exact ⟨rfl, h⟩
def ag0 (w : wdT) (ι ng : Nat) (kd a b o : Int32) : wdT := sI (bgW w ι ng kd a b o) 0 ι 0 4 0 (nI (ng + 1))
theorem ag0_I (w : wdT) (ι ng : Nat) (kd a b o : Int32) (κ ι' r k i : Nat) (h : ¬ (κ = 0 ∧ ι' = ι ∧ (r = 14 ∧ i = ng ∨ r = 0 ∧ k = 4))) : wI (ag0 w ι ng kd a b o) κ ι' r k i = wI w κ ι' r k i := by
  unfold ag0 bgW
  simp only [rd_II]
  iterate 10 rw [if_neg (by omega)]
theorem ag0_L (w : wdT) (ι ng : Nat) (kd a b o : Int32) : wL (ag0 w ι ng kd a b o) = wL w := rfl
/-- a new gate: its OUT has it, then it is asked -/
noncomputable def ag1 (w : wdT) (ι ng nc nk : Nat) (kd : Int32) (qa qb qo : Nat) : wdT := rfW (ag0 w ι ng kd (nI qa) (nI qb) (nI qo)) ι qo (ng + 1) nc nk
noncomputable def agW (w : wdT) (ι ng nc nk : Nat) (kd : Int32) (qa qb qo : Nat) : wdT :=
  if kd = 7 then ag1 w ι ng nc nk kd qa qb qo
  else askW (ag1 w ι ng nc nk kd qa qb qo) ι ng (gvn (ag1 w ι ng nc nk kd qa qb qo) ι ng) (wL (ag1 w ι ng nc nk kd qa qb qo) 0 ι 0 0 0) (wI (ag1 w ι ng nc nk kd qa qb qo) 0 ι 0 1 0)
set_option maxHeartbeats 4000000 in
set_option maxRecDepth 100000 in
theorem con_Ci_addGate {l : Launch} (hlt : l.stackTraces = false) {E : gE} {B : bsT} {N : nwT} {w : wdT} {ι ng nc nk qa qb qo : Nat} (ho : N.1 0 ι = true) (hng : wI w 0 ι 0 4 0 = nI ng) (hgn : ng < 32) (hnc : wI w 0 ι 0 6 0 = nI nc) (hcn : nc ≤ 20) (hcd : ∀ c, c < nc → vn (wI w 0 ι 15 1 c) 24 ∧ vn (wI w 0 ι 15 2 c) 24) (hab : ∀ g, g < ng → vn (wI w 0 ι 14 1 g) 24 ∧ vn (wI w 0 ι 14 2 g) 24) (hnk : wI w 0 ι 9 0 0 = nI nk) (hkn : nk ≤ 600) (hqa : qa < 24) (hqb : qb < 24) (hqo : qo < 24) (kd : Int32) : Con l E y_Ci_addGate (Cond.code y_Ci_addGate c_Ci_addGate 7 (some .int) :: gAll) rm_Ci_addGate [.ref (ad B 0 ι 0 0), .int kd, .int (nI qa), .int (nI qb), .int (nI qo)] (gw E B N w) (fun v H => v = some (.int (nI ng)) ∧ gw E B N (agW w ι ng nc nk kd qa qb qo) H) (fun _ _ => False) 0 0 := by
  refine con_of (by decide) hlt (Nat.le_of_ble_eq_true rfl) ?_
  intro F hF hM htab hnm hE hlo hl
  subst hl
  have hF : Fb F c_Ci_addGate R_Ci 7 rm_Ci_addGate := hF
  have hK := hE.1
  have hT := hE.2.1
  refine go_lv (lv' := [(0, _), (1, _), (2, _), (3, _), (4, _)]) ⟨rfl, rfl, rfl, rfl, rfl, trivial⟩ ?_
  refine go_aload_n hF d_Ci_addGate_0 rfl ?_
  refine gs_geti hF hK d_Ci_addGate_1 fl_Ci_57 ho rfl rfl (by decide) rfl ?_
  refine go_istore hF d_Ci_addGate_4 (by decide) ?_
  refine go_lv (lv' := [(0, _), (1, _), (2, _), (3, _), (4, _), (5, _)]) ⟨rfl, rfl, rfl, rfl, rfl, rfl, trivial⟩ ?_
  refine go_aload_n hF d_Ci_addGate_6 rfl ?_
  refine gs_getr hF hK d_Ci_addGate_7 fl_Ci_23 ho rfl rfl (by decide) rfl ?_
  refine go_iload hF d_Ci_addGate_10 rfl ?_
  refine gs_aald hF hK hT d_Ci_addGate_12 ho rfl rfl hng hgn (by decide) ?_
  refine go_astore hF d_Ci_addGate_13 (by decide) ?_
  refine go_lv (lv' := [(0, _), (1, _), (2, _), (3, _), (4, _), (5, _), (6, _)]) ⟨rfl, rfl, rfl, rfl, rfl, rfl, rfl, trivial⟩ ?_
  refine go_aload hF d_Ci_addGate_15 rfl ?_
  refine go_iload_n hF d_Ci_addGate_17 rfl ?_
  refine go_iload_n hF d_Ci_addGate_18 rfl ?_
  refine go_iload_n hF d_Ci_addGate_19 rfl ?_
  refine go_iload hF d_Ci_addGate_20 rfl ?_
  refine go_callVX hF hE hlo d_Ci_addGate_22 (con_Ga_begin hlt ho hgn _ _ _ _) mt_Ga_begin mv_Ga_begin lk_Ci_84 ⟨rfl, rfl, by decide, by decide⟩ rfl (Nat.le_of_ble_eq_true rfl) ⟨by decide, by decide⟩ (fun H hG => gw_recv (q := (R_Ga, T_Ga, 11)) hK hG ho rfl rfl hgn rfl) (fun M => gx_no) rfl (fun v => ?_)
  refine go_and (fun hv => ?_)
  subst hv
  have e : wI (bgW w ι ng kd (nI qa) (nI qb) (nI qo)) 0 ι 0 4 0 = nI ng := by unfold bgW; simp only [rd_II, rd_LL, rd_PP, rd_IL, rd_IP, rd_LI, rd_LP, rd_PI, rd_PL, eq_self, true_and, and_true, false_and, and_false, if_true, if_false, reduceIte, reduceCtorEq, Nat.reduceEqDiff, Nat.one_ne_zero, Nat.zero_ne_one]; exact hng
  refine go_aload_n hF d_Ci_addGate_25 rfl ?_
  refine go_dup hF d_Ci_addGate_26 rfl ?_
  refine gs_geti hF hK d_Ci_addGate_27 fl_Ci_57 ho rfl rfl (by decide) rfl ?_
  refine go_iconst (v := 1) hF d_Ci_addGate_30 (by decide) ?_
  refine go_iadd hF d_Ci_addGate_31 ?_
  refine gs_puti hF hK hlo d_Ci_addGate_32 fl_Ci_57 ct_Ci fs_Ci_4 ho rfl rfl (by decide) rfl rfl ?_
  refine go_G (G' := gw E B N (ag0 w ι ng kd (nI qa) (nI qb) (nI qo))) (fun H hG => by rw [e, nI_1] at hG; exact hG) ?_
  refine go_aload_n hF d_Ci_addGate_35 rfl ?_
  refine go_iload hF d_Ci_addGate_36 rfl ?_
  refine go_callVX hF hE hlo d_Ci_addGate_38 (con_Ci_refresh (ng := ng + 1) (nc := nc) (nk := nk) (q := qo) hlt ho hqo (show wI (ag0 w ι ng kd (nI qa) (nI qb) (nI qo)) 0 ι 0 4 0 = nI (ng + 1) by unfold ag0; simp only [rd_II, rd_LL, rd_PP, rd_IL, rd_IP, rd_LI, rd_LP, rd_PI, rd_PL, eq_self, true_and, and_true, false_and, and_false, if_true, if_false, reduceIte, reduceCtorEq, Nat.reduceEqDiff, Nat.one_ne_zero, Nat.zero_ne_one]) (by omega) ((ag0_I w ι ng kd (nI qa) (nI qb) (nI qo) 0 ι 0 6 0 (by omega)).trans hnc) hcn (fun c hc => by rw [(ag0_I w ι ng kd (nI qa) (nI qb) (nI qo) 0 ι 15 1 c (by omega)), (ag0_I w ι ng kd (nI qa) (nI qb) (nI qo) 0 ι 15 2 c (by omega))]; exact hcd c hc) (fun g hg => by
    rcases Nat.lt_or_ge g ng with z | z
    · rw [(ag0_I w ι ng kd (nI qa) (nI qb) (nI qo) 0 ι 14 1 g (by omega)), (ag0_I w ι ng kd (nI qa) (nI qb) (nI qo) 0 ι 14 2 g (by omega))]; exact hab g z
    · have e : g = ng := by omega
      subst e; exact ⟨by unfold ag0 bgW; simp only [rd_II, rd_LL, rd_PP, rd_IL, rd_IP, rd_LI, rd_LP, rd_PI, rd_PL, eq_self, true_and, and_true, false_and, and_false, if_true, if_false, reduceIte, reduceCtorEq, Nat.reduceEqDiff, Nat.one_ne_zero, Nat.zero_ne_one]; exact vn_nI hqa (by decide), by unfold ag0 bgW; simp only [rd_II, rd_LL, rd_PP, rd_IL, rd_IP, rd_LI, rd_LP, rd_PI, rd_PL, eq_self, true_and, and_true, false_and, and_false, if_true, if_false, reduceIte, reduceCtorEq, Nat.reduceEqDiff, Nat.one_ne_zero, Nat.zero_ne_one]; exact vn_nI hqb (by decide)⟩) ((ag0_I w ι ng kd (nI qa) (nI qb) (nI qo) 0 ι 9 0 0 (by omega)).trans hnk) hkn) mt_Ci_refresh mv_Ci_refresh lk_Ci_87 ⟨rfl, rfl, by decide, by decide⟩ rfl (Nat.le_of_ble_eq_true rfl) ⟨by decide, by decide⟩ (fun H hG => gw_recv (q := (R_Ci, T_Ci, 10)) hK hG ho rfl rfl (by decide) rfl) (fun M => gx_no) rfl (fun v => ?_)
  refine go_and (fun hv => ?_)
  subst hv
  refine go_iload_n hF d_Ci_addGate_41 rfl ?_
  refine go_bipush (v := 7) hF d_Ci_addGate_42 (by decide) ?_
  refine go_icmp_eq (tgt := 66) hF d_Ci_addGate_44 (by decide) (fun h44 => ?_) (fun h44 => ?_)
  · refine go_iload hF d_Ci_addGate_66 rfl ?_
    exact go_iret hF hM d_Ci_addGate_68 (by decide) (by decide) (fun H hG => ⟨by rw [hng], by unfold agW; rw [if_pos h44]; exact hG⟩)
  · refine go_aload hF d_Ci_addGate_47 rfl ?_
    refine go_aload_n hF d_Ci_addGate_49 rfl ?_
    refine go_aload hF d_Ci_addGate_50 rfl ?_
    refine go_callVX hF hE hlo d_Ci_addGate_52 (con_Ci_given hlt ho hgn (by rw [(qr_rfW (ag0 w ι ng kd (nI qa) (nI qb) (nI qo)) ι qo (ng + 1) nc nk).1 0 ι 14 1 ng (by simp)]; unfold ag0 bgW; simp only [rd_II, rd_LL, rd_PP, rd_IL, rd_IP, rd_LI, rd_LP, rd_PI, rd_PL, eq_self, true_and, and_true, false_and, and_false, if_true, if_false, reduceIte, reduceCtorEq, Nat.reduceEqDiff, Nat.one_ne_zero, Nat.zero_ne_one]; exact vn_nI hqa (by decide)) (by rw [(qr_rfW (ag0 w ι ng kd (nI qa) (nI qb) (nI qo)) ι qo (ng + 1) nc nk).1 0 ι 14 2 ng (by simp)]; unfold ag0 bgW; simp only [rd_II, rd_LL, rd_PP, rd_IL, rd_IP, rd_LI, rd_LP, rd_PI, rd_PL, eq_self, true_and, and_true, false_and, and_false, if_true, if_false, reduceIte, reduceCtorEq, Nat.reduceEqDiff, Nat.one_ne_zero, Nat.zero_ne_one]; exact vn_nI hqb (by decide))) mt_Ci_given mv_Ci_given lk_Ci_91 ⟨rfl, rfl, by decide, by decide⟩ rfl (Nat.le_of_ble_eq_true rfl) ⟨by decide, by decide⟩ (fun H hG => gw_recv (q := (R_Ci, T_Ci, 10)) hK hG ho rfl rfl (by decide) rfl) (fun M => gx_no) rfl (fun v => ?_)
    refine go_and (fun hv => ?_)
    subst hv
    refine go_aload_n hF d_Ci_addGate_55 rfl ?_
    refine gs_getl hF hK d_Ci_addGate_56 fl_Ci_50 ho rfl rfl (by decide) rfl ?_
    refine go_aload_n hF d_Ci_addGate_59 rfl ?_
    refine gs_geti hF hK d_Ci_addGate_60 fl_Ci_9 ho rfl rfl (by decide) rfl ?_
    refine go_callVX hF hE hlo d_Ci_addGate_63 (con_Ga_ask hlt ho hgn _ _ _) mt_Ga_ask mv_Ga_ask lk_Ci_95 ⟨rfl, rfl, by decide, by decide⟩ rfl (Nat.le_of_ble_eq_true rfl) ⟨by decide, by decide⟩ (fun H hG => gw_recv (q := (R_Ga, T_Ga, 11)) hK hG ho rfl rfl hgn rfl) (fun M => gx_no) rfl (fun v => ?_)
    refine go_and (fun hv => ?_)
    subst hv
    refine go_iload hF d_Ci_addGate_66 rfl ?_
    exact go_iret hF hM d_Ci_addGate_68 (by decide) (by decide) (fun H hG => ⟨by rw [hng], by unfold agW; rw [if_neg h44]; exact hG⟩)
def ct (x : Int32) (n : Nat) : Prop := x = nI (nz x) ∧ nz x ≤ n
/-- a circuit that is sound: its counts, and the nets' numbers that it holds -/
def okC (w : wdT) (ι : Nat) : Prop :=
  ct (wI w 0 ι 0 2 0) 24 ∧ ct (wI w 0 ι 0 4 0) 32 ∧ ct (wI w 0 ι 0 6 0) 20 ∧ ct (wI w 0 ι 4 0 0) 100 ∧ ct (wI w 0 ι 9 0 0) 600 ∧
  (∀ g, g < nz (wI w 0 ι 0 4 0) → vn (wI w 0 ι 14 1 g) 24 ∧ vn (wI w 0 ι 14 2 g) 24 ∧ vn (wI w 0 ι 14 3 g) 24) ∧
  (∀ c, c < nz (wI w 0 ι 0 6 0) → vn (wI w 0 ι 15 1 c) 24 ∧ vn (wI w 0 ι 15 2 c) 24) ∧ (∀ h, h < nz (wI w 0 ι 4 0 0) → vn (wI w 0 ι 6 0 h) 24)
noncomputable def rfX (w : wdT) (ι q : Nat) : wdT := rfW w ι q (nz (wI w 0 ι 0 4 0)) (nz (wI w 0 ι 0 6 0)) (nz (wI w 0 ι 9 0 0))
def thX (w : wdT) (ι h : Nat) : wdT := thW w ι h (nz (wI w 0 ι 4 0 0))
theorem ct_nI {x n : Nat} (h : x ≤ n) (hn : n < 2 ^ 31) : ct (nI x) n := by
  unfold ct nz
  rw [nI_clamp (by omega)]
  exact ⟨rfl, h⟩
theorem okC_rf {w : wdT} {ι q : Nat} (h : okC w ι) : okC (rfX w ι q) ι := by
  obtain ⟨h1, h2, h3, h4, h5, h6, h7, h8⟩ := h
  have hq := (qr_rfW w ι q (nz (wI w 0 ι 0 4 0)) (nz (wI w 0 ι 0 6 0)) (nz (wI w 0 ι 9 0 0))).1
  obtain ⟨n, e5, b5⟩ := rfW_kept w ι q (nz (wI w 0 ι 0 4 0)) (nz (wI w 0 ι 0 6 0)) (nz (wI w 0 ι 9 0 0)) h5.1 h5.2
  unfold okC rfX
  rw [hq 0 ι 0 2 0 (by simp), hq 0 ι 0 4 0 (by simp), hq 0 ι 0 6 0 (by simp), hq 0 ι 4 0 0 (by simp), e5]
  refine ⟨h1, h2, h3, h4, ct_nI b5 (by decide), fun g hg => ?_, fun c hc => ?_, fun i hi => ?_⟩
  · rw [hq 0 ι 14 1 g (by simp), hq 0 ι 14 2 g (by simp), hq 0 ι 14 3 g (by simp)]
    exact h6 g hg
  · rw [hq 0 ι 15 1 c (by simp), hq 0 ι 15 2 c (by simp)]
    exact h7 c hc
  · rw [hq 0 ι 6 0 i (by simp)]
    exact h8 i hi
/-- what waits behind place p has moved up -/
theorem drW_I (w : wdT) (ι p : Nat) : ∀ (n κ ι' r k i : Nat), wI (drW w ι p n) κ ι' r k i = if κ = 0 ∧ ι' = ι ∧ (r = 5 ∨ r = 6 ∨ r = 8) ∧ k = 0 ∧ p ≤ i ∧ i < p + n then wI w κ ι' r k (i + 1) else wI w κ ι' r k i
  | 0, κ, ι', r, k, i => by rw [if_neg (by omega)]; rfl
  | n + 1, κ, ι', r, k, i => by
    unfold drW shW
    simp only [rd_II, rd_IL]
    have ih := drW_I w ι p n
    simp only [ih]
    by_cases hc : κ = 0 ∧ ι' = ι ∧ (r = 5 ∨ r = 6 ∨ r = 8) ∧ k = 0 ∧ i = p + n
    · obtain ⟨rfl, rfl, hr, rfl, rfl⟩ := hc
      rcases hr with rfl | rfl | rfl
      all_goals (simp <;> (intro _ hh; omega))
    · by_cases hd : κ = 0 ∧ ι' = ι ∧ (r = 5 ∨ r = 6 ∨ r = 8) ∧ k = 0 ∧ p ≤ i ∧ i < p + n
      · rw [if_neg (by omega), if_neg (by omega), if_neg (by omega), if_pos hd, if_pos (by omega)]
      · rw [if_neg (by omega), if_neg (by omega), if_neg (by omega), if_neg hd, if_neg (by omega)]
theorem drW_L (w : wdT) (ι p : Nat) : ∀ (n κ ι' r k i : Nat), wL (drW w ι p n) κ ι' r k i = if κ = 0 ∧ ι' = ι ∧ r = 7 ∧ k = 0 ∧ p ≤ i ∧ i < p + n then wL w κ ι' r k (i + 1) else wL w κ ι' r k i
  | 0, κ, ι', r, k, i => by rw [if_neg (by omega)]; rfl
  | n + 1, κ, ι', r, k, i => by
    unfold drW shW
    simp only [rd_LL, rd_LI]
    have ih := drW_L w ι p n
    simp only [ih]
    by_cases hc : κ = 0 ∧ ι' = ι ∧ r = 7 ∧ k = 0 ∧ i = p + n
    · obtain ⟨rfl, rfl, rfl, rfl, rfl⟩ := hc
      simp <;> (intro _ hh; omega)
    · by_cases hd : κ = 0 ∧ ι' = ι ∧ r = 7 ∧ k = 0 ∧ p ≤ i ∧ i < p + n
      · rw [if_neg (by omega), if_pos hd, if_pos (by omega)]
      · rw [if_neg (by omega), if_neg hd, if_neg (by omega)]
theorem thN_I (w : wdT) (ι h κ ι' r k i : Nat) (hn : ¬ (κ = 0 ∧ ι' = ι ∧ r = 13 ∧ k ≤ 1)) : wI (thN w ι h) κ ι' r k i = wI w κ ι' r k i := by
  unfold thN
  split
  · rw [rd_II, if_neg (by omega)]
  · split
    · rw [rd_II, if_neg (by omega)]
    · rw [rd_II, if_neg (by omega)]
theorem thN_L (w : wdT) (ι h : Nat) : wL (thN w ι h) = wL w := by
  unfold thN
  split
  · rfl
  · split <;> rfl
theorem okC_th {w : wdT} {ι h : Nat} (hw : okC w ι) (hh : h < nz (wI w 0 ι 4 0 0)) : okC (thX w ι h) ι := by
  obtain ⟨h1, h2, h3, h4, h5, h6, h7, h8⟩ := hw
  have hI : ∀ κ ι' r k i, ¬ (κ = 0 ∧ ι' = ι ∧ (r = 5 ∨ r = 6 ∨ r = 8 ∨ r = 13 ∧ k ≤ 1 ∨ r = 4)) → wI (thX w ι h) κ ι' r k i = wI w κ ι' r k i := by
    intro κ ι' r k i hn
    unfold thX thW dpW
    rw [rd_II, if_neg (by omega), drW_I, if_neg (by omega), thN_I _ _ _ _ _ _ _ _ (by omega)]
  have e4 : wI (thX w ι h) 0 ι 4 0 0 = nI (nz (wI w 0 ι 4 0 0) - 1) := by
    unfold thX thW dpW
    rw [rd_II, if_pos ⟨rfl, rfl, rfl, rfl, rfl⟩]
  have n4 : nz (nI (nz (wI w 0 ι 4 0 0) - 1)) = nz (wI w 0 ι 4 0 0) - 1 := nI_clamp (by have := h4.2; omega)
  unfold okC
  rw [hI 0 ι 0 2 0 (by simp), hI 0 ι 0 4 0 (by simp), hI 0 ι 0 6 0 (by simp), e4, hI 0 ι 9 0 0 (by simp), n4]
  refine ⟨h1, h2, h3, ct_nI (by have := h4.2; omega) (by decide), h5, fun g hg => ?_, fun c hc => ?_, fun i hi => ?_⟩
  · rw [hI 0 ι 14 1 g (by simp), hI 0 ι 14 2 g (by simp), hI 0 ι 14 3 g (by simp)]
    exact h6 g hg
  · rw [hI 0 ι 15 1 c (by simp), hI 0 ι 15 2 c (by simp)]
    exact h7 c hc
  · unfold thX thW dpW
    rw [rd_II, if_neg (by omega), drW_I]
    split
    · rw [thN_I _ _ _ _ _ _ _ _ (by omega)]
      exact h8 (i + 1) (by omega)
    · rw [thN_I _ _ _ _ _ _ _ _ (by omega)]
      exact h8 i (by omega)
theorem okC_of {w w' : wdT} {ι : Nat} (h : okC w ι) (hI : ∀ r k i, ¬ (r = 14 ∧ 6 ≤ k) → wI w' 0 ι r k i = wI w 0 ι r k i) : okC w' ι := by
  obtain ⟨h1, h2, h3, h4, h5, h6, h7, h8⟩ := h
  unfold okC
  rw [hI 0 2 0 (by simp), hI 0 4 0 (by simp), hI 0 6 0 (by simp), hI 4 0 0 (by simp), hI 9 0 0 (by simp)]
  refine ⟨h1, h2, h3, h4, h5, fun g hg => ?_, fun c hc => ?_, fun i hi => ?_⟩
  · rw [hI 14 1 g (by simp), hI 14 2 g (by simp), hI 14 3 g (by simp)]
    exact h6 g hg
  · rw [hI 15 1 c (by simp), hI 15 2 c (by simp)]
    exact h7 c hc
  · rw [hI 6 0 i (by simp)]
    exact h8 i hi
theorem okC_tk {w : wdT} {ι g : Nat} (h : okC w ι) : okC (tkW w ι g) ι := okC_of h (fun r k i hn => by unfold tkW; simp only [rd_II, rd_IL]; rw [if_neg (by omega), if_neg (by omega), if_neg (by omega)])
theorem okC_L {w : wdT} {ι a b c d e : Nat} {x : Int64} (h : okC w ι) : okC (sL w a b c d e x) ι := okC_of h (fun _ _ _ _ => rfl)
