def apW (w : wdT) (ι c : Nat) (act n : Int32) (t : Int64) (v : Int32) : wdT := sI (sI (sL (sI (sI w 0 ι 5 0 c act) 0 ι 6 0 c n) 0 ι 7 0 c t) 0 ι 8 0 c v) 0 ι 4 0 0 (nI (c + 1))
set_option maxHeartbeats 4000000 in
set_option maxRecDepth 100000 in
theorem con_Ha_append {l : Launch} (hlt : l.stackTraces = false) {E : gE} {B : bsT} {N : nwT} {w : wdT} {ι c : Nat} (ho : N.1 0 ι = true) (hc : wI w 0 ι 4 0 0 = nI c) (hcn : c < 100) (act n : Int32) (t : Int64) (x : Int32) : Con l E y_Ha_append (Cond.code y_Ha_append c_Ha_append 6 none :: gAll) rm_Ha_append [.ref (ad B 0 ι 4 0), .int act, .int n, .long t, .int x] (gw E B N w) (fun v H => v = none ∧ gw E B N (apW w ι c act n t x) H) (fun _ _ => False) 0 0 := by
  refine con_of (by decide) hlt (Nat.le_of_ble_eq_true rfl) ?_
  intro F hF hM htab hnm hE hlo hl
  subst hl
  have hF : Fb F c_Ha_append R_Ha 6 rm_Ha_append := hF
  have hK := hE.1
  have hT := hE.2.1
  refine go_lv (lv' := [(0, _), (1, _), (2, _), (3, _), (5, _)]) ⟨rfl, rfl, rfl, rfl, rfl, trivial⟩ ?_
  refine go_aload_n hF d_Ha_append_0 rfl ?_
  refine gs_geti hF hK d_Ha_append_1 fl_Ha_25 ho rfl rfl (by decide) rfl ?_
  refine go_bipush (v := 100) hF d_Ha_append_4 (by decide) ?_
  refine go_icmp_lt (tgt := 10) hF d_Ha_append_6 (by decide) (fun h6 => ?_) (fun h6 => ?_)
  · refine go_aload_n hF d_Ha_append_10 rfl ?_
    refine gs_getr hF hK d_Ha_append_11 fl_Ha_9 ho rfl rfl (by decide) rfl ?_
    refine go_aload_n hF d_Ha_append_14 rfl ?_
    refine gs_geti hF hK d_Ha_append_15 fl_Ha_25 ho rfl rfl (by decide) rfl ?_
    refine go_iload_n hF d_Ha_append_18 rfl ?_
    refine gs_iast hF hK hT hlo d_Ha_append_19 ho rfl rfl hc hcn (by decide) ?_
    refine go_aload_n hF d_Ha_append_20 rfl ?_
    refine gs_getr hF hK d_Ha_append_21 fl_Ha_15 ho rfl rfl (by decide) rfl ?_
    refine go_aload_n hF d_Ha_append_24 rfl ?_
    refine gs_geti hF hK d_Ha_append_25 fl_Ha_25 ho rfl rfl (by decide) rfl ?_
    refine go_iload_n hF d_Ha_append_28 rfl ?_
    refine gs_iast hF hK hT hlo d_Ha_append_29 ho rfl rfl (by simp only [rd_II, rd_LL, rd_PP, rd_IL, rd_IP, rd_LI, rd_LP, rd_PI, rd_PL, eq_self, true_and, and_true, false_and, and_false, if_true, if_false, reduceIte, reduceCtorEq, Nat.reduceEqDiff, Nat.one_ne_zero, Nat.zero_ne_one]; exact hc) hcn (by decide) ?_
    refine go_aload_n hF d_Ha_append_30 rfl ?_
    refine gs_getr hF hK d_Ha_append_31 fl_Ha_18 ho rfl rfl (by decide) rfl ?_
    refine go_aload_n hF d_Ha_append_34 rfl ?_
    refine gs_geti hF hK d_Ha_append_35 fl_Ha_25 ho rfl rfl (by decide) rfl ?_
    refine go_lload_n hF d_Ha_append_38 rfl ?_
    refine gs_last hF hK hT hlo d_Ha_append_39 ho rfl rfl (by simp only [rd_II, rd_LL, rd_PP, rd_IL, rd_IP, rd_LI, rd_LP, rd_PI, rd_PL, eq_self, true_and, and_true, false_and, and_false, if_true, if_false, reduceIte, reduceCtorEq, Nat.reduceEqDiff, Nat.one_ne_zero, Nat.zero_ne_one]; exact hc) hcn (by decide) ?_
    refine go_aload_n hF d_Ha_append_40 rfl ?_
    refine gs_getr hF hK d_Ha_append_41 fl_Ha_22 ho rfl rfl (by decide) rfl ?_
    refine go_aload_n hF d_Ha_append_44 rfl ?_
    refine gs_geti hF hK d_Ha_append_45 fl_Ha_25 ho rfl rfl (by decide) rfl ?_
    refine go_iload hF d_Ha_append_48 rfl ?_
    refine gs_iast hF hK hT hlo d_Ha_append_50 ho rfl rfl (by simp only [rd_II, rd_LL, rd_PP, rd_IL, rd_IP, rd_LI, rd_LP, rd_PI, rd_PL, eq_self, true_and, and_true, false_and, and_false, if_true, if_false, reduceIte, reduceCtorEq, Nat.reduceEqDiff, Nat.one_ne_zero, Nat.zero_ne_one]; exact hc) hcn (by decide) ?_
    refine go_aload_n hF d_Ha_append_51 rfl ?_
    refine go_dup hF d_Ha_append_52 rfl ?_
    refine gs_geti hF hK d_Ha_append_53 fl_Ha_25 ho rfl rfl (by decide) rfl ?_
    refine go_iconst (v := 1) hF d_Ha_append_56 (by decide) ?_
    refine go_iadd hF d_Ha_append_57 ?_
    refine gs_puti hF hK hlo d_Ha_append_58 fl_Ha_25 ct_Ha fs_Ha_0 ho rfl rfl (by decide) rfl rfl ?_
    exact go_vret hF hM d_Ha_append_61 (by decide) (by decide) (fun H hG => ⟨rfl, by simp only [rd_II, rd_LL, rd_PP, rd_IL, rd_IP, rd_LI, rd_LP, rd_PI, rd_PL, eq_self, true_and, and_true, false_and, and_false, if_true, if_false, reduceIte, reduceCtorEq, Nat.reduceEqDiff, Nat.one_ne_zero, Nat.zero_ne_one, hc, nI_1] at hG; exact hG⟩)
  · exact go_vret hF hM d_Ha_append_9 (by decide) (by decide) (fun H hG => absurd (show wI w 0 ι 4 0 0 < 100 by rw [hc]; exact nI_lt hcn (by decide)) h6)
/-- hand event i is ahead of hand event j, told earlier -/
def hAh (w : wdT) (ι i j : Nat) : Prop := wL w 0 ι 7 0 i < wL w 0 ι 7 0 j ∨ (wL w 0 ι 7 0 i = wL w 0 ι 7 0 j ∧ ¬ wI w 0 ι 6 0 j ≤ wI w 0 ι 6 0 i)
noncomputable def hbs (w : wdT) (ι : Nat) : Nat → Nat
  | 0 => 0
  | n + 1 => @ite _ (hAh w ι (n + 1) (hbs w ι n)) (Classical.propDecidable _) (n + 1) (hbs w ι n)
theorem hbs_le (w : wdT) (ι : Nat) : ∀ n, hbs w ι n ≤ n
  | 0 => Nat.le_refl 0
  | n + 1 => by
    have := hbs_le w ι n
    unfold hbs
    split <;> omega
theorem hbs_t {w : wdT} {ι n : Nat} (h : hAh w ι (n + 1) (hbs w ι n)) : hbs w ι (n + 1) = n + 1 := by
  conv => lhs; unfold hbs
  exact if_pos h
theorem hbs_f {w : wdT} {ι n : Nat} (h : ¬ hAh w ι (n + 1) (hbs w ι n)) : hbs w ι (n + 1) = hbs w ι n := by
  conv => lhs; unfold hbs
  exact if_neg h
set_option maxHeartbeats 4000000 in
set_option maxRecDepth 100000 in
theorem con_Ha_first {l : Launch} (hlt : l.stackTraces = false) {E : gE} {B : bsT} {N : nwT} {w : wdT} {ι c : Nat} (ho : N.1 0 ι = true) (hc : wI w 0 ι 4 0 0 = nI c) (hcn : c ≤ 100) : Con l E y_Ha_first (Cond.code y_Ha_first c_Ha_first 3 (some .int) :: gAll) rm_Ha_first [.ref (ad B 0 ι 4 0)] (gw E B N w) (fun v H => v = some (.int (if c = 0 then -1 else nI (hbs w ι (c - 1)))) ∧ gw E B N w H) (fun _ _ => False) 0 0 := by
  refine con_of (by decide) hlt (Nat.le_of_ble_eq_true rfl) ?_
  intro F hF hM htab hnm hE hlo hl
  subst hl
  have hF : Fb F c_Ha_first R_Ha 3 rm_Ha_first := hF
  have hK := hE.1
  have hT := hE.2.1
  refine go_lv (lv' := [(0, _)]) ⟨rfl, trivial⟩ ?_
  have L15 : ∀ m p : Nat, c - (p + 1) = m → p + 1 ≤ c → Go F 15 [(0, .ref (ad B 0 ι 4 0)), (1, .int (nI (hbs w ι p))), (2, .int (nI (p + 1)))] [] (gw E B N w) 0 0 := by
    intro m
    induction m using Nat.strongRecOn with
    | _ m ih =>
      intro p hm hp
      refine go_iload_n hF d_Ha_first_15 rfl ?_
      refine go_aload_n hF d_Ha_first_16 rfl ?_
      refine gs_geti hF hK d_Ha_first_17 fl_Ha_25 ho rfl rfl (by decide) rfl ?_
      refine go_icmp_ge (tgt := 78) hF d_Ha_first_20 (by decide) (fun h20 => ?_) (fun h20 => ?_)
      · refine go_iload_n hF d_Ha_first_78 rfl ?_
        exact go_iret hF hM d_Ha_first_79 (by decide) (by decide) (fun H hG => ⟨by clear hG; rw [hc] at h20; have := (nI_leI (a := c) (b := p + 1) (by omega) (by omega)).mp h20; have e : c = p + 1 := (by omega); subst e; simp, hG⟩)
      · have hp2 : p + 1 < c := by
          rw [hc] at h20
          have q : ¬ c ≤ p + 1 := fun z => h20 ((nI_leI (a := c) (b := p + 1) (by omega) (by omega)).mpr z)
          omega
        refine go_aload_n hF d_Ha_first_23 rfl ?_
        refine gs_getr hF hK d_Ha_first_24 fl_Ha_18 ho rfl rfl (by decide) rfl ?_
        refine go_iload_n hF d_Ha_first_27 rfl ?_
        refine gs_lald hF hK hT d_Ha_first_28 ho rfl rfl rfl (by omega) (by decide) ?_
        refine go_aload_n hF d_Ha_first_29 rfl ?_
        refine gs_getr hF hK d_Ha_first_30 fl_Ha_18 ho rfl rfl (by decide) rfl ?_
        refine go_iload_n hF d_Ha_first_33 rfl ?_
        refine gs_lald hF hK hT d_Ha_first_34 ho rfl rfl rfl (by have := hbs_le w ι p; omega) (by decide) ?_
        refine go_lif_lt (tgt := 70) hF d_Ha_first_35 d_Ha_first_36 (by decide) (fun h35 => ?_) (fun h35 => ?_)
        · refine go_iload_n hF d_Ha_first_70 rfl ?_
          refine go_istore_n hF d_Ha_first_71 (by decide) ?_
          refine go_lv (lv' := [(0, _), (1, _), (2, _)]) ⟨rfl, rfl, rfl, trivial⟩ ?_
          refine go_iincN hF d_Ha_first_72 rfl (by decide) ?_
          refine go_lv (lv' := [(0, _), (1, _), (2, _)]) ⟨rfl, rfl, rfl, trivial⟩ ?_
          refine go_goto (tgt := 15) hF d_Ha_first_75 (by decide) ?_
          refine go_lv (lv' := [(0, _), (1, .int (nI (hbs w ι (p + 1)))), (2, .int (nI (p + 1 + 1)))]) ⟨rfl, by first | (rw [hbs_t (by simp only [hAh]; simp [h20, h35])]; rfl) | (rw [hbs_f (by simp only [hAh]; simp [h20, h35])]; rfl), rfl, trivial⟩ ?_
          exact ih _ (by omega) (p + 1) rfl (by omega)
        · refine go_aload_n hF d_Ha_first_39 rfl ?_
          refine gs_getr hF hK d_Ha_first_40 fl_Ha_18 ho rfl rfl (by decide) rfl ?_
          refine go_iload_n hF d_Ha_first_43 rfl ?_
          refine gs_lald hF hK hT d_Ha_first_44 ho rfl rfl rfl (by omega) (by decide) ?_
          refine go_aload_n hF d_Ha_first_45 rfl ?_
          refine gs_getr hF hK d_Ha_first_46 fl_Ha_18 ho rfl rfl (by decide) rfl ?_
          refine go_iload_n hF d_Ha_first_49 rfl ?_
          refine gs_lald hF hK hT d_Ha_first_50 ho rfl rfl rfl (by have := hbs_le w ι p; omega) (by decide) ?_
          refine go_lif_ne (tgt := 72) hF d_Ha_first_51 d_Ha_first_52 (by decide) (fun h51 => ?_) (fun h51 => ?_)
          · refine go_iincN hF d_Ha_first_72 rfl (by decide) ?_
            refine go_lv (lv' := [(0, _), (1, _), (2, _)]) ⟨rfl, rfl, rfl, trivial⟩ ?_
            refine go_goto (tgt := 15) hF d_Ha_first_75 (by decide) ?_
            refine go_lv (lv' := [(0, _), (1, .int (nI (hbs w ι (p + 1)))), (2, .int (nI (p + 1 + 1)))]) ⟨rfl, by first | (rw [hbs_t (by simp only [hAh]; simp [h20, h35, h51])]; rfl) | (rw [hbs_f (by simp only [hAh]; simp [h20, h35, h51])]; rfl), rfl, trivial⟩ ?_
            exact ih _ (by omega) (p + 1) rfl (by omega)
          · refine go_aload_n hF d_Ha_first_55 rfl ?_
            refine gs_getr hF hK d_Ha_first_56 fl_Ha_15 ho rfl rfl (by decide) rfl ?_
            refine go_iload_n hF d_Ha_first_59 rfl ?_
            refine gs_iald hF hK hT d_Ha_first_60 ho rfl rfl rfl (by omega) (by decide) ?_
            refine go_aload_n hF d_Ha_first_61 rfl ?_
            refine gs_getr hF hK d_Ha_first_62 fl_Ha_15 ho rfl rfl (by decide) rfl ?_
            refine go_iload_n hF d_Ha_first_65 rfl ?_
            refine gs_iald hF hK hT d_Ha_first_66 ho rfl rfl rfl (by have := hbs_le w ι p; omega) (by decide) ?_
            refine go_icmp_ge (tgt := 72) hF d_Ha_first_67 (by decide) (fun h67 => ?_) (fun h67 => ?_)
            · refine go_iincN hF d_Ha_first_72 rfl (by decide) ?_
              refine go_lv (lv' := [(0, _), (1, _), (2, _)]) ⟨rfl, rfl, rfl, trivial⟩ ?_
              refine go_goto (tgt := 15) hF d_Ha_first_75 (by decide) ?_
              refine go_lv (lv' := [(0, _), (1, .int (nI (hbs w ι (p + 1)))), (2, .int (nI (p + 1 + 1)))]) ⟨rfl, by first | (rw [hbs_t (by simp only [hAh]; simp [h20, h35, h51, h67])]; rfl) | (rw [hbs_f (by simp only [hAh]; simp [h20, h35, h51, h67])]; rfl), rfl, trivial⟩ ?_
              exact ih _ (by omega) (p + 1) rfl (by omega)
            · refine go_iload_n hF d_Ha_first_70 rfl ?_
              refine go_istore_n hF d_Ha_first_71 (by decide) ?_
              refine go_lv (lv' := [(0, _), (1, _), (2, _)]) ⟨rfl, rfl, rfl, trivial⟩ ?_
              refine go_iincN hF d_Ha_first_72 rfl (by decide) ?_
              refine go_lv (lv' := [(0, _), (1, _), (2, _)]) ⟨rfl, rfl, rfl, trivial⟩ ?_
              refine go_goto (tgt := 15) hF d_Ha_first_75 (by decide) ?_
              refine go_lv (lv' := [(0, _), (1, .int (nI (hbs w ι (p + 1)))), (2, .int (nI (p + 1 + 1)))]) ⟨rfl, by first | (rw [hbs_t (by simp only [hAh]; simp [h20, h35, h51, h67])]; rfl) | (rw [hbs_f (by simp only [hAh]; simp [h20, h35, h51, h67])]; rfl), rfl, trivial⟩ ?_
              exact ih _ (by omega) (p + 1) rfl (by omega)
  refine go_aload_n hF d_Ha_first_0 rfl ?_
  refine gs_geti hF hK d_Ha_first_1 fl_Ha_25 ho rfl rfl (by decide) rfl ?_
  refine go_if_le (tgt := 11) hF d_Ha_first_4 (by decide) (fun h4 => ?_) (fun h4 => ?_)
  · have hc0 : c = 0 := by
      rw [hc] at h4
      rcases Nat.eq_zero_or_pos c with e | e
      · exact e
      · exact absurd h4 (nI_nle e (by omega))
    refine go_iconst (v := -1) hF d_Ha_first_11 (by decide) ?_
    refine go_istore_n hF d_Ha_first_12 (by decide) ?_
    refine go_lv (lv' := [(0, _), (1, _)]) ⟨rfl, rfl, trivial⟩ ?_
    refine go_iconst (v := 1) hF d_Ha_first_13 (by decide) ?_
    refine go_istore_n hF d_Ha_first_14 (by decide) ?_
    refine go_lv (lv' := [(0, _), (1, _), (2, _)]) ⟨rfl, rfl, rfl, trivial⟩ ?_
    refine go_iload_n hF d_Ha_first_15 rfl ?_
    refine go_aload_n hF d_Ha_first_16 rfl ?_
    refine gs_geti hF hK d_Ha_first_17 fl_Ha_25 ho rfl rfl (by decide) rfl ?_
    refine go_icmp_ge (tgt := 78) hF d_Ha_first_20 (by decide) (fun h20 => ?_) (fun h20 => ?_)
    · refine go_iload_n hF d_Ha_first_78 rfl ?_
      exact go_iret hF hM d_Ha_first_79 (by decide) (by decide) (fun H hG => ⟨by simp [hc0], hG⟩)
    · exact absurd (show wI w 0 ι 4 0 0 ≤ 1 by rw [hc, hc0]; decide) h20
  · refine go_iconst (v := 0) hF d_Ha_first_7 (by decide) ?_
    refine go_goto (tgt := 12) hF d_Ha_first_8 (by decide) ?_
    refine go_istore_n hF d_Ha_first_12 (by decide) ?_
    refine go_lv (lv' := [(0, _), (1, _)]) ⟨rfl, rfl, trivial⟩ ?_
    refine go_iconst (v := 1) hF d_Ha_first_13 (by decide) ?_
    refine go_istore_n hF d_Ha_first_14 (by decide) ?_
    refine go_lv (lv' := [(0, _), (1, _), (2, _)]) ⟨rfl, rfl, rfl, trivial⟩ ?_
    have hc1 : 1 ≤ c := by
      rcases Nat.eq_zero_or_pos c with e | e
      · subst e; rw [hc] at h4; exact absurd (show nI 0 ≤ 0 by decide) h4
      · exact e
    exact L15 _ 0 rfl hc1
