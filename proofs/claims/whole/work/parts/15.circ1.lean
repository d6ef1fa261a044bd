def shW (w : wdT) (ι j : Nat) : wdT := sI (sL (sI (sI w 0 ι 5 0 j (wI w 0 ι 5 0 (j + 1))) 0 ι 6 0 j (wI w 0 ι 6 0 (j + 1))) 0 ι 7 0 j (wL w 0 ι 7 0 (j + 1))) 0 ι 8 0 j (wI w 0 ι 8 0 (j + 1))
/-- n hand events behind place p moved one place ahead -/
def drW (w : wdT) (ι p : Nat) : Nat → wdT
  | 0 => w
  | n + 1 => shW (drW w ι p n) ι (p + n)
theorem drW_cnt (w : wdT) (ι p : Nat) : ∀ n, wI (drW w ι p n) 0 ι 4 0 0 = wI w 0 ι 4 0 0
  | 0 => rfl
  | n + 1 => by
    unfold drW shW
    simp only [rd_II, rd_LL, rd_PP, rd_IL, rd_IP, rd_LI, rd_LP, rd_PI, rd_PL, eq_self, true_and, and_true, false_and, and_false, if_true, if_false, reduceIte, reduceCtorEq, Nat.reduceEqDiff, Nat.one_ne_zero, Nat.zero_ne_one]
    exact drW_cnt w ι p n
def dpW (w : wdT) (ι p c : Nat) : wdT := sI (drW w ι p (c - 1 - p)) 0 ι 4 0 0 (nI (c - 1))
set_option maxHeartbeats 4000000 in
set_option maxRecDepth 100000 in
theorem con_Ha_drop {l : Launch} (hlt : l.stackTraces = false) {E : gE} {B : bsT} {N : nwT} {w : wdT} {ι c p : Nat} (ho : N.1 0 ι = true) (hc : wI w 0 ι 4 0 0 = nI c) (hcn : c ≤ 100) (hp : p < c) : Con l E y_Ha_drop (Cond.code y_Ha_drop c_Ha_drop 3 none :: gAll) rm_Ha_drop [.ref (ad B 0 ι 4 0), .int (nI p)] (gw E B N w) (fun v H => v = none ∧ gw E B N (dpW w ι p c) H) (fun _ _ => False) 0 0 := by
  refine con_of (by decide) hlt (Nat.le_of_ble_eq_true rfl) ?_
  intro F hF hM htab hnm hE hlo hl
  subst hl
  have hF : Fb F c_Ha_drop R_Ha 3 rm_Ha_drop := hF
  have hK := hE.1
  have hT := hE.2.1
  refine go_lv (lv' := [(0, _), (1, _)]) ⟨rfl, rfl, trivial⟩ ?_
  have L4 : ∀ m n : Nat, c - (p + n + 1) = m → p + n + 1 ≤ c → Go F 4 [(0, .ref (ad B 0 ι 4 0)), (1, .int (nI p)), (2, .int (nI (p + n + 1)))] [] (gw E B N (drW w ι p n)) 0 0 := by
    intro m
    induction m using Nat.strongRecOn with
    | _ m ih =>
      intro n hm hn
      have hcc : wI (drW w ι p n) 0 ι 4 0 0 = nI c := (drW_cnt w ι p n).trans hc
      refine go_iload_n hF d_Ha_drop_4 rfl ?_
      refine go_aload_n hF d_Ha_drop_5 rfl ?_
      refine gs_geti hF hK d_Ha_drop_6 fl_Ha_25 ho rfl rfl (by decide) rfl ?_
      refine go_icmp_ge (tgt := 74) hF d_Ha_drop_9 (by decide) (fun h9 => ?_) (fun h9 => ?_)
      · refine go_aload_n hF d_Ha_drop_74 rfl ?_
        refine go_dup hF d_Ha_drop_75 rfl ?_
        refine gs_geti hF hK d_Ha_drop_76 fl_Ha_25 ho rfl rfl (by decide) rfl ?_
        refine go_iconst (v := 1) hF d_Ha_drop_79 (by decide) ?_
        refine go_isub hF d_Ha_drop_80 ?_
        refine gs_puti hF hK hlo d_Ha_drop_81 fl_Ha_25 ct_Ha fs_Ha_0 ho rfl rfl (by decide) rfl rfl ?_
        exact go_vret hF hM d_Ha_drop_84 (by decide) (by decide) (fun H hG => ⟨rfl, by rw [hcc] at h9 hG; have q := (nI_leI (a := c) (b := p + n + 1) (by omega) (by omega)).mp h9; obtain ⟨d, e⟩ : ∃ d, c = d + 1 := ⟨c - 1, by omega⟩; subst e; rw [nI_pred] at hG; have e2 : n = d + 1 - 1 - p := (by omega); subst e2; exact hG⟩)
      · have hp2 : p + n + 1 < c := by
          rw [hcc] at h9
          have q : ¬ c ≤ p + n + 1 := fun z => h9 ((nI_leI (a := c) (b := p + n + 1) (by omega) (by omega)).mpr z)
          omega
        refine go_aload_n hF d_Ha_drop_12 rfl ?_
        refine gs_getr hF hK d_Ha_drop_13 fl_Ha_9 ho rfl rfl (by decide) rfl ?_
        refine go_iload_n hF d_Ha_drop_16 rfl ?_
        refine go_iconst (v := 1) hF d_Ha_drop_17 (by decide) ?_
        refine go_isub hF d_Ha_drop_18 ?_
        refine go_aload_n hF d_Ha_drop_19 rfl ?_
        refine gs_getr hF hK d_Ha_drop_20 fl_Ha_9 ho rfl rfl (by decide) rfl ?_
        refine go_iload_n hF d_Ha_drop_23 rfl ?_
        refine gs_iald hF hK hT d_Ha_drop_24 ho rfl rfl rfl (by omega) (by decide) ?_
        refine gs_iast hF hK hT hlo d_Ha_drop_25 ho rfl rfl (nI_pred _) (by omega) (by decide) ?_
        refine go_aload_n hF d_Ha_drop_26 rfl ?_
        refine gs_getr hF hK d_Ha_drop_27 fl_Ha_15 ho rfl rfl (by decide) rfl ?_
        refine go_iload_n hF d_Ha_drop_30 rfl ?_
        refine go_iconst (v := 1) hF d_Ha_drop_31 (by decide) ?_
        refine go_isub hF d_Ha_drop_32 ?_
        refine go_aload_n hF d_Ha_drop_33 rfl ?_
        refine gs_getr hF hK d_Ha_drop_34 fl_Ha_15 ho rfl rfl (by decide) rfl ?_
        refine go_iload_n hF d_Ha_drop_37 rfl ?_
        refine gs_iald hF hK hT d_Ha_drop_38 ho rfl rfl rfl (by omega) (by decide) ?_
        refine gs_iast hF hK hT hlo d_Ha_drop_39 ho rfl rfl (nI_pred _) (by omega) (by decide) ?_
        refine go_aload_n hF d_Ha_drop_40 rfl ?_
        refine gs_getr hF hK d_Ha_drop_41 fl_Ha_18 ho rfl rfl (by decide) rfl ?_
        refine go_iload_n hF d_Ha_drop_44 rfl ?_
        refine go_iconst (v := 1) hF d_Ha_drop_45 (by decide) ?_
        refine go_isub hF d_Ha_drop_46 ?_
        refine go_aload_n hF d_Ha_drop_47 rfl ?_
        refine gs_getr hF hK d_Ha_drop_48 fl_Ha_18 ho rfl rfl (by decide) rfl ?_
        refine go_iload_n hF d_Ha_drop_51 rfl ?_
        refine gs_lald hF hK hT d_Ha_drop_52 ho rfl rfl rfl (by omega) (by decide) ?_
        refine gs_last hF hK hT hlo d_Ha_drop_53 ho rfl rfl (nI_pred _) (by omega) (by decide) ?_
        refine go_aload_n hF d_Ha_drop_54 rfl ?_
        refine gs_getr hF hK d_Ha_drop_55 fl_Ha_22 ho rfl rfl (by decide) rfl ?_
        refine go_iload_n hF d_Ha_drop_58 rfl ?_
        refine go_iconst (v := 1) hF d_Ha_drop_59 (by decide) ?_
        refine go_isub hF d_Ha_drop_60 ?_
        refine go_aload_n hF d_Ha_drop_61 rfl ?_
        refine gs_getr hF hK d_Ha_drop_62 fl_Ha_22 ho rfl rfl (by decide) rfl ?_
        refine go_iload_n hF d_Ha_drop_65 rfl ?_
        refine gs_iald hF hK hT d_Ha_drop_66 ho rfl rfl rfl (by omega) (by decide) ?_
        refine gs_iast hF hK hT hlo d_Ha_drop_67 ho rfl rfl (nI_pred _) (by omega) (by decide) ?_
        refine go_iincN hF d_Ha_drop_68 rfl (by decide) ?_
        refine go_lv (lv' := [(0, _), (1, _), (2, _)]) ⟨rfl, rfl, rfl, trivial⟩ ?_
        refine go_goto (tgt := 4) hF d_Ha_drop_71 (by decide) ?_
        exact go_G (fun H hG => by simp only [rd_II, rd_LL, rd_PP, rd_IL, rd_IP, rd_LI, rd_LP, rd_PI, rd_PL, eq_self, true_and, and_true, false_and, and_false, if_true, if_false, reduceIte, reduceCtorEq, Nat.reduceEqDiff, Nat.one_ne_zero, Nat.zero_ne_one] at hG; exact hG) (ih _ (by omega) (n + 1) rfl (by omega))
  refine go_iload_n hF d_Ha_drop_0 rfl ?_
  refine go_iconst (v := 1) hF d_Ha_drop_1 (by decide) ?_
  refine go_iadd hF d_Ha_drop_2 ?_
  refine go_istore_n hF d_Ha_drop_3 (by decide) ?_
  refine go_lv (lv' := [(0, _), (1, _), (2, _)]) ⟨rfl, rfl, rfl, trivial⟩ ?_
  refine go_lv (lv' := [(0, _), (1, _), (2, .int (nI (p + 0 + 1)))]) ⟨rfl, rfl, by rw [show nI (p + 0 + 1) = nI p + 1 from (nI_1 p).symm]; rfl, trivial⟩ ?_
  exact L4 _ 0 rfl (by omega)
def kpW (w : wdT) (ι c : Nat) (t : Int64) (n v : Int32) : wdT := if c < 600 then sI (sI (sI (sI w 0 ι 10 0 c t.toInt32) 0 ι 11 0 c n) 0 ι 12 0 c v) 0 ι 9 0 0 (nI (c + 1)) else w
set_option maxHeartbeats 4000000 in
set_option maxRecDepth 100000 in
theorem con_Wa_keep {l : Launch} (hlt : l.stackTraces = false) {E : gE} {B : bsT} {N : nwT} {w : wdT} {ι c : Nat} (ho : N.1 0 ι = true) (hc : wI w 0 ι 9 0 0 = nI c) (hcn : c ≤ 600) (t : Int64) (n x : Int32) : Con l E y_Wa_keep (Cond.code y_Wa_keep c_Wa_keep 5 none :: gAll) rm_Wa_keep [.ref (ad B 0 ι 9 0), .long t, .int n, .int x] (gw E B N w) (fun v H => v = none ∧ gw E B N (kpW w ι c t n x) H) (fun _ _ => False) 0 0 := by
  refine con_of (by decide) hlt (Nat.le_of_ble_eq_true rfl) ?_
  intro F hF hM htab hnm hE hlo hl
  subst hl
  have hF : Fb F c_Wa_keep R_Wa 5 rm_Wa_keep := hF
  have hK := hE.1
  have hT := hE.2.1
  refine go_lv (lv' := [(0, _), (1, _), (3, _), (4, _)]) ⟨rfl, rfl, rfl, rfl, trivial⟩ ?_
  refine go_aload_n hF d_Wa_keep_0 rfl ?_
  refine gs_geti hF hK d_Wa_keep_1 fl_Wa_21 ho rfl rfl (by decide) rfl ?_
  refine go_sipush (v := 600) hF d_Wa_keep_4 (by decide) ?_
  refine go_icmp_lt (tgt := 11) hF d_Wa_keep_7 (by decide) (fun h7 => ?_) (fun h7 => ?_)
  · have hc2 : c < 600 := by
      rw [hc] at h7
      rcases Nat.lt_or_ge c 600 with q | q
      · exact q
      · exact absurd h7 (nI_nlt (b := 600) q (by omega))
    refine go_aload_n hF d_Wa_keep_11 rfl ?_
    refine gs_getr hF hK d_Wa_keep_12 fl_Wa_9 ho rfl rfl (by decide) rfl ?_
    refine go_aload_n hF d_Wa_keep_15 rfl ?_
    refine gs_geti hF hK d_Wa_keep_16 fl_Wa_21 ho rfl rfl (by decide) rfl ?_
    refine go_lload_n hF d_Wa_keep_19 rfl ?_
    refine go_l2i hF d_Wa_keep_20 ?_
    refine gs_iast hF hK hT hlo d_Wa_keep_21 ho rfl rfl hc hc2 (by decide) ?_
    refine go_aload_n hF d_Wa_keep_22 rfl ?_
    refine gs_getr hF hK d_Wa_keep_23 fl_Wa_15 ho rfl rfl (by decide) rfl ?_
    refine go_aload_n hF d_Wa_keep_26 rfl ?_
    refine gs_geti hF hK d_Wa_keep_27 fl_Wa_21 ho rfl rfl (by decide) rfl ?_
    refine go_iload_n hF d_Wa_keep_30 rfl ?_
    refine gs_iast hF hK hT hlo d_Wa_keep_31 ho rfl rfl (by simp only [rd_II, rd_LL, rd_PP, rd_IL, rd_IP, rd_LI, rd_LP, rd_PI, rd_PL, eq_self, true_and, and_true, false_and, and_false, if_true, if_false, reduceIte, reduceCtorEq, Nat.reduceEqDiff, Nat.one_ne_zero, Nat.zero_ne_one]; exact hc) hc2 (by decide) ?_
    refine go_aload_n hF d_Wa_keep_32 rfl ?_
    refine gs_getr hF hK d_Wa_keep_33 fl_Wa_18 ho rfl rfl (by decide) rfl ?_
    refine go_aload_n hF d_Wa_keep_36 rfl ?_
    refine gs_geti hF hK d_Wa_keep_37 fl_Wa_21 ho rfl rfl (by decide) rfl ?_
    refine go_iload hF d_Wa_keep_40 rfl ?_
    refine gs_iast hF hK hT hlo d_Wa_keep_42 ho rfl rfl (by simp only [rd_II, rd_LL, rd_PP, rd_IL, rd_IP, rd_LI, rd_LP, rd_PI, rd_PL, eq_self, true_and, and_true, false_and, and_false, if_true, if_false, reduceIte, reduceCtorEq, Nat.reduceEqDiff, Nat.one_ne_zero, Nat.zero_ne_one]; exact hc) hc2 (by decide) ?_
    refine go_aload_n hF d_Wa_keep_43 rfl ?_
    refine go_dup hF d_Wa_keep_44 rfl ?_
    refine gs_geti hF hK d_Wa_keep_45 fl_Wa_21 ho rfl rfl (by decide) rfl ?_
    refine go_iconst (v := 1) hF d_Wa_keep_48 (by decide) ?_
    refine go_iadd hF d_Wa_keep_49 ?_
    refine gs_puti hF hK hlo d_Wa_keep_50 fl_Wa_21 ct_Wa fs_Wa_0 ho rfl rfl (by decide) rfl rfl ?_
    exact go_vret hF hM d_Wa_keep_53 (by decide) (by decide) (fun H hG => ⟨rfl, by simp only [rd_II, rd_LL, rd_PP, rd_IL, rd_IP, rd_LI, rd_LP, rd_PI, rd_PL, eq_self, true_and, and_true, false_and, and_false, if_true, if_false, reduceIte, reduceCtorEq, Nat.reduceEqDiff, Nat.one_ne_zero, Nat.zero_ne_one, hc, nI_1] at hG; unfold kpW; rw [if_pos hc2]; exact hG⟩)
  · exact go_vret hF hM d_Wa_keep_10 (by decide) (by decide) (fun H hG => ⟨rfl, by unfold kpW; rw [if_neg (fun z => h7 (by rw [hc]; exact nI_lt (b := 600) z (by decide)))]; exact hG⟩)
def latW (w : wdT) (ι : Nat) (n : Int32) (t : Int64) : Nat → Int32
  | 0 => 2
  | k + 1 => if wI w 0 ι 11 0 k = n ∧ ¬ t < (wI w 0 ι 10 0 k).toInt64 then wI w 0 ι 12 0 k else latW w ι n t k
theorem latW_s (w : wdT) (ι : Nat) (n : Int32) (t : Int64) (k : Nat) : latW w ι n t (k + 1) = if wI w 0 ι 11 0 k = n ∧ ¬ t < (wI w 0 ι 10 0 k).toInt64 then wI w 0 ι 12 0 k else latW w ι n t k := rfl
set_option maxHeartbeats 4000000 in
set_option maxRecDepth 100000 in
theorem con_Wa_latest {l : Launch} (hlt : l.stackTraces = false) {E : gE} {B : bsT} {N : nwT} {w : wdT} {ι c : Nat} (ho : N.1 0 ι = true) (hc : wI w 0 ι 9 0 0 = nI c) (hcn : c ≤ 600) (n : Int32) (t : Int64) : Con l E y_Wa_latest (Cond.code y_Wa_latest c_Wa_latest 5 (some .int) :: gAll) rm_Wa_latest [.ref (ad B 0 ι 9 0), .int n, .long t] (gw E B N w) (fun v H => v = some (.int (latW w ι n t c)) ∧ gw E B N w H) (fun _ _ => False) 0 0 := by
  refine con_of (by decide) hlt (Nat.le_of_ble_eq_true rfl) ?_
  intro F hF hM htab hnm hE hlo hl
  subst hl
  have hF : Fb F c_Wa_latest R_Wa 5 rm_Wa_latest := hF
  have hK := hE.1
  have hT := hE.2.1
  refine go_lv (lv' := [(0, _), (1, _), (2, _)]) ⟨rfl, rfl, rfl, trivial⟩ ?_
  have L8 : ∀ j : Nat, j ≤ 600 → latW w ι n t j = latW w ι n t c → Go F 8 [(0, .ref (ad B 0 ι 9 0)), (1, .int n), (2, .long t), (4, .int (nI j - 1))] [] (gw E B N w) 0 0 := by
    intro j
    induction j with
    | zero =>
      intro _ he
      refine go_iload hF d_Wa_latest_8 rfl ?_
      refine go_if_lt (tgt := 51) hF d_Wa_latest_10 (by decide) (fun h10 => ?_) (fun h10 => absurd (show nI 0 - 1 < 0 by decide) h10)
      refine go_iconst (v := 2) hF d_Wa_latest_51 (by decide) ?_
      exact go_iret hF hM d_Wa_latest_52 (by decide) (by decide) (fun H hG => ⟨by rw [← he]; rfl, hG⟩)
    | succ j ih =>
      intro hj he
      rw [nI_pred]
      refine go_iload hF d_Wa_latest_8 rfl ?_
      refine go_if_lt (tgt := 51) hF d_Wa_latest_10 (by decide) (fun h10 => ?_) (fun h10 => ?_)
      · exact absurd h10 (nI_pos (by omega))
      · refine go_aload_n hF d_Wa_latest_13 rfl ?_
        refine gs_getr hF hK d_Wa_latest_14 fl_Wa_15 ho rfl rfl (by decide) rfl ?_
        refine go_iload hF d_Wa_latest_17 rfl ?_
        refine gs_iald hF hK hT d_Wa_latest_19 ho rfl rfl rfl (by omega) (by decide) ?_
        refine go_iload_n hF d_Wa_latest_20 rfl ?_
        refine go_icmp_ne (tgt := 45) hF d_Wa_latest_21 (by decide) (fun h21 => ?_) (fun h21 => ?_)
        · refine go_iinc hF d_Wa_latest_45 rfl rfl (by decide) ?_
          refine go_lv (lv' := [(0, _), (1, _), (2, _), (4, _)]) ⟨rfl, rfl, rfl, rfl, trivial⟩ ?_
          refine go_goto (tgt := 8) hF d_Wa_latest_48 (by decide) ?_
          refine go_lv (lv' := [(0, _), (1, _), (2, _), (4, .int (nI j - 1))]) ⟨rfl, rfl, rfl, by rw [show nI j - 1 = nI j + Int32.ofInt (-1) from Int32.sub_eq_add_neg ..]; rfl, trivial⟩ ?_
          exact ih (by omega) (by rw [← he]; rw [latW_s, if_neg (by simp [h10, h21])])
        · refine go_aload_n hF d_Wa_latest_24 rfl ?_
          refine gs_getr hF hK d_Wa_latest_25 fl_Wa_9 ho rfl rfl (by decide) rfl ?_
          refine go_iload hF d_Wa_latest_28 rfl ?_
          refine gs_iald hF hK hT d_Wa_latest_30 ho rfl rfl rfl (by omega) (by decide) ?_
          refine go_i2l hF d_Wa_latest_31 ?_
          refine go_lload_n hF d_Wa_latest_32 rfl ?_
          refine go_lif_gt (tgt := 45) hF d_Wa_latest_33 d_Wa_latest_34 (by decide) (fun h33 => ?_) (fun h33 => ?_)
          · refine go_iinc hF d_Wa_latest_45 rfl rfl (by decide) ?_
            refine go_lv (lv' := [(0, _), (1, _), (2, _), (4, _)]) ⟨rfl, rfl, rfl, rfl, trivial⟩ ?_
            refine go_goto (tgt := 8) hF d_Wa_latest_48 (by decide) ?_
            refine go_lv (lv' := [(0, _), (1, _), (2, _), (4, .int (nI j - 1))]) ⟨rfl, rfl, rfl, by rw [show nI j - 1 = nI j + Int32.ofInt (-1) from Int32.sub_eq_add_neg ..]; rfl, trivial⟩ ?_
            exact ih (by omega) (by rw [← he]; rw [latW_s, if_neg (by simp [h10, h21, h33])])
          · refine go_aload_n hF d_Wa_latest_37 rfl ?_
            refine gs_getr hF hK d_Wa_latest_38 fl_Wa_18 ho rfl rfl (by decide) rfl ?_
            refine go_iload hF d_Wa_latest_41 rfl ?_
            refine gs_iald hF hK hT d_Wa_latest_43 ho rfl rfl rfl (by omega) (by decide) ?_
            exact go_iret hF hM d_Wa_latest_44 (by decide) (by decide) (fun H hG => ⟨by rw [← he]; rw [latW_s, if_pos ⟨h21, h33⟩], hG⟩)
  refine go_aload_n hF d_Wa_latest_0 rfl ?_
  refine gs_geti hF hK d_Wa_latest_1 fl_Wa_21 ho rfl rfl (by decide) rfl ?_
  refine go_iconst (v := 1) hF d_Wa_latest_4 (by decide) ?_
  refine go_isub hF d_Wa_latest_5 ?_
  refine go_istore hF d_Wa_latest_6 (by decide) ?_
  refine go_lv (lv' := [(0, _), (1, _), (2, _), (4, _)]) ⟨rfl, rfl, rfl, rfl, trivial⟩ ?_
  refine go_lv (lv' := [(0, _), (1, _), (2, _), (4, .int (nI c - 1))]) ⟨rfl, rfl, rfl, by rw [← hc]; rfl, trivial⟩ ?_
  exact L8 c hcn rfl
def vn (x : Int32) (n : Nat) : Prop := x = nI x.toNatClampNeg ∧ x.toNatClampNeg < n
def nz (x : Int32) : Nat := x.toNatClampNeg
/-- what gate g gives by the nets -/
def gvn (w : wdT) (ι g : Nat) : Int32 := gvs (wI w 0 ι 14 0 g) (wI w 0 ι 14 6 g) (wI w 0 ι 13 2 (wI w 0 ι 14 1 g).toNatClampNeg) (wI w 0 ι 13 2 (wI w 0 ι 14 2 g).toNatClampNeg)
set_option maxHeartbeats 4000000 in
set_option maxRecDepth 100000 in
theorem con_Ci_given {l : Launch} (hlt : l.stackTraces = false) {E : gE} {B : bsT} {N : nwT} {w : wdT} {ι g : Nat} (ho : N.1 0 ι = true) (h1 : g < 32) (ha : vn (wI w 0 ι 14 1 g) 24) (hb : vn (wI w 0 ι 14 2 g) 24) : Con l E y_Ci_given (Cond.code y_Ci_given c_Ci_given 2 (some .int) :: gAll) rm_Ci_given [.ref (ad B 0 ι 0 0), .ref (ad B 0 ι 14 g)] (gw E B N w) (fun v H => v = some (.int (gvn w ι g)) ∧ gw E B N w H) (fun _ _ => False) 0 0 := by
  refine con_of (by decide) hlt (Nat.le_of_ble_eq_true rfl) ?_
  intro F hF hM htab hnm hE hlo hl
  subst hl
  have hF : Fb F c_Ci_given R_Ci 2 rm_Ci_given := hF
  have hK := hE.1
  have hT := hE.2.1
  refine go_lv (lv' := [(0, _), (1, _)]) ⟨rfl, rfl, trivial⟩ ?_
  refine go_aload_n hF d_Ci_given_0 rfl ?_
  refine go_aload_n hF d_Ci_given_1 rfl ?_
  refine gs_getr hF hK d_Ci_given_2 fl_Ci_17 ho rfl rfl (by decide) rfl ?_
  refine go_aload_n hF d_Ci_given_5 rfl ?_
  refine gs_geti hF hK d_Ci_given_6 fl_Ci_190 ho rfl rfl h1 rfl ?_
  refine gs_aald hF hK hT d_Ci_given_9 ho rfl rfl ha.1 ha.2 (by decide) ?_
  refine gs_geti hF hK d_Ci_given_10 fl_Ci_163 ho rfl rfl ha.2 rfl ?_
  refine go_aload_n hF d_Ci_given_13 rfl ?_
  refine gs_getr hF hK d_Ci_given_14 fl_Ci_17 ho rfl rfl (by decide) rfl ?_
  refine go_aload_n hF d_Ci_given_17 rfl ?_
  refine gs_geti hF hK d_Ci_given_18 fl_Ci_193 ho rfl rfl h1 rfl ?_
  refine gs_aald hF hK hT d_Ci_given_21 ho rfl rfl hb.1 hb.2 (by decide) ?_
  refine gs_geti hF hK d_Ci_given_22 fl_Ci_163 ho rfl rfl hb.2 rfl ?_
  refine go_callVX hF hE hlo d_Ci_given_25 (con_Ga_gives hlt ho h1 _ _) mt_Ga_gives mv_Ga_gives lk_Ci_196 ⟨rfl, rfl, by decide, by decide⟩ rfl (Nat.le_of_ble_eq_true rfl) ⟨by decide, by decide⟩ (fun H hG => gw_recv (q := (R_Ga, T_Ga, 11)) hK hG ho rfl rfl h1 rfl) (fun M => gx_no) rfl (fun v => ?_)
  refine go_and (fun hv => ?_)
  subst hv
  exact go_iret hF hM d_Ci_given_28 (by decide) (by decide) (fun H hG => ⟨rfl, hG⟩)
/-- gate g is ahead of gate b -/
def gAh (w : wdT) (ι g b : Nat) : Prop := wL w 0 ι 14 8 g < wL w 0 ι 14 8 b ∨ (wL w 0 ι 14 8 g = wL w 0 ι 14 8 b ∧ ¬ wI w 0 ι 14 3 b ≤ wI w 0 ι 14 3 g)
noncomputable def biC (p : Prop) : Int32 := @ite _ p (Classical.propDecidable _) 1 0
theorem biC_t {p : Prop} (h : p) : biC p = 1 := if_pos h
theorem biC_f {p : Prop} (h : ¬ p) : biC p = 0 := if_neg h
set_option maxHeartbeats 4000000 in
set_option maxRecDepth 100000 in
theorem con_Ci_isBefore {l : Launch} (hlt : l.stackTraces = false) {E : gE} {B : bsT} {N : nwT} {w : wdT} {ι i j : Nat} (ho : N.1 0 ι = true) (h0 : i < 32) (h1 : j < 32) : Con l E y_Ci_isBefore (Cond.code y_Ci_isBefore c_Ci_isBefore 2 (some .boolean) :: gAll) rm_Ci_isBefore [.ref (ad B 0 ι 14 i), .ref (ad B 0 ι 14 j)] (gw E B N w) (fun v H => v = some (.int (biC (gAh w ι i j))) ∧ gw E B N w H) (fun _ _ => False) 0 0 := by
  refine con_of (by decide) hlt (Nat.le_of_ble_eq_true rfl) ?_
  intro F hF hM htab hnm hE hlo hl
  subst hl
  have hF : Fb F c_Ci_isBefore R_Ci 2 rm_Ci_isBefore := hF
  have hK := hE.1
  have hT := hE.2.1
  refine go_lv (lv' := [(0, _), (1, _)]) ⟨rfl, rfl, trivial⟩ ?_
  refine go_aload_n hF d_Ci_isBefore_0 rfl ?_
  refine gs_getl hF hK d_Ci_isBefore_1 fl_Ci_123 ho rfl rfl h0 rfl ?_
  refine go_aload_n hF d_Ci_isBefore_4 rfl ?_
  refine gs_getl hF hK d_Ci_isBefore_5 fl_Ci_123 ho rfl rfl h1 rfl ?_
  refine go_lif_lt (tgt := 35) hF d_Ci_isBefore_8 d_Ci_isBefore_9 (by decide) (fun h8 => ?_) (fun h8 => ?_)
  · refine go_iconst (v := 1) hF d_Ci_isBefore_35 (by decide) ?_
    refine go_goto (tgt := 40) hF d_Ci_isBefore_36 (by decide) ?_
    exact go_zret hF hM d_Ci_isBefore_40 rfl (by decide) (by decide) (fun H hG => ⟨by first | (rw [biC_t (by simp only [gAh]; simp [h8])]; done) | (rw [biC_f (by simp only [gAh]; simp [h8])]; done), hG⟩)
  · refine go_aload_n hF d_Ci_isBefore_12 rfl ?_
    refine gs_getl hF hK d_Ci_isBefore_13 fl_Ci_123 ho rfl rfl h0 rfl ?_
    refine go_aload_n hF d_Ci_isBefore_16 rfl ?_
    refine gs_getl hF hK d_Ci_isBefore_17 fl_Ci_123 ho rfl rfl h1 rfl ?_
    refine go_lif_ne (tgt := 39) hF d_Ci_isBefore_20 d_Ci_isBefore_21 (by decide) (fun h20 => ?_) (fun h20 => ?_)
    · refine go_iconst (v := 0) hF d_Ci_isBefore_39 (by decide) ?_
      exact go_zret hF hM d_Ci_isBefore_40 rfl (by decide) (by decide) (fun H hG => ⟨by first | (rw [biC_t (by simp only [gAh]; simp [h8, h20])]; done) | (rw [biC_f (by simp only [gAh]; simp [h8, h20])]; done), hG⟩)
    · refine go_aload_n hF d_Ci_isBefore_24 rfl ?_
      refine gs_geti hF hK d_Ci_isBefore_25 fl_Ci_130 ho rfl rfl h0 rfl ?_
      refine go_aload_n hF d_Ci_isBefore_28 rfl ?_
      refine gs_geti hF hK d_Ci_isBefore_29 fl_Ci_130 ho rfl rfl h1 rfl ?_
      refine go_icmp_ge (tgt := 39) hF d_Ci_isBefore_32 (by decide) (fun h32 => ?_) (fun h32 => ?_)
      · refine go_iconst (v := 0) hF d_Ci_isBefore_39 (by decide) ?_
        exact go_zret hF hM d_Ci_isBefore_40 rfl (by decide) (by decide) (fun H hG => ⟨by first | (rw [biC_t (by simp only [gAh]; simp [h8, h20, h32])]; done) | (rw [biC_f (by simp only [gAh]; simp [h8, h20, h32])]; done), hG⟩)
      · refine go_iconst (v := 1) hF d_Ci_isBefore_35 (by decide) ?_
        refine go_goto (tgt := 40) hF d_Ci_isBefore_36 (by decide) ?_
        exact go_zret hF hM d_Ci_isBefore_40 rfl (by decide) (by decide) (fun H hG => ⟨by first | (rw [biC_t (by simp only [gAh]; simp [h8, h20, h32])]; done) | (rw [biC_f (by simp only [gAh]; simp [h8, h20, h32])]; done), hG⟩)
def hfs (w : wdT) (ι : Nat) : Option Nat → Option Nat → Prop
  | none, _ => False
  | some _, none => True
  | some a, some b => wL w 0 ι 7 0 a < wL w 0 ι 14 8 b ∨ (wL w 0 ι 7 0 a = wL w 0 ι 14 8 b ∧ ¬ wI w 0 ι 14 3 b < wI w 0 ι 6 0 a)
/-- what drives net q, by its hand and the first g gates -/
def drj (w : wdT) (ι q : Nat) : Nat → Int32
  | 0 => wI w 0 ι 13 0 q
  | g + 1 => if wI w 0 ι 14 3 g = nI q ∧ ¬ wI w 0 ι 14 6 g = 3 ∧ ¬ wI w 0 ι 14 6 g = drj w ι q g then (if drj w ι q g = 3 then wI w 0 ι 14 6 g else 2) else drj w ι q g
theorem drj_s (w : wdT) (ι q g : Nat) : drj w ι q (g + 1) = if wI w 0 ι 14 3 g = nI q ∧ ¬ wI w 0 ι 14 6 g = 3 ∧ ¬ wI w 0 ι 14 6 g = drj w ι q g then (if drj w ι q g = 3 then wI w 0 ι 14 6 g else 2) else drj w ι q g := rfl
set_option maxHeartbeats 4000000 in
set_option maxRecDepth 100000 in
theorem con_Ci_driven {l : Launch} (hlt : l.stackTraces = false) {E : gE} {B : bsT} {N : nwT} {w : wdT} {ι ng q0 : Nat} (ho : N.1 0 ι = true) (hq0 : q0 < 24) (hng : wI w 0 ι 0 4 0 = nI ng) (hgn : ng ≤ 32) : Con l E y_Ci_driven (Cond.code y_Ci_driven c_Ci_driven 5 (some .int) :: gAll) rm_Ci_driven [.ref (ad B 0 ι 0 0), .int (nI q0)] (gw E B N w) (fun v H => v = some (.int (drj w ι q0 ng)) ∧ gw E B N w H) (fun _ _ => False) 0 0 := by
  refine con_of (by decide) hlt (Nat.le_of_ble_eq_true rfl) ?_
  intro F hF hM htab hnm hE hlo hl
  subst hl
  have hF : Fb F c_Ci_driven R_Ci 5 rm_Ci_driven := hF
  have hK := hE.1
  have hT := hE.2.1
  refine go_lv (lv' := [(0, _), (1, _)]) ⟨rfl, rfl, trivial⟩ ?_
  have L12 : ∀ m p : Nat, ng - p = m → p ≤ ng → Go F 12 [(0, .ref (ad B 0 ι 0 0)), (1, .int (nI q0)), (2, .int (drj w ι q0 p)), (3, .int (nI p))] [] (gw E B N w) 0 0 := by
    intro m
    induction m using Nat.strongRecOn with
    | _ m ih =>
      intro p hm hp
      refine go_iload_n hF d_Ci_driven_12 rfl ?_
      refine go_aload_n hF d_Ci_driven_13 rfl ?_
      refine gs_geti hF hK d_Ci_driven_14 fl_Ci_57 ho rfl rfl (by decide) rfl ?_
      refine go_icmp_ge (tgt := 74) hF d_Ci_driven_17 (by decide) (fun h17 => ?_) (fun h17 => ?_)
      · refine go_iload_n hF d_Ci_driven_74 rfl ?_
        exact go_iret hF hM d_Ci_driven_75 (by decide) (by decide) (fun H hG => ⟨by rw [hng] at h17; have q := (nI_leI (a := ng) (b := p) (by omega) (by omega)).mp h17; have e : p = ng := (by omega); subst e; rfl, hG⟩)
      · have hp2 : p < ng := by
          rw [hng] at h17
          have q : ¬ ng ≤ p := fun z => h17 ((nI_leI (a := ng) (b := p) (by omega) (by omega)).mpr z)
          omega
        refine go_aload_n hF d_Ci_driven_20 rfl ?_
        refine gs_getr hF hK d_Ci_driven_21 fl_Ci_23 ho rfl rfl (by decide) rfl ?_
        refine go_iload_n hF d_Ci_driven_24 rfl ?_
        refine gs_aald hF hK hT d_Ci_driven_25 ho rfl rfl rfl (by omega) (by decide) ?_
        refine gs_geti hF hK d_Ci_driven_26 fl_Ci_103 ho rfl rfl (show _ < 32 from (by omega)) rfl ?_
        refine go_istore hF d_Ci_driven_29 (by decide) ?_
        refine go_lv (lv' := [(0, _), (1, _), (2, _), (3, _), (4, _)]) ⟨rfl, rfl, rfl, rfl, rfl, trivial⟩ ?_
        refine go_aload_n hF d_Ci_driven_31 rfl ?_
        refine gs_getr hF hK d_Ci_driven_32 fl_Ci_23 ho rfl rfl (by decide) rfl ?_
        refine go_iload_n hF d_Ci_driven_35 rfl ?_
        refine gs_aald hF hK hT d_Ci_driven_36 ho rfl rfl rfl (by omega) (by decide) ?_
        refine gs_geti hF hK d_Ci_driven_37 fl_Ci_130 ho rfl rfl (show _ < 32 from (by omega)) rfl ?_
        refine go_iload_n hF d_Ci_driven_40 rfl ?_
        refine go_icmp_ne (tgt := 68) hF d_Ci_driven_41 (by decide) (fun h41 => ?_) (fun h41 => ?_)
        · refine go_iincN hF d_Ci_driven_68 rfl (by decide) ?_
          refine go_lv (lv' := [(0, _), (1, _), (2, _), (3, _), (4, _)]) ⟨rfl, rfl, rfl, rfl, rfl, trivial⟩ ?_
          refine go_goto (tgt := 12) hF d_Ci_driven_71 (by decide) ?_
          refine go_lv (lv' := [(0, _), (1, _), (2, .int (drj w ι q0 (p + 1))), (3, .int (nI (p + 1)))]) ⟨rfl, rfl, by rw [drj_s]; simp [h17, h41] <;> rfl, rfl, trivial⟩ ?_
          exact ih _ (by omega) (p + 1) rfl (by omega)
        · refine go_iload hF d_Ci_driven_44 rfl ?_
          refine go_iconst (v := 3) hF d_Ci_driven_46 (by decide) ?_
          refine go_icmp_eq (tgt := 68) hF d_Ci_driven_47 (by decide) (fun h47 => ?_) (fun h47 => ?_)
          · refine go_iincN hF d_Ci_driven_68 rfl (by decide) ?_
            refine go_lv (lv' := [(0, _), (1, _), (2, _), (3, _), (4, _)]) ⟨rfl, rfl, rfl, rfl, rfl, trivial⟩ ?_
            refine go_goto (tgt := 12) hF d_Ci_driven_71 (by decide) ?_
            refine go_lv (lv' := [(0, _), (1, _), (2, .int (drj w ι q0 (p + 1))), (3, .int (nI (p + 1)))]) ⟨rfl, rfl, by rw [drj_s]; simp [h17, h41, h47] <;> rfl, rfl, trivial⟩ ?_
            exact ih _ (by omega) (p + 1) rfl (by omega)
          · refine go_iload hF d_Ci_driven_50 rfl ?_
            refine go_iload_n hF d_Ci_driven_52 rfl ?_
            refine go_icmp_eq (tgt := 68) hF d_Ci_driven_53 (by decide) (fun h53 => ?_) (fun h53 => ?_)
            · refine go_iincN hF d_Ci_driven_68 rfl (by decide) ?_
              refine go_lv (lv' := [(0, _), (1, _), (2, _), (3, _), (4, _)]) ⟨rfl, rfl, rfl, rfl, rfl, trivial⟩ ?_
              refine go_goto (tgt := 12) hF d_Ci_driven_71 (by decide) ?_
              refine go_lv (lv' := [(0, _), (1, _), (2, .int (drj w ι q0 (p + 1))), (3, .int (nI (p + 1)))]) ⟨rfl, rfl, by rw [drj_s]; simp [h17, h41, h47, h53] <;> rfl, rfl, trivial⟩ ?_
              exact ih _ (by omega) (p + 1) rfl (by omega)
            · refine go_iload_n hF d_Ci_driven_56 rfl ?_
              refine go_iconst (v := 3) hF d_Ci_driven_57 (by decide) ?_
              refine go_icmp_ne (tgt := 66) hF d_Ci_driven_58 (by decide) (fun h58 => ?_) (fun h58 => ?_)
              · refine go_iconst (v := 2) hF d_Ci_driven_66 (by decide) ?_
                refine go_istore_n hF d_Ci_driven_67 (by decide) ?_
                refine go_lv (lv' := [(0, _), (1, _), (2, _), (3, _), (4, _)]) ⟨rfl, rfl, rfl, rfl, rfl, trivial⟩ ?_
                refine go_iincN hF d_Ci_driven_68 rfl (by decide) ?_
                refine go_lv (lv' := [(0, _), (1, _), (2, _), (3, _), (4, _)]) ⟨rfl, rfl, rfl, rfl, rfl, trivial⟩ ?_
                refine go_goto (tgt := 12) hF d_Ci_driven_71 (by decide) ?_
                refine go_lv (lv' := [(0, _), (1, _), (2, .int (drj w ι q0 (p + 1))), (3, .int (nI (p + 1)))]) ⟨rfl, rfl, by rw [drj_s]; simp [h17, h41, h47, h53, h58] <;> rfl, rfl, trivial⟩ ?_
                exact ih _ (by omega) (p + 1) rfl (by omega)
              · refine go_iload hF d_Ci_driven_61 rfl ?_
                refine go_goto (tgt := 67) hF d_Ci_driven_63 (by decide) ?_
                refine go_istore_n hF d_Ci_driven_67 (by decide) ?_
                refine go_lv (lv' := [(0, _), (1, _), (2, _), (3, _), (4, _)]) ⟨rfl, rfl, rfl, rfl, rfl, trivial⟩ ?_
                refine go_iincN hF d_Ci_driven_68 rfl (by decide) ?_
                refine go_lv (lv' := [(0, _), (1, _), (2, _), (3, _), (4, _)]) ⟨rfl, rfl, rfl, rfl, rfl, trivial⟩ ?_
                refine go_goto (tgt := 12) hF d_Ci_driven_71 (by decide) ?_
                refine go_lv (lv' := [(0, _), (1, _), (2, .int (drj w ι q0 (p + 1))), (3, .int (nI (p + 1)))]) ⟨rfl, rfl, by rw [drj_s]; simp [h17, h41, h47, h53, h58] <;> rfl, rfl, trivial⟩ ?_
                exact ih _ (by omega) (p + 1) rfl (by omega)
  refine go_aload_n hF d_Ci_driven_0 rfl ?_
  refine gs_getr hF hK d_Ci_driven_1 fl_Ci_17 ho rfl rfl (by decide) rfl ?_
  refine go_iload_n hF d_Ci_driven_4 rfl ?_
  refine gs_aald hF hK hT d_Ci_driven_5 ho rfl rfl rfl hq0 (by decide) ?_
  refine gs_geti hF hK d_Ci_driven_6 fl_Ci_154 ho rfl rfl hq0 rfl ?_
  refine go_istore_n hF d_Ci_driven_9 (by decide) ?_
  refine go_lv (lv' := [(0, _), (1, _), (2, _)]) ⟨rfl, rfl, rfl, trivial⟩ ?_
  refine go_iconst (v := 0) hF d_Ci_driven_10 (by decide) ?_
  refine go_istore_n hF d_Ci_driven_11 (by decide) ?_
  refine go_lv (lv' := [(0, _), (1, _), (2, _), (3, _)]) ⟨rfl, rfl, rfl, rfl, trivial⟩ ?_
  exact L12 _ 0 rfl (Nat.zero_le _)
/-- the gate whose event is next, of the first g -/
def oI : Option Nat → Int32
  | none => -1
  | some b => nI b
theorem oI_some {o : Option Nat} (h : ¬ oI o = -1) : ∃ b, o = some b := by
  cases o with
  | none => exact absurd rfl h
  | some b => exact ⟨b, rfl⟩
theorem oI_none {o : Option Nat} (hb : ∀ b, o = some b → b < 2 ^ 31) (h : oI o = -1) : o = none := by
  cases o with
  | none => rfl
  | some b =>
    have h1 : (nI b).toInt = (-1 : Int32).toInt := by rw [show nI b = -1 from h]
    rw [nI_toInt (hb b rfl)] at h1
    exact absurd h1 (by rw [show (-1 : Int32).toInt = -1 from by decide]; omega)
def gnx (w : wdT) (ι g : Nat) : Option Nat → Prop
  | none => True
  | some b => gAh w ι g b
noncomputable def gbs (w : wdT) (ι : Nat) : Nat → Option Nat
  | 0 => none
  | g + 1 => @ite _ (¬ wI w 0 ι 14 7 g = -1 ∧ gnx w ι g (gbs w ι g)) (Classical.propDecidable _) (some g) (gbs w ι g)
theorem gbs_t {w : wdT} {ι g : Nat} (h : ¬ wI w 0 ι 14 7 g = -1 ∧ gnx w ι g (gbs w ι g)) : gbs w ι (g + 1) = some g := by
  conv => lhs; unfold gbs
  exact if_pos h
theorem gbs_f {w : wdT} {ι g : Nat} (h : ¬ (¬ wI w 0 ι 14 7 g = -1 ∧ gnx w ι g (gbs w ι g))) : gbs w ι (g + 1) = gbs w ι g := by
  conv => lhs; unfold gbs
  exact if_neg h
theorem gbs_lt (w : wdT) (ι : Nat) : ∀ (g b : Nat), gbs w ι g = some b → b < g
  | 0, b, h => by cases h
  | g + 1, b, h => by
    by_cases hh : ¬ wI w 0 ι 14 7 g = -1 ∧ gnx w ι g (gbs w ι g)
    · rw [gbs_t hh] at h
      cases h
      omega
    · rw [gbs_f hh] at h
      have := gbs_lt w ι g b h
      omega
set_option maxHeartbeats 4000000 in
set_option maxRecDepth 100000 in
theorem con_Ci_firstGate {l : Launch} (hlt : l.stackTraces = false) {E : gE} {B : bsT} {N : nwT} {w : wdT} {ι ng : Nat} (ho : N.1 0 ι = true) (hng : wI w 0 ι 0 4 0 = nI ng) (hgn : ng ≤ 32) : Con l E y_Ci_firstGate (Cond.code y_Ci_firstGate c_Ci_firstGate 3 (some .int) :: gAll) rm_Ci_firstGate [.ref (ad B 0 ι 0 0)] (gw E B N w) (fun v H => v = some (.int (oI (gbs w ι ng))) ∧ gw E B N w H) (fun _ _ => False) 0 0 := by
  refine con_of (by decide) hlt (Nat.le_of_ble_eq_true rfl) ?_
  intro F hF hM htab hnm hE hlo hl
  subst hl
  have hF : Fb F c_Ci_firstGate R_Ci 3 rm_Ci_firstGate := hF
  have hK := hE.1
  have hT := hE.2.1
  refine go_lv (lv' := [(0, _)]) ⟨rfl, trivial⟩ ?_
  have L4 : ∀ m p : Nat, ng - p = m → p ≤ ng → Go F 4 [(0, .ref (ad B 0 ι 0 0)), (1, .int (oI (gbs w ι p))), (2, .int (nI p))] [] (gw E B N w) 0 0 := by
    intro m
    induction m using Nat.strongRecOn with
    | _ m ih =>
      intro p hm hp
      refine go_iload_n hF d_Ci_firstGate_4 rfl ?_
      refine go_aload_n hF d_Ci_firstGate_5 rfl ?_
      refine gs_geti hF hK d_Ci_firstGate_6 fl_Ci_57 ho rfl rfl (by decide) rfl ?_
      refine go_icmp_ge (tgt := 56) hF d_Ci_firstGate_9 (by decide) (fun h9 => ?_) (fun h9 => ?_)
      · refine go_iload_n hF d_Ci_firstGate_56 rfl ?_
        exact go_iret hF hM d_Ci_firstGate_57 (by decide) (by decide) (fun H hG => ⟨by rw [hng] at h9; have q := (nI_leI (a := ng) (b := p) (by omega) (by omega)).mp h9; have e : p = ng := (by omega); subst e; rfl, hG⟩)
      · have hp2 : p < ng := by
          rw [hng] at h9
          have q : ¬ ng ≤ p := fun z => h9 ((nI_leI (a := ng) (b := p) (by omega) (by omega)).mpr z)
          omega
        refine go_aload_n hF d_Ci_firstGate_12 rfl ?_
        refine gs_getr hF hK d_Ci_firstGate_13 fl_Ci_23 ho rfl rfl (by decide) rfl ?_
        refine go_iload_n hF d_Ci_firstGate_16 rfl ?_
        refine gs_aald hF hK hT d_Ci_firstGate_17 ho rfl rfl rfl (by omega) (by decide) ?_
        refine gs_geti hF hK d_Ci_firstGate_18 fl_Ci_138 ho rfl rfl (show _ < 32 from (by omega)) rfl ?_
        refine go_iconst (v := -1) hF d_Ci_firstGate_21 (by decide) ?_
        refine go_icmp_eq (tgt := 50) hF d_Ci_firstGate_22 (by decide) (fun h22 => ?_) (fun h22 => ?_)
        · refine go_iincN hF d_Ci_firstGate_50 rfl (by decide) ?_
          refine go_lv (lv' := [(0, _), (1, _), (2, _)]) ⟨rfl, rfl, rfl, trivial⟩ ?_
          refine go_goto (tgt := 4) hF d_Ci_firstGate_53 (by decide) ?_
          refine go_lv (lv' := [(0, _), (1, .int (oI (gbs w ι (p + 1)))), (2, .int (nI (p + 1)))]) ⟨rfl, by rw [gbs_f (fun z => z.1 h22)]; rfl, rfl, trivial⟩ ?_
          exact ih _ (by omega) (p + 1) rfl (by omega)
        · refine go_iload_n hF d_Ci_firstGate_25 rfl ?_
          refine go_iconst (v := -1) hF d_Ci_firstGate_26 (by decide) ?_
          refine go_icmp_eq (tgt := 48) hF d_Ci_firstGate_27 (by decide) (fun h27 => ?_) (fun h27 => ?_)
          · refine go_iload_n hF d_Ci_firstGate_48 rfl ?_
            refine go_istore_n hF d_Ci_firstGate_49 (by decide) ?_
            refine go_lv (lv' := [(0, _), (1, _), (2, _)]) ⟨rfl, rfl, rfl, trivial⟩ ?_
            refine go_iincN hF d_Ci_firstGate_50 rfl (by decide) ?_
            refine go_lv (lv' := [(0, _), (1, _), (2, _)]) ⟨rfl, rfl, rfl, trivial⟩ ?_
            refine go_goto (tgt := 4) hF d_Ci_firstGate_53 (by decide) ?_
            refine go_lv (lv' := [(0, _), (1, .int (oI (gbs w ι (p + 1)))), (2, .int (nI (p + 1)))]) ⟨rfl, by rw [gbs_t ⟨h22, by rw [oI_none (fun b hb => by have := gbs_lt w ι p b hb; omega) h27]; trivial⟩]; rfl, rfl, trivial⟩ ?_
            exact ih _ (by omega) (p + 1) rfl (by omega)
          · obtain ⟨b, hb⟩ := oI_some h27
            refine go_aload_n hF d_Ci_firstGate_30 rfl ?_
            refine gs_getr hF hK d_Ci_firstGate_31 fl_Ci_23 ho rfl rfl (by decide) rfl ?_
            refine go_iload_n hF d_Ci_firstGate_34 rfl ?_
            refine gs_aald hF hK hT d_Ci_firstGate_35 ho rfl rfl rfl (by omega) (by decide) ?_
            refine go_aload_n hF d_Ci_firstGate_36 rfl ?_
            refine gs_getr hF hK d_Ci_firstGate_37 fl_Ci_23 ho rfl rfl (by decide) rfl ?_
            refine go_iload_n hF d_Ci_firstGate_40 rfl ?_
            refine gs_aald hF hK hT d_Ci_firstGate_41 ho rfl rfl (show oI (gbs w ι p) = nI b by rw [hb]; rfl) (by have := gbs_lt w ι p b hb; omega) (by decide) ?_
            refine go_callSX hF hE hlo d_Ci_firstGate_42 (con_Ci_isBefore hlt ho (show p < 32 by omega) (show b < 32 from (by have := gbs_lt w ι p b hb; omega))) mt_Ci_isBefore ms_Ci_isBefore lk_Ci_141 ⟨rfl, rfl, by decide, by decide⟩ rfl (Nat.le_of_ble_eq_true rfl) ⟨by decide, by decide⟩ (fun M => gx_no) rfl (fun v => ?_)
            refine go_and (fun hv => ?_)
            subst hv
            refine go_if_eq (tgt := 50) hF d_Ci_firstGate_45 (by decide) (fun h45 => ?_) (fun h45 => ?_)
            · refine go_iincN hF d_Ci_firstGate_50 rfl (by decide) ?_
              refine go_lv (lv' := [(0, _), (1, _), (2, _)]) ⟨rfl, rfl, rfl, trivial⟩ ?_
              refine go_goto (tgt := 4) hF d_Ci_firstGate_53 (by decide) ?_
              refine go_lv (lv' := [(0, _), (1, .int (oI (gbs w ι (p + 1)))), (2, .int (nI (p + 1)))]) ⟨rfl, by rw [gbs_f (fun z => by have z2 : gAh w ι p b := (by have z3 := z.2; rw [hb] at z3; exact z3); rw [biC_t z2] at h45; exact absurd h45 (by decide))]; rfl, rfl, trivial⟩ ?_
              exact ih _ (by omega) (p + 1) rfl (by omega)
            · refine go_iload_n hF d_Ci_firstGate_48 rfl ?_
              refine go_istore_n hF d_Ci_firstGate_49 (by decide) ?_
              refine go_lv (lv' := [(0, _), (1, _), (2, _)]) ⟨rfl, rfl, rfl, trivial⟩ ?_
              refine go_iincN hF d_Ci_firstGate_50 rfl (by decide) ?_
              refine go_lv (lv' := [(0, _), (1, _), (2, _)]) ⟨rfl, rfl, rfl, trivial⟩ ?_
              refine go_goto (tgt := 4) hF d_Ci_firstGate_53 (by decide) ?_
              refine go_lv (lv' := [(0, _), (1, .int (oI (gbs w ι (p + 1)))), (2, .int (nI (p + 1)))]) ⟨rfl, by rw [gbs_t ⟨h22, by rw [hb]; exact Classical.byContradiction (fun z => h45 (biC_f z))⟩]; rfl, rfl, trivial⟩ ?_
              exact ih _ (by omega) (p + 1) rfl (by omega)
  refine go_iconst (v := -1) hF d_Ci_firstGate_0 (by decide) ?_
  refine go_istore_n hF d_Ci_firstGate_1 (by decide) ?_
  refine go_lv (lv' := [(0, _), (1, _)]) ⟨rfl, rfl, trivial⟩ ?_
  refine go_iconst (v := 0) hF d_Ci_firstGate_2 (by decide) ?_
  refine go_istore_n hF d_Ci_firstGate_3 (by decide) ?_
  refine go_lv (lv' := [(0, _), (1, _), (2, _)]) ⟨rfl, rfl, rfl, trivial⟩ ?_
  exact L4 _ 0 rfl (Nat.zero_le _)
/-- how many of the first g gates of kinds 0 to 4 have another value than they give -/
def uns (w : wdT) (ι : Nat) : Nat → Nat
  | 0 => 0
  | g + 1 => if ¬ 4 < wI w 0 ι 14 0 g ∧ ¬ wI w 0 ι 14 6 g = gvn w ι g then uns w ι g + 1 else uns w ι g
theorem uns_s (w : wdT) (ι g : Nat) : uns w ι (g + 1) = if ¬ 4 < wI w 0 ι 14 0 g ∧ ¬ wI w 0 ι 14 6 g = gvn w ι g then uns w ι g + 1 else uns w ι g := rfl
set_option maxHeartbeats 4000000 in
set_option maxRecDepth 100000 in
theorem con_Ci_unsettled {l : Launch} (hlt : l.stackTraces = false) {E : gE} {B : bsT} {N : nwT} {w : wdT} {ι ng : Nat} (ho : N.1 0 ι = true) (hng : wI w 0 ι 0 4 0 = nI ng) (hgn : ng ≤ 32) (hab : ∀ g, g < ng → vn (wI w 0 ι 14 1 g) 24 ∧ vn (wI w 0 ι 14 2 g) 24) : Con l E y_Ci_unsettled (Cond.code y_Ci_unsettled c_Ci_unsettled 3 (some .int) :: gAll) rm_Ci_unsettled [.ref (ad B 0 ι 0 0)] (gw E B N w) (fun v H => v = some (.int (nI (uns w ι ng))) ∧ gw E B N w H) (fun _ _ => False) 0 0 := by
  refine con_of (by decide) hlt (Nat.le_of_ble_eq_true rfl) ?_
  intro F hF hM htab hnm hE hlo hl
  subst hl
  have hF : Fb F c_Ci_unsettled R_Ci 3 rm_Ci_unsettled := hF
  have hK := hE.1
  have hT := hE.2.1
  refine go_lv (lv' := [(0, _)]) ⟨rfl, trivial⟩ ?_
  have L4 : ∀ m p : Nat, ng - p = m → p ≤ ng → Go F 4 [(0, .ref (ad B 0 ι 0 0)), (1, .int (nI (uns w ι p))), (2, .int (nI p))] [] (gw E B N w) 0 0 := by
    intro m
    induction m using Nat.strongRecOn with
    | _ m ih =>
      intro p hm hp
      refine go_iload_n hF d_Ci_unsettled_4 rfl ?_
      refine go_aload_n hF d_Ci_unsettled_5 rfl ?_
      refine gs_geti hF hK d_Ci_unsettled_6 fl_Ci_57 ho rfl rfl (by decide) rfl ?_
      refine go_icmp_ge (tgt := 56) hF d_Ci_unsettled_9 (by decide) (fun h9 => ?_) (fun h9 => ?_)
      · refine go_iload_n hF d_Ci_unsettled_56 rfl ?_
        exact go_iret hF hM d_Ci_unsettled_57 (by decide) (by decide) (fun H hG => ⟨by rw [hng] at h9; have q := (nI_leI (a := ng) (b := p) (by omega) (by omega)).mp h9; have e : p = ng := (by omega); subst e; rfl, hG⟩)
      · have hp2 : p < ng := by
          rw [hng] at h9
          have q : ¬ ng ≤ p := fun z => h9 ((nI_leI (a := ng) (b := p) (by omega) (by omega)).mpr z)
          omega
        refine go_aload_n hF d_Ci_unsettled_12 rfl ?_
        refine gs_getr hF hK d_Ci_unsettled_13 fl_Ci_23 ho rfl rfl (by decide) rfl ?_
        refine go_iload_n hF d_Ci_unsettled_16 rfl ?_
        refine gs_aald hF hK hT d_Ci_unsettled_17 ho rfl rfl rfl (by omega) (by decide) ?_
        refine gs_geti hF hK d_Ci_unsettled_18 fl_Ci_100 ho rfl rfl (show _ < 32 from (by omega)) rfl ?_
        refine go_iconst (v := 4) hF d_Ci_unsettled_21 (by decide) ?_
        refine go_icmp_gt (tgt := 50) hF d_Ci_unsettled_22 (by decide) (fun h22 => ?_) (fun h22 => ?_)
        · refine go_iincN hF d_Ci_unsettled_50 rfl (by decide) ?_
          refine go_lv (lv' := [(0, _), (1, _), (2, _)]) ⟨rfl, rfl, rfl, trivial⟩ ?_
          refine go_goto (tgt := 4) hF d_Ci_unsettled_53 (by decide) ?_
          refine go_lv (lv' := [(0, _), (1, .int (nI (uns w ι (p + 1)))), (2, .int (nI (p + 1)))]) ⟨rfl, by rw [uns_s]; simp [h9, h22] <;> rfl, rfl, trivial⟩ ?_
          exact ih _ (by omega) (p + 1) rfl (by omega)
        · refine go_aload_n hF d_Ci_unsettled_25 rfl ?_
          refine gs_getr hF hK d_Ci_unsettled_26 fl_Ci_23 ho rfl rfl (by decide) rfl ?_
          refine go_iload_n hF d_Ci_unsettled_29 rfl ?_
          refine gs_aald hF hK hT d_Ci_unsettled_30 ho rfl rfl rfl (by omega) (by decide) ?_
          refine gs_geti hF hK d_Ci_unsettled_31 fl_Ci_103 ho rfl rfl (show _ < 32 from (by omega)) rfl ?_
          refine go_aload_n hF d_Ci_unsettled_34 rfl ?_
          refine go_aload_n hF d_Ci_unsettled_35 rfl ?_
          refine gs_getr hF hK d_Ci_unsettled_36 fl_Ci_23 ho rfl rfl (by decide) rfl ?_
          refine go_iload_n hF d_Ci_unsettled_39 rfl ?_
          refine gs_aald hF hK hT d_Ci_unsettled_40 ho rfl rfl rfl (by omega) (by decide) ?_
          refine go_callVX hF hE hlo d_Ci_unsettled_41 (con_Ci_given hlt ho (show p < 32 by omega) (hab p hp2).1 (hab p hp2).2) mt_Ci_given mv_Ci_given lk_Ci_91 ⟨rfl, rfl, by decide, by decide⟩ rfl (Nat.le_of_ble_eq_true rfl) ⟨by decide, by decide⟩ (fun H hG => gw_recv (q := (R_Ci, T_Ci, 10)) hK hG ho rfl rfl (by decide) rfl) (fun M => gx_no) rfl (fun v => ?_)
          refine go_and (fun hv => ?_)
          subst hv
          refine go_icmp_eq (tgt := 50) hF d_Ci_unsettled_44 (by decide) (fun h44 => ?_) (fun h44 => ?_)
          · refine go_iincN hF d_Ci_unsettled_50 rfl (by decide) ?_
            refine go_lv (lv' := [(0, _), (1, _), (2, _)]) ⟨rfl, rfl, rfl, trivial⟩ ?_
            refine go_goto (tgt := 4) hF d_Ci_unsettled_53 (by decide) ?_
            refine go_lv (lv' := [(0, _), (1, .int (nI (uns w ι (p + 1)))), (2, .int (nI (p + 1)))]) ⟨rfl, by rw [uns_s]; simp [h9, h22, h44] <;> rfl, rfl, trivial⟩ ?_
            exact ih _ (by omega) (p + 1) rfl (by omega)
          · refine go_iincN hF d_Ci_unsettled_47 rfl (by decide) ?_
            refine go_lv (lv' := [(0, _), (1, _), (2, _)]) ⟨rfl, rfl, rfl, trivial⟩ ?_
            refine go_iincN hF d_Ci_unsettled_50 rfl (by decide) ?_
            refine go_lv (lv' := [(0, _), (1, _), (2, _)]) ⟨rfl, rfl, rfl, trivial⟩ ?_
            refine go_goto (tgt := 4) hF d_Ci_unsettled_53 (by decide) ?_
            refine go_lv (lv' := [(0, _), (1, .int (nI (uns w ι (p + 1)))), (2, .int (nI (p + 1)))]) ⟨rfl, by rw [uns_s]; simp [h9, h22, h44] <;> rfl, rfl, trivial⟩ ?_
            exact ih _ (by omega) (p + 1) rfl (by omega)
  refine go_iconst (v := 0) hF d_Ci_unsettled_0 (by decide) ?_
  refine go_istore_n hF d_Ci_unsettled_1 (by decide) ?_
  refine go_lv (lv' := [(0, _), (1, _)]) ⟨rfl, rfl, trivial⟩ ?_
  refine go_iconst (v := 0) hF d_Ci_unsettled_2 (by decide) ?_
  refine go_istore_n hF d_Ci_unsettled_3 (by decide) ?_
  refine go_lv (lv' := [(0, _), (1, _), (2, _)]) ⟨rfl, rfl, rfl, trivial⟩ ?_
  exact L4 _ 0 rfl (Nat.zero_le _)
set_option maxHeartbeats 4000000 in
set_option maxRecDepth 100000 in
theorem con_Ci_isHandFirst {l : Launch} (hlt : l.stackTraces = false) {E : gE} {B : bsT} {N : nwT} {w : wdT} {ι : Nat} {h g : Option Nat} (ho : N.1 0 ι = true) (hh : ∀ b, h = some b → b < 100) (hg : ∀ b, g = some b → b < 32) : Con l E y_Ci_isHandFirst (Cond.code y_Ci_isHandFirst c_Ci_isHandFirst 7 (some .boolean) :: gAll) rm_Ci_isHandFirst [.ref (ad B 0 ι 0 0), .int (oI h), .int (oI g)] (gw E B N w) (fun v H => v = some (.int (biC (hfs w ι h g))) ∧ gw E B N w H) (fun _ _ => False) 0 0 := by
  refine con_of (by decide) hlt (Nat.le_of_ble_eq_true rfl) ?_
  intro F hF hM htab hnm hE hlo hl
  subst hl
  have hF : Fb F c_Ci_isHandFirst R_Ci 7 rm_Ci_isHandFirst := hF
  have hK := hE.1
  have hT := hE.2.1
  refine go_lv (lv' := [(0, _), (1, _), (2, _)]) ⟨rfl, rfl, rfl, trivial⟩ ?_
  refine go_iload_n hF d_Ci_isHandFirst_0 rfl ?_
  refine go_iconst (v := -1) hF d_Ci_isHandFirst_1 (by decide) ?_
  refine go_icmp_eq (tgt := 10) hF d_Ci_isHandFirst_2 (by decide) (fun h2 => ?_) (fun h2 => ?_)
  · refine go_iload_n hF d_Ci_isHandFirst_10 rfl ?_
    refine go_iconst (v := -1) hF d_Ci_isHandFirst_11 (by decide) ?_
    refine go_icmp_eq (tgt := 19) hF d_Ci_isHandFirst_12 (by decide) (fun h12 => ?_) (fun h12 => ?_)
    · refine go_iconst (v := 0) hF d_Ci_isHandFirst_19 (by decide) ?_
      exact go_zret hF hM d_Ci_isHandFirst_20 rfl (by decide) (by decide) (fun H hG => ⟨by rw [oI_none (fun b hb => by have := hh b hb; omega) h2, biC_f (show ¬ hfs w ι none g from fun z => z)], hG⟩)
    · refine go_iconst (v := 1) hF d_Ci_isHandFirst_15 (by decide) ?_
      refine go_goto (tgt := 20) hF d_Ci_isHandFirst_16 (by decide) ?_
      exact go_zret hF hM d_Ci_isHandFirst_20 rfl (by decide) (by decide) (fun H hG => absurd h2 h12)
  · refine go_iload_n hF d_Ci_isHandFirst_5 rfl ?_
    refine go_iconst (v := -1) hF d_Ci_isHandFirst_6 (by decide) ?_
    refine go_icmp_ne (tgt := 21) hF d_Ci_isHandFirst_7 (by decide) (fun h7 => ?_) (fun h7 => ?_)
    · obtain ⟨a, rfl⟩ := oI_some h2
      obtain ⟨b, rfl⟩ := oI_some h7
      have ha := hh a rfl
      have hb := hg b rfl
      refine go_aload_n hF d_Ci_isHandFirst_21 rfl ?_
      refine gs_getr hF hK d_Ci_isHandFirst_22 fl_Ci_36 ho rfl rfl (by decide) rfl ?_
      refine gs_getr hF hK d_Ci_isHandFirst_25 fl_Ci_117 ho rfl rfl (by decide) rfl ?_
      refine go_iload_n hF d_Ci_isHandFirst_28 rfl ?_
      refine gs_lald hF hK hT d_Ci_isHandFirst_29 ho rfl rfl rfl ha (by decide) ?_
      refine go_lstore_n hF d_Ci_isHandFirst_30 (by decide) ?_
      refine go_lv (lv' := [(0, _), (1, _), (2, _), (3, _)]) ⟨rfl, rfl, rfl, rfl, trivial⟩ ?_
      refine go_aload_n hF d_Ci_isHandFirst_31 rfl ?_
      refine gs_getr hF hK d_Ci_isHandFirst_32 fl_Ci_23 ho rfl rfl (by decide) rfl ?_
      refine go_iload_n hF d_Ci_isHandFirst_35 rfl ?_
      refine gs_aald hF hK hT d_Ci_isHandFirst_36 ho rfl rfl rfl hb (by decide) ?_
      refine gs_getl hF hK d_Ci_isHandFirst_37 fl_Ci_123 ho rfl rfl hb rfl ?_
      refine go_lstore hF d_Ci_isHandFirst_40 (by decide) ?_
      refine go_lv (lv' := [(0, _), (1, _), (2, _), (3, _), (5, _)]) ⟨rfl, rfl, rfl, rfl, rfl, trivial⟩ ?_
      refine go_lload_n hF d_Ci_isHandFirst_42 rfl ?_
      refine go_lload hF d_Ci_isHandFirst_43 rfl ?_
      refine go_lif_lt (tgt := 77) hF d_Ci_isHandFirst_45 d_Ci_isHandFirst_46 (by decide) (fun h45 => ?_) (fun h45 => ?_)
      · refine go_iconst (v := 1) hF d_Ci_isHandFirst_77 (by decide) ?_
        refine go_goto (tgt := 82) hF d_Ci_isHandFirst_78 (by decide) ?_
        exact go_zret hF hM d_Ci_isHandFirst_82 rfl (by decide) (by decide) (fun H hG => ⟨by first | (rw [biC_t (by simp only [hfs]; simp [h2, h7, h45])]; done) | (rw [biC_f (by simp only [hfs]; simp [h2, h7, h45])]; done), hG⟩)
      · refine go_lload_n hF d_Ci_isHandFirst_49 rfl ?_
        refine go_lload hF d_Ci_isHandFirst_50 rfl ?_
        refine go_lif_ne (tgt := 81) hF d_Ci_isHandFirst_52 d_Ci_isHandFirst_53 (by decide) (fun h52 => ?_) (fun h52 => ?_)
        · refine go_iconst (v := 0) hF d_Ci_isHandFirst_81 (by decide) ?_
          exact go_zret hF hM d_Ci_isHandFirst_82 rfl (by decide) (by decide) (fun H hG => ⟨by first | (rw [biC_t (by simp only [hfs]; simp [h2, h7, h45, h52])]; done) | (rw [biC_f (by simp only [hfs]; simp [h2, h7, h45, h52])]; done), hG⟩)
        · refine go_aload_n hF d_Ci_isHandFirst_56 rfl ?_
          refine gs_getr hF hK d_Ci_isHandFirst_57 fl_Ci_36 ho rfl rfl (by decide) rfl ?_
          refine gs_getr hF hK d_Ci_isHandFirst_60 fl_Ci_145 ho rfl rfl (by decide) rfl ?_
          refine go_iload_n hF d_Ci_isHandFirst_63 rfl ?_
          refine gs_iald hF hK hT d_Ci_isHandFirst_64 ho rfl rfl rfl ha (by decide) ?_
          refine go_aload_n hF d_Ci_isHandFirst_65 rfl ?_
          refine gs_getr hF hK d_Ci_isHandFirst_66 fl_Ci_23 ho rfl rfl (by decide) rfl ?_
          refine go_iload_n hF d_Ci_isHandFirst_69 rfl ?_
          refine gs_aald hF hK hT d_Ci_isHandFirst_70 ho rfl rfl rfl hb (by decide) ?_
          refine gs_geti hF hK d_Ci_isHandFirst_71 fl_Ci_130 ho rfl rfl hb rfl ?_
          refine go_icmp_gt (tgt := 81) hF d_Ci_isHandFirst_74 (by decide) (fun h74 => ?_) (fun h74 => ?_)
          · refine go_iconst (v := 0) hF d_Ci_isHandFirst_81 (by decide) ?_
            exact go_zret hF hM d_Ci_isHandFirst_82 rfl (by decide) (by decide) (fun H hG => ⟨by first | (rw [biC_t (by simp only [hfs]; simp [h2, h7, h45, h52, h74])]; done) | (rw [biC_f (by simp only [hfs]; simp [h2, h7, h45, h52, h74])]; done), hG⟩)
          · refine go_iconst (v := 1) hF d_Ci_isHandFirst_77 (by decide) ?_
            refine go_goto (tgt := 82) hF d_Ci_isHandFirst_78 (by decide) ?_
            exact go_zret hF hM d_Ci_isHandFirst_82 rfl (by decide) (by decide) (fun H hG => ⟨by first | (rw [biC_t (by simp only [hfs]; simp [h2, h7, h45, h52, h74])]; done) | (rw [biC_f (by simp only [hfs]; simp [h2, h7, h45, h52, h74])]; done), hG⟩)
    · refine go_iload_n hF d_Ci_isHandFirst_10 rfl ?_
      refine go_iconst (v := -1) hF d_Ci_isHandFirst_11 (by decide) ?_
      refine go_icmp_eq (tgt := 19) hF d_Ci_isHandFirst_12 (by decide) (fun h12 => ?_) (fun h12 => ?_)
      · refine go_iconst (v := 0) hF d_Ci_isHandFirst_19 (by decide) ?_
        exact go_zret hF hM d_Ci_isHandFirst_20 rfl (by decide) (by decide) (fun H hG => absurd h12 h2)
      · refine go_iconst (v := 1) hF d_Ci_isHandFirst_15 (by decide) ?_
        refine go_goto (tgt := 20) hF d_Ci_isHandFirst_16 (by decide) ?_
        exact go_zret hF hM d_Ci_isHandFirst_20 rfl (by decide) (by decide) (fun H hG => ⟨by obtain ⟨a, rfl⟩ := oI_some h2; rw [oI_none (fun b hb => by have := hg b hb; omega) h7, biC_t (show hfs w ι (some a) none from trivial)], hG⟩)
