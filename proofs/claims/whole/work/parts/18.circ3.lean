theorem ne_tI {x : Int32} {c : Int} (h : x ≠ Int32.ofInt c) : ¬ c = x.toInt := fun e => h (by rw [e]; exact (Int32.ofInt_toInt x).symm)
/-- hand event h comes: its net's hand or force -/
def thN (w : wdT) (ι h : Nat) : wdT :=
  if wI w 0 ι 5 0 h = 0 then sI w 0 ι 13 0 (wI w 0 ι 6 0 h).toNatClampNeg (wI w 0 ι 8 0 h)
  else if wI w 0 ι 5 0 h = 1 then sI w 0 ι 13 1 (wI w 0 ι 6 0 h).toNatClampNeg (wI w 0 ι 8 0 h)
  else sI w 0 ι 13 1 (wI w 0 ι 6 0 h).toNatClampNeg (-1)
def thW (w : wdT) (ι h nh : Nat) : wdT := dpW (thN w ι h) ι h nh
set_option maxHeartbeats 4000000 in
set_option maxRecDepth 100000 in
theorem con_Ci_takeHand {l : Launch} (hlt : l.stackTraces = false) {E : gE} {B : bsT} {N : nwT} {w : wdT} {ι h nh : Nat} (ho : N.1 0 ι = true) (hnh : wI w 0 ι 4 0 0 = nI nh) (hhn : nh ≤ 100) (hh : h < nh) (hv : vn (wI w 0 ι 6 0 h) 24) : Con l E y_Ci_takeHand (Cond.code y_Ci_takeHand c_Ci_takeHand 4 (some .int) :: gAll) rm_Ci_takeHand [.ref (ad B 0 ι 0 0), .int (nI h)] (gw E B N w) (fun v H => v = some (.int (wI w 0 ι 6 0 h)) ∧ gw E B N (thW w ι h nh) H) (fun _ _ => False) 0 0 := by
  refine con_of (by decide) hlt (Nat.le_of_ble_eq_true rfl) ?_
  intro F hF hM htab hnm hE hlo hl
  subst hl
  have hF : Fb F c_Ci_takeHand R_Ci 4 rm_Ci_takeHand := hF
  have hK := hE.1
  have hT := hE.2.1
  refine go_lv (lv' := [(0, _), (1, _)]) ⟨rfl, rfl, trivial⟩ ?_
  refine go_aload_n hF d_Ci_takeHand_0 rfl ?_
  refine gs_getr hF hK d_Ci_takeHand_1 fl_Ci_36 ho rfl rfl (by decide) rfl ?_
  refine gs_getr hF hK d_Ci_takeHand_4 fl_Ci_145 ho rfl rfl (by decide) rfl ?_
  refine go_iload_n hF d_Ci_takeHand_7 rfl ?_
  refine gs_iald hF hK hT d_Ci_takeHand_8 ho rfl rfl rfl (by omega) (by decide) ?_
  refine go_istore_n hF d_Ci_takeHand_9 (by decide) ?_
  refine go_lv (lv' := [(0, _), (1, _), (2, _)]) ⟨rfl, rfl, rfl, trivial⟩ ?_
  refine go_aload_n hF d_Ci_takeHand_10 rfl ?_
  refine gs_getr hF hK d_Ci_takeHand_11 fl_Ci_17 ho rfl rfl (by decide) rfl ?_
  refine go_iload_n hF d_Ci_takeHand_14 rfl ?_
  refine gs_aald hF hK hT d_Ci_takeHand_15 ho rfl rfl hv.1 hv.2 (by decide) ?_
  refine go_astore_n hF d_Ci_takeHand_16 (by decide) ?_
  refine go_lv (lv' := [(0, _), (1, _), (2, _), (3, _)]) ⟨rfl, rfl, rfl, rfl, trivial⟩ ?_
  refine go_aload_n hF d_Ci_takeHand_17 rfl ?_
  refine gs_getr hF hK d_Ci_takeHand_18 fl_Ci_36 ho rfl rfl (by decide) rfl ?_
  refine gs_getr hF hK d_Ci_takeHand_21 fl_Ci_148 ho rfl rfl (by decide) rfl ?_
  refine go_iload_n hF d_Ci_takeHand_24 rfl ?_
  refine gs_iald hF hK hT d_Ci_takeHand_25 ho rfl rfl rfl (by omega) (by decide) ?_
  refine go_topi (fun x26 hx26 => ?_)
  by_cases e26_0 : x26 = 0
  · rw [e26_0]
    refine go_lookup (off := 26) (tgt := 52) hF d_Ci_takeHand_26 (by decide) (by decide) (by decide) ?_
    refine go_aload_n hF d_Ci_takeHand_52 rfl ?_
    refine go_aload_n hF d_Ci_takeHand_53 rfl ?_
    refine gs_getr hF hK d_Ci_takeHand_54 fl_Ci_36 ho rfl rfl (by decide) rfl ?_
    refine gs_getr hF hK d_Ci_takeHand_57 fl_Ci_151 ho rfl rfl (by decide) rfl ?_
    refine go_iload_n hF d_Ci_takeHand_60 rfl ?_
    refine gs_iald hF hK hT d_Ci_takeHand_61 ho rfl rfl rfl (by omega) (by decide) ?_
    refine gs_puti hF hK hlo d_Ci_takeHand_62 fl_Ci_154 ct_Ne fs_Ne_0 ho rfl rfl hv.2 rfl rfl ?_
    refine go_goto (tgt := 89) hF d_Ci_takeHand_65 (by decide) ?_
    refine go_aload_n hF d_Ci_takeHand_89 rfl ?_
    refine gs_getr hF hK d_Ci_takeHand_90 fl_Ci_36 ho rfl rfl (by decide) rfl ?_
    refine go_iload_n hF d_Ci_takeHand_93 rfl ?_
    refine go_callVX hF hE hlo d_Ci_takeHand_94 (con_Ha_drop hlt ho (c := nh) (by simp only [rd_II, rd_LL, rd_PP, rd_IL, rd_IP, rd_LI, rd_LP, rd_PI, rd_PL, eq_self, true_and, and_true, false_and, and_false, if_true, if_false, reduceIte, reduceCtorEq, Nat.reduceEqDiff, Nat.one_ne_zero, Nat.zero_ne_one]; exact hnh) hhn hh) mt_Ha_drop mv_Ha_drop lk_Ci_160 ⟨rfl, rfl, by decide, by decide⟩ rfl (Nat.le_of_ble_eq_true rfl) ⟨by decide, by decide⟩ (fun H hG => gw_recv (q := (R_Ha, T_Ha, 5)) hK hG ho rfl rfl (by decide) rfl) (fun M => gx_no) rfl (fun v => ?_)
    refine go_and (fun hv => ?_)
    subst hv
    refine go_iload_n hF d_Ci_takeHand_97 rfl ?_
    exact go_iret hF hM d_Ci_takeHand_98 (by decide) (by decide) (fun H hG => ⟨rfl, by unfold thW thN; rw [if_pos (hx26.symm.trans e26_0)]; exact hG⟩)
  by_cases e26_1 : x26 = 1
  · rw [e26_1]
    refine go_lookup (off := 42) (tgt := 68) hF d_Ci_takeHand_26 (by decide) (by decide) (by decide) ?_
    refine go_aload_n hF d_Ci_takeHand_68 rfl ?_
    refine go_aload_n hF d_Ci_takeHand_69 rfl ?_
    refine gs_getr hF hK d_Ci_takeHand_70 fl_Ci_36 ho rfl rfl (by decide) rfl ?_
    refine gs_getr hF hK d_Ci_takeHand_73 fl_Ci_151 ho rfl rfl (by decide) rfl ?_
    refine go_iload_n hF d_Ci_takeHand_76 rfl ?_
    refine gs_iald hF hK hT d_Ci_takeHand_77 ho rfl rfl rfl (by omega) (by decide) ?_
    refine gs_puti hF hK hlo d_Ci_takeHand_78 fl_Ci_157 ct_Ne fs_Ne_1 ho rfl rfl hv.2 rfl rfl ?_
    refine go_goto (tgt := 89) hF d_Ci_takeHand_81 (by decide) ?_
    refine go_aload_n hF d_Ci_takeHand_89 rfl ?_
    refine gs_getr hF hK d_Ci_takeHand_90 fl_Ci_36 ho rfl rfl (by decide) rfl ?_
    refine go_iload_n hF d_Ci_takeHand_93 rfl ?_
    refine go_callVX hF hE hlo d_Ci_takeHand_94 (con_Ha_drop hlt ho (c := nh) (by simp only [rd_II, rd_LL, rd_PP, rd_IL, rd_IP, rd_LI, rd_LP, rd_PI, rd_PL, eq_self, true_and, and_true, false_and, and_false, if_true, if_false, reduceIte, reduceCtorEq, Nat.reduceEqDiff, Nat.one_ne_zero, Nat.zero_ne_one]; exact hnh) hhn hh) mt_Ha_drop mv_Ha_drop lk_Ci_160 ⟨rfl, rfl, by decide, by decide⟩ rfl (Nat.le_of_ble_eq_true rfl) ⟨by decide, by decide⟩ (fun H hG => gw_recv (q := (R_Ha, T_Ha, 5)) hK hG ho rfl rfl (by decide) rfl) (fun M => gx_no) rfl (fun v => ?_)
    refine go_and (fun hv => ?_)
    subst hv
    refine go_iload_n hF d_Ci_takeHand_97 rfl ?_
    exact go_iret hF hM d_Ci_takeHand_98 (by decide) (by decide) (fun H hG => ⟨rfl, by unfold thW thN; rw [if_neg (fun z => e26_0 (hx26.trans z)), if_pos (hx26.symm.trans e26_1)]; exact hG⟩)
  refine go_lookup (off := 58) (tgt := 84) hF d_Ci_takeHand_26 (by decide) (by show Op.lookupswitch.offset [(0, 26), (1, 42)] 58 x26.toInt = 58; rw [Op.lookupswitch.offset_cons, if_neg (ne_tI e26_0)]; rw [Op.lookupswitch.offset_cons, if_neg (ne_tI e26_1)]; rfl) (by decide) ?_
  refine go_aload_n hF d_Ci_takeHand_84 rfl ?_
  refine go_iconst (v := -1) hF d_Ci_takeHand_85 (by decide) ?_
  refine gs_puti hF hK hlo d_Ci_takeHand_86 fl_Ci_157 ct_Ne fs_Ne_1 ho rfl rfl hv.2 rfl rfl ?_
  refine go_aload_n hF d_Ci_takeHand_89 rfl ?_
  refine gs_getr hF hK d_Ci_takeHand_90 fl_Ci_36 ho rfl rfl (by decide) rfl ?_
  refine go_iload_n hF d_Ci_takeHand_93 rfl ?_
  refine go_callVX hF hE hlo d_Ci_takeHand_94 (con_Ha_drop hlt ho (c := nh) (by simp only [rd_II, rd_LL, rd_PP, rd_IL, rd_IP, rd_LI, rd_LP, rd_PI, rd_PL, eq_self, true_and, and_true, false_and, and_false, if_true, if_false, reduceIte, reduceCtorEq, Nat.reduceEqDiff, Nat.one_ne_zero, Nat.zero_ne_one]; exact hnh) hhn hh) mt_Ha_drop mv_Ha_drop lk_Ci_160 ⟨rfl, rfl, by decide, by decide⟩ rfl (Nat.le_of_ble_eq_true rfl) ⟨by decide, by decide⟩ (fun H hG => gw_recv (q := (R_Ha, T_Ha, 5)) hK hG ho rfl rfl (by decide) rfl) (fun M => gx_no) rfl (fun v => ?_)
  refine go_and (fun hv => ?_)
  subst hv
  refine go_iload_n hF d_Ci_takeHand_97 rfl ?_
  exact go_iret hF hM d_Ci_takeHand_98 (by decide) (by decide) (fun H hG => ⟨rfl, by unfold thW thN; rw [if_neg (fun z => e26_0 (hx26.trans z)), if_neg (fun z => e26_1 (hx26.trans z))]; exact hG⟩)
def anW (w : wdT) (ι nn : Nat) : wdT := sI (bnW w ι nn) 0 ι 0 2 0 (nI (nn + 1))
def acW (w : wdT) (ι nc : Nat) (kd ck dt lm : Int32) : wdT := sI (bcW w ι nc kd ck dt lm) 0 ι 0 6 0 (nI (nc + 1))
set_option maxHeartbeats 4000000 in
set_option maxRecDepth 100000 in
theorem con_Ci_addNet {l : Launch} (hlt : l.stackTraces = false) {E : gE} {B : bsT} {N : nwT} {w : wdT} {ι nn : Nat} (ho : N.1 0 ι = true) (hnn : wI w 0 ι 0 2 0 = nI nn) (hn : nn < 24) : Con l E y_Ci_addNet (Cond.code y_Ci_addNet c_Ci_addNet 1 (some .int) :: gAll) rm_Ci_addNet [.ref (ad B 0 ι 0 0)] (gw E B N w) (fun v H => v = some (.int (nI nn)) ∧ gw E B N (anW w ι nn) H) (fun _ _ => False) 0 0 := by
  refine con_of (by decide) hlt (Nat.le_of_ble_eq_true rfl) ?_
  intro F hF hM htab hnm hE hlo hl
  subst hl
  have hF : Fb F c_Ci_addNet R_Ci 1 rm_Ci_addNet := hF
  have hK := hE.1
  have hT := hE.2.1
  refine go_lv (lv' := [(0, _)]) ⟨rfl, trivial⟩ ?_
  refine go_aload_n hF d_Ci_addNet_0 rfl ?_
  refine gs_getr hF hK d_Ci_addNet_1 fl_Ci_17 ho rfl rfl (by decide) rfl ?_
  refine go_aload_n hF d_Ci_addNet_4 rfl ?_
  refine gs_geti hF hK d_Ci_addNet_5 fl_Ci_54 ho rfl rfl (by decide) rfl ?_
  refine gs_aald hF hK hT d_Ci_addNet_8 ho rfl rfl hnn hn (by decide) ?_
  refine go_callVX hF hE hlo d_Ci_addNet_9 (con_Ne_begin hlt ho hn) mt_Ne_begin mv_Ne_begin lk_Ci_81 ⟨rfl, rfl, by decide, by decide⟩ rfl (Nat.le_of_ble_eq_true rfl) ⟨by decide, by decide⟩ (fun H hG => gw_recv (q := (R_Ne, T_Ne, 6)) hK hG ho rfl rfl hn rfl) (fun M => gx_no) rfl (fun v => ?_)
  refine go_and (fun hv => ?_)
  subst hv
  have e : wI (bnW w ι nn) 0 ι 0 2 0 = nI nn := by unfold bnW; simp only [rd_II, rd_LL, rd_PP, rd_IL, rd_IP, rd_LI, rd_LP, rd_PI, rd_PL, eq_self, true_and, and_true, false_and, and_false, if_true, if_false, reduceIte, reduceCtorEq, Nat.reduceEqDiff, Nat.one_ne_zero, Nat.zero_ne_one]; exact hnn
  refine go_aload_n hF d_Ci_addNet_12 rfl ?_
  refine go_dup hF d_Ci_addNet_13 rfl ?_
  refine gs_geti hF hK d_Ci_addNet_14 fl_Ci_54 ho rfl rfl (by decide) rfl ?_
  refine go_iconst (v := 1) hF d_Ci_addNet_17 (by decide) ?_
  refine go_iadd hF d_Ci_addNet_18 ?_
  refine gs_puti hF hK hlo d_Ci_addNet_19 fl_Ci_54 ct_Ci fs_Ci_2 ho rfl rfl (by decide) rfl rfl ?_
  refine go_aload_n hF d_Ci_addNet_22 rfl ?_
  refine gs_geti hF hK d_Ci_addNet_23 fl_Ci_54 ho rfl rfl (by decide) rfl ?_
  refine go_iconst (v := 1) hF d_Ci_addNet_26 (by decide) ?_
  refine go_isub hF d_Ci_addNet_27 ?_
  exact go_iret hF hM d_Ci_addNet_28 (by decide) (by decide) (fun H hG => ⟨by simp only [rd_II, rd_LL, rd_PP, rd_IL, rd_IP, rd_LI, rd_LP, rd_PI, rd_PL, eq_self, true_and, and_true, false_and, and_false, if_true, if_false, reduceIte, reduceCtorEq, Nat.reduceEqDiff, Nat.one_ne_zero, Nat.zero_ne_one]; rw [e, nI_1, nI_pred], by rw [e, nI_1] at hG; exact hG⟩)
set_option maxHeartbeats 4000000 in
set_option maxRecDepth 100000 in
theorem con_Ci_addCheck {l : Launch} (hlt : l.stackTraces = false) {E : gE} {B : bsT} {N : nwT} {w : wdT} {ι nc : Nat} (ho : N.1 0 ι = true) (hnc : wI w 0 ι 0 6 0 = nI nc) (hn : nc < 20) (kd ck dt lm : Int32) : Con l E y_Ci_addCheck (Cond.code y_Ci_addCheck c_Ci_addCheck 5 (some .int) :: gAll) rm_Ci_addCheck [.ref (ad B 0 ι 0 0), .int kd, .int ck, .int dt, .int lm] (gw E B N w) (fun v H => v = some (.int (nI nc)) ∧ gw E B N (acW w ι nc kd ck dt lm) H) (fun _ _ => False) 0 0 := by
  refine con_of (by decide) hlt (Nat.le_of_ble_eq_true rfl) ?_
  intro F hF hM htab hnm hE hlo hl
  subst hl
  have hF : Fb F c_Ci_addCheck R_Ci 5 rm_Ci_addCheck := hF
  have hK := hE.1
  have hT := hE.2.1
  refine go_lv (lv' := [(0, _), (1, _), (2, _), (3, _), (4, _)]) ⟨rfl, rfl, rfl, rfl, rfl, trivial⟩ ?_
  refine go_aload_n hF d_Ci_addCheck_0 rfl ?_
  refine gs_getr hF hK d_Ci_addCheck_1 fl_Ci_29 ho rfl rfl (by decide) rfl ?_
  refine go_aload_n hF d_Ci_addCheck_4 rfl ?_
  refine gs_geti hF hK d_Ci_addCheck_5 fl_Ci_60 ho rfl rfl (by decide) rfl ?_
  refine gs_aald hF hK hT d_Ci_addCheck_8 ho rfl rfl hnc hn (by decide) ?_
  refine go_iload_n hF d_Ci_addCheck_9 rfl ?_
  refine go_iload_n hF d_Ci_addCheck_10 rfl ?_
  refine go_iload_n hF d_Ci_addCheck_11 rfl ?_
  refine go_iload hF d_Ci_addCheck_12 rfl ?_
  refine go_callVX hF hE hlo d_Ci_addCheck_14 (con_Ch_begin hlt ho hn _ _ _ _) mt_Ch_begin mv_Ch_begin lk_Ci_99 ⟨rfl, rfl, by decide, by decide⟩ rfl (Nat.le_of_ble_eq_true rfl) ⟨by decide, by decide⟩ (fun H hG => gw_recv (q := (R_Ch, T_Ch, 5)) hK hG ho rfl rfl hn rfl) (fun M => gx_no) rfl (fun v => ?_)
  refine go_and (fun hv => ?_)
  subst hv
  have e : wI (bcW w ι nc kd ck dt lm) 0 ι 0 6 0 = nI nc := by unfold bcW; simp only [rd_II, rd_LL, rd_PP, rd_IL, rd_IP, rd_LI, rd_LP, rd_PI, rd_PL, eq_self, true_and, and_true, false_and, and_false, if_true, if_false, reduceIte, reduceCtorEq, Nat.reduceEqDiff, Nat.one_ne_zero, Nat.zero_ne_one]; exact hnc
  refine go_aload_n hF d_Ci_addCheck_17 rfl ?_
  refine go_dup hF d_Ci_addCheck_18 rfl ?_
  refine gs_geti hF hK d_Ci_addCheck_19 fl_Ci_60 ho rfl rfl (by decide) rfl ?_
  refine go_iconst (v := 1) hF d_Ci_addCheck_22 (by decide) ?_
  refine go_iadd hF d_Ci_addCheck_23 ?_
  refine gs_puti hF hK hlo d_Ci_addCheck_24 fl_Ci_60 ct_Ci fs_Ci_6 ho rfl rfl (by decide) rfl rfl ?_
  refine go_aload_n hF d_Ci_addCheck_27 rfl ?_
  refine gs_geti hF hK d_Ci_addCheck_28 fl_Ci_60 ho rfl rfl (by decide) rfl ?_
  refine go_iconst (v := 1) hF d_Ci_addCheck_31 (by decide) ?_
  refine go_isub hF d_Ci_addCheck_32 ?_
  exact go_iret hF hM d_Ci_addCheck_33 (by decide) (by decide) (fun H hG => ⟨by simp only [rd_II, rd_LL, rd_PP, rd_IL, rd_IP, rd_LI, rd_LP, rd_PI, rd_PL, eq_self, true_and, and_true, false_and, and_false, if_true, if_false, reduceIte, reduceCtorEq, Nat.reduceEqDiff, Nat.one_ne_zero, Nat.zero_ne_one]; rw [e, nI_1, nI_pred], by rw [e, nI_1] at hG; exact hG⟩)
/-- what bringing a net up to date leaves alone -/
def qr (w w' : wdT) (ι : Nat) : Prop :=
  (∀ κ ι' r k i, ¬ (κ = 0 ∧ ι' = ι ∧ (r = 14 ∧ (k = 7 ∨ k = 9) ∨ r = 15 ∧ k = 4 ∨ 9 ≤ r ∧ r ≤ 12 ∨ r = 13 ∧ k = 2)) → wI w' κ ι' r k i = wI w κ ι' r k i) ∧
  (∀ κ ι' r k i, ¬ (κ = 0 ∧ ι' = ι ∧ (r = 14 ∧ (k = 8 ∨ k = 10) ∨ r = 13 ∧ 3 ≤ k ∧ k ≤ 5)) → wL w' κ ι' r k i = wL w κ ι' r k i) ∧ wP w' = wP w
theorem qr_rf (w : wdT) (ι : Nat) : qr w w ι := ⟨fun _ _ _ _ _ _ => rfl, fun _ _ _ _ _ _ => rfl, rfl⟩
theorem qr_tr {w u v : wdT} {ι : Nat} (h : qr w u ι) (h' : qr u v ι) : qr w v ι := ⟨fun κ ι' r k i q => (h'.1 κ ι' r k i q).trans (h.1 κ ι' r k i q), fun κ ι' r k i q => (h'.2.1 κ ι' r k i q).trans (h.2.1 κ ι' r k i q), h'.2.2.trans h.2.2⟩
theorem qr_qc {w u : wdT} {ι : Nat} (h : qc w u ι) : qr w u ι := ⟨fun κ ι' r k i q => h.1 κ ι' r k i (fun z => q ⟨z.1, z.2.1, z.2.2.elim Or.inl (fun y => Or.inr (Or.inl y))⟩), fun κ ι' r k i q => h.2.1 κ ι' r k i (fun z => q ⟨z.1, z.2.1, Or.inl z.2.2⟩), h.2.2⟩
theorem qr_L (w : wdT) (ι k q : Nat) (x : Int64) (hk : 3 ≤ k ∧ k ≤ 5) : qr w (sL w 0 ι 13 k q x) ι := ⟨fun _ _ _ _ _ _ => rfl, fun κ ι' r k' i q => up5_ne _ _ (fun z => q ⟨z.1, z.2.1, Or.inr ⟨z.2.2.1, by rw [z.2.2.2.1]; exact hk⟩⟩), rfl⟩
theorem rf2_P (w : wdT) (ι q nk : Nat) (a : Int32) : wP (rf2 w ι q nk a) = wP w := by
  unfold rf2 kpW
  split <;> rfl
theorem qr_rf2 (w : wdT) (ι q nk : Nat) (a : Int32) : qr w (rf2 w ι q nk a) ι :=
  ⟨fun κ ι' r k i h => rf2_I w ι q nk a κ ι' r k i (by omega), fun κ ι' r k i h => rf2_L w ι q nk a κ ι' r k i (by omega), rf2_P w ι q nk a⟩
theorem qr_rf5 (u : wdT) (ι q ng nc : Nat) (r : Int32) : qr u (rf5 u ι q ng nc r) ι := by
  unfold rf5
  split
  · exact qr_tr (qr_qc (qc_tc _ _ _ _ _ _)) (qr_L _ _ _ _ _ (by omega))
  · exact qr_tr (qr_tr (qr_qc (qc_tc _ _ _ _ _ _)) (qr_L _ _ _ _ _ (by omega))) (qr_L _ _ _ _ _ (by omega))
theorem qr_rfW (w : wdT) (ι q ng nc nk : Nat) : qr w (rfW w ι q ng nc nk) ι := by
  unfold rfW
  split
  · exact qr_rf w ι
  · exact qr_tr (qr_tr (qr_rf2 _ _ _ _ _) (qr_qc (qc_qk (qk_as _ _ _ _ _)))) (qr_rf5 _ _ _ _ _ _)
/-- how many changes are kept behind it -/
theorem rfW_kept (w : wdT) (ι q ng nc nk : Nat) (h : wI w 0 ι 9 0 0 = nI nk) (hk : nk ≤ 600) : ∃ n, wI (rfW w ι q ng nc nk) 0 ι 9 0 0 = nI n ∧ n ≤ 600 := by
  unfold rfW
  split
  · exact ⟨nk, h, hk⟩
  · have e1 : ∀ (u : wdT) (r : Int32), wI (rf5 u ι q ng nc r) 0 ι 9 0 0 = wI u 0 ι 9 0 0 := by
      intro u r
      have hq := (qc_tc u ι ng (nI q) r nc).1 0 ι 9 0 0 (by simp)
      unfold rf5
      split <;> exact hq
    have e2 := fun u r => (qk_as u ι (nI q) r ng).1 0 ι 9 0 0 (by simp)
    rw [e1, e2]
    unfold rf2 kpW
    split
    · exact ⟨nk + 1, by simp only [rd_II, rd_LL, rd_PP, rd_IL, rd_IP, rd_LI, rd_LP, rd_PI, rd_PL, eq_self, true_and, and_true, false_and, and_false, if_true, if_false, reduceIte, reduceCtorEq, Nat.reduceEqDiff, Nat.one_ne_zero, Nat.zero_ne_one], by omega⟩
    · exact ⟨nk, by simp only [rd_II, rd_LL, rd_PP, rd_IL, rd_IP, rd_LI, rd_LP, rd_PI, rd_PL, eq_self, true_and, and_true, false_and, and_false, if_true, if_false, reduceIte, reduceCtorEq, Nat.reduceEqDiff, Nat.one_ne_zero, Nat.zero_ne_one]; exact h, hk⟩
