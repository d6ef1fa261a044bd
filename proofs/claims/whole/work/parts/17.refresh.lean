/-- gate g hears that net n took another value (r: it became 1 from 0) -/
abbrev hrs (w : wdT) (ι g : Nat) (n r : Int32) : Prop := (wI w 0 ι 14 0 g = 7 ∧ wI w 0 ι 14 2 g = n ∧ ¬ r = 0) ∨ (¬ wI w 0 ι 14 0 g = 7 ∧ (wI w 0 ι 14 1 g = n ∨ wI w 0 ι 14 2 g = n))
/-- the first g gates that hear it are asked -/
def asW (w : wdT) (ι : Nat) (n r : Int32) : Nat → wdT
  | 0 => w
  | g + 1 => if hrs (asW w ι n r g) ι g n r then askW (asW w ι n r g) ι g (gvn (asW w ι n r g) ι g) (wL (asW w ι n r g) 0 ι 0 0 0) (wI (asW w ι n r g) 0 ι 0 1 0) else asW w ι n r g
theorem asW_s (w : wdT) (ι : Nat) (n r : Int32) (g : Nat) : asW w ι n r (g + 1) = if hrs (asW w ι n r g) ι g n r then askW (asW w ι n r g) ι g (gvn (asW w ι n r g) ι g) (wL (asW w ι n r g) 0 ι 0 0 0) (wI (asW w ι n r g) 0 ι 0 1 0) else asW w ι n r g := rfl
theorem qk_as (w : wdT) (ι : Nat) (n r : Int32) : ∀ g, qk w (asW w ι n r g) ι
  | 0 => qk_rf w ι
  | g + 1 => by
    rw [asW_s]
    split
    · exact qk_tr (qk_as w ι n r g) (qk_ask _ _ _ _ _ _)
    · exact qk_as w ι n r g
/-- the value that drives or is forced upon net q -/
def aft (w : wdT) (ι q ng : Nat) : Int32 := if wI w 0 ι 13 1 q = -1 then drj w ι q ng else wI w 0 ι 13 1 q
/-- net q shows a, one change more, kept -/
def rf2 (w : wdT) (ι q nk : Nat) (a : Int32) : wdT := kpW (sL (sI w 0 ι 13 2 q a) 0 ι 13 3 q (wL w 0 ι 13 3 q + 1)) ι nk (wL w 0 ι 0 0 0) (nI q) a
theorem rf2_I (w : wdT) (ι q nk : Nat) (a : Int32) (κ ι' r k i : Nat) (h : ¬ (κ = 0 ∧ ι' = ι ∧ (9 ≤ r ∧ r ≤ 12 ∨ r = 13 ∧ k = 2))) : wI (rf2 w ι q nk a) κ ι' r k i = wI w κ ι' r k i := by
  unfold rf2 kpW
  split
  · simp only [rd_II, rd_IL]
    rw [if_neg (by omega), if_neg (by omega), if_neg (by omega), if_neg (by omega), if_neg (by omega)]
  · simp only [rd_II, rd_IL]
    rw [if_neg (by omega)]
theorem rf2_L (w : wdT) (ι q nk : Nat) (a : Int32) (κ ι' r k i : Nat) (h : ¬ (κ = 0 ∧ ι' = ι ∧ r = 13 ∧ k = 3)) : wL (rf2 w ι q nk a) κ ι' r k i = wL w κ ι' r k i := by
  unfold rf2 kpW
  split
  · simp only [rd_LL, rd_LI]
    rw [if_neg (by omega)]
  · simp only [rd_LL, rd_LI]
    rw [if_neg (by omega)]
/-- what comes behind the gates that hear it: checks, and the times are noted -/
noncomputable def rf5 (u : wdT) (ι q ng nc : Nat) (r : Int32) : wdT :=
  if r = 0 then sL (tcW u ι ng (nI q) r nc) 0 ι 13 4 q (wL (tcW u ι ng (nI q) r nc) 0 ι 0 0 0)
  else sL (sL (tcW u ι ng (nI q) r nc) 0 ι 13 4 q (wL (tcW u ι ng (nI q) r nc) 0 ι 0 0 0)) 0 ι 13 5 q (wL (sL (tcW u ι ng (nI q) r nc) 0 ι 13 4 q (wL (tcW u ι ng (nI q) r nc) 0 ι 0 0 0)) 0 ι 0 0 0)
def rse (w : wdT) (ι q : Nat) (a : Int32) : Int32 := bi (wI w 0 ι 13 2 q = 0 ∧ a = 1)
/-- net q is brought up to date -/
noncomputable def rfW (w : wdT) (ι q ng nc nk : Nat) : wdT :=
  if aft w ι q ng = wI w 0 ι 13 2 q then w
  else rf5 (asW (rf2 w ι q nk (aft w ι q ng)) ι (nI q) (rse w ι q (aft w ι q ng)) ng) ι q ng nc (rse w ι q (aft w ι q ng))
set_option maxHeartbeats 4000000 in
set_option maxRecDepth 100000 in
theorem con_Ci_refresh {l : Launch} (hlt : l.stackTraces = false) {E : gE} {B : bsT} {N : nwT} {w : wdT} {ι ng nc nk q : Nat} (ho : N.1 0 ι = true) (hq : q < 24) (hng : wI w 0 ι 0 4 0 = nI ng) (hgn : ng ≤ 32) (hnc : wI w 0 ι 0 6 0 = nI nc) (hcn : nc ≤ 20) (hcd : ∀ c, c < nc → vn (wI w 0 ι 15 1 c) 24 ∧ vn (wI w 0 ι 15 2 c) 24) (hab : ∀ g, g < ng → vn (wI w 0 ι 14 1 g) 24 ∧ vn (wI w 0 ι 14 2 g) 24) (hnk : wI w 0 ι 9 0 0 = nI nk) (hkn : nk ≤ 600) : Con l E y_Ci_refresh (Cond.code y_Ci_refresh c_Ci_refresh 7 none :: gAll) rm_Ci_refresh [.ref (ad B 0 ι 0 0), .int (nI q)] (gw E B N w) (fun v H => v = none ∧ gw E B N (rfW w ι q ng nc nk) H) (fun _ _ => False) 0 0 := by
  refine con_of (by decide) hlt (Nat.le_of_ble_eq_true rfl) ?_
  intro F hF hM htab hnm hE hlo hl
  subst hl
  have hF : Fb F c_Ci_refresh R_Ci 7 rm_Ci_refresh := hF
  have hK := hE.1
  have hT := hE.2.1
  refine go_lv (lv' := [(0, _), (1, _)]) ⟨rfl, rfl, trivial⟩ ?_
  have L91 : ∀ (a r : Int32), a = aft w ι q ng → ¬ a = wI w 0 ι 13 2 q → r = rse w ι q a → ∀ m p : Nat, ng - p = m → p ≤ ng → Go F 91 [(0, .ref (ad B 0 ι 0 0)), (1, .int (nI q)), (2, .ref (ad B 0 ι 13 q)), (3, .int (wI w 0 ι 13 2 q)), (4, .int a), (5, .int r), (6, .int (nI p))] [] (gw E B N (asW (rf2 w ι q nk a) ι (nI q) r p)) 0 0 := by
    intro a r ja jn jr m
    induction m using Nat.strongRecOn with
    | _ m ih =>
      intro p hm hp
      have hcc : wI (asW (rf2 w ι q nk a) ι (nI q) r p) 0 ι 0 4 0 = nI ng := (((qk_as (rf2 w ι q nk a) ι (nI q) r p).1 0 ι 0 4 0 (by simp)).trans (rf2_I w ι q nk a 0 ι 0 4 0 (by omega))).trans hng
      refine go_iload hF d_Ci_refresh_91 rfl ?_
      refine go_aload_n hF d_Ci_refresh_93 rfl ?_
      refine gs_geti hF hK d_Ci_refresh_94 fl_Ci_57 ho rfl rfl (by decide) rfl ?_
      refine go_icmp_ge (tgt := 151) hF d_Ci_refresh_97 (by decide) (fun h97 => ?_) (fun h97 => ?_)
      · rw [hcc] at h97
        have z := (nI_leI (a := ng) (b := p) (by omega) (by omega)).mp h97
        have e : p = ng := by omega
        subst e
        refine go_aload_n hF d_Ci_refresh_151 rfl ?_
        refine go_iload_n hF d_Ci_refresh_152 rfl ?_
        refine go_iload hF d_Ci_refresh_153 rfl ?_
        refine go_callVX hF hE hlo d_Ci_refresh_155 (con_Ci_tryChecks (ng := p) (nc := nc) hlt ho hcc hgn ((((qk_as (rf2 w ι q nk a) ι (nI q) r p).1 0 ι 0 6 0 (by simp)).trans (rf2_I w ι q nk a 0 ι 0 6 0 (by omega))).trans hnc) hcn (fun c hc => by rw [((qk_as (rf2 w ι q nk a) ι (nI q) r p).1 0 ι 15 1 c (by simp)).trans (rf2_I w ι q nk a 0 ι 15 1 c (by omega)), ((qk_as (rf2 w ι q nk a) ι (nI q) r p).1 0 ι 15 2 c (by simp)).trans (rf2_I w ι q nk a 0 ι 15 2 c (by omega))]; exact hcd c hc) (nI q) r) mt_Ci_tryChecks mv_Ci_tryChecks lk_Ci_180 ⟨rfl, rfl, by decide, by decide⟩ rfl (Nat.le_of_ble_eq_true rfl) ⟨by decide, by decide⟩ (fun H hG => gw_recv (q := (R_Ci, T_Ci, 10)) hK hG ho rfl rfl (by decide) rfl) (fun M => gx_no) rfl (fun v => ?_)
        refine go_and (fun hv => ?_)
        subst hv
        refine go_aload_n hF d_Ci_refresh_158 rfl ?_
        refine go_aload_n hF d_Ci_refresh_159 rfl ?_
        refine gs_getl hF hK d_Ci_refresh_160 fl_Ci_50 ho rfl rfl (by decide) rfl ?_
        refine gs_putl hF hK hlo d_Ci_refresh_163 fl_Ci_184 ct_Ne fs_Ne_4 ho rfl rfl hq rfl rfl ?_
        refine go_iload hF d_Ci_refresh_166 rfl ?_
        refine go_if_eq (tgt := 179) hF d_Ci_refresh_168 (by decide) (fun h168 => ?_) (fun h168 => ?_)
        · exact go_vret hF hM d_Ci_refresh_179 (by decide) (by decide) (fun H hG => ⟨rfl, by subst jr; subst ja; unfold rfW rf5; rw [if_neg jn, if_pos h168]; exact hG⟩)
        · refine go_aload_n hF d_Ci_refresh_171 rfl ?_
          refine go_aload_n hF d_Ci_refresh_172 rfl ?_
          refine gs_getl hF hK d_Ci_refresh_173 fl_Ci_50 ho rfl rfl (by decide) rfl ?_
          refine gs_putl hF hK hlo d_Ci_refresh_176 fl_Ci_187 ct_Ne fs_Ne_5 ho rfl rfl hq rfl rfl ?_
          exact go_vret hF hM d_Ci_refresh_179 (by decide) (by decide) (fun H hG => ⟨rfl, by subst jr; subst ja; unfold rfW rf5; rw [if_neg jn, if_neg h168]; exact hG⟩)
      · have hp2 : p < ng := by
          rw [hcc] at h97
          have z : ¬ ng ≤ p := fun z => h97 ((nI_leI (a := ng) (b := p) (by omega) (by omega)).mpr z)
          omega
        have e1 := ((qk_as (rf2 w ι q nk a) ι (nI q) r p).1 0 ι 14 1 p (by simp)).trans (rf2_I w ι q nk a 0 ι 14 1 p (by omega))
        have e2 := ((qk_as (rf2 w ι q nk a) ι (nI q) r p).1 0 ι 14 2 p (by simp)).trans (rf2_I w ι q nk a 0 ι 14 2 p (by omega))
        refine go_aload_n hF d_Ci_refresh_100 rfl ?_
        refine gs_getr hF hK d_Ci_refresh_101 fl_Ci_23 ho rfl rfl (by decide) rfl ?_
        refine go_iload hF d_Ci_refresh_104 rfl ?_
        refine gs_aald hF hK hT d_Ci_refresh_106 ho rfl rfl rfl (by omega) (by decide) ?_
        refine go_iload_n hF d_Ci_refresh_107 rfl ?_
        refine go_iload hF d_Ci_refresh_108 rfl ?_
        refine go_callVX hF hE hlo d_Ci_refresh_110 (con_Ga_hears hlt ho (show p < 32 by omega) _ _) mt_Ga_hears mv_Ga_hears lk_Ci_176 ⟨rfl, rfl, by decide, by decide⟩ rfl (Nat.le_of_ble_eq_true rfl) ⟨by decide, by decide⟩ (fun H hG => gw_recv (q := (R_Ga, T_Ga, 11)) hK hG ho rfl rfl (show _ < 32 from (by omega)) rfl) (fun M => gx_no) rfl (fun v => ?_)
        refine go_and (fun hv => ?_)
        subst hv
        refine go_if_eq (tgt := 145) hF d_Ci_refresh_113 (by decide) (fun h113 => ?_) (fun h113 => ?_)
        · refine go_iincN hF d_Ci_refresh_145 rfl (by decide) ?_
          refine go_lv (lv' := [(0, _), (1, _), (2, _), (3, _), (4, _), (5, _), (6, _)]) ⟨rfl, rfl, rfl, rfl, rfl, rfl, rfl, trivial⟩ ?_
          refine go_goto (tgt := 91) hF d_Ci_refresh_148 (by decide) ?_
          refine go_lv (lv' := [(0, _), (1, _), (2, _), (3, _), (4, _), (5, _), (6, _)]) ⟨rfl, rfl, rfl, rfl, rfl, rfl, rfl, trivial⟩ ?_
          exact go_G (fun H hG => by rw [asW_s, if_neg (bi_0 h113)]; exact hG) (ih _ (by omega) (p + 1) rfl (by omega))
        · refine go_aload_n hF d_Ci_refresh_116 rfl ?_
          refine gs_getr hF hK d_Ci_refresh_117 fl_Ci_23 ho rfl rfl (by decide) rfl ?_
          refine go_iload hF d_Ci_refresh_120 rfl ?_
          refine gs_aald hF hK hT d_Ci_refresh_122 ho rfl rfl rfl (by omega) (by decide) ?_
          refine go_aload_n hF d_Ci_refresh_123 rfl ?_
          refine go_aload_n hF d_Ci_refresh_124 rfl ?_
          refine gs_getr hF hK d_Ci_refresh_125 fl_Ci_23 ho rfl rfl (by decide) rfl ?_
          refine go_iload hF d_Ci_refresh_128 rfl ?_
          refine gs_aald hF hK hT d_Ci_refresh_130 ho rfl rfl rfl (by omega) (by decide) ?_
          refine go_callVX hF hE hlo d_Ci_refresh_131 (con_Ci_given hlt ho (show p < 32 by omega) (by rw [e1]; exact (hab p hp2).1) (by rw [e2]; exact (hab p hp2).2)) mt_Ci_given mv_Ci_given lk_Ci_91 ⟨rfl, rfl, by decide, by decide⟩ rfl (Nat.le_of_ble_eq_true rfl) ⟨by decide, by decide⟩ (fun H hG => gw_recv (q := (R_Ci, T_Ci, 10)) hK hG ho rfl rfl (by decide) rfl) (fun M => gx_no) rfl (fun v => ?_)
          refine go_and (fun hv => ?_)
          subst hv
          refine go_aload_n hF d_Ci_refresh_134 rfl ?_
          refine gs_getl hF hK d_Ci_refresh_135 fl_Ci_50 ho rfl rfl (by decide) rfl ?_
          refine go_aload_n hF d_Ci_refresh_138 rfl ?_
          refine gs_geti hF hK d_Ci_refresh_139 fl_Ci_9 ho rfl rfl (by decide) rfl ?_
          refine go_callVX hF hE hlo d_Ci_refresh_142 (con_Ga_ask hlt ho (show p < 32 by omega) _ _ _) mt_Ga_ask mv_Ga_ask lk_Ci_95 ⟨rfl, rfl, by decide, by decide⟩ rfl (Nat.le_of_ble_eq_true rfl) ⟨by decide, by decide⟩ (fun H hG => gw_recv (q := (R_Ga, T_Ga, 11)) hK hG ho rfl rfl (show _ < 32 from (by omega)) rfl) (fun M => gx_no) rfl (fun v => ?_)
          refine go_and (fun hv => ?_)
          subst hv
          refine go_iincN hF d_Ci_refresh_145 rfl (by decide) ?_
          refine go_lv (lv' := [(0, _), (1, _), (2, _), (3, _), (4, _), (5, _), (6, _)]) ⟨rfl, rfl, rfl, rfl, rfl, rfl, rfl, trivial⟩ ?_
          refine go_goto (tgt := 91) hF d_Ci_refresh_148 (by decide) ?_
          refine go_lv (lv' := [(0, _), (1, _), (2, _), (3, _), (4, _), (5, _), (6, _)]) ⟨rfl, rfl, rfl, rfl, rfl, rfl, rfl, trivial⟩ ?_
          exact go_G (fun H hG => by rw [asW_s, if_pos (bi_1 h113)]; exact hG) (ih _ (by omega) (p + 1) rfl (by omega))
  have J86 : ∀ (a r : Int32), a = aft w ι q ng → ¬ a = wI w 0 ι 13 2 q → r = rse w ι q a → Go F 86 [(0, .ref (ad B 0 ι 0 0)), (1, .int (nI q)), (2, .ref (ad B 0 ι 13 q)), (3, .int (wI w 0 ι 13 2 q)), (4, .int a)] [.int r] (gw E B N (rf2 w ι q nk a)) 0 0 := by
    intro a r ja jn jr
    refine go_istore hF d_Ci_refresh_86 (by decide) ?_
    refine go_lv (lv' := [(0, _), (1, _), (2, _), (3, _), (4, _), (5, _)]) ⟨rfl, rfl, rfl, rfl, rfl, rfl, trivial⟩ ?_
    refine go_iconst (v := 0) hF d_Ci_refresh_88 (by decide) ?_
    refine go_istore hF d_Ci_refresh_89 (by decide) ?_
    refine go_lv (lv' := [(0, _), (1, _), (2, _), (3, _), (4, _), (5, _), (6, _)]) ⟨rfl, rfl, rfl, rfl, rfl, rfl, rfl, trivial⟩ ?_
    exact L91 a r ja jn jr _ 0 rfl (Nat.zero_le _)
  have J32 : ∀ a : Int32, a = aft w ι q ng → Go F 32 [(0, .ref (ad B 0 ι 0 0)), (1, .int (nI q)), (2, .ref (ad B 0 ι 13 q)), (3, .int (wI w 0 ι 13 2 q))] [.int a] (gw E B N w) 0 0 := by
    intro a ja
    refine go_istore hF d_Ci_refresh_32 (by decide) ?_
    refine go_lv (lv' := [(0, _), (1, _), (2, _), (3, _), (4, _)]) ⟨rfl, rfl, rfl, rfl, rfl, trivial⟩ ?_
    refine go_iload hF d_Ci_refresh_34 rfl ?_
    refine go_iload_n hF d_Ci_refresh_36 rfl ?_
    refine go_icmp_ne (tgt := 41) hF d_Ci_refresh_37 (by decide) (fun h37 => ?_) (fun h37 => ?_)
    · refine go_aload_n hF d_Ci_refresh_41 rfl ?_
      refine go_iload hF d_Ci_refresh_42 rfl ?_
      refine gs_puti hF hK hlo d_Ci_refresh_44 fl_Ci_163 ct_Ne fs_Ne_2 ho rfl rfl hq rfl rfl ?_
      refine go_aload_n hF d_Ci_refresh_47 rfl ?_
      refine go_dup hF d_Ci_refresh_48 rfl ?_
      refine gs_getl hF hK d_Ci_refresh_49 fl_Ci_169 ho rfl rfl hq rfl ?_
      refine go_lconst (v := 1) hF d_Ci_refresh_52 (by decide) ?_
      refine go_ladd hF d_Ci_refresh_53 ?_
      refine gs_putl hF hK hlo d_Ci_refresh_54 fl_Ci_169 ct_Ne fs_Ne_3 ho rfl rfl hq rfl rfl ?_
      refine go_aload_n hF d_Ci_refresh_57 rfl ?_
      refine gs_getr hF hK d_Ci_refresh_58 fl_Ci_43 ho rfl rfl (by decide) rfl ?_
      refine go_aload_n hF d_Ci_refresh_61 rfl ?_
      refine gs_getl hF hK d_Ci_refresh_62 fl_Ci_50 ho rfl rfl (by decide) rfl ?_
      refine go_iload_n hF d_Ci_refresh_65 rfl ?_
      refine go_iload hF d_Ci_refresh_66 rfl ?_
      refine go_callVX hF hE hlo d_Ci_refresh_68 (con_Wa_keep hlt ho (c := nk) (by simp only [rd_II, rd_LL, rd_PP, rd_IL, rd_IP, rd_LI, rd_LP, rd_PI, rd_PL, eq_self, true_and, and_true, false_and, and_false, if_true, if_false, reduceIte, reduceCtorEq, Nat.reduceEqDiff, Nat.one_ne_zero, Nat.zero_ne_one]; exact hnk) hkn _ _ _) mt_Wa_keep mv_Wa_keep lk_Ci_172 ⟨rfl, rfl, by decide, by decide⟩ rfl (Nat.le_of_ble_eq_true rfl) ⟨by decide, by decide⟩ (fun H hG => gw_recv (q := (R_Wa, T_Wa, 4)) hK hG ho rfl rfl (by decide) rfl) (fun M => gx_no) rfl (fun v => ?_)
      refine go_and (fun hv => ?_)
      subst hv
      refine go_iload_n hF d_Ci_refresh_71 rfl ?_
      refine go_if_ne (tgt := 85) hF d_Ci_refresh_72 (by decide) (fun h72 => ?_) (fun h72 => ?_)
      · refine go_iconst (v := 0) hF d_Ci_refresh_85 (by decide) ?_
        refine go_G (fun H hG => ?_) (J86 a _ ja h37 ?_)
        · simp only [rd_II, rd_LL, rd_PP, rd_IL, rd_IP, rd_LI, rd_LP, rd_PI, rd_PL, eq_self, true_and, and_true, false_and, and_false, if_true, if_false, reduceIte, reduceCtorEq, Nat.reduceEqDiff, Nat.one_ne_zero, Nat.zero_ne_one] at hG
          exact hG
        · unfold rse bi
          simp [h37, h72]
      · refine go_iload hF d_Ci_refresh_75 rfl ?_
        refine go_iconst (v := 1) hF d_Ci_refresh_77 (by decide) ?_
        refine go_icmp_ne (tgt := 85) hF d_Ci_refresh_78 (by decide) (fun h78 => ?_) (fun h78 => ?_)
        · refine go_iconst (v := 0) hF d_Ci_refresh_85 (by decide) ?_
          refine go_G (fun H hG => ?_) (J86 a _ ja h37 ?_)
          · simp only [rd_II, rd_LL, rd_PP, rd_IL, rd_IP, rd_LI, rd_LP, rd_PI, rd_PL, eq_self, true_and, and_true, false_and, and_false, if_true, if_false, reduceIte, reduceCtorEq, Nat.reduceEqDiff, Nat.one_ne_zero, Nat.zero_ne_one] at hG
            exact hG
          · unfold rse bi
            simp [h37, h72, h78]
        · refine go_iconst (v := 1) hF d_Ci_refresh_81 (by decide) ?_
          refine go_goto (tgt := 86) hF d_Ci_refresh_82 (by decide) ?_
          refine go_G (fun H hG => ?_) (J86 a _ ja h37 ?_)
          · simp only [rd_II, rd_LL, rd_PP, rd_IL, rd_IP, rd_LI, rd_LP, rd_PI, rd_PL, eq_self, true_and, and_true, false_and, and_false, if_true, if_false, reduceIte, reduceCtorEq, Nat.reduceEqDiff, Nat.one_ne_zero, Nat.zero_ne_one] at hG
            exact hG
          · unfold rse bi
            simp [h37, h72, h78]
    · exact go_vret hF hM d_Ci_refresh_40 (by decide) (by decide) (fun H hG => ⟨rfl, by unfold rfW; rw [if_pos (ja ▸ h37)]; exact hG⟩)
  refine go_aload_n hF d_Ci_refresh_0 rfl ?_
  refine gs_getr hF hK d_Ci_refresh_1 fl_Ci_17 ho rfl rfl (by decide) rfl ?_
  refine go_iload_n hF d_Ci_refresh_4 rfl ?_
  refine gs_aald hF hK hT d_Ci_refresh_5 ho rfl rfl rfl hq (by decide) ?_
  refine go_astore_n hF d_Ci_refresh_6 (by decide) ?_
  refine go_lv (lv' := [(0, _), (1, _), (2, _)]) ⟨rfl, rfl, rfl, trivial⟩ ?_
  refine go_aload_n hF d_Ci_refresh_7 rfl ?_
  refine gs_geti hF hK d_Ci_refresh_8 fl_Ci_163 ho rfl rfl hq rfl ?_
  refine go_istore_n hF d_Ci_refresh_11 (by decide) ?_
  refine go_lv (lv' := [(0, _), (1, _), (2, _), (3, _)]) ⟨rfl, rfl, rfl, rfl, trivial⟩ ?_
  refine go_aload_n hF d_Ci_refresh_12 rfl ?_
  refine gs_geti hF hK d_Ci_refresh_13 fl_Ci_157 ho rfl rfl hq rfl ?_
  refine go_iconst (v := -1) hF d_Ci_refresh_16 (by decide) ?_
  refine go_icmp_eq (tgt := 27) hF d_Ci_refresh_17 (by decide) (fun h17 => ?_) (fun h17 => ?_)
  · refine go_aload_n hF d_Ci_refresh_27 rfl ?_
    refine go_iload_n hF d_Ci_refresh_28 rfl ?_
    refine go_callVX hF hE hlo d_Ci_refresh_29 (con_Ci_driven hlt ho hq hng hgn) mt_Ci_driven mv_Ci_driven lk_Ci_166 ⟨rfl, rfl, by decide, by decide⟩ rfl (Nat.le_of_ble_eq_true rfl) ⟨by decide, by decide⟩ (fun H hG => gw_recv (q := (R_Ci, T_Ci, 10)) hK hG ho rfl rfl (by decide) rfl) (fun M => gx_no) rfl (fun v => ?_)
    refine go_and (fun hv => ?_)
    subst hv
    refine J32 _ ?_
    unfold aft
    simp [h17]
  · refine go_aload_n hF d_Ci_refresh_20 rfl ?_
    refine gs_geti hF hK d_Ci_refresh_21 fl_Ci_157 ho rfl rfl hq rfl ?_
    refine go_goto (tgt := 32) hF d_Ci_refresh_24 (by decide) ?_
    refine J32 _ ?_
    unfold aft
    simp [h17]
