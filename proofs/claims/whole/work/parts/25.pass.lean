theorem skp_b (w : wdT) (P : Int32 → Prop) (L : Nat) (hL : L < 2 ^ 31) (hn : wI w 2 0 1 0 0 = nI (nz (wI w 2 0 1 0 0))) (hl : nz (wI w 2 0 1 0 0) ≤ L) : ∀ m p, p ≤ L → skp w P m p ≤ L
  | 0, p, h => h
  | m + 1, p, h => by
    rw [skp_s]
    split
    · rename_i z
      have z1 := z.1
      rw [hn] at z1
      have := (nI_ltI (a := p) (b := nz (wI w 2 0 1 0 0)) (by omega) (by omega)).mp z1
      exact skp_b w P L hL hn hl m (p + 1) (by omega)
    · exact h
theorem eqv_teR {w u : wdT} (h : eqv w u) (p : Nat) : teR u p = teR w p := by
  unfold teR
  rw [eqv_tt h, eqv_ten h]
theorem eqv_ttT {w u : wdT} (h : eqv w u) (p : Nat) (t : Int64) : ttT u p t = ttT w p t := by
  unfold ttT
  rw [eqv_tt h, eqv_tnm h]
theorem eqv_tlR {w u : wdT} (h : eqv w u) (t : Int64) (p : Nat) : tlR u t p = tlR w t p := by
  unfold tlR
  rw [eqv_tl h]
theorem eqv_tlF {w u : wdT} (h : eqv w u) (t : Int64) (p : Nat) (f : Int32) : tlF u t p f = tlF w t p f := by
  unfold tlF
  rw [eqv_tl h]
theorem tlA_eqv {w u : wdT} (h : eqv w u) (b : Int32) (t : Int64) (p : Nat) (v : wdT) : tlA u b t p v = tlA w b t p v := by
  unfold tlA
  rw [eqv_bon h]
theorem teR_ok {w : wdT} {p : Nat} (h : ¬ teR w p = -1) : ttOk w p := Classical.byContradiction (fun z => h (by unfold teR; rw [if_neg z]))
theorem tlR_ok {w : wdT} {t : Int64} {p : Nat} (h : ¬ tlR w t p = -1) : tlOk w t p := Classical.byContradiction (fun z => h (by unfold tlR; rw [if_neg z]))
theorem teR_no {w : wdT} {p : Nat} (hb : ten w p < 2 ^ 31) (h : teR w p = -1) : ¬ ttOk w p := fun z => by
  unfold teR at h
  rw [if_pos z] at h
  exact nI_pos hb (by rw [h]; decide)
theorem tlR_no {w : wdT} {t : Int64} {p : Nat} (hb : p < 2 ^ 30) (h : tlR w t p = -1) : ¬ tlOk w t p := fun z => by
  unfold tlR at h
  rw [if_pos z] at h
  have h2 : nI (p + 2) = -1 := by rw [← h]; exact (nI_add p 2).symm
  exact nI_pos (show p + 2 < 2 ^ 31 by omega) (by rw [h2]; decide)
theorem tlA_h (w : wdT) (b : Int32) (t : Int64) (p : Nat) (u : wdT) : wI (tlA w b t p u) 0 0 4 0 0 = if b = 0 then wI u 0 0 4 0 0 else nI (nz (wI u 0 0 4 0 0) + 1) := by
  unfold tlA apW
  split
  · rfl
  · simp only [rd_II, rd_IL]
    rw [if_pos (by simp)]
set_option maxHeartbeats 4000000 in
set_option maxRecDepth 100000 in
theorem con_Tr_pass {l : Launch} (hlt : l.stackTraces = false) {E : gE} {B : bsT} {N : nwT} {w : wdT} {tr : Nat} {t0 : Int64} {f0 : Int32} (ho : N.1 0 0 = true) (h2 : N.1 2 0 = true) (hn : ct (wI w 2 0 1 0 0) 2000) (b : Int32) (hh : ct (wI w 0 0 4 0 0) 100) (hcap : ¬ b = 0 → nz (wI w 0 0 4 0 0) + (psO w).2 ≤ 100) : Con l E y_Tr_pass (Cond.code y_Tr_pass c_Tr_pass 5 (some .int) :: gAll) rm_Tr_pass [.ref tr, .int b] (gw E B (nr N B tr t0 f0) w) (fun v H => ∃ t9, v = some (.int (oI1 (psO w).1)) ∧ gw E B (nr N B tr t9 (nI (psO w).2)) (psU w b) H) (fun _ _ => False) 0 0 := by
  refine con_of (by decide) hlt (Nat.le_of_ble_eq_true rfl) ?_
  intro F hF hM htab hnm hE hlo hl
  subst hl
  have hF : Fb F c_Tr_pass R_Tr 5 rm_Tr_pass := hF
  have hK := hE.1
  have hT := hE.2.1
  refine go_lv (lv' := [(0, _), (1, _)]) ⟨rfl, rfl, trivial⟩ ?_
  have L23 : ∀ m k p (t : Int64) f (u : wdT), k + m = 2000 → p ≤ 2001 → ps w m p t f = psO w → psT w b m p t u = psU w b → eqv w u → ct (wI u 0 0 4 0 0) 100 → (¬ b = 0 → nz (wI u 0 0 4 0 0) + ((psO w).2 - f) ≤ 100) → Go F 23 [(0, .ref tr), (1, .int b), (2, .int (nI p)), (3, .int (nI k))] [] (gw E B (nr N B tr t (nI f)) u) 0 0 := by
    intro m
    induction m using Nat.strongRecOn with
    | _ m ih =>
      intro k p t f u hm hp hR hS hu hh hcap
      refine go_iload_n hF d_Tr_pass_23 rfl ?_
      refine go_sipush (v := 2000) hF d_Tr_pass_24 (by decide) ?_
      refine go_icmp_ge (tgt := 94) hF d_Tr_pass_27 (by decide) (fun h27 => ?_) (fun h27 => ?_)
      · refine go_iconst (v := -1) hF d_Tr_pass_94 (by decide) ?_
        exact go_iret hF hM d_Tr_pass_95 (by decide) (by decide) (fun H hG => by
          have e : m = 0 := (by have := (nI_leI (a := 2000) (b := k) (by omega) (by omega)).mp h27; omega)
          subst e
          rw [← hR, ← hS]
          exact ⟨_, rfl, hG⟩)
      · refine go_iload_n hF d_Tr_pass_30 rfl ?_
        refine go_aload_n hF d_Tr_pass_31 rfl ?_
        refine gs_getO hF hK d_Tr_pass_32 fl_Tr_9 (ovs_same _ _ _) rfl ?_
        refine gs_geti hF hK d_Tr_pass_35 fl_Tr_35 h2 rfl rfl (by decide) rfl ?_
        refine go_icmp_ge (tgt := 94) hF d_Tr_pass_38 (by decide) (fun h38 => ?_) (fun h38 => ?_)
        · refine go_iconst (v := -1) hF d_Tr_pass_94 (by decide) ?_
          exact go_iret hF hM d_Tr_pass_95 (by decide) (by decide) (fun H hG => by
            have z : ¬ nI p < wI w 2 0 1 0 0 := fun z => Int32.lt_irrefl (Int32.lt_of_lt_of_le z (by rw [← hu.1 1 0 0]; exact h38))
            cases m with
            | zero => rw [← hR, ← hS]; exact ⟨_, rfl, hG⟩
            | succ m9 =>
              rw [ps_s, if_neg z] at hR
              rw [psT_s, if_neg z] at hS
              rw [← hR, ← hS]
              exact ⟨_, rfl, hG⟩)
        · have hk2 : k < 2000 := by
            have z : ¬ 2000 ≤ k := fun z => h27 ((nI_leI (a := 2000) (b := k) (by omega) (by omega)).mpr z)
            omega
          have hq2 : p < 2000 := by
            have h3 := hn.2
            have h4 := nle_lt h38
            rw [hu.1 1 0 0, hn.1] at h4
            have := (nI_ltI (a := p) (b := nz (wI w 2 0 1 0 0)) (by omega) (by omega)).mp h4
            omega
          obtain ⟨f9, rfl⟩ : ∃ f9, m = f9 + 1 := ⟨m - 1, by omega⟩
          rw [ps_s, if_pos (show nI p < wI w 2 0 1 0 0 by have := nle_lt h38; rw [hu.1 1 0 0] at this; exact this)] at hR
          rw [psT_s, if_pos (show nI p < wI w 2 0 1 0 0 by have := nle_lt h38; rw [hu.1 1 0 0] at this; exact this)] at hS
          have hnu : ct (wI u 2 0 1 0 0) 2000 := by rw [hu.1 1 0 0]; exact hn
          have hten : ten w p ≤ 2001 := skp_b w dgt 2001 (by decide) hn.1 (by have := hn.2; omega) _ _ (by omega)
          refine go_aload_n hF d_Tr_pass_41 rfl ?_
          refine gs_getO hF hK d_Tr_pass_42 fl_Tr_9 (ovs_same _ _ _) rfl ?_
          refine go_iload_n hF d_Tr_pass_45 rfl ?_
          refine go_callVX hF hE hlo d_Tr_pass_46 (con_Ta_byteOrNone (N := nr N B tr t (nI f)) (w := u) hlt h2 hnu _) mt_Ta_byteOrNone mv_Ta_byteOrNone lk_Tr_38 ⟨rfl, rfl, by decide, by decide⟩ rfl (Nat.le_of_ble_eq_true rfl) ⟨by decide, by decide⟩ (fun H hG => gw_recv (q := (R_Ta, T_Ta, 2)) hK hG h2 rfl rfl (by decide) rfl) (fun M => gx_no) rfl (fun v => ?_)
          refine go_and (fun hv => ?_)
          rw [eqv_bon hu] at hv
          subst hv
          refine go_bipush (v := 35) hF d_Tr_pass_49 (by decide) ?_
          refine go_icmp_ne (tgt := 62) hF d_Tr_pass_51 (by decide) (fun h51 => ?_) (fun h51 => ?_)
          · have hf2 : tlOk w t p → f + 1 ≤ (psO w).2 := fun z => by
              rw [if_neg h51, if_pos z] at hR
              rw [← hR]
              exact ps_ge w _ _ _ _
            have hcp2 : ¬ b = 0 → tlOk w t p → nz (wI u 0 0 4 0 0) + 1 ≤ 100 := fun z1 z2 => by
              have h5 := hcap z1
              have h6 := hf2 z2
              omega
            refine go_aload_n hF d_Tr_pass_62 rfl ?_
            refine go_iload_n hF d_Tr_pass_63 rfl ?_
            refine go_iload_n hF d_Tr_pass_64 rfl ?_
            refine go_callVX hF hE hlo d_Tr_pass_65 (con_Tr_takeLine (N := N) (w := u) (tr := tr) (p := p) (t := t) (f := nI f) hlt ho h2 hnu b hh (fun z1 z2 => by have := hcp2 z1 (by rw [← eqv_tl hu]; exact z2); omega)) mt_Tr_takeLine mv_Tr_takeLine lk_Tr_44 ⟨rfl, rfl, by decide, by decide⟩ rfl (Nat.le_of_ble_eq_true rfl) ⟨by decide, by decide⟩ (fun H hG => gw_recvO (q := (R_Tr, T_Tr, 4)) hK hG (ovs_same _ _ _) rfl) (fun M => gx_no) rfl (fun v => ?_)
            refine go_and (fun hv => ?_)
            rw [eqv_tlR hu] at hv
            subst hv
            refine go_G (G' := gw E B (nr N B tr t (tlF w t p (nI f))) (tlS u b t p)) (fun H hG => by rw [← eqv_tlF hu]; exact hG) ?_
            refine go_istore hF d_Tr_pass_68 (by decide) ?_
            refine go_lv (lv' := [(0, _), (1, _), (2, _), (3, _), (4, _)]) ⟨rfl, rfl, rfl, rfl, rfl, trivial⟩ ?_
            refine go_iload hF d_Tr_pass_70 rfl ?_
            refine go_iconst (v := -1) hF d_Tr_pass_72 (by decide) ?_
            refine go_icmp_ne (tgt := 78) hF d_Tr_pass_73 (by decide) (fun h73 => ?_) (fun h73 => ?_)
            · have q9 : tlOk w t p := tlR_ok h73
              refine go_lv (lv' := [(0, _), (1, _), (2, _), (3, _), (4, .int (nI (p + 2)))]) ⟨rfl, rfl, rfl, rfl, by unfold tlR; rw [if_pos q9, ← nI_add p 2]; rfl, trivial⟩ ?_
              refine go_G (G' := gw E B (nr N B tr t (nI (f + 1))) (tlA w b t p u)) (fun H hG => by
                unfold tlF tlS at hG
                rw [if_pos q9, if_pos (show tlOk u t p by rw [eqv_tl hu]; exact q9), tlA_eqv hu, nI_1] at hG
                exact hG) ?_
              have hu3 := eqv_tlA hu b t p
              have hnu3 : ct (wI (tlA w b t p u) 2 0 1 0 0) 2000 := by rw [hu3.1 1 0 0]; exact hn
              refine go_aload_n hF d_Tr_pass_78 rfl ?_
              refine gs_getO hF hK d_Tr_pass_79 fl_Tr_9 (ovs_same _ _ _) rfl ?_
              refine go_iload hF d_Tr_pass_82 rfl ?_
              refine go_callVX hF hE hlo d_Tr_pass_84 (con_Ta_skipBlanks (N := nr N B tr t (nI (f + 1))) (w := tlA w b t p u) (p := p + 2) hlt h2 hnu3 (by omega)) mt_Ta_skipBlanks mv_Ta_skipBlanks lk_Tr_29 ⟨rfl, rfl, by decide, by decide⟩ rfl (Nat.le_of_ble_eq_true rfl) ⟨by decide, by decide⟩ (fun H hG => gw_recv (q := (R_Ta, T_Ta, 2)) hK hG h2 rfl rfl (by decide) rfl) (fun M => gx_no) rfl (fun v => ?_)
              refine go_and (fun hv => ?_)
              rw [eqv_skp hu3] at hv
              subst hv
              refine go_istore_n hF d_Tr_pass_87 (by decide) ?_
              refine go_lv (lv' := [(0, _), (1, _), (2, _), (3, _), (4, _)]) ⟨rfl, rfl, rfl, rfl, rfl, trivial⟩ ?_
              refine go_iincN hF d_Tr_pass_88 rfl (by decide) ?_
              refine go_lv (lv' := [(0, _), (1, _), (2, _), (3, _), (4, _)]) ⟨rfl, rfl, rfl, rfl, rfl, trivial⟩ ?_
              refine go_goto (tgt := 23) hF d_Tr_pass_91 (by decide) ?_
              refine go_lv (lv' := [(0, _), (1, _), (2, _), (3, _)]) ⟨rfl, rfl, rfl, rfl, trivial⟩ ?_
              refine ih f9 (by omega) (k + 1) _ _ (f + 1) _ (by omega) (skp_b w blk 2001 (by decide) hn.1 (by have := hn.2; omega) _ _ (by omega)) (by rw [if_neg h51, if_pos q9] at hR; exact hR) (by rw [if_neg h51, if_pos q9] at hS; exact hS) (eqv_tlA hu b t p) ?_ ?_
              · rw [tlA_h]
                split
                · exact hh
                · rename_i z; exact ct_nI (hcp2 z q9) (by decide)
              · intro z
                have := hcap z
                have hf1 := hf2 q9
                have hz : nz (wI (tlA w b t p u) 0 0 4 0 0) = nz (wI u 0 0 4 0 0) + 1 := by rw [tlA_h, if_neg z]; exact nI_clamp (by have := hh.2; omega)
                omega
            · refine go_iload_n hF d_Tr_pass_76 rfl ?_
              exact go_iret hF hM d_Tr_pass_77 (by decide) (by decide) (fun H hG => by
                have q : ¬ tlOk w t p := tlR_no (by omega) h73
                rw [if_neg h51, if_neg q] at hR
                rw [if_neg h51, if_neg q] at hS
                rw [← hR, ← hS]
                unfold tlF tlS at hG
                rw [if_neg q, if_neg (show ¬ tlOk u t p by rw [eqv_tl hu]; exact q)] at hG
                exact ⟨_, rfl, hG⟩)
          · refine go_aload_n hF d_Tr_pass_54 rfl ?_
            refine go_iload_n hF d_Tr_pass_55 rfl ?_
            refine go_callVX hF hE hlo d_Tr_pass_56 (con_Tr_takeTime (N := N) (w := u) (tr := tr) (t := t) (f := nI f) hlt ho h2 hnu hq2) mt_Tr_takeTime mv_Tr_takeTime lk_Tr_41 ⟨rfl, rfl, by decide, by decide⟩ rfl (Nat.le_of_ble_eq_true rfl) ⟨by decide, by decide⟩ (fun H hG => gw_recvO (q := (R_Tr, T_Tr, 4)) hK hG (ovs_same _ _ _) rfl) (fun M => gx_no) rfl (fun v => ?_)
            refine go_and (fun hv => ?_)
            rw [eqv_teR hu] at hv
            subst hv
            refine go_G (G' := gw E B (nr N B tr (ttT w p t) (nI f)) u) (fun H hG => by rw [← eqv_ttT hu]; exact hG) ?_
            refine go_goto (tgt := 68) hF d_Tr_pass_59 (by decide) ?_
            refine go_istore hF d_Tr_pass_68 (by decide) ?_
            refine go_lv (lv' := [(0, _), (1, _), (2, _), (3, _), (4, _)]) ⟨rfl, rfl, rfl, rfl, rfl, trivial⟩ ?_
            refine go_iload hF d_Tr_pass_70 rfl ?_
            refine go_iconst (v := -1) hF d_Tr_pass_72 (by decide) ?_
            refine go_icmp_ne (tgt := 78) hF d_Tr_pass_73 (by decide) (fun h73 => ?_) (fun h73 => ?_)
            · have q9 : ttOk w p := teR_ok h73
              refine go_lv (lv' := [(0, _), (1, _), (2, _), (3, _), (4, .int (nI (ten w p)))]) ⟨rfl, rfl, rfl, rfl, by unfold teR; rw [if_pos q9]; rfl, trivial⟩ ?_
              refine go_G (G' := gw E B (nr N B tr (tnm w p) (nI f)) u) (fun H hG => by unfold ttT at hG; rw [if_pos q9] at hG; exact hG) ?_
              refine go_aload_n hF d_Tr_pass_78 rfl ?_
              refine gs_getO hF hK d_Tr_pass_79 fl_Tr_9 (ovs_same _ _ _) rfl ?_
              refine go_iload hF d_Tr_pass_82 rfl ?_
              refine go_callVX hF hE hlo d_Tr_pass_84 (con_Ta_skipBlanks (N := nr N B tr (tnm w p) (nI f)) (w := u) (p := ten w p) hlt h2 hnu (by omega)) mt_Ta_skipBlanks mv_Ta_skipBlanks lk_Tr_29 ⟨rfl, rfl, by decide, by decide⟩ rfl (Nat.le_of_ble_eq_true rfl) ⟨by decide, by decide⟩ (fun H hG => gw_recv (q := (R_Ta, T_Ta, 2)) hK hG h2 rfl rfl (by decide) rfl) (fun M => gx_no) rfl (fun v => ?_)
              refine go_and (fun hv => ?_)
              rw [eqv_skp hu] at hv
              subst hv
              refine go_istore_n hF d_Tr_pass_87 (by decide) ?_
              refine go_lv (lv' := [(0, _), (1, _), (2, _), (3, _), (4, _)]) ⟨rfl, rfl, rfl, rfl, rfl, trivial⟩ ?_
              refine go_iincN hF d_Tr_pass_88 rfl (by decide) ?_
              refine go_lv (lv' := [(0, _), (1, _), (2, _), (3, _), (4, _)]) ⟨rfl, rfl, rfl, rfl, rfl, trivial⟩ ?_
              refine go_goto (tgt := 23) hF d_Tr_pass_91 (by decide) ?_
              refine go_lv (lv' := [(0, _), (1, _), (2, _), (3, _)]) ⟨rfl, rfl, rfl, rfl, trivial⟩ ?_
              exact ih f9 (by omega) (k + 1) _ _ f _ (by omega) (skp_b w blk 2001 (by decide) hn.1 (by have := hn.2; omega) _ _ (skp_b w dgt 2001 (by decide) hn.1 (by have := hn.2; omega) _ _ (by omega))) (by rw [if_pos h51, if_pos q9] at hR; exact hR) (by rw [if_pos h51, if_pos q9] at hS; exact hS) hu hh hcap
            · refine go_iload_n hF d_Tr_pass_76 rfl ?_
              exact go_iret hF hM d_Tr_pass_77 (by decide) (by decide) (fun H hG => by
                have q : ¬ ttOk w p := teR_no (by omega) h73
                rw [if_pos h51, if_neg q] at hR
                rw [if_pos h51, if_neg q] at hS
                rw [← hR, ← hS]
                exact ⟨_, rfl, hG⟩)
  refine go_aload_n hF d_Tr_pass_0 rfl ?_
  refine go_ldc2 hF kl_Tr_19 d_Tr_pass_1 ?_
  refine gs_putO hF hK hlo d_Tr_pass_4 fl_Tr_21 ct_Tr fs_Tr_2 rfl rfl (ovs_same _ _ _) (Nat.le_of_ble_eq_true rfl) ?_
  refine go_G (fun H hG => nr_put hG) ?_
  refine go_aload_n hF d_Tr_pass_7 rfl ?_
  refine go_iconst (v := 0) hF d_Tr_pass_8 (by decide) ?_
  refine gs_putO hF hK hlo d_Tr_pass_9 fl_Tr_25 ct_Tr fs_Tr_3 rfl rfl (ovs_same _ _ _) (Nat.le_of_ble_eq_true rfl) ?_
  refine go_G (fun H hG => nr_put hG) ?_
  refine go_aload_n hF d_Tr_pass_12 rfl ?_
  refine gs_getO hF hK d_Tr_pass_13 fl_Tr_9 (ovs_same _ _ _) rfl ?_
  refine go_iconst (v := 0) hF d_Tr_pass_16 (by decide) ?_
  refine go_callVX hF hE hlo d_Tr_pass_17 (con_Ta_skipBlanks (N := nr N B tr (-1) 0) (p := 0) hlt h2 hn (by omega)) mt_Ta_skipBlanks mv_Ta_skipBlanks lk_Tr_29 ⟨rfl, rfl, by decide, by decide⟩ rfl (Nat.le_of_ble_eq_true rfl) ⟨by decide, by decide⟩ (fun H hG => gw_recv (q := (R_Ta, T_Ta, 2)) hK hG h2 rfl rfl (by decide) rfl) (fun M => gx_no) rfl (fun v => ?_)
  refine go_and (fun hv => ?_)
  subst hv
  refine go_istore_n hF d_Tr_pass_20 (by decide) ?_
  refine go_lv (lv' := [(0, _), (1, _), (2, _)]) ⟨rfl, rfl, rfl, trivial⟩ ?_
  refine go_iconst (v := 0) hF d_Tr_pass_21 (by decide) ?_
  refine go_istore_n hF d_Tr_pass_22 (by decide) ?_
  refine go_lv (lv' := [(0, _), (1, _), (2, _), (3, _)]) ⟨rfl, rfl, rfl, rfl, trivial⟩ ?_
  exact L23 2000 0 _ (-1) 0 w rfl (skp_b w blk 2001 (by decide) hn.1 (by have := hn.2; omega) _ _ (by omega)) rfl rfl (eqv_rf w) hh (fun z => by have := hcap z; omega)
