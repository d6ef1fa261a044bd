set_option maxHeartbeats 4000000 in
set_option maxRecDepth 100000 in
theorem con_Mo_driven {l : Launch} (hlt : l.stackTraces = false) {E : gE} {B : bsT} {N : nwT} {w : wdT} {f : Nat → Int32} (h4 : N.1 4 0 = true) {K : Nat} {c : wdT} {ι : Nat} {x : Int32} {n : Nat} (hx : x = nI n) (hn : n < cN c ι) (hR : Rel K c ι f) : Con l E y_Mo_driven (Cond.code y_Mo_driven c_Mo_driven 5 (some .int) :: gAll) rm_Mo_driven [.ref (ad B 4 0 0 0), .int x] (gw E B N (mW w f)) (fun v H => v = some (.int (aft c ι n (cG c ι))) ∧ gw E B N (mW w f) H) (fun _ _ => False) 0 0 := by
  refine con_of (by decide) hlt (Nat.le_of_ble_eq_true rfl) ?_
  intro F hF hM htab hnm hE hlo hl
  subst hl
  have hF : Fb F c_Mo_driven R_Mo 5 rm_Mo_driven := hF
  have hK := hE.1
  have hT := hE.2.1
  refine go_lv (lv' := [(0, _), (1, _)]) ⟨rfl, rfl, trivial⟩ ?_
  subst hx
  have hn24 : n < 24 := by have := (Rel_n hR).2; omega
  have hRN := hR.2.2.1 n hn
  have L26 : wI c 0 ι 13 1 n = -1 → ∀ m p : Nat, cG c ι - p = m → p ≤ cG c ι → Go F 26 [(0, .ref (ad B 4 0 0 0)), (1, .int (nI n)), (2, .int (drj c ι n p)), (3, .int (nI p))] [] (gw E B N (mW w f)) 0 0 := by
    intro hfo
    intro m
    induction m using Nat.strongRecOn with
    | _ m ih =>
      intro p hm hp
      have hg := Rel_g hR
      refine go_iload_n hF d_Mo_driven_26 rfl ?_
      refine go_aload_n hF d_Mo_driven_27 rfl ?_
      refine gs_getr hF hK d_Mo_driven_28 fl_Mo_7 h4 rfl rfl (by decide) rfl ?_
      refine go_iconst (v := 3) hF d_Mo_driven_31 (by decide) ?_
      refine gs_md hF hK hT d_Mo_driven_32 h4 (show (3 : Int32) = nI 3 from rfl) (by decide) ?_
      refine go_icmp_ge (tgt := 93) hF d_Mo_driven_33 (by decide) (fun h33 => ?_) (fun h33 => ?_)
      · refine go_iload_n hF d_Mo_driven_93 rfl ?_
        exact go_iret hF hM d_Mo_driven_94 (by decide) (by decide) (fun H hG => ⟨by have e := nI_g2 hg (by decide) hp h33; subst e; unfold aft; rw [if_pos hfo], hG⟩)
      · have hp2 : p < cG c ι := nI_l2 hg (by decide) hp h33
        refine go_aload_n hF d_Mo_driven_36 rfl ?_
        refine go_iload_n hF d_Mo_driven_37 rfl ?_
        refine go_iconst (v := 3) hF d_Mo_driven_38 (by decide) ?_
        refine go_callVX hF hE hlo d_Mo_driven_39 (con_Mo_ofGate hlt h4 (k := 3) rfl (by omega) rfl (by decide)) mt_Mo_ofGate mv_Mo_ofGate lk_Mo_36 ⟨rfl, rfl, by decide, by decide⟩ rfl (Nat.le_of_ble_eq_true rfl) ⟨by decide, by decide⟩ (fun H hG => gw_recv (q := (R_Mo, T_Mo, 9)) hK hG h4 rfl rfl (by decide) rfl) (fun M => gx_no) rfl (fun v => ?_)
        refine go_and (fun hv => ?_)
        subst hv
        refine go_iload_n hF d_Mo_driven_42 rfl ?_
        refine go_icmp_ne (tgt := 56) hF d_Mo_driven_43 (by decide) (fun h43 => ?_) (fun h43 => ?_)
        · refine go_iconst (v := 3) hF d_Mo_driven_56 (by decide) ?_
          refine go_istore hF d_Mo_driven_57 (by decide) ?_
          refine go_lv (lv' := [(0, _), (1, _), (2, _), (3, _), (4, _)]) ⟨rfl, rfl, rfl, rfl, rfl, trivial⟩ ?_
          refine go_iload hF d_Mo_driven_59 rfl ?_
          refine go_iconst (v := 3) hF d_Mo_driven_61 (by decide) ?_
          refine go_icmp_ne (tgt := 69) hF d_Mo_driven_62 (by decide) (fun h62 => ?_) (fun h62 => ?_)
          · refine go_iload_n hF d_Mo_driven_69 rfl ?_
            refine go_iconst (v := 3) hF d_Mo_driven_70 (by decide) ?_
            refine go_icmp_eq (tgt := 80) hF d_Mo_driven_71 (by decide) (fun h71 => ?_) (fun h71 => ?_)
            · refine go_iload hF d_Mo_driven_80 rfl ?_
              refine go_goto (tgt := 86) hF d_Mo_driven_82 (by decide) ?_
              refine go_istore_n hF d_Mo_driven_86 (by decide) ?_
              refine go_lv (lv' := [(0, _), (1, _), (2, _), (3, _), (4, _)]) ⟨rfl, rfl, rfl, rfl, rfl, trivial⟩ ?_
              refine go_iincN hF d_Mo_driven_87 rfl (by decide) ?_
              refine go_lv (lv' := [(0, _), (1, _), (2, _), (3, _), (4, _)]) ⟨rfl, rfl, rfl, rfl, rfl, trivial⟩ ?_
              refine go_goto (tgt := 26) hF d_Mo_driven_90 (by decide) ?_
              have hq := hR.2.2.2.1 p hp2
              have e3 := hq.1.2.2.2.1
              have e6 := hq.1.2.2.2.2.2.2.1
              refine go_lv (lv' := [(0, _), (1, _), (2, .int (drj c ι n (p + 1))), (3, .int (nI (p + 1)))]) ⟨rfl, rfl, by first | exact absurd rfl h62 | (rw [drj_s, ← e3, ← e6, ← drj_M]; simp [h33, h43, h62, h71] <;> rfl), rfl, trivial⟩ ?_
              exact ih _ (by omega) (p + 1) rfl (by omega)
            · refine go_iload_n hF d_Mo_driven_74 rfl ?_
              refine go_iload hF d_Mo_driven_75 rfl ?_
              refine go_icmp_ne (tgt := 85) hF d_Mo_driven_77 (by decide) (fun h77 => ?_) (fun h77 => ?_)
              · refine go_iconst (v := 2) hF d_Mo_driven_85 (by decide) ?_
                refine go_istore_n hF d_Mo_driven_86 (by decide) ?_
                refine go_lv (lv' := [(0, _), (1, _), (2, _), (3, _), (4, _)]) ⟨rfl, rfl, rfl, rfl, rfl, trivial⟩ ?_
                refine go_iincN hF d_Mo_driven_87 rfl (by decide) ?_
                refine go_lv (lv' := [(0, _), (1, _), (2, _), (3, _), (4, _)]) ⟨rfl, rfl, rfl, rfl, rfl, trivial⟩ ?_
                refine go_goto (tgt := 26) hF d_Mo_driven_90 (by decide) ?_
                have hq := hR.2.2.2.1 p hp2
                have e3 := hq.1.2.2.2.1
                have e6 := hq.1.2.2.2.2.2.2.1
                refine go_lv (lv' := [(0, _), (1, _), (2, .int (drj c ι n (p + 1))), (3, .int (nI (p + 1)))]) ⟨rfl, rfl, by first | exact absurd rfl h62 | (rw [drj_s, ← e3, ← e6, ← drj_M]; simp [h33, h43, h62, h71, h77] <;> rfl), rfl, trivial⟩ ?_
                exact ih _ (by omega) (p + 1) rfl (by omega)
              · refine go_iload hF d_Mo_driven_80 rfl ?_
                refine go_goto (tgt := 86) hF d_Mo_driven_82 (by decide) ?_
                refine go_istore_n hF d_Mo_driven_86 (by decide) ?_
                refine go_lv (lv' := [(0, _), (1, _), (2, _), (3, _), (4, _)]) ⟨rfl, rfl, rfl, rfl, rfl, trivial⟩ ?_
                refine go_iincN hF d_Mo_driven_87 rfl (by decide) ?_
                refine go_lv (lv' := [(0, _), (1, _), (2, _), (3, _), (4, _)]) ⟨rfl, rfl, rfl, rfl, rfl, trivial⟩ ?_
                refine go_goto (tgt := 26) hF d_Mo_driven_90 (by decide) ?_
                have hq := hR.2.2.2.1 p hp2
                have e3 := hq.1.2.2.2.1
                have e6 := hq.1.2.2.2.2.2.2.1
                refine go_lv (lv' := [(0, _), (1, _), (2, .int (drj c ι n (p + 1))), (3, .int (nI (p + 1)))]) ⟨rfl, rfl, by first | exact absurd rfl h62 | (rw [drj_s, ← e3, ← e6, ← drj_M]; simp [h33, h43, h62, h71, h77] <;> rfl), rfl, trivial⟩ ?_
                exact ih _ (by omega) (p + 1) rfl (by omega)
          · refine go_iload_n hF d_Mo_driven_65 rfl ?_
            refine go_goto (tgt := 86) hF d_Mo_driven_66 (by decide) ?_
            refine go_istore_n hF d_Mo_driven_86 (by decide) ?_
            refine go_lv (lv' := [(0, _), (1, _), (2, _), (3, _), (4, _)]) ⟨rfl, rfl, rfl, rfl, rfl, trivial⟩ ?_
            refine go_iincN hF d_Mo_driven_87 rfl (by decide) ?_
            refine go_lv (lv' := [(0, _), (1, _), (2, _), (3, _), (4, _)]) ⟨rfl, rfl, rfl, rfl, rfl, trivial⟩ ?_
            refine go_goto (tgt := 26) hF d_Mo_driven_90 (by decide) ?_
            have hq := hR.2.2.2.1 p hp2
            have e3 := hq.1.2.2.2.1
            have e6 := hq.1.2.2.2.2.2.2.1
            refine go_lv (lv' := [(0, _), (1, _), (2, .int (drj c ι n (p + 1))), (3, .int (nI (p + 1)))]) ⟨rfl, rfl, by first | exact absurd rfl h62 | (rw [drj_s, ← e3, ← e6, ← drj_M]; simp [h33, h43, h62] <;> rfl), rfl, trivial⟩ ?_
            exact ih _ (by omega) (p + 1) rfl (by omega)
        · refine go_aload_n hF d_Mo_driven_46 rfl ?_
          refine go_iload_n hF d_Mo_driven_47 rfl ?_
          refine go_bipush (v := 6) hF d_Mo_driven_48 (by decide) ?_
          refine go_callVX hF hE hlo d_Mo_driven_50 (con_Mo_ofGate hlt h4 (k := 6) rfl (by omega) rfl (by decide)) mt_Mo_ofGate mv_Mo_ofGate lk_Mo_36 ⟨rfl, rfl, by decide, by decide⟩ rfl (Nat.le_of_ble_eq_true rfl) ⟨by decide, by decide⟩ (fun H hG => gw_recv (q := (R_Mo, T_Mo, 9)) hK hG h4 rfl rfl (by decide) rfl) (fun M => gx_no) rfl (fun v => ?_)
          refine go_and (fun hv => ?_)
          subst hv
          refine go_goto (tgt := 57) hF d_Mo_driven_53 (by decide) ?_
          refine go_istore hF d_Mo_driven_57 (by decide) ?_
          refine go_lv (lv' := [(0, _), (1, _), (2, _), (3, _), (4, _)]) ⟨rfl, rfl, rfl, rfl, rfl, trivial⟩ ?_
          refine go_iload hF d_Mo_driven_59 rfl ?_
          refine go_iconst (v := 3) hF d_Mo_driven_61 (by decide) ?_
          refine go_icmp_ne (tgt := 69) hF d_Mo_driven_62 (by decide) (fun h62 => ?_) (fun h62 => ?_)
          · refine go_iload_n hF d_Mo_driven_69 rfl ?_
            refine go_iconst (v := 3) hF d_Mo_driven_70 (by decide) ?_
            refine go_icmp_eq (tgt := 80) hF d_Mo_driven_71 (by decide) (fun h71 => ?_) (fun h71 => ?_)
            · refine go_iload hF d_Mo_driven_80 rfl ?_
              refine go_goto (tgt := 86) hF d_Mo_driven_82 (by decide) ?_
              refine go_istore_n hF d_Mo_driven_86 (by decide) ?_
              refine go_lv (lv' := [(0, _), (1, _), (2, _), (3, _), (4, _)]) ⟨rfl, rfl, rfl, rfl, rfl, trivial⟩ ?_
              refine go_iincN hF d_Mo_driven_87 rfl (by decide) ?_
              refine go_lv (lv' := [(0, _), (1, _), (2, _), (3, _), (4, _)]) ⟨rfl, rfl, rfl, rfl, rfl, trivial⟩ ?_
              refine go_goto (tgt := 26) hF d_Mo_driven_90 (by decide) ?_
              have hq := hR.2.2.2.1 p hp2
              have e3 := hq.1.2.2.2.1
              have e6 := hq.1.2.2.2.2.2.2.1
              refine go_lv (lv' := [(0, _), (1, _), (2, .int (drj c ι n (p + 1))), (3, .int (nI (p + 1)))]) ⟨rfl, rfl, by first | exact absurd rfl h62 | (rw [drj_s, ← e3, ← e6, ← drj_M]; simp [h33, h43, h62, h71] <;> rfl), rfl, trivial⟩ ?_
              exact ih _ (by omega) (p + 1) rfl (by omega)
            · refine go_iload_n hF d_Mo_driven_74 rfl ?_
              refine go_iload hF d_Mo_driven_75 rfl ?_
              refine go_icmp_ne (tgt := 85) hF d_Mo_driven_77 (by decide) (fun h77 => ?_) (fun h77 => ?_)
              · refine go_iconst (v := 2) hF d_Mo_driven_85 (by decide) ?_
                refine go_istore_n hF d_Mo_driven_86 (by decide) ?_
                refine go_lv (lv' := [(0, _), (1, _), (2, _), (3, _), (4, _)]) ⟨rfl, rfl, rfl, rfl, rfl, trivial⟩ ?_
                refine go_iincN hF d_Mo_driven_87 rfl (by decide) ?_
                refine go_lv (lv' := [(0, _), (1, _), (2, _), (3, _), (4, _)]) ⟨rfl, rfl, rfl, rfl, rfl, trivial⟩ ?_
                refine go_goto (tgt := 26) hF d_Mo_driven_90 (by decide) ?_
                have hq := hR.2.2.2.1 p hp2
                have e3 := hq.1.2.2.2.1
                have e6 := hq.1.2.2.2.2.2.2.1
                refine go_lv (lv' := [(0, _), (1, _), (2, .int (drj c ι n (p + 1))), (3, .int (nI (p + 1)))]) ⟨rfl, rfl, by first | exact absurd rfl h62 | (rw [drj_s, ← e3, ← e6, ← drj_M]; simp [h33, h43, h62, h71, h77] <;> rfl), rfl, trivial⟩ ?_
                exact ih _ (by omega) (p + 1) rfl (by omega)
              · refine go_iload hF d_Mo_driven_80 rfl ?_
                refine go_goto (tgt := 86) hF d_Mo_driven_82 (by decide) ?_
                refine go_istore_n hF d_Mo_driven_86 (by decide) ?_
                refine go_lv (lv' := [(0, _), (1, _), (2, _), (3, _), (4, _)]) ⟨rfl, rfl, rfl, rfl, rfl, trivial⟩ ?_
                refine go_iincN hF d_Mo_driven_87 rfl (by decide) ?_
                refine go_lv (lv' := [(0, _), (1, _), (2, _), (3, _), (4, _)]) ⟨rfl, rfl, rfl, rfl, rfl, trivial⟩ ?_
                refine go_goto (tgt := 26) hF d_Mo_driven_90 (by decide) ?_
                have hq := hR.2.2.2.1 p hp2
                have e3 := hq.1.2.2.2.1
                have e6 := hq.1.2.2.2.2.2.2.1
                refine go_lv (lv' := [(0, _), (1, _), (2, .int (drj c ι n (p + 1))), (3, .int (nI (p + 1)))]) ⟨rfl, rfl, by first | exact absurd rfl h62 | (rw [drj_s, ← e3, ← e6, ← drj_M]; simp [h33, h43, h62, h71, h77] <;> rfl), rfl, trivial⟩ ?_
                exact ih _ (by omega) (p + 1) rfl (by omega)
          · refine go_iload_n hF d_Mo_driven_65 rfl ?_
            refine go_goto (tgt := 86) hF d_Mo_driven_66 (by decide) ?_
            refine go_istore_n hF d_Mo_driven_86 (by decide) ?_
            refine go_lv (lv' := [(0, _), (1, _), (2, _), (3, _), (4, _)]) ⟨rfl, rfl, rfl, rfl, rfl, trivial⟩ ?_
            refine go_iincN hF d_Mo_driven_87 rfl (by decide) ?_
            refine go_lv (lv' := [(0, _), (1, _), (2, _), (3, _), (4, _)]) ⟨rfl, rfl, rfl, rfl, rfl, trivial⟩ ?_
            refine go_goto (tgt := 26) hF d_Mo_driven_90 (by decide) ?_
            have hq := hR.2.2.2.1 p hp2
            have e3 := hq.1.2.2.2.1
            have e6 := hq.1.2.2.2.2.2.2.1
            refine go_lv (lv' := [(0, _), (1, _), (2, .int (drj c ι n (p + 1))), (3, .int (nI (p + 1)))]) ⟨rfl, rfl, by first | exact absurd rfl h62 | (rw [drj_s, ← e3, ← e6, ← drj_M]; simp [h33, h43, h62] <;> rfl), rfl, trivial⟩ ?_
            exact ih _ (by omega) (p + 1) rfl (by omega)
  refine go_aload_n hF d_Mo_driven_0 rfl ?_
  refine go_iload_n hF d_Mo_driven_1 rfl ?_
  refine go_iconst (v := 2) hF d_Mo_driven_2 (by decide) ?_
  refine go_callVX hF hE hlo d_Mo_driven_3 (con_Mo_ofNet hlt h4 (k := 2) rfl hn24 rfl (by decide)) mt_Mo_ofNet mv_Mo_ofNet lk_Mo_32 ⟨rfl, rfl, by decide, by decide⟩ rfl (Nat.le_of_ble_eq_true rfl) ⟨by decide, by decide⟩ (fun H hG => gw_recv (q := (R_Mo, T_Mo, 9)) hK hG h4 rfl rfl (by decide) rfl) (fun M => gx_no) rfl (fun v => ?_)
  refine go_and (fun hv => ?_)
  subst hv
  refine go_iconst (v := -1) hF d_Mo_driven_6 (by decide) ?_
  refine go_icmp_eq (tgt := 17) hF d_Mo_driven_7 (by decide) (fun h7 => ?_) (fun h7 => ?_)
  · refine go_aload_n hF d_Mo_driven_17 rfl ?_
    refine go_iload_n hF d_Mo_driven_18 rfl ?_
    refine go_iconst (v := 1) hF d_Mo_driven_19 (by decide) ?_
    refine go_callVX hF hE hlo d_Mo_driven_20 (con_Mo_ofNet hlt h4 (k := 1) rfl hn24 rfl (by decide)) mt_Mo_ofNet mv_Mo_ofNet lk_Mo_32 ⟨rfl, rfl, by decide, by decide⟩ rfl (Nat.le_of_ble_eq_true rfl) ⟨by decide, by decide⟩ (fun H hG => gw_recv (q := (R_Mo, T_Mo, 9)) hK hG h4 rfl rfl (by decide) rfl) (fun M => gx_no) rfl (fun v => ?_)
    refine go_and (fun hv => ?_)
    subst hv
    refine go_istore_n hF d_Mo_driven_23 (by decide) ?_
    refine go_lv (lv' := [(0, _), (1, _), (2, _)]) ⟨rfl, rfl, rfl, trivial⟩ ?_
    refine go_iconst (v := 0) hF d_Mo_driven_24 (by decide) ?_
    refine go_istore_n hF d_Mo_driven_25 (by decide) ?_
    refine go_lv (lv' := [(0, _), (1, _), (2, _), (3, _)]) ⟨rfl, rfl, rfl, rfl, trivial⟩ ?_
    refine go_lv (lv' := [(0, _), (1, _), (2, .int (drj c ι n 0)), (3, .int (nI 0))]) ⟨rfl, rfl, by rw [show drj c ι n 0 = wI c 0 ι 13 0 n from rfl, ← hRN.2.1]; rfl, rfl, trivial⟩ ?_
    exact L26 (by rw [← hRN.2.2.1]; exact h7) _ 0 rfl (Nat.zero_le _)
  · refine go_aload_n hF d_Mo_driven_10 rfl ?_
    refine go_iload_n hF d_Mo_driven_11 rfl ?_
    refine go_iconst (v := 2) hF d_Mo_driven_12 (by decide) ?_
    refine go_callVX hF hE hlo d_Mo_driven_13 (con_Mo_ofNet hlt h4 (k := 2) rfl hn24 rfl (by decide)) mt_Mo_ofNet mv_Mo_ofNet lk_Mo_32 ⟨rfl, rfl, by decide, by decide⟩ rfl (Nat.le_of_ble_eq_true rfl) ⟨by decide, by decide⟩ (fun H hG => gw_recv (q := (R_Mo, T_Mo, 9)) hK hG h4 rfl rfl (by decide) rfl) (fun M => gx_no) rfl (fun v => ?_)
    refine go_and (fun hv => ?_)
    subst hv
    exact go_iret hF hM d_Mo_driven_16 (by decide) (by decide) (fun H hG => ⟨by unfold aft; rw [← hRN.2.2.1, if_neg (by simpa using h7)], hG⟩)
set_option maxHeartbeats 4000000 in
set_option maxRecDepth 100000 in
theorem con_Mo_spoil {l : Launch} (hlt : l.stackTraces = false) {E : gE} {B : bsT} {N : nwT} {w : wdT} {f : Nat → Int32} (h4 : N.1 4 0 = true) {K : Nat} {c : wdT} {ι : Nat} {x y : Int32} {k : Nat} (hx : x = wI c 0 ι 15 1 k) (hy : y = wI c 0 ι 15 2 k) (hR : Rel K c ι f) : Con l E y_Mo_spoil (Cond.code y_Mo_spoil c_Mo_spoil 4 none :: gAll) rm_Mo_spoil [.ref (ad B 4 0 0 0), .int x, .int y] (gw E B N (mW w f)) (fun v H => ∃ f2, Rel K (blW c ι k (cG c ι)) ι f2 ∧ v = none ∧ gw E B N (mW w f2) H) (fun _ _ => False) 0 0 := by
  refine con_of (by decide) hlt (Nat.le_of_ble_eq_true rfl) ?_
  intro F hF hM htab hnm hE hlo hl
  subst hl
  have hF : Fb F c_Mo_spoil R_Mo 4 rm_Mo_spoil := hF
  have hK := hE.1
  have hT := hE.2.1
  refine go_lv (lv' := [(0, _), (1, _), (2, _)]) ⟨rfl, rfl, rfl, trivial⟩ ?_
  subst hx hy
  have L2 : ∀ (m p : Nat) (f2 : Nat → Int32), cG c ι - p = m → p ≤ cG c ι → Rel K (blW c ι k p) ι f2 → Go F 2 [(0, .ref (ad B 4 0 0 0)), (1, .int (wI c 0 ι 15 1 k)), (2, .int (wI c 0 ι 15 2 k)), (3, .int (nI p))] [] (gw E B N (mW w f2)) 0 0 := by
    intro m
    induction m using Nat.strongRecOn with
    | _ m ih =>
      intro p f2 hm hp hr
      have hg := Rel_g hr
      have hpp : p ≤ cG (blW c ι k p) ι := by rw [cG_bl]; exact hp
      refine go_iload_n hF d_Mo_spoil_2 rfl ?_
      refine go_aload_n hF d_Mo_spoil_3 rfl ?_
      refine gs_getr hF hK d_Mo_spoil_4 fl_Mo_7 h4 rfl rfl (by decide) rfl ?_
      refine go_iconst (v := 3) hF d_Mo_spoil_7 (by decide) ?_
      refine gs_md hF hK hT d_Mo_spoil_8 h4 (show (3 : Int32) = nI 3 from rfl) (by decide) ?_
      refine go_icmp_ge (tgt := 55) hF d_Mo_spoil_9 (by decide) (fun h9 => ?_) (fun h9 => ?_)
      · exact go_vret hF hM d_Mo_spoil_55 (by decide) (by decide) (fun H hG => ⟨f2, by have e := nI_g2 hg (by decide) hpp h9; rw [cG_bl] at e; subst e; exact hr, rfl, hG⟩)
      · have hp2 := nI_l2 hg (by decide) hpp h9
        refine go_aload_n hF d_Mo_spoil_12 rfl ?_
        refine go_iload_n hF d_Mo_spoil_13 rfl ?_
        refine go_iconst (v := 0) hF d_Mo_spoil_14 (by decide) ?_
        refine go_callVX hF hE hlo d_Mo_spoil_15 (con_Mo_ofGate hlt h4 (k := 0) rfl (by have := hg.2; omega) rfl (by decide)) mt_Mo_ofGate mv_Mo_ofGate lk_Mo_36 ⟨rfl, rfl, by decide, by decide⟩ rfl (Nat.le_of_ble_eq_true rfl) ⟨by decide, by decide⟩ (fun H hG => gw_recv (q := (R_Mo, T_Mo, 9)) hK hG h4 rfl rfl (by decide) rfl) (fun M => gx_no) rfl (fun v => ?_)
        refine go_and (fun hv => ?_)
        subst hv
        refine go_bipush (v := 7) hF d_Mo_spoil_18 (by decide) ?_
        refine go_icmp_ne (tgt := 49) hF d_Mo_spoil_20 (by decide) (fun h20 => ?_) (fun h20 => ?_)
        · refine go_iincN hF d_Mo_spoil_49 rfl (by decide) ?_
          refine go_lv (lv' := [(0, _), (1, _), (2, _), (3, _)]) ⟨rfl, rfl, rfl, rfl, trivial⟩ ?_
          refine go_goto (tgt := 2) hF d_Mo_spoil_52 (by decide) ?_
          exact ih _ (by rw [cG_bl] at hp2; omega) (p + 1) _ rfl (by rw [cG_bl] at hp2; omega) (Rel_bl_f hr (by rw [cG_bl] at hp2; exact hp2) (fun z => h20 z.1))
        · refine go_aload_n hF d_Mo_spoil_23 rfl ?_
          refine go_iload_n hF d_Mo_spoil_24 rfl ?_
          refine go_iconst (v := 2) hF d_Mo_spoil_25 (by decide) ?_
          refine go_callVX hF hE hlo d_Mo_spoil_26 (con_Mo_ofGate hlt h4 (k := 2) rfl (by have := hg.2; omega) rfl (by decide)) mt_Mo_ofGate mv_Mo_ofGate lk_Mo_36 ⟨rfl, rfl, by decide, by decide⟩ rfl (Nat.le_of_ble_eq_true rfl) ⟨by decide, by decide⟩ (fun H hG => gw_recv (q := (R_Mo, T_Mo, 9)) hK hG h4 rfl rfl (by decide) rfl) (fun M => gx_no) rfl (fun v => ?_)
          refine go_and (fun hv => ?_)
          subst hv
          refine go_iload_n hF d_Mo_spoil_29 rfl ?_
          refine go_icmp_ne (tgt := 49) hF d_Mo_spoil_30 (by decide) (fun h30 => ?_) (fun h30 => ?_)
          · refine go_iincN hF d_Mo_spoil_49 rfl (by decide) ?_
            refine go_lv (lv' := [(0, _), (1, _), (2, _), (3, _)]) ⟨rfl, rfl, rfl, rfl, trivial⟩ ?_
            refine go_goto (tgt := 2) hF d_Mo_spoil_52 (by decide) ?_
            exact ih _ (by rw [cG_bl] at hp2; omega) (p + 1) _ rfl (by rw [cG_bl] at hp2; omega) (Rel_bl_f hr (by rw [cG_bl] at hp2; exact hp2) (fun z => h30 z.2.1))
          · refine go_aload_n hF d_Mo_spoil_33 rfl ?_
            refine go_iload_n hF d_Mo_spoil_34 rfl ?_
            refine go_iconst (v := 1) hF d_Mo_spoil_35 (by decide) ?_
            refine go_callVX hF hE hlo d_Mo_spoil_36 (con_Mo_ofGate hlt h4 (k := 1) rfl (by have := hg.2; omega) rfl (by decide)) mt_Mo_ofGate mv_Mo_ofGate lk_Mo_36 ⟨rfl, rfl, by decide, by decide⟩ rfl (Nat.le_of_ble_eq_true rfl) ⟨by decide, by decide⟩ (fun H hG => gw_recv (q := (R_Mo, T_Mo, 9)) hK hG h4 rfl rfl (by decide) rfl) (fun M => gx_no) rfl (fun v => ?_)
            refine go_and (fun hv => ?_)
            subst hv
            refine go_iload_n hF d_Mo_spoil_39 rfl ?_
            refine go_icmp_ne (tgt := 49) hF d_Mo_spoil_40 (by decide) (fun h40 => ?_) (fun h40 => ?_)
            · refine go_iincN hF d_Mo_spoil_49 rfl (by decide) ?_
              refine go_lv (lv' := [(0, _), (1, _), (2, _), (3, _)]) ⟨rfl, rfl, rfl, rfl, trivial⟩ ?_
              refine go_goto (tgt := 2) hF d_Mo_spoil_52 (by decide) ?_
              exact ih _ (by rw [cG_bl] at hp2; omega) (p + 1) _ rfl (by rw [cG_bl] at hp2; omega) (Rel_bl_f hr (by rw [cG_bl] at hp2; exact hp2) (fun z => h40 z.2.2))
            · refine go_aload_n hF d_Mo_spoil_43 rfl ?_
              refine go_iload_n hF d_Mo_spoil_44 rfl ?_
              refine go_iconst (v := 2) hF d_Mo_spoil_45 (by decide) ?_
              refine go_callVX hF hE hlo d_Mo_spoil_46 (con_Mo_ask hlt h4 rfl (by have := hg.2; omega) 2) mt_Mo_ask mv_Mo_ask lk_Mo_59 ⟨rfl, rfl, by decide, by decide⟩ rfl (Nat.le_of_ble_eq_true rfl) ⟨by decide, by decide⟩ (fun H hG => gw_recv (q := (R_Mo, T_Mo, 9)) hK hG h4 rfl rfl (by decide) rfl) (fun M => gx_no) rfl (fun v => ?_)
              refine go_and (fun hv => ?_)
              subst hv
              refine go_iincN hF d_Mo_spoil_49 rfl (by decide) ?_
              refine go_lv (lv' := [(0, _), (1, _), (2, _), (3, _)]) ⟨rfl, rfl, rfl, rfl, trivial⟩ ?_
              refine go_goto (tgt := 2) hF d_Mo_spoil_52 (by decide) ?_
              exact ih _ (by rw [cG_bl] at hp2; omega) (p + 1) _ rfl (by rw [cG_bl] at hp2; omega) (Rel_bl_t hr (by rw [cG_bl] at hp2; exact hp2) (by simpa using h20) (by simpa using h30) (by simpa using h40))
  refine go_iconst (v := 0) hF d_Mo_spoil_0 (by decide) ?_
  refine go_istore_n hF d_Mo_spoil_1 (by decide) ?_
  refine go_lv (lv' := [(0, _), (1, _), (2, _), (3, _)]) ⟨rfl, rfl, rfl, rfl, trivial⟩ ?_
  exact L2 _ 0 f rfl (Nat.zero_le _) hR
theorem cG_rf2 (c : wdT) (ι q nk : Nat) (a : Int32) : cG (rf2 c ι q nk a) ι = cG c ι := by
  unfold cG
  rw [rf2_I c ι q nk a 0 ι 0 4 0 (by omega)]
theorem cK_rf2 (c : wdT) (ι q nk : Nat) (a : Int32) : cK (rf2 c ι q nk a) ι = cK c ι := by
  unfold cK
  rw [rf2_I c ι q nk a 0 ι 0 6 0 (by omega)]
theorem cN_rf2 (c : wdT) (ι q nk : Nat) (a : Int32) : cN (rf2 c ι q nk a) ι = cN c ι := by
  unfold cN
  rw [rf2_I c ι q nk a 0 ι 0 2 0 (by omega)]
theorem cK_as (u : wdT) (ι : Nat) (n r : Int32) (p : Nat) : cK (asW u ι n r p) ι = cK u ι := by
  unfold cK
  rw [(qk_as u ι n r p).1 0 ι 0 6 0 (by omega)]
theorem cN_as (u : wdT) (ι : Nat) (n r : Int32) (p : Nat) : cN (asW u ι n r p) ι = cN u ι := by
  unfold cN
  rw [(qk_as u ι n r p).1 0 ι 0 2 0 (by omega)]
theorem cN_tc (u : wdT) (ι ng : Nat) (n r : Int32) (p : Nat) : cN (tcW u ι ng n r p) ι = cN u ι := by
  unfold cN
  rw [(qc_tc u ι ng n r p).1 0 ι 0 2 0 (by omega)]
theorem cN_l5 (u : wdT) (ι q : Nat) (t : Int64) : cN (sL u 0 ι 13 4 q t) ι = cN u ι := rfl
theorem cG_b (u : wdT) (ι p : Nat) (x : Int32) : cG (sI u 0 ι 15 4 p x) ι = cG u ι := by
  unfold cG
  rw [rd_II, if_neg (by omega)]
theorem bi_z {p : Prop} {d : Decidable p} : bi p = 0 ↔ ¬ p := ⟨bi_0, fun h => if_neg h⟩
theorem s6 {E : gE} {B : bsT} {N : nwT} {w : wdT} {H : Heap} {f1 : Nat → Int32} {k : Nat} {x y z : Int32} (g6 : f1 6 = nI k) (h : gw E B N (mW w (fu (fu (fu (fu f1 (1450 + 3 * k) x) (1450 + 3 * k + 1) y) (1450 + 3 * k + 2) z) 6 (fu (fu (fu f1 (1450 + 3 * k) x) (1450 + 3 * k + 1) y) (1450 + 3 * k + 2) z 6 + 1))) H) : gw E B N (mW w (fu (fu (fu (fu f1 (1450 + 3 * k) x) (1450 + 3 * k + 1) y) (1450 + 3 * k + 2) z) 6 (nI (k + 1)))) H := by
  rw [fu_n (by omega), fu_n (by omega), fu_n (by omega), g6, nI_1] at h
  exact h
set_option maxHeartbeats 4000000 in
set_option maxRecDepth 100000 in
theorem con_Mo_settle {l : Launch} (hlt : l.stackTraces = false) {E : gE} {B : bsT} {N : nwT} {w : wdT} {f : Nat → Int32} (h4 : N.1 4 0 = true) {K : Nat} {c : wdT} {ι : Nat} {x : Int32} {n : Nat} (hx : x = nI n) (hn : n < cN c ι) (hKK : K < 1000000000) (hfw : f (10 + 10 * n + 3) = 1) (hR : Rel K c ι f) : Con l E y_Mo_settle (Cond.code y_Mo_settle c_Mo_settle 11 none :: gAll) rm_Mo_settle [.ref (ad B 4 0 0 0), .int x] (gw E B N (mW w f)) (fun v H => ∃ f2, Rel (K + 1) (rfX c ι n) ι f2 ∧ v = none ∧ gw E B N (mW w f2) H) (fun _ _ => False) 0 0 := by
  refine con_of (by decide) hlt (Nat.le_of_ble_eq_true rfl) ?_
  intro F hF hM htab hnm hE hlo hl
  subst hl
  have hF : Fb F c_Mo_settle R_Mo 11 rm_Mo_settle := hF
  have hK := hE.1
  have hT := hE.2.1
  refine go_lv (lv' := [(0, _), (1, _)]) ⟨rfl, rfl, trivial⟩ ?_
  subst hx
  have hn24 : n < 24 := by have := (Rel_n hR).2; omega
  have hRN := hR.2.2.1 n hn
  have hAr := aft_rg hR hn
  have J430 : ∀ f2, ¬ (aft c ι n (cG c ι)) = wI c 0 ι 13 2 n → Rel (K + 1) (tcW (asW (rf2 c ι n (cW c ι) (aft c ι n (cG c ι))) ι (nI n) (rse c ι n (aft c ι n (cG c ι))) (cG c ι)) ι (cG c ι) (nI n) (rse c ι n (aft c ι n (cG c ι))) (cK c ι)) ι f2 → Go F 430 [(0, .ref (ad B 4 0 0 0)), (1, .int (nI n)), (2, .int (wI c 0 ι 13 2 n)), (3, .int (aft c ι n (cG c ι))), (4, .int (rse c ι n (aft c ι n (cG c ι))))] [] (gw E B N (mW w f2)) 0 0 := by
    intro f2 hne hr
    have hnt : n < cN (tcW (asW (rf2 c ι n (cW c ι) (aft c ι n (cG c ι))) ι (nI n) (rse c ι n (aft c ι n (cG c ι))) (cG c ι)) ι (cG c ι) (nI n) (rse c ι n (aft c ι n (cG c ι))) (cK c ι)) ι := by rw [cN_tc, cN_as, cN_rf2]; exact hn
    refine go_aload_n hF d_Mo_settle_430 rfl ?_
    refine go_iload_n hF d_Mo_settle_431 rfl ?_
    refine go_iconst (v := 5) hF d_Mo_settle_432 (by decide) ?_
    refine go_aload_n hF d_Mo_settle_433 rfl ?_
    refine gs_getr hF hK d_Mo_settle_434 fl_Mo_7 h4 rfl rfl (by decide) rfl ?_
    refine go_iconst (v := 0) hF d_Mo_settle_437 (by decide) ?_
    refine gs_md hF hK hT d_Mo_settle_438 h4 (show (0 : Int32) = nI 0 from rfl) (by decide) ?_
    refine go_callVX hF hE hlo d_Mo_settle_439 (con_Mo_setNet hlt h4 (k := 5) rfl hn24 rfl (by decide) _) mt_Mo_setNet mv_Mo_setNet lk_Mo_53 ⟨rfl, rfl, by decide, by decide⟩ rfl (Nat.le_of_ble_eq_true rfl) ⟨by decide, by decide⟩ (fun H hG => gw_recv (q := (R_Mo, T_Mo, 9)) hK hG h4 rfl rfl (by decide) rfl) (fun M => gx_no) rfl (fun v => ?_)
    refine go_and (fun hv => ?_)
    subst hv
    refine go_iload hF d_Mo_settle_442 rfl ?_
    refine go_if_eq (tgt := 460) hF d_Mo_settle_444 (by decide) (fun h444 => ?_) (fun h444 => ?_)
    · exact go_vret hF hM d_Mo_settle_460 (by decide) (by decide) (fun H hG => ⟨_, by unfold rfX rfW; rw [if_neg (show ¬ aft c ι n (cG c ι) = wI c 0 ι 13 2 n from hne)]; unfold rf5; rw [if_pos h444]; exact Rel_l5 hr hnt, rfl, hG⟩)
    · refine go_aload_n hF d_Mo_settle_447 rfl ?_
      refine go_iload_n hF d_Mo_settle_448 rfl ?_
      refine go_bipush (v := 6) hF d_Mo_settle_449 (by decide) ?_
      refine go_aload_n hF d_Mo_settle_451 rfl ?_
      refine gs_getr hF hK d_Mo_settle_452 fl_Mo_7 h4 rfl rfl (by decide) rfl ?_
      refine go_iconst (v := 0) hF d_Mo_settle_455 (by decide) ?_
      refine gs_md hF hK hT d_Mo_settle_456 h4 (show (0 : Int32) = nI 0 from rfl) (by decide) ?_
      refine go_callVX hF hE hlo d_Mo_settle_457 (con_Mo_setNet hlt h4 (k := 6) rfl hn24 rfl (by decide) _) mt_Mo_setNet mv_Mo_setNet lk_Mo_53 ⟨rfl, rfl, by decide, by decide⟩ rfl (Nat.le_of_ble_eq_true rfl) ⟨by decide, by decide⟩ (fun H hG => gw_recv (q := (R_Mo, T_Mo, 9)) hK hG h4 rfl rfl (by decide) rfl) (fun M => gx_no) rfl (fun v => ?_)
      refine go_and (fun hv => ?_)
      subst hv
      exact go_vret hF hM d_Mo_settle_460 (by decide) (by decide) (fun H hG => ⟨_, by unfold rfX rfW; rw [if_neg (show ¬ aft c ι n (cG c ι) = wI c 0 ι 13 2 n from hne)]; unfold rf5; rw [if_neg h444]; exact (Rel_l6 (Rel_l5 hr hnt) hnt), rfl, hG⟩)
  have J345 : ∀ (p : Nat) (x9 : Int32), ∀ f2, (x9 = 0 ↔ ¬ (f2 (1300 + 5 * p + 0) = 0 ∧ f2 (1300 + 5 * p + 1) = nI n ∧ ¬ (rse c ι n (aft c ι n (cG c ι))) = 0 ∧ nrF f2 (f2 (10 + 10 * nz (f2 (1300 + 5 * p + 2)) + 5)) (f2 (1300 + 5 * p + 3)))) → p < cK c ι → Rel (K + 1) (tcW (asW (rf2 c ι n (cW c ι) (aft c ι n (cG c ι))) ι (nI n) (rse c ι n (aft c ι n (cG c ι))) (cG c ι)) ι (cG c ι) (nI n) (rse c ι n (aft c ι n (cG c ι))) p) ι f2 → (∀ f3, Rel (K + 1) (tcW (asW (rf2 c ι n (cW c ι) (aft c ι n (cG c ι))) ι (nI n) (rse c ι n (aft c ι n (cG c ι))) (cG c ι)) ι (cG c ι) (nI n) (rse c ι n (aft c ι n (cG c ι))) (p + 1)) ι f3 → Go F 251 [(0, .ref (ad B 4 0 0 0)), (1, .int (nI n)), (2, .int (wI c 0 ι 13 2 n)), (3, .int (aft c ι n (cG c ι))), (4, .int (rse c ι n (aft c ι n (cG c ι)))), (5, .int (nI (p + 1)))] [] (gw E B N (mW w f3)) 0 0) → Go F 345 [(0, .ref (ad B 4 0 0 0)), (1, .int (nI n)), (2, .int (wI c 0 ι 13 2 n)), (3, .int (aft c ι n (cG c ι))), (4, .int (rse c ι n (aft c ι n (cG c ι)))), (5, .int (nI p)), (6, .int (nI (1300 + 5 * p))), (7, .int (f2 (1300 + 5 * p + 1))), (8, .int (f2 (1300 + 5 * p + 2))), (9, .int x9)] [] (gw E B N (mW w f2)) 0 0 := by
    intro p x9 f2 hx9 hpc hr hI
    have hpk : p < cK (asW (rf2 c ι n (cW c ι) (aft c ι n (cG c ι))) ι (nI n) (rse c ι n (aft c ι n (cG c ι))) (cG c ι)) ι := by rw [cK_as, cK_rf2]; exact hpc
    have hg := Rel_k hr
    have hpk2 : p < cK (tcW (asW (rf2 c ι n (cW c ι) (aft c ι n (cG c ι))) ι (nI n) (rse c ι n (aft c ι n (cG c ι))) (cG c ι)) ι (cG c ι) (nI n) (rse c ι n (aft c ι n (cG c ι))) p) ι := by rw [cK_tc]; exact hpk
    have hvk := Rel_vk hr hpk2
    have hcg : cG (tcW (asW (rf2 c ι n (cW c ι) (aft c ι n (cG c ι))) ι (nI n) (rse c ι n (aft c ι n (cG c ι))) (cG c ι)) ι (cG c ι) (nI n) (rse c ι n (aft c ι n (cG c ι))) p) ι = cG c ι := by rw [cG_tc, cG_as, cG_rf2]
    have hck := hr.2.2.2.2.1 p hpk2
    refine go_aload_n hF d_Mo_settle_345 rfl ?_
    refine gs_getr hF hK d_Mo_settle_346 fl_Mo_7 h4 rfl rfl (by decide) rfl ?_
    refine go_iload hF d_Mo_settle_349 rfl ?_
    refine gs_md hF hK hT d_Mo_settle_351 h4 rfl (by omega) ?_
    refine go_iconst (v := 1) hF d_Mo_settle_352 (by decide) ?_
    refine go_icmp_ne (tgt := 390) hF d_Mo_settle_353 (by decide) (fun h353 => ?_) (fun h353 => ?_)
    · refine go_iconst (v := 0) hF d_Mo_settle_390 (by decide) ?_
      refine go_istore hF d_Mo_settle_391 (by decide) ?_
      refine go_lv (lv' := [(0, _), (1, _), (2, _), (3, _), (4, _), (5, _), (6, _), (7, _), (8, _), (9, _), (10, _)]) ⟨rfl, rfl, rfl, rfl, rfl, rfl, rfl, rfl, rfl, rfl, rfl, trivial⟩ ?_
      refine go_iload hF d_Mo_settle_393 rfl ?_
      refine go_if_ne (tgt := 403) hF d_Mo_settle_395 (by decide) (fun h395 => ?_) (fun h395 => ?_)
      · have hbt := Rel_tc_t hr hpk (Or.inl (Classical.byContradiction (fun z => h395 (hx9.mpr z))))
        refine go_aload_n hF d_Mo_settle_403 rfl ?_
        refine gs_getr hF hK d_Mo_settle_404 fl_Mo_7 h4 rfl rfl (by decide) rfl ?_
        refine go_iload hF d_Mo_settle_407 rfl ?_
        refine go_iconst (v := 4) hF d_Mo_settle_409 (by decide) ?_
        refine go_iadd hF d_Mo_settle_410 ?_
        refine go_dup2 hF d_Mo_settle_411 rfl rfl ?_
        refine gs_md hF hK hT d_Mo_settle_412 h4 (ix1 (k := 4) (n := 1300 + 5 * p) rfl) (by omega) ?_
        refine go_iconst (v := 1) hF d_Mo_settle_413 (by decide) ?_
        refine go_iadd hF d_Mo_settle_414 ?_
        refine gs_ms hF hK hT hlo d_Mo_settle_415 h4 (ix1 (k := 4) (n := 1300 + 5 * p) rfl) (by omega) ?_
        refine go_aload_n hF d_Mo_settle_416 rfl ?_
        refine go_iload hF d_Mo_settle_417 rfl ?_
        refine go_iload hF d_Mo_settle_419 rfl ?_
        refine go_callVX hF hE hlo d_Mo_settle_421 (con_Mo_spoil (K := K + 1) (c := sI (tcW (asW (rf2 c ι n (cW c ι) (aft c ι n (cG c ι))) ι (nI n) (rse c ι n (aft c ι n (cG c ι))) (cG c ι)) ι (cG c ι) (nI n) (rse c ι n (aft c ι n (cG c ι))) p) 0 ι 15 4 p (wI (tcW (asW (rf2 c ι n (cW c ι) (aft c ι n (cG c ι))) ι (nI n) (rse c ι n (aft c ι n (cG c ι))) (cG c ι)) ι (cG c ι) (nI n) (rse c ι n (aft c ι n (cG c ι))) p) 0 ι 15 4 p + 1)) (ι := ι) (k := p) hlt h4 (by rw [rd_II, if_neg (by omega)]; exact hck.2.1) (by rw [rd_II, if_neg (by omega)]; exact hck.2.2.1) hbt.1) mt_Mo_spoil mv_Mo_spoil lk_Mo_67 ⟨rfl, rfl, by decide, by decide⟩ rfl (Nat.le_of_ble_eq_true rfl) ⟨by decide, by decide⟩ (fun H hG => gw_recv (q := (R_Mo, T_Mo, 9)) hK hG h4 rfl rfl (by decide) rfl) (fun M => gx_no) rfl (fun v => ?_)
        refine go_ex (fun f3 => ?_)
        refine go_and (fun h9 => ?_)
        refine go_and (fun hv => ?_)
        subst hv
        rw [cG_b, hcg] at h9
        refine go_iincN hF d_Mo_settle_424 rfl (by decide) ?_
        refine go_lv (lv' := [(0, _), (1, _), (2, _), (3, _), (4, _), (5, _), (6, _), (7, _), (8, _), (9, _), (10, _)]) ⟨rfl, rfl, rfl, rfl, rfl, rfl, rfl, rfl, rfl, rfl, rfl, trivial⟩ ?_
        refine go_goto (tgt := 251) hF d_Mo_settle_427 (by decide) ?_
        refine go_lv (lv' := [(0, _), (1, _), (2, _), (3, _), (4, _), (5, _)]) ⟨rfl, rfl, rfl, rfl, rfl, rfl, trivial⟩ ?_
        exact hI _ (by rw [hbt.2]; exact h9)
      · refine go_iload hF d_Mo_settle_398 rfl ?_
        refine go_if_eq (tgt := 424) hF d_Mo_settle_400 (by decide) (fun h400 => ?_) (fun h400 => ?_)
        · refine go_iincN hF d_Mo_settle_424 rfl (by decide) ?_
          refine go_lv (lv' := [(0, _), (1, _), (2, _), (3, _), (4, _), (5, _), (6, _), (7, _), (8, _), (9, _), (10, _)]) ⟨rfl, rfl, rfl, rfl, rfl, rfl, rfl, rfl, rfl, rfl, rfl, trivial⟩ ?_
          refine go_goto (tgt := 251) hF d_Mo_settle_427 (by decide) ?_
          refine go_lv (lv' := [(0, _), (1, _), (2, _), (3, _), (4, _), (5, _)]) ⟨rfl, rfl, rfl, rfl, rfl, rfl, trivial⟩ ?_
          exact hI _ (Rel_tc_f hr hpk (fun z => z.elim (fun z => hx9.mp h395 z) (fun z => h353 z.1)))
        · exact absurd rfl h400
    · refine go_iload hF d_Mo_settle_356 rfl ?_
      refine go_iload_n hF d_Mo_settle_358 rfl ?_
      refine go_icmp_ne (tgt := 390) hF d_Mo_settle_359 (by decide) (fun h359 => ?_) (fun h359 => ?_)
      · refine go_iconst (v := 0) hF d_Mo_settle_390 (by decide) ?_
        refine go_istore hF d_Mo_settle_391 (by decide) ?_
        refine go_lv (lv' := [(0, _), (1, _), (2, _), (3, _), (4, _), (5, _), (6, _), (7, _), (8, _), (9, _), (10, _)]) ⟨rfl, rfl, rfl, rfl, rfl, rfl, rfl, rfl, rfl, rfl, rfl, trivial⟩ ?_
        refine go_iload hF d_Mo_settle_393 rfl ?_
        refine go_if_ne (tgt := 403) hF d_Mo_settle_395 (by decide) (fun h395 => ?_) (fun h395 => ?_)
        · have hbt := Rel_tc_t hr hpk (Or.inl (Classical.byContradiction (fun z => h395 (hx9.mpr z))))
          refine go_aload_n hF d_Mo_settle_403 rfl ?_
          refine gs_getr hF hK d_Mo_settle_404 fl_Mo_7 h4 rfl rfl (by decide) rfl ?_
          refine go_iload hF d_Mo_settle_407 rfl ?_
          refine go_iconst (v := 4) hF d_Mo_settle_409 (by decide) ?_
          refine go_iadd hF d_Mo_settle_410 ?_
          refine go_dup2 hF d_Mo_settle_411 rfl rfl ?_
          refine gs_md hF hK hT d_Mo_settle_412 h4 (ix1 (k := 4) (n := 1300 + 5 * p) rfl) (by omega) ?_
          refine go_iconst (v := 1) hF d_Mo_settle_413 (by decide) ?_
          refine go_iadd hF d_Mo_settle_414 ?_
          refine gs_ms hF hK hT hlo d_Mo_settle_415 h4 (ix1 (k := 4) (n := 1300 + 5 * p) rfl) (by omega) ?_
          refine go_aload_n hF d_Mo_settle_416 rfl ?_
          refine go_iload hF d_Mo_settle_417 rfl ?_
          refine go_iload hF d_Mo_settle_419 rfl ?_
          refine go_callVX hF hE hlo d_Mo_settle_421 (con_Mo_spoil (K := K + 1) (c := sI (tcW (asW (rf2 c ι n (cW c ι) (aft c ι n (cG c ι))) ι (nI n) (rse c ι n (aft c ι n (cG c ι))) (cG c ι)) ι (cG c ι) (nI n) (rse c ι n (aft c ι n (cG c ι))) p) 0 ι 15 4 p (wI (tcW (asW (rf2 c ι n (cW c ι) (aft c ι n (cG c ι))) ι (nI n) (rse c ι n (aft c ι n (cG c ι))) (cG c ι)) ι (cG c ι) (nI n) (rse c ι n (aft c ι n (cG c ι))) p) 0 ι 15 4 p + 1)) (ι := ι) (k := p) hlt h4 (by rw [rd_II, if_neg (by omega)]; exact hck.2.1) (by rw [rd_II, if_neg (by omega)]; exact hck.2.2.1) hbt.1) mt_Mo_spoil mv_Mo_spoil lk_Mo_67 ⟨rfl, rfl, by decide, by decide⟩ rfl (Nat.le_of_ble_eq_true rfl) ⟨by decide, by decide⟩ (fun H hG => gw_recv (q := (R_Mo, T_Mo, 9)) hK hG h4 rfl rfl (by decide) rfl) (fun M => gx_no) rfl (fun v => ?_)
          refine go_ex (fun f3 => ?_)
          refine go_and (fun h9 => ?_)
          refine go_and (fun hv => ?_)
          subst hv
          rw [cG_b, hcg] at h9
          refine go_iincN hF d_Mo_settle_424 rfl (by decide) ?_
          refine go_lv (lv' := [(0, _), (1, _), (2, _), (3, _), (4, _), (5, _), (6, _), (7, _), (8, _), (9, _), (10, _)]) ⟨rfl, rfl, rfl, rfl, rfl, rfl, rfl, rfl, rfl, rfl, rfl, trivial⟩ ?_
          refine go_goto (tgt := 251) hF d_Mo_settle_427 (by decide) ?_
          refine go_lv (lv' := [(0, _), (1, _), (2, _), (3, _), (4, _), (5, _)]) ⟨rfl, rfl, rfl, rfl, rfl, rfl, trivial⟩ ?_
          exact hI _ (by rw [hbt.2]; exact h9)
        · refine go_iload hF d_Mo_settle_398 rfl ?_
          refine go_if_eq (tgt := 424) hF d_Mo_settle_400 (by decide) (fun h400 => ?_) (fun h400 => ?_)
          · refine go_iincN hF d_Mo_settle_424 rfl (by decide) ?_
            refine go_lv (lv' := [(0, _), (1, _), (2, _), (3, _), (4, _), (5, _), (6, _), (7, _), (8, _), (9, _), (10, _)]) ⟨rfl, rfl, rfl, rfl, rfl, rfl, rfl, rfl, rfl, rfl, rfl, trivial⟩ ?_
            refine go_goto (tgt := 251) hF d_Mo_settle_427 (by decide) ?_
            refine go_lv (lv' := [(0, _), (1, _), (2, _), (3, _), (4, _), (5, _)]) ⟨rfl, rfl, rfl, rfl, rfl, rfl, trivial⟩ ?_
            exact hI _ (Rel_tc_f hr hpk (fun z => z.elim (fun z => hx9.mp h395 z) (fun z => h359 z.2.1)))
          · exact absurd rfl h400
      · refine go_aload_n hF d_Mo_settle_362 rfl ?_
        refine go_aload_n hF d_Mo_settle_363 rfl ?_
        refine go_iload hF d_Mo_settle_364 rfl ?_
        refine go_bipush (v := 6) hF d_Mo_settle_366 (by decide) ?_
        refine go_callVX hF hE hlo d_Mo_settle_368 (con_Mo_ofNet hlt h4 (k := 6) hvk.1.1 hvk.1.2 rfl (by decide)) mt_Mo_ofNet mv_Mo_ofNet lk_Mo_32 ⟨rfl, rfl, by decide, by decide⟩ rfl (Nat.le_of_ble_eq_true rfl) ⟨by decide, by decide⟩ (fun H hG => gw_recv (q := (R_Mo, T_Mo, 9)) hK hG h4 rfl rfl (by decide) rfl) (fun M => gx_no) rfl (fun v => ?_)
        refine go_and (fun hv => ?_)
        subst hv
        refine go_aload_n hF d_Mo_settle_371 rfl ?_
        refine gs_getr hF hK d_Mo_settle_372 fl_Mo_7 h4 rfl rfl (by decide) rfl ?_
        refine go_iload hF d_Mo_settle_375 rfl ?_
        refine go_iconst (v := 3) hF d_Mo_settle_377 (by decide) ?_
        refine go_iadd hF d_Mo_settle_378 ?_
        refine gs_md hF hK hT d_Mo_settle_379 h4 (ix1 (k := 3) (n := 1300 + 5 * p) rfl) (by omega) ?_
        refine go_callVX hF hE hlo d_Mo_settle_380 (con_Mo_near hlt h4 _ _) mt_Mo_near mv_Mo_near lk_Mo_63 ⟨rfl, rfl, by decide, by decide⟩ rfl (Nat.le_of_ble_eq_true rfl) ⟨by decide, by decide⟩ (fun H hG => gw_recv (q := (R_Mo, T_Mo, 9)) hK hG h4 rfl rfl (by decide) rfl) (fun M => gx_no) rfl (fun v => ?_)
        refine go_and (fun hv => ?_)
        subst hv
        refine go_if_eq (tgt := 390) hF d_Mo_settle_383 (by decide) (fun h383 => ?_) (fun h383 => ?_)
        · refine go_iconst (v := 0) hF d_Mo_settle_390 (by decide) ?_
          refine go_istore hF d_Mo_settle_391 (by decide) ?_
          refine go_lv (lv' := [(0, _), (1, _), (2, _), (3, _), (4, _), (5, _), (6, _), (7, _), (8, _), (9, _), (10, _)]) ⟨rfl, rfl, rfl, rfl, rfl, rfl, rfl, rfl, rfl, rfl, rfl, trivial⟩ ?_
          refine go_iload hF d_Mo_settle_393 rfl ?_
          refine go_if_ne (tgt := 403) hF d_Mo_settle_395 (by decide) (fun h395 => ?_) (fun h395 => ?_)
          · have hbt := Rel_tc_t hr hpk (Or.inl (Classical.byContradiction (fun z => h395 (hx9.mpr z))))
            refine go_aload_n hF d_Mo_settle_403 rfl ?_
            refine gs_getr hF hK d_Mo_settle_404 fl_Mo_7 h4 rfl rfl (by decide) rfl ?_
            refine go_iload hF d_Mo_settle_407 rfl ?_
            refine go_iconst (v := 4) hF d_Mo_settle_409 (by decide) ?_
            refine go_iadd hF d_Mo_settle_410 ?_
            refine go_dup2 hF d_Mo_settle_411 rfl rfl ?_
            refine gs_md hF hK hT d_Mo_settle_412 h4 (ix1 (k := 4) (n := 1300 + 5 * p) rfl) (by omega) ?_
            refine go_iconst (v := 1) hF d_Mo_settle_413 (by decide) ?_
            refine go_iadd hF d_Mo_settle_414 ?_
            refine gs_ms hF hK hT hlo d_Mo_settle_415 h4 (ix1 (k := 4) (n := 1300 + 5 * p) rfl) (by omega) ?_
            refine go_aload_n hF d_Mo_settle_416 rfl ?_
            refine go_iload hF d_Mo_settle_417 rfl ?_
            refine go_iload hF d_Mo_settle_419 rfl ?_
            refine go_callVX hF hE hlo d_Mo_settle_421 (con_Mo_spoil (K := K + 1) (c := sI (tcW (asW (rf2 c ι n (cW c ι) (aft c ι n (cG c ι))) ι (nI n) (rse c ι n (aft c ι n (cG c ι))) (cG c ι)) ι (cG c ι) (nI n) (rse c ι n (aft c ι n (cG c ι))) p) 0 ι 15 4 p (wI (tcW (asW (rf2 c ι n (cW c ι) (aft c ι n (cG c ι))) ι (nI n) (rse c ι n (aft c ι n (cG c ι))) (cG c ι)) ι (cG c ι) (nI n) (rse c ι n (aft c ι n (cG c ι))) p) 0 ι 15 4 p + 1)) (ι := ι) (k := p) hlt h4 (by rw [rd_II, if_neg (by omega)]; exact hck.2.1) (by rw [rd_II, if_neg (by omega)]; exact hck.2.2.1) hbt.1) mt_Mo_spoil mv_Mo_spoil lk_Mo_67 ⟨rfl, rfl, by decide, by decide⟩ rfl (Nat.le_of_ble_eq_true rfl) ⟨by decide, by decide⟩ (fun H hG => gw_recv (q := (R_Mo, T_Mo, 9)) hK hG h4 rfl rfl (by decide) rfl) (fun M => gx_no) rfl (fun v => ?_)
            refine go_ex (fun f3 => ?_)
            refine go_and (fun h9 => ?_)
            refine go_and (fun hv => ?_)
            subst hv
            rw [cG_b, hcg] at h9
            refine go_iincN hF d_Mo_settle_424 rfl (by decide) ?_
            refine go_lv (lv' := [(0, _), (1, _), (2, _), (3, _), (4, _), (5, _), (6, _), (7, _), (8, _), (9, _), (10, _)]) ⟨rfl, rfl, rfl, rfl, rfl, rfl, rfl, rfl, rfl, rfl, rfl, trivial⟩ ?_
            refine go_goto (tgt := 251) hF d_Mo_settle_427 (by decide) ?_
            refine go_lv (lv' := [(0, _), (1, _), (2, _), (3, _), (4, _), (5, _)]) ⟨rfl, rfl, rfl, rfl, rfl, rfl, trivial⟩ ?_
            exact hI _ (by rw [hbt.2]; exact h9)
          · refine go_iload hF d_Mo_settle_398 rfl ?_
            refine go_if_eq (tgt := 424) hF d_Mo_settle_400 (by decide) (fun h400 => ?_) (fun h400 => ?_)
            · refine go_iincN hF d_Mo_settle_424 rfl (by decide) ?_
              refine go_lv (lv' := [(0, _), (1, _), (2, _), (3, _), (4, _), (5, _), (6, _), (7, _), (8, _), (9, _), (10, _)]) ⟨rfl, rfl, rfl, rfl, rfl, rfl, rfl, rfl, rfl, rfl, rfl, trivial⟩ ?_
              refine go_goto (tgt := 251) hF d_Mo_settle_427 (by decide) ?_
              refine go_lv (lv' := [(0, _), (1, _), (2, _), (3, _), (4, _), (5, _)]) ⟨rfl, rfl, rfl, rfl, rfl, rfl, trivial⟩ ?_
              exact hI _ (Rel_tc_f hr hpk (fun z => z.elim (fun z => hx9.mp h395 z) (fun z => bi_0 h383 z.2.2)))
            · exact absurd rfl h400
        · refine go_iconst (v := 1) hF d_Mo_settle_386 (by decide) ?_
          refine go_goto (tgt := 391) hF d_Mo_settle_387 (by decide) ?_
          refine go_istore hF d_Mo_settle_391 (by decide) ?_
          refine go_lv (lv' := [(0, _), (1, _), (2, _), (3, _), (4, _), (5, _), (6, _), (7, _), (8, _), (9, _), (10, _)]) ⟨rfl, rfl, rfl, rfl, rfl, rfl, rfl, rfl, rfl, rfl, rfl, trivial⟩ ?_
          refine go_iload hF d_Mo_settle_393 rfl ?_
          refine go_if_ne (tgt := 403) hF d_Mo_settle_395 (by decide) (fun h395 => ?_) (fun h395 => ?_)
          · have hbt := Rel_tc_t hr hpk (Or.inl (Classical.byContradiction (fun z => h395 (hx9.mpr z))))
            refine go_aload_n hF d_Mo_settle_403 rfl ?_
            refine gs_getr hF hK d_Mo_settle_404 fl_Mo_7 h4 rfl rfl (by decide) rfl ?_
            refine go_iload hF d_Mo_settle_407 rfl ?_
            refine go_iconst (v := 4) hF d_Mo_settle_409 (by decide) ?_
            refine go_iadd hF d_Mo_settle_410 ?_
            refine go_dup2 hF d_Mo_settle_411 rfl rfl ?_
            refine gs_md hF hK hT d_Mo_settle_412 h4 (ix1 (k := 4) (n := 1300 + 5 * p) rfl) (by omega) ?_
            refine go_iconst (v := 1) hF d_Mo_settle_413 (by decide) ?_
            refine go_iadd hF d_Mo_settle_414 ?_
            refine gs_ms hF hK hT hlo d_Mo_settle_415 h4 (ix1 (k := 4) (n := 1300 + 5 * p) rfl) (by omega) ?_
            refine go_aload_n hF d_Mo_settle_416 rfl ?_
            refine go_iload hF d_Mo_settle_417 rfl ?_
            refine go_iload hF d_Mo_settle_419 rfl ?_
            refine go_callVX hF hE hlo d_Mo_settle_421 (con_Mo_spoil (K := K + 1) (c := sI (tcW (asW (rf2 c ι n (cW c ι) (aft c ι n (cG c ι))) ι (nI n) (rse c ι n (aft c ι n (cG c ι))) (cG c ι)) ι (cG c ι) (nI n) (rse c ι n (aft c ι n (cG c ι))) p) 0 ι 15 4 p (wI (tcW (asW (rf2 c ι n (cW c ι) (aft c ι n (cG c ι))) ι (nI n) (rse c ι n (aft c ι n (cG c ι))) (cG c ι)) ι (cG c ι) (nI n) (rse c ι n (aft c ι n (cG c ι))) p) 0 ι 15 4 p + 1)) (ι := ι) (k := p) hlt h4 (by rw [rd_II, if_neg (by omega)]; exact hck.2.1) (by rw [rd_II, if_neg (by omega)]; exact hck.2.2.1) hbt.1) mt_Mo_spoil mv_Mo_spoil lk_Mo_67 ⟨rfl, rfl, by decide, by decide⟩ rfl (Nat.le_of_ble_eq_true rfl) ⟨by decide, by decide⟩ (fun H hG => gw_recv (q := (R_Mo, T_Mo, 9)) hK hG h4 rfl rfl (by decide) rfl) (fun M => gx_no) rfl (fun v => ?_)
            refine go_ex (fun f3 => ?_)
            refine go_and (fun h9 => ?_)
            refine go_and (fun hv => ?_)
            subst hv
            rw [cG_b, hcg] at h9
            refine go_iincN hF d_Mo_settle_424 rfl (by decide) ?_
            refine go_lv (lv' := [(0, _), (1, _), (2, _), (3, _), (4, _), (5, _), (6, _), (7, _), (8, _), (9, _), (10, _)]) ⟨rfl, rfl, rfl, rfl, rfl, rfl, rfl, rfl, rfl, rfl, rfl, trivial⟩ ?_
            refine go_goto (tgt := 251) hF d_Mo_settle_427 (by decide) ?_
            refine go_lv (lv' := [(0, _), (1, _), (2, _), (3, _), (4, _), (5, _)]) ⟨rfl, rfl, rfl, rfl, rfl, rfl, trivial⟩ ?_
            exact hI _ (by rw [hbt.2]; exact h9)
          · refine go_iload hF d_Mo_settle_398 rfl ?_
            refine go_if_eq (tgt := 424) hF d_Mo_settle_400 (by decide) (fun h400 => ?_) (fun h400 => ?_)
            · refine go_iincN hF d_Mo_settle_424 rfl (by decide) ?_
              refine go_lv (lv' := [(0, _), (1, _), (2, _), (3, _), (4, _), (5, _), (6, _), (7, _), (8, _), (9, _), (10, _)]) ⟨rfl, rfl, rfl, rfl, rfl, rfl, rfl, rfl, rfl, rfl, rfl, trivial⟩ ?_
              refine go_goto (tgt := 251) hF d_Mo_settle_427 (by decide) ?_
              exact absurd h400 (by decide)
            · have hbt := Rel_tc_t hr hpk (Or.inr ⟨by simpa using h353, by simpa using h359, bi_1 h383⟩)
              refine go_aload_n hF d_Mo_settle_403 rfl ?_
              refine gs_getr hF hK d_Mo_settle_404 fl_Mo_7 h4 rfl rfl (by decide) rfl ?_
              refine go_iload hF d_Mo_settle_407 rfl ?_
              refine go_iconst (v := 4) hF d_Mo_settle_409 (by decide) ?_
              refine go_iadd hF d_Mo_settle_410 ?_
              refine go_dup2 hF d_Mo_settle_411 rfl rfl ?_
              refine gs_md hF hK hT d_Mo_settle_412 h4 (ix1 (k := 4) (n := 1300 + 5 * p) rfl) (by omega) ?_
              refine go_iconst (v := 1) hF d_Mo_settle_413 (by decide) ?_
              refine go_iadd hF d_Mo_settle_414 ?_
              refine gs_ms hF hK hT hlo d_Mo_settle_415 h4 (ix1 (k := 4) (n := 1300 + 5 * p) rfl) (by omega) ?_
              refine go_aload_n hF d_Mo_settle_416 rfl ?_
              refine go_iload hF d_Mo_settle_417 rfl ?_
              refine go_iload hF d_Mo_settle_419 rfl ?_
              refine go_callVX hF hE hlo d_Mo_settle_421 (con_Mo_spoil (K := K + 1) (c := sI (tcW (asW (rf2 c ι n (cW c ι) (aft c ι n (cG c ι))) ι (nI n) (rse c ι n (aft c ι n (cG c ι))) (cG c ι)) ι (cG c ι) (nI n) (rse c ι n (aft c ι n (cG c ι))) p) 0 ι 15 4 p (wI (tcW (asW (rf2 c ι n (cW c ι) (aft c ι n (cG c ι))) ι (nI n) (rse c ι n (aft c ι n (cG c ι))) (cG c ι)) ι (cG c ι) (nI n) (rse c ι n (aft c ι n (cG c ι))) p) 0 ι 15 4 p + 1)) (ι := ι) (k := p) hlt h4 (by rw [rd_II, if_neg (by omega)]; exact hck.2.1) (by rw [rd_II, if_neg (by omega)]; exact hck.2.2.1) hbt.1) mt_Mo_spoil mv_Mo_spoil lk_Mo_67 ⟨rfl, rfl, by decide, by decide⟩ rfl (Nat.le_of_ble_eq_true rfl) ⟨by decide, by decide⟩ (fun H hG => gw_recv (q := (R_Mo, T_Mo, 9)) hK hG h4 rfl rfl (by decide) rfl) (fun M => gx_no) rfl (fun v => ?_)
              refine go_ex (fun f3 => ?_)
              refine go_and (fun h9 => ?_)
              refine go_and (fun hv => ?_)
              subst hv
              rw [cG_b, hcg] at h9
              refine go_iincN hF d_Mo_settle_424 rfl (by decide) ?_
              refine go_lv (lv' := [(0, _), (1, _), (2, _), (3, _), (4, _), (5, _), (6, _), (7, _), (8, _), (9, _), (10, _)]) ⟨rfl, rfl, rfl, rfl, rfl, rfl, rfl, rfl, rfl, rfl, rfl, trivial⟩ ?_
              refine go_goto (tgt := 251) hF d_Mo_settle_427 (by decide) ?_
              refine go_lv (lv' := [(0, _), (1, _), (2, _), (3, _), (4, _), (5, _)]) ⟨rfl, rfl, rfl, rfl, rfl, rfl, trivial⟩ ?_
              exact hI _ (by rw [hbt.2]; exact h9)
  have L251 : ¬ (aft c ι n (cG c ι)) = wI c 0 ι 13 2 n → ∀ (m p : Nat) (f2 : Nat → Int32), cK c ι - p = m → p ≤ cK c ι → Rel (K + 1) (tcW (asW (rf2 c ι n (cW c ι) (aft c ι n (cG c ι))) ι (nI n) (rse c ι n (aft c ι n (cG c ι))) (cG c ι)) ι (cG c ι) (nI n) (rse c ι n (aft c ι n (cG c ι))) p) ι f2 → Go F 251 [(0, .ref (ad B 4 0 0 0)), (1, .int (nI n)), (2, .int (wI c 0 ι 13 2 n)), (3, .int (aft c ι n (cG c ι))), (4, .int (rse c ι n (aft c ι n (cG c ι)))), (5, .int (nI p))] [] (gw E B N (mW w f2)) 0 0 := by
    intro hne
    intro m
    induction m using Nat.strongRecOn with
    | _ m ih =>
      intro p f2 hm hp hr
      have hkc : cK (tcW (asW (rf2 c ι n (cW c ι) (aft c ι n (cG c ι))) ι (nI n) (rse c ι n (aft c ι n (cG c ι))) (cG c ι)) ι (cG c ι) (nI n) (rse c ι n (aft c ι n (cG c ι))) p) ι = cK c ι := by rw [cK_tc, cK_as, cK_rf2]
      have hg := Rel_k hr
      rw [hkc] at hg
      refine go_iload hF d_Mo_settle_251 rfl ?_
      refine go_aload_n hF d_Mo_settle_253 rfl ?_
      refine gs_getr hF hK d_Mo_settle_254 fl_Mo_7 h4 rfl rfl (by decide) rfl ?_
      refine go_iconst (v := 5) hF d_Mo_settle_257 (by decide) ?_
      refine gs_md hF hK hT d_Mo_settle_258 h4 (show (5 : Int32) = nI 5 from rfl) (by decide) ?_
      refine go_icmp_ge (tgt := 430) hF d_Mo_settle_259 (by decide) (fun h259 => ?_) (fun h259 => ?_)
      · have e := nI_g2 hg (by decide) hp h259
        subst e
        refine go_lv (lv' := [(0, _), (1, _), (2, _), (3, _), (4, _)]) ⟨rfl, rfl, rfl, rfl, rfl, trivial⟩ ?_
        exact J430 f2 hne hr
      · have hp2 : p < cK c ι := nI_l2 hg (by decide) hp h259
        have hvk := Rel_vk hr (show p < cK (tcW (asW (rf2 c ι n (cW c ι) (aft c ι n (cG c ι))) ι (nI n) (rse c ι n (aft c ι n (cG c ι))) (cG c ι)) ι (cG c ι) (nI n) (rse c ι n (aft c ι n (cG c ι))) p) ι by rw [hkc]; exact hp2)
        refine go_sipush (v := 1300) hF d_Mo_settle_262 (by decide) ?_
        refine go_iconst (v := 5) hF d_Mo_settle_265 (by decide) ?_
        refine go_iload hF d_Mo_settle_266 rfl ?_
        refine go_imul hF d_Mo_settle_268 ?_
        refine go_iadd hF d_Mo_settle_269 ?_
        refine go_lv (lv' := [(0, _), (1, _), (2, _), (3, _), (4, _), (5, _)]) ⟨rfl, rfl, rfl, rfl, rfl, rfl, trivial⟩ ?_
        refine go_istore hF d_Mo_settle_270 (by decide) ?_
        refine go_lv (lv' := [(0, _), (1, _), (2, _), (3, _), (4, _), (5, _), (6, _)]) ⟨rfl, rfl, rfl, rfl, rfl, rfl, rfl, trivial⟩ ?_
        refine go_aload_n hF d_Mo_settle_272 rfl ?_
        refine gs_getr hF hK d_Mo_settle_273 fl_Mo_7 h4 rfl rfl (by decide) rfl ?_
        refine go_iload hF d_Mo_settle_276 rfl ?_
        refine go_iconst (v := 1) hF d_Mo_settle_278 (by decide) ?_
        refine go_iadd hF d_Mo_settle_279 ?_
        refine gs_md hF hK hT d_Mo_settle_280 h4 (ix1 (k := 1) (ixC (a := 1300) (b := 5) (n := p) rfl)) (by omega) ?_
        refine go_istore hF d_Mo_settle_281 (by decide) ?_
        refine go_lv (lv' := [(0, _), (1, _), (2, _), (3, _), (4, _), (5, _), (6, _), (7, _)]) ⟨rfl, rfl, rfl, rfl, rfl, rfl, rfl, rfl, trivial⟩ ?_
        refine go_aload_n hF d_Mo_settle_283 rfl ?_
        refine gs_getr hF hK d_Mo_settle_284 fl_Mo_7 h4 rfl rfl (by decide) rfl ?_
        refine go_iload hF d_Mo_settle_287 rfl ?_
        refine go_iconst (v := 2) hF d_Mo_settle_289 (by decide) ?_
        refine go_iadd hF d_Mo_settle_290 ?_
        refine gs_md hF hK hT d_Mo_settle_291 h4 (ix1 (k := 2) (ixC (a := 1300) (b := 5) (n := p) rfl)) (by omega) ?_
        refine go_istore hF d_Mo_settle_292 (by decide) ?_
        refine go_lv (lv' := [(0, _), (1, _), (2, _), (3, _), (4, _), (5, _), (6, _), (7, _), (8, _)]) ⟨rfl, rfl, rfl, rfl, rfl, rfl, rfl, rfl, rfl, trivial⟩ ?_
        refine go_aload_n hF d_Mo_settle_294 rfl ?_
        refine gs_getr hF hK d_Mo_settle_295 fl_Mo_7 h4 rfl rfl (by decide) rfl ?_
        refine go_iload hF d_Mo_settle_298 rfl ?_
        refine gs_md hF hK hT d_Mo_settle_300 h4 (ixC (a := 1300) (b := 5) (n := p) rfl) (by omega) ?_
        refine go_if_ne (tgt := 342) hF d_Mo_settle_301 (by decide) (fun h301 => ?_) (fun h301 => ?_)
        · refine go_iconst (v := 0) hF d_Mo_settle_342 (by decide) ?_
          refine go_istore hF d_Mo_settle_343 (by decide) ?_
          refine go_lv (lv' := [(0, _), (1, _), (2, _), (3, _), (4, _), (5, _), (6, _), (7, _), (8, _), (9, _)]) ⟨rfl, rfl, rfl, rfl, rfl, rfl, rfl, rfl, rfl, rfl, trivial⟩ ?_
          refine go_lv (lv' := [(0, _), (1, _), (2, _), (3, _), (4, _), (5, _), (6, .int (nI (1300 + 5 * p))), (7, _), (8, _), (9, _)]) ⟨rfl, rfl, rfl, rfl, rfl, rfl, by rw [← ixC (a := 1300) (b := 5) (n := p) rfl]; rfl, rfl, rfl, rfl, trivial⟩ ?_
          exact J345 p 0 f2 (⟨fun _ z => h301 z.1, fun _ => rfl⟩) hp2 hr (fun f3 h3 => ih _ (by omega) (p + 1) f3 rfl (by omega) h3)
        · refine go_iload hF d_Mo_settle_304 rfl ?_
          refine go_iload_n hF d_Mo_settle_306 rfl ?_
          refine go_icmp_ne (tgt := 342) hF d_Mo_settle_307 (by decide) (fun h307 => ?_) (fun h307 => ?_)
          · refine go_iconst (v := 0) hF d_Mo_settle_342 (by decide) ?_
            refine go_istore hF d_Mo_settle_343 (by decide) ?_
            refine go_lv (lv' := [(0, _), (1, _), (2, _), (3, _), (4, _), (5, _), (6, _), (7, _), (8, _), (9, _)]) ⟨rfl, rfl, rfl, rfl, rfl, rfl, rfl, rfl, rfl, rfl, trivial⟩ ?_
            refine go_lv (lv' := [(0, _), (1, _), (2, _), (3, _), (4, _), (5, _), (6, .int (nI (1300 + 5 * p))), (7, _), (8, _), (9, _)]) ⟨rfl, rfl, rfl, rfl, rfl, rfl, by rw [← ixC (a := 1300) (b := 5) (n := p) rfl]; rfl, rfl, rfl, rfl, trivial⟩ ?_
            exact J345 p 0 f2 (⟨fun _ z => h307 z.2.1, fun _ => rfl⟩) hp2 hr (fun f3 h3 => ih _ (by omega) (p + 1) f3 rfl (by omega) h3)
          · refine go_iload hF d_Mo_settle_310 rfl ?_
            refine go_if_eq (tgt := 342) hF d_Mo_settle_312 (by decide) (fun h312 => ?_) (fun h312 => ?_)
            · refine go_iconst (v := 0) hF d_Mo_settle_342 (by decide) ?_
              refine go_istore hF d_Mo_settle_343 (by decide) ?_
              refine go_lv (lv' := [(0, _), (1, _), (2, _), (3, _), (4, _), (5, _), (6, _), (7, _), (8, _), (9, _)]) ⟨rfl, rfl, rfl, rfl, rfl, rfl, rfl, rfl, rfl, rfl, trivial⟩ ?_
              refine go_lv (lv' := [(0, _), (1, _), (2, _), (3, _), (4, _), (5, _), (6, .int (nI (1300 + 5 * p))), (7, _), (8, _), (9, _)]) ⟨rfl, rfl, rfl, rfl, rfl, rfl, by rw [← ixC (a := 1300) (b := 5) (n := p) rfl]; rfl, rfl, rfl, rfl, trivial⟩ ?_
              exact J345 p 0 f2 (⟨fun _ z => z.2.2.1 h312, fun _ => rfl⟩) hp2 hr (fun f3 h3 => ih _ (by omega) (p + 1) f3 rfl (by omega) h3)
            · refine go_aload_n hF d_Mo_settle_315 rfl ?_
              refine go_aload_n hF d_Mo_settle_316 rfl ?_
              refine go_iload hF d_Mo_settle_317 rfl ?_
              refine go_iconst (v := 5) hF d_Mo_settle_319 (by decide) ?_
              refine go_callVX hF hE hlo d_Mo_settle_320 (con_Mo_ofNet hlt h4 (k := 5) hvk.2.1 hvk.2.2 rfl (by decide)) mt_Mo_ofNet mv_Mo_ofNet lk_Mo_32 ⟨rfl, rfl, by decide, by decide⟩ rfl (Nat.le_of_ble_eq_true rfl) ⟨by decide, by decide⟩ (fun H hG => gw_recv (q := (R_Mo, T_Mo, 9)) hK hG h4 rfl rfl (by decide) rfl) (fun M => gx_no) rfl (fun v => ?_)
              refine go_and (fun hv => ?_)
              subst hv
              refine go_aload_n hF d_Mo_settle_323 rfl ?_
              refine gs_getr hF hK d_Mo_settle_324 fl_Mo_7 h4 rfl rfl (by decide) rfl ?_
              refine go_iload hF d_Mo_settle_327 rfl ?_
              refine go_iconst (v := 3) hF d_Mo_settle_329 (by decide) ?_
              refine go_iadd hF d_Mo_settle_330 ?_
              refine gs_md hF hK hT d_Mo_settle_331 h4 (ix1 (k := 3) (ixC (a := 1300) (b := 5) (n := p) rfl)) (by omega) ?_
              refine go_callVX hF hE hlo d_Mo_settle_332 (con_Mo_near hlt h4 _ _) mt_Mo_near mv_Mo_near lk_Mo_63 ⟨rfl, rfl, by decide, by decide⟩ rfl (Nat.le_of_ble_eq_true rfl) ⟨by decide, by decide⟩ (fun H hG => gw_recv (q := (R_Mo, T_Mo, 9)) hK hG h4 rfl rfl (by decide) rfl) (fun M => gx_no) rfl (fun v => ?_)
              refine go_and (fun hv => ?_)
              subst hv
              refine go_if_eq (tgt := 342) hF d_Mo_settle_335 (by decide) (fun h335 => ?_) (fun h335 => ?_)
              · refine go_iconst (v := 0) hF d_Mo_settle_342 (by decide) ?_
                refine go_istore hF d_Mo_settle_343 (by decide) ?_
                refine go_lv (lv' := [(0, _), (1, _), (2, _), (3, _), (4, _), (5, _), (6, _), (7, _), (8, _), (9, _)]) ⟨rfl, rfl, rfl, rfl, rfl, rfl, rfl, rfl, rfl, rfl, trivial⟩ ?_
                refine go_lv (lv' := [(0, _), (1, _), (2, _), (3, _), (4, _), (5, _), (6, .int (nI (1300 + 5 * p))), (7, _), (8, _), (9, _)]) ⟨rfl, rfl, rfl, rfl, rfl, rfl, by rw [← ixC (a := 1300) (b := 5) (n := p) rfl]; rfl, rfl, rfl, rfl, trivial⟩ ?_
                exact J345 p 0 f2 (⟨fun _ z => bi_0 h335 z.2.2.2, fun _ => rfl⟩) hp2 hr (fun f3 h3 => ih _ (by omega) (p + 1) f3 rfl (by omega) h3)
              · refine go_iconst (v := 1) hF d_Mo_settle_338 (by decide) ?_
                refine go_goto (tgt := 343) hF d_Mo_settle_339 (by decide) ?_
                refine go_istore hF d_Mo_settle_343 (by decide) ?_
                refine go_lv (lv' := [(0, _), (1, _), (2, _), (3, _), (4, _), (5, _), (6, _), (7, _), (8, _), (9, _)]) ⟨rfl, rfl, rfl, rfl, rfl, rfl, rfl, rfl, rfl, rfl, trivial⟩ ?_
                refine go_lv (lv' := [(0, _), (1, _), (2, _), (3, _), (4, _), (5, _), (6, .int (nI (1300 + 5 * p))), (7, _), (8, _), (9, _)]) ⟨rfl, rfl, rfl, rfl, rfl, rfl, by rw [← ixC (a := 1300) (b := 5) (n := p) rfl]; rfl, rfl, rfl, rfl, trivial⟩ ?_
                exact J345 p 1 f2 (⟨fun z => absurd z (by decide), fun z => absurd ⟨by simpa using h301, by simpa using h307, h312, bi_1 h335⟩ z⟩) hp2 hr (fun f3 h3 => ih _ (by omega) (p + 1) f3 rfl (by omega) h3)
  have L145 : ¬ (aft c ι n (cG c ι)) = wI c 0 ι 13 2 n → ∀ (m p : Nat) (f2 : Nat → Int32), cG c ι - p = m → p ≤ cG c ι → Rel (K + 1) (asW (rf2 c ι n (cW c ι) (aft c ι n (cG c ι))) ι (nI n) (rse c ι n (aft c ι n (cG c ι))) p) ι f2 → Go F 145 [(0, .ref (ad B 4 0 0 0)), (1, .int (nI n)), (2, .int (wI c 0 ι 13 2 n)), (3, .int (aft c ι n (cG c ι))), (4, .int (rse c ι n (aft c ι n (cG c ι)))), (5, .int (nI p))] [] (gw E B N (mW w f2)) 0 0 := by
    intro hne
    intro m
    induction m using Nat.strongRecOn with
    | _ m ih =>
      intro p f2 hm hp hr
      have hgc : cG (asW (rf2 c ι n (cW c ι) (aft c ι n (cG c ι))) ι (nI n) (rse c ι n (aft c ι n (cG c ι))) p) ι = cG c ι := by rw [cG_as, cG_rf2]
      have hg := Rel_g hr
      rw [hgc] at hg
      refine go_iload hF d_Mo_settle_145 rfl ?_
      refine go_aload_n hF d_Mo_settle_147 rfl ?_
      refine gs_getr hF hK d_Mo_settle_148 fl_Mo_7 h4 rfl rfl (by decide) rfl ?_
      refine go_iconst (v := 3) hF d_Mo_settle_151 (by decide) ?_
      refine gs_md hF hK hT d_Mo_settle_152 h4 (show (3 : Int32) = nI 3 from rfl) (by decide) ?_
      refine go_icmp_ge (tgt := 248) hF d_Mo_settle_153 (by decide) (fun h153 => ?_) (fun h153 => ?_)
      · refine go_iconst (v := 0) hF d_Mo_settle_248 (by decide) ?_
        refine go_istore hF d_Mo_settle_249 (by decide) ?_
        refine go_lv (lv' := [(0, _), (1, _), (2, _), (3, _), (4, _), (5, _)]) ⟨rfl, rfl, rfl, rfl, rfl, rfl, trivial⟩ ?_
        have e := nI_g2 hg (by decide) hp h153
        subst e
        refine go_lv (lv' := [(0, _), (1, _), (2, _), (3, _), (4, _), (5, .int (nI 0))]) ⟨rfl, rfl, rfl, rfl, rfl, rfl, trivial⟩ ?_
        exact L251 hne _ 0 f2 rfl (Nat.zero_le _) hr
      · have hp2 : p < cG c ι := nI_l2 hg (by decide) hp h153
        have hpu : p < cG (rf2 c ι n (cW c ι) (aft c ι n (cG c ι))) ι := by rw [cG_rf2]; exact hp2
        have hva := Rel_va hr (show p < cG (asW (rf2 c ι n (cW c ι) (aft c ι n (cG c ι))) ι (nI n) (rse c ι n (aft c ι n (cG c ι))) p) ι by rw [hgc]; exact hp2)
        refine go_aload_n hF d_Mo_settle_156 rfl ?_
        refine go_iload hF d_Mo_settle_157 rfl ?_
        refine go_iconst (v := 1) hF d_Mo_settle_159 (by decide) ?_
        refine go_callVX hF hE hlo d_Mo_settle_160 (con_Mo_ofGate hlt h4 (k := 1) rfl (by have := hg.2; omega) rfl (by decide)) mt_Mo_ofGate mv_Mo_ofGate lk_Mo_36 ⟨rfl, rfl, by decide, by decide⟩ rfl (Nat.le_of_ble_eq_true rfl) ⟨by decide, by decide⟩ (fun H hG => gw_recv (q := (R_Mo, T_Mo, 9)) hK hG h4 rfl rfl (by decide) rfl) (fun M => gx_no) rfl (fun v => ?_)
        refine go_and (fun hv => ?_)
        subst hv
        refine go_iload_n hF d_Mo_settle_163 rfl ?_
        refine go_icmp_eq (tgt := 178) hF d_Mo_settle_164 (by decide) (fun h164 => ?_) (fun h164 => ?_)
        · refine go_iconst (v := 1) hF d_Mo_settle_178 (by decide) ?_
          refine go_goto (tgt := 183) hF d_Mo_settle_179 (by decide) ?_
          refine go_istore hF d_Mo_settle_183 (by decide) ?_
          refine go_lv (lv' := [(0, _), (1, _), (2, _), (3, _), (4, _), (5, _), (6, _)]) ⟨rfl, rfl, rfl, rfl, rfl, rfl, rfl, trivial⟩ ?_
          refine go_aload_n hF d_Mo_settle_185 rfl ?_
          refine go_iload hF d_Mo_settle_186 rfl ?_
          refine go_iconst (v := 0) hF d_Mo_settle_188 (by decide) ?_
          refine go_callVX hF hE hlo d_Mo_settle_189 (con_Mo_ofGate hlt h4 (k := 0) rfl (by have := hg.2; omega) rfl (by decide)) mt_Mo_ofGate mv_Mo_ofGate lk_Mo_36 ⟨rfl, rfl, by decide, by decide⟩ rfl (Nat.le_of_ble_eq_true rfl) ⟨by decide, by decide⟩ (fun H hG => gw_recv (q := (R_Mo, T_Mo, 9)) hK hG h4 rfl rfl (by decide) rfl) (fun M => gx_no) rfl (fun v => ?_)
          refine go_and (fun hv => ?_)
          subst hv
          refine go_bipush (v := 7) hF d_Mo_settle_192 (by decide) ?_
          refine go_icmp_ne (tgt := 221) hF d_Mo_settle_194 (by decide) (fun h194 => ?_) (fun h194 => ?_)
          · refine go_iload hF d_Mo_settle_221 rfl ?_
            refine go_istore hF d_Mo_settle_223 (by decide) ?_
            refine go_lv (lv' := [(0, _), (1, _), (2, _), (3, _), (4, _), (5, _), (6, _), (7, _)]) ⟨rfl, rfl, rfl, rfl, rfl, rfl, rfl, rfl, trivial⟩ ?_
            refine go_iload hF d_Mo_settle_225 rfl ?_
            refine go_if_eq (tgt := 242) hF d_Mo_settle_227 (by decide) (fun h227 => ?_) (fun h227 => ?_)
            · exact absurd h227 (by decide)
            · refine go_aload_n hF d_Mo_settle_230 rfl ?_
              refine go_iload hF d_Mo_settle_231 rfl ?_
              refine go_aload_n hF d_Mo_settle_233 rfl ?_
              refine go_iload hF d_Mo_settle_234 rfl ?_
              refine go_callVX hF hE hlo d_Mo_settle_236 (con_Mo_gives hlt h4 rfl (by have := hg.2; omega) hva.1 hva.2.1) mt_Mo_gives mv_Mo_gives lk_Mo_56 ⟨rfl, rfl, by decide, by decide⟩ rfl (Nat.le_of_ble_eq_true rfl) ⟨by decide, by decide⟩ (fun H hG => gw_recv (q := (R_Mo, T_Mo, 9)) hK hG h4 rfl rfl (by decide) rfl) (fun M => gx_no) rfl (fun v => ?_)
              refine go_and (fun hv => ?_)
              subst hv
              refine go_callVX hF hE hlo d_Mo_settle_239 (con_Mo_ask hlt h4 rfl (by have := hg.2; omega) _) mt_Mo_ask mv_Mo_ask lk_Mo_59 ⟨rfl, rfl, by decide, by decide⟩ rfl (Nat.le_of_ble_eq_true rfl) ⟨by decide, by decide⟩ (fun H hG => gw_recv (q := (R_Mo, T_Mo, 9)) hK hG h4 rfl rfl (by decide) rfl) (fun M => gx_no) rfl (fun v => ?_)
              refine go_and (fun hv => ?_)
              subst hv
              refine go_iincN hF d_Mo_settle_242 rfl (by decide) ?_
              refine go_lv (lv' := [(0, _), (1, _), (2, _), (3, _), (4, _), (5, _), (6, _), (7, _)]) ⟨rfl, rfl, rfl, rfl, rfl, rfl, rfl, rfl, trivial⟩ ?_
              refine go_goto (tgt := 145) hF d_Mo_settle_245 (by decide) ?_
              refine go_lv (lv' := [(0, _), (1, _), (2, _), (3, _), (4, _), (5, _)]) ⟨rfl, rfl, rfl, rfl, rfl, rfl, trivial⟩ ?_
              exact ih _ (by omega) (p + 1) _ rfl (by omega) (Rel_as_t hr hpu (by first | contradiction | (unfold hrF; simp only [h153, h164, h194, h227, not_true, not_false_eq_true, true_and, false_and, and_true, and_false, or_true, true_or, or_false, false_or])))
          · refine go_aload_n hF d_Mo_settle_197 rfl ?_
            refine go_iload hF d_Mo_settle_198 rfl ?_
            refine go_iconst (v := 2) hF d_Mo_settle_200 (by decide) ?_
            refine go_callVX hF hE hlo d_Mo_settle_201 (con_Mo_ofGate hlt h4 (k := 2) rfl (by have := hg.2; omega) rfl (by decide)) mt_Mo_ofGate mv_Mo_ofGate lk_Mo_36 ⟨rfl, rfl, by decide, by decide⟩ rfl (Nat.le_of_ble_eq_true rfl) ⟨by decide, by decide⟩ (fun H hG => gw_recv (q := (R_Mo, T_Mo, 9)) hK hG h4 rfl rfl (by decide) rfl) (fun M => gx_no) rfl (fun v => ?_)
            refine go_and (fun hv => ?_)
            subst hv
            refine go_iload_n hF d_Mo_settle_204 rfl ?_
            refine go_icmp_ne (tgt := 217) hF d_Mo_settle_205 (by decide) (fun h205 => ?_) (fun h205 => ?_)
            · refine go_iconst (v := 0) hF d_Mo_settle_217 (by decide) ?_
              refine go_goto (tgt := 223) hF d_Mo_settle_218 (by decide) ?_
              refine go_istore hF d_Mo_settle_223 (by decide) ?_
              refine go_lv (lv' := [(0, _), (1, _), (2, _), (3, _), (4, _), (5, _), (6, _), (7, _)]) ⟨rfl, rfl, rfl, rfl, rfl, rfl, rfl, rfl, trivial⟩ ?_
              refine go_iload hF d_Mo_settle_225 rfl ?_
              refine go_if_eq (tgt := 242) hF d_Mo_settle_227 (by decide) (fun h227 => ?_) (fun h227 => ?_)
              · refine go_iincN hF d_Mo_settle_242 rfl (by decide) ?_
                refine go_lv (lv' := [(0, _), (1, _), (2, _), (3, _), (4, _), (5, _), (6, _), (7, _)]) ⟨rfl, rfl, rfl, rfl, rfl, rfl, rfl, rfl, trivial⟩ ?_
                refine go_goto (tgt := 145) hF d_Mo_settle_245 (by decide) ?_
                refine go_lv (lv' := [(0, _), (1, _), (2, _), (3, _), (4, _), (5, _)]) ⟨rfl, rfl, rfl, rfl, rfl, rfl, trivial⟩ ?_
                exact ih _ (by omega) (p + 1) _ rfl (by omega) (Rel_as_f hr hpu (by first | contradiction | (unfold hrF; simp only [h153, h164, h194, h205, h227, not_true, not_false_eq_true, true_and, false_and, and_true, and_false, or_true, true_or, or_false, false_or])))
              · exact absurd rfl h227
            · refine go_iload hF d_Mo_settle_208 rfl ?_
              refine go_if_eq (tgt := 217) hF d_Mo_settle_210 (by decide) (fun h210 => ?_) (fun h210 => ?_)
              · refine go_iconst (v := 0) hF d_Mo_settle_217 (by decide) ?_
                refine go_goto (tgt := 223) hF d_Mo_settle_218 (by decide) ?_
                refine go_istore hF d_Mo_settle_223 (by decide) ?_
                refine go_lv (lv' := [(0, _), (1, _), (2, _), (3, _), (4, _), (5, _), (6, _), (7, _)]) ⟨rfl, rfl, rfl, rfl, rfl, rfl, rfl, rfl, trivial⟩ ?_
                refine go_iload hF d_Mo_settle_225 rfl ?_
                refine go_if_eq (tgt := 242) hF d_Mo_settle_227 (by decide) (fun h227 => ?_) (fun h227 => ?_)
                · refine go_iincN hF d_Mo_settle_242 rfl (by decide) ?_
                  refine go_lv (lv' := [(0, _), (1, _), (2, _), (3, _), (4, _), (5, _), (6, _), (7, _)]) ⟨rfl, rfl, rfl, rfl, rfl, rfl, rfl, rfl, trivial⟩ ?_
                  refine go_goto (tgt := 145) hF d_Mo_settle_245 (by decide) ?_
                  refine go_lv (lv' := [(0, _), (1, _), (2, _), (3, _), (4, _), (5, _)]) ⟨rfl, rfl, rfl, rfl, rfl, rfl, trivial⟩ ?_
                  exact ih _ (by omega) (p + 1) _ rfl (by omega) (Rel_as_f hr hpu (by first | contradiction | (unfold hrF; simp only [h153, h164, h194, h205, h210, h227, not_true, not_false_eq_true, true_and, false_and, and_true, and_false, or_true, true_or, or_false, false_or])))
                · exact absurd rfl h227
              · refine go_iconst (v := 1) hF d_Mo_settle_213 (by decide) ?_
                refine go_goto (tgt := 223) hF d_Mo_settle_214 (by decide) ?_
                refine go_istore hF d_Mo_settle_223 (by decide) ?_
                refine go_lv (lv' := [(0, _), (1, _), (2, _), (3, _), (4, _), (5, _), (6, _), (7, _)]) ⟨rfl, rfl, rfl, rfl, rfl, rfl, rfl, rfl, trivial⟩ ?_
                refine go_iload hF d_Mo_settle_225 rfl ?_
                refine go_if_eq (tgt := 242) hF d_Mo_settle_227 (by decide) (fun h227 => ?_) (fun h227 => ?_)
                · exact absurd h227 (by decide)
                · refine go_aload_n hF d_Mo_settle_230 rfl ?_
                  refine go_iload hF d_Mo_settle_231 rfl ?_
                  refine go_aload_n hF d_Mo_settle_233 rfl ?_
                  refine go_iload hF d_Mo_settle_234 rfl ?_
                  refine go_callVX hF hE hlo d_Mo_settle_236 (con_Mo_gives hlt h4 rfl (by have := hg.2; omega) hva.1 hva.2.1) mt_Mo_gives mv_Mo_gives lk_Mo_56 ⟨rfl, rfl, by decide, by decide⟩ rfl (Nat.le_of_ble_eq_true rfl) ⟨by decide, by decide⟩ (fun H hG => gw_recv (q := (R_Mo, T_Mo, 9)) hK hG h4 rfl rfl (by decide) rfl) (fun M => gx_no) rfl (fun v => ?_)
                  refine go_and (fun hv => ?_)
                  subst hv
                  refine go_callVX hF hE hlo d_Mo_settle_239 (con_Mo_ask hlt h4 rfl (by have := hg.2; omega) _) mt_Mo_ask mv_Mo_ask lk_Mo_59 ⟨rfl, rfl, by decide, by decide⟩ rfl (Nat.le_of_ble_eq_true rfl) ⟨by decide, by decide⟩ (fun H hG => gw_recv (q := (R_Mo, T_Mo, 9)) hK hG h4 rfl rfl (by decide) rfl) (fun M => gx_no) rfl (fun v => ?_)
                  refine go_and (fun hv => ?_)
                  subst hv
                  refine go_iincN hF d_Mo_settle_242 rfl (by decide) ?_
                  refine go_lv (lv' := [(0, _), (1, _), (2, _), (3, _), (4, _), (5, _), (6, _), (7, _)]) ⟨rfl, rfl, rfl, rfl, rfl, rfl, rfl, rfl, trivial⟩ ?_
                  refine go_goto (tgt := 145) hF d_Mo_settle_245 (by decide) ?_
                  refine go_lv (lv' := [(0, _), (1, _), (2, _), (3, _), (4, _), (5, _)]) ⟨rfl, rfl, rfl, rfl, rfl, rfl, trivial⟩ ?_
                  exact ih _ (by omega) (p + 1) _ rfl (by omega) (Rel_as_t hr hpu (by first | contradiction | (unfold hrF; simp only [h153, h164, h194, h205, h210, h227, not_true, not_false_eq_true, true_and, false_and, and_true, and_false, or_true, true_or, or_false, false_or])))
        · refine go_aload_n hF d_Mo_settle_167 rfl ?_
          refine go_iload hF d_Mo_settle_168 rfl ?_
          refine go_iconst (v := 2) hF d_Mo_settle_170 (by decide) ?_
          refine go_callVX hF hE hlo d_Mo_settle_171 (con_Mo_ofGate hlt h4 (k := 2) rfl (by have := hg.2; omega) rfl (by decide)) mt_Mo_ofGate mv_Mo_ofGate lk_Mo_36 ⟨rfl, rfl, by decide, by decide⟩ rfl (Nat.le_of_ble_eq_true rfl) ⟨by decide, by decide⟩ (fun H hG => gw_recv (q := (R_Mo, T_Mo, 9)) hK hG h4 rfl rfl (by decide) rfl) (fun M => gx_no) rfl (fun v => ?_)
          refine go_and (fun hv => ?_)
          subst hv
          refine go_iload_n hF d_Mo_settle_174 rfl ?_
          refine go_icmp_ne (tgt := 182) hF d_Mo_settle_175 (by decide) (fun h175 => ?_) (fun h175 => ?_)
          · refine go_iconst (v := 0) hF d_Mo_settle_182 (by decide) ?_
            refine go_istore hF d_Mo_settle_183 (by decide) ?_
            refine go_lv (lv' := [(0, _), (1, _), (2, _), (3, _), (4, _), (5, _), (6, _)]) ⟨rfl, rfl, rfl, rfl, rfl, rfl, rfl, trivial⟩ ?_
            refine go_aload_n hF d_Mo_settle_185 rfl ?_
            refine go_iload hF d_Mo_settle_186 rfl ?_
            refine go_iconst (v := 0) hF d_Mo_settle_188 (by decide) ?_
            refine go_callVX hF hE hlo d_Mo_settle_189 (con_Mo_ofGate hlt h4 (k := 0) rfl (by have := hg.2; omega) rfl (by decide)) mt_Mo_ofGate mv_Mo_ofGate lk_Mo_36 ⟨rfl, rfl, by decide, by decide⟩ rfl (Nat.le_of_ble_eq_true rfl) ⟨by decide, by decide⟩ (fun H hG => gw_recv (q := (R_Mo, T_Mo, 9)) hK hG h4 rfl rfl (by decide) rfl) (fun M => gx_no) rfl (fun v => ?_)
            refine go_and (fun hv => ?_)
            subst hv
            refine go_bipush (v := 7) hF d_Mo_settle_192 (by decide) ?_
            refine go_icmp_ne (tgt := 221) hF d_Mo_settle_194 (by decide) (fun h194 => ?_) (fun h194 => ?_)
            · refine go_iload hF d_Mo_settle_221 rfl ?_
              refine go_istore hF d_Mo_settle_223 (by decide) ?_
              refine go_lv (lv' := [(0, _), (1, _), (2, _), (3, _), (4, _), (5, _), (6, _), (7, _)]) ⟨rfl, rfl, rfl, rfl, rfl, rfl, rfl, rfl, trivial⟩ ?_
              refine go_iload hF d_Mo_settle_225 rfl ?_
              refine go_if_eq (tgt := 242) hF d_Mo_settle_227 (by decide) (fun h227 => ?_) (fun h227 => ?_)
              · refine go_iincN hF d_Mo_settle_242 rfl (by decide) ?_
                refine go_lv (lv' := [(0, _), (1, _), (2, _), (3, _), (4, _), (5, _), (6, _), (7, _)]) ⟨rfl, rfl, rfl, rfl, rfl, rfl, rfl, rfl, trivial⟩ ?_
                refine go_goto (tgt := 145) hF d_Mo_settle_245 (by decide) ?_
                refine go_lv (lv' := [(0, _), (1, _), (2, _), (3, _), (4, _), (5, _)]) ⟨rfl, rfl, rfl, rfl, rfl, rfl, trivial⟩ ?_
                exact ih _ (by omega) (p + 1) _ rfl (by omega) (Rel_as_f hr hpu (by first | contradiction | (unfold hrF; simp only [h153, h164, h175, h194, h227, not_true, not_false_eq_true, true_and, false_and, and_true, and_false, or_true, true_or, or_false, false_or])))
              · exact absurd rfl h227
            · refine go_aload_n hF d_Mo_settle_197 rfl ?_
              refine go_iload hF d_Mo_settle_198 rfl ?_
              refine go_iconst (v := 2) hF d_Mo_settle_200 (by decide) ?_
              refine go_callVX hF hE hlo d_Mo_settle_201 (con_Mo_ofGate hlt h4 (k := 2) rfl (by have := hg.2; omega) rfl (by decide)) mt_Mo_ofGate mv_Mo_ofGate lk_Mo_36 ⟨rfl, rfl, by decide, by decide⟩ rfl (Nat.le_of_ble_eq_true rfl) ⟨by decide, by decide⟩ (fun H hG => gw_recv (q := (R_Mo, T_Mo, 9)) hK hG h4 rfl rfl (by decide) rfl) (fun M => gx_no) rfl (fun v => ?_)
              refine go_and (fun hv => ?_)
              subst hv
              refine go_iload_n hF d_Mo_settle_204 rfl ?_
              refine go_icmp_ne (tgt := 217) hF d_Mo_settle_205 (by decide) (fun h205 => ?_) (fun h205 => ?_)
              · refine go_iconst (v := 0) hF d_Mo_settle_217 (by decide) ?_
                refine go_goto (tgt := 223) hF d_Mo_settle_218 (by decide) ?_
                refine go_istore hF d_Mo_settle_223 (by decide) ?_
                refine go_lv (lv' := [(0, _), (1, _), (2, _), (3, _), (4, _), (5, _), (6, _), (7, _)]) ⟨rfl, rfl, rfl, rfl, rfl, rfl, rfl, rfl, trivial⟩ ?_
                refine go_iload hF d_Mo_settle_225 rfl ?_
                refine go_if_eq (tgt := 242) hF d_Mo_settle_227 (by decide) (fun h227 => ?_) (fun h227 => ?_)
                · refine go_iincN hF d_Mo_settle_242 rfl (by decide) ?_
                  refine go_lv (lv' := [(0, _), (1, _), (2, _), (3, _), (4, _), (5, _), (6, _), (7, _)]) ⟨rfl, rfl, rfl, rfl, rfl, rfl, rfl, rfl, trivial⟩ ?_
                  refine go_goto (tgt := 145) hF d_Mo_settle_245 (by decide) ?_
                  refine go_lv (lv' := [(0, _), (1, _), (2, _), (3, _), (4, _), (5, _)]) ⟨rfl, rfl, rfl, rfl, rfl, rfl, trivial⟩ ?_
                  exact ih _ (by omega) (p + 1) _ rfl (by omega) (Rel_as_f hr hpu (by first | contradiction | (unfold hrF; simp only [h153, h164, h175, h194, h205, h227, not_true, not_false_eq_true, true_and, false_and, and_true, and_false, or_true, true_or, or_false, false_or])))
                · exact absurd rfl h227
              · refine go_iload hF d_Mo_settle_208 rfl ?_
                refine go_if_eq (tgt := 217) hF d_Mo_settle_210 (by decide) (fun h210 => ?_) (fun h210 => ?_)
                · refine go_iconst (v := 0) hF d_Mo_settle_217 (by decide) ?_
                  refine go_goto (tgt := 223) hF d_Mo_settle_218 (by decide) ?_
                  refine go_istore hF d_Mo_settle_223 (by decide) ?_
                  refine go_lv (lv' := [(0, _), (1, _), (2, _), (3, _), (4, _), (5, _), (6, _), (7, _)]) ⟨rfl, rfl, rfl, rfl, rfl, rfl, rfl, rfl, trivial⟩ ?_
                  refine go_iload hF d_Mo_settle_225 rfl ?_
                  refine go_if_eq (tgt := 242) hF d_Mo_settle_227 (by decide) (fun h227 => ?_) (fun h227 => ?_)
                  · refine go_iincN hF d_Mo_settle_242 rfl (by decide) ?_
                    refine go_lv (lv' := [(0, _), (1, _), (2, _), (3, _), (4, _), (5, _), (6, _), (7, _)]) ⟨rfl, rfl, rfl, rfl, rfl, rfl, rfl, rfl, trivial⟩ ?_
                    refine go_goto (tgt := 145) hF d_Mo_settle_245 (by decide) ?_
                    refine go_lv (lv' := [(0, _), (1, _), (2, _), (3, _), (4, _), (5, _)]) ⟨rfl, rfl, rfl, rfl, rfl, rfl, trivial⟩ ?_
                    exact ih _ (by omega) (p + 1) _ rfl (by omega) (Rel_as_f hr hpu (by first | contradiction | (unfold hrF; simp only [h153, h164, h175, h194, h205, h210, h227, not_true, not_false_eq_true, true_and, false_and, and_true, and_false, or_true, true_or, or_false, false_or])))
                  · exact absurd rfl h227
                · refine go_iconst (v := 1) hF d_Mo_settle_213 (by decide) ?_
                  refine go_goto (tgt := 223) hF d_Mo_settle_214 (by decide) ?_
                  refine go_istore hF d_Mo_settle_223 (by decide) ?_
                  refine go_lv (lv' := [(0, _), (1, _), (2, _), (3, _), (4, _), (5, _), (6, _), (7, _)]) ⟨rfl, rfl, rfl, rfl, rfl, rfl, rfl, rfl, trivial⟩ ?_
                  refine go_iload hF d_Mo_settle_225 rfl ?_
                  refine go_if_eq (tgt := 242) hF d_Mo_settle_227 (by decide) (fun h227 => ?_) (fun h227 => ?_)
                  · exact absurd h227 (by decide)
                  · refine go_aload_n hF d_Mo_settle_230 rfl ?_
                    refine go_iload hF d_Mo_settle_231 rfl ?_
                    refine go_aload_n hF d_Mo_settle_233 rfl ?_
                    refine go_iload hF d_Mo_settle_234 rfl ?_
                    refine go_callVX hF hE hlo d_Mo_settle_236 (con_Mo_gives hlt h4 rfl (by have := hg.2; omega) hva.1 hva.2.1) mt_Mo_gives mv_Mo_gives lk_Mo_56 ⟨rfl, rfl, by decide, by decide⟩ rfl (Nat.le_of_ble_eq_true rfl) ⟨by decide, by decide⟩ (fun H hG => gw_recv (q := (R_Mo, T_Mo, 9)) hK hG h4 rfl rfl (by decide) rfl) (fun M => gx_no) rfl (fun v => ?_)
                    refine go_and (fun hv => ?_)
                    subst hv
                    refine go_callVX hF hE hlo d_Mo_settle_239 (con_Mo_ask hlt h4 rfl (by have := hg.2; omega) _) mt_Mo_ask mv_Mo_ask lk_Mo_59 ⟨rfl, rfl, by decide, by decide⟩ rfl (Nat.le_of_ble_eq_true rfl) ⟨by decide, by decide⟩ (fun H hG => gw_recv (q := (R_Mo, T_Mo, 9)) hK hG h4 rfl rfl (by decide) rfl) (fun M => gx_no) rfl (fun v => ?_)
                    refine go_and (fun hv => ?_)
                    subst hv
                    refine go_iincN hF d_Mo_settle_242 rfl (by decide) ?_
                    refine go_lv (lv' := [(0, _), (1, _), (2, _), (3, _), (4, _), (5, _), (6, _), (7, _)]) ⟨rfl, rfl, rfl, rfl, rfl, rfl, rfl, rfl, trivial⟩ ?_
                    refine go_goto (tgt := 145) hF d_Mo_settle_245 (by decide) ?_
                    refine go_lv (lv' := [(0, _), (1, _), (2, _), (3, _), (4, _), (5, _)]) ⟨rfl, rfl, rfl, rfl, rfl, rfl, trivial⟩ ?_
                    exact ih _ (by omega) (p + 1) _ rfl (by omega) (Rel_as_t hr hpu (by first | contradiction | (unfold hrF; simp only [h153, h164, h175, h194, h205, h210, h227, not_true, not_false_eq_true, true_and, false_and, and_true, and_false, or_true, true_or, or_false, false_or])))
          · refine go_iconst (v := 1) hF d_Mo_settle_178 (by decide) ?_
            refine go_goto (tgt := 183) hF d_Mo_settle_179 (by decide) ?_
            refine go_istore hF d_Mo_settle_183 (by decide) ?_
            refine go_lv (lv' := [(0, _), (1, _), (2, _), (3, _), (4, _), (5, _), (6, _)]) ⟨rfl, rfl, rfl, rfl, rfl, rfl, rfl, trivial⟩ ?_
            refine go_aload_n hF d_Mo_settle_185 rfl ?_
            refine go_iload hF d_Mo_settle_186 rfl ?_
            refine go_iconst (v := 0) hF d_Mo_settle_188 (by decide) ?_
            refine go_callVX hF hE hlo d_Mo_settle_189 (con_Mo_ofGate hlt h4 (k := 0) rfl (by have := hg.2; omega) rfl (by decide)) mt_Mo_ofGate mv_Mo_ofGate lk_Mo_36 ⟨rfl, rfl, by decide, by decide⟩ rfl (Nat.le_of_ble_eq_true rfl) ⟨by decide, by decide⟩ (fun H hG => gw_recv (q := (R_Mo, T_Mo, 9)) hK hG h4 rfl rfl (by decide) rfl) (fun M => gx_no) rfl (fun v => ?_)
            refine go_and (fun hv => ?_)
            subst hv
            refine go_bipush (v := 7) hF d_Mo_settle_192 (by decide) ?_
            refine go_icmp_ne (tgt := 221) hF d_Mo_settle_194 (by decide) (fun h194 => ?_) (fun h194 => ?_)
            · refine go_iload hF d_Mo_settle_221 rfl ?_
              refine go_istore hF d_Mo_settle_223 (by decide) ?_
              refine go_lv (lv' := [(0, _), (1, _), (2, _), (3, _), (4, _), (5, _), (6, _), (7, _)]) ⟨rfl, rfl, rfl, rfl, rfl, rfl, rfl, rfl, trivial⟩ ?_
              refine go_iload hF d_Mo_settle_225 rfl ?_
              refine go_if_eq (tgt := 242) hF d_Mo_settle_227 (by decide) (fun h227 => ?_) (fun h227 => ?_)
              · exact absurd h227 (by decide)
              · refine go_aload_n hF d_Mo_settle_230 rfl ?_
                refine go_iload hF d_Mo_settle_231 rfl ?_
                refine go_aload_n hF d_Mo_settle_233 rfl ?_
                refine go_iload hF d_Mo_settle_234 rfl ?_
                refine go_callVX hF hE hlo d_Mo_settle_236 (con_Mo_gives hlt h4 rfl (by have := hg.2; omega) hva.1 hva.2.1) mt_Mo_gives mv_Mo_gives lk_Mo_56 ⟨rfl, rfl, by decide, by decide⟩ rfl (Nat.le_of_ble_eq_true rfl) ⟨by decide, by decide⟩ (fun H hG => gw_recv (q := (R_Mo, T_Mo, 9)) hK hG h4 rfl rfl (by decide) rfl) (fun M => gx_no) rfl (fun v => ?_)
                refine go_and (fun hv => ?_)
                subst hv
                refine go_callVX hF hE hlo d_Mo_settle_239 (con_Mo_ask hlt h4 rfl (by have := hg.2; omega) _) mt_Mo_ask mv_Mo_ask lk_Mo_59 ⟨rfl, rfl, by decide, by decide⟩ rfl (Nat.le_of_ble_eq_true rfl) ⟨by decide, by decide⟩ (fun H hG => gw_recv (q := (R_Mo, T_Mo, 9)) hK hG h4 rfl rfl (by decide) rfl) (fun M => gx_no) rfl (fun v => ?_)
                refine go_and (fun hv => ?_)
                subst hv
                refine go_iincN hF d_Mo_settle_242 rfl (by decide) ?_
                refine go_lv (lv' := [(0, _), (1, _), (2, _), (3, _), (4, _), (5, _), (6, _), (7, _)]) ⟨rfl, rfl, rfl, rfl, rfl, rfl, rfl, rfl, trivial⟩ ?_
                refine go_goto (tgt := 145) hF d_Mo_settle_245 (by decide) ?_
                refine go_lv (lv' := [(0, _), (1, _), (2, _), (3, _), (4, _), (5, _)]) ⟨rfl, rfl, rfl, rfl, rfl, rfl, trivial⟩ ?_
                exact ih _ (by omega) (p + 1) _ rfl (by omega) (Rel_as_t hr hpu (by first | contradiction | (unfold hrF; simp only [h153, h164, h175, h194, h227, not_true, not_false_eq_true, true_and, false_and, and_true, and_false, or_true, true_or, or_false, false_or])))
            · refine go_aload_n hF d_Mo_settle_197 rfl ?_
              refine go_iload hF d_Mo_settle_198 rfl ?_
              refine go_iconst (v := 2) hF d_Mo_settle_200 (by decide) ?_
              refine go_callVX hF hE hlo d_Mo_settle_201 (con_Mo_ofGate hlt h4 (k := 2) rfl (by have := hg.2; omega) rfl (by decide)) mt_Mo_ofGate mv_Mo_ofGate lk_Mo_36 ⟨rfl, rfl, by decide, by decide⟩ rfl (Nat.le_of_ble_eq_true rfl) ⟨by decide, by decide⟩ (fun H hG => gw_recv (q := (R_Mo, T_Mo, 9)) hK hG h4 rfl rfl (by decide) rfl) (fun M => gx_no) rfl (fun v => ?_)
              refine go_and (fun hv => ?_)
              subst hv
              refine go_iload_n hF d_Mo_settle_204 rfl ?_
              refine go_icmp_ne (tgt := 217) hF d_Mo_settle_205 (by decide) (fun h205 => ?_) (fun h205 => ?_)
              · refine go_iconst (v := 0) hF d_Mo_settle_217 (by decide) ?_
                refine go_goto (tgt := 223) hF d_Mo_settle_218 (by decide) ?_
                refine go_istore hF d_Mo_settle_223 (by decide) ?_
                refine go_lv (lv' := [(0, _), (1, _), (2, _), (3, _), (4, _), (5, _), (6, _), (7, _)]) ⟨rfl, rfl, rfl, rfl, rfl, rfl, rfl, rfl, trivial⟩ ?_
                refine go_iload hF d_Mo_settle_225 rfl ?_
                refine go_if_eq (tgt := 242) hF d_Mo_settle_227 (by decide) (fun h227 => ?_) (fun h227 => ?_)
                · refine go_iincN hF d_Mo_settle_242 rfl (by decide) ?_
                  refine go_lv (lv' := [(0, _), (1, _), (2, _), (3, _), (4, _), (5, _), (6, _), (7, _)]) ⟨rfl, rfl, rfl, rfl, rfl, rfl, rfl, rfl, trivial⟩ ?_
                  refine go_goto (tgt := 145) hF d_Mo_settle_245 (by decide) ?_
                  refine go_lv (lv' := [(0, _), (1, _), (2, _), (3, _), (4, _), (5, _)]) ⟨rfl, rfl, rfl, rfl, rfl, rfl, trivial⟩ ?_
                  exact ih _ (by omega) (p + 1) _ rfl (by omega) (Rel_as_f hr hpu (by first | contradiction | (unfold hrF; simp only [h153, h164, h175, h194, h205, h227, not_true, not_false_eq_true, true_and, false_and, and_true, and_false, or_true, true_or, or_false, false_or])))
                · exact absurd rfl h227
              · refine go_iload hF d_Mo_settle_208 rfl ?_
                refine go_if_eq (tgt := 217) hF d_Mo_settle_210 (by decide) (fun h210 => ?_) (fun h210 => ?_)
                · refine go_iconst (v := 0) hF d_Mo_settle_217 (by decide) ?_
                  refine go_goto (tgt := 223) hF d_Mo_settle_218 (by decide) ?_
                  refine go_istore hF d_Mo_settle_223 (by decide) ?_
                  refine go_lv (lv' := [(0, _), (1, _), (2, _), (3, _), (4, _), (5, _), (6, _), (7, _)]) ⟨rfl, rfl, rfl, rfl, rfl, rfl, rfl, rfl, trivial⟩ ?_
                  refine go_iload hF d_Mo_settle_225 rfl ?_
                  refine go_if_eq (tgt := 242) hF d_Mo_settle_227 (by decide) (fun h227 => ?_) (fun h227 => ?_)
                  · refine go_iincN hF d_Mo_settle_242 rfl (by decide) ?_
                    refine go_lv (lv' := [(0, _), (1, _), (2, _), (3, _), (4, _), (5, _), (6, _), (7, _)]) ⟨rfl, rfl, rfl, rfl, rfl, rfl, rfl, rfl, trivial⟩ ?_
                    refine go_goto (tgt := 145) hF d_Mo_settle_245 (by decide) ?_
                    refine go_lv (lv' := [(0, _), (1, _), (2, _), (3, _), (4, _), (5, _)]) ⟨rfl, rfl, rfl, rfl, rfl, rfl, trivial⟩ ?_
                    exact ih _ (by omega) (p + 1) _ rfl (by omega) (Rel_as_f hr hpu (by first | contradiction | (unfold hrF; simp only [h153, h164, h175, h194, h205, h210, h227, not_true, not_false_eq_true, true_and, false_and, and_true, and_false, or_true, true_or, or_false, false_or])))
                  · exact absurd rfl h227
                · refine go_iconst (v := 1) hF d_Mo_settle_213 (by decide) ?_
                  refine go_goto (tgt := 223) hF d_Mo_settle_214 (by decide) ?_
                  refine go_istore hF d_Mo_settle_223 (by decide) ?_
                  refine go_lv (lv' := [(0, _), (1, _), (2, _), (3, _), (4, _), (5, _), (6, _), (7, _)]) ⟨rfl, rfl, rfl, rfl, rfl, rfl, rfl, rfl, trivial⟩ ?_
                  refine go_iload hF d_Mo_settle_225 rfl ?_
                  refine go_if_eq (tgt := 242) hF d_Mo_settle_227 (by decide) (fun h227 => ?_) (fun h227 => ?_)
                  · exact absurd h227 (by decide)
                  · refine go_aload_n hF d_Mo_settle_230 rfl ?_
                    refine go_iload hF d_Mo_settle_231 rfl ?_
                    refine go_aload_n hF d_Mo_settle_233 rfl ?_
                    refine go_iload hF d_Mo_settle_234 rfl ?_
                    refine go_callVX hF hE hlo d_Mo_settle_236 (con_Mo_gives hlt h4 rfl (by have := hg.2; omega) hva.1 hva.2.1) mt_Mo_gives mv_Mo_gives lk_Mo_56 ⟨rfl, rfl, by decide, by decide⟩ rfl (Nat.le_of_ble_eq_true rfl) ⟨by decide, by decide⟩ (fun H hG => gw_recv (q := (R_Mo, T_Mo, 9)) hK hG h4 rfl rfl (by decide) rfl) (fun M => gx_no) rfl (fun v => ?_)
                    refine go_and (fun hv => ?_)
                    subst hv
                    refine go_callVX hF hE hlo d_Mo_settle_239 (con_Mo_ask hlt h4 rfl (by have := hg.2; omega) _) mt_Mo_ask mv_Mo_ask lk_Mo_59 ⟨rfl, rfl, by decide, by decide⟩ rfl (Nat.le_of_ble_eq_true rfl) ⟨by decide, by decide⟩ (fun H hG => gw_recv (q := (R_Mo, T_Mo, 9)) hK hG h4 rfl rfl (by decide) rfl) (fun M => gx_no) rfl (fun v => ?_)
                    refine go_and (fun hv => ?_)
                    subst hv
                    refine go_iincN hF d_Mo_settle_242 rfl (by decide) ?_
                    refine go_lv (lv' := [(0, _), (1, _), (2, _), (3, _), (4, _), (5, _), (6, _), (7, _)]) ⟨rfl, rfl, rfl, rfl, rfl, rfl, rfl, rfl, trivial⟩ ?_
                    refine go_goto (tgt := 145) hF d_Mo_settle_245 (by decide) ?_
                    refine go_lv (lv' := [(0, _), (1, _), (2, _), (3, _), (4, _), (5, _)]) ⟨rfl, rfl, rfl, rfl, rfl, rfl, trivial⟩ ?_
                    exact ih _ (by omega) (p + 1) _ rfl (by omega) (Rel_as_t hr hpu (by first | contradiction | (unfold hrF; simp only [h153, h164, h175, h194, h205, h210, h227, not_true, not_false_eq_true, true_and, false_and, and_true, and_false, or_true, true_or, or_false, false_or])))
  have J142 : ∀ (y : Int32) f2, ¬ (aft c ι n (cG c ι)) = wI c 0 ι 13 2 n → y = (rse c ι n (aft c ι n (cG c ι))) → Rel (K + 1) (rf2 c ι n (cW c ι) (aft c ι n (cG c ι))) ι f2 → Go F 140 [(0, .ref (ad B 4 0 0 0)), (1, .int (nI n)), (2, .int (wI c 0 ι 13 2 n)), (3, .int (aft c ι n (cG c ι)))] [.int y] (gw E B N (mW w f2)) 0 0 := by
    intro y f2 hne hy hr
    subst hy
    refine go_istore hF d_Mo_settle_140 (by decide) ?_
    refine go_lv (lv' := [(0, _), (1, _), (2, _), (3, _), (4, _)]) ⟨rfl, rfl, rfl, rfl, rfl, trivial⟩ ?_
    refine go_iconst (v := 0) hF d_Mo_settle_142 (by decide) ?_
    refine go_istore hF d_Mo_settle_143 (by decide) ?_
    refine go_lv (lv' := [(0, _), (1, _), (2, _), (3, _), (4, _), (5, _)]) ⟨rfl, rfl, rfl, rfl, rfl, rfl, trivial⟩ ?_
    exact L145 hne _ 0 f2 rfl (Nat.zero_le _) hr
  have J126 : ∀ f2, ¬ (aft c ι n (cG c ι)) = wI c 0 ι 13 2 n → Rel (K + 1) (rf2 c ι n (cW c ι) (aft c ι n (cG c ι))) ι f2 → Go F 126 [(0, .ref (ad B 4 0 0 0)), (1, .int (nI n)), (2, .int (wI c 0 ι 13 2 n)), (3, .int (aft c ι n (cG c ι)))] [] (gw E B N (mW w f2)) 0 0 := by
    intro f2 hne hr
    refine go_iload_n hF d_Mo_settle_126 rfl ?_
    refine go_if_ne (tgt := 139) hF d_Mo_settle_127 (by decide) (fun h127 => ?_) (fun h127 => ?_)
    · refine go_iconst (v := 0) hF d_Mo_settle_139 (by decide) ?_
      exact J142 _ f2 hne (by unfold rse bi; rw [if_neg (fun z => h127 z.1)]) hr
    · refine go_iload_n hF d_Mo_settle_130 rfl ?_
      refine go_iconst (v := 1) hF d_Mo_settle_131 (by decide) ?_
      refine go_icmp_ne (tgt := 139) hF d_Mo_settle_132 (by decide) (fun h132 => ?_) (fun h132 => ?_)
      · refine go_iconst (v := 0) hF d_Mo_settle_139 (by decide) ?_
        exact J142 _ f2 hne (by unfold rse bi; rw [if_neg (fun z => h132 z.2)]) hr
      · refine go_iconst (v := 1) hF d_Mo_settle_135 (by decide) ?_
        refine go_goto (tgt := 140) hF d_Mo_settle_136 (by decide) ?_
        exact J142 _ f2 hne (by unfold rse bi; rw [if_pos ⟨by simpa using h127, by simpa using h132⟩]) hr
  refine go_aload_n hF d_Mo_settle_0 rfl ?_
  refine go_iload_n hF d_Mo_settle_1 rfl ?_
  refine go_iconst (v := 0) hF d_Mo_settle_2 (by decide) ?_
  refine go_callVX hF hE hlo d_Mo_settle_3 (con_Mo_ofNet hlt h4 (k := 0) rfl hn24 rfl (by decide)) mt_Mo_ofNet mv_Mo_ofNet lk_Mo_32 ⟨rfl, rfl, by decide, by decide⟩ rfl (Nat.le_of_ble_eq_true rfl) ⟨by decide, by decide⟩ (fun H hG => gw_recv (q := (R_Mo, T_Mo, 9)) hK hG h4 rfl rfl (by decide) rfl) (fun M => gx_no) rfl (fun v => ?_)
  refine go_and (fun hv => ?_)
  subst hv
  refine go_istore_n hF d_Mo_settle_6 (by decide) ?_
  refine go_lv (lv' := [(0, _), (1, _), (2, _)]) ⟨rfl, rfl, rfl, trivial⟩ ?_
  refine go_aload_n hF d_Mo_settle_7 rfl ?_
  refine go_iload_n hF d_Mo_settle_8 rfl ?_
  refine go_iconst (v := 3) hF d_Mo_settle_9 (by decide) ?_
  refine go_callVX hF hE hlo d_Mo_settle_10 (con_Mo_ofNet hlt h4 (k := 3) rfl hn24 rfl (by decide)) mt_Mo_ofNet mv_Mo_ofNet lk_Mo_32 ⟨rfl, rfl, by decide, by decide⟩ rfl (Nat.le_of_ble_eq_true rfl) ⟨by decide, by decide⟩ (fun H hG => gw_recv (q := (R_Mo, T_Mo, 9)) hK hG h4 rfl rfl (by decide) rfl) (fun M => gx_no) rfl (fun v => ?_)
  refine go_and (fun hv => ?_)
  subst hv
  refine go_iconst (v := 1) hF d_Mo_settle_13 (by decide) ?_
  refine go_icmp_ne (tgt := 25) hF d_Mo_settle_14 (by decide) (fun h14 => ?_) (fun h14 => ?_)
  · exact absurd hfw h14
  · refine go_aload_n hF d_Mo_settle_17 rfl ?_
    refine go_iload_n hF d_Mo_settle_18 rfl ?_
    refine go_callVX hF hE hlo d_Mo_settle_19 (con_Mo_driven hlt h4 rfl hn hR) mt_Mo_driven mv_Mo_driven lk_Mo_50 ⟨rfl, rfl, by decide, by decide⟩ rfl (Nat.le_of_ble_eq_true rfl) ⟨by decide, by decide⟩ (fun H hG => gw_recv (q := (R_Mo, T_Mo, 9)) hK hG h4 rfl rfl (by decide) rfl) (fun M => gx_no) rfl (fun v => ?_)
    refine go_and (fun hv => ?_)
    subst hv
    refine go_goto (tgt := 26) hF d_Mo_settle_22 (by decide) ?_
    refine go_istore_n hF d_Mo_settle_26 (by decide) ?_
    refine go_lv (lv' := [(0, _), (1, _), (2, _), (3, _)]) ⟨rfl, rfl, rfl, rfl, trivial⟩ ?_
    refine go_iload_n hF d_Mo_settle_27 rfl ?_
    refine go_iload_n hF d_Mo_settle_28 rfl ?_
    refine go_icmp_ne (tgt := 33) hF d_Mo_settle_29 (by decide) (fun h29 => ?_) (fun h29 => ?_)
    · refine go_aload_n hF d_Mo_settle_33 rfl ?_
      refine go_iload_n hF d_Mo_settle_34 rfl ?_
      refine go_iconst (v := 0) hF d_Mo_settle_35 (by decide) ?_
      refine go_iload_n hF d_Mo_settle_36 rfl ?_
      refine go_callVX hF hE hlo d_Mo_settle_37 (con_Mo_setNet hlt h4 (k := 0) rfl hn24 rfl (by decide) _) mt_Mo_setNet mv_Mo_setNet lk_Mo_53 ⟨rfl, rfl, by decide, by decide⟩ rfl (Nat.le_of_ble_eq_true rfl) ⟨by decide, by decide⟩ (fun H hG => gw_recv (q := (R_Mo, T_Mo, 9)) hK hG h4 rfl rfl (by decide) rfl) (fun M => gx_no) rfl (fun v => ?_)
      refine go_and (fun hv => ?_)
      subst hv
      refine go_aload_n hF d_Mo_settle_40 rfl ?_
      refine go_iload_n hF d_Mo_settle_41 rfl ?_
      refine go_iconst (v := 4) hF d_Mo_settle_42 (by decide) ?_
      refine go_aload_n hF d_Mo_settle_43 rfl ?_
      refine go_iload_n hF d_Mo_settle_44 rfl ?_
      refine go_iconst (v := 4) hF d_Mo_settle_45 (by decide) ?_
      refine go_callVX hF hE hlo d_Mo_settle_46 (con_Mo_ofNet hlt h4 (k := 4) rfl hn24 rfl (by decide)) mt_Mo_ofNet mv_Mo_ofNet lk_Mo_32 ⟨rfl, rfl, by decide, by decide⟩ rfl (Nat.le_of_ble_eq_true rfl) ⟨by decide, by decide⟩ (fun H hG => gw_recv (q := (R_Mo, T_Mo, 9)) hK hG h4 rfl rfl (by decide) rfl) (fun M => gx_no) rfl (fun v => ?_)
      refine go_and (fun hv => ?_)
      subst hv
      refine go_iconst (v := 1) hF d_Mo_settle_49 (by decide) ?_
      refine go_iadd hF d_Mo_settle_50 ?_
      refine go_callVX hF hE hlo d_Mo_settle_51 (con_Mo_setNet hlt h4 (k := 4) rfl hn24 rfl (by decide) _) mt_Mo_setNet mv_Mo_setNet lk_Mo_53 ⟨rfl, rfl, by decide, by decide⟩ rfl (Nat.le_of_ble_eq_true rfl) ⟨by decide, by decide⟩ (fun H hG => gw_recv (q := (R_Mo, T_Mo, 9)) hK hG h4 rfl rfl (by decide) rfl) (fun M => gx_no) rfl (fun v => ?_)
      refine go_and (fun hv => ?_)
      subst hv
      have e6 := (Rel_w hR).1
      have hw6 := (Rel_w hR).2
      rw [show fu f (10 + 10 * n + 0) (aft c ι n (cG c ι)) (10 + 10 * n + 4) = f (10 + 10 * n + 4) from fu_n (by omega)]
      generalize hf1 : fu (fu f (10 + 10 * n + 0) (aft c ι n (cG c ι))) (10 + 10 * n + 4) (f (10 + 10 * n + 4) + 1) = f1
      have g6 : f1 6 = nI (cW c ι) := by rw [← hf1, fu_n (by omega), fu_n (by omega)]; exact e6
      have g0 : f1 0 = f 0 := by rw [← hf1, fu_n (by omega), fu_n (by omega)]
      refine go_aload_n hF d_Mo_settle_54 rfl ?_
      refine gs_getr hF hK d_Mo_settle_55 fl_Mo_7 h4 rfl rfl (by decide) rfl ?_
      refine go_bipush (v := 6) hF d_Mo_settle_58 (by decide) ?_
      refine gs_md hF hK hT d_Mo_settle_60 h4 (show (6 : Int32) = nI 6 from rfl) (by decide) ?_
      refine go_sipush (v := 600) hF d_Mo_settle_61 (by decide) ?_
      refine go_icmp_ge (tgt := 126) hF d_Mo_settle_64 (by decide) (fun h64 => ?_) (fun h64 => ?_)
      · refine go_lv (lv' := [(0, _), (1, _), (2, .int (wI c 0 ι 13 2 n)), (3, _)]) ⟨rfl, rfl, by rw [← hRN.1]; rfl, rfl, trivial⟩ ?_
        exact J126 f1 (by rw [← hRN.1]; simpa using h29) (by rw [← hf1]; exact Rel_rf2_f hR hn hAr hKK (fun z => by rw [g6] at h64; exact nI_ge z (by decide) h64))
      · have hw600 : cW c ι < 600 := by
          rw [g6] at h64
          have z : ¬ 600 ≤ cW c ι := fun z => h64 ((nI_leI (a := 600) (b := cW c ι) (by omega) (by omega)).mpr z)
          omega
        refine go_sipush (v := 1450) hF d_Mo_settle_67 (by decide) ?_
        refine go_iconst (v := 3) hF d_Mo_settle_70 (by decide) ?_
        refine go_aload_n hF d_Mo_settle_71 rfl ?_
        refine gs_getr hF hK d_Mo_settle_72 fl_Mo_7 h4 rfl rfl (by decide) rfl ?_
        refine go_bipush (v := 6) hF d_Mo_settle_75 (by decide) ?_
        refine gs_md hF hK hT d_Mo_settle_77 h4 (show (6 : Int32) = nI 6 from rfl) (by decide) ?_
        refine go_imul hF d_Mo_settle_78 ?_
        refine go_iadd hF d_Mo_settle_79 ?_
        refine go_istore hF d_Mo_settle_80 (by decide) ?_
        refine go_lv (lv' := [(0, _), (1, _), (2, _), (3, _), (4, _)]) ⟨rfl, rfl, rfl, rfl, rfl, trivial⟩ ?_
        refine go_aload_n hF d_Mo_settle_82 rfl ?_
        refine gs_getr hF hK d_Mo_settle_83 fl_Mo_7 h4 rfl rfl (by decide) rfl ?_
        refine go_iload hF d_Mo_settle_86 rfl ?_
        refine go_aload_n hF d_Mo_settle_88 rfl ?_
        refine gs_getr hF hK d_Mo_settle_89 fl_Mo_7 h4 rfl rfl (by decide) rfl ?_
        refine go_iconst (v := 0) hF d_Mo_settle_92 (by decide) ?_
        refine gs_md hF hK hT d_Mo_settle_93 h4 (show (0 : Int32) = nI 0 from rfl) (by decide) ?_
        refine gs_ms hF hK hT hlo d_Mo_settle_94 h4 (ixC (a := 1450) (b := 3) g6) (by omega) ?_
        refine go_aload_n hF d_Mo_settle_95 rfl ?_
        refine gs_getr hF hK d_Mo_settle_96 fl_Mo_7 h4 rfl rfl (by decide) rfl ?_
        refine go_iload hF d_Mo_settle_99 rfl ?_
        refine go_iconst (v := 1) hF d_Mo_settle_101 (by decide) ?_
        refine go_iadd hF d_Mo_settle_102 ?_
        refine go_iload_n hF d_Mo_settle_103 rfl ?_
        refine gs_ms hF hK hT hlo d_Mo_settle_104 h4 (ix1 (k := 1) (ixC (a := 1450) (b := 3) g6)) (by omega) ?_
        refine go_aload_n hF d_Mo_settle_105 rfl ?_
        refine gs_getr hF hK d_Mo_settle_106 fl_Mo_7 h4 rfl rfl (by decide) rfl ?_
        refine go_iload hF d_Mo_settle_109 rfl ?_
        refine go_iconst (v := 2) hF d_Mo_settle_111 (by decide) ?_
        refine go_iadd hF d_Mo_settle_112 ?_
        refine go_iload_n hF d_Mo_settle_113 rfl ?_
        refine gs_ms hF hK hT hlo d_Mo_settle_114 h4 (ix1 (k := 2) (ixC (a := 1450) (b := 3) g6)) (by omega) ?_
        refine go_aload_n hF d_Mo_settle_115 rfl ?_
        refine gs_getr hF hK d_Mo_settle_116 fl_Mo_7 h4 rfl rfl (by decide) rfl ?_
        refine go_bipush (v := 6) hF d_Mo_settle_119 (by decide) ?_
        refine go_dup2 hF d_Mo_settle_121 rfl rfl ?_
        refine gs_md hF hK hT d_Mo_settle_122 h4 (show (6 : Int32) = nI 6 from rfl) (by decide) ?_
        refine go_iconst (v := 1) hF d_Mo_settle_123 (by decide) ?_
        refine go_iadd hF d_Mo_settle_124 ?_
        refine gs_ms hF hK hT hlo d_Mo_settle_125 h4 (show (6 : Int32) = nI 6 from rfl) (by decide) ?_
        refine go_lv (lv' := [(0, _), (1, _), (2, .int (wI c 0 ι 13 2 n)), (3, _)]) ⟨rfl, rfl, by rw [← hRN.1]; rfl, rfl, trivial⟩ ?_
        refine go_G (G' := gw E B N (mW w (fu (fu (fu (fu f1 (1450 + 3 * cW c ι) (f 0)) (1450 + 3 * cW c ι + 1) (nI n)) (1450 + 3 * cW c ι + 2) (aft c ι n (cG c ι))) 6 (nI (cW c ι + 1))))) (fun H hG => by rw [g0] at hG; exact s6 g6 hG) ?_
        exact J126 _ (by rw [← hRN.1]; simpa using h29) (by rw [← hf1]; exact Rel_rf2_t hR hn hAr hKK hw600)
    · exact go_vret hF hM d_Mo_settle_32 (by decide) (by decide) (fun H hG => ⟨f, by unfold rfX rfW; rw [if_pos (show aft c ι n (cG c ι) = wI c 0 ι 13 2 n by rw [← hRN.1]; simpa using h29)]; exact Rel_K (Nat.le_succ K) hR, rfl, hG⟩)
