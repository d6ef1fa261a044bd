theorem psT_0 (w : wdT) : ∀ (m p : Nat) (t : Int64) (u : wdT), psT w 0 m p t u = u
  | 0, p, t, u => rfl
  | m + 1, p, t, u => by
    rw [psT_s]
    have h := psT_0 w m
    have e : tlA w 0 t p u = u := by unfold tlA; rw [if_pos rfl]
    repeat' split
    all_goals first | rfl | exact h _ _ _ | (rw [e]; exact h _ _ _)
theorem psU_0 (w : wdT) : psU w 0 = w := psT_0 w _ _ _ _
/-- what read answers, and what it leaves -/
noncomputable def rdV (w : wdT) : Int32 := match (psO w).1 with
  | some p => -1 - nI p
  | none => nI (psO w).2
noncomputable def rdW (w : wdT) : wdT := sI (match (psO w).1 with
  | some _ => w
  | none => psU w 1) 2 0 1 0 0 0
def rdOk (w : wdT) : Prop := (psO w).1 = none → nz (wI w 0 0 4 0 0) + (psO w).2 ≤ 100
theorem gw_noR {E : gE} {B : bsT} {N : nwT} {w : wdT} {H : Heap} {tr : Nat} {t : Int64} {f : Int32} (hO : N.2.1 tr = none) (h : gw E B (nr (nx1 N) B tr t f) w H) : gw E B (nx1 N) w H := gw_sub (O' := N.2.1) h (fun q e hq => by
  by_cases z : q = tr
  · rw [z, hO] at hq
    cases hq
  · exact (ovs_ne _ _ z).trans hq)
theorem gw_noR2 {E : gE} {B : bsT} {N : nwT} {w : wdT} {H : Heap} {tr : Nat} {t : Int64} {f : Int32} (hO : N.2.1 tr = none) (h : gw E B (nx1 (nr (nx1 N) B tr t f)) w H) : gw E B (nx1 (nx1 N)) w H := gw_sub (O' := N.2.1) h (fun q e hq => by
  by_cases z : q = tr
  · rw [z, hO] at hq
    cases hq
  · exact (ovs_ne _ _ z).trans hq)
theorem oI1_some {o : Option Nat} (h : ¬ oI1 o = -1) : ∃ b, o = some b := by
  cases o with
  | none => exact absurd rfl h
  | some b => exact ⟨b, rfl⟩
theorem sub100 {n : Nat} (h : n ≤ 100) : (100 : Int32) - nI n = nI (100 - n) := by
  have e : (100 : Int32) = nI (100 - n) + nI n := by rw [nI_add, Nat.sub_add_cancel h]; rfl
  rw [e, Int32.add_sub_cancel]
set_option maxHeartbeats 4000000 in
set_option maxRecDepth 100000 in
theorem con_EW_read {l : Launch} (hlt : l.stackTraces = false) {E : gE} {B : bsT} {N : nwT} {w : wdT} (hb : N.1 1 0 = true) (ho : N.1 0 0 = true) (h2 : N.1 2 0 = true) (ok : okC w 0) (hn : ct (wI w 2 0 1 0 0) 2000) (hO : N.2.1 N.2.2 = none) (hps : ∀ p, (psO w).1 = some p → p < 2 ^ 30) (hpc : (psO w).2 < 2 ^ 30) : Con l E y_EW_read (Cond.code y_EW_read c_EW_read 3 (some .int) :: gAll) rm_EW_read [.ref (ad B 1 0 0 0)] (gw E B N w) (fun v H => v = some (.int (rdV w)) ∧ rdOk w ∧ gw E B (nx1 N) (rdW w) H) (fun M H => (M = xIS ∧ ¬ rdOk w) ∧ gw E B (nx1 (nx1 N)) w H) 2 10 := by
  refine con_of (by decide) hlt (Nat.le_of_ble_eq_true rfl) ?_
  intro F hF hM htab hnm hE hlo hl
  subst hl
  have hF : Fb F c_EW_read R_EW 3 rm_EW_read := hF
  have hK := hE.1
  have hT := hE.2.1
  refine go_lv (lv' := [(0, _)]) ⟨rfl, trivial⟩ ?_
  refine gs_new (N := N) hF hK d_EW_read_0 nw_EW_170 ⟨by decide, by decide⟩ ?_
  refine go_G (G' := gw E B (N.1, ovs N.2.1 N.2.2 (.inr (8, [.null, .null, .long 0, .int 0])), N.2.2 + 1) w) (fun H hG => hG) ?_
  refine go_dup hF d_EW_read_3 rfl ?_
  refine go_aload_n hF d_EW_read_4 rfl ?_
  refine gs_getx hF hK d_EW_read_5 fl_EW_23 hb rfl rfl (by decide) rfl ?_
  refine go_aload_n hF d_EW_read_8 rfl ?_
  refine gs_getx hF hK d_EW_read_9 fl_EW_10 hb rfl rfl (by decide) rfl ?_
  refine go_ctor hF hE hlo d_EW_read_12 rfl (con_Tr_init (N := (nx1 N)) (tr := N.2.2) hlt) mt_Tr_init mi_Tr_init (Or.inl lk_EW_172) ⟨rfl, rfl, by decide, by decide⟩ rfl (Nat.le_of_ble_eq_true rfl) ⟨by decide, by decide⟩ (fun M => gx_no) rfl (fun v => ?_)
  refine go_and (fun hv => ?_)
  subst hv
  refine go_astore_n hF d_EW_read_15 (by decide) ?_
  refine go_lv (lv' := [(0, _), (1, _)]) ⟨rfl, rfl, trivial⟩ ?_
  refine go_aload_n hF d_EW_read_16 rfl ?_
  refine go_iconst (v := 0) hF d_EW_read_17 (by decide) ?_
  refine go_callVX hF hE hlo d_EW_read_18 (con_Tr_pass (N := (nx1 N)) (w := w) (tr := N.2.2) (t0 := 0) (f0 := 0) hlt ho h2 hn 0 ok.2.2.2.1 (fun z => absurd rfl z)) mt_Tr_pass mv_Tr_pass lk_EW_175 ⟨rfl, rfl, by decide, by decide⟩ rfl (Nat.le_of_ble_eq_true rfl) ⟨by decide, by decide⟩ (fun H hG => gw_recvO (q := (R_Tr, T_Tr, 4)) hK hG (ovs_same _ _ _) rfl) (fun M => gx_no) rfl (fun v => ?_)
  refine go_ex (fun t9 => ?_)
  refine go_and (fun hv => ?_)
  subst hv
  rw [psU_0]
  refine go_istore_n hF d_EW_read_21 (by decide) ?_
  refine go_lv (lv' := [(0, _), (1, _), (2, _)]) ⟨rfl, rfl, rfl, trivial⟩ ?_
  refine go_iload_n hF d_EW_read_22 rfl ?_
  refine go_iconst (v := -1) hF d_EW_read_23 (by decide) ?_
  refine go_icmp_eq (tgt := 39) hF d_EW_read_24 (by decide) (fun h24 => ?_) (fun h24 => ?_)
  · have hp9 : (psO w).1 = none := by
      cases e9 : (psO w).1 with
      | none => rfl
      | some b => rw [e9] at h24; exact absurd h24 (fun z => nI_pos (show b < 2 ^ 31 by have := hps b e9; omega) (by rw [show nI b = -1 from z]; decide))
    refine go_aload_n hF d_EW_read_39 rfl ?_
    refine gs_getO hF hK d_EW_read_40 fl_EW_182 (ovs_same _ _ _) rfl ?_
    refine go_bipush (v := 100) hF d_EW_read_43 (by decide) ?_
    refine go_aload_n hF d_EW_read_45 rfl ?_
    refine gs_getx hF hK d_EW_read_46 fl_EW_10 hb rfl rfl (by decide) rfl ?_
    refine gs_getr hF hK d_EW_read_49 fl_EW_185 ho rfl rfl (by decide) rfl ?_
    refine gs_geti hF hK d_EW_read_52 fl_EW_189 ho rfl rfl (by decide) rfl ?_
    refine go_isub hF d_EW_read_55 ?_
    refine go_icmp_le (tgt := 69) hF d_EW_read_56 (by decide) (fun h56 => ?_) (fun h56 => ?_)
    · have hcap : nz (wI w 0 0 4 0 0) + (psO w).2 ≤ 100 := by
        have h4 := ok.2.2.2.1
        have h5 := h4.2
        rw [h4.1] at h56
        have e : (100 : Int32) - nI (nz (wI w 0 0 4 0 0)) = nI (100 - nz (wI w 0 0 4 0 0)) := sub100 h5
        rw [e] at h56
        have := (nI_leI (a := (psO w).2) (b := 100 - nz (wI w 0 0 4 0 0)) (by omega) (by omega)).mp h56
        omega
      refine go_aload_n hF d_EW_read_69 rfl ?_
      refine go_iconst (v := 1) hF d_EW_read_70 (by decide) ?_
      refine go_callVX hF hE hlo d_EW_read_71 (con_Tr_pass (N := (nx1 N)) (w := w) (tr := N.2.2) (t0 := t9) (f0 := nI (psO w).2) hlt ho h2 hn 1 ok.2.2.2.1 (fun _ => hcap)) mt_Tr_pass mv_Tr_pass lk_EW_175 ⟨rfl, rfl, by decide, by decide⟩ rfl (Nat.le_of_ble_eq_true rfl) ⟨by decide, by decide⟩ (fun H hG => gw_recvO (q := (R_Tr, T_Tr, 4)) hK hG (ovs_same _ _ _) rfl) (fun M => gx_no) rfl (fun v => ?_)
      refine go_ex (fun t8 => ?_)
      refine go_and (fun hv => ?_)
      subst hv
      refine go_pop hF d_EW_read_74 rfl ?_
      refine go_aload_n hF d_EW_read_75 rfl ?_
      refine gs_getx hF hK d_EW_read_76 fl_EW_23 hb rfl rfl (by decide) rfl ?_
      refine go_iconst (v := 0) hF d_EW_read_79 (by decide) ?_
      refine gs_puti hF hK hlo d_EW_read_80 fl_EW_179 ct_Ta fs_Ta_0 h2 rfl rfl (by decide) rfl rfl ?_
      refine go_aload_n hF d_EW_read_83 rfl ?_
      refine gs_getO hF hK d_EW_read_84 fl_EW_182 (ovs_same _ _ _) rfl ?_
      exact go_iret hF hM d_EW_read_87 (by decide) (by decide) (fun H hG => ⟨by unfold rdV; rw [hp9], fun _ => hcap, by unfold rdW; rw [hp9]; exact gw_noR hO hG⟩)
    · exact gs_throw (text := "more hand events would wait than there can be") hF hM htab hE th_IS d_EW_read_59 d_EW_read_62 d_EW_read_63 d_EW_read_65 d_EW_read_68 (by decide +kernel) (by decide) (by decide) (by decide) (by decide) (fun H hG => ⟨⟨rfl, fun z => by
        have z2 := z hp9
        have h4 := ok.2.2.2.1
        rw [h4.1, sub100 h4.2] at h56
        exact h56 (nI_le (by omega) (by omega))⟩, gw_noR2 hO hG⟩)
  · obtain ⟨p9, hp9⟩ := oI1_some h24
    refine go_aload_n hF d_EW_read_27 rfl ?_
    refine gs_getx hF hK d_EW_read_28 fl_EW_23 hb rfl rfl (by decide) rfl ?_
    refine go_iconst (v := 0) hF d_EW_read_31 (by decide) ?_
    refine gs_puti hF hK hlo d_EW_read_32 fl_EW_179 ct_Ta fs_Ta_0 h2 rfl rfl (by decide) rfl rfl ?_
    refine go_iconst (v := -1) hF d_EW_read_35 (by decide) ?_
    refine go_iload_n hF d_EW_read_36 rfl ?_
    refine go_isub hF d_EW_read_37 ?_
    exact go_iret hF hM d_EW_read_38 (by decide) (by decide) (fun H hG => ⟨by unfold rdV; rw [hp9]; rfl, (fun z => by rw [hp9] at z; cases z), by unfold rdW; rw [hp9]; exact gw_noR hO hG⟩)
