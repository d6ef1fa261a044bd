section GXX
variable {F : gT} {pc : Nat} {lv : lvT} {st : List Value} {k n : Nat} {M : String} {G : Heap → Prop}
theorem gx_and {P : Prop} (h : P → Gx F pc lv st G M k n) : Gx F pc lv st (fun H => P ∧ G H) M k n := fun H locs ls q ce hG => h hG.1 H locs ls q ce hG.2
theorem gx_dist2 {P Q : Prop} (h1 : Gx F pc lv st (fun H => P ∧ G H) M k n) (h2 : Gx F pc lv st (fun H => Q ∧ G H) M k n) : Gx F pc lv st (fun H => (P ∨ Q) ∧ G H) M k n := fun H locs ls q ce hG => hG.1.elim (fun z => h1 H locs ls q ce ⟨z, hG.2⟩) (fun z => h2 H locs ls q ce ⟨z, hG.2⟩)
theorem gx_dist3 {P Q R : Prop} (h1 : Gx F pc lv st (fun H => P ∧ G H) M k n) (h2 : Gx F pc lv st (fun H => Q ∧ G H) M k n) (h3 : Gx F pc lv st (fun H => R ∧ G H) M k n) : Gx F pc lv st (fun H => (P ∨ Q ∨ R) ∧ G H) M k n := gx_dist2 h1 (gx_dist2 h2 h3)
end GXX
theorem bi_64t {p : Prop} {d : Decidable p} (h : ¬ bi p = 0) : (1 : Int64) = (bi p).toInt64 := by
  unfold bi at h ⊢
  split
  · rfl
  · rename_i z
    rw [if_neg z] at h
    exact absurd rfl h
theorem bi_64f {p : Prop} {d : Decidable p} (h : bi p = 0) : (0 : Int64) = (bi p).toInt64 := by
  rw [h]
  rfl
set_option maxHeartbeats 4000000 in
set_option maxRecDepth 100000 in
theorem con_La_net {l : Launch} (hlt : l.stackTraces = false) {E : gE} {B : bsT} {N : nwT} {w : wdT} (hb : N.1 1 0 = true) (ho : N.1 0 0 = true) (h2 : N.1 2 0 = true) (h3 : N.1 3 0 = true) (ok : okC w 0)   : Con l E y_La_net (Cond.codeWith y_La_net c_La_net 3 (some .int) hh_La_net :: gAll) rm_La_net [.ref (ad B 1 0 0 0), .ref (ad B 3 0 0 0)] (gw E B N w) (fun v H => v = some (.int (tN w)) ∧ ((tN w = 0 ∧ gw E B N (sL (anX w) 3 0 0 0 0 ((wI w 0 0 0 2 0).toInt64)) H) ∨ (¬ tN w = 0 ∧ gw E B (nx1 N) w H))) (fun _ _ => False) 1 6 := by
  refine conW_of (by decide) hlt (Nat.le_of_ble_eq_true rfl) ?_
  intro F hF hM htab hnm hE hlo hl
  subst hl
  have hF : Fb F c_La_net R_La 3 rm_La_net := hF
  have hK := hE.1
  have hT := hE.2.1
  have htab : tabOf (gc F) = hh_La_net := htab
  refine go_lv (lv' := [(0, _), (1, _)]) ⟨rfl, rfl, trivial⟩ ?_
  refine go_aload_n hF d_La_net_0 rfl ?_
  refine go_iconst (v := 0) hF d_La_net_1 (by decide) ?_
  refine go_aload_n hF d_La_net_2 rfl ?_
  refine go_callVX hF hE hlo d_La_net_3 (con_EW_net hlt hb ho ok) mt_EW_net mv_EW_net lk_La_7 ⟨rfl, rfl, by decide, by decide⟩ rfl (Nat.le_of_ble_eq_true rfl) ⟨by decide, by decide⟩ (fun H hG => gw_recv (q := (R_EW, T_EW, 4)) hK hG hb rfl rfl (by decide) rfl) (fun M => by
      refine gx_and (fun hx => ?_)
      obtain ⟨rfl, hx⟩ := hx
      have hTk : tN w = 1 := ifC_f hx
      refine gx_catch hF hE (pre := []) (rest := []) (a := 0) (e := 8) (hp := 11) (ct := 13) htab ⟨by decide, by decide⟩ (fun y hy => nomatch hy) (by decide) cl_La_13 cs_IS in_IS (fun q9 => ?_)
      refine go_astore_n hF d_La_net_11 (by decide) ?_
      refine go_iconst (v := 1) hF d_La_net_12 (by decide) ?_
      exact go_iret hF hM d_La_net_13 (by decide) (by decide) (fun H hG => ⟨by rw [hTk], Or.inr ⟨by rw [hTk]; decide, hG⟩⟩)) rfl (fun v => ?_)
  refine go_and (fun hv => ?_)
  subst hv
  refine go_and (fun c1 => ?_)
  have hTT : tN w = 0 := ifC_t c1
  refine go_i2l hF d_La_net_6 ?_
  refine gs_last hF hK hT hlo d_La_net_7 h3 rfl rfl (show (0 : Int32) = nI 0 from rfl) (by decide) (by decide) ?_
  refine go_goto (tgt := 14) hF d_La_net_8 (by decide) ?_
  refine go_iconst (v := 0) hF d_La_net_14 (by decide) ?_
  exact go_iret hF hM d_La_net_15 (by decide) (by decide) (fun H hG => ⟨by rw [hTT], Or.inl ⟨hTT, hG⟩⟩)
set_option maxHeartbeats 4000000 in
set_option maxRecDepth 100000 in
theorem con_La_gate {l : Launch} (hlt : l.stackTraces = false) {E : gE} {B : bsT} {N : nwT} {w : wdT} (hb : N.1 1 0 = true) (ho : N.1 0 0 = true) (h2 : N.1 2 0 = true) (h3 : N.1 3 0 = true) (ok : okC w 0)  (kd a b o : Int32) : Con l E y_La_gate (Cond.codeWith y_La_gate c_La_gate 7 (some .int) hh_La_gate :: gAll) rm_La_gate [.ref (ad B 1 0 0 0), .int kd, .int a, .int b, .int o, .ref (ad B 3 0 0 0)] (gw E B N w) (fun v H => v = some (.int (tG w kd a b o)) ∧ ((tG w kd a b o = 0 ∧ gw E B N (sL (agX w kd a b o) 3 0 0 0 0 ((wI w 0 0 0 4 0).toInt64)) H) ∨ (¬ tG w kd a b o = 0 ∧ gw E B (nx1 N) w H))) (fun _ _ => False) 4 24 := by
  refine conW_of (by decide) hlt (Nat.le_of_ble_eq_true rfl) ?_
  intro F hF hM htab hnm hE hlo hl
  subst hl
  have hF : Fb F c_La_gate R_La 7 rm_La_gate := hF
  have hK := hE.1
  have hT := hE.2.1
  have htab : tabOf (gc F) = hh_La_gate := htab
  refine go_lv (lv' := [(0, _), (1, _), (2, _), (3, _), (4, _), (5, _)]) ⟨rfl, rfl, rfl, rfl, rfl, rfl, trivial⟩ ?_
  refine go_aload hF d_La_gate_0 rfl ?_
  refine go_iconst (v := 0) hF d_La_gate_2 (by decide) ?_
  refine go_aload_n hF d_La_gate_3 rfl ?_
  refine go_iload_n hF d_La_gate_4 rfl ?_
  refine go_iload_n hF d_La_gate_5 rfl ?_
  refine go_iload_n hF d_La_gate_6 rfl ?_
  refine go_iload hF d_La_gate_7 rfl ?_
  refine go_callVX hF hE hlo d_La_gate_9 (con_EW_gate hlt hb ho ok kd a b o) mt_EW_gate mv_EW_gate lk_La_15 ⟨rfl, rfl, by decide, by decide⟩ rfl (Nat.le_of_ble_eq_true rfl) ⟨by decide, by decide⟩ (fun H hG => gw_recv (q := (R_EW, T_EW, 4)) hK hG hb rfl rfl (by decide) rfl) (fun M => by
      refine gx_dist3 ?_ ?_ ?_
      · refine gx_and (fun hx => ?_)
        obtain ⟨rfl, hx⟩ := hx
        have hTk : tG w kd a b o = 1 := ifC_f hx
        refine gx_catch hF hE (pre := []) (rest := [(0, 14, 21, 13), (0, 14, 25, 21)]) (a := 0) (e := 14) (hp := 17) (ct := 19) htab ⟨by decide, by decide⟩ (fun y hy => nomatch hy) (by decide) cl_La_19 cs_IO in_IO (fun q9 => ?_)
        refine go_astore hF d_La_gate_17 (by decide) ?_
        refine go_iconst (v := 1) hF d_La_gate_19 (by decide) ?_
        exact go_iret hF hM d_La_gate_20 (by decide) (by decide) (fun H hG => ⟨by rw [hTk], Or.inr ⟨by rw [hTk]; decide, hG⟩⟩)
      · refine gx_and (fun hx => ?_)
        obtain ⟨rfl, hx⟩ := hx
        have hTk : tG w kd a b o = 2 := by unfold tG; rw [ifC_t hx.1, ifC_f hx.2]
        refine gx_catch hF hE (pre := [(0, 14, 17, 19)]) (rest := [(0, 14, 25, 21)]) (a := 0) (e := 14) (hp := 21) (ct := 13) htab ⟨by decide, by decide⟩ (fun y hy => by
            simp only [List.mem_cons, List.not_mem_nil, or_false] at hy
            subst hy
            exact ⟨by decide, _, cl_La_19, by decide⟩) (by decide) cl_La_13 cs_IS in_IS (fun q9 => ?_)
        refine go_astore hF d_La_gate_21 (by decide) ?_
        refine go_iconst (v := 2) hF d_La_gate_23 (by decide) ?_
        exact go_iret hF hM d_La_gate_24 (by decide) (by decide) (fun H hG => ⟨by rw [hTk], Or.inr ⟨by rw [hTk]; decide, hG⟩⟩)
      · refine gx_and (fun hx => ?_)
        obtain ⟨rfl, hx⟩ := hx
        have hTk : tG w kd a b o = 3 := by unfold tG; rw [ifC_t hx.1, ifC_t hx.2.1, ifC_f hx.2.2]
        refine gx_catch hF hE (pre := [(0, 14, 17, 19), (0, 14, 21, 13)]) (rest := []) (a := 0) (e := 14) (hp := 25) (ct := 21) htab ⟨by decide, by decide⟩ (fun y hy => by
            simp only [List.mem_cons, List.not_mem_nil, or_false] at hy
            rcases hy with rfl | rfl
            · exact ⟨by decide, _, cl_La_19, by decide⟩
            · exact ⟨by decide, _, cl_La_13, by decide⟩) (by decide) cl_La_21 cs_IA in_IA (fun q9 => ?_)
        refine go_astore hF d_La_gate_25 (by decide) ?_
        refine go_iconst (v := 3) hF d_La_gate_27 (by decide) ?_
        exact go_iret hF hM d_La_gate_28 (by decide) (by decide) (fun H hG => ⟨by rw [hTk], Or.inr ⟨by rw [hTk]; decide, hG⟩⟩)) rfl (fun v => ?_)
  refine go_and (fun hv => ?_)
  subst hv
  refine go_and (fun c1 => ?_)
  refine go_and (fun c2 => ?_)
  refine go_and (fun c3 => ?_)
  have hTT : tG w kd a b o = 0 := by unfold tG; rw [ifC_t c1, ifC_t c2, ifC_t c3]
  refine go_i2l hF d_La_gate_12 ?_
  refine gs_last hF hK hT hlo d_La_gate_13 h3 rfl rfl (show (0 : Int32) = nI 0 from rfl) (by decide) (by decide) ?_
  refine go_goto (tgt := 29) hF d_La_gate_14 (by decide) ?_
  refine go_iconst (v := 0) hF d_La_gate_29 (by decide) ?_
  exact go_iret hF hM d_La_gate_30 (by decide) (by decide) (fun H hG => ⟨by rw [hTT], Or.inl ⟨hTT, hG⟩⟩)
set_option maxHeartbeats 4000000 in
set_option maxRecDepth 100000 in
theorem con_La_delay {l : Launch} (hlt : l.stackTraces = false) {E : gE} {B : bsT} {N : nwT} {w : wdT} (hb : N.1 1 0 = true) (ho : N.1 0 0 = true) (h2 : N.1 2 0 = true) (h3 : N.1 3 0 = true) (ok : okC w 0)  (g r q : Int32) : Con l E y_La_delay (Cond.codeWith y_La_delay c_La_delay 6 (some .int) hh_La_delay :: gAll) rm_La_delay [.ref (ad B 1 0 0 0), .int g, .int r, .int q, .ref (ad B 3 0 0 0)] (gw E B N w) (fun v H => v = some (.int (tD w g r q)) ∧ ((tD w g r q = 0 ∧ gw E B N (sL (dlW w 0 (nz g) r q) 3 0 0 0 0 ((bi (¬ wI w 0 0 14 4 (nz g) = r ∨ ¬ wI w 0 0 14 5 (nz g) = q)).toInt64)) H) ∨ (¬ tD w g r q = 0 ∧ gw E B (nx1 N) w H))) (fun _ _ => False) 1 6 := by
  refine conW_of (by decide) hlt (Nat.le_of_ble_eq_true rfl) ?_
  intro F hF hM htab hnm hE hlo hl
  subst hl
  have hF : Fb F c_La_delay R_La 6 rm_La_delay := hF
  have hK := hE.1
  have hT := hE.2.1
  have htab : tabOf (gc F) = hh_La_delay := htab
  refine go_lv (lv' := [(0, _), (1, _), (2, _), (3, _), (4, _)]) ⟨rfl, rfl, rfl, rfl, rfl, trivial⟩ ?_
  refine go_aload hF d_La_delay_0 rfl ?_
  refine go_iconst (v := 0) hF d_La_delay_2 (by decide) ?_
  refine go_aload_n hF d_La_delay_3 rfl ?_
  refine go_iload_n hF d_La_delay_4 rfl ?_
  refine go_iload_n hF d_La_delay_5 rfl ?_
  refine go_iload_n hF d_La_delay_6 rfl ?_
  refine go_callVX hF hE hlo d_La_delay_7 (con_EW_delay hlt hb ho ok g r q) mt_EW_delay mv_EW_delay lk_La_23 ⟨rfl, rfl, by decide, by decide⟩ rfl (Nat.le_of_ble_eq_true rfl) ⟨by decide, by decide⟩ (fun H hG => gw_recv (q := (R_EW, T_EW, 4)) hK hG hb rfl rfl (by decide) rfl) (fun M => by
      refine gx_dist2 ?_ ?_
      · refine gx_and (fun hx => ?_)
        obtain ⟨rfl, hx⟩ := hx
        have hTk : tD w g r q = 1 := ifC_f hx
        refine gx_catch hF hE (pre := []) (rest := [(0, 19, 26, 21)]) (a := 0) (e := 19) (hp := 22) (ct := 19) htab ⟨by decide, by decide⟩ (fun y hy => nomatch hy) (by decide) cl_La_19 cs_IO in_IO (fun q9 => ?_)
        refine go_astore hF d_La_delay_22 (by decide) ?_
        refine go_iconst (v := 1) hF d_La_delay_24 (by decide) ?_
        exact go_iret hF hM d_La_delay_25 (by decide) (by decide) (fun H hG => ⟨by rw [hTk], Or.inr ⟨by rw [hTk]; decide, hG⟩⟩)
      · refine gx_and (fun hx => ?_)
        obtain ⟨rfl, hx⟩ := hx
        have hTk : tD w g r q = 2 := by unfold tD; rw [ifC_t hx.1, ifC_f hx.2]
        refine gx_catch hF hE (pre := [(0, 19, 22, 19)]) (rest := []) (a := 0) (e := 19) (hp := 26) (ct := 21) htab ⟨by decide, by decide⟩ (fun y hy => by
            simp only [List.mem_cons, List.not_mem_nil, or_false] at hy
            subst hy
            exact ⟨by decide, _, cl_La_19, by decide⟩) (by decide) cl_La_21 cs_IA in_IA (fun q9 => ?_)
        refine go_astore hF d_La_delay_26 (by decide) ?_
        refine go_iconst (v := 2) hF d_La_delay_28 (by decide) ?_
        exact go_iret hF hM d_La_delay_29 (by decide) (by decide) (fun H hG => ⟨by rw [hTk], Or.inr ⟨by rw [hTk]; decide, hG⟩⟩)) rfl (fun v => ?_)
  refine go_and (fun hv => ?_)
  subst hv
  refine go_and (fun c1 => ?_)
  refine go_and (fun c2 => ?_)
  have hTT : tD w g r q = 0 := by unfold tD; rw [ifC_t c1, ifC_t c2]
  refine go_if_eq (tgt := 17) hF d_La_delay_10 (by decide) (fun h10 => ?_) (fun h10 => ?_)
  · refine go_lconst (v := 0) hF d_La_delay_17 (by decide) ?_
    refine gs_last hF hK hT hlo d_La_delay_18 h3 rfl rfl (show (0 : Int32) = nI 0 from rfl) (by decide) (by decide) ?_
    refine go_goto (tgt := 30) hF d_La_delay_19 (by decide) ?_
    refine go_iconst (v := 0) hF d_La_delay_30 (by decide) ?_
    exact go_iret hF hM d_La_delay_31 (by decide) (by decide) (fun H hG => ⟨by rw [hTT], Or.inl ⟨hTT, by rw [← bi_64f h10]; exact hG⟩⟩)
  · refine go_lconst (v := 1) hF d_La_delay_13 (by decide) ?_
    refine go_goto (tgt := 18) hF d_La_delay_14 (by decide) ?_
    refine gs_last hF hK hT hlo d_La_delay_18 h3 rfl rfl (show (0 : Int32) = nI 0 from rfl) (by decide) (by decide) ?_
    refine go_goto (tgt := 30) hF d_La_delay_19 (by decide) ?_
    refine go_iconst (v := 0) hF d_La_delay_30 (by decide) ?_
    exact go_iret hF hM d_La_delay_31 (by decide) (by decide) (fun H hG => ⟨by rw [hTT], Or.inl ⟨hTT, by rw [← bi_64t h10]; exact hG⟩⟩)
set_option maxHeartbeats 4000000 in
set_option maxRecDepth 100000 in
theorem con_La_spike {l : Launch} (hlt : l.stackTraces = false) {E : gE} {B : bsT} {N : nwT} {w : wdT} (hb : N.1 1 0 = true) (ho : N.1 0 0 = true) (h2 : N.1 2 0 = true) (h3 : N.1 3 0 = true) (ok : okC w 0)  (r : Int32) : Con l E y_La_spike (Cond.codeWith y_La_spike c_La_spike 4 (some .int) hh_La_spike :: gAll) rm_La_spike [.ref (ad B 1 0 0 0), .int r, .ref (ad B 3 0 0 0)] (gw E B N w) (fun v H => v = some (.int (tS r)) ∧ ((tS r = 0 ∧ gw E B N (sL (sI w 0 0 0 1 0 r) 3 0 0 0 0 ((bi (¬ wI w 0 0 0 1 0 = r)).toInt64)) H) ∨ (¬ tS r = 0 ∧ gw E B (nx1 N) w H))) (fun _ _ => False) 1 6 := by
  refine conW_of (by decide) hlt (Nat.le_of_ble_eq_true rfl) ?_
  intro F hF hM htab hnm hE hlo hl
  subst hl
  have hF : Fb F c_La_spike R_La 4 rm_La_spike := hF
  have hK := hE.1
  have hT := hE.2.1
  have htab : tabOf (gc F) = hh_La_spike := htab
  refine go_lv (lv' := [(0, _), (1, _), (2, _)]) ⟨rfl, rfl, rfl, trivial⟩ ?_
  refine go_aload_n hF d_La_spike_0 rfl ?_
  refine go_iconst (v := 0) hF d_La_spike_1 (by decide) ?_
  refine go_aload_n hF d_La_spike_2 rfl ?_
  refine go_iload_n hF d_La_spike_3 rfl ?_
  refine go_callVX hF hE hlo d_La_spike_4 (con_EW_spike hlt hb ho r) mt_EW_spike mv_EW_spike lk_La_27 ⟨rfl, rfl, by decide, by decide⟩ rfl (Nat.le_of_ble_eq_true rfl) ⟨by decide, by decide⟩ (fun H hG => gw_recv (q := (R_EW, T_EW, 4)) hK hG hb rfl rfl (by decide) rfl) (fun M => by
      refine gx_and (fun hx => ?_)
      obtain ⟨rfl, hx⟩ := hx
      have hTk : tS r = 1 := ifC_f hx
      refine gx_catch hF hE (pre := []) (rest := []) (a := 0) (e := 16) (hp := 19) (ct := 21) htab ⟨by decide, by decide⟩ (fun y hy => nomatch hy) (by decide) cl_La_21 cs_IA in_IA (fun q9 => ?_)
      refine go_astore_n hF d_La_spike_19 (by decide) ?_
      refine go_iconst (v := 1) hF d_La_spike_20 (by decide) ?_
      exact go_iret hF hM d_La_spike_21 (by decide) (by decide) (fun H hG => ⟨by rw [hTk], Or.inr ⟨by rw [hTk]; decide, hG⟩⟩)) rfl (fun v => ?_)
  refine go_and (fun hv => ?_)
  subst hv
  refine go_and (fun c1 => ?_)
  have hTT : tS r = 0 := ifC_t c1
  refine go_if_eq (tgt := 14) hF d_La_spike_7 (by decide) (fun h7 => ?_) (fun h7 => ?_)
  · refine go_lconst (v := 0) hF d_La_spike_14 (by decide) ?_
    refine gs_last hF hK hT hlo d_La_spike_15 h3 rfl rfl (show (0 : Int32) = nI 0 from rfl) (by decide) (by decide) ?_
    refine go_goto (tgt := 22) hF d_La_spike_16 (by decide) ?_
    refine go_iconst (v := 0) hF d_La_spike_22 (by decide) ?_
    exact go_iret hF hM d_La_spike_23 (by decide) (by decide) (fun H hG => ⟨by rw [hTT], Or.inl ⟨hTT, by rw [← bi_64f h7]; exact hG⟩⟩)
  · refine go_lconst (v := 1) hF d_La_spike_10 (by decide) ?_
    refine go_goto (tgt := 15) hF d_La_spike_11 (by decide) ?_
    refine gs_last hF hK hT hlo d_La_spike_15 h3 rfl rfl (show (0 : Int32) = nI 0 from rfl) (by decide) (by decide) ?_
    refine go_goto (tgt := 22) hF d_La_spike_16 (by decide) ?_
    refine go_iconst (v := 0) hF d_La_spike_22 (by decide) ?_
    exact go_iret hF hM d_La_spike_23 (by decide) (by decide) (fun H hG => ⟨by rw [hTT], Or.inl ⟨hTT, by rw [← bi_64t h7]; exact hG⟩⟩)
set_option maxHeartbeats 4000000 in
set_option maxRecDepth 100000 in
theorem con_La_drive {l : Launch} (hlt : l.stackTraces = false) {E : gE} {B : bsT} {N : nwT} {w : wdT} (hb : N.1 1 0 = true) (ho : N.1 0 0 = true) (h2 : N.1 2 0 = true) (h3 : N.1 3 0 = true) (ok : okC w 0)  (n : Int32) (t : Int64) (x : Int32) : Con l E y_La_drive (Cond.codeWith y_La_drive c_La_drive 7 (some .int) hh_La_drive :: gAll) rm_La_drive [.ref (ad B 1 0 0 0), .int n, .long t, .int x, .ref (ad B 3 0 0 0)] (gw E B N w) (fun v H => v = some (.int (tH w n t x)) ∧ ((tH w n t x = 0 ∧ gw E B N (sL (apX w 0 n t x) 3 0 0 0 0 ((wI w 0 0 4 0 0 + 1).toInt64)) H) ∨ (¬ tH w n t x = 0 ∧ gw E B (nx1 N) w H))) (fun _ _ => False) 2 12 := by
  refine conW_of (by decide) hlt (Nat.le_of_ble_eq_true rfl) ?_
  intro F hF hM htab hnm hE hlo hl
  subst hl
  have hF : Fb F c_La_drive R_La 7 rm_La_drive := hF
  have hK := hE.1
  have hT := hE.2.1
  have htab : tabOf (gc F) = hh_La_drive := htab
  refine go_lv (lv' := [(0, _), (1, _), (2, _), (4, _), (5, _)]) ⟨rfl, rfl, rfl, rfl, rfl, trivial⟩ ?_
  refine go_aload hF d_La_drive_0 rfl ?_
  refine go_iconst (v := 0) hF d_La_drive_2 (by decide) ?_
  refine go_aload_n hF d_La_drive_3 rfl ?_
  refine go_iload_n hF d_La_drive_4 rfl ?_
  refine go_lload_n hF d_La_drive_5 rfl ?_
  refine go_iload hF d_La_drive_6 rfl ?_
  refine go_callVX hF hE hlo d_La_drive_8 (con_EW_drive hlt hb ho ok n t x) mt_EW_drive mv_EW_drive lk_La_31 ⟨rfl, rfl, by decide, by decide⟩ rfl (Nat.le_of_ble_eq_true rfl) ⟨by decide, by decide⟩ (fun H hG => gw_recv (q := (R_EW, T_EW, 4)) hK hG hb rfl rfl (by decide) rfl) (fun M => by
      refine gx_dist3 ?_ ?_ ?_
      · refine gx_and (fun hx => ?_)
        obtain ⟨rfl, hx⟩ := hx
        have hTk : tH w n t x = 1 := ifC_f hx
        refine gx_catch hF hE (pre := []) (rest := [(0, 13, 20, 13), (0, 13, 24, 21)]) (a := 0) (e := 13) (hp := 16) (ct := 19) htab ⟨by decide, by decide⟩ (fun y hy => nomatch hy) (by decide) cl_La_19 cs_IO in_IO (fun q9 => ?_)
        refine go_astore hF d_La_drive_16 (by decide) ?_
        refine go_iconst (v := 1) hF d_La_drive_18 (by decide) ?_
        exact go_iret hF hM d_La_drive_19 (by decide) (by decide) (fun H hG => ⟨by rw [hTk], Or.inr ⟨by rw [hTk]; decide, hG⟩⟩)
      · refine gx_and (fun hx => ?_)
        obtain ⟨rfl, hx⟩ := hx
        have hTk : tH w n t x = 2 := by unfold tH; rw [ifC_t hx.1, ifC_f hx.2]
        refine gx_catch hF hE (pre := [(0, 13, 16, 19)]) (rest := [(0, 13, 24, 21)]) (a := 0) (e := 13) (hp := 20) (ct := 13) htab ⟨by decide, by decide⟩ (fun y hy => by
            simp only [List.mem_cons, List.not_mem_nil, or_false] at hy
            subst hy
            exact ⟨by decide, _, cl_La_19, by decide⟩) (by decide) cl_La_13 cs_IS in_IS (fun q9 => ?_)
        refine go_astore hF d_La_drive_20 (by decide) ?_
        refine go_iconst (v := 2) hF d_La_drive_22 (by decide) ?_
        exact go_iret hF hM d_La_drive_23 (by decide) (by decide) (fun H hG => ⟨by rw [hTk], Or.inr ⟨by rw [hTk]; decide, hG⟩⟩)
      · refine gx_and (fun hx => ?_)
        obtain ⟨rfl, hx⟩ := hx
        have hTk : tH w n t x = 3 := by unfold tH; rw [ifC_t hx.1, ifC_t hx.2.1, ifC_f hx.2.2]
        refine gx_catch hF hE (pre := [(0, 13, 16, 19), (0, 13, 20, 13)]) (rest := []) (a := 0) (e := 13) (hp := 24) (ct := 21) htab ⟨by decide, by decide⟩ (fun y hy => by
            simp only [List.mem_cons, List.not_mem_nil, or_false] at hy
            rcases hy with rfl | rfl
            · exact ⟨by decide, _, cl_La_19, by decide⟩
            · exact ⟨by decide, _, cl_La_13, by decide⟩) (by decide) cl_La_21 cs_IA in_IA (fun q9 => ?_)
        refine go_astore hF d_La_drive_24 (by decide) ?_
        refine go_iconst (v := 3) hF d_La_drive_26 (by decide) ?_
        exact go_iret hF hM d_La_drive_27 (by decide) (by decide) (fun H hG => ⟨by rw [hTk], Or.inr ⟨by rw [hTk]; decide, hG⟩⟩)) rfl (fun v => ?_)
  refine go_and (fun hv => ?_)
  subst hv
  refine go_and (fun c1 => ?_)
  refine go_and (fun c2 => ?_)
  refine go_and (fun c3 => ?_)
  have hTT : tH w n t x = 0 := by unfold tH; rw [ifC_t c1, ifC_t c2, ifC_t c3]
  refine go_i2l hF d_La_drive_11 ?_
  refine gs_last hF hK hT hlo d_La_drive_12 h3 rfl rfl (show (0 : Int32) = nI 0 from rfl) (by decide) (by decide) ?_
  refine go_goto (tgt := 28) hF d_La_drive_13 (by decide) ?_
  refine go_iconst (v := 0) hF d_La_drive_28 (by decide) ?_
  exact go_iret hF hM d_La_drive_29 (by decide) (by decide) (fun H hG => ⟨by rw [hTT], Or.inl ⟨hTT, hG⟩⟩)
set_option maxHeartbeats 4000000 in
set_option maxRecDepth 100000 in
theorem con_La_force {l : Launch} (hlt : l.stackTraces = false) {E : gE} {B : bsT} {N : nwT} {w : wdT} (hb : N.1 1 0 = true) (ho : N.1 0 0 = true) (h2 : N.1 2 0 = true) (h3 : N.1 3 0 = true) (ok : okC w 0)  (n : Int32) (t : Int64) (x : Int32) : Con l E y_La_force (Cond.codeWith y_La_force c_La_force 7 (some .int) hh_La_force :: gAll) rm_La_force [.ref (ad B 1 0 0 0), .int n, .long t, .int x, .ref (ad B 3 0 0 0)] (gw E B N w) (fun v H => v = some (.int (tH w n t x)) ∧ ((tH w n t x = 0 ∧ gw E B N (sL (apX w 1 n t x) 3 0 0 0 0 ((wI w 0 0 4 0 0 + 1).toInt64)) H) ∨ (¬ tH w n t x = 0 ∧ gw E B (nx1 N) w H))) (fun _ _ => False) 2 12 := by
  refine conW_of (by decide) hlt (Nat.le_of_ble_eq_true rfl) ?_
  intro F hF hM htab hnm hE hlo hl
  subst hl
  have hF : Fb F c_La_force R_La 7 rm_La_force := hF
  have hK := hE.1
  have hT := hE.2.1
  have htab : tabOf (gc F) = hh_La_force := htab
  refine go_lv (lv' := [(0, _), (1, _), (2, _), (4, _), (5, _)]) ⟨rfl, rfl, rfl, rfl, rfl, trivial⟩ ?_
  refine go_aload hF d_La_force_0 rfl ?_
  refine go_iconst (v := 0) hF d_La_force_2 (by decide) ?_
  refine go_aload_n hF d_La_force_3 rfl ?_
  refine go_iload_n hF d_La_force_4 rfl ?_
  refine go_lload_n hF d_La_force_5 rfl ?_
  refine go_iload hF d_La_force_6 rfl ?_
  refine go_callVX hF hE hlo d_La_force_8 (con_EW_force hlt hb ho ok n t x) mt_EW_force mv_EW_force lk_La_35 ⟨rfl, rfl, by decide, by decide⟩ rfl (Nat.le_of_ble_eq_true rfl) ⟨by decide, by decide⟩ (fun H hG => gw_recv (q := (R_EW, T_EW, 4)) hK hG hb rfl rfl (by decide) rfl) (fun M => by
      refine gx_dist3 ?_ ?_ ?_
      · refine gx_and (fun hx => ?_)
        obtain ⟨rfl, hx⟩ := hx
        have hTk : tH w n t x = 1 := ifC_f hx
        refine gx_catch hF hE (pre := []) (rest := [(0, 13, 20, 13), (0, 13, 24, 21)]) (a := 0) (e := 13) (hp := 16) (ct := 19) htab ⟨by decide, by decide⟩ (fun y hy => nomatch hy) (by decide) cl_La_19 cs_IO in_IO (fun q9 => ?_)
        refine go_astore hF d_La_force_16 (by decide) ?_
        refine go_iconst (v := 1) hF d_La_force_18 (by decide) ?_
        exact go_iret hF hM d_La_force_19 (by decide) (by decide) (fun H hG => ⟨by rw [hTk], Or.inr ⟨by rw [hTk]; decide, hG⟩⟩)
      · refine gx_and (fun hx => ?_)
        obtain ⟨rfl, hx⟩ := hx
        have hTk : tH w n t x = 2 := by unfold tH; rw [ifC_t hx.1, ifC_f hx.2]
        refine gx_catch hF hE (pre := [(0, 13, 16, 19)]) (rest := [(0, 13, 24, 21)]) (a := 0) (e := 13) (hp := 20) (ct := 13) htab ⟨by decide, by decide⟩ (fun y hy => by
            simp only [List.mem_cons, List.not_mem_nil, or_false] at hy
            subst hy
            exact ⟨by decide, _, cl_La_19, by decide⟩) (by decide) cl_La_13 cs_IS in_IS (fun q9 => ?_)
        refine go_astore hF d_La_force_20 (by decide) ?_
        refine go_iconst (v := 2) hF d_La_force_22 (by decide) ?_
        exact go_iret hF hM d_La_force_23 (by decide) (by decide) (fun H hG => ⟨by rw [hTk], Or.inr ⟨by rw [hTk]; decide, hG⟩⟩)
      · refine gx_and (fun hx => ?_)
        obtain ⟨rfl, hx⟩ := hx
        have hTk : tH w n t x = 3 := by unfold tH; rw [ifC_t hx.1, ifC_t hx.2.1, ifC_f hx.2.2]
        refine gx_catch hF hE (pre := [(0, 13, 16, 19), (0, 13, 20, 13)]) (rest := []) (a := 0) (e := 13) (hp := 24) (ct := 21) htab ⟨by decide, by decide⟩ (fun y hy => by
            simp only [List.mem_cons, List.not_mem_nil, or_false] at hy
            rcases hy with rfl | rfl
            · exact ⟨by decide, _, cl_La_19, by decide⟩
            · exact ⟨by decide, _, cl_La_13, by decide⟩) (by decide) cl_La_21 cs_IA in_IA (fun q9 => ?_)
        refine go_astore hF d_La_force_24 (by decide) ?_
        refine go_iconst (v := 3) hF d_La_force_26 (by decide) ?_
        exact go_iret hF hM d_La_force_27 (by decide) (by decide) (fun H hG => ⟨by rw [hTk], Or.inr ⟨by rw [hTk]; decide, hG⟩⟩)) rfl (fun v => ?_)
  refine go_and (fun hv => ?_)
  subst hv
  refine go_and (fun c1 => ?_)
  refine go_and (fun c2 => ?_)
  refine go_and (fun c3 => ?_)
  have hTT : tH w n t x = 0 := by unfold tH; rw [ifC_t c1, ifC_t c2, ifC_t c3]
  refine go_i2l hF d_La_force_11 ?_
  refine gs_last hF hK hT hlo d_La_force_12 h3 rfl rfl (show (0 : Int32) = nI 0 from rfl) (by decide) (by decide) ?_
  refine go_goto (tgt := 28) hF d_La_force_13 (by decide) ?_
  refine go_iconst (v := 0) hF d_La_force_28 (by decide) ?_
  exact go_iret hF hM d_La_force_29 (by decide) (by decide) (fun H hG => ⟨by rw [hTT], Or.inl ⟨hTT, hG⟩⟩)
set_option maxHeartbeats 4000000 in
set_option maxRecDepth 100000 in
theorem con_La_release {l : Launch} (hlt : l.stackTraces = false) {E : gE} {B : bsT} {N : nwT} {w : wdT} (hb : N.1 1 0 = true) (ho : N.1 0 0 = true) (h2 : N.1 2 0 = true) (h3 : N.1 3 0 = true) (ok : okC w 0)  (n : Int32) (t : Int64) : Con l E y_La_release (Cond.codeWith y_La_release c_La_release 6 (some .int) hh_La_release :: gAll) rm_La_release [.ref (ad B 1 0 0 0), .int n, .long t, .ref (ad B 3 0 0 0)] (gw E B N w) (fun v H => v = some (.int (tH w n t 3)) ∧ ((tH w n t 3 = 0 ∧ gw E B N (sL (apX w 2 n t 3) 3 0 0 0 0 ((wI w 0 0 4 0 0 + 1).toInt64)) H) ∨ (¬ tH w n t 3 = 0 ∧ gw E B (nx1 N) w H))) (fun _ _ => False) 2 12 := by
  refine conW_of (by decide) hlt (Nat.le_of_ble_eq_true rfl) ?_
  intro F hF hM htab hnm hE hlo hl
  subst hl
  have hF : Fb F c_La_release R_La 6 rm_La_release := hF
  have hK := hE.1
  have hT := hE.2.1
  have htab : tabOf (gc F) = hh_La_release := htab
  refine go_lv (lv' := [(0, _), (1, _), (2, _), (4, _)]) ⟨rfl, rfl, rfl, rfl, trivial⟩ ?_
  refine go_aload hF d_La_release_0 rfl ?_
  refine go_iconst (v := 0) hF d_La_release_2 (by decide) ?_
  refine go_aload_n hF d_La_release_3 rfl ?_
  refine go_iload_n hF d_La_release_4 rfl ?_
  refine go_lload_n hF d_La_release_5 rfl ?_
  refine go_callVX hF hE hlo d_La_release_6 (con_EW_release hlt hb ho ok n t) mt_EW_release mv_EW_release lk_La_38 ⟨rfl, rfl, by decide, by decide⟩ rfl (Nat.le_of_ble_eq_true rfl) ⟨by decide, by decide⟩ (fun H hG => gw_recv (q := (R_EW, T_EW, 4)) hK hG hb rfl rfl (by decide) rfl) (fun M => by
      refine gx_dist3 ?_ ?_ ?_
      · refine gx_and (fun hx => ?_)
        obtain ⟨rfl, hx⟩ := hx
        have hTk : tH w n t 3 = 1 := ifC_f hx
        refine gx_catch hF hE (pre := []) (rest := [(0, 11, 18, 13), (0, 11, 22, 21)]) (a := 0) (e := 11) (hp := 14) (ct := 19) htab ⟨by decide, by decide⟩ (fun y hy => nomatch hy) (by decide) cl_La_19 cs_IO in_IO (fun q9 => ?_)
        refine go_astore hF d_La_release_14 (by decide) ?_
        refine go_iconst (v := 1) hF d_La_release_16 (by decide) ?_
        exact go_iret hF hM d_La_release_17 (by decide) (by decide) (fun H hG => ⟨by rw [hTk], Or.inr ⟨by rw [hTk]; decide, hG⟩⟩)
      · refine gx_and (fun hx => ?_)
        obtain ⟨rfl, hx⟩ := hx
        have hTk : tH w n t 3 = 2 := by unfold tH; rw [ifC_t hx.1, ifC_f hx.2]
        refine gx_catch hF hE (pre := [(0, 11, 14, 19)]) (rest := [(0, 11, 22, 21)]) (a := 0) (e := 11) (hp := 18) (ct := 13) htab ⟨by decide, by decide⟩ (fun y hy => by
            simp only [List.mem_cons, List.not_mem_nil, or_false] at hy
            subst hy
            exact ⟨by decide, _, cl_La_19, by decide⟩) (by decide) cl_La_13 cs_IS in_IS (fun q9 => ?_)
        refine go_astore hF d_La_release_18 (by decide) ?_
        refine go_iconst (v := 2) hF d_La_release_20 (by decide) ?_
        exact go_iret hF hM d_La_release_21 (by decide) (by decide) (fun H hG => ⟨by rw [hTk], Or.inr ⟨by rw [hTk]; decide, hG⟩⟩)
      · refine gx_and (fun hx => ?_)
        obtain ⟨rfl, hx⟩ := hx
        have hTk : tH w n t 3 = 3 := by unfold tH; rw [ifC_t hx.1, ifC_t hx.2.1, ifC_f hx.2.2]
        refine gx_catch hF hE (pre := [(0, 11, 14, 19), (0, 11, 18, 13)]) (rest := []) (a := 0) (e := 11) (hp := 22) (ct := 21) htab ⟨by decide, by decide⟩ (fun y hy => by
            simp only [List.mem_cons, List.not_mem_nil, or_false] at hy
            rcases hy with rfl | rfl
            · exact ⟨by decide, _, cl_La_19, by decide⟩
            · exact ⟨by decide, _, cl_La_13, by decide⟩) (by decide) cl_La_21 cs_IA in_IA (fun q9 => ?_)
        refine go_astore hF d_La_release_22 (by decide) ?_
        refine go_iconst (v := 3) hF d_La_release_24 (by decide) ?_
        exact go_iret hF hM d_La_release_25 (by decide) (by decide) (fun H hG => ⟨by rw [hTk], Or.inr ⟨by rw [hTk]; decide, hG⟩⟩)) rfl (fun v => ?_)
  refine go_and (fun hv => ?_)
  subst hv
  refine go_and (fun c1 => ?_)
  refine go_and (fun c2 => ?_)
  refine go_and (fun c3 => ?_)
  have hTT : tH w n t 3 = 0 := by unfold tH; rw [ifC_t c1, ifC_t c2, ifC_t c3]
  refine go_i2l hF d_La_release_9 ?_
  refine gs_last hF hK hT hlo d_La_release_10 h3 rfl rfl (show (0 : Int32) = nI 0 from rfl) (by decide) (by decide) ?_
  refine go_goto (tgt := 26) hF d_La_release_11 (by decide) ?_
  refine go_iconst (v := 0) hF d_La_release_26 (by decide) ?_
  exact go_iret hF hM d_La_release_27 (by decide) (by decide) (fun H hG => ⟨by rw [hTT], Or.inl ⟨hTT, hG⟩⟩)
set_option maxHeartbeats 4000000 in
set_option maxRecDepth 100000 in
theorem con_La_check {l : Launch} (hlt : l.stackTraces = false) {E : gE} {B : bsT} {N : nwT} {w : wdT} (hb : N.1 1 0 = true) (ho : N.1 0 0 = true) (h2 : N.1 2 0 = true) (h3 : N.1 3 0 = true) (ok : okC w 0)  (kd ck dt lm : Int32) : Con l E y_La_check (Cond.codeWith y_La_check c_La_check 7 (some .int) hh_La_check :: gAll) rm_La_check [.ref (ad B 1 0 0 0), .int kd, .int ck, .int dt, .int lm, .ref (ad B 3 0 0 0)] (gw E B N w) (fun v H => v = some (.int (tC w kd ck dt lm)) ∧ ((tC w kd ck dt lm = 0 ∧ gw E B N (sL (acX w kd ck dt lm) 3 0 0 0 0 ((wI w 0 0 0 6 0).toInt64)) H) ∨ (¬ tC w kd ck dt lm = 0 ∧ gw E B (nx1 N) w H))) (fun _ _ => False) 3 18 := by
  refine conW_of (by decide) hlt (Nat.le_of_ble_eq_true rfl) ?_
  intro F hF hM htab hnm hE hlo hl
  subst hl
  have hF : Fb F c_La_check R_La 7 rm_La_check := hF
  have hK := hE.1
  have hT := hE.2.1
  have htab : tabOf (gc F) = hh_La_check := htab
  refine go_lv (lv' := [(0, _), (1, _), (2, _), (3, _), (4, _), (5, _)]) ⟨rfl, rfl, rfl, rfl, rfl, rfl, trivial⟩ ?_
  refine go_aload hF d_La_check_0 rfl ?_
  refine go_iconst (v := 0) hF d_La_check_2 (by decide) ?_
  refine go_aload_n hF d_La_check_3 rfl ?_
  refine go_iload_n hF d_La_check_4 rfl ?_
  refine go_iload_n hF d_La_check_5 rfl ?_
  refine go_iload_n hF d_La_check_6 rfl ?_
  refine go_iload hF d_La_check_7 rfl ?_
  refine go_callVX hF hE hlo d_La_check_9 (con_EW_check hlt hb ho ok kd ck dt lm) mt_EW_check mv_EW_check lk_La_42 ⟨rfl, rfl, by decide, by decide⟩ rfl (Nat.le_of_ble_eq_true rfl) ⟨by decide, by decide⟩ (fun H hG => gw_recv (q := (R_EW, T_EW, 4)) hK hG hb rfl rfl (by decide) rfl) (fun M => by
      refine gx_dist3 ?_ ?_ ?_
      · refine gx_and (fun hx => ?_)
        obtain ⟨rfl, hx⟩ := hx
        have hTk : tC w kd ck dt lm = 1 := ifC_f hx
        refine gx_catch hF hE (pre := []) (rest := [(0, 14, 21, 13), (0, 14, 25, 21)]) (a := 0) (e := 14) (hp := 17) (ct := 19) htab ⟨by decide, by decide⟩ (fun y hy => nomatch hy) (by decide) cl_La_19 cs_IO in_IO (fun q9 => ?_)
        refine go_astore hF d_La_check_17 (by decide) ?_
        refine go_iconst (v := 1) hF d_La_check_19 (by decide) ?_
        exact go_iret hF hM d_La_check_20 (by decide) (by decide) (fun H hG => ⟨by rw [hTk], Or.inr ⟨by rw [hTk]; decide, hG⟩⟩)
      · refine gx_and (fun hx => ?_)
        obtain ⟨rfl, hx⟩ := hx
        have hTk : tC w kd ck dt lm = 2 := by unfold tC; rw [ifC_t hx.1, ifC_f hx.2]
        refine gx_catch hF hE (pre := [(0, 14, 17, 19)]) (rest := [(0, 14, 25, 21)]) (a := 0) (e := 14) (hp := 21) (ct := 13) htab ⟨by decide, by decide⟩ (fun y hy => by
            simp only [List.mem_cons, List.not_mem_nil, or_false] at hy
            subst hy
            exact ⟨by decide, _, cl_La_19, by decide⟩) (by decide) cl_La_13 cs_IS in_IS (fun q9 => ?_)
        refine go_astore hF d_La_check_21 (by decide) ?_
        refine go_iconst (v := 2) hF d_La_check_23 (by decide) ?_
        exact go_iret hF hM d_La_check_24 (by decide) (by decide) (fun H hG => ⟨by rw [hTk], Or.inr ⟨by rw [hTk]; decide, hG⟩⟩)
      · refine gx_and (fun hx => ?_)
        obtain ⟨rfl, hx⟩ := hx
        have hTk : tC w kd ck dt lm = 3 := by unfold tC; rw [ifC_t hx.1, ifC_t hx.2.1, ifC_f hx.2.2]
        refine gx_catch hF hE (pre := [(0, 14, 17, 19), (0, 14, 21, 13)]) (rest := []) (a := 0) (e := 14) (hp := 25) (ct := 21) htab ⟨by decide, by decide⟩ (fun y hy => by
            simp only [List.mem_cons, List.not_mem_nil, or_false] at hy
            rcases hy with rfl | rfl
            · exact ⟨by decide, _, cl_La_19, by decide⟩
            · exact ⟨by decide, _, cl_La_13, by decide⟩) (by decide) cl_La_21 cs_IA in_IA (fun q9 => ?_)
        refine go_astore hF d_La_check_25 (by decide) ?_
        refine go_iconst (v := 3) hF d_La_check_27 (by decide) ?_
        exact go_iret hF hM d_La_check_28 (by decide) (by decide) (fun H hG => ⟨by rw [hTk], Or.inr ⟨by rw [hTk]; decide, hG⟩⟩)) rfl (fun v => ?_)
  refine go_and (fun hv => ?_)
  subst hv
  refine go_and (fun c1 => ?_)
  refine go_and (fun c2 => ?_)
  refine go_and (fun c3 => ?_)
  have hTT : tC w kd ck dt lm = 0 := by unfold tC; rw [ifC_t c1, ifC_t c2, ifC_t c3]
  refine go_i2l hF d_La_check_12 ?_
  refine gs_last hF hK hT hlo d_La_check_13 h3 rfl rfl (show (0 : Int32) = nI 0 from rfl) (by decide) (by decide) ?_
  refine go_goto (tgt := 29) hF d_La_check_14 (by decide) ?_
  refine go_iconst (v := 0) hF d_La_check_29 (by decide) ?_
  exact go_iret hF hM d_La_check_30 (by decide) (by decide) (fun H hG => ⟨by rw [hTT], Or.inl ⟨hTT, hG⟩⟩)
set_option maxHeartbeats 4000000 in
set_option maxRecDepth 100000 in
theorem con_La_broken {l : Launch} (hlt : l.stackTraces = false) {E : gE} {B : bsT} {N : nwT} {w : wdT} (hb : N.1 1 0 = true) (ho : N.1 0 0 = true) (h2 : N.1 2 0 = true) (h3 : N.1 3 0 = true) (ok : okC w 0)  (x : Int32) : Con l E y_La_broken (Cond.codeWith y_La_broken c_La_broken 4 (some .int) hh_La_broken :: gAll) rm_La_broken [.ref (ad B 1 0 0 0), .int x, .ref (ad B 3 0 0 0)] (gw E B N w) (fun v H => v = some (.int (tB w x)) ∧ ((tB w x = 0 ∧ gw E B N (sL (w) 3 0 0 0 0 ((wI w 0 0 15 4 (nz x)).toInt64)) H) ∨ (¬ tB w x = 0 ∧ gw E B (nx1 N) w H))) (fun _ _ => False) 1 6 := by
  refine conW_of (by decide) hlt (Nat.le_of_ble_eq_true rfl) ?_
  intro F hF hM htab hnm hE hlo hl
  subst hl
  have hF : Fb F c_La_broken R_La 4 rm_La_broken := hF
  have hK := hE.1
  have hT := hE.2.1
  have htab : tabOf (gc F) = hh_La_broken := htab
  refine go_lv (lv' := [(0, _), (1, _), (2, _)]) ⟨rfl, rfl, rfl, trivial⟩ ?_
  refine go_aload_n hF d_La_broken_0 rfl ?_
  refine go_iconst (v := 0) hF d_La_broken_1 (by decide) ?_
  refine go_aload_n hF d_La_broken_2 rfl ?_
  refine go_iload_n hF d_La_broken_3 rfl ?_
  refine go_callVX hF hE hlo d_La_broken_4 (con_EW_broken hlt hb ho ok x) mt_EW_broken mv_EW_broken lk_La_45 ⟨rfl, rfl, by decide, by decide⟩ rfl (Nat.le_of_ble_eq_true rfl) ⟨by decide, by decide⟩ (fun H hG => gw_recv (q := (R_EW, T_EW, 4)) hK hG hb rfl rfl (by decide) rfl) (fun M => by
      refine gx_and (fun hx => ?_)
      obtain ⟨rfl, hx⟩ := hx
      have hTk : tB w x = 1 := ifC_f hx
      refine gx_catch hF hE (pre := []) (rest := []) (a := 0) (e := 9) (hp := 12) (ct := 19) htab ⟨by decide, by decide⟩ (fun y hy => nomatch hy) (by decide) cl_La_19 cs_IO in_IO (fun q9 => ?_)
      refine go_astore_n hF d_La_broken_12 (by decide) ?_
      refine go_iconst (v := 1) hF d_La_broken_13 (by decide) ?_
      exact go_iret hF hM d_La_broken_14 (by decide) (by decide) (fun H hG => ⟨by rw [hTk], Or.inr ⟨by rw [hTk]; decide, hG⟩⟩)) rfl (fun v => ?_)
  refine go_and (fun hv => ?_)
  subst hv
  refine go_and (fun c1 => ?_)
  have hTT : tB w x = 0 := ifC_t c1
  refine go_i2l hF d_La_broken_7 ?_
  refine gs_last hF hK hT hlo d_La_broken_8 h3 rfl rfl (show (0 : Int32) = nI 0 from rfl) (by decide) (by decide) ?_
  refine go_goto (tgt := 15) hF d_La_broken_9 (by decide) ?_
  refine go_iconst (v := 0) hF d_La_broken_15 (by decide) ?_
  exact go_iret hF hM d_La_broken_16 (by decide) (by decide) (fun H hG => ⟨by rw [hTT], Or.inl ⟨hTT, hG⟩⟩)
noncomputable def tR (w : wdT) (t : Int64) : Int32 := ifC (wL w 0 0 0 0 0 ≤ t ∧ t ≤ 1000000000) 0 1
set_option maxHeartbeats 4000000 in
set_option maxRecDepth 100000 in
theorem con_La_run {l : Launch} (hlt : l.stackTraces = false) {E : gE} {B : bsT} {N : nwT} {w : wdT} (hb : N.1 1 0 = true) (ho : N.1 0 0 = true) (h2 : N.1 2 0 = true) (h3 : N.1 3 0 = true) (ok : okC w 0)  (t : Int64) : Con l E y_La_run (Cond.codeWith y_La_run c_La_run 5 (some .int) hh_La_run :: gAll) rm_La_run [.ref (ad B 1 0 0 0), .long t, .ref (ad B 3 0 0 0)] (gw E B N w) (fun v H => v = some (.int (tR w t)) ∧ ((tR w t = 0 ∧ gw E B N (sL ((adW 0 t 150 w 0 0).1) 3 0 0 0 0 ((adW 0 t 150 w 0 0).2)) H) ∨ (¬ tR w t = 0 ∧ gw E B (nx1 N) w H))) (fun _ _ => False) 1 6 := by
  refine conW_of (by decide) hlt (Nat.le_of_ble_eq_true rfl) ?_
  intro F hF hM htab hnm hE hlo hl
  subst hl
  have hF : Fb F c_La_run R_La 5 rm_La_run := hF
  have hK := hE.1
  have hT := hE.2.1
  have htab : tabOf (gc F) = hh_La_run := htab
  refine go_lv (lv' := [(0, _), (1, _), (3, _)]) ⟨rfl, rfl, rfl, trivial⟩ ?_
  refine go_aload_n hF d_La_run_0 rfl ?_
  refine go_iconst (v := 0) hF d_La_run_1 (by decide) ?_
  refine go_aload_n hF d_La_run_2 rfl ?_
  refine go_lload_n hF d_La_run_3 rfl ?_
  refine go_callVX hF hE hlo d_La_run_4 (con_EW_run hlt hb ho ok t) mt_EW_run mv_EW_run lk_La_49 ⟨rfl, rfl, by decide, by decide⟩ rfl (Nat.le_of_ble_eq_true rfl) ⟨by decide, by decide⟩ (fun H hG => gw_recv (q := (R_EW, T_EW, 4)) hK hG hb rfl rfl (by decide) rfl) (fun M => by
      refine gx_and (fun hx => ?_)
      obtain ⟨rfl, hx⟩ := hx
      have hTk : tR w t = 1 := ifC_f hx
      refine gx_catch hF hE (pre := []) (rest := []) (a := 0) (e := 8) (hp := 11) (ct := 21) htab ⟨by decide, by decide⟩ (fun y hy => nomatch hy) (by decide) cl_La_21 cs_IA in_IA (fun q9 => ?_)
      refine go_astore hF d_La_run_11 (by decide) ?_
      refine go_iconst (v := 1) hF d_La_run_13 (by decide) ?_
      exact go_iret hF hM d_La_run_14 (by decide) (by decide) (fun H hG => ⟨by rw [hTk], Or.inr ⟨by rw [hTk]; decide, hG⟩⟩)) rfl (fun v => ?_)
  refine go_and (fun hv => ?_)
  subst hv
  refine go_and (fun c1 => ?_)
  have hTT : tR w t = 0 := ifC_t c1
  refine gs_last hF hK hT hlo d_La_run_7 h3 rfl rfl (show (0 : Int32) = nI 0 from rfl) (by decide) (by decide) ?_
  refine go_goto (tgt := 15) hF d_La_run_8 (by decide) ?_
  refine go_iconst (v := 0) hF d_La_run_15 (by decide) ?_
  exact go_iret hF hM d_La_run_16 (by decide) (by decide) (fun H hG => ⟨by rw [hTT], Or.inl ⟨hTT, hG⟩⟩)
set_option maxHeartbeats 4000000 in
set_option maxRecDepth 100000 in
theorem con_La_at {l : Launch} (hlt : l.stackTraces = false) {E : gE} {B : bsT} {N : nwT} {w : wdT} (hb : N.1 1 0 = true) (ho : N.1 0 0 = true) (h2 : N.1 2 0 = true) (h3 : N.1 3 0 = true) (ok : okC w 0)  (n : Int32) (t : Int64) : Con l E y_La_at (Cond.codeWith y_La_at c_La_at 6 (some .int) hh_La_at :: gAll) rm_La_at [.ref (ad B 1 0 0 0), .int n, .long t, .ref (ad B 3 0 0 0)] (gw E B N w) (fun v H => v = some (.int (tA w n t)) ∧ ((tA w n t = 0 ∧ gw E B N (sL (w) 3 0 0 0 0 ((latW w 0 n t (nz (wI w 0 0 9 0 0))).toInt64)) H) ∨ (¬ tA w n t = 0 ∧ gw E B (nx1 N) w H))) (fun _ _ => False) 2 12 := by
  refine conW_of (by decide) hlt (Nat.le_of_ble_eq_true rfl) ?_
  intro F hF hM htab hnm hE hlo hl
  subst hl
  have hF : Fb F c_La_at R_La 6 rm_La_at := hF
  have hK := hE.1
  have hT := hE.2.1
  have htab : tabOf (gc F) = hh_La_at := htab
  refine go_lv (lv' := [(0, _), (1, _), (2, _), (4, _)]) ⟨rfl, rfl, rfl, rfl, trivial⟩ ?_
  refine go_aload hF d_La_at_0 rfl ?_
  refine go_iconst (v := 0) hF d_La_at_2 (by decide) ?_
  refine go_aload_n hF d_La_at_3 rfl ?_
  refine go_iload_n hF d_La_at_4 rfl ?_
  refine go_lload_n hF d_La_at_5 rfl ?_
  refine go_callVX hF hE hlo d_La_at_6 (con_EW_at hlt hb ho ok n t) mt_EW_at mv_EW_at lk_La_53 ⟨rfl, rfl, by decide, by decide⟩ rfl (Nat.le_of_ble_eq_true rfl) ⟨by decide, by decide⟩ (fun H hG => gw_recv (q := (R_EW, T_EW, 4)) hK hG hb rfl rfl (by decide) rfl) (fun M => by
      refine gx_dist2 ?_ ?_
      · refine gx_and (fun hx => ?_)
        obtain ⟨rfl, hx⟩ := hx
        have hTk : tA w n t = 1 := ifC_f hx
        refine gx_catch hF hE (pre := []) (rest := [(0, 11, 18, 21)]) (a := 0) (e := 11) (hp := 14) (ct := 19) htab ⟨by decide, by decide⟩ (fun y hy => nomatch hy) (by decide) cl_La_19 cs_IO in_IO (fun q9 => ?_)
        refine go_astore hF d_La_at_14 (by decide) ?_
        refine go_iconst (v := 1) hF d_La_at_16 (by decide) ?_
        exact go_iret hF hM d_La_at_17 (by decide) (by decide) (fun H hG => ⟨by rw [hTk], Or.inr ⟨by rw [hTk]; decide, hG⟩⟩)
      · refine gx_and (fun hx => ?_)
        obtain ⟨rfl, hx⟩ := hx
        have hTk : tA w n t = 2 := by unfold tA; rw [ifC_t hx.1, ifC_f hx.2]
        refine gx_catch hF hE (pre := [(0, 11, 14, 19)]) (rest := []) (a := 0) (e := 11) (hp := 18) (ct := 21) htab ⟨by decide, by decide⟩ (fun y hy => by
            simp only [List.mem_cons, List.not_mem_nil, or_false] at hy
            subst hy
            exact ⟨by decide, _, cl_La_19, by decide⟩) (by decide) cl_La_21 cs_IA in_IA (fun q9 => ?_)
        refine go_astore hF d_La_at_18 (by decide) ?_
        refine go_iconst (v := 2) hF d_La_at_20 (by decide) ?_
        exact go_iret hF hM d_La_at_21 (by decide) (by decide) (fun H hG => ⟨by rw [hTk], Or.inr ⟨by rw [hTk]; decide, hG⟩⟩)) rfl (fun v => ?_)
  refine go_and (fun hv => ?_)
  subst hv
  refine go_and (fun c1 => ?_)
  refine go_and (fun c2 => ?_)
  have hTT : tA w n t = 0 := by unfold tA; rw [ifC_t c1, ifC_t c2]
  refine go_i2l hF d_La_at_9 ?_
  refine gs_last hF hK hT hlo d_La_at_10 h3 rfl rfl (show (0 : Int32) = nI 0 from rfl) (by decide) (by decide) ?_
  refine go_goto (tgt := 22) hF d_La_at_11 (by decide) ?_
  refine go_iconst (v := 0) hF d_La_at_22 (by decide) ?_
  exact go_iret hF hM d_La_at_23 (by decide) (by decide) (fun H hG => ⟨by rw [hTT], Or.inl ⟨hTT, hG⟩⟩)
set_option maxHeartbeats 4000000 in
set_option maxRecDepth 100000 in
theorem con_La_value {l : Launch} (hlt : l.stackTraces = false) {E : gE} {B : bsT} {N : nwT} {w : wdT} (hb : N.1 1 0 = true) (ho : N.1 0 0 = true) (h2 : N.1 2 0 = true) (h3 : N.1 3 0 = true) (ok : okC w 0)  (n : Int32) : Con l E y_La_value (Cond.codeWith y_La_value c_La_value 4 (some .int) hh_La_value :: gAll) rm_La_value [.ref (ad B 1 0 0 0), .int n, .ref (ad B 3 0 0 0)] (gw E B N w) (fun v H => v = some (.int (tV w n)) ∧ ((tV w n = 0 ∧ gw E B N (sL (w) 3 0 0 0 0 ((wI w 0 0 13 2 (nz n)).toInt64)) H) ∨ (¬ tV w n = 0 ∧ gw E B (nx1 N) w H))) (fun _ _ => False) 1 6 := by
  refine conW_of (by decide) hlt (Nat.le_of_ble_eq_true rfl) ?_
  intro F hF hM htab hnm hE hlo hl
  subst hl
  have hF : Fb F c_La_value R_La 4 rm_La_value := hF
  have hK := hE.1
  have hT := hE.2.1
  have htab : tabOf (gc F) = hh_La_value := htab
  refine go_lv (lv' := [(0, _), (1, _), (2, _)]) ⟨rfl, rfl, rfl, trivial⟩ ?_
  refine go_aload_n hF d_La_value_0 rfl ?_
  refine go_iconst (v := 0) hF d_La_value_1 (by decide) ?_
  refine go_aload_n hF d_La_value_2 rfl ?_
  refine go_iload_n hF d_La_value_3 rfl ?_
  refine go_callVX hF hE hlo d_La_value_4 (con_EW_value hlt hb ho ok n) mt_EW_value mv_EW_value lk_La_56 ⟨rfl, rfl, by decide, by decide⟩ rfl (Nat.le_of_ble_eq_true rfl) ⟨by decide, by decide⟩ (fun H hG => gw_recv (q := (R_EW, T_EW, 4)) hK hG hb rfl rfl (by decide) rfl) (fun M => by
      refine gx_and (fun hx => ?_)
      obtain ⟨rfl, hx⟩ := hx
      have hTk : tV w n = 1 := ifC_f hx
      refine gx_catch hF hE (pre := []) (rest := []) (a := 0) (e := 9) (hp := 12) (ct := 19) htab ⟨by decide, by decide⟩ (fun y hy => nomatch hy) (by decide) cl_La_19 cs_IO in_IO (fun q9 => ?_)
      refine go_astore_n hF d_La_value_12 (by decide) ?_
      refine go_iconst (v := 1) hF d_La_value_13 (by decide) ?_
      exact go_iret hF hM d_La_value_14 (by decide) (by decide) (fun H hG => ⟨by rw [hTk], Or.inr ⟨by rw [hTk]; decide, hG⟩⟩)) rfl (fun v => ?_)
  refine go_and (fun hv => ?_)
  subst hv
  refine go_and (fun c1 => ?_)
  have hTT : tV w n = 0 := ifC_t c1
  refine go_i2l hF d_La_value_7 ?_
  refine gs_last hF hK hT hlo d_La_value_8 h3 rfl rfl (show (0 : Int32) = nI 0 from rfl) (by decide) (by decide) ?_
  refine go_goto (tgt := 15) hF d_La_value_9 (by decide) ?_
  refine go_iconst (v := 0) hF d_La_value_15 (by decide) ?_
  exact go_iret hF hM d_La_value_16 (by decide) (by decide) (fun H hG => ⟨by rw [hTT], Or.inl ⟨hTT, hG⟩⟩)
set_option maxHeartbeats 4000000 in
set_option maxRecDepth 100000 in
theorem con_La_change {l : Launch} (hlt : l.stackTraces = false) {E : gE} {B : bsT} {N : nwT} {w : wdT} (hb : N.1 1 0 = true) (ho : N.1 0 0 = true) (h2 : N.1 2 0 = true) (h3 : N.1 3 0 = true) (ok : okC w 0)  (k q : Int32) : Con l E y_La_change (Cond.codeWith y_La_change c_La_change 5 (some .int) hh_La_change :: gAll) rm_La_change [.ref (ad B 1 0 0 0), .int k, .int q, .ref (ad B 3 0 0 0)] (gw E B N w) (fun v H => v = some (.int (tX w k q)) ∧ ((tX w k q = 0 ∧ gw E B N (sL (w) 3 0 0 0 0 ((chg w k q).toInt64)) H) ∨ (¬ tX w k q = 0 ∧ gw E B (nx1 N) w H))) (fun _ _ => False) 1 6 := by
  refine conW_of (by decide) hlt (Nat.le_of_ble_eq_true rfl) ?_
  intro F hF hM htab hnm hE hlo hl
  subst hl
  have hF : Fb F c_La_change R_La 5 rm_La_change := hF
  have hK := hE.1
  have hT := hE.2.1
  have htab : tabOf (gc F) = hh_La_change := htab
  refine go_lv (lv' := [(0, _), (1, _), (2, _), (3, _)]) ⟨rfl, rfl, rfl, rfl, trivial⟩ ?_
  refine go_aload_n hF d_La_change_0 rfl ?_
  refine go_iconst (v := 0) hF d_La_change_1 (by decide) ?_
  refine go_aload_n hF d_La_change_2 rfl ?_
  refine go_iload_n hF d_La_change_3 rfl ?_
  refine go_iload_n hF d_La_change_4 rfl ?_
  refine go_callVX hF hE hlo d_La_change_5 (con_EW_change hlt hb ho ok k q) mt_EW_change mv_EW_change lk_La_59 ⟨rfl, rfl, by decide, by decide⟩ rfl (Nat.le_of_ble_eq_true rfl) ⟨by decide, by decide⟩ (fun H hG => gw_recv (q := (R_EW, T_EW, 4)) hK hG hb rfl rfl (by decide) rfl) (fun M => by
      refine gx_and (fun hx => ?_)
      obtain ⟨rfl, hx⟩ := hx
      have hTk : tX w k q = 1 := ifC_f hx
      refine gx_catch hF hE (pre := []) (rest := []) (a := 0) (e := 10) (hp := 13) (ct := 19) htab ⟨by decide, by decide⟩ (fun y hy => nomatch hy) (by decide) cl_La_19 cs_IO in_IO (fun q9 => ?_)
      refine go_astore hF d_La_change_13 (by decide) ?_
      refine go_iconst (v := 1) hF d_La_change_15 (by decide) ?_
      exact go_iret hF hM d_La_change_16 (by decide) (by decide) (fun H hG => ⟨by rw [hTk], Or.inr ⟨by rw [hTk]; decide, hG⟩⟩)) rfl (fun v => ?_)
  refine go_and (fun hv => ?_)
  subst hv
  refine go_and (fun c1 => ?_)
  have hTT : tX w k q = 0 := ifC_t c1
  refine go_i2l hF d_La_change_8 ?_
  refine gs_last hF hK hT hlo d_La_change_9 h3 rfl rfl (show (0 : Int32) = nI 0 from rfl) (by decide) (by decide) ?_
  refine go_goto (tgt := 17) hF d_La_change_10 (by decide) ?_
  refine go_iconst (v := 0) hF d_La_change_17 (by decide) ?_
  exact go_iret hF hM d_La_change_18 (by decide) (by decide) (fun H hG => ⟨by rw [hTT], Or.inl ⟨hTT, hG⟩⟩)
set_option maxHeartbeats 4000000 in
set_option maxRecDepth 100000 in
theorem con_La_counted {l : Launch} (hlt : l.stackTraces = false) {E : gE} {B : bsT} {N : nwT} {w : wdT} (hb : N.1 1 0 = true) (ho : N.1 0 0 = true) (h2 : N.1 2 0 = true) (h3 : N.1 3 0 = true) (ok : okC w 0)  (n : Int32) : Con l E y_La_counted (Cond.codeWith y_La_counted c_La_counted 4 (some .int) hh_La_counted :: gAll) rm_La_counted [.ref (ad B 1 0 0 0), .int n, .ref (ad B 3 0 0 0)] (gw E B N w) (fun v H => v = some (.int (tV w n)) ∧ ((tV w n = 0 ∧ gw E B N (sL (w) 3 0 0 0 0 (wL w 0 0 13 3 (nz n))) H) ∨ (¬ tV w n = 0 ∧ gw E B (nx1 N) w H))) (fun _ _ => False) 1 6 := by
  refine conW_of (by decide) hlt (Nat.le_of_ble_eq_true rfl) ?_
  intro F hF hM htab hnm hE hlo hl
  subst hl
  have hF : Fb F c_La_counted R_La 4 rm_La_counted := hF
  have hK := hE.1
  have hT := hE.2.1
  have htab : tabOf (gc F) = hh_La_counted := htab
  refine go_lv (lv' := [(0, _), (1, _), (2, _)]) ⟨rfl, rfl, rfl, trivial⟩ ?_
  refine go_aload_n hF d_La_counted_0 rfl ?_
  refine go_iconst (v := 0) hF d_La_counted_1 (by decide) ?_
  refine go_aload_n hF d_La_counted_2 rfl ?_
  refine go_iload_n hF d_La_counted_3 rfl ?_
  refine go_callVX hF hE hlo d_La_counted_4 (con_EW_counted hlt hb ho ok n) mt_EW_counted mv_EW_counted lk_La_63 ⟨rfl, rfl, by decide, by decide⟩ rfl (Nat.le_of_ble_eq_true rfl) ⟨by decide, by decide⟩ (fun H hG => gw_recv (q := (R_EW, T_EW, 4)) hK hG hb rfl rfl (by decide) rfl) (fun M => by
      refine gx_and (fun hx => ?_)
      obtain ⟨rfl, hx⟩ := hx
      have hTk : tV w n = 1 := ifC_f hx
      refine gx_catch hF hE (pre := []) (rest := []) (a := 0) (e := 8) (hp := 11) (ct := 19) htab ⟨by decide, by decide⟩ (fun y hy => nomatch hy) (by decide) cl_La_19 cs_IO in_IO (fun q9 => ?_)
      refine go_astore_n hF d_La_counted_11 (by decide) ?_
      refine go_iconst (v := 1) hF d_La_counted_12 (by decide) ?_
      exact go_iret hF hM d_La_counted_13 (by decide) (by decide) (fun H hG => ⟨by rw [hTk], Or.inr ⟨by rw [hTk]; decide, hG⟩⟩)) rfl (fun v => ?_)
  refine go_and (fun hv => ?_)
  subst hv
  refine go_and (fun c1 => ?_)
  have hTT : tV w n = 0 := ifC_t c1
  refine gs_last hF hK hT hlo d_La_counted_7 h3 rfl rfl (show (0 : Int32) = nI 0 from rfl) (by decide) (by decide) ?_
  refine go_goto (tgt := 14) hF d_La_counted_8 (by decide) ?_
  refine go_iconst (v := 0) hF d_La_counted_14 (by decide) ?_
  exact go_iret hF hM d_La_counted_15 (by decide) (by decide) (fun H hG => ⟨by rw [hTT], Or.inl ⟨hTT, hG⟩⟩)
set_option maxHeartbeats 4000000 in
set_option maxRecDepth 100000 in
theorem con_La_write {l : Launch} (hlt : l.stackTraces = false) {E : gE} {B : bsT} {N : nwT} {w : wdT} (hb : N.1 1 0 = true) (ho : N.1 0 0 = true) (h2 : N.1 2 0 = true) (h3 : N.1 3 0 = true) (ok : okC w 0)  (hv : ∀ k, k < nz (wI w 0 0 9 0 0) → vn (wI w 0 0 12 0 k) 4) (x : Int32) : Con l E y_La_write (Cond.codeWith y_La_write c_La_write 4 (some .int) hh_La_write :: gAll) rm_La_write [.ref (ad B 1 0 0 0), .int x, .ref (ad B 3 0 0 0)] (gw E B N w) (fun v H => v = some (.int (tWr w x)) ∧ ((tWr w x = 0 ∧ gw E B N (sL (w) 3 0 0 0 0 ((bot w 0 (nz (wI w 0 0 9 0 0)) 0 x).toInt64)) H) ∨ (¬ tWr w x = 0 ∧ gw E B (nx1 N) w H))) (fun _ _ => False) 1 6 := by
  refine conW_of (by decide) hlt (Nat.le_of_ble_eq_true rfl) ?_
  intro F hF hM htab hnm hE hlo hl
  subst hl
  have hF : Fb F c_La_write R_La 4 rm_La_write := hF
  have hK := hE.1
  have hT := hE.2.1
  have htab : tabOf (gc F) = hh_La_write := htab
  refine go_lv (lv' := [(0, _), (1, _), (2, _)]) ⟨rfl, rfl, rfl, trivial⟩ ?_
  refine go_aload_n hF d_La_write_0 rfl ?_
  refine go_iconst (v := 0) hF d_La_write_1 (by decide) ?_
  refine go_aload_n hF d_La_write_2 rfl ?_
  refine go_iload_n hF d_La_write_3 rfl ?_
  refine go_callVX hF hE hlo d_La_write_4 (con_EW_write hlt hb ho ok hv x) mt_EW_write mv_EW_write lk_La_70 ⟨rfl, rfl, by decide, by decide⟩ rfl (Nat.le_of_ble_eq_true rfl) ⟨by decide, by decide⟩ (fun H hG => gw_recv (q := (R_EW, T_EW, 4)) hK hG hb rfl rfl (by decide) rfl) (fun M => by
      refine gx_and (fun hx => ?_)
      obtain ⟨rfl, hx⟩ := hx
      have hTk : tWr w x = 1 := ifC_f hx
      refine gx_catch hF hE (pre := []) (rest := []) (a := 0) (e := 9) (hp := 12) (ct := 19) htab ⟨by decide, by decide⟩ (fun y hy => nomatch hy) (by decide) cl_La_19 cs_IO in_IO (fun q9 => ?_)
      refine go_astore_n hF d_La_write_12 (by decide) ?_
      refine go_iconst (v := 1) hF d_La_write_13 (by decide) ?_
      exact go_iret hF hM d_La_write_14 (by decide) (by decide) (fun H hG => ⟨by rw [hTk], Or.inr ⟨by rw [hTk]; decide, hG⟩⟩)) rfl (fun v => ?_)
  refine go_and (fun hv => ?_)
  subst hv
  refine go_and (fun c1 => ?_)
  have hTT : tWr w x = 0 := ifC_t c1
  refine go_i2l hF d_La_write_7 ?_
  refine gs_last hF hK hT hlo d_La_write_8 h3 rfl rfl (show (0 : Int32) = nI 0 from rfl) (by decide) (by decide) ?_
  refine go_goto (tgt := 15) hF d_La_write_9 (by decide) ?_
  refine go_iconst (v := 0) hF d_La_write_15 (by decide) ?_
  exact go_iret hF hM d_La_write_16 (by decide) (by decide) (fun H hG => ⟨by rw [hTT], Or.inl ⟨hTT, hG⟩⟩)
set_option maxHeartbeats 4000000 in
set_option maxRecDepth 100000 in
theorem con_La_read {l : Launch} (hlt : l.stackTraces = false) {E : gE} {B : bsT} {N : nwT} {w : wdT} (hb : N.1 1 0 = true) (ho : N.1 0 0 = true) (h2 : N.1 2 0 = true) (h3 : N.1 3 0 = true) (ok : okC w 0)  (hn : ct (wI w 2 0 1 0 0) 2000) (hO : N.2.1 N.2.2 = none) : Con l E y_La_read (Cond.codeWith y_La_read c_La_read 3 (some .int) hh_La_read :: gAll) rm_La_read [.ref (ad B 1 0 0 0), .ref (ad B 3 0 0 0)] (gw E B N w) (fun v H => v = some (.int (tRd w)) ∧ ((tRd w = 0 ∧ gw E B (nx1 N) (sL (rdW w) 3 0 0 0 0 (rdV w).toInt64) H) ∨ (¬ tRd w = 0 ∧ gw E B (nx1 (nx1 N)) w H))) (fun _ _ => False) 2 10 := by
  refine conW_of (by decide) hlt (Nat.le_of_ble_eq_true rfl) ?_
  intro F hF hM htab hnm hE hlo hl
  subst hl
  have hF : Fb F c_La_read R_La 3 rm_La_read := hF
  have hK := hE.1
  have hT := hE.2.1
  have htab : tabOf (gc F) = hh_La_read := htab
  refine go_lv (lv' := [(0, _), (1, _)]) ⟨rfl, rfl, trivial⟩ ?_
  refine go_aload_n hF d_La_read_0 rfl ?_
  refine go_iconst (v := 0) hF d_La_read_1 (by decide) ?_
  refine go_aload_n hF d_La_read_2 rfl ?_
  refine go_callVX hF hE hlo d_La_read_3 (con_EW_read hlt hb ho h2 ok hn hO (fun p hp => by have := (psO_b hn).2 p hp; omega) (by have := (psO_b hn).1; omega)) mt_EW_read mv_EW_read lk_La_67 ⟨rfl, rfl, by decide, by decide⟩ rfl (Nat.le_of_ble_eq_true rfl) ⟨by decide, by decide⟩ (fun H hG => gw_recv (q := (R_EW, T_EW, 4)) hK hG hb rfl rfl (by decide) rfl) (fun M => by
      refine gx_and (fun hx => ?_)
      obtain ⟨rfl, hx⟩ := hx
      have hTk : tRd w = 1 := ifC_f hx
      refine gx_catch hF hE (pre := []) (rest := []) (a := 0) (e := 8) (hp := 11) (ct := 13) htab ⟨by decide, by decide⟩ (fun y hy => nomatch hy) (by decide) cl_La_13 cs_IS in_IS (fun q9 => ?_)
      refine go_astore_n hF d_La_read_11 (by decide) ?_
      refine go_iconst (v := 1) hF d_La_read_12 (by decide) ?_
      exact go_iret hF hM d_La_read_13 (by decide) (by decide) (fun H hG => ⟨by rw [hTk], Or.inr ⟨by rw [hTk]; decide, hG⟩⟩)) rfl (fun v => ?_)
  refine go_and (fun hv => ?_)
  subst hv
  refine go_and (fun c1 => ?_)
  have hTT : tRd w = 0 := ifC_t c1
  refine go_i2l hF d_La_read_6 ?_
  refine gs_last hF hK hT hlo d_La_read_7 h3 rfl rfl (show (0 : Int32) = nI 0 from rfl) (by decide) (by decide) ?_
  refine go_goto (tgt := 14) hF d_La_read_8 (by decide) ?_
  refine go_iconst (v := 0) hF d_La_read_14 (by decide) ?_
  exact go_iret hF hM d_La_read_15 (by decide) (by decide) (fun H hG => ⟨by rw [hTT], Or.inl ⟨hTT, hG⟩⟩)

set_option maxHeartbeats 4000000 in
set_option maxRecDepth 100000 in
theorem con_La_save {l : Launch} (hlt : l.stackTraces = false) {E : gE} {B : bsT} {N : nwT} {w : wdT} (hb : N.1 1 0 = true) (ho : N.1 0 0 = true) (h2 : N.1 2 0 = true) (h3 : N.1 3 0 = true) (ok : okC w 0)  {s : Nat} (hs : wI w 1 0 0 2 0 = nI s) (hs4 : s ≤ 4) (h5 : ∀ κ' ι', N.1 κ' ι' = true → 0 < bln κ') (hoff : N.1 0 (s + 1) = false) (hO : ∀ q, N.2.2 ≤ q → N.2.1 q = none) : Con l E y_La_save (Cond.codeWith y_La_save c_La_save 3 (some .int) hh_La_save :: gAll) rm_La_save [.ref (ad B 1 0 0 0), .ref (ad B 3 0 0 0)] (gw E B N w) (fun v H => v = some (.int (tSv s)) ∧ ((tSv s = 0 ∧ s < 4 ∧ gw E (upB B 0 (s + 1) N.2.2) (upN N.1 0 (s + 1), N.2.1, N.2.2 + 89) (sL (svW w s N.2.2) 3 0 0 0 0 (nI s).toInt64) H) ∨ (¬ tSv s = 0 ∧ gw E B (nx1 N) w H))) (fun _ _ => False) 89 2891 := by
  refine conW_of (by decide) hlt (Nat.le_of_ble_eq_true rfl) ?_
  intro F hF hM htab hnm hE hlo hl
  subst hl
  have hF : Fb F c_La_save R_La 3 rm_La_save := hF
  have hK := hE.1
  have hT := hE.2.1
  have htab : tabOf (gc F) = hh_La_save := htab
  refine go_lv (lv' := [(0, _), (1, _)]) ⟨rfl, rfl, trivial⟩ ?_
  refine go_aload_n hF d_La_save_0 rfl ?_
  refine go_iconst (v := 0) hF d_La_save_1 (by decide) ?_
  refine go_aload_n hF d_La_save_2 rfl ?_
  refine go_callVX hF hE hlo d_La_save_3 (con_EW_save hlt hb ho h2 ok hs hs4 h5 hoff hO) mt_EW_save mv_EW_save lk_La_73 ⟨rfl, rfl, by decide, by decide⟩ rfl (Nat.le_of_ble_eq_true rfl) ⟨by decide, by decide⟩ (fun H hG => gw_recv (q := (R_EW, T_EW, 4)) hK hG hb rfl rfl (by decide) rfl) (fun M => by
      refine gx_and (fun hx => ?_)
      obtain ⟨rfl, hx⟩ := hx
      have hTk : tSv s = 1 := ifC_f hx
      refine gx_catch hF hE (pre := []) (rest := []) (a := 0) (e := 8) (hp := 11) (ct := 13) htab ⟨by decide, by decide⟩ (fun y hy => nomatch hy) (by decide) cl_La_13 cs_IS in_IS (fun q9 => ?_)
      refine go_astore_n hF d_La_save_11 (by decide) ?_
      refine go_iconst (v := 1) hF d_La_save_12 (by decide) ?_
      exact go_iret hF hM d_La_save_13 (by decide) (by decide) (fun H hG => ⟨by rw [hTk], Or.inr ⟨by rw [hTk]; decide, hG⟩⟩)) rfl (fun v => ?_)
  refine go_and (fun hv => ?_)
  subst hv
  refine go_and (fun c1 => ?_)
  have hTT : tSv s = 0 := ifC_t c1
  have h3 : upN N.1 0 (s + 1) 3 0 = true := (upN_n (by omega)).trans h3
  refine go_lv (lv' := [(0, _), (1, .ref (ad (upB B 0 (s + 1) N.2.2) 3 0 0 0))]) ⟨rfl, by rw [ad_up (by omega)]; rfl, trivial⟩ ?_
  rw [← ad_up (B := B) (κ := 0) (ι := s + 1) (a := N.2.2) (κ' := 3) (ι' := 0) (r := 0) (i := 0) (by omega)]
  refine go_i2l hF d_La_save_6 ?_
  refine gs_last hF hK hT hlo d_La_save_7 h3 rfl rfl (show (0 : Int32) = nI 0 from rfl) (by decide) (by decide) ?_
  refine go_goto (tgt := 14) hF d_La_save_8 (by decide) ?_
  refine go_iconst (v := 0) hF d_La_save_14 (by decide) ?_
  exact go_iret hF hM d_La_save_15 (by decide) (by decide) (fun H hG => ⟨by rw [hTT], Or.inl ⟨hTT, c1, hG⟩⟩)
