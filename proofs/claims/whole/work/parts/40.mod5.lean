noncomputable def ifC (p : Prop) (x y : Int32) : Int32 := @ite _ p (Classical.propDecidable _) x y
theorem ifC_t {p : Prop} {x y : Int32} (h : p) : ifC p x y = x := if_pos h
theorem ifC_f {p : Prop} {x y : Int32} (h : ¬ p) : ifC p x y = y := if_neg h
theorem ct_ne {x : Int32} {n m : Nat} (h : x = nI n ∧ n ≤ m) (hm : m < 2 ^ 31) : x < nI m ↔ ¬ x = nI m := by
  have h2 := h.2
  rw [h.1, nI_ltI (by omega) hm, nI_eq (by omega) hm]
  omega
theorem fu_id (f : Nat → Int32) (k : Nat) : fu f k (f k) = f := by
  funext i
  unfold fu
  split
  · rename_i h
    rw [h]
  · rfl
theorem Rel_isN {K : Nat} {c : wdT} {f : Nat → Int32} (h : Rel K c 0 f) (x : Int32) : (0 ≤ x ∧ x < f 2) ↔ isN c x := by
  unfold isN
  rw [h.2.1.2.2.1]
theorem Rel_isG {K : Nat} {c : wdT} {f : Nat → Int32} (h : Rel K c 0 f) (x : Int32) : (0 ≤ x ∧ x < f 3) ↔ isG c x := by
  unfold isG
  rw [h.2.1.2.2.2.1]
theorem Rel_isK {K : Nat} {c : wdT} {f : Nat → Int32} (h : Rel K c 0 f) (x : Int32) : (0 ≤ x ∧ x < f 5) ↔ isK c x := by
  unfold isK
  rw [h.2.1.2.2.2.2.2.1]
theorem Rel_isW {K : Nat} {c : wdT} {f : Nat → Int32} (h : Rel K c 0 f) (x : Int32) : (0 ≤ x ∧ x < f 6) ↔ isW c x := by
  unfold isW
  rw [h.2.1.2.2.2.2.2.2.1]
/-- what is thrown: 0 nothing, else the number of the catch -/
noncomputable def tN (c : wdT) : Int32 := ifC (wI c 0 0 0 2 0 < 24) 0 1
noncomputable def tG (c : wdT) (kd a b o : Int32) : Int32 := ifC (isN c a ∧ isN c b ∧ isN c o) (ifC (wI c 0 0 0 4 0 < 32) (ifC (0 ≤ kd ∧ kd ≤ 7) 0 3) 2) 1
noncomputable def tD (c : wdT) (g r s : Int32) : Int32 := ifC (isG c g) (ifC (lenOk r ∧ lenOk s) 0 2) 1
noncomputable def tS (r : Int32) : Int32 := ifC (r = 0 ∨ r = 1) 0 1
noncomputable def tH (c : wdT) (n : Int32) (t : Int64) (x : Int32) : Int32 := ifC (isN c n) (ifC (wI c 0 0 4 0 0 < 100) (ifC ((0 ≤ x ∧ x ≤ 3) ∧ (wL c 0 0 0 0 0 ≤ t ∧ t ≤ 1000000000)) 0 3) 2) 1
noncomputable def tC (c : wdT) (kd ck dt lm : Int32) : Int32 := ifC (isN c ck ∧ isN c dt) (ifC (wI c 0 0 0 6 0 < 20) (ifC ((kd = 0 ∨ kd = 1) ∧ lenOk lm) 0 3) 2) 1
noncomputable def tB (c : wdT) (x : Int32) : Int32 := ifC (isK c x) 0 1
noncomputable def tA (c : wdT) (n : Int32) (t : Int64) : Int32 := ifC (isN c n) (ifC (0 ≤ t ∧ t ≤ wL c 0 0 0 0 0) 0 2) 1
noncomputable def tV (c : wdT) (n : Int32) : Int32 := ifC (isN c n) 0 1
noncomputable def tX (c : wdT) (k q : Int32) : Int32 := ifC (chgOk c k q) 0 1
set_option maxHeartbeats 4000000 in
set_option maxRecDepth 100000 in
theorem con_Mo_net {l : Launch} (hlt : l.stackTraces = false) {E : gE} {B : bsT} {N : nwT} {w : wdT} {f : Nat → Int32} (h4 : N.1 4 0 = true) {K : Nat} {c : wdT} (hR : Rel K c 0 f) : Con l E y_Mo_net (Cond.code y_Mo_net c_Mo_net 2 (some .int) :: gAll) rm_Mo_net [.ref (ad B 4 0 0 0)] (gw E B N (mW w f)) (fun v H => ∃ f2 b, v = some (.int b) ∧ (tN c = 0 → b = wI c 0 0 0 2 0 ∧ Rel K (anX c) 0 f2) ∧ (¬ tN c = 0 → f2 = f) ∧ gw E B N (mW (sI w 4 0 0 0 0 (tN c)) f2) H) (fun _ _ => False) 0 0 := by
  refine con_of (by decide) hlt (Nat.le_of_ble_eq_true rfl) ?_
  intro F hF hM htab hnm hE hlo hl
  subst hl
  have hF : Fb F c_Mo_net R_Mo 2 rm_Mo_net := hF
  have hK := hE.1
  have hT := hE.2.1
  refine go_lv (lv' := [(0, _)]) ⟨rfl, trivial⟩ ?_
  refine go_aload_n hF d_Mo_net_0 rfl ?_
  refine go_aload_n hF d_Mo_net_1 rfl ?_
  refine gs_getr hF hK d_Mo_net_2 fl_Mo_7 h4 rfl rfl (by decide) rfl ?_
  refine go_iconst (v := 2) hF d_Mo_net_5 (by decide) ?_
  refine gs_md hF hK hT d_Mo_net_6 h4 (show (2 : Int32) = nI 2 from rfl) (by decide) ?_
  refine go_bipush (v := 24) hF d_Mo_net_7 (by decide) ?_
  refine go_icmp_ne (tgt := 16) hF d_Mo_net_9 (by decide) (fun h9 => ?_) (fun h9 => ?_)
  · refine go_iconst (v := 0) hF d_Mo_net_16 (by decide) ?_
    have hn2 := Rel_n hR
    have hTT : tN c = 0 := by
      unfold tN
      rw [← hR.2.1.2.2.1]
      exact ifC_t ((ct_ne (m := 24) hn2 (by decide)).mpr h9)
    refine gs_puti hF hK hlo d_Mo_net_17 fl_Mo_28 ct_Mo fs_Mo_0 h4 rfl rfl (by decide) rfl rfl ?_
    rw [mW_0]
    refine go_aload_n hF d_Mo_net_20 rfl ?_
    refine gs_geti hF hK d_Mo_net_21 fl_Mo_28 h4 rfl rfl (by decide) rfl ?_
    refine go_if_le (tgt := 29) hF d_Mo_net_24 (by decide) (fun h24 => ?_) (fun h24 => ?_)
    · have h24n : cN c 0 < 24 := by
        have q := (ct_ne (m := 24) hn2 (by decide)).mpr h9
        rw [hn2.1] at q
        exact (nI_ltI (b := 24) (by omega) (by decide)).mp q
      refine go_aload_n hF d_Mo_net_29 rfl ?_
      refine gs_getr hF hK d_Mo_net_30 fl_Mo_7 h4 rfl rfl (by decide) rfl ?_
      refine go_iconst (v := 2) hF d_Mo_net_33 (by decide) ?_
      refine gs_md hF hK hT d_Mo_net_34 h4 (show (2 : Int32) = nI 2 from rfl) (by decide) ?_
      refine go_istore_n hF d_Mo_net_35 (by decide) ?_
      refine go_lv (lv' := [(0, _), (1, _)]) ⟨rfl, rfl, trivial⟩ ?_
      refine go_aload_n hF d_Mo_net_36 rfl ?_
      refine gs_getr hF hK d_Mo_net_37 fl_Mo_7 h4 rfl rfl (by decide) rfl ?_
      refine go_iconst (v := 2) hF d_Mo_net_40 (by decide) ?_
      refine go_dup2 hF d_Mo_net_41 rfl rfl ?_
      refine gs_md hF hK hT d_Mo_net_42 h4 (show (2 : Int32) = nI 2 from rfl) (by decide) ?_
      refine go_iconst (v := 1) hF d_Mo_net_43 (by decide) ?_
      refine go_iadd hF d_Mo_net_44 ?_
      refine gs_ms hF hK hT hlo d_Mo_net_45 h4 (show (2 : Int32) = nI 2 from rfl) (by decide) ?_
      rw [show f 2 + 1 = nI (cN c 0 + 1) by rw [hn2.1, nI_1]]
      refine go_aload_n hF d_Mo_net_46 rfl ?_
      refine go_iload_n hF d_Mo_net_47 rfl ?_
      refine go_iconst (v := 0) hF d_Mo_net_48 (by decide) ?_
      refine go_iconst (v := 2) hF d_Mo_net_49 (by decide) ?_
      refine go_callVX hF hE hlo d_Mo_net_50 (con_Mo_setNet hlt h4 (k := 0) hn2.1 h24n rfl (by decide) _) mt_Mo_setNet mv_Mo_setNet lk_Mo_53 ⟨rfl, rfl, by decide, by decide⟩ rfl (Nat.le_of_ble_eq_true rfl) ⟨by decide, by decide⟩ (fun H hG => gw_recv (q := (R_Mo, T_Mo, 9)) hK hG h4 rfl rfl (by decide) rfl) (fun M => gx_no) rfl (fun v => ?_)
      refine go_and (fun hv => ?_)
      subst hv
      refine go_aload_n hF d_Mo_net_53 rfl ?_
      refine go_iload_n hF d_Mo_net_54 rfl ?_
      refine go_iconst (v := 1) hF d_Mo_net_55 (by decide) ?_
      refine go_iconst (v := 3) hF d_Mo_net_56 (by decide) ?_
      refine go_callVX hF hE hlo d_Mo_net_57 (con_Mo_setNet hlt h4 (k := 1) hn2.1 h24n rfl (by decide) _) mt_Mo_setNet mv_Mo_setNet lk_Mo_53 ⟨rfl, rfl, by decide, by decide⟩ rfl (Nat.le_of_ble_eq_true rfl) ⟨by decide, by decide⟩ (fun H hG => gw_recv (q := (R_Mo, T_Mo, 9)) hK hG h4 rfl rfl (by decide) rfl) (fun M => gx_no) rfl (fun v => ?_)
      refine go_and (fun hv => ?_)
      subst hv
      refine go_aload_n hF d_Mo_net_60 rfl ?_
      refine go_iload_n hF d_Mo_net_61 rfl ?_
      refine go_iconst (v := 2) hF d_Mo_net_62 (by decide) ?_
      refine go_iconst (v := -1) hF d_Mo_net_63 (by decide) ?_
      refine go_callVX hF hE hlo d_Mo_net_64 (con_Mo_setNet hlt h4 (k := 2) hn2.1 h24n rfl (by decide) _) mt_Mo_setNet mv_Mo_setNet lk_Mo_53 ⟨rfl, rfl, by decide, by decide⟩ rfl (Nat.le_of_ble_eq_true rfl) ⟨by decide, by decide⟩ (fun H hG => gw_recv (q := (R_Mo, T_Mo, 9)) hK hG h4 rfl rfl (by decide) rfl) (fun M => gx_no) rfl (fun v => ?_)
      refine go_and (fun hv => ?_)
      subst hv
      refine go_aload_n hF d_Mo_net_67 rfl ?_
      refine go_iload_n hF d_Mo_net_68 rfl ?_
      refine go_iconst (v := 3) hF d_Mo_net_69 (by decide) ?_
      refine go_iconst (v := 0) hF d_Mo_net_70 (by decide) ?_
      refine go_callVX hF hE hlo d_Mo_net_71 (con_Mo_setNet hlt h4 (k := 3) hn2.1 h24n rfl (by decide) _) mt_Mo_setNet mv_Mo_setNet lk_Mo_53 ⟨rfl, rfl, by decide, by decide⟩ rfl (Nat.le_of_ble_eq_true rfl) ⟨by decide, by decide⟩ (fun H hG => gw_recv (q := (R_Mo, T_Mo, 9)) hK hG h4 rfl rfl (by decide) rfl) (fun M => gx_no) rfl (fun v => ?_)
      refine go_and (fun hv => ?_)
      subst hv
      refine go_aload_n hF d_Mo_net_74 rfl ?_
      refine go_iload_n hF d_Mo_net_75 rfl ?_
      refine go_iconst (v := 4) hF d_Mo_net_76 (by decide) ?_
      refine go_iconst (v := 0) hF d_Mo_net_77 (by decide) ?_
      refine go_callVX hF hE hlo d_Mo_net_78 (con_Mo_setNet hlt h4 (k := 4) hn2.1 h24n rfl (by decide) _) mt_Mo_setNet mv_Mo_setNet lk_Mo_53 ⟨rfl, rfl, by decide, by decide⟩ rfl (Nat.le_of_ble_eq_true rfl) ⟨by decide, by decide⟩ (fun H hG => gw_recv (q := (R_Mo, T_Mo, 9)) hK hG h4 rfl rfl (by decide) rfl) (fun M => gx_no) rfl (fun v => ?_)
      refine go_and (fun hv => ?_)
      subst hv
      refine go_aload_n hF d_Mo_net_81 rfl ?_
      refine go_iload_n hF d_Mo_net_82 rfl ?_
      refine go_iconst (v := 5) hF d_Mo_net_83 (by decide) ?_
      refine go_iconst (v := -1) hF d_Mo_net_84 (by decide) ?_
      refine go_callVX hF hE hlo d_Mo_net_85 (con_Mo_setNet hlt h4 (k := 5) hn2.1 h24n rfl (by decide) _) mt_Mo_setNet mv_Mo_setNet lk_Mo_53 ⟨rfl, rfl, by decide, by decide⟩ rfl (Nat.le_of_ble_eq_true rfl) ⟨by decide, by decide⟩ (fun H hG => gw_recv (q := (R_Mo, T_Mo, 9)) hK hG h4 rfl rfl (by decide) rfl) (fun M => gx_no) rfl (fun v => ?_)
      refine go_and (fun hv => ?_)
      subst hv
      refine go_aload_n hF d_Mo_net_88 rfl ?_
      refine go_iload_n hF d_Mo_net_89 rfl ?_
      refine go_bipush (v := 6) hF d_Mo_net_90 (by decide) ?_
      refine go_iconst (v := -1) hF d_Mo_net_92 (by decide) ?_
      refine go_callVX hF hE hlo d_Mo_net_93 (con_Mo_setNet hlt h4 (k := 6) hn2.1 h24n rfl (by decide) _) mt_Mo_setNet mv_Mo_setNet lk_Mo_53 ⟨rfl, rfl, by decide, by decide⟩ rfl (Nat.le_of_ble_eq_true rfl) ⟨by decide, by decide⟩ (fun H hG => gw_recv (q := (R_Mo, T_Mo, 9)) hK hG h4 rfl rfl (by decide) rfl) (fun M => gx_no) rfl (fun v => ?_)
      refine go_and (fun hv => ?_)
      subst hv
      refine go_iload_n hF d_Mo_net_96 rfl ?_
      exact go_iret hF hM d_Mo_net_97 (by decide) (by decide) (fun H hG => ⟨_, _, rfl, fun _ => ⟨hR.2.1.2.2.1, Rel_anew hR h24n⟩, fun z => absurd hTT z, by rw [hTT]; exact hG⟩)
    · rw [thr_v] at h24
      exact absurd (by decide) h24
  · refine go_iconst (v := 1) hF d_Mo_net_12 (by decide) ?_
    refine go_goto (tgt := 17) hF d_Mo_net_13 (by decide) ?_
    have hn2 := Rel_n hR
    have hTT : tN c = 1 := by
      unfold tN
      rw [← hR.2.1.2.2.1]
      exact ifC_f (fun z => (ct_ne (m := 24) hn2 (by decide)).mp z h9)
    refine gs_puti hF hK hlo d_Mo_net_17 fl_Mo_28 ct_Mo fs_Mo_0 h4 rfl rfl (by decide) rfl rfl ?_
    rw [mW_0]
    refine go_aload_n hF d_Mo_net_20 rfl ?_
    refine gs_geti hF hK d_Mo_net_21 fl_Mo_28 h4 rfl rfl (by decide) rfl ?_
    refine go_if_le (tgt := 29) hF d_Mo_net_24 (by decide) (fun h24 => ?_) (fun h24 => ?_)
    · rw [thr_v] at h24
      exact absurd h24 (by decide)
    · refine go_iconst (v := 0) hF d_Mo_net_27 (by decide) ?_
      exact go_iret hF hM d_Mo_net_28 (by decide) (by decide) (fun H hG => ⟨f, _, rfl, fun z => absurd (hTT.symm.trans z) (by decide), fun _ => rfl, by rw [hTT]; exact hG⟩)
theorem rfX_ag {c : wdT} {kd a b o : Int32} (ha : vn a 24) (hb : vn b 24) (ho : vn o 24) (hg : cG c 0 < 32) : rfX (ag0 c 0 (cG c 0) kd a b o) 0 (nz o) = ag1 c 0 (cG c 0) (cK c 0) (cW c 0) kd (nz a) (nz b) (nz o) := by
  unfold rfX ag1
  have e1 : nz (wI (ag0 c 0 (cG c 0) kd a b o) 0 0 0 4 0) = cG c 0 + 1 := by
    unfold ag0
    rw [rd_II, if_pos (by simp)]
    unfold nz
    exact nI_clamp (by omega)
  have e2 : nz (wI (ag0 c 0 (cG c 0) kd a b o) 0 0 0 6 0) = cK c 0 := by rw [ag0_I _ _ _ _ _ _ _ _ _ _ _ _ (by omega)]
  have e3 : nz (wI (ag0 c 0 (cG c 0) kd a b o) 0 0 9 0 0) = cW c 0 := by rw [ag0_I _ _ _ _ _ _ _ _ _ _ _ _ (by omega)]
  rw [e1, e2, e3, ← (nz_vn ha).1, ← (nz_vn hb).1, ← (nz_vn ho).1]
theorem cN_ag (c : wdT) (kd a b o : Int32) : cN (ag0 c 0 (cG c 0) kd a b o) 0 = cN c 0 := by
  unfold cN
  rw [ag0_I _ _ _ _ _ _ _ _ _ _ _ _ (by omega)]
theorem cG_ag {c : wdT} {kd a b o : Int32} (hg : cG c 0 < 32) : cG (ag0 c 0 (cG c 0) kd a b o) 0 = cG c 0 + 1 := by
  unfold cG
  conv => lhs; unfold ag0
  rw [rd_II, if_pos (by simp)]
  unfold nz
  exact nI_clamp (by unfold cG nz at hg; omega)
theorem cG_rfX (c : wdT) (ι q : Nat) : cG (rfX c ι q) ι = cG c ι := by
  unfold cG rfX
  rw [(qr_rfW c ι q _ _ _).1 0 ι 0 4 0 (by omega)]
set_option maxHeartbeats 4000000 in
set_option maxRecDepth 100000 in
theorem con_Mo_gate {l : Launch} (hlt : l.stackTraces = false) {E : gE} {B : bsT} {N : nwT} {w : wdT} {f : Nat → Int32} (h4 : N.1 4 0 = true) {K : Nat} {c : wdT} {kd a b o : Int32} (hKK : K < 1000000000) (hR : Rel K c 0 f) : Con l E y_Mo_gate (Cond.code y_Mo_gate c_Mo_gate 6 (some .int) :: gAll) rm_Mo_gate [.ref (ad B 4 0 0 0), .int kd, .int a, .int b, .int o] (gw E B N (mW w f)) (fun v H => ∃ f2 b9, v = some (.int b9) ∧ (tG c kd a b o = 0 → b9 = wI c 0 0 0 4 0 ∧ Rel (K + 1) (agX c kd a b o) 0 f2) ∧ (¬ tG c kd a b o = 0 → f2 = f) ∧ gw E B N (mW (sI w 4 0 0 0 0 (tG c kd a b o)) f2) H) (fun _ _ => False) 0 0 := by
  refine con_of (by decide) hlt (Nat.le_of_ble_eq_true rfl) ?_
  intro F hF hM htab hnm hE hlo hl
  subst hl
  have hF : Fb F c_Mo_gate R_Mo 6 rm_Mo_gate := hF
  have hK := hE.1
  have hT := hE.2.1
  refine go_lv (lv' := [(0, _), (1, _), (2, _), (3, _), (4, _)]) ⟨rfl, rfl, rfl, rfl, rfl, trivial⟩ ?_
  refine go_aload_n hF d_Mo_gate_0 rfl ?_
  refine go_aload_n hF d_Mo_gate_1 rfl ?_
  refine go_iload_n hF d_Mo_gate_2 rfl ?_
  refine go_callVX hF hE hlo d_Mo_gate_3 (con_Mo_isNet hlt h4 a) mt_Mo_isNet mv_Mo_isNet lk_Mo_70 ⟨rfl, rfl, by decide, by decide⟩ rfl (Nat.le_of_ble_eq_true rfl) ⟨by decide, by decide⟩ (fun H hG => gw_recv (q := (R_Mo, T_Mo, 9)) hK hG h4 rfl rfl (by decide) rfl) (fun M => gx_no) rfl (fun v => ?_)
  refine go_and (fun hv => ?_)
  subst hv
  refine go_if_eq (tgt := 26) hF d_Mo_gate_6 (by decide) (fun h6 => ?_) (fun h6 => ?_)
  · refine go_iconst (v := 1) hF d_Mo_gate_26 (by decide) ?_
    refine go_goto (tgt := 60) hF d_Mo_gate_27 (by decide) ?_
    have hg := Rel_g hR
    have hTT : tG c kd a b o = 1 := by
      unfold tG
      exact ifC_f (fun z => bi_0 h6 ((Rel_isN hR _).mpr z.1))
    refine gs_puti hF hK hlo d_Mo_gate_60 fl_Mo_28 ct_Mo fs_Mo_0 h4 rfl rfl (by decide) rfl rfl ?_
    rw [mW_0]
    refine go_aload_n hF d_Mo_gate_63 rfl ?_
    refine gs_geti hF hK d_Mo_gate_64 fl_Mo_28 h4 rfl rfl (by decide) rfl ?_
    refine go_if_le (tgt := 72) hF d_Mo_gate_67 (by decide) (fun h67 => ?_) (fun h67 => ?_)
    · rw [thr_v] at h67
      exact absurd h67 (by decide)
    · refine go_iconst (v := 0) hF d_Mo_gate_70 (by decide) ?_
      exact go_iret hF hM d_Mo_gate_71 (by decide) (by decide) (fun H hG => ⟨f, _, rfl, fun z => absurd (hTT.symm.trans z) (by decide), fun _ => rfl, by rw [hTT]; exact hG⟩)
  · refine go_aload_n hF d_Mo_gate_9 rfl ?_
    refine go_iload_n hF d_Mo_gate_10 rfl ?_
    refine go_callVX hF hE hlo d_Mo_gate_11 (con_Mo_isNet hlt h4 b) mt_Mo_isNet mv_Mo_isNet lk_Mo_70 ⟨rfl, rfl, by decide, by decide⟩ rfl (Nat.le_of_ble_eq_true rfl) ⟨by decide, by decide⟩ (fun H hG => gw_recv (q := (R_Mo, T_Mo, 9)) hK hG h4 rfl rfl (by decide) rfl) (fun M => gx_no) rfl (fun v => ?_)
    refine go_and (fun hv => ?_)
    subst hv
    refine go_if_eq (tgt := 26) hF d_Mo_gate_14 (by decide) (fun h14 => ?_) (fun h14 => ?_)
    · refine go_iconst (v := 1) hF d_Mo_gate_26 (by decide) ?_
      refine go_goto (tgt := 60) hF d_Mo_gate_27 (by decide) ?_
      have hg := Rel_g hR
      have hTT : tG c kd a b o = 1 := by
        unfold tG
        exact ifC_f (fun z => bi_0 h14 ((Rel_isN hR _).mpr z.2.1))
      refine gs_puti hF hK hlo d_Mo_gate_60 fl_Mo_28 ct_Mo fs_Mo_0 h4 rfl rfl (by decide) rfl rfl ?_
      rw [mW_0]
      refine go_aload_n hF d_Mo_gate_63 rfl ?_
      refine gs_geti hF hK d_Mo_gate_64 fl_Mo_28 h4 rfl rfl (by decide) rfl ?_
      refine go_if_le (tgt := 72) hF d_Mo_gate_67 (by decide) (fun h67 => ?_) (fun h67 => ?_)
      · rw [thr_v] at h67
        exact absurd h67 (by decide)
      · refine go_iconst (v := 0) hF d_Mo_gate_70 (by decide) ?_
        exact go_iret hF hM d_Mo_gate_71 (by decide) (by decide) (fun H hG => ⟨f, _, rfl, fun z => absurd (hTT.symm.trans z) (by decide), fun _ => rfl, by rw [hTT]; exact hG⟩)
    · refine go_aload_n hF d_Mo_gate_17 rfl ?_
      refine go_iload hF d_Mo_gate_18 rfl ?_
      refine go_callVX hF hE hlo d_Mo_gate_20 (con_Mo_isNet hlt h4 o) mt_Mo_isNet mv_Mo_isNet lk_Mo_70 ⟨rfl, rfl, by decide, by decide⟩ rfl (Nat.le_of_ble_eq_true rfl) ⟨by decide, by decide⟩ (fun H hG => gw_recv (q := (R_Mo, T_Mo, 9)) hK hG h4 rfl rfl (by decide) rfl) (fun M => gx_no) rfl (fun v => ?_)
      refine go_and (fun hv => ?_)
      subst hv
      refine go_if_ne (tgt := 30) hF d_Mo_gate_23 (by decide) (fun h23 => ?_) (fun h23 => ?_)
      · refine go_aload_n hF d_Mo_gate_30 rfl ?_
        refine gs_getr hF hK d_Mo_gate_31 fl_Mo_7 h4 rfl rfl (by decide) rfl ?_
        refine go_iconst (v := 3) hF d_Mo_gate_34 (by decide) ?_
        refine gs_md hF hK hT d_Mo_gate_35 h4 (show (3 : Int32) = nI 3 from rfl) (by decide) ?_
        refine go_bipush (v := 32) hF d_Mo_gate_36 (by decide) ?_
        refine go_icmp_ne (tgt := 45) hF d_Mo_gate_38 (by decide) (fun h38 => ?_) (fun h38 => ?_)
        · refine go_iload_n hF d_Mo_gate_45 rfl ?_
          refine go_if_lt (tgt := 55) hF d_Mo_gate_46 (by decide) (fun h46 => ?_) (fun h46 => ?_)
          · refine go_iconst (v := 3) hF d_Mo_gate_55 (by decide) ?_
            refine go_goto (tgt := 60) hF d_Mo_gate_56 (by decide) ?_
            have hg := Rel_g hR
            have hTT : tG c kd a b o = 3 := by
              unfold tG
              rw [ifC_t ⟨(Rel_isN hR _).mp (bi_1 h6), (Rel_isN hR _).mp (bi_1 h14), (Rel_isN hR _).mp (bi_1 h23)⟩, ← hR.2.1.2.2.2.1, ifC_t (show f 3 < 32 from (ct_ne (m := 32) hg (by decide)).mpr h38)]
              exact ifC_f (fun z => Int32.lt_irrefl (Int32.lt_of_lt_of_le h46 z.1))
            refine gs_puti hF hK hlo d_Mo_gate_60 fl_Mo_28 ct_Mo fs_Mo_0 h4 rfl rfl (by decide) rfl rfl ?_
            rw [mW_0]
            refine go_aload_n hF d_Mo_gate_63 rfl ?_
            refine gs_geti hF hK d_Mo_gate_64 fl_Mo_28 h4 rfl rfl (by decide) rfl ?_
            refine go_if_le (tgt := 72) hF d_Mo_gate_67 (by decide) (fun h67 => ?_) (fun h67 => ?_)
            · rw [thr_v] at h67
              exact absurd h67 (by decide)
            · refine go_iconst (v := 0) hF d_Mo_gate_70 (by decide) ?_
              exact go_iret hF hM d_Mo_gate_71 (by decide) (by decide) (fun H hG => ⟨f, _, rfl, fun z => absurd (hTT.symm.trans z) (by decide), fun _ => rfl, by rw [hTT]; exact hG⟩)
          · refine go_iload_n hF d_Mo_gate_49 rfl ?_
            refine go_bipush (v := 7) hF d_Mo_gate_50 (by decide) ?_
            refine go_icmp_le (tgt := 59) hF d_Mo_gate_52 (by decide) (fun h52 => ?_) (fun h52 => ?_)
            · refine go_iconst (v := 0) hF d_Mo_gate_59 (by decide) ?_
              have hg := Rel_g hR
              have hTT : tG c kd a b o = 0 := by
                unfold tG
                rw [ifC_t ⟨(Rel_isN hR _).mp (bi_1 h6), (Rel_isN hR _).mp (bi_1 h14), (Rel_isN hR _).mp (bi_1 h23)⟩, ← hR.2.1.2.2.2.1, ifC_t (show f 3 < 32 from (ct_ne (m := 32) hg (by decide)).mpr h38)]
                exact ifC_t ⟨not_lt h46, h52⟩
              refine gs_puti hF hK hlo d_Mo_gate_60 fl_Mo_28 ct_Mo fs_Mo_0 h4 rfl rfl (by decide) rfl rfl ?_
              rw [mW_0]
              refine go_aload_n hF d_Mo_gate_63 rfl ?_
              refine gs_geti hF hK d_Mo_gate_64 fl_Mo_28 h4 rfl rfl (by decide) rfl ?_
              refine go_if_le (tgt := 72) hF d_Mo_gate_67 (by decide) (fun h67 => ?_) (fun h67 => ?_)
              · have na := (Rel_isN hR _).mp (bi_1 h6)
                have nb := (Rel_isN hR _).mp (bi_1 h14)
                have no := (Rel_isN hR _).mp (bi_1 h23)
                have va := isN_vn hR.1 na
                have vb := isN_vn hR.1 nb
                have vo := isN_vn hR.1 no
                have h32 : cG c 0 < 32 := by
                  have q := (ct_ne (m := 32) hg (by decide)).mpr h38
                  rw [hg.1] at q
                  exact (nI_ltI (b := 32) (by omega) (by decide)).mp q
                refine go_aload_n hF d_Mo_gate_72 rfl ?_
                refine gs_getr hF hK d_Mo_gate_73 fl_Mo_7 h4 rfl rfl (by decide) rfl ?_
                refine go_iconst (v := 3) hF d_Mo_gate_76 (by decide) ?_
                refine gs_md hF hK hT d_Mo_gate_77 h4 (show (3 : Int32) = nI 3 from rfl) (by decide) ?_
                refine go_istore hF d_Mo_gate_78 (by decide) ?_
                refine go_lv (lv' := [(0, _), (1, _), (2, _), (3, _), (4, _), (5, _)]) ⟨rfl, rfl, rfl, rfl, rfl, rfl, trivial⟩ ?_
                refine go_aload_n hF d_Mo_gate_80 rfl ?_
                refine gs_getr hF hK d_Mo_gate_81 fl_Mo_7 h4 rfl rfl (by decide) rfl ?_
                refine go_iconst (v := 3) hF d_Mo_gate_84 (by decide) ?_
                refine go_dup2 hF d_Mo_gate_85 rfl rfl ?_
                refine gs_md hF hK hT d_Mo_gate_86 h4 (show (3 : Int32) = nI 3 from rfl) (by decide) ?_
                refine go_iconst (v := 1) hF d_Mo_gate_87 (by decide) ?_
                refine go_iadd hF d_Mo_gate_88 ?_
                refine gs_ms hF hK hT hlo d_Mo_gate_89 h4 (show (3 : Int32) = nI 3 from rfl) (by decide) ?_
                rw [show f 3 + 1 = nI (cG c 0 + 1) by rw [hg.1, nI_1]]
                refine go_aload_n hF d_Mo_gate_90 rfl ?_
                refine go_iload hF d_Mo_gate_91 rfl ?_
                refine go_iconst (v := 0) hF d_Mo_gate_93 (by decide) ?_
                refine go_iload_n hF d_Mo_gate_94 rfl ?_
                refine go_callVX hF hE hlo d_Mo_gate_95 (con_Mo_setGate hlt h4 (k := 0) hg.1 h32 rfl (by decide) _) mt_Mo_setGate mv_Mo_setGate lk_Mo_46 ⟨rfl, rfl, by decide, by decide⟩ rfl (Nat.le_of_ble_eq_true rfl) ⟨by decide, by decide⟩ (fun H hG => gw_recv (q := (R_Mo, T_Mo, 9)) hK hG h4 rfl rfl (by decide) rfl) (fun M => gx_no) rfl (fun v => ?_)
                refine go_and (fun hv => ?_)
                subst hv
                refine go_aload_n hF d_Mo_gate_98 rfl ?_
                refine go_iload hF d_Mo_gate_99 rfl ?_
                refine go_iconst (v := 1) hF d_Mo_gate_101 (by decide) ?_
                refine go_iload_n hF d_Mo_gate_102 rfl ?_
                refine go_callVX hF hE hlo d_Mo_gate_103 (con_Mo_setGate hlt h4 (k := 1) hg.1 h32 rfl (by decide) _) mt_Mo_setGate mv_Mo_setGate lk_Mo_46 ⟨rfl, rfl, by decide, by decide⟩ rfl (Nat.le_of_ble_eq_true rfl) ⟨by decide, by decide⟩ (fun H hG => gw_recv (q := (R_Mo, T_Mo, 9)) hK hG h4 rfl rfl (by decide) rfl) (fun M => gx_no) rfl (fun v => ?_)
                refine go_and (fun hv => ?_)
                subst hv
                refine go_aload_n hF d_Mo_gate_106 rfl ?_
                refine go_iload hF d_Mo_gate_107 rfl ?_
                refine go_iconst (v := 2) hF d_Mo_gate_109 (by decide) ?_
                refine go_iload_n hF d_Mo_gate_110 rfl ?_
                refine go_callVX hF hE hlo d_Mo_gate_111 (con_Mo_setGate hlt h4 (k := 2) hg.1 h32 rfl (by decide) _) mt_Mo_setGate mv_Mo_setGate lk_Mo_46 ⟨rfl, rfl, by decide, by decide⟩ rfl (Nat.le_of_ble_eq_true rfl) ⟨by decide, by decide⟩ (fun H hG => gw_recv (q := (R_Mo, T_Mo, 9)) hK hG h4 rfl rfl (by decide) rfl) (fun M => gx_no) rfl (fun v => ?_)
                refine go_and (fun hv => ?_)
                subst hv
                refine go_aload_n hF d_Mo_gate_114 rfl ?_
                refine go_iload hF d_Mo_gate_115 rfl ?_
                refine go_iconst (v := 3) hF d_Mo_gate_117 (by decide) ?_
                refine go_iload hF d_Mo_gate_118 rfl ?_
                refine go_callVX hF hE hlo d_Mo_gate_120 (con_Mo_setGate hlt h4 (k := 3) hg.1 h32 rfl (by decide) _) mt_Mo_setGate mv_Mo_setGate lk_Mo_46 ⟨rfl, rfl, by decide, by decide⟩ rfl (Nat.le_of_ble_eq_true rfl) ⟨by decide, by decide⟩ (fun H hG => gw_recv (q := (R_Mo, T_Mo, 9)) hK hG h4 rfl rfl (by decide) rfl) (fun M => gx_no) rfl (fun v => ?_)
                refine go_and (fun hv => ?_)
                subst hv
                refine go_aload_n hF d_Mo_gate_123 rfl ?_
                refine go_iload hF d_Mo_gate_124 rfl ?_
                refine go_iconst (v := 4) hF d_Mo_gate_126 (by decide) ?_
                refine go_iconst (v := 1) hF d_Mo_gate_127 (by decide) ?_
                refine go_callVX hF hE hlo d_Mo_gate_128 (con_Mo_setGate hlt h4 (k := 4) hg.1 h32 rfl (by decide) _) mt_Mo_setGate mv_Mo_setGate lk_Mo_46 ⟨rfl, rfl, by decide, by decide⟩ rfl (Nat.le_of_ble_eq_true rfl) ⟨by decide, by decide⟩ (fun H hG => gw_recv (q := (R_Mo, T_Mo, 9)) hK hG h4 rfl rfl (by decide) rfl) (fun M => gx_no) rfl (fun v => ?_)
                refine go_and (fun hv => ?_)
                subst hv
                refine go_aload_n hF d_Mo_gate_131 rfl ?_
                refine go_iload hF d_Mo_gate_132 rfl ?_
                refine go_iconst (v := 5) hF d_Mo_gate_134 (by decide) ?_
                refine go_iconst (v := 1) hF d_Mo_gate_135 (by decide) ?_
                refine go_callVX hF hE hlo d_Mo_gate_136 (con_Mo_setGate hlt h4 (k := 5) hg.1 h32 rfl (by decide) _) mt_Mo_setGate mv_Mo_setGate lk_Mo_46 ⟨rfl, rfl, by decide, by decide⟩ rfl (Nat.le_of_ble_eq_true rfl) ⟨by decide, by decide⟩ (fun H hG => gw_recv (q := (R_Mo, T_Mo, 9)) hK hG h4 rfl rfl (by decide) rfl) (fun M => gx_no) rfl (fun v => ?_)
                refine go_and (fun hv => ?_)
                subst hv
                refine go_aload_n hF d_Mo_gate_139 rfl ?_
                refine go_iload hF d_Mo_gate_140 rfl ?_
                refine go_bipush (v := 6) hF d_Mo_gate_142 (by decide) ?_
                refine go_iload_n hF d_Mo_gate_144 rfl ?_
                refine go_iconst (v := 5) hF d_Mo_gate_145 (by decide) ?_
                refine go_icmp_ne (tgt := 153) hF d_Mo_gate_146 (by decide) (fun h146 => ?_) (fun h146 => ?_)
                · refine go_iconst (v := 2) hF d_Mo_gate_153 (by decide) ?_
                  refine go_callVX hF hE hlo d_Mo_gate_154 (con_Mo_setGate hlt h4 (k := 6) hg.1 h32 rfl (by decide) _) mt_Mo_setGate mv_Mo_setGate lk_Mo_46 ⟨rfl, rfl, by decide, by decide⟩ rfl (Nat.le_of_ble_eq_true rfl) ⟨by decide, by decide⟩ (fun H hG => gw_recv (q := (R_Mo, T_Mo, 9)) hK hG h4 rfl rfl (by decide) rfl) (fun M => gx_no) rfl (fun v => ?_)
                  refine go_and (fun hv => ?_)
                  subst hv
                  refine go_aload_n hF d_Mo_gate_157 rfl ?_
                  refine go_iload hF d_Mo_gate_158 rfl ?_
                  refine go_bipush (v := 7) hF d_Mo_gate_160 (by decide) ?_
                  refine go_iconst (v := -1) hF d_Mo_gate_162 (by decide) ?_
                  refine go_callVX hF hE hlo d_Mo_gate_163 (con_Mo_setGate hlt h4 (k := 7) hg.1 h32 rfl (by decide) _) mt_Mo_setGate mv_Mo_setGate lk_Mo_46 ⟨rfl, rfl, by decide, by decide⟩ rfl (Nat.le_of_ble_eq_true rfl) ⟨by decide, by decide⟩ (fun H hG => gw_recv (q := (R_Mo, T_Mo, 9)) hK hG h4 rfl rfl (by decide) rfl) (fun M => gx_no) rfl (fun v => ?_)
                  refine go_and (fun hv => ?_)
                  subst hv
                  refine go_aload_n hF d_Mo_gate_166 rfl ?_
                  refine go_iload hF d_Mo_gate_167 rfl ?_
                  refine go_bipush (v := 8) hF d_Mo_gate_169 (by decide) ?_
                  refine go_iconst (v := 0) hF d_Mo_gate_171 (by decide) ?_
                  refine go_callVX hF hE hlo d_Mo_gate_172 (con_Mo_setGate hlt h4 (k := 8) hg.1 h32 rfl (by decide) _) mt_Mo_setGate mv_Mo_setGate lk_Mo_46 ⟨rfl, rfl, by decide, by decide⟩ rfl (Nat.le_of_ble_eq_true rfl) ⟨by decide, by decide⟩ (fun H hG => gw_recv (q := (R_Mo, T_Mo, 9)) hK hG h4 rfl rfl (by decide) rfl) (fun M => gx_no) rfl (fun v => ?_)
                  refine go_and (fun hv => ?_)
                  subst hv
                  refine go_aload_n hF d_Mo_gate_175 rfl ?_
                  refine go_iload hF d_Mo_gate_176 rfl ?_
                  refine go_bipush (v := 9) hF d_Mo_gate_178 (by decide) ?_
                  refine go_iconst (v := -1) hF d_Mo_gate_180 (by decide) ?_
                  refine go_callVX hF hE hlo d_Mo_gate_181 (con_Mo_setGate hlt h4 (k := 9) hg.1 h32 rfl (by decide) _) mt_Mo_setGate mv_Mo_setGate lk_Mo_46 ⟨rfl, rfl, by decide, by decide⟩ rfl (Nat.le_of_ble_eq_true rfl) ⟨by decide, by decide⟩ (fun H hG => gw_recv (q := (R_Mo, T_Mo, 9)) hK hG h4 rfl rfl (by decide) rfl) (fun M => gx_no) rfl (fun v => ?_)
                  refine go_and (fun hv => ?_)
                  subst hv
                  refine go_aload_n hF d_Mo_gate_184 rfl ?_
                  refine go_iload hF d_Mo_gate_185 rfl ?_
                  refine go_bipush (v := 10) hF d_Mo_gate_187 (by decide) ?_
                  refine go_iconst (v := 0) hF d_Mo_gate_189 (by decide) ?_
                  refine go_callVX hF hE hlo d_Mo_gate_190 (con_Mo_setGate hlt h4 (k := 10) hg.1 h32 rfl (by decide) _) mt_Mo_setGate mv_Mo_setGate lk_Mo_46 ⟨rfl, rfl, by decide, by decide⟩ rfl (Nat.le_of_ble_eq_true rfl) ⟨by decide, by decide⟩ (fun H hG => gw_recv (q := (R_Mo, T_Mo, 9)) hK hG h4 rfl rfl (by decide) rfl) (fun M => gx_no) rfl (fun v => ?_)
                  refine go_and (fun hv => ?_)
                  subst hv
                  refine go_aload_n hF d_Mo_gate_193 rfl ?_
                  refine go_iload hF d_Mo_gate_194 rfl ?_
                  refine go_iconst (v := 3) hF d_Mo_gate_196 (by decide) ?_
                  refine go_iconst (v := 1) hF d_Mo_gate_197 (by decide) ?_
                  refine go_callVX hF hE hlo d_Mo_gate_198 (con_Mo_setNet hlt h4 (k := 3) vo.1 vo.2 rfl (by decide) _) mt_Mo_setNet mv_Mo_setNet lk_Mo_53 ⟨rfl, rfl, by decide, by decide⟩ rfl (Nat.le_of_ble_eq_true rfl) ⟨by decide, by decide⟩ (fun H hG => gw_recv (q := (R_Mo, T_Mo, 9)) hK hG h4 rfl rfl (by decide) rfl) (fun M => gx_no) rfl (fun v => ?_)
                  refine go_and (fun hv => ?_)
                  subst hv
                  have hA := Rel_agate (kd := kd) hR h32 va vb vo (isN_lt hR.1 na) (isN_lt hR.1 nb) (isN_lt hR.1 no)
                  rw [if_neg h146] at hA
                  refine go_aload_n hF d_Mo_gate_201 rfl ?_
                  refine go_iload hF d_Mo_gate_202 rfl ?_
                  refine go_callVX hF hE hlo d_Mo_gate_204 (con_Mo_settle (c := (ag0 c 0 (cG c 0) kd a b o)) (n := nz o) hlt h4 vo.1 (by rw [cN_ag]; exact isN_lt hR.1 no) hKK (fu_s _ _ _) hA) mt_Mo_settle mv_Mo_settle lk_Mo_74 ⟨rfl, rfl, by decide, by decide⟩ rfl (Nat.le_of_ble_eq_true rfl) ⟨by decide, by decide⟩ (fun H hG => gw_recv (q := (R_Mo, T_Mo, 9)) hK hG h4 rfl rfl (by decide) rfl) (fun M => gx_no) rfl (fun v => ?_)
                  refine go_ex (fun f3 => ?_)
                  refine go_and (fun h9 => ?_)
                  refine go_and (fun hv => ?_)
                  subst hv
                  have hgl : cG c 0 < cG (rfX (ag0 c 0 (cG c 0) kd a b o) 0 (nz o)) 0 := by rw [cG_rfX, cG_ag h32]; omega
                  have hvg := Rel_va h9 hgl
                  have hvv := Rel_gv h9 hgl
                  refine go_iload_n hF d_Mo_gate_207 rfl ?_
                  refine go_bipush (v := 7) hF d_Mo_gate_208 (by decide) ?_
                  refine go_icmp_eq (tgt := 225) hF d_Mo_gate_210 (by decide) (fun h210 => ?_) (fun h210 => ?_)
                  · refine go_iload hF d_Mo_gate_225 rfl ?_
                    exact go_iret hF hM d_Mo_gate_227 (by decide) (by decide) (fun H hG => ⟨f3, _, rfl, fun _ => ⟨hR.2.1.2.2.2.1, by
                      unfold agX agW
                      rw [← rfX_ag va vb vo h32]
                      rw [if_pos h210]
                      exact h9⟩, fun z => absurd hTT z, by rw [hTT]; exact hG⟩)
                  · refine go_aload_n hF d_Mo_gate_213 rfl ?_
                    refine go_iload hF d_Mo_gate_214 rfl ?_
                    refine go_aload_n hF d_Mo_gate_216 rfl ?_
                    refine go_iload hF d_Mo_gate_217 rfl ?_
                    refine go_callVX hF hE hlo d_Mo_gate_219 (con_Mo_gives hlt h4 hg.1 h32 hvg.1 hvg.2.1) mt_Mo_gives mv_Mo_gives lk_Mo_56 ⟨rfl, rfl, by decide, by decide⟩ rfl (Nat.le_of_ble_eq_true rfl) ⟨by decide, by decide⟩ (fun H hG => gw_recv (q := (R_Mo, T_Mo, 9)) hK hG h4 rfl rfl (by decide) rfl) (fun M => gx_no) rfl (fun v => ?_)
                    refine go_and (fun hv => ?_)
                    subst hv
                    refine go_callVX hF hE hlo d_Mo_gate_222 (con_Mo_ask hlt h4 hg.1 h32 _) mt_Mo_ask mv_Mo_ask lk_Mo_59 ⟨rfl, rfl, by decide, by decide⟩ rfl (Nat.le_of_ble_eq_true rfl) ⟨by decide, by decide⟩ (fun H hG => gw_recv (q := (R_Mo, T_Mo, 9)) hK hG h4 rfl rfl (by decide) rfl) (fun M => gx_no) rfl (fun v => ?_)
                    refine go_and (fun hv => ?_)
                    subst hv
                    refine go_iload hF d_Mo_gate_225 rfl ?_
                    exact go_iret hF hM d_Mo_gate_227 (by decide) (by decide) (fun H hG => ⟨(askF f3 (cG c 0) (gvF f3 (cG c 0))), _, rfl, fun _ => ⟨hR.2.1.2.2.2.1, by
                      unfold agX agW
                      rw [← rfX_ag va vb vo h32]
                      rw [if_neg h210, hvv.1]
                      exact Rel_ask h9 hgl hvv.2⟩, fun z => absurd hTT z, by rw [hTT]; exact hG⟩)
                · refine go_iconst (v := 3) hF d_Mo_gate_149 (by decide) ?_
                  refine go_goto (tgt := 154) hF d_Mo_gate_150 (by decide) ?_
                  refine go_callVX hF hE hlo d_Mo_gate_154 (con_Mo_setGate hlt h4 (k := 6) hg.1 h32 rfl (by decide) _) mt_Mo_setGate mv_Mo_setGate lk_Mo_46 ⟨rfl, rfl, by decide, by decide⟩ rfl (Nat.le_of_ble_eq_true rfl) ⟨by decide, by decide⟩ (fun H hG => gw_recv (q := (R_Mo, T_Mo, 9)) hK hG h4 rfl rfl (by decide) rfl) (fun M => gx_no) rfl (fun v => ?_)
                  refine go_and (fun hv => ?_)
                  subst hv
                  refine go_aload_n hF d_Mo_gate_157 rfl ?_
                  refine go_iload hF d_Mo_gate_158 rfl ?_
                  refine go_bipush (v := 7) hF d_Mo_gate_160 (by decide) ?_
                  refine go_iconst (v := -1) hF d_Mo_gate_162 (by decide) ?_
                  refine go_callVX hF hE hlo d_Mo_gate_163 (con_Mo_setGate hlt h4 (k := 7) hg.1 h32 rfl (by decide) _) mt_Mo_setGate mv_Mo_setGate lk_Mo_46 ⟨rfl, rfl, by decide, by decide⟩ rfl (Nat.le_of_ble_eq_true rfl) ⟨by decide, by decide⟩ (fun H hG => gw_recv (q := (R_Mo, T_Mo, 9)) hK hG h4 rfl rfl (by decide) rfl) (fun M => gx_no) rfl (fun v => ?_)
                  refine go_and (fun hv => ?_)
                  subst hv
                  refine go_aload_n hF d_Mo_gate_166 rfl ?_
                  refine go_iload hF d_Mo_gate_167 rfl ?_
                  refine go_bipush (v := 8) hF d_Mo_gate_169 (by decide) ?_
                  refine go_iconst (v := 0) hF d_Mo_gate_171 (by decide) ?_
                  refine go_callVX hF hE hlo d_Mo_gate_172 (con_Mo_setGate hlt h4 (k := 8) hg.1 h32 rfl (by decide) _) mt_Mo_setGate mv_Mo_setGate lk_Mo_46 ⟨rfl, rfl, by decide, by decide⟩ rfl (Nat.le_of_ble_eq_true rfl) ⟨by decide, by decide⟩ (fun H hG => gw_recv (q := (R_Mo, T_Mo, 9)) hK hG h4 rfl rfl (by decide) rfl) (fun M => gx_no) rfl (fun v => ?_)
                  refine go_and (fun hv => ?_)
                  subst hv
                  refine go_aload_n hF d_Mo_gate_175 rfl ?_
                  refine go_iload hF d_Mo_gate_176 rfl ?_
                  refine go_bipush (v := 9) hF d_Mo_gate_178 (by decide) ?_
                  refine go_iconst (v := -1) hF d_Mo_gate_180 (by decide) ?_
                  refine go_callVX hF hE hlo d_Mo_gate_181 (con_Mo_setGate hlt h4 (k := 9) hg.1 h32 rfl (by decide) _) mt_Mo_setGate mv_Mo_setGate lk_Mo_46 ⟨rfl, rfl, by decide, by decide⟩ rfl (Nat.le_of_ble_eq_true rfl) ⟨by decide, by decide⟩ (fun H hG => gw_recv (q := (R_Mo, T_Mo, 9)) hK hG h4 rfl rfl (by decide) rfl) (fun M => gx_no) rfl (fun v => ?_)
                  refine go_and (fun hv => ?_)
                  subst hv
                  refine go_aload_n hF d_Mo_gate_184 rfl ?_
                  refine go_iload hF d_Mo_gate_185 rfl ?_
                  refine go_bipush (v := 10) hF d_Mo_gate_187 (by decide) ?_
                  refine go_iconst (v := 0) hF d_Mo_gate_189 (by decide) ?_
                  refine go_callVX hF hE hlo d_Mo_gate_190 (con_Mo_setGate hlt h4 (k := 10) hg.1 h32 rfl (by decide) _) mt_Mo_setGate mv_Mo_setGate lk_Mo_46 ⟨rfl, rfl, by decide, by decide⟩ rfl (Nat.le_of_ble_eq_true rfl) ⟨by decide, by decide⟩ (fun H hG => gw_recv (q := (R_Mo, T_Mo, 9)) hK hG h4 rfl rfl (by decide) rfl) (fun M => gx_no) rfl (fun v => ?_)
                  refine go_and (fun hv => ?_)
                  subst hv
                  refine go_aload_n hF d_Mo_gate_193 rfl ?_
                  refine go_iload hF d_Mo_gate_194 rfl ?_
                  refine go_iconst (v := 3) hF d_Mo_gate_196 (by decide) ?_
                  refine go_iconst (v := 1) hF d_Mo_gate_197 (by decide) ?_
                  refine go_callVX hF hE hlo d_Mo_gate_198 (con_Mo_setNet hlt h4 (k := 3) vo.1 vo.2 rfl (by decide) _) mt_Mo_setNet mv_Mo_setNet lk_Mo_53 ⟨rfl, rfl, by decide, by decide⟩ rfl (Nat.le_of_ble_eq_true rfl) ⟨by decide, by decide⟩ (fun H hG => gw_recv (q := (R_Mo, T_Mo, 9)) hK hG h4 rfl rfl (by decide) rfl) (fun M => gx_no) rfl (fun v => ?_)
                  refine go_and (fun hv => ?_)
                  subst hv
                  have hA := Rel_agate (kd := kd) hR h32 va vb vo (isN_lt hR.1 na) (isN_lt hR.1 nb) (isN_lt hR.1 no)
                  rw [if_pos h146] at hA
                  refine go_aload_n hF d_Mo_gate_201 rfl ?_
                  refine go_iload hF d_Mo_gate_202 rfl ?_
                  refine go_callVX hF hE hlo d_Mo_gate_204 (con_Mo_settle (c := (ag0 c 0 (cG c 0) kd a b o)) (n := nz o) hlt h4 vo.1 (by rw [cN_ag]; exact isN_lt hR.1 no) hKK (fu_s _ _ _) hA) mt_Mo_settle mv_Mo_settle lk_Mo_74 ⟨rfl, rfl, by decide, by decide⟩ rfl (Nat.le_of_ble_eq_true rfl) ⟨by decide, by decide⟩ (fun H hG => gw_recv (q := (R_Mo, T_Mo, 9)) hK hG h4 rfl rfl (by decide) rfl) (fun M => gx_no) rfl (fun v => ?_)
                  refine go_ex (fun f3 => ?_)
                  refine go_and (fun h9 => ?_)
                  refine go_and (fun hv => ?_)
                  subst hv
                  have hgl : cG c 0 < cG (rfX (ag0 c 0 (cG c 0) kd a b o) 0 (nz o)) 0 := by rw [cG_rfX, cG_ag h32]; omega
                  have hvg := Rel_va h9 hgl
                  have hvv := Rel_gv h9 hgl
                  refine go_iload_n hF d_Mo_gate_207 rfl ?_
                  refine go_bipush (v := 7) hF d_Mo_gate_208 (by decide) ?_
                  refine go_icmp_eq (tgt := 225) hF d_Mo_gate_210 (by decide) (fun h210 => ?_) (fun h210 => ?_)
                  · refine go_iload hF d_Mo_gate_225 rfl ?_
                    exact go_iret hF hM d_Mo_gate_227 (by decide) (by decide) (fun H hG => ⟨f3, _, rfl, fun _ => ⟨hR.2.1.2.2.2.1, by
                      unfold agX agW
                      rw [← rfX_ag va vb vo h32]
                      rw [if_pos h210]
                      exact h9⟩, fun z => absurd hTT z, by rw [hTT]; exact hG⟩)
                  · refine go_aload_n hF d_Mo_gate_213 rfl ?_
                    refine go_iload hF d_Mo_gate_214 rfl ?_
                    refine go_aload_n hF d_Mo_gate_216 rfl ?_
                    refine go_iload hF d_Mo_gate_217 rfl ?_
                    refine go_callVX hF hE hlo d_Mo_gate_219 (con_Mo_gives hlt h4 hg.1 h32 hvg.1 hvg.2.1) mt_Mo_gives mv_Mo_gives lk_Mo_56 ⟨rfl, rfl, by decide, by decide⟩ rfl (Nat.le_of_ble_eq_true rfl) ⟨by decide, by decide⟩ (fun H hG => gw_recv (q := (R_Mo, T_Mo, 9)) hK hG h4 rfl rfl (by decide) rfl) (fun M => gx_no) rfl (fun v => ?_)
                    refine go_and (fun hv => ?_)
                    subst hv
                    refine go_callVX hF hE hlo d_Mo_gate_222 (con_Mo_ask hlt h4 hg.1 h32 _) mt_Mo_ask mv_Mo_ask lk_Mo_59 ⟨rfl, rfl, by decide, by decide⟩ rfl (Nat.le_of_ble_eq_true rfl) ⟨by decide, by decide⟩ (fun H hG => gw_recv (q := (R_Mo, T_Mo, 9)) hK hG h4 rfl rfl (by decide) rfl) (fun M => gx_no) rfl (fun v => ?_)
                    refine go_and (fun hv => ?_)
                    subst hv
                    refine go_iload hF d_Mo_gate_225 rfl ?_
                    exact go_iret hF hM d_Mo_gate_227 (by decide) (by decide) (fun H hG => ⟨(askF f3 (cG c 0) (gvF f3 (cG c 0))), _, rfl, fun _ => ⟨hR.2.1.2.2.2.1, by
                      unfold agX agW
                      rw [← rfX_ag va vb vo h32]
                      rw [if_neg h210, hvv.1]
                      exact Rel_ask h9 hgl hvv.2⟩, fun z => absurd hTT z, by rw [hTT]; exact hG⟩)
              · rw [thr_v] at h67
                exact absurd (by decide) h67
            · refine go_iconst (v := 3) hF d_Mo_gate_55 (by decide) ?_
              refine go_goto (tgt := 60) hF d_Mo_gate_56 (by decide) ?_
              have hg := Rel_g hR
              have hTT : tG c kd a b o = 3 := by
                unfold tG
                rw [ifC_t ⟨(Rel_isN hR _).mp (bi_1 h6), (Rel_isN hR _).mp (bi_1 h14), (Rel_isN hR _).mp (bi_1 h23)⟩, ← hR.2.1.2.2.2.1, ifC_t (show f 3 < 32 from (ct_ne (m := 32) hg (by decide)).mpr h38)]
                exact ifC_f (fun z => h52 z.2)
              refine gs_puti hF hK hlo d_Mo_gate_60 fl_Mo_28 ct_Mo fs_Mo_0 h4 rfl rfl (by decide) rfl rfl ?_
              rw [mW_0]
              refine go_aload_n hF d_Mo_gate_63 rfl ?_
              refine gs_geti hF hK d_Mo_gate_64 fl_Mo_28 h4 rfl rfl (by decide) rfl ?_
              refine go_if_le (tgt := 72) hF d_Mo_gate_67 (by decide) (fun h67 => ?_) (fun h67 => ?_)
              · rw [thr_v] at h67
                exact absurd h67 (by decide)
              · refine go_iconst (v := 0) hF d_Mo_gate_70 (by decide) ?_
                exact go_iret hF hM d_Mo_gate_71 (by decide) (by decide) (fun H hG => ⟨f, _, rfl, fun z => absurd (hTT.symm.trans z) (by decide), fun _ => rfl, by rw [hTT]; exact hG⟩)
        · refine go_iconst (v := 2) hF d_Mo_gate_41 (by decide) ?_
          refine go_goto (tgt := 60) hF d_Mo_gate_42 (by decide) ?_
          have hg := Rel_g hR
          have hTT : tG c kd a b o = 2 := by
            unfold tG
            rw [ifC_t ⟨(Rel_isN hR _).mp (bi_1 h6), (Rel_isN hR _).mp (bi_1 h14), (Rel_isN hR _).mp (bi_1 h23)⟩, ← hR.2.1.2.2.2.1]
            exact ifC_f (fun z => (ct_ne (m := 32) hg (by decide)).mp z h38)
          refine gs_puti hF hK hlo d_Mo_gate_60 fl_Mo_28 ct_Mo fs_Mo_0 h4 rfl rfl (by decide) rfl rfl ?_
          rw [mW_0]
          refine go_aload_n hF d_Mo_gate_63 rfl ?_
          refine gs_geti hF hK d_Mo_gate_64 fl_Mo_28 h4 rfl rfl (by decide) rfl ?_
          refine go_if_le (tgt := 72) hF d_Mo_gate_67 (by decide) (fun h67 => ?_) (fun h67 => ?_)
          · rw [thr_v] at h67
            exact absurd h67 (by decide)
          · refine go_iconst (v := 0) hF d_Mo_gate_70 (by decide) ?_
            exact go_iret hF hM d_Mo_gate_71 (by decide) (by decide) (fun H hG => ⟨f, _, rfl, fun z => absurd (hTT.symm.trans z) (by decide), fun _ => rfl, by rw [hTT]; exact hG⟩)
      · refine go_iconst (v := 1) hF d_Mo_gate_26 (by decide) ?_
        refine go_goto (tgt := 60) hF d_Mo_gate_27 (by decide) ?_
        have hg := Rel_g hR
        have hTT : tG c kd a b o = 1 := by
          unfold tG
          exact ifC_f (fun z => bi_0 h23 ((Rel_isN hR _).mpr z.2.2))
        refine gs_puti hF hK hlo d_Mo_gate_60 fl_Mo_28 ct_Mo fs_Mo_0 h4 rfl rfl (by decide) rfl rfl ?_
        rw [mW_0]
        refine go_aload_n hF d_Mo_gate_63 rfl ?_
        refine gs_geti hF hK d_Mo_gate_64 fl_Mo_28 h4 rfl rfl (by decide) rfl ?_
        refine go_if_le (tgt := 72) hF d_Mo_gate_67 (by decide) (fun h67 => ?_) (fun h67 => ?_)
        · rw [thr_v] at h67
          exact absurd h67 (by decide)
        · refine go_iconst (v := 0) hF d_Mo_gate_70 (by decide) ?_
          exact go_iret hF hM d_Mo_gate_71 (by decide) (by decide) (fun H hG => ⟨f, _, rfl, fun z => absurd (hTT.symm.trans z) (by decide), fun _ => rfl, by rw [hTT]; exact hG⟩)
theorem lenOk_rg {x : Int32} (h : lenOk x) : rg x 0 1000 := by
  obtain ⟨h1, h2⟩ := h
  rw [Int32.le_iff_toInt_le, i0] at h1
  rw [Int32.le_iff_toInt_le, show (1000 : Int32).toInt = 1000 by decide] at h2
  exact ⟨h1, h2⟩
set_option maxHeartbeats 4000000 in
set_option maxRecDepth 100000 in
theorem con_Mo_delay {l : Launch} (hlt : l.stackTraces = false) {E : gE} {B : bsT} {N : nwT} {w : wdT} {f : Nat → Int32} (h4 : N.1 4 0 = true) {K : Nat} {c : wdT} {g r q : Int32} (hR : Rel K c 0 f) : Con l E y_Mo_delay (Cond.code y_Mo_delay c_Mo_delay 5 (some .boolean) :: gAll) rm_Mo_delay [.ref (ad B 4 0 0 0), .int g, .int r, .int q] (gw E B N (mW w f)) (fun v H => ∃ f2 b, v = some (.int b) ∧ (tD c g r q = 0 → b = bi (¬ wI c 0 0 14 4 (nz g) = r ∨ ¬ wI c 0 0 14 5 (nz g) = q) ∧ Rel K (dlW c 0 (nz g) r q) 0 f2) ∧ (¬ tD c g r q = 0 → f2 = f) ∧ gw E B N (mW (sI w 4 0 0 0 0 (tD c g r q)) f2) H) (fun _ _ => False) 0 0 := by
  refine con_of (by decide) hlt (Nat.le_of_ble_eq_true rfl) ?_
  intro F hF hM htab hnm hE hlo hl
  subst hl
  have hF : Fb F c_Mo_delay R_Mo 5 rm_Mo_delay := hF
  have hK := hE.1
  have hT := hE.2.1
  refine go_lv (lv' := [(0, _), (1, _), (2, _), (3, _)]) ⟨rfl, rfl, rfl, rfl, trivial⟩ ?_
  refine go_aload_n hF d_Mo_delay_0 rfl ?_
  refine go_aload_n hF d_Mo_delay_1 rfl ?_
  refine go_iload_n hF d_Mo_delay_2 rfl ?_
  refine go_callVX hF hE hlo d_Mo_delay_3 (con_Mo_isGate hlt h4 g) mt_Mo_isGate mv_Mo_isGate lk_Mo_78 ⟨rfl, rfl, by decide, by decide⟩ rfl (Nat.le_of_ble_eq_true rfl) ⟨by decide, by decide⟩ (fun H hG => gw_recv (q := (R_Mo, T_Mo, 9)) hK hG h4 rfl rfl (by decide) rfl) (fun M => gx_no) rfl (fun v => ?_)
  refine go_and (fun hv => ?_)
  subst hv
  refine go_if_ne (tgt := 13) hF d_Mo_delay_6 (by decide) (fun h6 => ?_) (fun h6 => ?_)
  · refine go_iload_n hF d_Mo_delay_13 rfl ?_
    refine go_if_lt (tgt := 35) hF d_Mo_delay_14 (by decide) (fun h14 => ?_) (fun h14 => ?_)
    · refine go_iconst (v := 2) hF d_Mo_delay_35 (by decide) ?_
      refine go_goto (tgt := 40) hF d_Mo_delay_36 (by decide) ?_
      have hg := Rel_g hR
      have hTT : tD c g r q = 2 := by
        unfold tD
        rw [ifC_t ((Rel_isG hR _).mp (bi_1 h6))]
        exact ifC_f (fun z => Int32.lt_irrefl (Int32.lt_of_lt_of_le h14 z.1.1))
      refine gs_puti hF hK hlo d_Mo_delay_40 fl_Mo_28 ct_Mo fs_Mo_0 h4 rfl rfl (by decide) rfl rfl ?_
      rw [mW_0]
      refine go_aload_n hF d_Mo_delay_43 rfl ?_
      refine gs_geti hF hK d_Mo_delay_44 fl_Mo_28 h4 rfl rfl (by decide) rfl ?_
      refine go_if_le (tgt := 52) hF d_Mo_delay_47 (by decide) (fun h47 => ?_) (fun h47 => ?_)
      · rw [thr_v] at h47
        exact absurd h47 (by decide)
      · refine go_iconst (v := 0) hF d_Mo_delay_50 (by decide) ?_
        exact go_zret hF hM d_Mo_delay_51 rfl (by decide) (by decide) (fun H hG => ⟨f, _, rfl, fun z => absurd (hTT.symm.trans z) (by decide), fun _ => rfl, by rw [hTT]; exact hG⟩)
    · refine go_iload_n hF d_Mo_delay_17 rfl ?_
      refine go_sipush (v := 1000) hF d_Mo_delay_18 (by decide) ?_
      refine go_icmp_gt (tgt := 35) hF d_Mo_delay_21 (by decide) (fun h21 => ?_) (fun h21 => ?_)
      · refine go_iconst (v := 2) hF d_Mo_delay_35 (by decide) ?_
        refine go_goto (tgt := 40) hF d_Mo_delay_36 (by decide) ?_
        have hg := Rel_g hR
        have hTT : tD c g r q = 2 := by
          unfold tD
          rw [ifC_t ((Rel_isG hR _).mp (bi_1 h6))]
          exact ifC_f (fun z => Int32.lt_irrefl (Int32.lt_of_lt_of_le h21 z.1.2))
        refine gs_puti hF hK hlo d_Mo_delay_40 fl_Mo_28 ct_Mo fs_Mo_0 h4 rfl rfl (by decide) rfl rfl ?_
        rw [mW_0]
        refine go_aload_n hF d_Mo_delay_43 rfl ?_
        refine gs_geti hF hK d_Mo_delay_44 fl_Mo_28 h4 rfl rfl (by decide) rfl ?_
        refine go_if_le (tgt := 52) hF d_Mo_delay_47 (by decide) (fun h47 => ?_) (fun h47 => ?_)
        · rw [thr_v] at h47
          exact absurd h47 (by decide)
        · refine go_iconst (v := 0) hF d_Mo_delay_50 (by decide) ?_
          exact go_zret hF hM d_Mo_delay_51 rfl (by decide) (by decide) (fun H hG => ⟨f, _, rfl, fun z => absurd (hTT.symm.trans z) (by decide), fun _ => rfl, by rw [hTT]; exact hG⟩)
      · refine go_iload_n hF d_Mo_delay_24 rfl ?_
        refine go_if_lt (tgt := 35) hF d_Mo_delay_25 (by decide) (fun h25 => ?_) (fun h25 => ?_)
        · refine go_iconst (v := 2) hF d_Mo_delay_35 (by decide) ?_
          refine go_goto (tgt := 40) hF d_Mo_delay_36 (by decide) ?_
          have hg := Rel_g hR
          have hTT : tD c g r q = 2 := by
            unfold tD
            rw [ifC_t ((Rel_isG hR _).mp (bi_1 h6))]
            exact ifC_f (fun z => Int32.lt_irrefl (Int32.lt_of_lt_of_le h25 z.2.1))
          refine gs_puti hF hK hlo d_Mo_delay_40 fl_Mo_28 ct_Mo fs_Mo_0 h4 rfl rfl (by decide) rfl rfl ?_
          rw [mW_0]
          refine go_aload_n hF d_Mo_delay_43 rfl ?_
          refine gs_geti hF hK d_Mo_delay_44 fl_Mo_28 h4 rfl rfl (by decide) rfl ?_
          refine go_if_le (tgt := 52) hF d_Mo_delay_47 (by decide) (fun h47 => ?_) (fun h47 => ?_)
          · rw [thr_v] at h47
            exact absurd h47 (by decide)
          · refine go_iconst (v := 0) hF d_Mo_delay_50 (by decide) ?_
            exact go_zret hF hM d_Mo_delay_51 rfl (by decide) (by decide) (fun H hG => ⟨f, _, rfl, fun z => absurd (hTT.symm.trans z) (by decide), fun _ => rfl, by rw [hTT]; exact hG⟩)
        · refine go_iload_n hF d_Mo_delay_28 rfl ?_
          refine go_sipush (v := 1000) hF d_Mo_delay_29 (by decide) ?_
          refine go_icmp_le (tgt := 39) hF d_Mo_delay_32 (by decide) (fun h32 => ?_) (fun h32 => ?_)
          · refine go_iconst (v := 0) hF d_Mo_delay_39 (by decide) ?_
            have hg := Rel_g hR
            have hTT : tD c g r q = 0 := by
              unfold tD
              rw [ifC_t ((Rel_isG hR _).mp (bi_1 h6))]
              exact ifC_t ⟨⟨not_lt h14, not_lt h21⟩, ⟨not_lt h25, h32⟩⟩
            refine gs_puti hF hK hlo d_Mo_delay_40 fl_Mo_28 ct_Mo fs_Mo_0 h4 rfl rfl (by decide) rfl rfl ?_
            rw [mW_0]
            refine go_aload_n hF d_Mo_delay_43 rfl ?_
            refine gs_geti hF hK d_Mo_delay_44 fl_Mo_28 h4 rfl rfl (by decide) rfl ?_
            refine go_if_le (tgt := 52) hF d_Mo_delay_47 (by decide) (fun h47 => ?_) (fun h47 => ?_)
            · have ng := (Rel_isG hR _).mp (bi_1 h6)
              have vg := isG_vn hR.1 ng
              have hq := (hR.2.2.2.1 _ vg.2).1
              refine go_aload_n hF d_Mo_delay_52 rfl ?_
              refine go_iload_n hF d_Mo_delay_53 rfl ?_
              refine go_iconst (v := 4) hF d_Mo_delay_54 (by decide) ?_
              refine go_callVX hF hE hlo d_Mo_delay_55 (con_Mo_ofGate hlt h4 (k := 4) vg.1.1 vg.1.2 rfl (by decide)) mt_Mo_ofGate mv_Mo_ofGate lk_Mo_36 ⟨rfl, rfl, by decide, by decide⟩ rfl (Nat.le_of_ble_eq_true rfl) ⟨by decide, by decide⟩ (fun H hG => gw_recv (q := (R_Mo, T_Mo, 9)) hK hG h4 rfl rfl (by decide) rfl) (fun M => gx_no) rfl (fun v => ?_)
              refine go_and (fun hv => ?_)
              subst hv
              refine go_iload_n hF d_Mo_delay_58 rfl ?_
              refine go_icmp_ne (tgt := 72) hF d_Mo_delay_59 (by decide) (fun h59 => ?_) (fun h59 => ?_)
              · refine go_iconst (v := 1) hF d_Mo_delay_72 (by decide) ?_
                refine go_goto (tgt := 77) hF d_Mo_delay_73 (by decide) ?_
                refine go_istore hF d_Mo_delay_77 (by decide) ?_
                refine go_lv (lv' := [(0, _), (1, _), (2, _), (3, _), (4, _)]) ⟨rfl, rfl, rfl, rfl, rfl, trivial⟩ ?_
                refine go_aload_n hF d_Mo_delay_79 rfl ?_
                refine go_iload_n hF d_Mo_delay_80 rfl ?_
                refine go_iconst (v := 4) hF d_Mo_delay_81 (by decide) ?_
                refine go_iload_n hF d_Mo_delay_82 rfl ?_
                refine go_callVX hF hE hlo d_Mo_delay_83 (con_Mo_setGate hlt h4 (k := 4) vg.1.1 vg.1.2 rfl (by decide) _) mt_Mo_setGate mv_Mo_setGate lk_Mo_46 ⟨rfl, rfl, by decide, by decide⟩ rfl (Nat.le_of_ble_eq_true rfl) ⟨by decide, by decide⟩ (fun H hG => gw_recv (q := (R_Mo, T_Mo, 9)) hK hG h4 rfl rfl (by decide) rfl) (fun M => gx_no) rfl (fun v => ?_)
                refine go_and (fun hv => ?_)
                subst hv
                refine go_aload_n hF d_Mo_delay_86 rfl ?_
                refine go_iload_n hF d_Mo_delay_87 rfl ?_
                refine go_iconst (v := 5) hF d_Mo_delay_88 (by decide) ?_
                refine go_iload_n hF d_Mo_delay_89 rfl ?_
                refine go_callVX hF hE hlo d_Mo_delay_90 (con_Mo_setGate hlt h4 (k := 5) vg.1.1 vg.1.2 rfl (by decide) _) mt_Mo_setGate mv_Mo_setGate lk_Mo_46 ⟨rfl, rfl, by decide, by decide⟩ rfl (Nat.le_of_ble_eq_true rfl) ⟨by decide, by decide⟩ (fun H hG => gw_recv (q := (R_Mo, T_Mo, 9)) hK hG h4 rfl rfl (by decide) rfl) (fun M => gx_no) rfl (fun v => ?_)
                refine go_and (fun hv => ?_)
                subst hv
                refine go_iload hF d_Mo_delay_93 rfl ?_
                exact go_zret hF hM d_Mo_delay_95 rfl (by decide) (by decide) (fun H hG => ⟨_, _, rfl, fun _ => ⟨by unfold bi; rw [if_pos (Or.inl (by rw [← hq.2.2.2.2.1]; exact h59))], Rel_delay hR vg.2 (lenOk_rg ⟨not_lt h14, not_lt h21⟩) (lenOk_rg ⟨not_lt h25, h32⟩)⟩, fun z => absurd hTT z, by rw [hTT]; exact hG⟩)
              · refine go_aload_n hF d_Mo_delay_62 rfl ?_
                refine go_iload_n hF d_Mo_delay_63 rfl ?_
                refine go_iconst (v := 5) hF d_Mo_delay_64 (by decide) ?_
                refine go_callVX hF hE hlo d_Mo_delay_65 (con_Mo_ofGate hlt h4 (k := 5) vg.1.1 vg.1.2 rfl (by decide)) mt_Mo_ofGate mv_Mo_ofGate lk_Mo_36 ⟨rfl, rfl, by decide, by decide⟩ rfl (Nat.le_of_ble_eq_true rfl) ⟨by decide, by decide⟩ (fun H hG => gw_recv (q := (R_Mo, T_Mo, 9)) hK hG h4 rfl rfl (by decide) rfl) (fun M => gx_no) rfl (fun v => ?_)
                refine go_and (fun hv => ?_)
                subst hv
                refine go_iload_n hF d_Mo_delay_68 rfl ?_
                refine go_icmp_eq (tgt := 76) hF d_Mo_delay_69 (by decide) (fun h69 => ?_) (fun h69 => ?_)
                · refine go_iconst (v := 0) hF d_Mo_delay_76 (by decide) ?_
                  refine go_istore hF d_Mo_delay_77 (by decide) ?_
                  refine go_lv (lv' := [(0, _), (1, _), (2, _), (3, _), (4, _)]) ⟨rfl, rfl, rfl, rfl, rfl, trivial⟩ ?_
                  refine go_aload_n hF d_Mo_delay_79 rfl ?_
                  refine go_iload_n hF d_Mo_delay_80 rfl ?_
                  refine go_iconst (v := 4) hF d_Mo_delay_81 (by decide) ?_
                  refine go_iload_n hF d_Mo_delay_82 rfl ?_
                  refine go_callVX hF hE hlo d_Mo_delay_83 (con_Mo_setGate hlt h4 (k := 4) vg.1.1 vg.1.2 rfl (by decide) _) mt_Mo_setGate mv_Mo_setGate lk_Mo_46 ⟨rfl, rfl, by decide, by decide⟩ rfl (Nat.le_of_ble_eq_true rfl) ⟨by decide, by decide⟩ (fun H hG => gw_recv (q := (R_Mo, T_Mo, 9)) hK hG h4 rfl rfl (by decide) rfl) (fun M => gx_no) rfl (fun v => ?_)
                  refine go_and (fun hv => ?_)
                  subst hv
                  refine go_aload_n hF d_Mo_delay_86 rfl ?_
                  refine go_iload_n hF d_Mo_delay_87 rfl ?_
                  refine go_iconst (v := 5) hF d_Mo_delay_88 (by decide) ?_
                  refine go_iload_n hF d_Mo_delay_89 rfl ?_
                  refine go_callVX hF hE hlo d_Mo_delay_90 (con_Mo_setGate hlt h4 (k := 5) vg.1.1 vg.1.2 rfl (by decide) _) mt_Mo_setGate mv_Mo_setGate lk_Mo_46 ⟨rfl, rfl, by decide, by decide⟩ rfl (Nat.le_of_ble_eq_true rfl) ⟨by decide, by decide⟩ (fun H hG => gw_recv (q := (R_Mo, T_Mo, 9)) hK hG h4 rfl rfl (by decide) rfl) (fun M => gx_no) rfl (fun v => ?_)
                  refine go_and (fun hv => ?_)
                  subst hv
                  refine go_iload hF d_Mo_delay_93 rfl ?_
                  exact go_zret hF hM d_Mo_delay_95 rfl (by decide) (by decide) (fun H hG => ⟨_, _, rfl, fun _ => ⟨by unfold bi; rw [if_neg (fun z => z.elim (fun z => z (by rw [← hq.2.2.2.2.1]; exact h59)) (fun z => z (by rw [← hq.2.2.2.2.2.1]; exact h69)))], Rel_delay hR vg.2 (lenOk_rg ⟨not_lt h14, not_lt h21⟩) (lenOk_rg ⟨not_lt h25, h32⟩)⟩, fun z => absurd hTT z, by rw [hTT]; exact hG⟩)
                · refine go_iconst (v := 1) hF d_Mo_delay_72 (by decide) ?_
                  refine go_goto (tgt := 77) hF d_Mo_delay_73 (by decide) ?_
                  refine go_istore hF d_Mo_delay_77 (by decide) ?_
                  refine go_lv (lv' := [(0, _), (1, _), (2, _), (3, _), (4, _)]) ⟨rfl, rfl, rfl, rfl, rfl, trivial⟩ ?_
                  refine go_aload_n hF d_Mo_delay_79 rfl ?_
                  refine go_iload_n hF d_Mo_delay_80 rfl ?_
                  refine go_iconst (v := 4) hF d_Mo_delay_81 (by decide) ?_
                  refine go_iload_n hF d_Mo_delay_82 rfl ?_
                  refine go_callVX hF hE hlo d_Mo_delay_83 (con_Mo_setGate hlt h4 (k := 4) vg.1.1 vg.1.2 rfl (by decide) _) mt_Mo_setGate mv_Mo_setGate lk_Mo_46 ⟨rfl, rfl, by decide, by decide⟩ rfl (Nat.le_of_ble_eq_true rfl) ⟨by decide, by decide⟩ (fun H hG => gw_recv (q := (R_Mo, T_Mo, 9)) hK hG h4 rfl rfl (by decide) rfl) (fun M => gx_no) rfl (fun v => ?_)
                  refine go_and (fun hv => ?_)
                  subst hv
                  refine go_aload_n hF d_Mo_delay_86 rfl ?_
                  refine go_iload_n hF d_Mo_delay_87 rfl ?_
                  refine go_iconst (v := 5) hF d_Mo_delay_88 (by decide) ?_
                  refine go_iload_n hF d_Mo_delay_89 rfl ?_
                  refine go_callVX hF hE hlo d_Mo_delay_90 (con_Mo_setGate hlt h4 (k := 5) vg.1.1 vg.1.2 rfl (by decide) _) mt_Mo_setGate mv_Mo_setGate lk_Mo_46 ⟨rfl, rfl, by decide, by decide⟩ rfl (Nat.le_of_ble_eq_true rfl) ⟨by decide, by decide⟩ (fun H hG => gw_recv (q := (R_Mo, T_Mo, 9)) hK hG h4 rfl rfl (by decide) rfl) (fun M => gx_no) rfl (fun v => ?_)
                  refine go_and (fun hv => ?_)
                  subst hv
                  refine go_iload hF d_Mo_delay_93 rfl ?_
                  exact go_zret hF hM d_Mo_delay_95 rfl (by decide) (by decide) (fun H hG => ⟨_, _, rfl, fun _ => ⟨by unfold bi; rw [if_pos (Or.inr (by rw [← hq.2.2.2.2.2.1]; exact h69))], Rel_delay hR vg.2 (lenOk_rg ⟨not_lt h14, not_lt h21⟩) (lenOk_rg ⟨not_lt h25, h32⟩)⟩, fun z => absurd hTT z, by rw [hTT]; exact hG⟩)
            · rw [thr_v] at h47
              exact absurd (by decide) h47
          · refine go_iconst (v := 2) hF d_Mo_delay_35 (by decide) ?_
            refine go_goto (tgt := 40) hF d_Mo_delay_36 (by decide) ?_
            have hg := Rel_g hR
            have hTT : tD c g r q = 2 := by
              unfold tD
              rw [ifC_t ((Rel_isG hR _).mp (bi_1 h6))]
              exact ifC_f (fun z => h32 z.2.2)
            refine gs_puti hF hK hlo d_Mo_delay_40 fl_Mo_28 ct_Mo fs_Mo_0 h4 rfl rfl (by decide) rfl rfl ?_
            rw [mW_0]
            refine go_aload_n hF d_Mo_delay_43 rfl ?_
            refine gs_geti hF hK d_Mo_delay_44 fl_Mo_28 h4 rfl rfl (by decide) rfl ?_
            refine go_if_le (tgt := 52) hF d_Mo_delay_47 (by decide) (fun h47 => ?_) (fun h47 => ?_)
            · rw [thr_v] at h47
              exact absurd h47 (by decide)
            · refine go_iconst (v := 0) hF d_Mo_delay_50 (by decide) ?_
              exact go_zret hF hM d_Mo_delay_51 rfl (by decide) (by decide) (fun H hG => ⟨f, _, rfl, fun z => absurd (hTT.symm.trans z) (by decide), fun _ => rfl, by rw [hTT]; exact hG⟩)
  · refine go_iconst (v := 1) hF d_Mo_delay_9 (by decide) ?_
    refine go_goto (tgt := 40) hF d_Mo_delay_10 (by decide) ?_
    have hg := Rel_g hR
    have hTT : tD c g r q = 1 := by
      unfold tD
      exact ifC_f (fun z => bi_0 h6 ((Rel_isG hR _).mpr z))
    refine gs_puti hF hK hlo d_Mo_delay_40 fl_Mo_28 ct_Mo fs_Mo_0 h4 rfl rfl (by decide) rfl rfl ?_
    rw [mW_0]
    refine go_aload_n hF d_Mo_delay_43 rfl ?_
    refine gs_geti hF hK d_Mo_delay_44 fl_Mo_28 h4 rfl rfl (by decide) rfl ?_
    refine go_if_le (tgt := 52) hF d_Mo_delay_47 (by decide) (fun h47 => ?_) (fun h47 => ?_)
    · rw [thr_v] at h47
      exact absurd h47 (by decide)
    · refine go_iconst (v := 0) hF d_Mo_delay_50 (by decide) ?_
      exact go_zret hF hM d_Mo_delay_51 rfl (by decide) (by decide) (fun H hG => ⟨f, _, rfl, fun z => absurd (hTT.symm.trans z) (by decide), fun _ => rfl, by rw [hTT]; exact hG⟩)
set_option maxHeartbeats 4000000 in
set_option maxRecDepth 100000 in
theorem con_Mo_spike {l : Launch} (hlt : l.stackTraces = false) {E : gE} {B : bsT} {N : nwT} {w : wdT} {f : Nat → Int32} (h4 : N.1 4 0 = true) {K : Nat} {c : wdT} {r : Int32} (hR : Rel K c 0 f) : Con l E y_Mo_spike (Cond.code y_Mo_spike c_Mo_spike 3 (some .boolean) :: gAll) rm_Mo_spike [.ref (ad B 4 0 0 0), .int r] (gw E B N (mW w f)) (fun v H => ∃ f2 b, v = some (.int b) ∧ (tS r = 0 → b = bi (¬ wI c 0 0 0 1 0 = r) ∧ Rel K (sI c 0 0 0 1 0 r) 0 f2) ∧ (¬ tS r = 0 → f2 = f) ∧ gw E B N (mW (sI w 4 0 0 0 0 (tS r)) f2) H) (fun _ _ => False) 0 0 := by
  refine con_of (by decide) hlt (Nat.le_of_ble_eq_true rfl) ?_
  intro F hF hM htab hnm hE hlo hl
  subst hl
  have hF : Fb F c_Mo_spike R_Mo 3 rm_Mo_spike := hF
  have hK := hE.1
  have hT := hE.2.1
  refine go_lv (lv' := [(0, _), (1, _)]) ⟨rfl, rfl, trivial⟩ ?_
  refine go_aload_n hF d_Mo_spike_0 rfl ?_
  refine go_iload_n hF d_Mo_spike_1 rfl ?_
  refine go_if_eq (tgt := 10) hF d_Mo_spike_2 (by decide) (fun h2 => ?_) (fun h2 => ?_)
  · refine go_iconst (v := 0) hF d_Mo_spike_10 (by decide) ?_
    refine go_goto (tgt := 15) hF d_Mo_spike_11 (by decide) ?_
    have hTT : tS r = 0 := ifC_t (Or.inl h2)
    have hr1 : rg r 0 1 := by rw [h2]; exact ⟨by decide, by decide⟩
    refine gs_puti hF hK hlo d_Mo_spike_15 fl_Mo_28 ct_Mo fs_Mo_0 h4 rfl rfl (by decide) rfl rfl ?_
    rw [mW_0]
    refine go_aload_n hF d_Mo_spike_18 rfl ?_
    refine gs_geti hF hK d_Mo_spike_19 fl_Mo_28 h4 rfl rfl (by decide) rfl ?_
    refine go_if_ne (tgt := 39) hF d_Mo_spike_22 (by decide) (fun h22 => ?_) (fun h22 => ?_)
    · rw [thr_v] at h22
      exact absurd rfl h22
    · refine go_aload_n hF d_Mo_spike_25 rfl ?_
      refine gs_getr hF hK d_Mo_spike_26 fl_Mo_7 h4 rfl rfl (by decide) rfl ?_
      refine go_iconst (v := 1) hF d_Mo_spike_29 (by decide) ?_
      refine gs_md hF hK hT d_Mo_spike_30 h4 (show (1 : Int32) = nI 1 from rfl) (by decide) ?_
      refine go_iload_n hF d_Mo_spike_31 rfl ?_
      refine go_icmp_eq (tgt := 39) hF d_Mo_spike_32 (by decide) (fun h32 => ?_) (fun h32 => ?_)
      · refine go_iconst (v := 0) hF d_Mo_spike_39 (by decide) ?_
        refine go_istore_n hF d_Mo_spike_40 (by decide) ?_
        refine go_lv (lv' := [(0, _), (1, _), (2, _)]) ⟨rfl, rfl, rfl, trivial⟩ ?_
        refine go_aload_n hF d_Mo_spike_41 rfl ?_
        refine gs_getr hF hK d_Mo_spike_42 fl_Mo_7 h4 rfl rfl (by decide) rfl ?_
        refine go_iconst (v := 1) hF d_Mo_spike_45 (by decide) ?_
        refine go_aload_n hF d_Mo_spike_46 rfl ?_
        refine gs_geti hF hK d_Mo_spike_47 fl_Mo_28 h4 rfl rfl (by decide) rfl ?_
        refine go_if_le (tgt := 62) hF d_Mo_spike_50 (by decide) (fun h50 => ?_) (fun h50 => ?_)
        · refine go_iload_n hF d_Mo_spike_62 rfl ?_
          refine gs_ms hF hK hT hlo d_Mo_spike_63 h4 (show (1 : Int32) = nI 1 from rfl) (by decide) ?_
          refine go_iload_n hF d_Mo_spike_64 rfl ?_
          exact go_zret hF hM d_Mo_spike_65 rfl (by decide) (by decide) (fun H hG => ⟨_, _, rfl, fun _ => ⟨by unfold bi; rw [← hR.2.1.2.1]; rw [if_neg (fun z => z h32)], Rel_rule hR hr1⟩, fun z => absurd hTT z, by rw [hTT]; exact hG⟩)
        · rw [thr_v] at h50
          exact absurd (by decide) h50
      · refine go_iconst (v := 1) hF d_Mo_spike_35 (by decide) ?_
        refine go_goto (tgt := 40) hF d_Mo_spike_36 (by decide) ?_
        refine go_istore_n hF d_Mo_spike_40 (by decide) ?_
        refine go_lv (lv' := [(0, _), (1, _), (2, _)]) ⟨rfl, rfl, rfl, trivial⟩ ?_
        refine go_aload_n hF d_Mo_spike_41 rfl ?_
        refine gs_getr hF hK d_Mo_spike_42 fl_Mo_7 h4 rfl rfl (by decide) rfl ?_
        refine go_iconst (v := 1) hF d_Mo_spike_45 (by decide) ?_
        refine go_aload_n hF d_Mo_spike_46 rfl ?_
        refine gs_geti hF hK d_Mo_spike_47 fl_Mo_28 h4 rfl rfl (by decide) rfl ?_
        refine go_if_le (tgt := 62) hF d_Mo_spike_50 (by decide) (fun h50 => ?_) (fun h50 => ?_)
        · refine go_iload_n hF d_Mo_spike_62 rfl ?_
          refine gs_ms hF hK hT hlo d_Mo_spike_63 h4 (show (1 : Int32) = nI 1 from rfl) (by decide) ?_
          refine go_iload_n hF d_Mo_spike_64 rfl ?_
          exact go_zret hF hM d_Mo_spike_65 rfl (by decide) (by decide) (fun H hG => ⟨_, _, rfl, fun _ => ⟨by unfold bi; rw [← hR.2.1.2.1]; rw [if_pos h32], Rel_rule hR hr1⟩, fun z => absurd hTT z, by rw [hTT]; exact hG⟩)
        · rw [thr_v] at h50
          exact absurd (by decide) h50
  · refine go_iload_n hF d_Mo_spike_5 rfl ?_
    refine go_iconst (v := 1) hF d_Mo_spike_6 (by decide) ?_
    refine go_icmp_ne (tgt := 14) hF d_Mo_spike_7 (by decide) (fun h7 => ?_) (fun h7 => ?_)
    · refine go_iconst (v := 1) hF d_Mo_spike_14 (by decide) ?_
      have hTT : tS r = 1 := ifC_f (fun z => z.elim h2 h7)
      refine gs_puti hF hK hlo d_Mo_spike_15 fl_Mo_28 ct_Mo fs_Mo_0 h4 rfl rfl (by decide) rfl rfl ?_
      rw [mW_0]
      refine go_aload_n hF d_Mo_spike_18 rfl ?_
      refine gs_geti hF hK d_Mo_spike_19 fl_Mo_28 h4 rfl rfl (by decide) rfl ?_
      refine go_if_ne (tgt := 39) hF d_Mo_spike_22 (by decide) (fun h22 => ?_) (fun h22 => ?_)
      · refine go_iconst (v := 0) hF d_Mo_spike_39 (by decide) ?_
        refine go_istore_n hF d_Mo_spike_40 (by decide) ?_
        refine go_lv (lv' := [(0, _), (1, _), (2, _)]) ⟨rfl, rfl, rfl, trivial⟩ ?_
        refine go_aload_n hF d_Mo_spike_41 rfl ?_
        refine gs_getr hF hK d_Mo_spike_42 fl_Mo_7 h4 rfl rfl (by decide) rfl ?_
        refine go_iconst (v := 1) hF d_Mo_spike_45 (by decide) ?_
        refine go_aload_n hF d_Mo_spike_46 rfl ?_
        refine gs_geti hF hK d_Mo_spike_47 fl_Mo_28 h4 rfl rfl (by decide) rfl ?_
        refine go_if_le (tgt := 62) hF d_Mo_spike_50 (by decide) (fun h50 => ?_) (fun h50 => ?_)
        · rw [thr_v] at h50
          exact absurd h50 (by decide)
        · refine go_aload_n hF d_Mo_spike_53 rfl ?_
          refine gs_getr hF hK d_Mo_spike_54 fl_Mo_7 h4 rfl rfl (by decide) rfl ?_
          refine go_iconst (v := 1) hF d_Mo_spike_57 (by decide) ?_
          refine gs_md hF hK hT d_Mo_spike_58 h4 (show (1 : Int32) = nI 1 from rfl) (by decide) ?_
          refine go_goto (tgt := 63) hF d_Mo_spike_59 (by decide) ?_
          refine gs_ms hF hK hT hlo d_Mo_spike_63 h4 (show (1 : Int32) = nI 1 from rfl) (by decide) ?_
          refine go_iload_n hF d_Mo_spike_64 rfl ?_
          exact go_zret hF hM d_Mo_spike_65 rfl (by decide) (by decide) (fun H hG => ⟨_, _, rfl, fun z => absurd (hTT.symm.trans z) (by decide), fun _ => fu_id f 1, by rw [hTT]; exact hG⟩)
      · rw [thr_v] at h22
        exact absurd h22 (by decide)
    · refine go_iconst (v := 0) hF d_Mo_spike_10 (by decide) ?_
      refine go_goto (tgt := 15) hF d_Mo_spike_11 (by decide) ?_
      have hTT : tS r = 0 := ifC_t (Or.inr h7)
      have hr1 : rg r 0 1 := by rw [h7]; exact ⟨by decide, by decide⟩
      refine gs_puti hF hK hlo d_Mo_spike_15 fl_Mo_28 ct_Mo fs_Mo_0 h4 rfl rfl (by decide) rfl rfl ?_
      rw [mW_0]
      refine go_aload_n hF d_Mo_spike_18 rfl ?_
      refine gs_geti hF hK d_Mo_spike_19 fl_Mo_28 h4 rfl rfl (by decide) rfl ?_
      refine go_if_ne (tgt := 39) hF d_Mo_spike_22 (by decide) (fun h22 => ?_) (fun h22 => ?_)
      · rw [thr_v] at h22
        exact absurd rfl h22
      · refine go_aload_n hF d_Mo_spike_25 rfl ?_
        refine gs_getr hF hK d_Mo_spike_26 fl_Mo_7 h4 rfl rfl (by decide) rfl ?_
        refine go_iconst (v := 1) hF d_Mo_spike_29 (by decide) ?_
        refine gs_md hF hK hT d_Mo_spike_30 h4 (show (1 : Int32) = nI 1 from rfl) (by decide) ?_
        refine go_iload_n hF d_Mo_spike_31 rfl ?_
        refine go_icmp_eq (tgt := 39) hF d_Mo_spike_32 (by decide) (fun h32 => ?_) (fun h32 => ?_)
        · refine go_iconst (v := 0) hF d_Mo_spike_39 (by decide) ?_
          refine go_istore_n hF d_Mo_spike_40 (by decide) ?_
          refine go_lv (lv' := [(0, _), (1, _), (2, _)]) ⟨rfl, rfl, rfl, trivial⟩ ?_
          refine go_aload_n hF d_Mo_spike_41 rfl ?_
          refine gs_getr hF hK d_Mo_spike_42 fl_Mo_7 h4 rfl rfl (by decide) rfl ?_
          refine go_iconst (v := 1) hF d_Mo_spike_45 (by decide) ?_
          refine go_aload_n hF d_Mo_spike_46 rfl ?_
          refine gs_geti hF hK d_Mo_spike_47 fl_Mo_28 h4 rfl rfl (by decide) rfl ?_
          refine go_if_le (tgt := 62) hF d_Mo_spike_50 (by decide) (fun h50 => ?_) (fun h50 => ?_)
          · refine go_iload_n hF d_Mo_spike_62 rfl ?_
            refine gs_ms hF hK hT hlo d_Mo_spike_63 h4 (show (1 : Int32) = nI 1 from rfl) (by decide) ?_
            refine go_iload_n hF d_Mo_spike_64 rfl ?_
            exact go_zret hF hM d_Mo_spike_65 rfl (by decide) (by decide) (fun H hG => ⟨_, _, rfl, fun _ => ⟨by unfold bi; rw [← hR.2.1.2.1]; rw [if_neg (fun z => z h32)], Rel_rule hR hr1⟩, fun z => absurd hTT z, by rw [hTT]; exact hG⟩)
          · rw [thr_v] at h50
            exact absurd (by decide) h50
        · refine go_iconst (v := 1) hF d_Mo_spike_35 (by decide) ?_
          refine go_goto (tgt := 40) hF d_Mo_spike_36 (by decide) ?_
          refine go_istore_n hF d_Mo_spike_40 (by decide) ?_
          refine go_lv (lv' := [(0, _), (1, _), (2, _)]) ⟨rfl, rfl, rfl, trivial⟩ ?_
          refine go_aload_n hF d_Mo_spike_41 rfl ?_
          refine gs_getr hF hK d_Mo_spike_42 fl_Mo_7 h4 rfl rfl (by decide) rfl ?_
          refine go_iconst (v := 1) hF d_Mo_spike_45 (by decide) ?_
          refine go_aload_n hF d_Mo_spike_46 rfl ?_
          refine gs_geti hF hK d_Mo_spike_47 fl_Mo_28 h4 rfl rfl (by decide) rfl ?_
          refine go_if_le (tgt := 62) hF d_Mo_spike_50 (by decide) (fun h50 => ?_) (fun h50 => ?_)
          · refine go_iload_n hF d_Mo_spike_62 rfl ?_
            refine gs_ms hF hK hT hlo d_Mo_spike_63 h4 (show (1 : Int32) = nI 1 from rfl) (by decide) ?_
            refine go_iload_n hF d_Mo_spike_64 rfl ?_
            exact go_zret hF hM d_Mo_spike_65 rfl (by decide) (by decide) (fun H hG => ⟨_, _, rfl, fun _ => ⟨by unfold bi; rw [← hR.2.1.2.1]; rw [if_pos h32], Rel_rule hR hr1⟩, fun z => absurd hTT z, by rw [hTT]; exact hG⟩)
          · rw [thr_v] at h50
            exact absurd (by decide) h50
set_option maxHeartbeats 4000000 in
set_option maxRecDepth 100000 in
theorem con_Mo_tell {l : Launch} (hlt : l.stackTraces = false) {E : gE} {B : bsT} {N : nwT} {w : wdT} {f : Nat → Int32} (h4 : N.1 4 0 = true) {n t a x : Int32} {k : Nat} (hk : f 4 = nI k) (hkl : k < 100) : Con l E y_Mo_tell (Cond.code y_Mo_tell c_Mo_tell 6 none :: gAll) rm_Mo_tell [.ref (ad B 4 0 0 0), .int n, .int t, .int a, .int x] (gw E B N (mW w f)) (fun v H => v = none ∧ gw E B N (mW w (fu (fu (fu (fu (fu (fu (fu f 4 (nI (k + 1))) (700 + 5 * k) t) (700 + 5 * k + 1) n) (700 + 5 * k + 2) a) (700 + 5 * k + 3) x) (700 + 5 * k + 4) (f 7)) 7 (f 7 + 1))) H) (fun _ _ => False) 0 0 := by
  refine con_of (by decide) hlt (Nat.le_of_ble_eq_true rfl) ?_
  intro F hF hM htab hnm hE hlo hl
  subst hl
  have hF : Fb F c_Mo_tell R_Mo 6 rm_Mo_tell := hF
  have hK := hE.1
  have hT := hE.2.1
  refine go_lv (lv' := [(0, _), (1, _), (2, _), (3, _), (4, _)]) ⟨rfl, rfl, rfl, rfl, rfl, trivial⟩ ?_
  refine go_sipush (v := 700) hF d_Mo_tell_0 (by decide) ?_
  refine go_iconst (v := 5) hF d_Mo_tell_3 (by decide) ?_
  refine go_aload_n hF d_Mo_tell_4 rfl ?_
  refine gs_getr hF hK d_Mo_tell_5 fl_Mo_7 h4 rfl rfl (by decide) rfl ?_
  refine go_iconst (v := 4) hF d_Mo_tell_8 (by decide) ?_
  refine gs_md hF hK hT d_Mo_tell_9 h4 (show (4 : Int32) = nI 4 from rfl) (by decide) ?_
  refine go_imul hF d_Mo_tell_10 ?_
  refine go_iadd hF d_Mo_tell_11 ?_
  refine go_istore hF d_Mo_tell_12 (by decide) ?_
  refine go_lv (lv' := [(0, _), (1, _), (2, _), (3, _), (4, _), (5, _)]) ⟨rfl, rfl, rfl, rfl, rfl, rfl, trivial⟩ ?_
  refine go_aload_n hF d_Mo_tell_14 rfl ?_
  refine gs_getr hF hK d_Mo_tell_15 fl_Mo_7 h4 rfl rfl (by decide) rfl ?_
  refine go_iconst (v := 4) hF d_Mo_tell_18 (by decide) ?_
  refine go_dup2 hF d_Mo_tell_19 rfl rfl ?_
  refine gs_md hF hK hT d_Mo_tell_20 h4 (show (4 : Int32) = nI 4 from rfl) (by decide) ?_
  refine go_iconst (v := 1) hF d_Mo_tell_21 (by decide) ?_
  refine go_iadd hF d_Mo_tell_22 ?_
  refine gs_ms hF hK hT hlo d_Mo_tell_23 h4 (show (4 : Int32) = nI 4 from rfl) (by decide) ?_
  rw [show f 4 + 1 = nI (k + 1) by rw [hk, nI_1]]
  refine go_aload_n hF d_Mo_tell_24 rfl ?_
  refine gs_getr hF hK d_Mo_tell_25 fl_Mo_7 h4 rfl rfl (by decide) rfl ?_
  refine go_iload hF d_Mo_tell_28 rfl ?_
  refine go_iload_n hF d_Mo_tell_30 rfl ?_
  refine gs_ms hF hK hT hlo d_Mo_tell_31 h4 (ixC (a := 700) (b := 5) hk) (by omega) ?_
  refine go_aload_n hF d_Mo_tell_32 rfl ?_
  refine gs_getr hF hK d_Mo_tell_33 fl_Mo_7 h4 rfl rfl (by decide) rfl ?_
  refine go_iload hF d_Mo_tell_36 rfl ?_
  refine go_iconst (v := 1) hF d_Mo_tell_38 (by decide) ?_
  refine go_iadd hF d_Mo_tell_39 ?_
  refine go_iload_n hF d_Mo_tell_40 rfl ?_
  refine gs_ms hF hK hT hlo d_Mo_tell_41 h4 (ix1 (k := 1) (ixC (a := 700) (b := 5) hk)) (by omega) ?_
  refine go_aload_n hF d_Mo_tell_42 rfl ?_
  refine gs_getr hF hK d_Mo_tell_43 fl_Mo_7 h4 rfl rfl (by decide) rfl ?_
  refine go_iload hF d_Mo_tell_46 rfl ?_
  refine go_iconst (v := 2) hF d_Mo_tell_48 (by decide) ?_
  refine go_iadd hF d_Mo_tell_49 ?_
  refine go_iload_n hF d_Mo_tell_50 rfl ?_
  refine gs_ms hF hK hT hlo d_Mo_tell_51 h4 (ix1 (k := 2) (ixC (a := 700) (b := 5) hk)) (by omega) ?_
  refine go_aload_n hF d_Mo_tell_52 rfl ?_
  refine gs_getr hF hK d_Mo_tell_53 fl_Mo_7 h4 rfl rfl (by decide) rfl ?_
  refine go_iload hF d_Mo_tell_56 rfl ?_
  refine go_iconst (v := 3) hF d_Mo_tell_58 (by decide) ?_
  refine go_iadd hF d_Mo_tell_59 ?_
  refine go_iload hF d_Mo_tell_60 rfl ?_
  refine gs_ms hF hK hT hlo d_Mo_tell_62 h4 (ix1 (k := 3) (ixC (a := 700) (b := 5) hk)) (by omega) ?_
  refine go_aload_n hF d_Mo_tell_63 rfl ?_
  refine gs_getr hF hK d_Mo_tell_64 fl_Mo_7 h4 rfl rfl (by decide) rfl ?_
  refine go_iload hF d_Mo_tell_67 rfl ?_
  refine go_iconst (v := 4) hF d_Mo_tell_69 (by decide) ?_
  refine go_iadd hF d_Mo_tell_70 ?_
  refine go_aload_n hF d_Mo_tell_71 rfl ?_
  refine gs_getr hF hK d_Mo_tell_72 fl_Mo_7 h4 rfl rfl (by decide) rfl ?_
  refine go_bipush (v := 7) hF d_Mo_tell_75 (by decide) ?_
  refine gs_md hF hK hT d_Mo_tell_77 h4 (show (7 : Int32) = nI 7 from rfl) (by decide) ?_
  refine gs_ms hF hK hT hlo d_Mo_tell_78 h4 (ix1 (k := 4) (ixC (a := 700) (b := 5) hk)) (by omega) ?_
  refine go_aload_n hF d_Mo_tell_79 rfl ?_
  refine gs_getr hF hK d_Mo_tell_80 fl_Mo_7 h4 rfl rfl (by decide) rfl ?_
  refine go_bipush (v := 7) hF d_Mo_tell_83 (by decide) ?_
  refine go_dup2 hF d_Mo_tell_85 rfl rfl ?_
  refine gs_md hF hK hT d_Mo_tell_86 h4 (show (7 : Int32) = nI 7 from rfl) (by decide) ?_
  refine go_iconst (v := 1) hF d_Mo_tell_87 (by decide) ?_
  refine go_iadd hF d_Mo_tell_88 ?_
  refine gs_ms hF hK hT hlo d_Mo_tell_89 h4 (show (7 : Int32) = nI 7 from rfl) (by decide) ?_
  exact go_vret hF hM d_Mo_tell_90 (by decide) (by decide) (fun H hG => ⟨rfl, by
    simp only [fu_n (show (7 : Nat) ≠ 700 + 5 * k + 4 by omega), fu_n (show (7 : Nat) ≠ 700 + 5 * k + 3 by omega), fu_n (show (7 : Nat) ≠ 700 + 5 * k + 2 by omega), fu_n (show (7 : Nat) ≠ 700 + 5 * k + 1 by omega), fu_n (show (7 : Nat) ≠ 700 + 5 * k by omega), fu_n (show (7 : Nat) ≠ 4 by decide)] at hG
    exact hG⟩)
theorem rg03 {x : Int32} (h : 0 ≤ x ∧ x ≤ 3) : rg x 0 3 := by
  obtain ⟨h1, h2⟩ := h
  rw [Int32.le_iff_toInt_le, i0] at h1
  rw [Int32.le_iff_toInt_le, i3] at h2
  exact ⟨h1, h2⟩
set_option maxHeartbeats 4000000 in
set_option maxRecDepth 100000 in
theorem con_Mo_hand {l : Launch} (hlt : l.stackTraces = false) {E : gE} {B : bsT} {N : nwT} {w : wdT} {f : Nat → Int32} (h4 : N.1 4 0 = true) {K : Nat} {c : wdT} {n : Int32} {t : Int64} {a x xc : Int32} (hKK : K < 1000000000) (hxx : (0 ≤ x ∧ x ≤ 3) ↔ (0 ≤ xc ∧ xc ≤ 3)) (hvv : ¬ a = 2 → x = xc) (ha : rg a 0 2) (hR : Rel K c 0 f) : Con l E y_Mo_hand (Cond.code y_Mo_hand c_Mo_hand 7 (some .int) :: gAll) rm_Mo_hand [.ref (ad B 4 0 0 0), .int n, .long t, .int a, .int x] (gw E B N (mW w f)) (fun v H => ∃ f2 b, v = some (.int b) ∧ (tH c n t xc = 0 → b = wI c 0 0 4 0 0 + 1 ∧ Rel (K + 1) (apX c a n t xc) 0 f2) ∧ (¬ tH c n t xc = 0 → f2 = f) ∧ gw E B N (mW (sI w 4 0 0 0 0 (tH c n t xc)) f2) H) (fun _ _ => False) 0 0 := by
  refine con_of (by decide) hlt (Nat.le_of_ble_eq_true rfl) ?_
  intro F hF hM htab hnm hE hlo hl
  subst hl
  have hF : Fb F c_Mo_hand R_Mo 7 rm_Mo_hand := hF
  have hK := hE.1
  have hT := hE.2.1
  refine go_lv (lv' := [(0, _), (1, _), (2, _), (4, _), (5, _)]) ⟨rfl, rfl, rfl, rfl, rfl, trivial⟩ ?_
  refine go_iload hF d_Mo_hand_0 rfl ?_
  refine go_if_lt (tgt := 35) hF d_Mo_hand_2 (by decide) (fun h2 => ?_) (fun h2 => ?_)
  · refine go_iconst (v := 0) hF d_Mo_hand_35 (by decide) ?_
    refine go_istore hF d_Mo_hand_36 (by decide) ?_
    refine go_lv (lv' := [(0, _), (1, _), (2, _), (4, _), (5, _), (6, _)]) ⟨rfl, rfl, rfl, rfl, rfl, rfl, trivial⟩ ?_
    refine go_aload_n hF d_Mo_hand_38 rfl ?_
    refine go_aload_n hF d_Mo_hand_39 rfl ?_
    refine go_iload_n hF d_Mo_hand_40 rfl ?_
    refine go_callVX hF hE hlo d_Mo_hand_41 (con_Mo_isNet hlt h4 n) mt_Mo_isNet mv_Mo_isNet lk_Mo_70 ⟨rfl, rfl, by decide, by decide⟩ rfl (Nat.le_of_ble_eq_true rfl) ⟨by decide, by decide⟩ (fun H hG => gw_recv (q := (R_Mo, T_Mo, 9)) hK hG h4 rfl rfl (by decide) rfl) (fun M => gx_no) rfl (fun v => ?_)
    refine go_and (fun hv => ?_)
    subst hv
    refine go_if_ne (tgt := 51) hF d_Mo_hand_44 (by decide) (fun h44 => ?_) (fun h44 => ?_)
    · refine go_aload_n hF d_Mo_hand_51 rfl ?_
      refine gs_getr hF hK d_Mo_hand_52 fl_Mo_7 h4 rfl rfl (by decide) rfl ?_
      refine go_iconst (v := 4) hF d_Mo_hand_55 (by decide) ?_
      refine gs_md hF hK hT d_Mo_hand_56 h4 (show (4 : Int32) = nI 4 from rfl) (by decide) ?_
      refine go_bipush (v := 100) hF d_Mo_hand_57 (by decide) ?_
      refine go_icmp_ne (tgt := 66) hF d_Mo_hand_59 (by decide) (fun h59 => ?_) (fun h59 => ?_)
      · refine go_iload hF d_Mo_hand_66 rfl ?_
        refine go_if_ne (tgt := 75) hF d_Mo_hand_68 (by decide) (fun h68 => ?_) (fun h68 => ?_)
        · exact absurd rfl h68
        · refine go_iconst (v := 3) hF d_Mo_hand_71 (by decide) ?_
          refine go_goto (tgt := 76) hF d_Mo_hand_72 (by decide) ?_
          have hg := Rel_h hR
          have hTT : tH c n t xc = 3 := by
            unfold tH
            rw [ifC_t ((Rel_isN hR _).mp (bi_1 h44)), ← hR.2.1.2.2.2.2.1, ifC_t (show f 4 < 100 from (ct_ne (m := 100) hg (by decide)).mpr h59), ← hR.2.1.1, ← hxx]
            exact ifC_f (fun z => Int32.lt_irrefl (Int32.lt_of_lt_of_le h2 z.1.1))
          refine gs_puti hF hK hlo d_Mo_hand_76 fl_Mo_28 ct_Mo fs_Mo_0 h4 rfl rfl (by decide) rfl rfl ?_
          rw [mW_0]
          refine go_aload_n hF d_Mo_hand_79 rfl ?_
          refine gs_geti hF hK d_Mo_hand_80 fl_Mo_28 h4 rfl rfl (by decide) rfl ?_
          refine go_if_le (tgt := 88) hF d_Mo_hand_83 (by decide) (fun h83 => ?_) (fun h83 => ?_)
          · rw [thr_v] at h83
            exact absurd h83 (by decide)
          · refine go_iconst (v := 0) hF d_Mo_hand_86 (by decide) ?_
            exact go_iret hF hM d_Mo_hand_87 (by decide) (by decide) (fun H hG => ⟨f, _, rfl, fun z => absurd (hTT.symm.trans z) (by decide), fun _ => rfl, by rw [hTT]; exact hG⟩)
      · refine go_iconst (v := 2) hF d_Mo_hand_62 (by decide) ?_
        refine go_goto (tgt := 76) hF d_Mo_hand_63 (by decide) ?_
        have hg := Rel_h hR
        have hTT : tH c n t xc = 2 := by
          unfold tH
          rw [ifC_t ((Rel_isN hR _).mp (bi_1 h44)), ← hR.2.1.2.2.2.2.1]
          exact ifC_f (fun z => (ct_ne (m := 100) hg (by decide)).mp z h59)
        refine gs_puti hF hK hlo d_Mo_hand_76 fl_Mo_28 ct_Mo fs_Mo_0 h4 rfl rfl (by decide) rfl rfl ?_
        rw [mW_0]
        refine go_aload_n hF d_Mo_hand_79 rfl ?_
        refine gs_geti hF hK d_Mo_hand_80 fl_Mo_28 h4 rfl rfl (by decide) rfl ?_
        refine go_if_le (tgt := 88) hF d_Mo_hand_83 (by decide) (fun h83 => ?_) (fun h83 => ?_)
        · rw [thr_v] at h83
          exact absurd h83 (by decide)
        · refine go_iconst (v := 0) hF d_Mo_hand_86 (by decide) ?_
          exact go_iret hF hM d_Mo_hand_87 (by decide) (by decide) (fun H hG => ⟨f, _, rfl, fun z => absurd (hTT.symm.trans z) (by decide), fun _ => rfl, by rw [hTT]; exact hG⟩)
    · refine go_iconst (v := 1) hF d_Mo_hand_47 (by decide) ?_
      refine go_goto (tgt := 76) hF d_Mo_hand_48 (by decide) ?_
      have hg := Rel_h hR
      have hTT : tH c n t xc = 1 := by
        unfold tH
        exact ifC_f (fun z => bi_0 h44 ((Rel_isN hR _).mpr z))
      refine gs_puti hF hK hlo d_Mo_hand_76 fl_Mo_28 ct_Mo fs_Mo_0 h4 rfl rfl (by decide) rfl rfl ?_
      rw [mW_0]
      refine go_aload_n hF d_Mo_hand_79 rfl ?_
      refine gs_geti hF hK d_Mo_hand_80 fl_Mo_28 h4 rfl rfl (by decide) rfl ?_
      refine go_if_le (tgt := 88) hF d_Mo_hand_83 (by decide) (fun h83 => ?_) (fun h83 => ?_)
      · rw [thr_v] at h83
        exact absurd h83 (by decide)
      · refine go_iconst (v := 0) hF d_Mo_hand_86 (by decide) ?_
        exact go_iret hF hM d_Mo_hand_87 (by decide) (by decide) (fun H hG => ⟨f, _, rfl, fun z => absurd (hTT.symm.trans z) (by decide), fun _ => rfl, by rw [hTT]; exact hG⟩)
  · refine go_iload hF d_Mo_hand_5 rfl ?_
    refine go_iconst (v := 3) hF d_Mo_hand_7 (by decide) ?_
    refine go_icmp_gt (tgt := 35) hF d_Mo_hand_8 (by decide) (fun h8 => ?_) (fun h8 => ?_)
    · refine go_iconst (v := 0) hF d_Mo_hand_35 (by decide) ?_
      refine go_istore hF d_Mo_hand_36 (by decide) ?_
      refine go_lv (lv' := [(0, _), (1, _), (2, _), (4, _), (5, _), (6, _)]) ⟨rfl, rfl, rfl, rfl, rfl, rfl, trivial⟩ ?_
      refine go_aload_n hF d_Mo_hand_38 rfl ?_
      refine go_aload_n hF d_Mo_hand_39 rfl ?_
      refine go_iload_n hF d_Mo_hand_40 rfl ?_
      refine go_callVX hF hE hlo d_Mo_hand_41 (con_Mo_isNet hlt h4 n) mt_Mo_isNet mv_Mo_isNet lk_Mo_70 ⟨rfl, rfl, by decide, by decide⟩ rfl (Nat.le_of_ble_eq_true rfl) ⟨by decide, by decide⟩ (fun H hG => gw_recv (q := (R_Mo, T_Mo, 9)) hK hG h4 rfl rfl (by decide) rfl) (fun M => gx_no) rfl (fun v => ?_)
      refine go_and (fun hv => ?_)
      subst hv
      refine go_if_ne (tgt := 51) hF d_Mo_hand_44 (by decide) (fun h44 => ?_) (fun h44 => ?_)
      · refine go_aload_n hF d_Mo_hand_51 rfl ?_
        refine gs_getr hF hK d_Mo_hand_52 fl_Mo_7 h4 rfl rfl (by decide) rfl ?_
        refine go_iconst (v := 4) hF d_Mo_hand_55 (by decide) ?_
        refine gs_md hF hK hT d_Mo_hand_56 h4 (show (4 : Int32) = nI 4 from rfl) (by decide) ?_
        refine go_bipush (v := 100) hF d_Mo_hand_57 (by decide) ?_
        refine go_icmp_ne (tgt := 66) hF d_Mo_hand_59 (by decide) (fun h59 => ?_) (fun h59 => ?_)
        · refine go_iload hF d_Mo_hand_66 rfl ?_
          refine go_if_ne (tgt := 75) hF d_Mo_hand_68 (by decide) (fun h68 => ?_) (fun h68 => ?_)
          · exact absurd rfl h68
          · refine go_iconst (v := 3) hF d_Mo_hand_71 (by decide) ?_
            refine go_goto (tgt := 76) hF d_Mo_hand_72 (by decide) ?_
            have hg := Rel_h hR
            have hTT : tH c n t xc = 3 := by
              unfold tH
              rw [ifC_t ((Rel_isN hR _).mp (bi_1 h44)), ← hR.2.1.2.2.2.2.1, ifC_t (show f 4 < 100 from (ct_ne (m := 100) hg (by decide)).mpr h59), ← hR.2.1.1, ← hxx]
              exact ifC_f (fun z => Int32.lt_irrefl (Int32.lt_of_lt_of_le h8 z.1.2))
            refine gs_puti hF hK hlo d_Mo_hand_76 fl_Mo_28 ct_Mo fs_Mo_0 h4 rfl rfl (by decide) rfl rfl ?_
            rw [mW_0]
            refine go_aload_n hF d_Mo_hand_79 rfl ?_
            refine gs_geti hF hK d_Mo_hand_80 fl_Mo_28 h4 rfl rfl (by decide) rfl ?_
            refine go_if_le (tgt := 88) hF d_Mo_hand_83 (by decide) (fun h83 => ?_) (fun h83 => ?_)
            · rw [thr_v] at h83
              exact absurd h83 (by decide)
            · refine go_iconst (v := 0) hF d_Mo_hand_86 (by decide) ?_
              exact go_iret hF hM d_Mo_hand_87 (by decide) (by decide) (fun H hG => ⟨f, _, rfl, fun z => absurd (hTT.symm.trans z) (by decide), fun _ => rfl, by rw [hTT]; exact hG⟩)
        · refine go_iconst (v := 2) hF d_Mo_hand_62 (by decide) ?_
          refine go_goto (tgt := 76) hF d_Mo_hand_63 (by decide) ?_
          have hg := Rel_h hR
          have hTT : tH c n t xc = 2 := by
            unfold tH
            rw [ifC_t ((Rel_isN hR _).mp (bi_1 h44)), ← hR.2.1.2.2.2.2.1]
            exact ifC_f (fun z => (ct_ne (m := 100) hg (by decide)).mp z h59)
          refine gs_puti hF hK hlo d_Mo_hand_76 fl_Mo_28 ct_Mo fs_Mo_0 h4 rfl rfl (by decide) rfl rfl ?_
          rw [mW_0]
          refine go_aload_n hF d_Mo_hand_79 rfl ?_
          refine gs_geti hF hK d_Mo_hand_80 fl_Mo_28 h4 rfl rfl (by decide) rfl ?_
          refine go_if_le (tgt := 88) hF d_Mo_hand_83 (by decide) (fun h83 => ?_) (fun h83 => ?_)
          · rw [thr_v] at h83
            exact absurd h83 (by decide)
          · refine go_iconst (v := 0) hF d_Mo_hand_86 (by decide) ?_
            exact go_iret hF hM d_Mo_hand_87 (by decide) (by decide) (fun H hG => ⟨f, _, rfl, fun z => absurd (hTT.symm.trans z) (by decide), fun _ => rfl, by rw [hTT]; exact hG⟩)
      · refine go_iconst (v := 1) hF d_Mo_hand_47 (by decide) ?_
        refine go_goto (tgt := 76) hF d_Mo_hand_48 (by decide) ?_
        have hg := Rel_h hR
        have hTT : tH c n t xc = 1 := by
          unfold tH
          exact ifC_f (fun z => bi_0 h44 ((Rel_isN hR _).mpr z))
        refine gs_puti hF hK hlo d_Mo_hand_76 fl_Mo_28 ct_Mo fs_Mo_0 h4 rfl rfl (by decide) rfl rfl ?_
        rw [mW_0]
        refine go_aload_n hF d_Mo_hand_79 rfl ?_
        refine gs_geti hF hK d_Mo_hand_80 fl_Mo_28 h4 rfl rfl (by decide) rfl ?_
        refine go_if_le (tgt := 88) hF d_Mo_hand_83 (by decide) (fun h83 => ?_) (fun h83 => ?_)
        · rw [thr_v] at h83
          exact absurd h83 (by decide)
        · refine go_iconst (v := 0) hF d_Mo_hand_86 (by decide) ?_
          exact go_iret hF hM d_Mo_hand_87 (by decide) (by decide) (fun H hG => ⟨f, _, rfl, fun z => absurd (hTT.symm.trans z) (by decide), fun _ => rfl, by rw [hTT]; exact hG⟩)
    · refine go_lload_n hF d_Mo_hand_11 rfl ?_
      refine go_aload_n hF d_Mo_hand_12 rfl ?_
      refine gs_getr hF hK d_Mo_hand_13 fl_Mo_7 h4 rfl rfl (by decide) rfl ?_
      refine go_iconst (v := 0) hF d_Mo_hand_16 (by decide) ?_
      refine gs_md hF hK hT d_Mo_hand_17 h4 (show (0 : Int32) = nI 0 from rfl) (by decide) ?_
      refine go_i2l hF d_Mo_hand_18 ?_
      refine go_lif_lt (tgt := 35) hF d_Mo_hand_19 d_Mo_hand_20 (by decide) (fun h19 => ?_) (fun h19 => ?_)
      · refine go_iconst (v := 0) hF d_Mo_hand_35 (by decide) ?_
        refine go_istore hF d_Mo_hand_36 (by decide) ?_
        refine go_lv (lv' := [(0, _), (1, _), (2, _), (4, _), (5, _), (6, _)]) ⟨rfl, rfl, rfl, rfl, rfl, rfl, trivial⟩ ?_
        refine go_aload_n hF d_Mo_hand_38 rfl ?_
        refine go_aload_n hF d_Mo_hand_39 rfl ?_
        refine go_iload_n hF d_Mo_hand_40 rfl ?_
        refine go_callVX hF hE hlo d_Mo_hand_41 (con_Mo_isNet hlt h4 n) mt_Mo_isNet mv_Mo_isNet lk_Mo_70 ⟨rfl, rfl, by decide, by decide⟩ rfl (Nat.le_of_ble_eq_true rfl) ⟨by decide, by decide⟩ (fun H hG => gw_recv (q := (R_Mo, T_Mo, 9)) hK hG h4 rfl rfl (by decide) rfl) (fun M => gx_no) rfl (fun v => ?_)
        refine go_and (fun hv => ?_)
        subst hv
        refine go_if_ne (tgt := 51) hF d_Mo_hand_44 (by decide) (fun h44 => ?_) (fun h44 => ?_)
        · refine go_aload_n hF d_Mo_hand_51 rfl ?_
          refine gs_getr hF hK d_Mo_hand_52 fl_Mo_7 h4 rfl rfl (by decide) rfl ?_
          refine go_iconst (v := 4) hF d_Mo_hand_55 (by decide) ?_
          refine gs_md hF hK hT d_Mo_hand_56 h4 (show (4 : Int32) = nI 4 from rfl) (by decide) ?_
          refine go_bipush (v := 100) hF d_Mo_hand_57 (by decide) ?_
          refine go_icmp_ne (tgt := 66) hF d_Mo_hand_59 (by decide) (fun h59 => ?_) (fun h59 => ?_)
          · refine go_iload hF d_Mo_hand_66 rfl ?_
            refine go_if_ne (tgt := 75) hF d_Mo_hand_68 (by decide) (fun h68 => ?_) (fun h68 => ?_)
            · exact absurd rfl h68
            · refine go_iconst (v := 3) hF d_Mo_hand_71 (by decide) ?_
              refine go_goto (tgt := 76) hF d_Mo_hand_72 (by decide) ?_
              have hg := Rel_h hR
              have hTT : tH c n t xc = 3 := by
                unfold tH
                rw [ifC_t ((Rel_isN hR _).mp (bi_1 h44)), ← hR.2.1.2.2.2.2.1, ifC_t (show f 4 < 100 from (ct_ne (m := 100) hg (by decide)).mpr h59), ← hR.2.1.1, ← hxx]
                exact ifC_f (fun z => Int64.lt_irrefl (Int64.lt_of_lt_of_le h19 z.2.1))
              refine gs_puti hF hK hlo d_Mo_hand_76 fl_Mo_28 ct_Mo fs_Mo_0 h4 rfl rfl (by decide) rfl rfl ?_
              rw [mW_0]
              refine go_aload_n hF d_Mo_hand_79 rfl ?_
              refine gs_geti hF hK d_Mo_hand_80 fl_Mo_28 h4 rfl rfl (by decide) rfl ?_
              refine go_if_le (tgt := 88) hF d_Mo_hand_83 (by decide) (fun h83 => ?_) (fun h83 => ?_)
              · rw [thr_v] at h83
                exact absurd h83 (by decide)
              · refine go_iconst (v := 0) hF d_Mo_hand_86 (by decide) ?_
                exact go_iret hF hM d_Mo_hand_87 (by decide) (by decide) (fun H hG => ⟨f, _, rfl, fun z => absurd (hTT.symm.trans z) (by decide), fun _ => rfl, by rw [hTT]; exact hG⟩)
          · refine go_iconst (v := 2) hF d_Mo_hand_62 (by decide) ?_
            refine go_goto (tgt := 76) hF d_Mo_hand_63 (by decide) ?_
            have hg := Rel_h hR
            have hTT : tH c n t xc = 2 := by
              unfold tH
              rw [ifC_t ((Rel_isN hR _).mp (bi_1 h44)), ← hR.2.1.2.2.2.2.1]
              exact ifC_f (fun z => (ct_ne (m := 100) hg (by decide)).mp z h59)
            refine gs_puti hF hK hlo d_Mo_hand_76 fl_Mo_28 ct_Mo fs_Mo_0 h4 rfl rfl (by decide) rfl rfl ?_
            rw [mW_0]
            refine go_aload_n hF d_Mo_hand_79 rfl ?_
            refine gs_geti hF hK d_Mo_hand_80 fl_Mo_28 h4 rfl rfl (by decide) rfl ?_
            refine go_if_le (tgt := 88) hF d_Mo_hand_83 (by decide) (fun h83 => ?_) (fun h83 => ?_)
            · rw [thr_v] at h83
              exact absurd h83 (by decide)
            · refine go_iconst (v := 0) hF d_Mo_hand_86 (by decide) ?_
              exact go_iret hF hM d_Mo_hand_87 (by decide) (by decide) (fun H hG => ⟨f, _, rfl, fun z => absurd (hTT.symm.trans z) (by decide), fun _ => rfl, by rw [hTT]; exact hG⟩)
        · refine go_iconst (v := 1) hF d_Mo_hand_47 (by decide) ?_
          refine go_goto (tgt := 76) hF d_Mo_hand_48 (by decide) ?_
          have hg := Rel_h hR
          have hTT : tH c n t xc = 1 := by
            unfold tH
            exact ifC_f (fun z => bi_0 h44 ((Rel_isN hR _).mpr z))
          refine gs_puti hF hK hlo d_Mo_hand_76 fl_Mo_28 ct_Mo fs_Mo_0 h4 rfl rfl (by decide) rfl rfl ?_
          rw [mW_0]
          refine go_aload_n hF d_Mo_hand_79 rfl ?_
          refine gs_geti hF hK d_Mo_hand_80 fl_Mo_28 h4 rfl rfl (by decide) rfl ?_
          refine go_if_le (tgt := 88) hF d_Mo_hand_83 (by decide) (fun h83 => ?_) (fun h83 => ?_)
          · rw [thr_v] at h83
            exact absurd h83 (by decide)
          · refine go_iconst (v := 0) hF d_Mo_hand_86 (by decide) ?_
            exact go_iret hF hM d_Mo_hand_87 (by decide) (by decide) (fun H hG => ⟨f, _, rfl, fun z => absurd (hTT.symm.trans z) (by decide), fun _ => rfl, by rw [hTT]; exact hG⟩)
      · refine go_lload_n hF d_Mo_hand_23 rfl ?_
        refine go_ldc2 hF kl_Mo_81 d_Mo_hand_24 ?_
        refine go_lif_gt (tgt := 35) hF d_Mo_hand_27 d_Mo_hand_28 (by decide) (fun h27 => ?_) (fun h27 => ?_)
        · refine go_iconst (v := 0) hF d_Mo_hand_35 (by decide) ?_
          refine go_istore hF d_Mo_hand_36 (by decide) ?_
          refine go_lv (lv' := [(0, _), (1, _), (2, _), (4, _), (5, _), (6, _)]) ⟨rfl, rfl, rfl, rfl, rfl, rfl, trivial⟩ ?_
          refine go_aload_n hF d_Mo_hand_38 rfl ?_
          refine go_aload_n hF d_Mo_hand_39 rfl ?_
          refine go_iload_n hF d_Mo_hand_40 rfl ?_
          refine go_callVX hF hE hlo d_Mo_hand_41 (con_Mo_isNet hlt h4 n) mt_Mo_isNet mv_Mo_isNet lk_Mo_70 ⟨rfl, rfl, by decide, by decide⟩ rfl (Nat.le_of_ble_eq_true rfl) ⟨by decide, by decide⟩ (fun H hG => gw_recv (q := (R_Mo, T_Mo, 9)) hK hG h4 rfl rfl (by decide) rfl) (fun M => gx_no) rfl (fun v => ?_)
          refine go_and (fun hv => ?_)
          subst hv
          refine go_if_ne (tgt := 51) hF d_Mo_hand_44 (by decide) (fun h44 => ?_) (fun h44 => ?_)
          · refine go_aload_n hF d_Mo_hand_51 rfl ?_
            refine gs_getr hF hK d_Mo_hand_52 fl_Mo_7 h4 rfl rfl (by decide) rfl ?_
            refine go_iconst (v := 4) hF d_Mo_hand_55 (by decide) ?_
            refine gs_md hF hK hT d_Mo_hand_56 h4 (show (4 : Int32) = nI 4 from rfl) (by decide) ?_
            refine go_bipush (v := 100) hF d_Mo_hand_57 (by decide) ?_
            refine go_icmp_ne (tgt := 66) hF d_Mo_hand_59 (by decide) (fun h59 => ?_) (fun h59 => ?_)
            · refine go_iload hF d_Mo_hand_66 rfl ?_
              refine go_if_ne (tgt := 75) hF d_Mo_hand_68 (by decide) (fun h68 => ?_) (fun h68 => ?_)
              · exact absurd rfl h68
              · refine go_iconst (v := 3) hF d_Mo_hand_71 (by decide) ?_
                refine go_goto (tgt := 76) hF d_Mo_hand_72 (by decide) ?_
                have hg := Rel_h hR
                have hTT : tH c n t xc = 3 := by
                  unfold tH
                  rw [ifC_t ((Rel_isN hR _).mp (bi_1 h44)), ← hR.2.1.2.2.2.2.1, ifC_t (show f 4 < 100 from (ct_ne (m := 100) hg (by decide)).mpr h59), ← hR.2.1.1, ← hxx]
                  exact ifC_f (fun z => Int64.lt_irrefl (Int64.lt_of_lt_of_le h27 z.2.2))
                refine gs_puti hF hK hlo d_Mo_hand_76 fl_Mo_28 ct_Mo fs_Mo_0 h4 rfl rfl (by decide) rfl rfl ?_
                rw [mW_0]
                refine go_aload_n hF d_Mo_hand_79 rfl ?_
                refine gs_geti hF hK d_Mo_hand_80 fl_Mo_28 h4 rfl rfl (by decide) rfl ?_
                refine go_if_le (tgt := 88) hF d_Mo_hand_83 (by decide) (fun h83 => ?_) (fun h83 => ?_)
                · rw [thr_v] at h83
                  exact absurd h83 (by decide)
                · refine go_iconst (v := 0) hF d_Mo_hand_86 (by decide) ?_
                  exact go_iret hF hM d_Mo_hand_87 (by decide) (by decide) (fun H hG => ⟨f, _, rfl, fun z => absurd (hTT.symm.trans z) (by decide), fun _ => rfl, by rw [hTT]; exact hG⟩)
            · refine go_iconst (v := 2) hF d_Mo_hand_62 (by decide) ?_
              refine go_goto (tgt := 76) hF d_Mo_hand_63 (by decide) ?_
              have hg := Rel_h hR
              have hTT : tH c n t xc = 2 := by
                unfold tH
                rw [ifC_t ((Rel_isN hR _).mp (bi_1 h44)), ← hR.2.1.2.2.2.2.1]
                exact ifC_f (fun z => (ct_ne (m := 100) hg (by decide)).mp z h59)
              refine gs_puti hF hK hlo d_Mo_hand_76 fl_Mo_28 ct_Mo fs_Mo_0 h4 rfl rfl (by decide) rfl rfl ?_
              rw [mW_0]
              refine go_aload_n hF d_Mo_hand_79 rfl ?_
              refine gs_geti hF hK d_Mo_hand_80 fl_Mo_28 h4 rfl rfl (by decide) rfl ?_
              refine go_if_le (tgt := 88) hF d_Mo_hand_83 (by decide) (fun h83 => ?_) (fun h83 => ?_)
              · rw [thr_v] at h83
                exact absurd h83 (by decide)
              · refine go_iconst (v := 0) hF d_Mo_hand_86 (by decide) ?_
                exact go_iret hF hM d_Mo_hand_87 (by decide) (by decide) (fun H hG => ⟨f, _, rfl, fun z => absurd (hTT.symm.trans z) (by decide), fun _ => rfl, by rw [hTT]; exact hG⟩)
          · refine go_iconst (v := 1) hF d_Mo_hand_47 (by decide) ?_
            refine go_goto (tgt := 76) hF d_Mo_hand_48 (by decide) ?_
            have hg := Rel_h hR
            have hTT : tH c n t xc = 1 := by
              unfold tH
              exact ifC_f (fun z => bi_0 h44 ((Rel_isN hR _).mpr z))
            refine gs_puti hF hK hlo d_Mo_hand_76 fl_Mo_28 ct_Mo fs_Mo_0 h4 rfl rfl (by decide) rfl rfl ?_
            rw [mW_0]
            refine go_aload_n hF d_Mo_hand_79 rfl ?_
            refine gs_geti hF hK d_Mo_hand_80 fl_Mo_28 h4 rfl rfl (by decide) rfl ?_
            refine go_if_le (tgt := 88) hF d_Mo_hand_83 (by decide) (fun h83 => ?_) (fun h83 => ?_)
            · rw [thr_v] at h83
              exact absurd h83 (by decide)
            · refine go_iconst (v := 0) hF d_Mo_hand_86 (by decide) ?_
              exact go_iret hF hM d_Mo_hand_87 (by decide) (by decide) (fun H hG => ⟨f, _, rfl, fun z => absurd (hTT.symm.trans z) (by decide), fun _ => rfl, by rw [hTT]; exact hG⟩)
        · refine go_iconst (v := 1) hF d_Mo_hand_31 (by decide) ?_
          refine go_goto (tgt := 36) hF d_Mo_hand_32 (by decide) ?_
          refine go_istore hF d_Mo_hand_36 (by decide) ?_
          refine go_lv (lv' := [(0, _), (1, _), (2, _), (4, _), (5, _), (6, _)]) ⟨rfl, rfl, rfl, rfl, rfl, rfl, trivial⟩ ?_
          refine go_aload_n hF d_Mo_hand_38 rfl ?_
          refine go_aload_n hF d_Mo_hand_39 rfl ?_
          refine go_iload_n hF d_Mo_hand_40 rfl ?_
          refine go_callVX hF hE hlo d_Mo_hand_41 (con_Mo_isNet hlt h4 n) mt_Mo_isNet mv_Mo_isNet lk_Mo_70 ⟨rfl, rfl, by decide, by decide⟩ rfl (Nat.le_of_ble_eq_true rfl) ⟨by decide, by decide⟩ (fun H hG => gw_recv (q := (R_Mo, T_Mo, 9)) hK hG h4 rfl rfl (by decide) rfl) (fun M => gx_no) rfl (fun v => ?_)
          refine go_and (fun hv => ?_)
          subst hv
          refine go_if_ne (tgt := 51) hF d_Mo_hand_44 (by decide) (fun h44 => ?_) (fun h44 => ?_)
          · refine go_aload_n hF d_Mo_hand_51 rfl ?_
            refine gs_getr hF hK d_Mo_hand_52 fl_Mo_7 h4 rfl rfl (by decide) rfl ?_
            refine go_iconst (v := 4) hF d_Mo_hand_55 (by decide) ?_
            refine gs_md hF hK hT d_Mo_hand_56 h4 (show (4 : Int32) = nI 4 from rfl) (by decide) ?_
            refine go_bipush (v := 100) hF d_Mo_hand_57 (by decide) ?_
            refine go_icmp_ne (tgt := 66) hF d_Mo_hand_59 (by decide) (fun h59 => ?_) (fun h59 => ?_)
            · refine go_iload hF d_Mo_hand_66 rfl ?_
              refine go_if_ne (tgt := 75) hF d_Mo_hand_68 (by decide) (fun h68 => ?_) (fun h68 => ?_)
              · refine go_iconst (v := 0) hF d_Mo_hand_75 (by decide) ?_
                have hg := Rel_h hR
                have hTT : tH c n t xc = 0 := by
                  unfold tH
                  rw [ifC_t ((Rel_isN hR _).mp (bi_1 h44)), ← hR.2.1.2.2.2.2.1, ifC_t (show f 4 < 100 from (ct_ne (m := 100) hg (by decide)).mpr h59), ← hR.2.1.1, ← hxx]
                  exact ifC_t ⟨⟨not_lt h2, not_lt h8⟩, ⟨nlt64 h19, nlt64 h27⟩⟩
                refine gs_puti hF hK hlo d_Mo_hand_76 fl_Mo_28 ct_Mo fs_Mo_0 h4 rfl rfl (by decide) rfl rfl ?_
                rw [mW_0]
                refine go_aload_n hF d_Mo_hand_79 rfl ?_
                refine gs_geti hF hK d_Mo_hand_80 fl_Mo_28 h4 rfl rfl (by decide) rfl ?_
                refine go_if_le (tgt := 88) hF d_Mo_hand_83 (by decide) (fun h83 => ?_) (fun h83 => ?_)
                · have nn := (Rel_isN hR _).mp (bi_1 h44)
                  have h100 : cH c 0 < 100 := by
                    have q := (ct_ne (m := 100) hg (by decide)).mpr h59
                    rw [hg.1] at q
                    exact (nI_ltI (b := 100) (by omega) (by decide)).mp q
                  have q1 := nlt64 h19
                  have q2 := nlt64 h27
                  rw [Int64.le_iff_toInt_le, x64] at q1
                  rw [Int64.le_iff_toInt_le, i9] at q2
                  obtain ⟨d1, d2⟩ := dn_up (y := t) (by have := hR.2.1.2.2.2.2.2.2.2.1.1; omega) q2
                  have hTl := Rel_tell (act := a) (n := n) (v := xc) (v' := x) (t := t.toInt32) hR h100 (isN_vn hR.1 nn) (isN_lt hR.1 nn) ⟨by omega, by omega⟩ ha (rg03 (hxx.mp ⟨not_lt h2, not_lt h8⟩)) hvv hKK
                  rw [d1] at hTl
                  refine go_aload_n hF d_Mo_hand_88 rfl ?_
                  refine go_iload_n hF d_Mo_hand_89 rfl ?_
                  refine go_lload_n hF d_Mo_hand_90 rfl ?_
                  refine go_l2i hF d_Mo_hand_91 ?_
                  refine go_iload hF d_Mo_hand_92 rfl ?_
                  refine go_iload hF d_Mo_hand_94 rfl ?_
                  refine go_callVX hF hE hlo d_Mo_hand_96 (con_Mo_tell hlt h4 hg.1 h100) mt_Mo_tell mv_Mo_tell lk_Mo_83 ⟨rfl, rfl, by decide, by decide⟩ rfl (Nat.le_of_ble_eq_true rfl) ⟨by decide, by decide⟩ (fun H hG => gw_recv (q := (R_Mo, T_Mo, 9)) hK hG h4 rfl rfl (by decide) rfl) (fun M => gx_no) rfl (fun v => ?_)
                  refine go_and (fun hv => ?_)
                  subst hv
                  refine go_aload_n hF d_Mo_hand_99 rfl ?_
                  refine gs_getr hF hK d_Mo_hand_100 fl_Mo_7 h4 rfl rfl (by decide) rfl ?_
                  refine go_iconst (v := 4) hF d_Mo_hand_103 (by decide) ?_
                  refine gs_md hF hK hT d_Mo_hand_104 h4 (show (4 : Int32) = nI 4 from rfl) (by decide) ?_
                  exact go_iret hF hM d_Mo_hand_105 (by decide) (by decide) (fun H hG => ⟨_, _, rfl, fun _ => ⟨by
                    rw [fu_n (by omega), fu_n (by omega), fu_n (by omega), fu_n (by omega), fu_n (by omega), fu_n (by omega), fu_s, ← nI_1, ← hg.1, hR.2.1.2.2.2.2.1], hTl⟩, fun z => absurd hTT z, by rw [hTT]; exact hG⟩)
                · rw [thr_v] at h83
                  exact absurd (by decide) h83
              · exact absurd h68 (by decide)
            · refine go_iconst (v := 2) hF d_Mo_hand_62 (by decide) ?_
              refine go_goto (tgt := 76) hF d_Mo_hand_63 (by decide) ?_
              have hg := Rel_h hR
              have hTT : tH c n t xc = 2 := by
                unfold tH
                rw [ifC_t ((Rel_isN hR _).mp (bi_1 h44)), ← hR.2.1.2.2.2.2.1]
                exact ifC_f (fun z => (ct_ne (m := 100) hg (by decide)).mp z h59)
              refine gs_puti hF hK hlo d_Mo_hand_76 fl_Mo_28 ct_Mo fs_Mo_0 h4 rfl rfl (by decide) rfl rfl ?_
              rw [mW_0]
              refine go_aload_n hF d_Mo_hand_79 rfl ?_
              refine gs_geti hF hK d_Mo_hand_80 fl_Mo_28 h4 rfl rfl (by decide) rfl ?_
              refine go_if_le (tgt := 88) hF d_Mo_hand_83 (by decide) (fun h83 => ?_) (fun h83 => ?_)
              · rw [thr_v] at h83
                exact absurd h83 (by decide)
              · refine go_iconst (v := 0) hF d_Mo_hand_86 (by decide) ?_
                exact go_iret hF hM d_Mo_hand_87 (by decide) (by decide) (fun H hG => ⟨f, _, rfl, fun z => absurd (hTT.symm.trans z) (by decide), fun _ => rfl, by rw [hTT]; exact hG⟩)
          · refine go_iconst (v := 1) hF d_Mo_hand_47 (by decide) ?_
            refine go_goto (tgt := 76) hF d_Mo_hand_48 (by decide) ?_
            have hg := Rel_h hR
            have hTT : tH c n t xc = 1 := by
              unfold tH
              exact ifC_f (fun z => bi_0 h44 ((Rel_isN hR _).mpr z))
            refine gs_puti hF hK hlo d_Mo_hand_76 fl_Mo_28 ct_Mo fs_Mo_0 h4 rfl rfl (by decide) rfl rfl ?_
            rw [mW_0]
            refine go_aload_n hF d_Mo_hand_79 rfl ?_
            refine gs_geti hF hK d_Mo_hand_80 fl_Mo_28 h4 rfl rfl (by decide) rfl ?_
            refine go_if_le (tgt := 88) hF d_Mo_hand_83 (by decide) (fun h83 => ?_) (fun h83 => ?_)
            · rw [thr_v] at h83
              exact absurd h83 (by decide)
            · refine go_iconst (v := 0) hF d_Mo_hand_86 (by decide) ?_
              exact go_iret hF hM d_Mo_hand_87 (by decide) (by decide) (fun H hG => ⟨f, _, rfl, fun z => absurd (hTT.symm.trans z) (by decide), fun _ => rfl, by rw [hTT]; exact hG⟩)
set_option maxHeartbeats 4000000 in
set_option maxRecDepth 100000 in
theorem con_Mo_drive {l : Launch} (hlt : l.stackTraces = false) {E : gE} {B : bsT} {N : nwT} {w : wdT} {f : Nat → Int32} (h4 : N.1 4 0 = true) {K : Nat} {c : wdT} {n : Int32} {t : Int64} {x : Int32} (hKK : K < 1000000000) (hR : Rel K c 0 f) : Con l E y_Mo_drive (Cond.code y_Mo_drive c_Mo_drive 5 (some .int) :: gAll) rm_Mo_drive [.ref (ad B 4 0 0 0), .int n, .long t, .int x] (gw E B N (mW w f)) (fun v H => ∃ f2 b, v = some (.int b) ∧ (tH c n t x = 0 → b = wI c 0 0 4 0 0 + 1 ∧ Rel (K + 1) (apX c 0 n t x) 0 f2) ∧ (¬ tH c n t x = 0 → f2 = f) ∧ gw E B N (mW (sI w 4 0 0 0 0 (tH c n t x)) f2) H) (fun _ _ => False) 0 0 := by
  refine con_of (by decide) hlt (Nat.le_of_ble_eq_true rfl) ?_
  intro F hF hM htab hnm hE hlo hl
  subst hl
  have hF : Fb F c_Mo_drive R_Mo 5 rm_Mo_drive := hF
  have hK := hE.1
  have hT := hE.2.1
  refine go_lv (lv' := [(0, _), (1, _), (2, _), (4, _)]) ⟨rfl, rfl, rfl, rfl, trivial⟩ ?_
  refine go_aload_n hF d_Mo_drive_0 rfl ?_
  refine go_iload_n hF d_Mo_drive_1 rfl ?_
  refine go_lload_n hF d_Mo_drive_2 rfl ?_
  refine go_iconst (v := 0) hF d_Mo_drive_3 (by decide) ?_
  refine go_iload hF d_Mo_drive_4 rfl ?_
  refine go_callVX hF hE hlo d_Mo_drive_6 (con_Mo_hand (xc := x) hlt h4 hKK Iff.rfl (fun _ => rfl) ⟨by decide, by decide⟩ hR) mt_Mo_hand mv_Mo_hand lk_Mo_87 ⟨rfl, rfl, by decide, by decide⟩ rfl (Nat.le_of_ble_eq_true rfl) ⟨by decide, by decide⟩ (fun H hG => gw_recv (q := (R_Mo, T_Mo, 9)) hK hG h4 rfl rfl (by decide) rfl) (fun M => gx_no) rfl (fun v => ?_)
  refine go_ex (fun f2 => ?_)
  refine go_ex (fun b9 => ?_)
  refine go_and (fun hv => ?_)
  subst hv
  refine go_and (fun g1 => ?_)
  refine go_and (fun g2 => ?_)
  exact go_iret hF hM d_Mo_drive_9 (by decide) (by decide) (fun H hG => ⟨f2, b9, rfl, g1, g2, hG⟩)
set_option maxHeartbeats 4000000 in
set_option maxRecDepth 100000 in
theorem con_Mo_force {l : Launch} (hlt : l.stackTraces = false) {E : gE} {B : bsT} {N : nwT} {w : wdT} {f : Nat → Int32} (h4 : N.1 4 0 = true) {K : Nat} {c : wdT} {n : Int32} {t : Int64} {x : Int32} (hKK : K < 1000000000) (hR : Rel K c 0 f) : Con l E y_Mo_force (Cond.code y_Mo_force c_Mo_force 5 (some .int) :: gAll) rm_Mo_force [.ref (ad B 4 0 0 0), .int n, .long t, .int x] (gw E B N (mW w f)) (fun v H => ∃ f2 b, v = some (.int b) ∧ (tH c n t x = 0 → b = wI c 0 0 4 0 0 + 1 ∧ Rel (K + 1) (apX c 1 n t x) 0 f2) ∧ (¬ tH c n t x = 0 → f2 = f) ∧ gw E B N (mW (sI w 4 0 0 0 0 (tH c n t x)) f2) H) (fun _ _ => False) 0 0 := by
  refine con_of (by decide) hlt (Nat.le_of_ble_eq_true rfl) ?_
  intro F hF hM htab hnm hE hlo hl
  subst hl
  have hF : Fb F c_Mo_force R_Mo 5 rm_Mo_force := hF
  have hK := hE.1
  have hT := hE.2.1
  refine go_lv (lv' := [(0, _), (1, _), (2, _), (4, _)]) ⟨rfl, rfl, rfl, rfl, trivial⟩ ?_
  refine go_aload_n hF d_Mo_force_0 rfl ?_
  refine go_iload_n hF d_Mo_force_1 rfl ?_
  refine go_lload_n hF d_Mo_force_2 rfl ?_
  refine go_iconst (v := 1) hF d_Mo_force_3 (by decide) ?_
  refine go_iload hF d_Mo_force_4 rfl ?_
  refine go_callVX hF hE hlo d_Mo_force_6 (con_Mo_hand (xc := x) hlt h4 hKK Iff.rfl (fun _ => rfl) ⟨by decide, by decide⟩ hR) mt_Mo_hand mv_Mo_hand lk_Mo_87 ⟨rfl, rfl, by decide, by decide⟩ rfl (Nat.le_of_ble_eq_true rfl) ⟨by decide, by decide⟩ (fun H hG => gw_recv (q := (R_Mo, T_Mo, 9)) hK hG h4 rfl rfl (by decide) rfl) (fun M => gx_no) rfl (fun v => ?_)
  refine go_ex (fun f2 => ?_)
  refine go_ex (fun b9 => ?_)
  refine go_and (fun hv => ?_)
  subst hv
  refine go_and (fun g1 => ?_)
  refine go_and (fun g2 => ?_)
  exact go_iret hF hM d_Mo_force_9 (by decide) (by decide) (fun H hG => ⟨f2, b9, rfl, g1, g2, hG⟩)
set_option maxHeartbeats 4000000 in
set_option maxRecDepth 100000 in
theorem con_Mo_release {l : Launch} (hlt : l.stackTraces = false) {E : gE} {B : bsT} {N : nwT} {w : wdT} {f : Nat → Int32} (h4 : N.1 4 0 = true) {K : Nat} {c : wdT} {n : Int32} {t : Int64} (hKK : K < 1000000000) (hR : Rel K c 0 f) : Con l E y_Mo_release (Cond.code y_Mo_release c_Mo_release 4 (some .int) :: gAll) rm_Mo_release [.ref (ad B 4 0 0 0), .int n, .long t] (gw E B N (mW w f)) (fun v H => ∃ f2 b, v = some (.int b) ∧ (tH c n t 3 = 0 → b = wI c 0 0 4 0 0 + 1 ∧ Rel (K + 1) (apX c 2 n t 3) 0 f2) ∧ (¬ tH c n t 3 = 0 → f2 = f) ∧ gw E B N (mW (sI w 4 0 0 0 0 (tH c n t 3)) f2) H) (fun _ _ => False) 0 0 := by
  refine con_of (by decide) hlt (Nat.le_of_ble_eq_true rfl) ?_
  intro F hF hM htab hnm hE hlo hl
  subst hl
  have hF : Fb F c_Mo_release R_Mo 4 rm_Mo_release := hF
  have hK := hE.1
  have hT := hE.2.1
  refine go_lv (lv' := [(0, _), (1, _), (2, _)]) ⟨rfl, rfl, rfl, trivial⟩ ?_
  refine go_aload_n hF d_Mo_release_0 rfl ?_
  refine go_iload_n hF d_Mo_release_1 rfl ?_
  refine go_lload_n hF d_Mo_release_2 rfl ?_
  refine go_iconst (v := 2) hF d_Mo_release_3 (by decide) ?_
  refine go_iconst (v := 0) hF d_Mo_release_4 (by decide) ?_
  refine go_callVX hF hE hlo d_Mo_release_5 (con_Mo_hand (xc := 3) hlt h4 hKK (by decide) (fun z => absurd rfl z) ⟨by decide, by decide⟩ hR) mt_Mo_hand mv_Mo_hand lk_Mo_87 ⟨rfl, rfl, by decide, by decide⟩ rfl (Nat.le_of_ble_eq_true rfl) ⟨by decide, by decide⟩ (fun H hG => gw_recv (q := (R_Mo, T_Mo, 9)) hK hG h4 rfl rfl (by decide) rfl) (fun M => gx_no) rfl (fun v => ?_)
  refine go_ex (fun f2 => ?_)
  refine go_ex (fun b9 => ?_)
  refine go_and (fun hv => ?_)
  subst hv
  refine go_and (fun g1 => ?_)
  refine go_and (fun g2 => ?_)
  exact go_iret hF hM d_Mo_release_8 (by decide) (by decide) (fun H hG => ⟨f2, b9, rfl, g1, g2, hG⟩)
set_option maxHeartbeats 4000000 in
set_option maxRecDepth 100000 in
theorem con_Mo_check {l : Launch} (hlt : l.stackTraces = false) {E : gE} {B : bsT} {N : nwT} {w : wdT} {f : Nat → Int32} (h4 : N.1 4 0 = true) {K : Nat} {c : wdT} {kd ck dt lm : Int32} (hR : Rel K c 0 f) : Con l E y_Mo_check (Cond.code y_Mo_check c_Mo_check 7 (some .int) :: gAll) rm_Mo_check [.ref (ad B 4 0 0 0), .int kd, .int ck, .int dt, .int lm] (gw E B N (mW w f)) (fun v H => ∃ f2 b, v = some (.int b) ∧ (tC c kd ck dt lm = 0 → b = wI c 0 0 0 6 0 ∧ Rel K (acX c kd ck dt lm) 0 f2) ∧ (¬ tC c kd ck dt lm = 0 → f2 = f) ∧ gw E B N (mW (sI w 4 0 0 0 0 (tC c kd ck dt lm)) f2) H) (fun _ _ => False) 0 0 := by
  refine con_of (by decide) hlt (Nat.le_of_ble_eq_true rfl) ?_
  intro F hF hM htab hnm hE hlo hl
  subst hl
  have hF : Fb F c_Mo_check R_Mo 7 rm_Mo_check := hF
  have hK := hE.1
  have hT := hE.2.1
  refine go_lv (lv' := [(0, _), (1, _), (2, _), (3, _), (4, _)]) ⟨rfl, rfl, rfl, rfl, rfl, trivial⟩ ?_
  refine go_iload_n hF d_Mo_check_0 rfl ?_
  refine go_if_eq (tgt := 9) hF d_Mo_check_1 (by decide) (fun h1 => ?_) (fun h1 => ?_)
  · refine go_iload hF d_Mo_check_9 rfl ?_
    refine go_if_lt (tgt := 26) hF d_Mo_check_11 (by decide) (fun h11 => ?_) (fun h11 => ?_)
    · refine go_iconst (v := 0) hF d_Mo_check_26 (by decide) ?_
      refine go_istore hF d_Mo_check_27 (by decide) ?_
      refine go_lv (lv' := [(0, _), (1, _), (2, _), (3, _), (4, _), (5, _)]) ⟨rfl, rfl, rfl, rfl, rfl, rfl, trivial⟩ ?_
      refine go_aload_n hF d_Mo_check_29 rfl ?_
      refine go_aload_n hF d_Mo_check_30 rfl ?_
      refine go_iload_n hF d_Mo_check_31 rfl ?_
      refine go_callVX hF hE hlo d_Mo_check_32 (con_Mo_isNet hlt h4 ck) mt_Mo_isNet mv_Mo_isNet lk_Mo_70 ⟨rfl, rfl, by decide, by decide⟩ rfl (Nat.le_of_ble_eq_true rfl) ⟨by decide, by decide⟩ (fun H hG => gw_recv (q := (R_Mo, T_Mo, 9)) hK hG h4 rfl rfl (by decide) rfl) (fun M => gx_no) rfl (fun v => ?_)
      refine go_and (fun hv => ?_)
      subst hv
      refine go_if_eq (tgt := 46) hF d_Mo_check_35 (by decide) (fun h35 => ?_) (fun h35 => ?_)
      · refine go_iconst (v := 1) hF d_Mo_check_46 (by decide) ?_
        refine go_goto (tgt := 75) hF d_Mo_check_47 (by decide) ?_
        have hg := Rel_k hR
        have hTT : tC c kd ck dt lm = 1 := by
          unfold tC
          exact ifC_f (fun z => bi_0 h35 ((Rel_isN hR _).mpr z.1))
        refine gs_puti hF hK hlo d_Mo_check_75 fl_Mo_28 ct_Mo fs_Mo_0 h4 rfl rfl (by decide) rfl rfl ?_
        rw [mW_0]
        refine go_aload_n hF d_Mo_check_78 rfl ?_
        refine gs_geti hF hK d_Mo_check_79 fl_Mo_28 h4 rfl rfl (by decide) rfl ?_
        refine go_if_le (tgt := 87) hF d_Mo_check_82 (by decide) (fun h82 => ?_) (fun h82 => ?_)
        · rw [thr_v] at h82
          exact absurd h82 (by decide)
        · refine go_iconst (v := 0) hF d_Mo_check_85 (by decide) ?_
          exact go_iret hF hM d_Mo_check_86 (by decide) (by decide) (fun H hG => ⟨f, _, rfl, fun z => absurd (hTT.symm.trans z) (by decide), fun _ => rfl, by rw [hTT]; exact hG⟩)
      · refine go_aload_n hF d_Mo_check_38 rfl ?_
        refine go_iload_n hF d_Mo_check_39 rfl ?_
        refine go_callVX hF hE hlo d_Mo_check_40 (con_Mo_isNet hlt h4 dt) mt_Mo_isNet mv_Mo_isNet lk_Mo_70 ⟨rfl, rfl, by decide, by decide⟩ rfl (Nat.le_of_ble_eq_true rfl) ⟨by decide, by decide⟩ (fun H hG => gw_recv (q := (R_Mo, T_Mo, 9)) hK hG h4 rfl rfl (by decide) rfl) (fun M => gx_no) rfl (fun v => ?_)
        refine go_and (fun hv => ?_)
        subst hv
        refine go_if_ne (tgt := 50) hF d_Mo_check_43 (by decide) (fun h43 => ?_) (fun h43 => ?_)
        · refine go_aload_n hF d_Mo_check_50 rfl ?_
          refine gs_getr hF hK d_Mo_check_51 fl_Mo_7 h4 rfl rfl (by decide) rfl ?_
          refine go_iconst (v := 5) hF d_Mo_check_54 (by decide) ?_
          refine gs_md hF hK hT d_Mo_check_55 h4 (show (5 : Int32) = nI 5 from rfl) (by decide) ?_
          refine go_bipush (v := 20) hF d_Mo_check_56 (by decide) ?_
          refine go_icmp_ne (tgt := 65) hF d_Mo_check_58 (by decide) (fun h58 => ?_) (fun h58 => ?_)
          · refine go_iload hF d_Mo_check_65 rfl ?_
            refine go_if_ne (tgt := 74) hF d_Mo_check_67 (by decide) (fun h67 => ?_) (fun h67 => ?_)
            · exact absurd rfl h67
            · refine go_iconst (v := 3) hF d_Mo_check_70 (by decide) ?_
              refine go_goto (tgt := 75) hF d_Mo_check_71 (by decide) ?_
              have hg := Rel_k hR
              have hTT : tC c kd ck dt lm = 3 := by
                unfold tC
                rw [ifC_t ⟨(Rel_isN hR _).mp (bi_1 h35), (Rel_isN hR _).mp (bi_1 h43)⟩, ← hR.2.1.2.2.2.2.2.1, ifC_t (show f 5 < 20 from (ct_ne (m := 20) hg (by decide)).mpr h58)]
                exact ifC_f (fun z => Int32.lt_irrefl (Int32.lt_of_lt_of_le h11 z.2.1))
              refine gs_puti hF hK hlo d_Mo_check_75 fl_Mo_28 ct_Mo fs_Mo_0 h4 rfl rfl (by decide) rfl rfl ?_
              rw [mW_0]
              refine go_aload_n hF d_Mo_check_78 rfl ?_
              refine gs_geti hF hK d_Mo_check_79 fl_Mo_28 h4 rfl rfl (by decide) rfl ?_
              refine go_if_le (tgt := 87) hF d_Mo_check_82 (by decide) (fun h82 => ?_) (fun h82 => ?_)
              · rw [thr_v] at h82
                exact absurd h82 (by decide)
              · refine go_iconst (v := 0) hF d_Mo_check_85 (by decide) ?_
                exact go_iret hF hM d_Mo_check_86 (by decide) (by decide) (fun H hG => ⟨f, _, rfl, fun z => absurd (hTT.symm.trans z) (by decide), fun _ => rfl, by rw [hTT]; exact hG⟩)
          · refine go_iconst (v := 2) hF d_Mo_check_61 (by decide) ?_
            refine go_goto (tgt := 75) hF d_Mo_check_62 (by decide) ?_
            have hg := Rel_k hR
            have hTT : tC c kd ck dt lm = 2 := by
              unfold tC
              rw [ifC_t ⟨(Rel_isN hR _).mp (bi_1 h35), (Rel_isN hR _).mp (bi_1 h43)⟩, ← hR.2.1.2.2.2.2.2.1]
              exact ifC_f (fun z => (ct_ne (m := 20) hg (by decide)).mp z h58)
            refine gs_puti hF hK hlo d_Mo_check_75 fl_Mo_28 ct_Mo fs_Mo_0 h4 rfl rfl (by decide) rfl rfl ?_
            rw [mW_0]
            refine go_aload_n hF d_Mo_check_78 rfl ?_
            refine gs_geti hF hK d_Mo_check_79 fl_Mo_28 h4 rfl rfl (by decide) rfl ?_
            refine go_if_le (tgt := 87) hF d_Mo_check_82 (by decide) (fun h82 => ?_) (fun h82 => ?_)
            · rw [thr_v] at h82
              exact absurd h82 (by decide)
            · refine go_iconst (v := 0) hF d_Mo_check_85 (by decide) ?_
              exact go_iret hF hM d_Mo_check_86 (by decide) (by decide) (fun H hG => ⟨f, _, rfl, fun z => absurd (hTT.symm.trans z) (by decide), fun _ => rfl, by rw [hTT]; exact hG⟩)
        · refine go_iconst (v := 1) hF d_Mo_check_46 (by decide) ?_
          refine go_goto (tgt := 75) hF d_Mo_check_47 (by decide) ?_
          have hg := Rel_k hR
          have hTT : tC c kd ck dt lm = 1 := by
            unfold tC
            exact ifC_f (fun z => bi_0 h43 ((Rel_isN hR _).mpr z.2))
          refine gs_puti hF hK hlo d_Mo_check_75 fl_Mo_28 ct_Mo fs_Mo_0 h4 rfl rfl (by decide) rfl rfl ?_
          rw [mW_0]
          refine go_aload_n hF d_Mo_check_78 rfl ?_
          refine gs_geti hF hK d_Mo_check_79 fl_Mo_28 h4 rfl rfl (by decide) rfl ?_
          refine go_if_le (tgt := 87) hF d_Mo_check_82 (by decide) (fun h82 => ?_) (fun h82 => ?_)
          · rw [thr_v] at h82
            exact absurd h82 (by decide)
          · refine go_iconst (v := 0) hF d_Mo_check_85 (by decide) ?_
            exact go_iret hF hM d_Mo_check_86 (by decide) (by decide) (fun H hG => ⟨f, _, rfl, fun z => absurd (hTT.symm.trans z) (by decide), fun _ => rfl, by rw [hTT]; exact hG⟩)
    · refine go_iload hF d_Mo_check_14 rfl ?_
      refine go_sipush (v := 1000) hF d_Mo_check_16 (by decide) ?_
      refine go_icmp_gt (tgt := 26) hF d_Mo_check_19 (by decide) (fun h19 => ?_) (fun h19 => ?_)
      · refine go_iconst (v := 0) hF d_Mo_check_26 (by decide) ?_
        refine go_istore hF d_Mo_check_27 (by decide) ?_
        refine go_lv (lv' := [(0, _), (1, _), (2, _), (3, _), (4, _), (5, _)]) ⟨rfl, rfl, rfl, rfl, rfl, rfl, trivial⟩ ?_
        refine go_aload_n hF d_Mo_check_29 rfl ?_
        refine go_aload_n hF d_Mo_check_30 rfl ?_
        refine go_iload_n hF d_Mo_check_31 rfl ?_
        refine go_callVX hF hE hlo d_Mo_check_32 (con_Mo_isNet hlt h4 ck) mt_Mo_isNet mv_Mo_isNet lk_Mo_70 ⟨rfl, rfl, by decide, by decide⟩ rfl (Nat.le_of_ble_eq_true rfl) ⟨by decide, by decide⟩ (fun H hG => gw_recv (q := (R_Mo, T_Mo, 9)) hK hG h4 rfl rfl (by decide) rfl) (fun M => gx_no) rfl (fun v => ?_)
        refine go_and (fun hv => ?_)
        subst hv
        refine go_if_eq (tgt := 46) hF d_Mo_check_35 (by decide) (fun h35 => ?_) (fun h35 => ?_)
        · refine go_iconst (v := 1) hF d_Mo_check_46 (by decide) ?_
          refine go_goto (tgt := 75) hF d_Mo_check_47 (by decide) ?_
          have hg := Rel_k hR
          have hTT : tC c kd ck dt lm = 1 := by
            unfold tC
            exact ifC_f (fun z => bi_0 h35 ((Rel_isN hR _).mpr z.1))
          refine gs_puti hF hK hlo d_Mo_check_75 fl_Mo_28 ct_Mo fs_Mo_0 h4 rfl rfl (by decide) rfl rfl ?_
          rw [mW_0]
          refine go_aload_n hF d_Mo_check_78 rfl ?_
          refine gs_geti hF hK d_Mo_check_79 fl_Mo_28 h4 rfl rfl (by decide) rfl ?_
          refine go_if_le (tgt := 87) hF d_Mo_check_82 (by decide) (fun h82 => ?_) (fun h82 => ?_)
          · rw [thr_v] at h82
            exact absurd h82 (by decide)
          · refine go_iconst (v := 0) hF d_Mo_check_85 (by decide) ?_
            exact go_iret hF hM d_Mo_check_86 (by decide) (by decide) (fun H hG => ⟨f, _, rfl, fun z => absurd (hTT.symm.trans z) (by decide), fun _ => rfl, by rw [hTT]; exact hG⟩)
        · refine go_aload_n hF d_Mo_check_38 rfl ?_
          refine go_iload_n hF d_Mo_check_39 rfl ?_
          refine go_callVX hF hE hlo d_Mo_check_40 (con_Mo_isNet hlt h4 dt) mt_Mo_isNet mv_Mo_isNet lk_Mo_70 ⟨rfl, rfl, by decide, by decide⟩ rfl (Nat.le_of_ble_eq_true rfl) ⟨by decide, by decide⟩ (fun H hG => gw_recv (q := (R_Mo, T_Mo, 9)) hK hG h4 rfl rfl (by decide) rfl) (fun M => gx_no) rfl (fun v => ?_)
          refine go_and (fun hv => ?_)
          subst hv
          refine go_if_ne (tgt := 50) hF d_Mo_check_43 (by decide) (fun h43 => ?_) (fun h43 => ?_)
          · refine go_aload_n hF d_Mo_check_50 rfl ?_
            refine gs_getr hF hK d_Mo_check_51 fl_Mo_7 h4 rfl rfl (by decide) rfl ?_
            refine go_iconst (v := 5) hF d_Mo_check_54 (by decide) ?_
            refine gs_md hF hK hT d_Mo_check_55 h4 (show (5 : Int32) = nI 5 from rfl) (by decide) ?_
            refine go_bipush (v := 20) hF d_Mo_check_56 (by decide) ?_
            refine go_icmp_ne (tgt := 65) hF d_Mo_check_58 (by decide) (fun h58 => ?_) (fun h58 => ?_)
            · refine go_iload hF d_Mo_check_65 rfl ?_
              refine go_if_ne (tgt := 74) hF d_Mo_check_67 (by decide) (fun h67 => ?_) (fun h67 => ?_)
              · exact absurd rfl h67
              · refine go_iconst (v := 3) hF d_Mo_check_70 (by decide) ?_
                refine go_goto (tgt := 75) hF d_Mo_check_71 (by decide) ?_
                have hg := Rel_k hR
                have hTT : tC c kd ck dt lm = 3 := by
                  unfold tC
                  rw [ifC_t ⟨(Rel_isN hR _).mp (bi_1 h35), (Rel_isN hR _).mp (bi_1 h43)⟩, ← hR.2.1.2.2.2.2.2.1, ifC_t (show f 5 < 20 from (ct_ne (m := 20) hg (by decide)).mpr h58)]
                  exact ifC_f (fun z => Int32.lt_irrefl (Int32.lt_of_lt_of_le h19 z.2.2))
                refine gs_puti hF hK hlo d_Mo_check_75 fl_Mo_28 ct_Mo fs_Mo_0 h4 rfl rfl (by decide) rfl rfl ?_
                rw [mW_0]
                refine go_aload_n hF d_Mo_check_78 rfl ?_
                refine gs_geti hF hK d_Mo_check_79 fl_Mo_28 h4 rfl rfl (by decide) rfl ?_
                refine go_if_le (tgt := 87) hF d_Mo_check_82 (by decide) (fun h82 => ?_) (fun h82 => ?_)
                · rw [thr_v] at h82
                  exact absurd h82 (by decide)
                · refine go_iconst (v := 0) hF d_Mo_check_85 (by decide) ?_
                  exact go_iret hF hM d_Mo_check_86 (by decide) (by decide) (fun H hG => ⟨f, _, rfl, fun z => absurd (hTT.symm.trans z) (by decide), fun _ => rfl, by rw [hTT]; exact hG⟩)
            · refine go_iconst (v := 2) hF d_Mo_check_61 (by decide) ?_
              refine go_goto (tgt := 75) hF d_Mo_check_62 (by decide) ?_
              have hg := Rel_k hR
              have hTT : tC c kd ck dt lm = 2 := by
                unfold tC
                rw [ifC_t ⟨(Rel_isN hR _).mp (bi_1 h35), (Rel_isN hR _).mp (bi_1 h43)⟩, ← hR.2.1.2.2.2.2.2.1]
                exact ifC_f (fun z => (ct_ne (m := 20) hg (by decide)).mp z h58)
              refine gs_puti hF hK hlo d_Mo_check_75 fl_Mo_28 ct_Mo fs_Mo_0 h4 rfl rfl (by decide) rfl rfl ?_
              rw [mW_0]
              refine go_aload_n hF d_Mo_check_78 rfl ?_
              refine gs_geti hF hK d_Mo_check_79 fl_Mo_28 h4 rfl rfl (by decide) rfl ?_
              refine go_if_le (tgt := 87) hF d_Mo_check_82 (by decide) (fun h82 => ?_) (fun h82 => ?_)
              · rw [thr_v] at h82
                exact absurd h82 (by decide)
              · refine go_iconst (v := 0) hF d_Mo_check_85 (by decide) ?_
                exact go_iret hF hM d_Mo_check_86 (by decide) (by decide) (fun H hG => ⟨f, _, rfl, fun z => absurd (hTT.symm.trans z) (by decide), fun _ => rfl, by rw [hTT]; exact hG⟩)
          · refine go_iconst (v := 1) hF d_Mo_check_46 (by decide) ?_
            refine go_goto (tgt := 75) hF d_Mo_check_47 (by decide) ?_
            have hg := Rel_k hR
            have hTT : tC c kd ck dt lm = 1 := by
              unfold tC
              exact ifC_f (fun z => bi_0 h43 ((Rel_isN hR _).mpr z.2))
            refine gs_puti hF hK hlo d_Mo_check_75 fl_Mo_28 ct_Mo fs_Mo_0 h4 rfl rfl (by decide) rfl rfl ?_
            rw [mW_0]
            refine go_aload_n hF d_Mo_check_78 rfl ?_
            refine gs_geti hF hK d_Mo_check_79 fl_Mo_28 h4 rfl rfl (by decide) rfl ?_
            refine go_if_le (tgt := 87) hF d_Mo_check_82 (by decide) (fun h82 => ?_) (fun h82 => ?_)
            · rw [thr_v] at h82
              exact absurd h82 (by decide)
            · refine go_iconst (v := 0) hF d_Mo_check_85 (by decide) ?_
              exact go_iret hF hM d_Mo_check_86 (by decide) (by decide) (fun H hG => ⟨f, _, rfl, fun z => absurd (hTT.symm.trans z) (by decide), fun _ => rfl, by rw [hTT]; exact hG⟩)
      · refine go_iconst (v := 1) hF d_Mo_check_22 (by decide) ?_
        refine go_goto (tgt := 27) hF d_Mo_check_23 (by decide) ?_
        refine go_istore hF d_Mo_check_27 (by decide) ?_
        refine go_lv (lv' := [(0, _), (1, _), (2, _), (3, _), (4, _), (5, _)]) ⟨rfl, rfl, rfl, rfl, rfl, rfl, trivial⟩ ?_
        refine go_aload_n hF d_Mo_check_29 rfl ?_
        refine go_aload_n hF d_Mo_check_30 rfl ?_
        refine go_iload_n hF d_Mo_check_31 rfl ?_
        refine go_callVX hF hE hlo d_Mo_check_32 (con_Mo_isNet hlt h4 ck) mt_Mo_isNet mv_Mo_isNet lk_Mo_70 ⟨rfl, rfl, by decide, by decide⟩ rfl (Nat.le_of_ble_eq_true rfl) ⟨by decide, by decide⟩ (fun H hG => gw_recv (q := (R_Mo, T_Mo, 9)) hK hG h4 rfl rfl (by decide) rfl) (fun M => gx_no) rfl (fun v => ?_)
        refine go_and (fun hv => ?_)
        subst hv
        refine go_if_eq (tgt := 46) hF d_Mo_check_35 (by decide) (fun h35 => ?_) (fun h35 => ?_)
        · refine go_iconst (v := 1) hF d_Mo_check_46 (by decide) ?_
          refine go_goto (tgt := 75) hF d_Mo_check_47 (by decide) ?_
          have hg := Rel_k hR
          have hTT : tC c kd ck dt lm = 1 := by
            unfold tC
            exact ifC_f (fun z => bi_0 h35 ((Rel_isN hR _).mpr z.1))
          refine gs_puti hF hK hlo d_Mo_check_75 fl_Mo_28 ct_Mo fs_Mo_0 h4 rfl rfl (by decide) rfl rfl ?_
          rw [mW_0]
          refine go_aload_n hF d_Mo_check_78 rfl ?_
          refine gs_geti hF hK d_Mo_check_79 fl_Mo_28 h4 rfl rfl (by decide) rfl ?_
          refine go_if_le (tgt := 87) hF d_Mo_check_82 (by decide) (fun h82 => ?_) (fun h82 => ?_)
          · rw [thr_v] at h82
            exact absurd h82 (by decide)
          · refine go_iconst (v := 0) hF d_Mo_check_85 (by decide) ?_
            exact go_iret hF hM d_Mo_check_86 (by decide) (by decide) (fun H hG => ⟨f, _, rfl, fun z => absurd (hTT.symm.trans z) (by decide), fun _ => rfl, by rw [hTT]; exact hG⟩)
        · refine go_aload_n hF d_Mo_check_38 rfl ?_
          refine go_iload_n hF d_Mo_check_39 rfl ?_
          refine go_callVX hF hE hlo d_Mo_check_40 (con_Mo_isNet hlt h4 dt) mt_Mo_isNet mv_Mo_isNet lk_Mo_70 ⟨rfl, rfl, by decide, by decide⟩ rfl (Nat.le_of_ble_eq_true rfl) ⟨by decide, by decide⟩ (fun H hG => gw_recv (q := (R_Mo, T_Mo, 9)) hK hG h4 rfl rfl (by decide) rfl) (fun M => gx_no) rfl (fun v => ?_)
          refine go_and (fun hv => ?_)
          subst hv
          refine go_if_ne (tgt := 50) hF d_Mo_check_43 (by decide) (fun h43 => ?_) (fun h43 => ?_)
          · refine go_aload_n hF d_Mo_check_50 rfl ?_
            refine gs_getr hF hK d_Mo_check_51 fl_Mo_7 h4 rfl rfl (by decide) rfl ?_
            refine go_iconst (v := 5) hF d_Mo_check_54 (by decide) ?_
            refine gs_md hF hK hT d_Mo_check_55 h4 (show (5 : Int32) = nI 5 from rfl) (by decide) ?_
            refine go_bipush (v := 20) hF d_Mo_check_56 (by decide) ?_
            refine go_icmp_ne (tgt := 65) hF d_Mo_check_58 (by decide) (fun h58 => ?_) (fun h58 => ?_)
            · refine go_iload hF d_Mo_check_65 rfl ?_
              refine go_if_ne (tgt := 74) hF d_Mo_check_67 (by decide) (fun h67 => ?_) (fun h67 => ?_)
              · refine go_iconst (v := 0) hF d_Mo_check_74 (by decide) ?_
                have hg := Rel_k hR
                have hTT : tC c kd ck dt lm = 0 := by
                  unfold tC
                  rw [ifC_t ⟨(Rel_isN hR _).mp (bi_1 h35), (Rel_isN hR _).mp (bi_1 h43)⟩, ← hR.2.1.2.2.2.2.2.1, ifC_t (show f 5 < 20 from (ct_ne (m := 20) hg (by decide)).mpr h58)]
                  exact ifC_t ⟨Or.inl h1, not_lt h11, not_lt h19⟩
                refine gs_puti hF hK hlo d_Mo_check_75 fl_Mo_28 ct_Mo fs_Mo_0 h4 rfl rfl (by decide) rfl rfl ?_
                rw [mW_0]
                refine go_aload_n hF d_Mo_check_78 rfl ?_
                refine gs_geti hF hK d_Mo_check_79 fl_Mo_28 h4 rfl rfl (by decide) rfl ?_
                refine go_if_le (tgt := 87) hF d_Mo_check_82 (by decide) (fun h82 => ?_) (fun h82 => ?_)
                · have n1 := (Rel_isN hR _).mp (bi_1 h35)
                  have n2 := (Rel_isN hR _).mp (bi_1 h43)
                  have h20 : cK c 0 < 20 := by
                    have q := (ct_ne (m := 20) hg (by decide)).mpr h58
                    rw [hg.1] at q
                    exact (nI_ltI (b := 20) (by omega) (by decide)).mp q
                  refine go_sipush (v := 1300) hF d_Mo_check_87 (by decide) ?_
                  refine go_iconst (v := 5) hF d_Mo_check_90 (by decide) ?_
                  refine go_aload_n hF d_Mo_check_91 rfl ?_
                  refine gs_getr hF hK d_Mo_check_92 fl_Mo_7 h4 rfl rfl (by decide) rfl ?_
                  refine go_iconst (v := 5) hF d_Mo_check_95 (by decide) ?_
                  refine gs_md hF hK hT d_Mo_check_96 h4 (show (5 : Int32) = nI 5 from rfl) (by decide) ?_
                  refine go_imul hF d_Mo_check_97 ?_
                  refine go_iadd hF d_Mo_check_98 ?_
                  refine go_istore hF d_Mo_check_99 (by decide) ?_
                  refine go_lv (lv' := [(0, _), (1, _), (2, _), (3, _), (4, _), (5, _), (6, _)]) ⟨rfl, rfl, rfl, rfl, rfl, rfl, rfl, trivial⟩ ?_
                  refine go_aload_n hF d_Mo_check_101 rfl ?_
                  refine gs_getr hF hK d_Mo_check_102 fl_Mo_7 h4 rfl rfl (by decide) rfl ?_
                  refine go_iload hF d_Mo_check_105 rfl ?_
                  refine go_iload_n hF d_Mo_check_107 rfl ?_
                  refine gs_ms hF hK hT hlo d_Mo_check_108 h4 (ixC (a := 1300) (b := 5) hg.1) (by omega) ?_
                  refine go_aload_n hF d_Mo_check_109 rfl ?_
                  refine gs_getr hF hK d_Mo_check_110 fl_Mo_7 h4 rfl rfl (by decide) rfl ?_
                  refine go_iload hF d_Mo_check_113 rfl ?_
                  refine go_iconst (v := 1) hF d_Mo_check_115 (by decide) ?_
                  refine go_iadd hF d_Mo_check_116 ?_
                  refine go_iload_n hF d_Mo_check_117 rfl ?_
                  refine gs_ms hF hK hT hlo d_Mo_check_118 h4 (ix1 (k := 1) (ixC (a := 1300) (b := 5) hg.1)) (by omega) ?_
                  refine go_aload_n hF d_Mo_check_119 rfl ?_
                  refine gs_getr hF hK d_Mo_check_120 fl_Mo_7 h4 rfl rfl (by decide) rfl ?_
                  refine go_iload hF d_Mo_check_123 rfl ?_
                  refine go_iconst (v := 2) hF d_Mo_check_125 (by decide) ?_
                  refine go_iadd hF d_Mo_check_126 ?_
                  refine go_iload_n hF d_Mo_check_127 rfl ?_
                  refine gs_ms hF hK hT hlo d_Mo_check_128 h4 (ix1 (k := 2) (ixC (a := 1300) (b := 5) hg.1)) (by omega) ?_
                  refine go_aload_n hF d_Mo_check_129 rfl ?_
                  refine gs_getr hF hK d_Mo_check_130 fl_Mo_7 h4 rfl rfl (by decide) rfl ?_
                  refine go_iload hF d_Mo_check_133 rfl ?_
                  refine go_iconst (v := 3) hF d_Mo_check_135 (by decide) ?_
                  refine go_iadd hF d_Mo_check_136 ?_
                  refine go_iload hF d_Mo_check_137 rfl ?_
                  refine gs_ms hF hK hT hlo d_Mo_check_139 h4 (ix1 (k := 3) (ixC (a := 1300) (b := 5) hg.1)) (by omega) ?_
                  refine go_aload_n hF d_Mo_check_140 rfl ?_
                  refine gs_getr hF hK d_Mo_check_141 fl_Mo_7 h4 rfl rfl (by decide) rfl ?_
                  refine go_iload hF d_Mo_check_144 rfl ?_
                  refine go_iconst (v := 4) hF d_Mo_check_146 (by decide) ?_
                  refine go_iadd hF d_Mo_check_147 ?_
                  refine go_iconst (v := 0) hF d_Mo_check_148 (by decide) ?_
                  refine gs_ms hF hK hT hlo d_Mo_check_149 h4 (ix1 (k := 4) (ixC (a := 1300) (b := 5) hg.1)) (by omega) ?_
                  refine go_aload_n hF d_Mo_check_150 rfl ?_
                  refine gs_getr hF hK d_Mo_check_151 fl_Mo_7 h4 rfl rfl (by decide) rfl ?_
                  refine go_iconst (v := 5) hF d_Mo_check_154 (by decide) ?_
                  refine go_dup2 hF d_Mo_check_155 rfl rfl ?_
                  refine gs_md hF hK hT d_Mo_check_156 h4 (show (5 : Int32) = nI 5 from rfl) (by decide) ?_
                  refine go_iconst (v := 1) hF d_Mo_check_157 (by decide) ?_
                  refine go_iadd hF d_Mo_check_158 ?_
                  refine gs_ms hF hK hT hlo d_Mo_check_159 h4 (show (5 : Int32) = nI 5 from rfl) (by decide) ?_
                  refine go_G (G' := gw E B N (mW (sI w 4 0 0 0 0 0) (fu (fu (fu (fu (fu (fu f (1300 + 5 * cK c 0) kd) (1300 + 5 * cK c 0 + 1) ck) (1300 + 5 * cK c 0 + 2) dt) (1300 + 5 * cK c 0 + 3) lm) (1300 + 5 * cK c 0 + 4) 0) 5 (nI (cK c 0 + 1))))) (fun H hG => by
                    simp only [fu_n (show (5 : Nat) ≠ 1300 + 5 * cK c 0 + 4 by omega), fu_n (show (5 : Nat) ≠ 1300 + 5 * cK c 0 + 3 by omega), fu_n (show (5 : Nat) ≠ 1300 + 5 * cK c 0 + 2 by omega), fu_n (show (5 : Nat) ≠ 1300 + 5 * cK c 0 + 1 by omega), fu_n (show (5 : Nat) ≠ 1300 + 5 * cK c 0 by omega), hg.1, nI_1] at hG
                    exact hG) ?_
                  refine go_aload_n hF d_Mo_check_160 rfl ?_
                  refine gs_getr hF hK d_Mo_check_161 fl_Mo_7 h4 rfl rfl (by decide) rfl ?_
                  refine go_iconst (v := 5) hF d_Mo_check_164 (by decide) ?_
                  refine gs_md hF hK hT d_Mo_check_165 h4 (show (5 : Int32) = nI 5 from rfl) (by decide) ?_
                  refine go_iconst (v := 1) hF d_Mo_check_166 (by decide) ?_
                  refine go_isub hF d_Mo_check_167 ?_
                  exact go_iret hF hM d_Mo_check_168 (by decide) (by decide) (fun H hG => ⟨_, _, rfl, fun _ => ⟨by
                    rw [fu_s, nI_pred, ← hg.1, hR.2.1.2.2.2.2.2.1], Rel_achk hR h20 ⟨by rw [h1]; decide, by rw [h1]; decide⟩ (lenOk_rg ⟨not_lt h11, not_lt h19⟩) (isN_vn hR.1 n1) (isN_vn hR.1 n2) (isN_lt hR.1 n1) (isN_lt hR.1 n2)⟩, fun z => absurd hTT z, by rw [hTT]; exact hG⟩)
                · rw [thr_v] at h82
                  exact absurd (by decide) h82
              · exact absurd h67 (by decide)
            · refine go_iconst (v := 2) hF d_Mo_check_61 (by decide) ?_
              refine go_goto (tgt := 75) hF d_Mo_check_62 (by decide) ?_
              have hg := Rel_k hR
              have hTT : tC c kd ck dt lm = 2 := by
                unfold tC
                rw [ifC_t ⟨(Rel_isN hR _).mp (bi_1 h35), (Rel_isN hR _).mp (bi_1 h43)⟩, ← hR.2.1.2.2.2.2.2.1]
                exact ifC_f (fun z => (ct_ne (m := 20) hg (by decide)).mp z h58)
              refine gs_puti hF hK hlo d_Mo_check_75 fl_Mo_28 ct_Mo fs_Mo_0 h4 rfl rfl (by decide) rfl rfl ?_
              rw [mW_0]
              refine go_aload_n hF d_Mo_check_78 rfl ?_
              refine gs_geti hF hK d_Mo_check_79 fl_Mo_28 h4 rfl rfl (by decide) rfl ?_
              refine go_if_le (tgt := 87) hF d_Mo_check_82 (by decide) (fun h82 => ?_) (fun h82 => ?_)
              · rw [thr_v] at h82
                exact absurd h82 (by decide)
              · refine go_iconst (v := 0) hF d_Mo_check_85 (by decide) ?_
                exact go_iret hF hM d_Mo_check_86 (by decide) (by decide) (fun H hG => ⟨f, _, rfl, fun z => absurd (hTT.symm.trans z) (by decide), fun _ => rfl, by rw [hTT]; exact hG⟩)
          · refine go_iconst (v := 1) hF d_Mo_check_46 (by decide) ?_
            refine go_goto (tgt := 75) hF d_Mo_check_47 (by decide) ?_
            have hg := Rel_k hR
            have hTT : tC c kd ck dt lm = 1 := by
              unfold tC
              exact ifC_f (fun z => bi_0 h43 ((Rel_isN hR _).mpr z.2))
            refine gs_puti hF hK hlo d_Mo_check_75 fl_Mo_28 ct_Mo fs_Mo_0 h4 rfl rfl (by decide) rfl rfl ?_
            rw [mW_0]
            refine go_aload_n hF d_Mo_check_78 rfl ?_
            refine gs_geti hF hK d_Mo_check_79 fl_Mo_28 h4 rfl rfl (by decide) rfl ?_
            refine go_if_le (tgt := 87) hF d_Mo_check_82 (by decide) (fun h82 => ?_) (fun h82 => ?_)
            · rw [thr_v] at h82
              exact absurd h82 (by decide)
            · refine go_iconst (v := 0) hF d_Mo_check_85 (by decide) ?_
              exact go_iret hF hM d_Mo_check_86 (by decide) (by decide) (fun H hG => ⟨f, _, rfl, fun z => absurd (hTT.symm.trans z) (by decide), fun _ => rfl, by rw [hTT]; exact hG⟩)
  · refine go_iload_n hF d_Mo_check_4 rfl ?_
    refine go_iconst (v := 1) hF d_Mo_check_5 (by decide) ?_
    refine go_icmp_ne (tgt := 26) hF d_Mo_check_6 (by decide) (fun h6 => ?_) (fun h6 => ?_)
    · refine go_iconst (v := 0) hF d_Mo_check_26 (by decide) ?_
      refine go_istore hF d_Mo_check_27 (by decide) ?_
      refine go_lv (lv' := [(0, _), (1, _), (2, _), (3, _), (4, _), (5, _)]) ⟨rfl, rfl, rfl, rfl, rfl, rfl, trivial⟩ ?_
      refine go_aload_n hF d_Mo_check_29 rfl ?_
      refine go_aload_n hF d_Mo_check_30 rfl ?_
      refine go_iload_n hF d_Mo_check_31 rfl ?_
      refine go_callVX hF hE hlo d_Mo_check_32 (con_Mo_isNet hlt h4 ck) mt_Mo_isNet mv_Mo_isNet lk_Mo_70 ⟨rfl, rfl, by decide, by decide⟩ rfl (Nat.le_of_ble_eq_true rfl) ⟨by decide, by decide⟩ (fun H hG => gw_recv (q := (R_Mo, T_Mo, 9)) hK hG h4 rfl rfl (by decide) rfl) (fun M => gx_no) rfl (fun v => ?_)
      refine go_and (fun hv => ?_)
      subst hv
      refine go_if_eq (tgt := 46) hF d_Mo_check_35 (by decide) (fun h35 => ?_) (fun h35 => ?_)
      · refine go_iconst (v := 1) hF d_Mo_check_46 (by decide) ?_
        refine go_goto (tgt := 75) hF d_Mo_check_47 (by decide) ?_
        have hg := Rel_k hR
        have hTT : tC c kd ck dt lm = 1 := by
          unfold tC
          exact ifC_f (fun z => bi_0 h35 ((Rel_isN hR _).mpr z.1))
        refine gs_puti hF hK hlo d_Mo_check_75 fl_Mo_28 ct_Mo fs_Mo_0 h4 rfl rfl (by decide) rfl rfl ?_
        rw [mW_0]
        refine go_aload_n hF d_Mo_check_78 rfl ?_
        refine gs_geti hF hK d_Mo_check_79 fl_Mo_28 h4 rfl rfl (by decide) rfl ?_
        refine go_if_le (tgt := 87) hF d_Mo_check_82 (by decide) (fun h82 => ?_) (fun h82 => ?_)
        · rw [thr_v] at h82
          exact absurd h82 (by decide)
        · refine go_iconst (v := 0) hF d_Mo_check_85 (by decide) ?_
          exact go_iret hF hM d_Mo_check_86 (by decide) (by decide) (fun H hG => ⟨f, _, rfl, fun z => absurd (hTT.symm.trans z) (by decide), fun _ => rfl, by rw [hTT]; exact hG⟩)
      · refine go_aload_n hF d_Mo_check_38 rfl ?_
        refine go_iload_n hF d_Mo_check_39 rfl ?_
        refine go_callVX hF hE hlo d_Mo_check_40 (con_Mo_isNet hlt h4 dt) mt_Mo_isNet mv_Mo_isNet lk_Mo_70 ⟨rfl, rfl, by decide, by decide⟩ rfl (Nat.le_of_ble_eq_true rfl) ⟨by decide, by decide⟩ (fun H hG => gw_recv (q := (R_Mo, T_Mo, 9)) hK hG h4 rfl rfl (by decide) rfl) (fun M => gx_no) rfl (fun v => ?_)
        refine go_and (fun hv => ?_)
        subst hv
        refine go_if_ne (tgt := 50) hF d_Mo_check_43 (by decide) (fun h43 => ?_) (fun h43 => ?_)
        · refine go_aload_n hF d_Mo_check_50 rfl ?_
          refine gs_getr hF hK d_Mo_check_51 fl_Mo_7 h4 rfl rfl (by decide) rfl ?_
          refine go_iconst (v := 5) hF d_Mo_check_54 (by decide) ?_
          refine gs_md hF hK hT d_Mo_check_55 h4 (show (5 : Int32) = nI 5 from rfl) (by decide) ?_
          refine go_bipush (v := 20) hF d_Mo_check_56 (by decide) ?_
          refine go_icmp_ne (tgt := 65) hF d_Mo_check_58 (by decide) (fun h58 => ?_) (fun h58 => ?_)
          · refine go_iload hF d_Mo_check_65 rfl ?_
            refine go_if_ne (tgt := 74) hF d_Mo_check_67 (by decide) (fun h67 => ?_) (fun h67 => ?_)
            · exact absurd rfl h67
            · refine go_iconst (v := 3) hF d_Mo_check_70 (by decide) ?_
              refine go_goto (tgt := 75) hF d_Mo_check_71 (by decide) ?_
              have hg := Rel_k hR
              have hTT : tC c kd ck dt lm = 3 := by
                unfold tC
                rw [ifC_t ⟨(Rel_isN hR _).mp (bi_1 h35), (Rel_isN hR _).mp (bi_1 h43)⟩, ← hR.2.1.2.2.2.2.2.1, ifC_t (show f 5 < 20 from (ct_ne (m := 20) hg (by decide)).mpr h58)]
                exact ifC_f (fun z => z.1.elim h1 h6)
              refine gs_puti hF hK hlo d_Mo_check_75 fl_Mo_28 ct_Mo fs_Mo_0 h4 rfl rfl (by decide) rfl rfl ?_
              rw [mW_0]
              refine go_aload_n hF d_Mo_check_78 rfl ?_
              refine gs_geti hF hK d_Mo_check_79 fl_Mo_28 h4 rfl rfl (by decide) rfl ?_
              refine go_if_le (tgt := 87) hF d_Mo_check_82 (by decide) (fun h82 => ?_) (fun h82 => ?_)
              · rw [thr_v] at h82
                exact absurd h82 (by decide)
              · refine go_iconst (v := 0) hF d_Mo_check_85 (by decide) ?_
                exact go_iret hF hM d_Mo_check_86 (by decide) (by decide) (fun H hG => ⟨f, _, rfl, fun z => absurd (hTT.symm.trans z) (by decide), fun _ => rfl, by rw [hTT]; exact hG⟩)
          · refine go_iconst (v := 2) hF d_Mo_check_61 (by decide) ?_
            refine go_goto (tgt := 75) hF d_Mo_check_62 (by decide) ?_
            have hg := Rel_k hR
            have hTT : tC c kd ck dt lm = 2 := by
              unfold tC
              rw [ifC_t ⟨(Rel_isN hR _).mp (bi_1 h35), (Rel_isN hR _).mp (bi_1 h43)⟩, ← hR.2.1.2.2.2.2.2.1]
              exact ifC_f (fun z => (ct_ne (m := 20) hg (by decide)).mp z h58)
            refine gs_puti hF hK hlo d_Mo_check_75 fl_Mo_28 ct_Mo fs_Mo_0 h4 rfl rfl (by decide) rfl rfl ?_
            rw [mW_0]
            refine go_aload_n hF d_Mo_check_78 rfl ?_
            refine gs_geti hF hK d_Mo_check_79 fl_Mo_28 h4 rfl rfl (by decide) rfl ?_
            refine go_if_le (tgt := 87) hF d_Mo_check_82 (by decide) (fun h82 => ?_) (fun h82 => ?_)
            · rw [thr_v] at h82
              exact absurd h82 (by decide)
            · refine go_iconst (v := 0) hF d_Mo_check_85 (by decide) ?_
              exact go_iret hF hM d_Mo_check_86 (by decide) (by decide) (fun H hG => ⟨f, _, rfl, fun z => absurd (hTT.symm.trans z) (by decide), fun _ => rfl, by rw [hTT]; exact hG⟩)
        · refine go_iconst (v := 1) hF d_Mo_check_46 (by decide) ?_
          refine go_goto (tgt := 75) hF d_Mo_check_47 (by decide) ?_
          have hg := Rel_k hR
          have hTT : tC c kd ck dt lm = 1 := by
            unfold tC
            exact ifC_f (fun z => bi_0 h43 ((Rel_isN hR _).mpr z.2))
          refine gs_puti hF hK hlo d_Mo_check_75 fl_Mo_28 ct_Mo fs_Mo_0 h4 rfl rfl (by decide) rfl rfl ?_
          rw [mW_0]
          refine go_aload_n hF d_Mo_check_78 rfl ?_
          refine gs_geti hF hK d_Mo_check_79 fl_Mo_28 h4 rfl rfl (by decide) rfl ?_
          refine go_if_le (tgt := 87) hF d_Mo_check_82 (by decide) (fun h82 => ?_) (fun h82 => ?_)
          · rw [thr_v] at h82
            exact absurd h82 (by decide)
          · refine go_iconst (v := 0) hF d_Mo_check_85 (by decide) ?_
            exact go_iret hF hM d_Mo_check_86 (by decide) (by decide) (fun H hG => ⟨f, _, rfl, fun z => absurd (hTT.symm.trans z) (by decide), fun _ => rfl, by rw [hTT]; exact hG⟩)
    · refine go_iload hF d_Mo_check_9 rfl ?_
      refine go_if_lt (tgt := 26) hF d_Mo_check_11 (by decide) (fun h11 => ?_) (fun h11 => ?_)
      · refine go_iconst (v := 0) hF d_Mo_check_26 (by decide) ?_
        refine go_istore hF d_Mo_check_27 (by decide) ?_
        refine go_lv (lv' := [(0, _), (1, _), (2, _), (3, _), (4, _), (5, _)]) ⟨rfl, rfl, rfl, rfl, rfl, rfl, trivial⟩ ?_
        refine go_aload_n hF d_Mo_check_29 rfl ?_
        refine go_aload_n hF d_Mo_check_30 rfl ?_
        refine go_iload_n hF d_Mo_check_31 rfl ?_
        refine go_callVX hF hE hlo d_Mo_check_32 (con_Mo_isNet hlt h4 ck) mt_Mo_isNet mv_Mo_isNet lk_Mo_70 ⟨rfl, rfl, by decide, by decide⟩ rfl (Nat.le_of_ble_eq_true rfl) ⟨by decide, by decide⟩ (fun H hG => gw_recv (q := (R_Mo, T_Mo, 9)) hK hG h4 rfl rfl (by decide) rfl) (fun M => gx_no) rfl (fun v => ?_)
        refine go_and (fun hv => ?_)
        subst hv
        refine go_if_eq (tgt := 46) hF d_Mo_check_35 (by decide) (fun h35 => ?_) (fun h35 => ?_)
        · refine go_iconst (v := 1) hF d_Mo_check_46 (by decide) ?_
          refine go_goto (tgt := 75) hF d_Mo_check_47 (by decide) ?_
          have hg := Rel_k hR
          have hTT : tC c kd ck dt lm = 1 := by
            unfold tC
            exact ifC_f (fun z => bi_0 h35 ((Rel_isN hR _).mpr z.1))
          refine gs_puti hF hK hlo d_Mo_check_75 fl_Mo_28 ct_Mo fs_Mo_0 h4 rfl rfl (by decide) rfl rfl ?_
          rw [mW_0]
          refine go_aload_n hF d_Mo_check_78 rfl ?_
          refine gs_geti hF hK d_Mo_check_79 fl_Mo_28 h4 rfl rfl (by decide) rfl ?_
          refine go_if_le (tgt := 87) hF d_Mo_check_82 (by decide) (fun h82 => ?_) (fun h82 => ?_)
          · rw [thr_v] at h82
            exact absurd h82 (by decide)
          · refine go_iconst (v := 0) hF d_Mo_check_85 (by decide) ?_
            exact go_iret hF hM d_Mo_check_86 (by decide) (by decide) (fun H hG => ⟨f, _, rfl, fun z => absurd (hTT.symm.trans z) (by decide), fun _ => rfl, by rw [hTT]; exact hG⟩)
        · refine go_aload_n hF d_Mo_check_38 rfl ?_
          refine go_iload_n hF d_Mo_check_39 rfl ?_
          refine go_callVX hF hE hlo d_Mo_check_40 (con_Mo_isNet hlt h4 dt) mt_Mo_isNet mv_Mo_isNet lk_Mo_70 ⟨rfl, rfl, by decide, by decide⟩ rfl (Nat.le_of_ble_eq_true rfl) ⟨by decide, by decide⟩ (fun H hG => gw_recv (q := (R_Mo, T_Mo, 9)) hK hG h4 rfl rfl (by decide) rfl) (fun M => gx_no) rfl (fun v => ?_)
          refine go_and (fun hv => ?_)
          subst hv
          refine go_if_ne (tgt := 50) hF d_Mo_check_43 (by decide) (fun h43 => ?_) (fun h43 => ?_)
          · refine go_aload_n hF d_Mo_check_50 rfl ?_
            refine gs_getr hF hK d_Mo_check_51 fl_Mo_7 h4 rfl rfl (by decide) rfl ?_
            refine go_iconst (v := 5) hF d_Mo_check_54 (by decide) ?_
            refine gs_md hF hK hT d_Mo_check_55 h4 (show (5 : Int32) = nI 5 from rfl) (by decide) ?_
            refine go_bipush (v := 20) hF d_Mo_check_56 (by decide) ?_
            refine go_icmp_ne (tgt := 65) hF d_Mo_check_58 (by decide) (fun h58 => ?_) (fun h58 => ?_)
            · refine go_iload hF d_Mo_check_65 rfl ?_
              refine go_if_ne (tgt := 74) hF d_Mo_check_67 (by decide) (fun h67 => ?_) (fun h67 => ?_)
              · exact absurd rfl h67
              · refine go_iconst (v := 3) hF d_Mo_check_70 (by decide) ?_
                refine go_goto (tgt := 75) hF d_Mo_check_71 (by decide) ?_
                have hg := Rel_k hR
                have hTT : tC c kd ck dt lm = 3 := by
                  unfold tC
                  rw [ifC_t ⟨(Rel_isN hR _).mp (bi_1 h35), (Rel_isN hR _).mp (bi_1 h43)⟩, ← hR.2.1.2.2.2.2.2.1, ifC_t (show f 5 < 20 from (ct_ne (m := 20) hg (by decide)).mpr h58)]
                  exact ifC_f (fun z => Int32.lt_irrefl (Int32.lt_of_lt_of_le h11 z.2.1))
                refine gs_puti hF hK hlo d_Mo_check_75 fl_Mo_28 ct_Mo fs_Mo_0 h4 rfl rfl (by decide) rfl rfl ?_
                rw [mW_0]
                refine go_aload_n hF d_Mo_check_78 rfl ?_
                refine gs_geti hF hK d_Mo_check_79 fl_Mo_28 h4 rfl rfl (by decide) rfl ?_
                refine go_if_le (tgt := 87) hF d_Mo_check_82 (by decide) (fun h82 => ?_) (fun h82 => ?_)
                · rw [thr_v] at h82
                  exact absurd h82 (by decide)
                · refine go_iconst (v := 0) hF d_Mo_check_85 (by decide) ?_
                  exact go_iret hF hM d_Mo_check_86 (by decide) (by decide) (fun H hG => ⟨f, _, rfl, fun z => absurd (hTT.symm.trans z) (by decide), fun _ => rfl, by rw [hTT]; exact hG⟩)
            · refine go_iconst (v := 2) hF d_Mo_check_61 (by decide) ?_
              refine go_goto (tgt := 75) hF d_Mo_check_62 (by decide) ?_
              have hg := Rel_k hR
              have hTT : tC c kd ck dt lm = 2 := by
                unfold tC
                rw [ifC_t ⟨(Rel_isN hR _).mp (bi_1 h35), (Rel_isN hR _).mp (bi_1 h43)⟩, ← hR.2.1.2.2.2.2.2.1]
                exact ifC_f (fun z => (ct_ne (m := 20) hg (by decide)).mp z h58)
              refine gs_puti hF hK hlo d_Mo_check_75 fl_Mo_28 ct_Mo fs_Mo_0 h4 rfl rfl (by decide) rfl rfl ?_
              rw [mW_0]
              refine go_aload_n hF d_Mo_check_78 rfl ?_
              refine gs_geti hF hK d_Mo_check_79 fl_Mo_28 h4 rfl rfl (by decide) rfl ?_
              refine go_if_le (tgt := 87) hF d_Mo_check_82 (by decide) (fun h82 => ?_) (fun h82 => ?_)
              · rw [thr_v] at h82
                exact absurd h82 (by decide)
              · refine go_iconst (v := 0) hF d_Mo_check_85 (by decide) ?_
                exact go_iret hF hM d_Mo_check_86 (by decide) (by decide) (fun H hG => ⟨f, _, rfl, fun z => absurd (hTT.symm.trans z) (by decide), fun _ => rfl, by rw [hTT]; exact hG⟩)
          · refine go_iconst (v := 1) hF d_Mo_check_46 (by decide) ?_
            refine go_goto (tgt := 75) hF d_Mo_check_47 (by decide) ?_
            have hg := Rel_k hR
            have hTT : tC c kd ck dt lm = 1 := by
              unfold tC
              exact ifC_f (fun z => bi_0 h43 ((Rel_isN hR _).mpr z.2))
            refine gs_puti hF hK hlo d_Mo_check_75 fl_Mo_28 ct_Mo fs_Mo_0 h4 rfl rfl (by decide) rfl rfl ?_
            rw [mW_0]
            refine go_aload_n hF d_Mo_check_78 rfl ?_
            refine gs_geti hF hK d_Mo_check_79 fl_Mo_28 h4 rfl rfl (by decide) rfl ?_
            refine go_if_le (tgt := 87) hF d_Mo_check_82 (by decide) (fun h82 => ?_) (fun h82 => ?_)
            · rw [thr_v] at h82
              exact absurd h82 (by decide)
            · refine go_iconst (v := 0) hF d_Mo_check_85 (by decide) ?_
              exact go_iret hF hM d_Mo_check_86 (by decide) (by decide) (fun H hG => ⟨f, _, rfl, fun z => absurd (hTT.symm.trans z) (by decide), fun _ => rfl, by rw [hTT]; exact hG⟩)
      · refine go_iload hF d_Mo_check_14 rfl ?_
        refine go_sipush (v := 1000) hF d_Mo_check_16 (by decide) ?_
        refine go_icmp_gt (tgt := 26) hF d_Mo_check_19 (by decide) (fun h19 => ?_) (fun h19 => ?_)
        · refine go_iconst (v := 0) hF d_Mo_check_26 (by decide) ?_
          refine go_istore hF d_Mo_check_27 (by decide) ?_
          refine go_lv (lv' := [(0, _), (1, _), (2, _), (3, _), (4, _), (5, _)]) ⟨rfl, rfl, rfl, rfl, rfl, rfl, trivial⟩ ?_
          refine go_aload_n hF d_Mo_check_29 rfl ?_
          refine go_aload_n hF d_Mo_check_30 rfl ?_
          refine go_iload_n hF d_Mo_check_31 rfl ?_
          refine go_callVX hF hE hlo d_Mo_check_32 (con_Mo_isNet hlt h4 ck) mt_Mo_isNet mv_Mo_isNet lk_Mo_70 ⟨rfl, rfl, by decide, by decide⟩ rfl (Nat.le_of_ble_eq_true rfl) ⟨by decide, by decide⟩ (fun H hG => gw_recv (q := (R_Mo, T_Mo, 9)) hK hG h4 rfl rfl (by decide) rfl) (fun M => gx_no) rfl (fun v => ?_)
          refine go_and (fun hv => ?_)
          subst hv
          refine go_if_eq (tgt := 46) hF d_Mo_check_35 (by decide) (fun h35 => ?_) (fun h35 => ?_)
          · refine go_iconst (v := 1) hF d_Mo_check_46 (by decide) ?_
            refine go_goto (tgt := 75) hF d_Mo_check_47 (by decide) ?_
            have hg := Rel_k hR
            have hTT : tC c kd ck dt lm = 1 := by
              unfold tC
              exact ifC_f (fun z => bi_0 h35 ((Rel_isN hR _).mpr z.1))
            refine gs_puti hF hK hlo d_Mo_check_75 fl_Mo_28 ct_Mo fs_Mo_0 h4 rfl rfl (by decide) rfl rfl ?_
            rw [mW_0]
            refine go_aload_n hF d_Mo_check_78 rfl ?_
            refine gs_geti hF hK d_Mo_check_79 fl_Mo_28 h4 rfl rfl (by decide) rfl ?_
            refine go_if_le (tgt := 87) hF d_Mo_check_82 (by decide) (fun h82 => ?_) (fun h82 => ?_)
            · rw [thr_v] at h82
              exact absurd h82 (by decide)
            · refine go_iconst (v := 0) hF d_Mo_check_85 (by decide) ?_
              exact go_iret hF hM d_Mo_check_86 (by decide) (by decide) (fun H hG => ⟨f, _, rfl, fun z => absurd (hTT.symm.trans z) (by decide), fun _ => rfl, by rw [hTT]; exact hG⟩)
          · refine go_aload_n hF d_Mo_check_38 rfl ?_
            refine go_iload_n hF d_Mo_check_39 rfl ?_
            refine go_callVX hF hE hlo d_Mo_check_40 (con_Mo_isNet hlt h4 dt) mt_Mo_isNet mv_Mo_isNet lk_Mo_70 ⟨rfl, rfl, by decide, by decide⟩ rfl (Nat.le_of_ble_eq_true rfl) ⟨by decide, by decide⟩ (fun H hG => gw_recv (q := (R_Mo, T_Mo, 9)) hK hG h4 rfl rfl (by decide) rfl) (fun M => gx_no) rfl (fun v => ?_)
            refine go_and (fun hv => ?_)
            subst hv
            refine go_if_ne (tgt := 50) hF d_Mo_check_43 (by decide) (fun h43 => ?_) (fun h43 => ?_)
            · refine go_aload_n hF d_Mo_check_50 rfl ?_
              refine gs_getr hF hK d_Mo_check_51 fl_Mo_7 h4 rfl rfl (by decide) rfl ?_
              refine go_iconst (v := 5) hF d_Mo_check_54 (by decide) ?_
              refine gs_md hF hK hT d_Mo_check_55 h4 (show (5 : Int32) = nI 5 from rfl) (by decide) ?_
              refine go_bipush (v := 20) hF d_Mo_check_56 (by decide) ?_
              refine go_icmp_ne (tgt := 65) hF d_Mo_check_58 (by decide) (fun h58 => ?_) (fun h58 => ?_)
              · refine go_iload hF d_Mo_check_65 rfl ?_
                refine go_if_ne (tgt := 74) hF d_Mo_check_67 (by decide) (fun h67 => ?_) (fun h67 => ?_)
                · exact absurd rfl h67
                · refine go_iconst (v := 3) hF d_Mo_check_70 (by decide) ?_
                  refine go_goto (tgt := 75) hF d_Mo_check_71 (by decide) ?_
                  have hg := Rel_k hR
                  have hTT : tC c kd ck dt lm = 3 := by
                    unfold tC
                    rw [ifC_t ⟨(Rel_isN hR _).mp (bi_1 h35), (Rel_isN hR _).mp (bi_1 h43)⟩, ← hR.2.1.2.2.2.2.2.1, ifC_t (show f 5 < 20 from (ct_ne (m := 20) hg (by decide)).mpr h58)]
                    exact ifC_f (fun z => Int32.lt_irrefl (Int32.lt_of_lt_of_le h19 z.2.2))
                  refine gs_puti hF hK hlo d_Mo_check_75 fl_Mo_28 ct_Mo fs_Mo_0 h4 rfl rfl (by decide) rfl rfl ?_
                  rw [mW_0]
                  refine go_aload_n hF d_Mo_check_78 rfl ?_
                  refine gs_geti hF hK d_Mo_check_79 fl_Mo_28 h4 rfl rfl (by decide) rfl ?_
                  refine go_if_le (tgt := 87) hF d_Mo_check_82 (by decide) (fun h82 => ?_) (fun h82 => ?_)
                  · rw [thr_v] at h82
                    exact absurd h82 (by decide)
                  · refine go_iconst (v := 0) hF d_Mo_check_85 (by decide) ?_
                    exact go_iret hF hM d_Mo_check_86 (by decide) (by decide) (fun H hG => ⟨f, _, rfl, fun z => absurd (hTT.symm.trans z) (by decide), fun _ => rfl, by rw [hTT]; exact hG⟩)
              · refine go_iconst (v := 2) hF d_Mo_check_61 (by decide) ?_
                refine go_goto (tgt := 75) hF d_Mo_check_62 (by decide) ?_
                have hg := Rel_k hR
                have hTT : tC c kd ck dt lm = 2 := by
                  unfold tC
                  rw [ifC_t ⟨(Rel_isN hR _).mp (bi_1 h35), (Rel_isN hR _).mp (bi_1 h43)⟩, ← hR.2.1.2.2.2.2.2.1]
                  exact ifC_f (fun z => (ct_ne (m := 20) hg (by decide)).mp z h58)
                refine gs_puti hF hK hlo d_Mo_check_75 fl_Mo_28 ct_Mo fs_Mo_0 h4 rfl rfl (by decide) rfl rfl ?_
                rw [mW_0]
                refine go_aload_n hF d_Mo_check_78 rfl ?_
                refine gs_geti hF hK d_Mo_check_79 fl_Mo_28 h4 rfl rfl (by decide) rfl ?_
                refine go_if_le (tgt := 87) hF d_Mo_check_82 (by decide) (fun h82 => ?_) (fun h82 => ?_)
                · rw [thr_v] at h82
                  exact absurd h82 (by decide)
                · refine go_iconst (v := 0) hF d_Mo_check_85 (by decide) ?_
                  exact go_iret hF hM d_Mo_check_86 (by decide) (by decide) (fun H hG => ⟨f, _, rfl, fun z => absurd (hTT.symm.trans z) (by decide), fun _ => rfl, by rw [hTT]; exact hG⟩)
            · refine go_iconst (v := 1) hF d_Mo_check_46 (by decide) ?_
              refine go_goto (tgt := 75) hF d_Mo_check_47 (by decide) ?_
              have hg := Rel_k hR
              have hTT : tC c kd ck dt lm = 1 := by
                unfold tC
                exact ifC_f (fun z => bi_0 h43 ((Rel_isN hR _).mpr z.2))
              refine gs_puti hF hK hlo d_Mo_check_75 fl_Mo_28 ct_Mo fs_Mo_0 h4 rfl rfl (by decide) rfl rfl ?_
              rw [mW_0]
              refine go_aload_n hF d_Mo_check_78 rfl ?_
              refine gs_geti hF hK d_Mo_check_79 fl_Mo_28 h4 rfl rfl (by decide) rfl ?_
              refine go_if_le (tgt := 87) hF d_Mo_check_82 (by decide) (fun h82 => ?_) (fun h82 => ?_)
              · rw [thr_v] at h82
                exact absurd h82 (by decide)
              · refine go_iconst (v := 0) hF d_Mo_check_85 (by decide) ?_
                exact go_iret hF hM d_Mo_check_86 (by decide) (by decide) (fun H hG => ⟨f, _, rfl, fun z => absurd (hTT.symm.trans z) (by decide), fun _ => rfl, by rw [hTT]; exact hG⟩)
        · refine go_iconst (v := 1) hF d_Mo_check_22 (by decide) ?_
          refine go_goto (tgt := 27) hF d_Mo_check_23 (by decide) ?_
          refine go_istore hF d_Mo_check_27 (by decide) ?_
          refine go_lv (lv' := [(0, _), (1, _), (2, _), (3, _), (4, _), (5, _)]) ⟨rfl, rfl, rfl, rfl, rfl, rfl, trivial⟩ ?_
          refine go_aload_n hF d_Mo_check_29 rfl ?_
          refine go_aload_n hF d_Mo_check_30 rfl ?_
          refine go_iload_n hF d_Mo_check_31 rfl ?_
          refine go_callVX hF hE hlo d_Mo_check_32 (con_Mo_isNet hlt h4 ck) mt_Mo_isNet mv_Mo_isNet lk_Mo_70 ⟨rfl, rfl, by decide, by decide⟩ rfl (Nat.le_of_ble_eq_true rfl) ⟨by decide, by decide⟩ (fun H hG => gw_recv (q := (R_Mo, T_Mo, 9)) hK hG h4 rfl rfl (by decide) rfl) (fun M => gx_no) rfl (fun v => ?_)
          refine go_and (fun hv => ?_)
          subst hv
          refine go_if_eq (tgt := 46) hF d_Mo_check_35 (by decide) (fun h35 => ?_) (fun h35 => ?_)
          · refine go_iconst (v := 1) hF d_Mo_check_46 (by decide) ?_
            refine go_goto (tgt := 75) hF d_Mo_check_47 (by decide) ?_
            have hg := Rel_k hR
            have hTT : tC c kd ck dt lm = 1 := by
              unfold tC
              exact ifC_f (fun z => bi_0 h35 ((Rel_isN hR _).mpr z.1))
            refine gs_puti hF hK hlo d_Mo_check_75 fl_Mo_28 ct_Mo fs_Mo_0 h4 rfl rfl (by decide) rfl rfl ?_
            rw [mW_0]
            refine go_aload_n hF d_Mo_check_78 rfl ?_
            refine gs_geti hF hK d_Mo_check_79 fl_Mo_28 h4 rfl rfl (by decide) rfl ?_
            refine go_if_le (tgt := 87) hF d_Mo_check_82 (by decide) (fun h82 => ?_) (fun h82 => ?_)
            · rw [thr_v] at h82
              exact absurd h82 (by decide)
            · refine go_iconst (v := 0) hF d_Mo_check_85 (by decide) ?_
              exact go_iret hF hM d_Mo_check_86 (by decide) (by decide) (fun H hG => ⟨f, _, rfl, fun z => absurd (hTT.symm.trans z) (by decide), fun _ => rfl, by rw [hTT]; exact hG⟩)
          · refine go_aload_n hF d_Mo_check_38 rfl ?_
            refine go_iload_n hF d_Mo_check_39 rfl ?_
            refine go_callVX hF hE hlo d_Mo_check_40 (con_Mo_isNet hlt h4 dt) mt_Mo_isNet mv_Mo_isNet lk_Mo_70 ⟨rfl, rfl, by decide, by decide⟩ rfl (Nat.le_of_ble_eq_true rfl) ⟨by decide, by decide⟩ (fun H hG => gw_recv (q := (R_Mo, T_Mo, 9)) hK hG h4 rfl rfl (by decide) rfl) (fun M => gx_no) rfl (fun v => ?_)
            refine go_and (fun hv => ?_)
            subst hv
            refine go_if_ne (tgt := 50) hF d_Mo_check_43 (by decide) (fun h43 => ?_) (fun h43 => ?_)
            · refine go_aload_n hF d_Mo_check_50 rfl ?_
              refine gs_getr hF hK d_Mo_check_51 fl_Mo_7 h4 rfl rfl (by decide) rfl ?_
              refine go_iconst (v := 5) hF d_Mo_check_54 (by decide) ?_
              refine gs_md hF hK hT d_Mo_check_55 h4 (show (5 : Int32) = nI 5 from rfl) (by decide) ?_
              refine go_bipush (v := 20) hF d_Mo_check_56 (by decide) ?_
              refine go_icmp_ne (tgt := 65) hF d_Mo_check_58 (by decide) (fun h58 => ?_) (fun h58 => ?_)
              · refine go_iload hF d_Mo_check_65 rfl ?_
                refine go_if_ne (tgt := 74) hF d_Mo_check_67 (by decide) (fun h67 => ?_) (fun h67 => ?_)
                · refine go_iconst (v := 0) hF d_Mo_check_74 (by decide) ?_
                  have hg := Rel_k hR
                  have hTT : tC c kd ck dt lm = 0 := by
                    unfold tC
                    rw [ifC_t ⟨(Rel_isN hR _).mp (bi_1 h35), (Rel_isN hR _).mp (bi_1 h43)⟩, ← hR.2.1.2.2.2.2.2.1, ifC_t (show f 5 < 20 from (ct_ne (m := 20) hg (by decide)).mpr h58)]
                    exact ifC_t ⟨Or.inr h6, not_lt h11, not_lt h19⟩
                  refine gs_puti hF hK hlo d_Mo_check_75 fl_Mo_28 ct_Mo fs_Mo_0 h4 rfl rfl (by decide) rfl rfl ?_
                  rw [mW_0]
                  refine go_aload_n hF d_Mo_check_78 rfl ?_
                  refine gs_geti hF hK d_Mo_check_79 fl_Mo_28 h4 rfl rfl (by decide) rfl ?_
                  refine go_if_le (tgt := 87) hF d_Mo_check_82 (by decide) (fun h82 => ?_) (fun h82 => ?_)
                  · have n1 := (Rel_isN hR _).mp (bi_1 h35)
                    have n2 := (Rel_isN hR _).mp (bi_1 h43)
                    have h20 : cK c 0 < 20 := by
                      have q := (ct_ne (m := 20) hg (by decide)).mpr h58
                      rw [hg.1] at q
                      exact (nI_ltI (b := 20) (by omega) (by decide)).mp q
                    refine go_sipush (v := 1300) hF d_Mo_check_87 (by decide) ?_
                    refine go_iconst (v := 5) hF d_Mo_check_90 (by decide) ?_
                    refine go_aload_n hF d_Mo_check_91 rfl ?_
                    refine gs_getr hF hK d_Mo_check_92 fl_Mo_7 h4 rfl rfl (by decide) rfl ?_
                    refine go_iconst (v := 5) hF d_Mo_check_95 (by decide) ?_
                    refine gs_md hF hK hT d_Mo_check_96 h4 (show (5 : Int32) = nI 5 from rfl) (by decide) ?_
                    refine go_imul hF d_Mo_check_97 ?_
                    refine go_iadd hF d_Mo_check_98 ?_
                    refine go_istore hF d_Mo_check_99 (by decide) ?_
                    refine go_lv (lv' := [(0, _), (1, _), (2, _), (3, _), (4, _), (5, _), (6, _)]) ⟨rfl, rfl, rfl, rfl, rfl, rfl, rfl, trivial⟩ ?_
                    refine go_aload_n hF d_Mo_check_101 rfl ?_
                    refine gs_getr hF hK d_Mo_check_102 fl_Mo_7 h4 rfl rfl (by decide) rfl ?_
                    refine go_iload hF d_Mo_check_105 rfl ?_
                    refine go_iload_n hF d_Mo_check_107 rfl ?_
                    refine gs_ms hF hK hT hlo d_Mo_check_108 h4 (ixC (a := 1300) (b := 5) hg.1) (by omega) ?_
                    refine go_aload_n hF d_Mo_check_109 rfl ?_
                    refine gs_getr hF hK d_Mo_check_110 fl_Mo_7 h4 rfl rfl (by decide) rfl ?_
                    refine go_iload hF d_Mo_check_113 rfl ?_
                    refine go_iconst (v := 1) hF d_Mo_check_115 (by decide) ?_
                    refine go_iadd hF d_Mo_check_116 ?_
                    refine go_iload_n hF d_Mo_check_117 rfl ?_
                    refine gs_ms hF hK hT hlo d_Mo_check_118 h4 (ix1 (k := 1) (ixC (a := 1300) (b := 5) hg.1)) (by omega) ?_
                    refine go_aload_n hF d_Mo_check_119 rfl ?_
                    refine gs_getr hF hK d_Mo_check_120 fl_Mo_7 h4 rfl rfl (by decide) rfl ?_
                    refine go_iload hF d_Mo_check_123 rfl ?_
                    refine go_iconst (v := 2) hF d_Mo_check_125 (by decide) ?_
                    refine go_iadd hF d_Mo_check_126 ?_
                    refine go_iload_n hF d_Mo_check_127 rfl ?_
                    refine gs_ms hF hK hT hlo d_Mo_check_128 h4 (ix1 (k := 2) (ixC (a := 1300) (b := 5) hg.1)) (by omega) ?_
                    refine go_aload_n hF d_Mo_check_129 rfl ?_
                    refine gs_getr hF hK d_Mo_check_130 fl_Mo_7 h4 rfl rfl (by decide) rfl ?_
                    refine go_iload hF d_Mo_check_133 rfl ?_
                    refine go_iconst (v := 3) hF d_Mo_check_135 (by decide) ?_
                    refine go_iadd hF d_Mo_check_136 ?_
                    refine go_iload hF d_Mo_check_137 rfl ?_
                    refine gs_ms hF hK hT hlo d_Mo_check_139 h4 (ix1 (k := 3) (ixC (a := 1300) (b := 5) hg.1)) (by omega) ?_
                    refine go_aload_n hF d_Mo_check_140 rfl ?_
                    refine gs_getr hF hK d_Mo_check_141 fl_Mo_7 h4 rfl rfl (by decide) rfl ?_
                    refine go_iload hF d_Mo_check_144 rfl ?_
                    refine go_iconst (v := 4) hF d_Mo_check_146 (by decide) ?_
                    refine go_iadd hF d_Mo_check_147 ?_
                    refine go_iconst (v := 0) hF d_Mo_check_148 (by decide) ?_
                    refine gs_ms hF hK hT hlo d_Mo_check_149 h4 (ix1 (k := 4) (ixC (a := 1300) (b := 5) hg.1)) (by omega) ?_
                    refine go_aload_n hF d_Mo_check_150 rfl ?_
                    refine gs_getr hF hK d_Mo_check_151 fl_Mo_7 h4 rfl rfl (by decide) rfl ?_
                    refine go_iconst (v := 5) hF d_Mo_check_154 (by decide) ?_
                    refine go_dup2 hF d_Mo_check_155 rfl rfl ?_
                    refine gs_md hF hK hT d_Mo_check_156 h4 (show (5 : Int32) = nI 5 from rfl) (by decide) ?_
                    refine go_iconst (v := 1) hF d_Mo_check_157 (by decide) ?_
                    refine go_iadd hF d_Mo_check_158 ?_
                    refine gs_ms hF hK hT hlo d_Mo_check_159 h4 (show (5 : Int32) = nI 5 from rfl) (by decide) ?_
                    refine go_G (G' := gw E B N (mW (sI w 4 0 0 0 0 0) (fu (fu (fu (fu (fu (fu f (1300 + 5 * cK c 0) kd) (1300 + 5 * cK c 0 + 1) ck) (1300 + 5 * cK c 0 + 2) dt) (1300 + 5 * cK c 0 + 3) lm) (1300 + 5 * cK c 0 + 4) 0) 5 (nI (cK c 0 + 1))))) (fun H hG => by
                      simp only [fu_n (show (5 : Nat) ≠ 1300 + 5 * cK c 0 + 4 by omega), fu_n (show (5 : Nat) ≠ 1300 + 5 * cK c 0 + 3 by omega), fu_n (show (5 : Nat) ≠ 1300 + 5 * cK c 0 + 2 by omega), fu_n (show (5 : Nat) ≠ 1300 + 5 * cK c 0 + 1 by omega), fu_n (show (5 : Nat) ≠ 1300 + 5 * cK c 0 by omega), hg.1, nI_1] at hG
                      exact hG) ?_
                    refine go_aload_n hF d_Mo_check_160 rfl ?_
                    refine gs_getr hF hK d_Mo_check_161 fl_Mo_7 h4 rfl rfl (by decide) rfl ?_
                    refine go_iconst (v := 5) hF d_Mo_check_164 (by decide) ?_
                    refine gs_md hF hK hT d_Mo_check_165 h4 (show (5 : Int32) = nI 5 from rfl) (by decide) ?_
                    refine go_iconst (v := 1) hF d_Mo_check_166 (by decide) ?_
                    refine go_isub hF d_Mo_check_167 ?_
                    exact go_iret hF hM d_Mo_check_168 (by decide) (by decide) (fun H hG => ⟨_, _, rfl, fun _ => ⟨by
                      rw [fu_s, nI_pred, ← hg.1, hR.2.1.2.2.2.2.2.1], Rel_achk hR h20 ⟨by rw [h6]; decide, by rw [h6]; decide⟩ (lenOk_rg ⟨not_lt h11, not_lt h19⟩) (isN_vn hR.1 n1) (isN_vn hR.1 n2) (isN_lt hR.1 n1) (isN_lt hR.1 n2)⟩, fun z => absurd hTT z, by rw [hTT]; exact hG⟩)
                  · rw [thr_v] at h82
                    exact absurd (by decide) h82
                · exact absurd h67 (by decide)
              · refine go_iconst (v := 2) hF d_Mo_check_61 (by decide) ?_
                refine go_goto (tgt := 75) hF d_Mo_check_62 (by decide) ?_
                have hg := Rel_k hR
                have hTT : tC c kd ck dt lm = 2 := by
                  unfold tC
                  rw [ifC_t ⟨(Rel_isN hR _).mp (bi_1 h35), (Rel_isN hR _).mp (bi_1 h43)⟩, ← hR.2.1.2.2.2.2.2.1]
                  exact ifC_f (fun z => (ct_ne (m := 20) hg (by decide)).mp z h58)
                refine gs_puti hF hK hlo d_Mo_check_75 fl_Mo_28 ct_Mo fs_Mo_0 h4 rfl rfl (by decide) rfl rfl ?_
                rw [mW_0]
                refine go_aload_n hF d_Mo_check_78 rfl ?_
                refine gs_geti hF hK d_Mo_check_79 fl_Mo_28 h4 rfl rfl (by decide) rfl ?_
                refine go_if_le (tgt := 87) hF d_Mo_check_82 (by decide) (fun h82 => ?_) (fun h82 => ?_)
                · rw [thr_v] at h82
                  exact absurd h82 (by decide)
                · refine go_iconst (v := 0) hF d_Mo_check_85 (by decide) ?_
                  exact go_iret hF hM d_Mo_check_86 (by decide) (by decide) (fun H hG => ⟨f, _, rfl, fun z => absurd (hTT.symm.trans z) (by decide), fun _ => rfl, by rw [hTT]; exact hG⟩)
            · refine go_iconst (v := 1) hF d_Mo_check_46 (by decide) ?_
              refine go_goto (tgt := 75) hF d_Mo_check_47 (by decide) ?_
              have hg := Rel_k hR
              have hTT : tC c kd ck dt lm = 1 := by
                unfold tC
                exact ifC_f (fun z => bi_0 h43 ((Rel_isN hR _).mpr z.2))
              refine gs_puti hF hK hlo d_Mo_check_75 fl_Mo_28 ct_Mo fs_Mo_0 h4 rfl rfl (by decide) rfl rfl ?_
              rw [mW_0]
              refine go_aload_n hF d_Mo_check_78 rfl ?_
              refine gs_geti hF hK d_Mo_check_79 fl_Mo_28 h4 rfl rfl (by decide) rfl ?_
              refine go_if_le (tgt := 87) hF d_Mo_check_82 (by decide) (fun h82 => ?_) (fun h82 => ?_)
              · rw [thr_v] at h82
                exact absurd h82 (by decide)
              · refine go_iconst (v := 0) hF d_Mo_check_85 (by decide) ?_
                exact go_iret hF hM d_Mo_check_86 (by decide) (by decide) (fun H hG => ⟨f, _, rfl, fun z => absurd (hTT.symm.trans z) (by decide), fun _ => rfl, by rw [hTT]; exact hG⟩)
set_option maxHeartbeats 4000000 in
set_option maxRecDepth 100000 in
theorem con_Mo_broken {l : Launch} (hlt : l.stackTraces = false) {E : gE} {B : bsT} {N : nwT} {w : wdT} {f : Nat → Int32} (h4 : N.1 4 0 = true) {K : Nat} {c : wdT} {x : Int32} (hR : Rel K c 0 f) : Con l E y_Mo_broken (Cond.code y_Mo_broken c_Mo_broken 2 (some .int) :: gAll) rm_Mo_broken [.ref (ad B 4 0 0 0), .int x] (gw E B N (mW w f)) (fun v H => ∃ b, v = some (.int b) ∧ (tB c x = 0 → b = wI c 0 0 15 4 (nz x)) ∧ gw E B N (mW (sI w 4 0 0 0 0 (tB c x)) f) H) (fun _ _ => False) 0 0 := by
  refine con_of (by decide) hlt (Nat.le_of_ble_eq_true rfl) ?_
  intro F hF hM htab hnm hE hlo hl
  subst hl
  have hF : Fb F c_Mo_broken R_Mo 2 rm_Mo_broken := hF
  have hK := hE.1
  have hT := hE.2.1
  refine go_lv (lv' := [(0, _), (1, _)]) ⟨rfl, rfl, trivial⟩ ?_
  refine go_aload_n hF d_Mo_broken_0 rfl ?_
  refine go_iload_n hF d_Mo_broken_1 rfl ?_
  refine go_if_lt (tgt := 19) hF d_Mo_broken_2 (by decide) (fun h2 => ?_) (fun h2 => ?_)
  · refine go_iconst (v := 1) hF d_Mo_broken_19 (by decide) ?_
    have hTT : tB c x = 1 := by
      unfold tB
      exact ifC_f (fun z => Int32.lt_irrefl (Int32.lt_of_lt_of_le h2 z.1))
    refine gs_puti hF hK hlo d_Mo_broken_20 fl_Mo_28 ct_Mo fs_Mo_0 h4 rfl rfl (by decide) rfl rfl ?_
    rw [mW_0]
    refine go_aload_n hF d_Mo_broken_23 rfl ?_
    refine gs_geti hF hK d_Mo_broken_24 fl_Mo_28 h4 rfl rfl (by decide) rfl ?_
    refine go_if_le (tgt := 34) hF d_Mo_broken_27 (by decide) (fun h27 => ?_) (fun h27 => ?_)
    · rw [thr_v] at h27
      exact absurd h27 (by decide)
    · refine go_iconst (v := 0) hF d_Mo_broken_30 (by decide) ?_
      refine go_goto (tgt := 48) hF d_Mo_broken_31 (by decide) ?_
      exact go_iret hF hM d_Mo_broken_48 (by decide) (by decide) (fun H hG => ⟨_, rfl, fun z => absurd (hTT.symm.trans z) (by decide), by rw [hTT]; exact hG⟩)
  · refine go_iload_n hF d_Mo_broken_5 rfl ?_
    refine go_aload_n hF d_Mo_broken_6 rfl ?_
    refine gs_getr hF hK d_Mo_broken_7 fl_Mo_7 h4 rfl rfl (by decide) rfl ?_
    refine go_iconst (v := 5) hF d_Mo_broken_10 (by decide) ?_
    refine gs_md hF hK hT d_Mo_broken_11 h4 (show (5 : Int32) = nI 5 from rfl) (by decide) ?_
    refine go_icmp_ge (tgt := 19) hF d_Mo_broken_12 (by decide) (fun h12 => ?_) (fun h12 => ?_)
    · refine go_iconst (v := 1) hF d_Mo_broken_19 (by decide) ?_
      have hTT : tB c x = 1 := by
        unfold tB
        exact ifC_f (fun z => ge_nlt h12 ((Rel_isK hR _).mpr z).2)
      refine gs_puti hF hK hlo d_Mo_broken_20 fl_Mo_28 ct_Mo fs_Mo_0 h4 rfl rfl (by decide) rfl rfl ?_
      rw [mW_0]
      refine go_aload_n hF d_Mo_broken_23 rfl ?_
      refine gs_geti hF hK d_Mo_broken_24 fl_Mo_28 h4 rfl rfl (by decide) rfl ?_
      refine go_if_le (tgt := 34) hF d_Mo_broken_27 (by decide) (fun h27 => ?_) (fun h27 => ?_)
      · rw [thr_v] at h27
        exact absurd h27 (by decide)
      · refine go_iconst (v := 0) hF d_Mo_broken_30 (by decide) ?_
        refine go_goto (tgt := 48) hF d_Mo_broken_31 (by decide) ?_
        exact go_iret hF hM d_Mo_broken_48 (by decide) (by decide) (fun H hG => ⟨_, rfl, fun z => absurd (hTT.symm.trans z) (by decide), by rw [hTT]; exact hG⟩)
    · refine go_iconst (v := 0) hF d_Mo_broken_15 (by decide) ?_
      refine go_goto (tgt := 20) hF d_Mo_broken_16 (by decide) ?_
      have hTT : tB c x = 0 := by
        unfold tB
        exact ifC_t ((Rel_isK hR _).mp ⟨not_lt h2, nle_lt h12⟩)
      refine gs_puti hF hK hlo d_Mo_broken_20 fl_Mo_28 ct_Mo fs_Mo_0 h4 rfl rfl (by decide) rfl rfl ?_
      rw [mW_0]
      refine go_aload_n hF d_Mo_broken_23 rfl ?_
      refine gs_geti hF hK d_Mo_broken_24 fl_Mo_28 h4 rfl rfl (by decide) rfl ?_
      refine go_if_le (tgt := 34) hF d_Mo_broken_27 (by decide) (fun h27 => ?_) (fun h27 => ?_)
      · have hk := (Rel_isK hR _).mp ⟨not_lt h2, nle_lt h12⟩
        have hv := isK_vn hR.1 hk
        refine go_aload_n hF d_Mo_broken_34 rfl ?_
        refine gs_getr hF hK d_Mo_broken_35 fl_Mo_7 h4 rfl rfl (by decide) rfl ?_
        refine go_sipush (v := 1300) hF d_Mo_broken_38 (by decide) ?_
        refine go_iconst (v := 5) hF d_Mo_broken_41 (by decide) ?_
        refine go_iload_n hF d_Mo_broken_42 rfl ?_
        refine go_imul hF d_Mo_broken_43 ?_
        refine go_iadd hF d_Mo_broken_44 ?_
        refine go_iconst (v := 4) hF d_Mo_broken_45 (by decide) ?_
        refine go_iadd hF d_Mo_broken_46 ?_
        refine gs_md hF hK hT d_Mo_broken_47 h4 (ix1 (k := 4) (ixC (a := 1300) (b := 5) hv.1.1)) (by have := hv.1.2; omega) ?_
        exact go_iret hF hM d_Mo_broken_48 (by decide) (by decide) (fun H hG => ⟨_, rfl, fun _ => (hR.2.2.2.2.1 _ hv.2).2.2.2.2.1, by rw [hTT]; exact hG⟩)
      · rw [thr_v] at h27
        exact absurd (by decide) h27
set_option maxHeartbeats 4000000 in
set_option maxRecDepth 100000 in
theorem con_Mo_now {l : Launch} (hlt : l.stackTraces = false) {E : gE} {B : bsT} {N : nwT} {w : wdT} {f : Nat → Int32} (h4 : N.1 4 0 = true) {K : Nat} {c : wdT} (hR : Rel K c 0 f) : Con l E y_Mo_now (Cond.code y_Mo_now c_Mo_now 1 (some .long) :: gAll) rm_Mo_now [.ref (ad B 4 0 0 0)] (gw E B N (mW w f)) (fun v H => v = some (.long (wL c 0 0 0 0 0)) ∧ gw E B N (mW (sI w 4 0 0 0 0 0) f) H) (fun _ _ => False) 0 0 := by
  refine con_of (by decide) hlt (Nat.le_of_ble_eq_true rfl) ?_
  intro F hF hM htab hnm hE hlo hl
  subst hl
  have hF : Fb F c_Mo_now R_Mo 1 rm_Mo_now := hF
  have hK := hE.1
  have hT := hE.2.1
  refine go_lv (lv' := [(0, _)]) ⟨rfl, trivial⟩ ?_
  refine go_aload_n hF d_Mo_now_0 rfl ?_
  refine go_iconst (v := 0) hF d_Mo_now_1 (by decide) ?_
  refine gs_puti hF hK hlo d_Mo_now_2 fl_Mo_28 ct_Mo fs_Mo_0 h4 rfl rfl (by decide) rfl rfl ?_
  rw [mW_0]
  refine go_aload_n hF d_Mo_now_5 rfl ?_
  refine gs_getr hF hK d_Mo_now_6 fl_Mo_7 h4 rfl rfl (by decide) rfl ?_
  refine go_iconst (v := 0) hF d_Mo_now_9 (by decide) ?_
  refine gs_md hF hK hT d_Mo_now_10 h4 (show (0 : Int32) = nI 0 from rfl) (by decide) ?_
  refine go_i2l hF d_Mo_now_11 ?_
  exact go_lret hF hM d_Mo_now_12 (by decide) (by decide) (fun H hG => ⟨by rw [← hR.2.1.1], hG⟩)
set_option maxHeartbeats 4000000 in
set_option maxRecDepth 100000 in
theorem con_Mo_at {l : Launch} (hlt : l.stackTraces = false) {E : gE} {B : bsT} {N : nwT} {w : wdT} {f : Nat → Int32} (h4 : N.1 4 0 = true) {K : Nat} {c : wdT} {n : Int32} {t : Int64} (hR : Rel K c 0 f) : Con l E y_Mo_at (Cond.code y_Mo_at c_Mo_at 6 (some .int) :: gAll) rm_Mo_at [.ref (ad B 4 0 0 0), .int n, .long t] (gw E B N (mW w f)) (fun v H => ∃ b, v = some (.int b) ∧ (tA c n t = 0 → b = latW c 0 n t (cW c 0)) ∧ gw E B N (mW (sI w 4 0 0 0 0 (tA c n t)) f) H) (fun _ _ => False) 0 0 := by
  refine con_of (by decide) hlt (Nat.le_of_ble_eq_true rfl) ?_
  intro F hF hM htab hnm hE hlo hl
  subst hl
  have hF : Fb F c_Mo_at R_Mo 6 rm_Mo_at := hF
  have hK := hE.1
  have hT := hE.2.1
  refine go_lv (lv' := [(0, _), (1, _), (2, _)]) ⟨rfl, rfl, rfl, trivial⟩ ?_
  have L45 : tA c n t = 0 → ∀ m p : Nat, cW c 0 - p = m → p ≤ cW c 0 → Go F 45 [(0, .ref (ad B 4 0 0 0)), (1, .int n), (2, .long t), (4, .int (latW c 0 n t p)), (5, .int (nI p))] [] (gw E B N (mW (sI w 4 0 0 0 0 0) f)) 0 0 := by
    intro hTT
    intro m
    induction m using Nat.strongRecOn with
    | _ m ih =>
      intro p hm hp
      have hg := Rel_w hR
      refine go_aload_n hF d_Mo_at_45 rfl ?_
      refine gs_geti hF hK d_Mo_at_46 fl_Mo_28 h4 rfl rfl (by decide) rfl ?_
      refine go_if_ne (tgt := 130) hF d_Mo_at_49 (by decide) (fun h49 => ?_) (fun h49 => ?_)
      · rw [thr_v] at h49
        exact absurd rfl h49
      · refine go_iload hF d_Mo_at_52 rfl ?_
        refine go_aload_n hF d_Mo_at_54 rfl ?_
        refine gs_getr hF hK d_Mo_at_55 fl_Mo_7 h4 rfl rfl (by decide) rfl ?_
        refine go_bipush (v := 6) hF d_Mo_at_58 (by decide) ?_
        refine gs_md hF hK hT d_Mo_at_60 h4 (show (6 : Int32) = nI 6 from rfl) (by decide) ?_
        refine go_icmp_ge (tgt := 130) hF d_Mo_at_61 (by decide) (fun h61 => ?_) (fun h61 => ?_)
        · refine go_aload_n hF d_Mo_at_130 rfl ?_
          refine gs_geti hF hK d_Mo_at_131 fl_Mo_28 h4 rfl rfl (by decide) rfl ?_
          refine go_if_le (tgt := 141) hF d_Mo_at_134 (by decide) (fun h134 => ?_) (fun h134 => ?_)
          · refine go_iload hF d_Mo_at_141 rfl ?_
            exact go_iret hF hM d_Mo_at_143 (by decide) (by decide) (fun H hG => ⟨_, rfl, fun _ => by have e := nI_g2 hg (by decide) hp h61; subst e; rfl, by rw [hTT]; exact hG⟩)
          · rw [thr_v] at h134
            exact absurd (by decide) h134
        · have hp2 : p < cW c 0 := nI_l2 hg (by decide) hp h61
          refine go_aload_n hF d_Mo_at_64 rfl ?_
          refine gs_getr hF hK d_Mo_at_65 fl_Mo_7 h4 rfl rfl (by decide) rfl ?_
          refine go_sipush (v := 1450) hF d_Mo_at_68 (by decide) ?_
          refine go_iconst (v := 3) hF d_Mo_at_71 (by decide) ?_
          refine go_iload hF d_Mo_at_72 rfl ?_
          refine go_imul hF d_Mo_at_74 ?_
          refine go_iadd hF d_Mo_at_75 ?_
          refine go_iconst (v := 1) hF d_Mo_at_76 (by decide) ?_
          refine go_iadd hF d_Mo_at_77 ?_
          refine gs_md hF hK hT d_Mo_at_78 h4 (ix1 (k := 1) (ixC (a := 1450) (b := 3) (n := p) rfl)) (by have := hg.2; omega) ?_
          refine go_iload_n hF d_Mo_at_79 rfl ?_
          refine go_icmp_ne (tgt := 120) hF d_Mo_at_80 (by decide) (fun h80 => ?_) (fun h80 => ?_)
          · refine go_iload hF d_Mo_at_120 rfl ?_
            refine go_istore hF d_Mo_at_122 (by decide) ?_
            refine go_lv (lv' := [(0, _), (1, _), (2, _), (4, _), (5, _)]) ⟨rfl, rfl, rfl, rfl, rfl, trivial⟩ ?_
            refine go_iincN hF d_Mo_at_124 rfl (by decide) ?_
            refine go_lv (lv' := [(0, _), (1, _), (2, _), (4, _), (5, _)]) ⟨rfl, rfl, rfl, rfl, rfl, trivial⟩ ?_
            refine go_goto (tgt := 45) hF d_Mo_at_127 (by decide) ?_
            have hq := hR.2.2.2.2.2.2 p hp2
            refine go_lv (lv' := [(0, _), (1, _), (2, _), (4, .int (latW c 0 n t (p + 1))), (5, .int (nI (p + 1)))]) ⟨rfl, rfl, rfl, by rw [latW_s, if_neg (fun z => h80 (by rw [hq.2.1]; exact z.1))]; rfl, rfl, trivial⟩ ?_
            exact ih _ (by omega) (p + 1) rfl (by omega)
          · refine go_aload_n hF d_Mo_at_83 rfl ?_
            refine gs_getr hF hK d_Mo_at_84 fl_Mo_7 h4 rfl rfl (by decide) rfl ?_
            refine go_sipush (v := 1450) hF d_Mo_at_87 (by decide) ?_
            refine go_iconst (v := 3) hF d_Mo_at_90 (by decide) ?_
            refine go_iload hF d_Mo_at_91 rfl ?_
            refine go_imul hF d_Mo_at_93 ?_
            refine go_iadd hF d_Mo_at_94 ?_
            refine gs_md hF hK hT d_Mo_at_95 h4 (show _ = nI (1450 + 3 * p + 0) from ixC (a := 1450) (b := 3) (n := p) rfl) (by have := hg.2; omega) ?_
            refine go_i2l hF d_Mo_at_96 ?_
            refine go_lload_n hF d_Mo_at_97 rfl ?_
            refine go_lif_gt (tgt := 120) hF d_Mo_at_98 d_Mo_at_99 (by decide) (fun h98 => ?_) (fun h98 => ?_)
            · refine go_iload hF d_Mo_at_120 rfl ?_
              refine go_istore hF d_Mo_at_122 (by decide) ?_
              refine go_lv (lv' := [(0, _), (1, _), (2, _), (4, _), (5, _)]) ⟨rfl, rfl, rfl, rfl, rfl, trivial⟩ ?_
              refine go_iincN hF d_Mo_at_124 rfl (by decide) ?_
              refine go_lv (lv' := [(0, _), (1, _), (2, _), (4, _), (5, _)]) ⟨rfl, rfl, rfl, rfl, rfl, trivial⟩ ?_
              refine go_goto (tgt := 45) hF d_Mo_at_127 (by decide) ?_
              have hq := hR.2.2.2.2.2.2 p hp2
              refine go_lv (lv' := [(0, _), (1, _), (2, _), (4, .int (latW c 0 n t (p + 1))), (5, .int (nI (p + 1)))]) ⟨rfl, rfl, rfl, by rw [latW_s, if_neg (fun z => z.2 (by rw [← hq.1]; exact h98))]; rfl, rfl, trivial⟩ ?_
              exact ih _ (by omega) (p + 1) rfl (by omega)
            · refine go_aload_n hF d_Mo_at_102 rfl ?_
              refine gs_getr hF hK d_Mo_at_103 fl_Mo_7 h4 rfl rfl (by decide) rfl ?_
              refine go_sipush (v := 1450) hF d_Mo_at_106 (by decide) ?_
              refine go_iconst (v := 3) hF d_Mo_at_109 (by decide) ?_
              refine go_iload hF d_Mo_at_110 rfl ?_
              refine go_imul hF d_Mo_at_112 ?_
              refine go_iadd hF d_Mo_at_113 ?_
              refine go_iconst (v := 2) hF d_Mo_at_114 (by decide) ?_
              refine go_iadd hF d_Mo_at_115 ?_
              refine gs_md hF hK hT d_Mo_at_116 h4 (ix1 (k := 2) (ixC (a := 1450) (b := 3) (n := p) rfl)) (by have := hg.2; omega) ?_
              refine go_goto (tgt := 122) hF d_Mo_at_117 (by decide) ?_
              refine go_istore hF d_Mo_at_122 (by decide) ?_
              refine go_lv (lv' := [(0, _), (1, _), (2, _), (4, _), (5, _)]) ⟨rfl, rfl, rfl, rfl, rfl, trivial⟩ ?_
              refine go_iincN hF d_Mo_at_124 rfl (by decide) ?_
              refine go_lv (lv' := [(0, _), (1, _), (2, _), (4, _), (5, _)]) ⟨rfl, rfl, rfl, rfl, rfl, trivial⟩ ?_
              refine go_goto (tgt := 45) hF d_Mo_at_127 (by decide) ?_
              have hq := hR.2.2.2.2.2.2 p hp2
              refine go_lv (lv' := [(0, _), (1, _), (2, _), (4, .int (latW c 0 n t (p + 1))), (5, .int (nI (p + 1)))]) ⟨rfl, rfl, rfl, by rw [latW_s, if_pos ⟨by rw [← hq.2.1]; exact h80, by rw [← hq.1]; exact h98⟩]; rw [← hq.2.2.1]; rfl, rfl, trivial⟩ ?_
              exact ih _ (by omega) (p + 1) rfl (by omega)
  refine go_aload_n hF d_Mo_at_0 rfl ?_
  refine go_aload_n hF d_Mo_at_1 rfl ?_
  refine go_iload_n hF d_Mo_at_2 rfl ?_
  refine go_callVX hF hE hlo d_Mo_at_3 (con_Mo_isNet hlt h4 n) mt_Mo_isNet mv_Mo_isNet lk_Mo_70 ⟨rfl, rfl, by decide, by decide⟩ rfl (Nat.le_of_ble_eq_true rfl) ⟨by decide, by decide⟩ (fun H hG => gw_recv (q := (R_Mo, T_Mo, 9)) hK hG h4 rfl rfl (by decide) rfl) (fun M => gx_no) rfl (fun v => ?_)
  refine go_and (fun hv => ?_)
  subst hv
  refine go_if_ne (tgt := 13) hF d_Mo_at_6 (by decide) (fun h6 => ?_) (fun h6 => ?_)
  · refine go_lload_n hF d_Mo_at_13 rfl ?_
    refine go_lconst (v := 0) hF d_Mo_at_14 (by decide) ?_
    refine go_lif_lt (tgt := 31) hF d_Mo_at_15 d_Mo_at_16 (by decide) (fun h15 => ?_) (fun h15 => ?_)
    · refine go_iconst (v := 2) hF d_Mo_at_31 (by decide) ?_
      refine go_goto (tgt := 36) hF d_Mo_at_32 (by decide) ?_
      have hTT : tA c n t = 2 := by
        unfold tA
        rw [ifC_t ((Rel_isN hR _).mp (bi_1 h6)), ← hR.2.1.1]
        exact ifC_f (fun z => Int64.lt_irrefl (Int64.lt_of_lt_of_le h15 z.1))
      refine gs_puti hF hK hlo d_Mo_at_36 fl_Mo_28 ct_Mo fs_Mo_0 h4 rfl rfl (by decide) rfl rfl ?_
      rw [mW_0]
      refine go_iconst (v := 2) hF d_Mo_at_39 (by decide) ?_
      refine go_istore hF d_Mo_at_40 (by decide) ?_
      refine go_lv (lv' := [(0, _), (1, _), (2, _), (4, _)]) ⟨rfl, rfl, rfl, rfl, trivial⟩ ?_
      refine go_iconst (v := 0) hF d_Mo_at_42 (by decide) ?_
      refine go_istore hF d_Mo_at_43 (by decide) ?_
      refine go_lv (lv' := [(0, _), (1, _), (2, _), (4, _), (5, _)]) ⟨rfl, rfl, rfl, rfl, rfl, trivial⟩ ?_
      refine go_aload_n hF d_Mo_at_45 rfl ?_
      refine gs_geti hF hK d_Mo_at_46 fl_Mo_28 h4 rfl rfl (by decide) rfl ?_
      refine go_if_ne (tgt := 130) hF d_Mo_at_49 (by decide) (fun h49 => ?_) (fun h49 => ?_)
      · refine go_aload_n hF d_Mo_at_130 rfl ?_
        refine gs_geti hF hK d_Mo_at_131 fl_Mo_28 h4 rfl rfl (by decide) rfl ?_
        refine go_if_le (tgt := 141) hF d_Mo_at_134 (by decide) (fun h134 => ?_) (fun h134 => ?_)
        · rw [thr_v] at h134
          exact absurd h134 (by decide)
        · refine go_iconst (v := 0) hF d_Mo_at_137 (by decide) ?_
          refine go_goto (tgt := 143) hF d_Mo_at_138 (by decide) ?_
          exact go_iret hF hM d_Mo_at_143 (by decide) (by decide) (fun H hG => ⟨_, rfl, fun z => absurd (hTT.symm.trans z) (by decide), by rw [hTT]; exact hG⟩)
      · rw [thr_v] at h49
        exact absurd h49 (by decide)
    · refine go_lload_n hF d_Mo_at_19 rfl ?_
      refine go_aload_n hF d_Mo_at_20 rfl ?_
      refine gs_getr hF hK d_Mo_at_21 fl_Mo_7 h4 rfl rfl (by decide) rfl ?_
      refine go_iconst (v := 0) hF d_Mo_at_24 (by decide) ?_
      refine gs_md hF hK hT d_Mo_at_25 h4 (show (0 : Int32) = nI 0 from rfl) (by decide) ?_
      refine go_i2l hF d_Mo_at_26 ?_
      refine go_lif_le (tgt := 35) hF d_Mo_at_27 d_Mo_at_28 (by decide) (fun h27 => ?_) (fun h27 => ?_)
      · refine go_iconst (v := 0) hF d_Mo_at_35 (by decide) ?_
        have hTT : tA c n t = 0 := by
          unfold tA
          rw [ifC_t ((Rel_isN hR _).mp (bi_1 h6)), ← hR.2.1.1]
          exact ifC_t ⟨nlt64 h15, h27⟩
        refine gs_puti hF hK hlo d_Mo_at_36 fl_Mo_28 ct_Mo fs_Mo_0 h4 rfl rfl (by decide) rfl rfl ?_
        rw [mW_0]
        refine go_iconst (v := 2) hF d_Mo_at_39 (by decide) ?_
        refine go_istore hF d_Mo_at_40 (by decide) ?_
        refine go_lv (lv' := [(0, _), (1, _), (2, _), (4, _)]) ⟨rfl, rfl, rfl, rfl, trivial⟩ ?_
        refine go_iconst (v := 0) hF d_Mo_at_42 (by decide) ?_
        refine go_istore hF d_Mo_at_43 (by decide) ?_
        refine go_lv (lv' := [(0, _), (1, _), (2, _), (4, _), (5, _)]) ⟨rfl, rfl, rfl, rfl, rfl, trivial⟩ ?_
        exact L45 hTT _ 0 rfl (Nat.zero_le _)
      · refine go_iconst (v := 2) hF d_Mo_at_31 (by decide) ?_
        refine go_goto (tgt := 36) hF d_Mo_at_32 (by decide) ?_
        have hTT : tA c n t = 2 := by
          unfold tA
          rw [ifC_t ((Rel_isN hR _).mp (bi_1 h6)), ← hR.2.1.1]
          exact ifC_f (fun z => h27 z.2)
        refine gs_puti hF hK hlo d_Mo_at_36 fl_Mo_28 ct_Mo fs_Mo_0 h4 rfl rfl (by decide) rfl rfl ?_
        rw [mW_0]
        refine go_iconst (v := 2) hF d_Mo_at_39 (by decide) ?_
        refine go_istore hF d_Mo_at_40 (by decide) ?_
        refine go_lv (lv' := [(0, _), (1, _), (2, _), (4, _)]) ⟨rfl, rfl, rfl, rfl, trivial⟩ ?_
        refine go_iconst (v := 0) hF d_Mo_at_42 (by decide) ?_
        refine go_istore hF d_Mo_at_43 (by decide) ?_
        refine go_lv (lv' := [(0, _), (1, _), (2, _), (4, _), (5, _)]) ⟨rfl, rfl, rfl, rfl, rfl, trivial⟩ ?_
        refine go_aload_n hF d_Mo_at_45 rfl ?_
        refine gs_geti hF hK d_Mo_at_46 fl_Mo_28 h4 rfl rfl (by decide) rfl ?_
        refine go_if_ne (tgt := 130) hF d_Mo_at_49 (by decide) (fun h49 => ?_) (fun h49 => ?_)
        · refine go_aload_n hF d_Mo_at_130 rfl ?_
          refine gs_geti hF hK d_Mo_at_131 fl_Mo_28 h4 rfl rfl (by decide) rfl ?_
          refine go_if_le (tgt := 141) hF d_Mo_at_134 (by decide) (fun h134 => ?_) (fun h134 => ?_)
          · rw [thr_v] at h134
            exact absurd h134 (by decide)
          · refine go_iconst (v := 0) hF d_Mo_at_137 (by decide) ?_
            refine go_goto (tgt := 143) hF d_Mo_at_138 (by decide) ?_
            exact go_iret hF hM d_Mo_at_143 (by decide) (by decide) (fun H hG => ⟨_, rfl, fun z => absurd (hTT.symm.trans z) (by decide), by rw [hTT]; exact hG⟩)
        · rw [thr_v] at h49
          exact absurd h49 (by decide)
  · refine go_iconst (v := 1) hF d_Mo_at_9 (by decide) ?_
    refine go_goto (tgt := 36) hF d_Mo_at_10 (by decide) ?_
    have hTT : tA c n t = 1 := by
      unfold tA
      exact ifC_f (fun z => bi_0 h6 ((Rel_isN hR _).mpr z))
    refine gs_puti hF hK hlo d_Mo_at_36 fl_Mo_28 ct_Mo fs_Mo_0 h4 rfl rfl (by decide) rfl rfl ?_
    rw [mW_0]
    refine go_iconst (v := 2) hF d_Mo_at_39 (by decide) ?_
    refine go_istore hF d_Mo_at_40 (by decide) ?_
    refine go_lv (lv' := [(0, _), (1, _), (2, _), (4, _)]) ⟨rfl, rfl, rfl, rfl, trivial⟩ ?_
    refine go_iconst (v := 0) hF d_Mo_at_42 (by decide) ?_
    refine go_istore hF d_Mo_at_43 (by decide) ?_
    refine go_lv (lv' := [(0, _), (1, _), (2, _), (4, _), (5, _)]) ⟨rfl, rfl, rfl, rfl, rfl, trivial⟩ ?_
    refine go_aload_n hF d_Mo_at_45 rfl ?_
    refine gs_geti hF hK d_Mo_at_46 fl_Mo_28 h4 rfl rfl (by decide) rfl ?_
    refine go_if_ne (tgt := 130) hF d_Mo_at_49 (by decide) (fun h49 => ?_) (fun h49 => ?_)
    · refine go_aload_n hF d_Mo_at_130 rfl ?_
      refine gs_geti hF hK d_Mo_at_131 fl_Mo_28 h4 rfl rfl (by decide) rfl ?_
      refine go_if_le (tgt := 141) hF d_Mo_at_134 (by decide) (fun h134 => ?_) (fun h134 => ?_)
      · rw [thr_v] at h134
        exact absurd h134 (by decide)
      · refine go_iconst (v := 0) hF d_Mo_at_137 (by decide) ?_
        refine go_goto (tgt := 143) hF d_Mo_at_138 (by decide) ?_
        exact go_iret hF hM d_Mo_at_143 (by decide) (by decide) (fun H hG => ⟨_, rfl, fun z => absurd (hTT.symm.trans z) (by decide), by rw [hTT]; exact hG⟩)
    · rw [thr_v] at h49
      exact absurd h49 (by decide)
set_option maxHeartbeats 4000000 in
set_option maxRecDepth 100000 in
theorem con_Mo_value {l : Launch} (hlt : l.stackTraces = false) {E : gE} {B : bsT} {N : nwT} {w : wdT} {f : Nat → Int32} (h4 : N.1 4 0 = true) {K : Nat} {c : wdT} {n : Int32} (hR : Rel K c 0 f) : Con l E y_Mo_value (Cond.code y_Mo_value c_Mo_value 2 (some .int) :: gAll) rm_Mo_value [.ref (ad B 4 0 0 0), .int n] (gw E B N (mW w f)) (fun v H => ∃ b, v = some (.int b) ∧ (tV c n = 0 → b = wI c 0 0 13 2 (nz n)) ∧ gw E B N (mW (sI w 4 0 0 0 0 (tV c n)) f) H) (fun _ _ => False) 0 0 := by
  refine con_of (by decide) hlt (Nat.le_of_ble_eq_true rfl) ?_
  intro F hF hM htab hnm hE hlo hl
  subst hl
  have hF : Fb F c_Mo_value R_Mo 2 rm_Mo_value := hF
  have hK := hE.1
  have hT := hE.2.1
  refine go_lv (lv' := [(0, _), (1, _)]) ⟨rfl, rfl, trivial⟩ ?_
  refine go_aload_n hF d_Mo_value_0 rfl ?_
  refine go_aload_n hF d_Mo_value_1 rfl ?_
  refine go_iload_n hF d_Mo_value_2 rfl ?_
  refine go_callVX hF hE hlo d_Mo_value_3 (con_Mo_isNet hlt h4 n) mt_Mo_isNet mv_Mo_isNet lk_Mo_70 ⟨rfl, rfl, by decide, by decide⟩ rfl (Nat.le_of_ble_eq_true rfl) ⟨by decide, by decide⟩ (fun H hG => gw_recv (q := (R_Mo, T_Mo, 9)) hK hG h4 rfl rfl (by decide) rfl) (fun M => gx_no) rfl (fun v => ?_)
  refine go_and (fun hv => ?_)
  subst hv
  refine go_if_eq (tgt := 13) hF d_Mo_value_6 (by decide) (fun h6 => ?_) (fun h6 => ?_)
  · refine go_iconst (v := 1) hF d_Mo_value_13 (by decide) ?_
    have hTT : tV c n = 1 := by
      unfold tV
      exact ifC_f (fun z => bi_0 h6 ((Rel_isN hR _).mpr z))
    refine gs_puti hF hK hlo d_Mo_value_14 fl_Mo_28 ct_Mo fs_Mo_0 h4 rfl rfl (by decide) rfl rfl ?_
    rw [mW_0]
    refine go_aload_n hF d_Mo_value_17 rfl ?_
    refine gs_geti hF hK d_Mo_value_18 fl_Mo_28 h4 rfl rfl (by decide) rfl ?_
    refine go_if_le (tgt := 28) hF d_Mo_value_21 (by decide) (fun h21 => ?_) (fun h21 => ?_)
    · rw [thr_v] at h21
      exact absurd h21 (by decide)
    · refine go_iconst (v := 0) hF d_Mo_value_24 (by decide) ?_
      refine go_goto (tgt := 34) hF d_Mo_value_25 (by decide) ?_
      exact go_iret hF hM d_Mo_value_34 (by decide) (by decide) (fun H hG => ⟨_, rfl, fun z => absurd (hTT.symm.trans z) (by decide), by rw [hTT]; exact hG⟩)
  · refine go_iconst (v := 0) hF d_Mo_value_9 (by decide) ?_
    refine go_goto (tgt := 14) hF d_Mo_value_10 (by decide) ?_
    have hTT : tV c n = 0 := by
      unfold tV
      exact ifC_t ((Rel_isN hR _).mp (bi_1 h6))
    refine gs_puti hF hK hlo d_Mo_value_14 fl_Mo_28 ct_Mo fs_Mo_0 h4 rfl rfl (by decide) rfl rfl ?_
    rw [mW_0]
    refine go_aload_n hF d_Mo_value_17 rfl ?_
    refine gs_geti hF hK d_Mo_value_18 fl_Mo_28 h4 rfl rfl (by decide) rfl ?_
    refine go_if_le (tgt := 28) hF d_Mo_value_21 (by decide) (fun h21 => ?_) (fun h21 => ?_)
    · have nn := (Rel_isN hR _).mp (bi_1 h6)
      have vv := isN_vn hR.1 nn
      have hq := hR.2.2.1 _ (isN_lt hR.1 nn)
      refine go_aload_n hF d_Mo_value_28 rfl ?_
      refine go_iload_n hF d_Mo_value_29 rfl ?_
      refine go_iconst (v := 0) hF d_Mo_value_30 (by decide) ?_
      refine go_callVX hF hE hlo d_Mo_value_31 (con_Mo_ofNet hlt h4 (k := 0) vv.1 vv.2 rfl (by decide)) mt_Mo_ofNet mv_Mo_ofNet lk_Mo_32 ⟨rfl, rfl, by decide, by decide⟩ rfl (Nat.le_of_ble_eq_true rfl) ⟨by decide, by decide⟩ (fun H hG => gw_recv (q := (R_Mo, T_Mo, 9)) hK hG h4 rfl rfl (by decide) rfl) (fun M => gx_no) rfl (fun v => ?_)
      refine go_and (fun hv => ?_)
      subst hv
      exact go_iret hF hM d_Mo_value_34 (by decide) (by decide) (fun H hG => ⟨_, rfl, fun _ => hq.1, by rw [hTT]; exact hG⟩)
    · rw [thr_v] at h21
      exact absurd (by decide) h21
set_option maxHeartbeats 4000000 in
set_option maxRecDepth 100000 in
theorem con_Mo_counted {l : Launch} (hlt : l.stackTraces = false) {E : gE} {B : bsT} {N : nwT} {w : wdT} {f : Nat → Int32} (h4 : N.1 4 0 = true) {K : Nat} {c : wdT} {n : Int32} (hR : Rel K c 0 f) : Con l E y_Mo_counted (Cond.code y_Mo_counted c_Mo_counted 2 (some .long) :: gAll) rm_Mo_counted [.ref (ad B 4 0 0 0), .int n] (gw E B N (mW w f)) (fun v H => ∃ b, v = some (.long b) ∧ (tV c n = 0 → b = wL c 0 0 13 3 (nz n)) ∧ gw E B N (mW (sI w 4 0 0 0 0 (tV c n)) f) H) (fun _ _ => False) 0 0 := by
  refine con_of (by decide) hlt (Nat.le_of_ble_eq_true rfl) ?_
  intro F hF hM htab hnm hE hlo hl
  subst hl
  have hF : Fb F c_Mo_counted R_Mo 2 rm_Mo_counted := hF
  have hK := hE.1
  have hT := hE.2.1
  refine go_lv (lv' := [(0, _), (1, _)]) ⟨rfl, rfl, trivial⟩ ?_
  refine go_aload_n hF d_Mo_counted_0 rfl ?_
  refine go_aload_n hF d_Mo_counted_1 rfl ?_
  refine go_iload_n hF d_Mo_counted_2 rfl ?_
  refine go_callVX hF hE hlo d_Mo_counted_3 (con_Mo_isNet hlt h4 n) mt_Mo_isNet mv_Mo_isNet lk_Mo_70 ⟨rfl, rfl, by decide, by decide⟩ rfl (Nat.le_of_ble_eq_true rfl) ⟨by decide, by decide⟩ (fun H hG => gw_recv (q := (R_Mo, T_Mo, 9)) hK hG h4 rfl rfl (by decide) rfl) (fun M => gx_no) rfl (fun v => ?_)
  refine go_and (fun hv => ?_)
  subst hv
  refine go_if_eq (tgt := 13) hF d_Mo_counted_6 (by decide) (fun h6 => ?_) (fun h6 => ?_)
  · refine go_iconst (v := 1) hF d_Mo_counted_13 (by decide) ?_
    have hTT : tV c n = 1 := by
      unfold tV
      exact ifC_f (fun z => bi_0 h6 ((Rel_isN hR _).mpr z))
    refine gs_puti hF hK hlo d_Mo_counted_14 fl_Mo_28 ct_Mo fs_Mo_0 h4 rfl rfl (by decide) rfl rfl ?_
    rw [mW_0]
    refine go_aload_n hF d_Mo_counted_17 rfl ?_
    refine gs_geti hF hK d_Mo_counted_18 fl_Mo_28 h4 rfl rfl (by decide) rfl ?_
    refine go_if_le (tgt := 28) hF d_Mo_counted_21 (by decide) (fun h21 => ?_) (fun h21 => ?_)
    · rw [thr_v] at h21
      exact absurd h21 (by decide)
    · refine go_lconst (v := 0) hF d_Mo_counted_24 (by decide) ?_
      refine go_goto (tgt := 35) hF d_Mo_counted_25 (by decide) ?_
      exact go_lret hF hM d_Mo_counted_35 (by decide) (by decide) (fun H hG => ⟨_, rfl, fun z => absurd (hTT.symm.trans z) (by decide), by rw [hTT]; exact hG⟩)
  · refine go_iconst (v := 0) hF d_Mo_counted_9 (by decide) ?_
    refine go_goto (tgt := 14) hF d_Mo_counted_10 (by decide) ?_
    have hTT : tV c n = 0 := by
      unfold tV
      exact ifC_t ((Rel_isN hR _).mp (bi_1 h6))
    refine gs_puti hF hK hlo d_Mo_counted_14 fl_Mo_28 ct_Mo fs_Mo_0 h4 rfl rfl (by decide) rfl rfl ?_
    rw [mW_0]
    refine go_aload_n hF d_Mo_counted_17 rfl ?_
    refine gs_geti hF hK d_Mo_counted_18 fl_Mo_28 h4 rfl rfl (by decide) rfl ?_
    refine go_if_le (tgt := 28) hF d_Mo_counted_21 (by decide) (fun h21 => ?_) (fun h21 => ?_)
    · have nn := (Rel_isN hR _).mp (bi_1 h6)
      have vv := isN_vn hR.1 nn
      have hq := hR.2.2.1 _ (isN_lt hR.1 nn)
      refine go_aload_n hF d_Mo_counted_28 rfl ?_
      refine go_iload_n hF d_Mo_counted_29 rfl ?_
      refine go_iconst (v := 4) hF d_Mo_counted_30 (by decide) ?_
      refine go_callVX hF hE hlo d_Mo_counted_31 (con_Mo_ofNet hlt h4 (k := 4) vv.1 vv.2 rfl (by decide)) mt_Mo_ofNet mv_Mo_ofNet lk_Mo_32 ⟨rfl, rfl, by decide, by decide⟩ rfl (Nat.le_of_ble_eq_true rfl) ⟨by decide, by decide⟩ (fun H hG => gw_recv (q := (R_Mo, T_Mo, 9)) hK hG h4 rfl rfl (by decide) rfl) (fun M => gx_no) rfl (fun v => ?_)
      refine go_and (fun hv => ?_)
      subst hv
      refine go_i2l hF d_Mo_counted_34 ?_
      exact go_lret hF hM d_Mo_counted_35 (by decide) (by decide) (fun H hG => ⟨_, rfl, fun _ => hq.2.2.2.1, by rw [hTT]; exact hG⟩)
    · rw [thr_v] at h21
      exact absurd (by decide) h21
set_option maxHeartbeats 4000000 in
set_option maxRecDepth 100000 in
theorem con_Mo_levels {l : Launch} (hlt : l.stackTraces = false) {E : gE} {B : bsT} {N : nwT} {w : wdT} {f : Nat → Int32} (h4 : N.1 4 0 = true) {K : Nat} {c : wdT} (hR : Rel K c 0 f) : Con l E y_Mo_levels (Cond.code y_Mo_levels c_Mo_levels 3 (some .int) :: gAll) rm_Mo_levels [.ref (ad B 4 0 0 0)] (gw E B N (mW w f)) (fun v H => v = some (.int (nI (uns c 0 (cG c 0)))) ∧ gw E B N (mW (sI w 4 0 0 0 0 0) f) H) (fun _ _ => False) 0 0 := by
  refine con_of (by decide) hlt (Nat.le_of_ble_eq_true rfl) ?_
  intro F hF hM htab hnm hE hlo hl
  subst hl
  have hF : Fb F c_Mo_levels R_Mo 3 rm_Mo_levels := hF
  have hK := hE.1
  have hT := hE.2.1
  refine go_lv (lv' := [(0, _)]) ⟨rfl, trivial⟩ ?_
  have L9 : ∀ m p : Nat, cG c 0 - p = m → p ≤ cG c 0 → Go F 9 [(0, .ref (ad B 4 0 0 0)), (1, .int (nI (uns c 0 p))), (2, .int (nI p))] [] (gw E B N (mW (sI w 4 0 0 0 0 0) f)) 0 0 := by
    intro m
    induction m using Nat.strongRecOn with
    | _ m ih =>
      intro p hm hp
      have hg := Rel_g hR
      refine go_iload_n hF d_Mo_levels_9 rfl ?_
      refine go_aload_n hF d_Mo_levels_10 rfl ?_
      refine gs_getr hF hK d_Mo_levels_11 fl_Mo_7 h4 rfl rfl (by decide) rfl ?_
      refine go_iconst (v := 3) hF d_Mo_levels_14 (by decide) ?_
      refine gs_md hF hK hT d_Mo_levels_15 h4 (show (3 : Int32) = nI 3 from rfl) (by decide) ?_
      refine go_icmp_ge (tgt := 58) hF d_Mo_levels_16 (by decide) (fun h16 => ?_) (fun h16 => ?_)
      · refine go_iload_n hF d_Mo_levels_58 rfl ?_
        exact go_iret hF hM d_Mo_levels_59 (by decide) (by decide) (fun H hG => ⟨by have e := nI_g2 hg (by decide) hp h16; subst e; rfl, hG⟩)
      · have hp2 : p < cG c 0 := nI_l2 hg (by decide) hp h16
        have hva := Rel_va hR hp2
        have hgv := Rel_gv hR hp2
        have hq := hR.2.2.2.1 p hp2
        refine go_aload_n hF d_Mo_levels_19 rfl ?_
        refine go_iload_n hF d_Mo_levels_20 rfl ?_
        refine go_iconst (v := 0) hF d_Mo_levels_21 (by decide) ?_
        refine go_callVX hF hE hlo d_Mo_levels_22 (con_Mo_ofGate hlt h4 (k := 0) rfl (by have := hg.2; omega) rfl (by decide)) mt_Mo_ofGate mv_Mo_ofGate lk_Mo_36 ⟨rfl, rfl, by decide, by decide⟩ rfl (Nat.le_of_ble_eq_true rfl) ⟨by decide, by decide⟩ (fun H hG => gw_recv (q := (R_Mo, T_Mo, 9)) hK hG h4 rfl rfl (by decide) rfl) (fun M => gx_no) rfl (fun v => ?_)
        refine go_and (fun hv => ?_)
        subst hv
        refine go_iconst (v := 4) hF d_Mo_levels_25 (by decide) ?_
        refine go_icmp_gt (tgt := 50) hF d_Mo_levels_26 (by decide) (fun h26 => ?_) (fun h26 => ?_)
        · refine go_iload_n hF d_Mo_levels_50 rfl ?_
          refine go_istore_n hF d_Mo_levels_51 (by decide) ?_
          refine go_lv (lv' := [(0, _), (1, _), (2, _)]) ⟨rfl, rfl, rfl, trivial⟩ ?_
          refine go_iincN hF d_Mo_levels_52 rfl (by decide) ?_
          refine go_lv (lv' := [(0, _), (1, _), (2, _)]) ⟨rfl, rfl, rfl, trivial⟩ ?_
          refine go_goto (tgt := 9) hF d_Mo_levels_55 (by decide) ?_
          refine go_lv (lv' := [(0, _), (1, .int (nI (uns c 0 (p + 1)))), (2, .int (nI (p + 1)))]) ⟨rfl, by rw [uns_s, if_neg (fun z => z.1 (by rw [← hq.1.1]; exact h26))]; rfl, rfl, trivial⟩ ?_
          exact ih _ (by omega) (p + 1) rfl (by omega)
        · refine go_aload_n hF d_Mo_levels_29 rfl ?_
          refine go_iload_n hF d_Mo_levels_30 rfl ?_
          refine go_bipush (v := 6) hF d_Mo_levels_31 (by decide) ?_
          refine go_callVX hF hE hlo d_Mo_levels_33 (con_Mo_ofGate hlt h4 (k := 6) rfl (by have := hg.2; omega) rfl (by decide)) mt_Mo_ofGate mv_Mo_ofGate lk_Mo_36 ⟨rfl, rfl, by decide, by decide⟩ rfl (Nat.le_of_ble_eq_true rfl) ⟨by decide, by decide⟩ (fun H hG => gw_recv (q := (R_Mo, T_Mo, 9)) hK hG h4 rfl rfl (by decide) rfl) (fun M => gx_no) rfl (fun v => ?_)
          refine go_and (fun hv => ?_)
          subst hv
          refine go_aload_n hF d_Mo_levels_36 rfl ?_
          refine go_iload_n hF d_Mo_levels_37 rfl ?_
          refine go_callVX hF hE hlo d_Mo_levels_38 (con_Mo_gives hlt h4 rfl (by have := hg.2; omega) hva.1 hva.2.1) mt_Mo_gives mv_Mo_gives lk_Mo_56 ⟨rfl, rfl, by decide, by decide⟩ rfl (Nat.le_of_ble_eq_true rfl) ⟨by decide, by decide⟩ (fun H hG => gw_recv (q := (R_Mo, T_Mo, 9)) hK hG h4 rfl rfl (by decide) rfl) (fun M => gx_no) rfl (fun v => ?_)
          refine go_and (fun hv => ?_)
          subst hv
          refine go_icmp_eq (tgt := 50) hF d_Mo_levels_41 (by decide) (fun h41 => ?_) (fun h41 => ?_)
          · refine go_iload_n hF d_Mo_levels_50 rfl ?_
            refine go_istore_n hF d_Mo_levels_51 (by decide) ?_
            refine go_lv (lv' := [(0, _), (1, _), (2, _)]) ⟨rfl, rfl, rfl, trivial⟩ ?_
            refine go_iincN hF d_Mo_levels_52 rfl (by decide) ?_
            refine go_lv (lv' := [(0, _), (1, _), (2, _)]) ⟨rfl, rfl, rfl, trivial⟩ ?_
            refine go_goto (tgt := 9) hF d_Mo_levels_55 (by decide) ?_
            refine go_lv (lv' := [(0, _), (1, .int (nI (uns c 0 (p + 1)))), (2, .int (nI (p + 1)))]) ⟨rfl, by rw [uns_s, if_neg (fun z => z.2 (by rw [← hq.1.2.2.2.2.2.2.1, ← hgv.1]; exact h41))]; rfl, rfl, trivial⟩ ?_
            exact ih _ (by omega) (p + 1) rfl (by omega)
          · refine go_iload_n hF d_Mo_levels_44 rfl ?_
            refine go_iconst (v := 1) hF d_Mo_levels_45 (by decide) ?_
            refine go_iadd hF d_Mo_levels_46 ?_
            refine go_goto (tgt := 51) hF d_Mo_levels_47 (by decide) ?_
            refine go_istore_n hF d_Mo_levels_51 (by decide) ?_
            refine go_lv (lv' := [(0, _), (1, _), (2, _)]) ⟨rfl, rfl, rfl, trivial⟩ ?_
            refine go_iincN hF d_Mo_levels_52 rfl (by decide) ?_
            refine go_lv (lv' := [(0, _), (1, _), (2, _)]) ⟨rfl, rfl, rfl, trivial⟩ ?_
            refine go_goto (tgt := 9) hF d_Mo_levels_55 (by decide) ?_
            refine go_lv (lv' := [(0, _), (1, .int (nI (uns c 0 (p + 1)))), (2, .int (nI (p + 1)))]) ⟨rfl, by rw [uns_s, if_pos ⟨by rw [← hq.1.1]; exact h26, by rw [← hq.1.2.2.2.2.2.2.1, ← hgv.1]; exact h41⟩]; exact congrArg (fun z => some (Value.int z)) (nI_1 _), rfl, trivial⟩ ?_
            exact ih _ (by omega) (p + 1) rfl (by omega)
  refine go_aload_n hF d_Mo_levels_0 rfl ?_
  refine go_iconst (v := 0) hF d_Mo_levels_1 (by decide) ?_
  refine gs_puti hF hK hlo d_Mo_levels_2 fl_Mo_28 ct_Mo fs_Mo_0 h4 rfl rfl (by decide) rfl rfl ?_
  rw [mW_0]
  refine go_iconst (v := 0) hF d_Mo_levels_5 (by decide) ?_
  refine go_istore_n hF d_Mo_levels_6 (by decide) ?_
  refine go_lv (lv' := [(0, _), (1, _)]) ⟨rfl, rfl, trivial⟩ ?_
  refine go_iconst (v := 0) hF d_Mo_levels_7 (by decide) ?_
  refine go_istore_n hF d_Mo_levels_8 (by decide) ?_
  refine go_lv (lv' := [(0, _), (1, _), (2, _)]) ⟨rfl, rfl, rfl, trivial⟩ ?_
  exact L9 _ 0 rfl (Nat.zero_le _)
