theorem nz_lt {x : Int32} {n m : Nat} (h : ct x n) (hn : n < 2 ^ 31) (hm : m < 2 ^ 31) (hl : x < nI m) : nz x < m := by
  have h2 := h.2
  rw [h.1] at hl
  exact (nI_ltI (by omega) hm).mp hl
theorem nz_of {x : Int32} {n : Nat} (h0 : 0 ≤ x) (hn : n < 2 ^ 31) (hl : x < nI n) : x = nI (nz x) ∧ nz x < n := by
  obtain ⟨j, hj, rfl⟩ := nI_of (x := x) (by
    intro h
    exact Int32.lt_irrefl (Int32.lt_of_lt_of_le h h0))
  have h1 : nz (nI j) = j := nI_clamp hj
  rw [h1]
  exact ⟨rfl, (nI_ltI hj hn).mp hl⟩
theorem nar_bi (p : Prop) {d : Decidable p} : narrow FieldType.boolean (Value.int (bi p)) = Value.int (bi p) := by
  unfold bi
  split <;> rfl
/-- a net's number -/
def isN (w : wdT) (x : Int32) : Prop := 0 ≤ x ∧ x < wI w 0 0 0 2 0
theorem isN_vn {w : wdT} {x : Int32} (ok : okC w 0) (h : isN w x) : vn x 24 := by
  obtain ⟨h1, h2⟩ := h
  rw [ok.1.1] at h2
  have h3 := ok.1.2
  have := nz_of h1 (by omega) h2
  exact ⟨this.1, by have := this.2; unfold nz at this h3; omega⟩
theorem isN_lt {w : wdT} {x : Int32} (ok : okC w 0) (h : isN w x) : nz x < nz (wI w 0 0 0 2 0) := by
  obtain ⟨h1, h2⟩ := h
  rw [ok.1.1] at h2
  have h3 := ok.1.2
  exact (nz_of h1 (by omega) h2).2
abbrev lenOk (x : Int32) : Prop := 0 ≤ x ∧ x ≤ 1000
def anX (w : wdT) : wdT := anW w 0 (nz (wI w 0 0 0 2 0))
def acX (w : wdT) (kd ck dt lm : Int32) : wdT := acW w 0 (nz (wI w 0 0 0 6 0)) kd ck dt lm
noncomputable def agX (w : wdT) (kd a b o : Int32) : wdT := agW w 0 (nz (wI w 0 0 0 4 0)) (nz (wI w 0 0 0 6 0)) (nz (wI w 0 0 9 0 0)) kd (nz a) (nz b) (nz o)
def apX (w : wdT) (act n : Int32) (t : Int64) (v : Int32) : wdT := apW w 0 (nz (wI w 0 0 4 0 0)) act n t v
theorem not_lt {x y : Int32} (h : ¬ x < y) : y ≤ x := by
  simp only [Int32.lt_iff_toInt_lt, Int32.le_iff_toInt_le] at *
  omega
set_option maxHeartbeats 4000000 in
set_option maxRecDepth 100000 in
theorem con_EW_isLength {l : Launch} (hlt : l.stackTraces = false) {E : gE} {B : bsT} {N : nwT} {w : wdT} (x : Int32) : Con l E y_EW_isLength (Cond.code y_EW_isLength c_EW_isLength 1 (some .boolean) :: gAll) rm_EW_isLength [.int x] (gw E B N w) (fun v H => v = some (.int (bi (lenOk x))) ∧ gw E B N w H) (fun _ _ => False) 0 0 := by
  refine con_of (by decide) hlt (Nat.le_of_ble_eq_true rfl) ?_
  intro F hF hM htab hnm hE hlo hl
  subst hl
  have hF : Fb F c_EW_isLength R_EW 1 rm_EW_isLength := hF
  have hK := hE.1
  have hT := hE.2.1
  refine go_lv (lv' := [(0, _)]) ⟨rfl, trivial⟩ ?_
  refine go_iload_n hF d_EW_isLength_0 rfl ?_
  refine go_if_lt (tgt := 15) hF d_EW_isLength_1 (by decide) (fun h1 => ?_) (fun h1 => ?_)
  · refine go_iconst (v := 0) hF d_EW_isLength_15 (by decide) ?_
    exact go_zret hF hM d_EW_isLength_16 rfl (by decide) (by decide) (fun H hG => ⟨by clear hF hM hE hK hT hlo htab hnm; unfold bi lenOk; (try simp only [Int32.lt_iff_toInt_lt, Int32.le_iff_toInt_le, Int64.lt_iff_toInt_lt, Int64.le_iff_toInt_le, ← Int32.toInt_inj, ← Int64.toInt_inj] at h1 ⊢); split <;> first | rfl | (exfalso; simp at *; omega) | (simp_all; omega), hG⟩)
  · refine go_iload_n hF d_EW_isLength_4 rfl ?_
    refine go_sipush (v := 1000) hF d_EW_isLength_5 (by decide) ?_
    refine go_icmp_gt (tgt := 15) hF d_EW_isLength_8 (by decide) (fun h8 => ?_) (fun h8 => ?_)
    · refine go_iconst (v := 0) hF d_EW_isLength_15 (by decide) ?_
      exact go_zret hF hM d_EW_isLength_16 rfl (by decide) (by decide) (fun H hG => ⟨by clear hF hM hE hK hT hlo htab hnm; unfold bi lenOk; (try simp only [Int32.lt_iff_toInt_lt, Int32.le_iff_toInt_le, Int64.lt_iff_toInt_lt, Int64.le_iff_toInt_le, ← Int32.toInt_inj, ← Int64.toInt_inj] at h1 h8 ⊢); split <;> first | rfl | (exfalso; simp at *; omega) | (simp_all; omega), hG⟩)
    · refine go_iconst (v := 1) hF d_EW_isLength_11 (by decide) ?_
      refine go_goto (tgt := 16) hF d_EW_isLength_12 (by decide) ?_
      exact go_zret hF hM d_EW_isLength_16 rfl (by decide) (by decide) (fun H hG => ⟨by clear hF hM hE hK hT hlo htab hnm; unfold bi lenOk; (try simp only [Int32.lt_iff_toInt_lt, Int32.le_iff_toInt_le, Int64.lt_iff_toInt_lt, Int64.le_iff_toInt_le, ← Int32.toInt_inj, ← Int64.toInt_inj] at h1 h8 ⊢); split <;> first | rfl | (exfalso; simp at *; omega) | (simp_all; omega), hG⟩)
set_option maxHeartbeats 4000000 in
set_option maxRecDepth 100000 in
theorem con_EW_requireNet {l : Launch} (hlt : l.stackTraces = false) {E : gE} {B : bsT} {N : nwT} {w : wdT} (hb : N.1 1 0 = true) (ho : N.1 0 0 = true) (x : Int32) : Con l E y_EW_requireNet (Cond.code y_EW_requireNet c_EW_requireNet 2 none :: gAll) rm_EW_requireNet [.ref (ad B 1 0 0 0), .int x] (gw E B N w) (fun v H => v = none ∧ isN w x ∧ gw E B N w H) (fun M H => (M = xIO ∧ ¬ isN w x) ∧ gw E B (nx1 N) w H) 1 6 := by
  refine con_of (by decide) hlt (Nat.le_of_ble_eq_true rfl) ?_
  intro F hF hM htab hnm hE hlo hl
  subst hl
  have hF : Fb F c_EW_requireNet R_EW 2 rm_EW_requireNet := hF
  have hK := hE.1
  have hT := hE.2.1
  refine go_lv (lv' := [(0, _), (1, _)]) ⟨rfl, rfl, trivial⟩ ?_
  refine go_aload_n hF d_EW_requireNet_0 rfl ?_
  refine gs_getx hF hK d_EW_requireNet_1 fl_EW_10 hb rfl rfl (by decide) rfl ?_
  refine go_iload_n hF d_EW_requireNet_4 rfl ?_
  refine go_callVX hF hE hlo d_EW_requireNet_5 (con_Ci_hasNet hlt ho x) mt_Ci_hasNet mv_Ci_hasNet lk_EW_219 ⟨rfl, rfl, by decide, by decide⟩ rfl (Nat.le_of_ble_eq_true rfl) ⟨by decide, by decide⟩ (fun H hG => gw_recv (q := (R_Ci, T_Ci, 10)) hK hG ho rfl rfl (by decide) rfl) (fun M => gx_no) rfl (fun v => ?_)
  refine go_and (fun hv => ?_)
  subst hv
  refine go_if_ne (tgt := 21) hF d_EW_requireNet_8 (by decide) (fun h8 => ?_) (fun h8 => ?_)
  · exact go_vret hF hM d_EW_requireNet_21 (by decide) (by decide) (fun H hG => ⟨rfl, bi_1 h8, hG⟩)
  · exact gs_throw (text := "no such net") hF hM htab hE th_IO d_EW_requireNet_11 d_EW_requireNet_14 d_EW_requireNet_15 d_EW_requireNet_17 d_EW_requireNet_20 (by decide +kernel) (by decide) (by decide) (by decide) (by decide) (fun H hG => ⟨⟨rfl, bi_0 h8⟩, hG⟩)
set_option maxHeartbeats 4000000 in
set_option maxRecDepth 100000 in
theorem con_EW_net {l : Launch} (hlt : l.stackTraces = false) {E : gE} {B : bsT} {N : nwT} {w : wdT} (hb : N.1 1 0 = true) (ho : N.1 0 0 = true) (ok : okC w 0) : Con l E y_EW_net (Cond.code y_EW_net c_EW_net 1 (some .int) :: gAll) rm_EW_net [.ref (ad B 1 0 0 0)] (gw E B N w) (fun v H => v = some (.int (wI w 0 0 0 2 0)) ∧ wI w 0 0 0 2 0 < 24 ∧ gw E B N (anX w) H) (fun M H => (M = xIS ∧ ¬ wI w 0 0 0 2 0 < 24) ∧ gw E B (nx1 N) w H) 1 6 := by
  refine con_of (by decide) hlt (Nat.le_of_ble_eq_true rfl) ?_
  intro F hF hM htab hnm hE hlo hl
  subst hl
  have hF : Fb F c_EW_net R_EW 1 rm_EW_net := hF
  have hK := hE.1
  have hT := hE.2.1
  refine go_lv (lv' := [(0, _)]) ⟨rfl, trivial⟩ ?_
  refine go_aload_n hF d_EW_net_0 rfl ?_
  refine gs_getx hF hK d_EW_net_1 fl_EW_10 hb rfl rfl (by decide) rfl ?_
  refine gs_geti hF hK d_EW_net_4 fl_EW_27 ho rfl rfl (by decide) rfl ?_
  refine go_bipush (v := 24) hF d_EW_net_7 (by decide) ?_
  refine go_icmp_lt (tgt := 22) hF d_EW_net_9 (by decide) (fun h9 => ?_) (fun h9 => ?_)
  · refine go_aload_n hF d_EW_net_22 rfl ?_
    refine gs_getx hF hK d_EW_net_23 fl_EW_10 hb rfl rfl (by decide) rfl ?_
    refine go_callVX hF hE hlo d_EW_net_26 (con_Ci_addNet hlt ho ok.1.1 (nz_lt ok.1 (by decide) (by decide) h9)) mt_Ci_addNet mv_Ci_addNet lk_EW_38 ⟨rfl, rfl, by decide, by decide⟩ rfl (Nat.le_of_ble_eq_true rfl) ⟨by decide, by decide⟩ (fun H hG => gw_recv (q := (R_Ci, T_Ci, 10)) hK hG ho rfl rfl (by decide) rfl) (fun M => gx_no) rfl (fun v => ?_)
    refine go_and (fun hv => ?_)
    subst hv
    exact go_iret hF hM d_EW_net_29 (by decide) (by decide) (fun H hG => ⟨congrArg (fun x => some (Value.int x)) ok.1.1.symm, h9, hG⟩)
  · exact gs_throw (text := "there are as many nets as there can be") hF hM htab hE th_IS d_EW_net_12 d_EW_net_15 d_EW_net_16 d_EW_net_18 d_EW_net_21 (by decide +kernel) (by decide) (by decide) (by decide) (by decide) (fun H hG => ⟨⟨rfl, h9⟩, hG⟩)
set_option maxHeartbeats 4000000 in
set_option maxRecDepth 100000 in
theorem con_EW_gate {l : Launch} (hlt : l.stackTraces = false) {E : gE} {B : bsT} {N : nwT} {w : wdT} (hb : N.1 1 0 = true) (ho : N.1 0 0 = true) (ok : okC w 0) (kd a b o : Int32) : Con l E y_EW_gate (Cond.code y_EW_gate c_EW_gate 5 (some .int) :: gAll) rm_EW_gate [.ref (ad B 1 0 0 0), .int kd, .int a, .int b, .int o] (gw E B N w) (fun v H => v = some (.int (wI w 0 0 0 4 0)) ∧ (isN w a ∧ isN w b ∧ isN w o) ∧ wI w 0 0 0 4 0 < 32 ∧ (0 ≤ kd ∧ kd ≤ 7) ∧ gw E B N (agX w kd a b o) H) (fun M H => (M = xIO ∧ ¬ (isN w a ∧ isN w b ∧ isN w o) ∨ M = xIS ∧ (isN w a ∧ isN w b ∧ isN w o) ∧ ¬ wI w 0 0 0 4 0 < 32 ∨ M = xIA ∧ (isN w a ∧ isN w b ∧ isN w o) ∧ wI w 0 0 0 4 0 < 32 ∧ ¬ (0 ≤ kd ∧ kd ≤ 7)) ∧ gw E B (nx1 N) w H) 4 24 := by
  refine con_of (by decide) hlt (Nat.le_of_ble_eq_true rfl) ?_
  intro F hF hM htab hnm hE hlo hl
  subst hl
  have hF : Fb F c_EW_gate R_EW 5 rm_EW_gate := hF
  have hK := hE.1
  have hT := hE.2.1
  refine go_lv (lv' := [(0, _), (1, _), (2, _), (3, _), (4, _)]) ⟨rfl, rfl, rfl, rfl, rfl, trivial⟩ ?_
  refine go_aload_n hF d_EW_gate_0 rfl ?_
  refine go_iload_n hF d_EW_gate_1 rfl ?_
  refine go_callVX hF hE hlo d_EW_gate_2 (con_EW_requireNet hlt hb ho a) mt_EW_requireNet mv_EW_requireNet lk_EW_42 ⟨rfl, rfl, by decide, by decide⟩ rfl (Nat.le_of_ble_eq_true rfl) ⟨by decide, by decide⟩ (fun H hG => gw_recv (q := (R_EW, T_EW, 4)) hK hG hb rfl rfl (by decide) rfl) (fun M => gx_out hF hM htab (fun H hG => ⟨Or.inl (⟨hG.1.1, fun z => hG.1.2 z.1⟩), hG.2⟩) (by decide) (by decide)) rfl (fun v => ?_)
  refine go_and (fun hv => ?_)
  subst hv
  refine go_and (fun ga => ?_)
  refine go_aload_n hF d_EW_gate_5 rfl ?_
  refine go_iload_n hF d_EW_gate_6 rfl ?_
  refine go_callVX hF hE hlo d_EW_gate_7 (con_EW_requireNet hlt hb ho b) mt_EW_requireNet mv_EW_requireNet lk_EW_42 ⟨rfl, rfl, by decide, by decide⟩ rfl (Nat.le_of_ble_eq_true rfl) ⟨by decide, by decide⟩ (fun H hG => gw_recv (q := (R_EW, T_EW, 4)) hK hG hb rfl rfl (by decide) rfl) (fun M => gx_out hF hM htab (fun H hG => ⟨Or.inl (⟨hG.1.1, fun z => hG.1.2 z.2.1⟩), hG.2⟩) (by decide) (by decide)) rfl (fun v => ?_)
  refine go_and (fun hv => ?_)
  subst hv
  refine go_and (fun gb => ?_)
  refine go_aload_n hF d_EW_gate_10 rfl ?_
  refine go_iload hF d_EW_gate_11 rfl ?_
  refine go_callVX hF hE hlo d_EW_gate_13 (con_EW_requireNet hlt hb ho o) mt_EW_requireNet mv_EW_requireNet lk_EW_42 ⟨rfl, rfl, by decide, by decide⟩ rfl (Nat.le_of_ble_eq_true rfl) ⟨by decide, by decide⟩ (fun H hG => gw_recv (q := (R_EW, T_EW, 4)) hK hG hb rfl rfl (by decide) rfl) (fun M => gx_out hF hM htab (fun H hG => ⟨Or.inl (⟨hG.1.1, fun z => hG.1.2 z.2.2⟩), hG.2⟩) (by decide) (by decide)) rfl (fun v => ?_)
  refine go_and (fun hv => ?_)
  subst hv
  refine go_and (fun go => ?_)
  refine go_aload_n hF d_EW_gate_16 rfl ?_
  refine gs_getx hF hK d_EW_gate_17 fl_EW_10 hb rfl rfl (by decide) rfl ?_
  refine gs_geti hF hK d_EW_gate_20 fl_EW_46 ho rfl rfl (by decide) rfl ?_
  refine go_bipush (v := 32) hF d_EW_gate_23 (by decide) ?_
  refine go_icmp_lt (tgt := 38) hF d_EW_gate_25 (by decide) (fun h25 => ?_) (fun h25 => ?_)
  · refine go_iload_n hF d_EW_gate_38 rfl ?_
    refine go_if_lt (tgt := 48) hF d_EW_gate_39 (by decide) (fun h39 => ?_) (fun h39 => ?_)
    · exact gs_throw (text := "no such kind of gate") hF hM htab hE th_IA d_EW_gate_48 d_EW_gate_51 d_EW_gate_52 d_EW_gate_54 d_EW_gate_57 (by decide +kernel) (by decide) (by decide) (by decide) (by decide) (fun H hG => ⟨Or.inr (Or.inr (⟨rfl, ⟨ga, gb, go⟩, h25, fun z => Int32.lt_irrefl (Int32.lt_of_lt_of_le h39 z.1)⟩)), hG⟩)
    · refine go_iload_n hF d_EW_gate_42 rfl ?_
      refine go_bipush (v := 7) hF d_EW_gate_43 (by decide) ?_
      refine go_icmp_le (tgt := 58) hF d_EW_gate_45 (by decide) (fun h45 => ?_) (fun h45 => ?_)
      · refine go_lv (lv' := [(0, _), (1, _), (2, .int (nI (nz a))), (3, .int (nI (nz b))), (4, .int (nI (nz o)))]) ⟨rfl, rfl, congrArg (fun x => some (Value.int x)) (isN_vn ok ga).1, congrArg (fun x => some (Value.int x)) (isN_vn ok gb).1, congrArg (fun x => some (Value.int x)) (isN_vn ok go).1, trivial⟩ ?_
        refine go_aload_n hF d_EW_gate_58 rfl ?_
        refine gs_getx hF hK d_EW_gate_59 fl_EW_10 hb rfl rfl (by decide) rfl ?_
        refine go_iload_n hF d_EW_gate_62 rfl ?_
        refine go_iload_n hF d_EW_gate_63 rfl ?_
        refine go_iload_n hF d_EW_gate_64 rfl ?_
        refine go_iload hF d_EW_gate_65 rfl ?_
        refine go_callVX hF hE hlo d_EW_gate_67 (con_Ci_addGate (qa := nz a) (qb := nz b) (qo := nz o) hlt ho ok.2.1.1 (nz_lt ok.2.1 (by decide) (by decide) h25) ok.2.2.1.1 ok.2.2.1.2 (fun c hc => (ok.2.2.2.2.2.2.1 c hc)) (fun g hg => ⟨(ok.2.2.2.2.2.1 g hg).1, (ok.2.2.2.2.2.1 g hg).2.1⟩) ok.2.2.2.2.1.1 ok.2.2.2.2.1.2 (isN_vn ok ga).2 (isN_vn ok gb).2 (isN_vn ok go).2 kd) mt_Ci_addGate mv_Ci_addGate lk_EW_56 ⟨rfl, rfl, by decide, by decide⟩ rfl (Nat.le_of_ble_eq_true rfl) ⟨by decide, by decide⟩ (fun H hG => gw_recv (q := (R_Ci, T_Ci, 10)) hK hG ho rfl rfl (by decide) rfl) (fun M => gx_no) rfl (fun v => ?_)
        refine go_and (fun hv => ?_)
        subst hv
        exact go_iret hF hM d_EW_gate_70 (by decide) (by decide) (fun H hG => ⟨congrArg (fun x => some (Value.int x)) ok.2.1.1.symm, ⟨ga, gb, go⟩, h25, ⟨not_lt h39, h45⟩, hG⟩)
      · exact gs_throw (text := "no such kind of gate") hF hM htab hE th_IA d_EW_gate_48 d_EW_gate_51 d_EW_gate_52 d_EW_gate_54 d_EW_gate_57 (by decide +kernel) (by decide) (by decide) (by decide) (by decide) (fun H hG => ⟨Or.inr (Or.inr (⟨rfl, ⟨ga, gb, go⟩, h25, fun z => h45 z.2⟩)), hG⟩)
  · exact gs_throw (text := "there are as many gates as there can be") hF hM htab hE th_IS d_EW_gate_28 d_EW_gate_31 d_EW_gate_32 d_EW_gate_34 d_EW_gate_37 (by decide +kernel) (by decide) (by decide) (by decide) (by decide) (fun H hG => ⟨Or.inr (Or.inl (⟨rfl, ⟨ga, gb, go⟩, h25⟩)), hG⟩)
def isG (w : wdT) (x : Int32) : Prop := 0 ≤ x ∧ x < wI w 0 0 0 4 0
def isK (w : wdT) (x : Int32) : Prop := 0 ≤ x ∧ x < wI w 0 0 0 6 0
theorem isG_vn {w : wdT} {x : Int32} (ok : okC w 0) (h : isG w x) : vn x 32 ∧ nz x < nz (wI w 0 0 0 4 0) := by
  obtain ⟨h1, h2⟩ := h
  rw [ok.2.1.1] at h2
  have h3 := ok.2.1.2
  have := nz_of h1 (by omega) h2
  exact ⟨⟨this.1, by have := this.2; unfold nz at this h3; omega⟩, this.2⟩
theorem isK_vn {w : wdT} {x : Int32} (ok : okC w 0) (h : isK w x) : vn x 20 ∧ nz x < nz (wI w 0 0 0 6 0) := by
  obtain ⟨h1, h2⟩ := h
  rw [ok.2.2.1.1] at h2
  have h3 := ok.2.2.1.2
  have := nz_of h1 (by omega) h2
  exact ⟨⟨this.1, by have := this.2; unfold nz at this h3; omega⟩, this.2⟩
def isW (w : wdT) (x : Int32) : Prop := 0 ≤ x ∧ x < wI w 0 0 9 0 0
theorem isW_vn {w : wdT} {x : Int32} (ok : okC w 0) (h : isW w x) : vn x 600 ∧ nz x < nz (wI w 0 0 9 0 0) := by
  obtain ⟨h1, h2⟩ := h
  rw [ok.2.2.2.2.1.1] at h2
  have h3 := ok.2.2.2.2.1.2
  have := nz_of h1 (by omega) h2
  exact ⟨⟨this.1, by have := this.2; unfold nz at this h3; omega⟩, this.2⟩
set_option maxHeartbeats 4000000 in
set_option maxRecDepth 100000 in
theorem con_EW_delay {l : Launch} (hlt : l.stackTraces = false) {E : gE} {B : bsT} {N : nwT} {w : wdT} (hb : N.1 1 0 = true) (ho : N.1 0 0 = true) (ok : okC w 0) (g r f : Int32) : Con l E y_EW_delay (Cond.code y_EW_delay c_EW_delay 4 (some .boolean) :: gAll) rm_EW_delay [.ref (ad B 1 0 0 0), .int g, .int r, .int f] (gw E B N w) (fun v H => v = some (.int (bi (¬ wI w 0 0 14 4 (nz g) = r ∨ ¬ wI w 0 0 14 5 (nz g) = f))) ∧ isG w g ∧ (lenOk r ∧ lenOk f) ∧ gw E B N (dlW w 0 (nz g) r f) H) (fun M H => (M = xIO ∧ ¬ isG w g ∨ M = xIA ∧ isG w g ∧ ¬ (lenOk r ∧ lenOk f)) ∧ gw E B (nx1 N) w H) 1 6 := by
  refine con_of (by decide) hlt (Nat.le_of_ble_eq_true rfl) ?_
  intro F hF hM htab hnm hE hlo hl
  subst hl
  have hF : Fb F c_EW_delay R_EW 4 rm_EW_delay := hF
  have hK := hE.1
  have hT := hE.2.1
  refine go_lv (lv' := [(0, _), (1, _), (2, _), (3, _)]) ⟨rfl, rfl, rfl, rfl, trivial⟩ ?_
  refine go_iload_n hF d_EW_delay_0 rfl ?_
  refine go_if_lt (tgt := 15) hF d_EW_delay_1 (by decide) (fun h1 => ?_) (fun h1 => ?_)
  · exact gs_throw (text := "no such gate") hF hM htab hE th_IO d_EW_delay_15 d_EW_delay_18 d_EW_delay_19 d_EW_delay_21 d_EW_delay_24 (by decide +kernel) (by decide) (by decide) (by decide) (by decide) (fun H hG => ⟨Or.inl (⟨rfl, fun z => Int32.lt_irrefl (Int32.lt_of_lt_of_le h1 z.1)⟩), hG⟩)
  · refine go_iload_n hF d_EW_delay_4 rfl ?_
    refine go_aload_n hF d_EW_delay_5 rfl ?_
    refine gs_getx hF hK d_EW_delay_6 fl_EW_10 hb rfl rfl (by decide) rfl ?_
    refine gs_geti hF hK d_EW_delay_9 fl_EW_46 ho rfl rfl (by decide) rfl ?_
    refine go_icmp_lt (tgt := 25) hF d_EW_delay_12 (by decide) (fun h12 => ?_) (fun h12 => ?_)
    · have hg : isG w g := ⟨not_lt h1, h12⟩
      have hgv := isG_vn ok hg
      refine go_iload_n hF d_EW_delay_25 rfl ?_
      refine go_callSX hF hE hlo d_EW_delay_26 (con_EW_isLength hlt r) mt_EW_isLength ms_EW_isLength lk_EW_65 ⟨rfl, rfl, by decide, by decide⟩ rfl (Nat.le_of_ble_eq_true rfl) ⟨by decide, by decide⟩ (fun M => gx_no) rfl (fun v => ?_)
      refine go_and (fun hv => ?_)
      subst hv
      refine go_if_eq (tgt := 39) hF d_EW_delay_29 (by decide) (fun h29 => ?_) (fun h29 => ?_)
      · exact gs_throw (text := "a delay is not 0 .. 1000") hF hM htab hE th_IA d_EW_delay_39 d_EW_delay_42 d_EW_delay_43 d_EW_delay_45 d_EW_delay_48 (by decide +kernel) (by decide) (by decide) (by decide) (by decide) (fun H hG => ⟨Or.inr (⟨rfl, hg, fun z => bi_0 h29 z.1⟩), hG⟩)
      · refine go_iload_n hF d_EW_delay_32 rfl ?_
        refine go_callSX hF hE hlo d_EW_delay_33 (con_EW_isLength hlt f) mt_EW_isLength ms_EW_isLength lk_EW_65 ⟨rfl, rfl, by decide, by decide⟩ rfl (Nat.le_of_ble_eq_true rfl) ⟨by decide, by decide⟩ (fun M => gx_no) rfl (fun v => ?_)
        refine go_and (fun hv => ?_)
        subst hv
        refine go_if_ne (tgt := 49) hF d_EW_delay_36 (by decide) (fun h36 => ?_) (fun h36 => ?_)
        · refine go_aload_n hF d_EW_delay_49 rfl ?_
          refine gs_getx hF hK d_EW_delay_50 fl_EW_10 hb rfl rfl (by decide) rfl ?_
          refine gs_getr hF hK d_EW_delay_53 fl_EW_71 ho rfl rfl (by decide) rfl ?_
          refine go_iload_n hF d_EW_delay_56 rfl ?_
          refine gs_aald hF hK hT d_EW_delay_57 ho rfl rfl hgv.1.1 hgv.1.2 (by decide) ?_
          refine go_iload_n hF d_EW_delay_58 rfl ?_
          refine go_iload_n hF d_EW_delay_59 rfl ?_
          refine go_callVX hF hE hlo d_EW_delay_60 (con_Ga_takeDelays hlt ho hgv.1.2 r f) mt_Ga_takeDelays mv_Ga_takeDelays lk_EW_75 ⟨rfl, rfl, by decide, by decide⟩ rfl (Nat.le_of_ble_eq_true rfl) ⟨by decide, by decide⟩ (fun H hG => gw_recv (q := (R_Ga, T_Ga, 11)) hK hG ho rfl rfl hgv.1.2 rfl) (fun M => gx_no) rfl (fun v => ?_)
          refine go_and (fun hv => ?_)
          subst hv
          exact go_zret hF hM d_EW_delay_63 (nar_bi _) (by decide) (by decide) (fun H hG => ⟨rfl, hg, ⟨bi_1 h29, bi_1 h36⟩, hG⟩)
        · exact gs_throw (text := "a delay is not 0 .. 1000") hF hM htab hE th_IA d_EW_delay_39 d_EW_delay_42 d_EW_delay_43 d_EW_delay_45 d_EW_delay_48 (by decide +kernel) (by decide) (by decide) (by decide) (by decide) (fun H hG => ⟨Or.inr (⟨rfl, hg, fun z => bi_0 h36 z.2⟩), hG⟩)
    · exact gs_throw (text := "no such gate") hF hM htab hE th_IO d_EW_delay_15 d_EW_delay_18 d_EW_delay_19 d_EW_delay_21 d_EW_delay_24 (by decide +kernel) (by decide) (by decide) (by decide) (by decide) (fun H hG => ⟨Or.inl (⟨rfl, fun z => h12 z.2⟩), hG⟩)
set_option maxHeartbeats 4000000 in
set_option maxRecDepth 100000 in
theorem con_EW_spike {l : Launch} (hlt : l.stackTraces = false) {E : gE} {B : bsT} {N : nwT} {w : wdT} (hb : N.1 1 0 = true) (ho : N.1 0 0 = true) (r : Int32) : Con l E y_EW_spike (Cond.code y_EW_spike c_EW_spike 3 (some .boolean) :: gAll) rm_EW_spike [.ref (ad B 1 0 0 0), .int r] (gw E B N w) (fun v H => v = some (.int (bi (¬ wI w 0 0 0 1 0 = r))) ∧ (r = 0 ∨ r = 1) ∧ gw E B N (sI w 0 0 0 1 0 r) H) (fun M H => (M = xIA ∧ ¬ (r = 0 ∨ r = 1)) ∧ gw E B (nx1 N) w H) 1 6 := by
  refine con_of (by decide) hlt (Nat.le_of_ble_eq_true rfl) ?_
  intro F hF hM htab hnm hE hlo hl
  subst hl
  have hF : Fb F c_EW_spike R_EW 3 rm_EW_spike := hF
  have hK := hE.1
  have hT := hE.2.1
  refine go_lv (lv' := [(0, _), (1, _)]) ⟨rfl, rfl, trivial⟩ ?_
  refine go_iload_n hF d_EW_spike_0 rfl ?_
  refine go_if_eq (tgt := 19) hF d_EW_spike_1 (by decide) (fun h1 => ?_) (fun h1 => ?_)
  · refine go_aload_n hF d_EW_spike_19 rfl ?_
    refine gs_getx hF hK d_EW_spike_20 fl_EW_10 hb rfl rfl (by decide) rfl ?_
    refine gs_geti hF hK d_EW_spike_23 fl_EW_83 ho rfl rfl (by decide) rfl ?_
    refine go_iload_n hF d_EW_spike_26 rfl ?_
    refine go_icmp_eq (tgt := 34) hF d_EW_spike_27 (by decide) (fun h27 => ?_) (fun h27 => ?_)
    · refine go_iconst (v := 0) hF d_EW_spike_34 (by decide) ?_
      refine go_istore_n hF d_EW_spike_35 (by decide) ?_
      refine go_lv (lv' := [(0, _), (1, _), (2, _)]) ⟨rfl, rfl, rfl, trivial⟩ ?_
      refine go_aload_n hF d_EW_spike_36 rfl ?_
      refine gs_getx hF hK d_EW_spike_37 fl_EW_10 hb rfl rfl (by decide) rfl ?_
      refine go_iload_n hF d_EW_spike_40 rfl ?_
      refine gs_puti hF hK hlo d_EW_spike_41 fl_EW_83 ct_Ci fs_Ci_1 ho rfl rfl (by decide) rfl rfl ?_
      refine go_iload_n hF d_EW_spike_44 rfl ?_
      exact go_zret hF hM d_EW_spike_45 rfl (by decide) (by decide) (fun H hG => ⟨by unfold bi; rw [if_neg (fun z => z h27)], Or.inl h1, hG⟩)
    · refine go_iconst (v := 1) hF d_EW_spike_30 (by decide) ?_
      refine go_goto (tgt := 35) hF d_EW_spike_31 (by decide) ?_
      refine go_istore_n hF d_EW_spike_35 (by decide) ?_
      refine go_lv (lv' := [(0, _), (1, _), (2, _)]) ⟨rfl, rfl, rfl, trivial⟩ ?_
      refine go_aload_n hF d_EW_spike_36 rfl ?_
      refine gs_getx hF hK d_EW_spike_37 fl_EW_10 hb rfl rfl (by decide) rfl ?_
      refine go_iload_n hF d_EW_spike_40 rfl ?_
      refine gs_puti hF hK hlo d_EW_spike_41 fl_EW_83 ct_Ci fs_Ci_1 ho rfl rfl (by decide) rfl rfl ?_
      refine go_iload_n hF d_EW_spike_44 rfl ?_
      exact go_zret hF hM d_EW_spike_45 rfl (by decide) (by decide) (fun H hG => ⟨by unfold bi; rw [if_pos h27], Or.inl h1, hG⟩)
  · refine go_iload_n hF d_EW_spike_4 rfl ?_
    refine go_iconst (v := 1) hF d_EW_spike_5 (by decide) ?_
    refine go_icmp_eq (tgt := 19) hF d_EW_spike_6 (by decide) (fun h6 => ?_) (fun h6 => ?_)
    · refine go_aload_n hF d_EW_spike_19 rfl ?_
      refine gs_getx hF hK d_EW_spike_20 fl_EW_10 hb rfl rfl (by decide) rfl ?_
      refine gs_geti hF hK d_EW_spike_23 fl_EW_83 ho rfl rfl (by decide) rfl ?_
      refine go_iload_n hF d_EW_spike_26 rfl ?_
      refine go_icmp_eq (tgt := 34) hF d_EW_spike_27 (by decide) (fun h27 => ?_) (fun h27 => ?_)
      · refine go_iconst (v := 0) hF d_EW_spike_34 (by decide) ?_
        refine go_istore_n hF d_EW_spike_35 (by decide) ?_
        refine go_lv (lv' := [(0, _), (1, _), (2, _)]) ⟨rfl, rfl, rfl, trivial⟩ ?_
        refine go_aload_n hF d_EW_spike_36 rfl ?_
        refine gs_getx hF hK d_EW_spike_37 fl_EW_10 hb rfl rfl (by decide) rfl ?_
        refine go_iload_n hF d_EW_spike_40 rfl ?_
        refine gs_puti hF hK hlo d_EW_spike_41 fl_EW_83 ct_Ci fs_Ci_1 ho rfl rfl (by decide) rfl rfl ?_
        refine go_iload_n hF d_EW_spike_44 rfl ?_
        exact go_zret hF hM d_EW_spike_45 rfl (by decide) (by decide) (fun H hG => ⟨by unfold bi; rw [if_neg (fun z => z h27)], Or.inr h6, hG⟩)
      · refine go_iconst (v := 1) hF d_EW_spike_30 (by decide) ?_
        refine go_goto (tgt := 35) hF d_EW_spike_31 (by decide) ?_
        refine go_istore_n hF d_EW_spike_35 (by decide) ?_
        refine go_lv (lv' := [(0, _), (1, _), (2, _)]) ⟨rfl, rfl, rfl, trivial⟩ ?_
        refine go_aload_n hF d_EW_spike_36 rfl ?_
        refine gs_getx hF hK d_EW_spike_37 fl_EW_10 hb rfl rfl (by decide) rfl ?_
        refine go_iload_n hF d_EW_spike_40 rfl ?_
        refine gs_puti hF hK hlo d_EW_spike_41 fl_EW_83 ct_Ci fs_Ci_1 ho rfl rfl (by decide) rfl rfl ?_
        refine go_iload_n hF d_EW_spike_44 rfl ?_
        exact go_zret hF hM d_EW_spike_45 rfl (by decide) (by decide) (fun H hG => ⟨by unfold bi; rw [if_pos h27], Or.inr h6, hG⟩)
    · exact gs_throw (text := "no such rule") hF hM htab hE th_IA d_EW_spike_9 d_EW_spike_12 d_EW_spike_13 d_EW_spike_15 d_EW_spike_18 (by decide +kernel) (by decide) (by decide) (by decide) (by decide) (fun H hG => ⟨⟨rfl, fun z => z.elim h1 h6⟩, hG⟩)
set_option maxHeartbeats 4000000 in
set_option maxRecDepth 100000 in
theorem con_EW_tell {l : Launch} (hlt : l.stackTraces = false) {E : gE} {B : bsT} {N : nwT} {w : wdT} (hb : N.1 1 0 = true) (ho : N.1 0 0 = true) (ok : okC w 0) (act n : Int32) (t : Int64) (x : Int32) : Con l E y_EW_tell (Cond.code y_EW_tell c_EW_tell 6 (some .int) :: gAll) rm_EW_tell [.ref (ad B 1 0 0 0), .int act, .int n, .long t, .int x] (gw E B N w) (fun v H => v = some (.int (wI w 0 0 4 0 0 + 1)) ∧ isN w n ∧ wI w 0 0 4 0 0 < 100 ∧ ((0 ≤ x ∧ x ≤ 3) ∧ (wL w 0 0 0 0 0 ≤ t ∧ t ≤ 1000000000)) ∧ gw E B N (apX w act n t x) H) (fun M H => (M = xIO ∧ ¬ isN w n ∨ M = xIS ∧ isN w n ∧ ¬ wI w 0 0 4 0 0 < 100 ∨ M = xIA ∧ isN w n ∧ wI w 0 0 4 0 0 < 100 ∧ ¬ ((0 ≤ x ∧ x ≤ 3) ∧ (wL w 0 0 0 0 0 ≤ t ∧ t ≤ 1000000000))) ∧ gw E B (nx1 N) w H) 2 12 := by
  refine con_of (by decide) hlt (Nat.le_of_ble_eq_true rfl) ?_
  intro F hF hM htab hnm hE hlo hl
  subst hl
  have hF : Fb F c_EW_tell R_EW 6 rm_EW_tell := hF
  have hK := hE.1
  have hT := hE.2.1
  refine go_lv (lv' := [(0, _), (1, _), (2, _), (3, _), (5, _)]) ⟨rfl, rfl, rfl, rfl, rfl, trivial⟩ ?_
  refine go_aload_n hF d_EW_tell_0 rfl ?_
  refine go_iload_n hF d_EW_tell_1 rfl ?_
  refine go_callVX hF hE hlo d_EW_tell_2 (con_EW_requireNet hlt hb ho n) mt_EW_requireNet mv_EW_requireNet lk_EW_42 ⟨rfl, rfl, by decide, by decide⟩ rfl (Nat.le_of_ble_eq_true rfl) ⟨by decide, by decide⟩ (fun H hG => gw_recv (q := (R_EW, T_EW, 4)) hK hG hb rfl rfl (by decide) rfl) (fun M => gx_out hF hM htab (fun H hG => ⟨Or.inl (⟨hG.1.1, hG.1.2⟩), hG.2⟩) (by decide) (by decide)) rfl (fun v => ?_)
  refine go_and (fun hv => ?_)
  subst hv
  refine go_and (fun gn => ?_)
  refine go_aload_n hF d_EW_tell_5 rfl ?_
  refine gs_getx hF hK d_EW_tell_6 fl_EW_10 hb rfl rfl (by decide) rfl ?_
  refine gs_getr hF hK d_EW_tell_9 fl_EW_185 ho rfl rfl (by decide) rfl ?_
  refine gs_geti hF hK d_EW_tell_12 fl_EW_189 ho rfl rfl (by decide) rfl ?_
  refine go_bipush (v := 100) hF d_EW_tell_15 (by decide) ?_
  refine go_icmp_lt (tgt := 30) hF d_EW_tell_17 (by decide) (fun h17 => ?_) (fun h17 => ?_)
  · refine go_iload hF d_EW_tell_30 rfl ?_
    refine go_if_lt (tgt := 41) hF d_EW_tell_32 (by decide) (fun h32 => ?_) (fun h32 => ?_)
    · exact gs_throw (text := "no such value") hF hM htab hE th_IA d_EW_tell_41 d_EW_tell_44 d_EW_tell_45 d_EW_tell_47 d_EW_tell_50 (by decide +kernel) (by decide) (by decide) (by decide) (by decide) (fun H hG => ⟨Or.inr (Or.inr (⟨rfl, gn, h17, fun z => Int32.lt_irrefl (Int32.lt_of_lt_of_le h32 z.1.1)⟩)), hG⟩)
    · refine go_iload hF d_EW_tell_35 rfl ?_
      refine go_iconst (v := 3) hF d_EW_tell_37 (by decide) ?_
      refine go_icmp_le (tgt := 51) hF d_EW_tell_38 (by decide) (fun h38 => ?_) (fun h38 => ?_)
      · refine go_aload_n hF d_EW_tell_51 rfl ?_
        refine gs_getx hF hK d_EW_tell_52 fl_EW_10 hb rfl rfl (by decide) rfl ?_
        refine go_lload_n hF d_EW_tell_55 rfl ?_
        refine go_callVX hF hE hlo d_EW_tell_56 (con_Ci_isToCome hlt ho t) mt_Ci_isToCome mv_Ci_isToCome lk_EW_113 ⟨rfl, rfl, by decide, by decide⟩ rfl (Nat.le_of_ble_eq_true rfl) ⟨by decide, by decide⟩ (fun H hG => gw_recv (q := (R_Ci, T_Ci, 10)) hK hG ho rfl rfl (by decide) rfl) (fun M => gx_no) rfl (fun v => ?_)
        refine go_and (fun hv => ?_)
        subst hv
        refine go_if_ne (tgt := 72) hF d_EW_tell_59 (by decide) (fun h59 => ?_) (fun h59 => ?_)
        · refine go_aload_n hF d_EW_tell_72 rfl ?_
          refine gs_getx hF hK d_EW_tell_73 fl_EW_10 hb rfl rfl (by decide) rfl ?_
          refine gs_getr hF hK d_EW_tell_76 fl_EW_185 ho rfl rfl (by decide) rfl ?_
          refine go_iload_n hF d_EW_tell_79 rfl ?_
          refine go_iload_n hF d_EW_tell_80 rfl ?_
          refine go_lload_n hF d_EW_tell_81 rfl ?_
          refine go_iload hF d_EW_tell_82 rfl ?_
          refine go_callVX hF hE hlo d_EW_tell_84 (con_Ha_append hlt ho ok.2.2.2.1.1 (nz_lt ok.2.2.2.1 (by decide) (by decide) h17) act n t x) mt_Ha_append mv_Ha_append lk_EW_216 ⟨rfl, rfl, by decide, by decide⟩ rfl (Nat.le_of_ble_eq_true rfl) ⟨by decide, by decide⟩ (fun H hG => gw_recv (q := (R_Ha, T_Ha, 5)) hK hG ho rfl rfl (by decide) rfl) (fun M => gx_no) rfl (fun v => ?_)
          refine go_and (fun hv => ?_)
          subst hv
          refine go_aload_n hF d_EW_tell_87 rfl ?_
          refine gs_getx hF hK d_EW_tell_88 fl_EW_10 hb rfl rfl (by decide) rfl ?_
          refine gs_getr hF hK d_EW_tell_91 fl_EW_185 ho rfl rfl (by decide) rfl ?_
          refine gs_geti hF hK d_EW_tell_94 fl_EW_189 ho rfl rfl (by decide) rfl ?_
          exact go_iret hF hM d_EW_tell_97 (by decide) (by decide) (fun H hG => ⟨by show some (Value.int (wI (apW w 0 (nz (wI w 0 0 4 0 0)) act n t x) 0 0 4 0 0)) = _; unfold apW; simp only [rd_II, rd_LL, rd_PP, rd_IL, rd_IP, rd_LI, rd_LP, rd_PI, rd_PL, eq_self, true_and, and_true, false_and, and_false, if_true, if_false, reduceIte, reduceCtorEq, Nat.reduceEqDiff, Nat.one_ne_zero, Nat.zero_ne_one]; rw [← nI_1, ← ok.2.2.2.1.1], gn, h17, ⟨⟨not_lt h32, h38⟩, bi_1 h59⟩, hG⟩)
        · exact gs_throw (text := "the time is before now or beyond the last one") hF hM htab hE th_IA d_EW_tell_62 d_EW_tell_65 d_EW_tell_66 d_EW_tell_68 d_EW_tell_71 (by decide +kernel) (by decide) (by decide) (by decide) (by decide) (fun H hG => ⟨Or.inr (Or.inr (⟨rfl, gn, h17, fun z => bi_0 h59 z.2⟩)), hG⟩)
      · exact gs_throw (text := "no such value") hF hM htab hE th_IA d_EW_tell_41 d_EW_tell_44 d_EW_tell_45 d_EW_tell_47 d_EW_tell_50 (by decide +kernel) (by decide) (by decide) (by decide) (by decide) (fun H hG => ⟨Or.inr (Or.inr (⟨rfl, gn, h17, fun z => h38 z.1.2⟩)), hG⟩)
  · exact gs_throw (text := "as many hand events wait as can") hF hM htab hE th_IS d_EW_tell_20 d_EW_tell_23 d_EW_tell_24 d_EW_tell_26 d_EW_tell_29 (by decide +kernel) (by decide) (by decide) (by decide) (by decide) (fun H hG => ⟨Or.inr (Or.inl (⟨rfl, gn, h17⟩)), hG⟩)
set_option maxHeartbeats 4000000 in
set_option maxRecDepth 100000 in
theorem con_EW_drive {l : Launch} (hlt : l.stackTraces = false) {E : gE} {B : bsT} {N : nwT} {w : wdT} (hb : N.1 1 0 = true) (ho : N.1 0 0 = true) (ok : okC w 0) (n : Int32) (t : Int64) (x : Int32) : Con l E y_EW_drive (Cond.code y_EW_drive c_EW_drive 5 (some .int) :: gAll) rm_EW_drive [.ref (ad B 1 0 0 0), .int n, .long t, .int x] (gw E B N w) (fun v H => v = some (.int (wI w 0 0 4 0 0 + 1)) ∧ isN w n ∧ wI w 0 0 4 0 0 < 100 ∧ ((0 ≤ x ∧ x ≤ 3) ∧ (wL w 0 0 0 0 0 ≤ t ∧ t ≤ 1000000000)) ∧ gw E B N (apX w 0 n t x) H) (fun M H => (M = xIO ∧ ¬ isN w n ∨ M = xIS ∧ isN w n ∧ ¬ wI w 0 0 4 0 0 < 100 ∨ M = xIA ∧ isN w n ∧ wI w 0 0 4 0 0 < 100 ∧ ¬ ((0 ≤ x ∧ x ≤ 3) ∧ (wL w 0 0 0 0 0 ≤ t ∧ t ≤ 1000000000))) ∧ gw E B (nx1 N) w H) 2 12 := by
  refine con_of (by decide) hlt (Nat.le_of_ble_eq_true rfl) ?_
  intro F hF hM htab hnm hE hlo hl
  subst hl
  have hF : Fb F c_EW_drive R_EW 5 rm_EW_drive := hF
  have hK := hE.1
  have hT := hE.2.1
  refine go_lv (lv' := [(0, _), (1, _), (2, _), (4, _)]) ⟨rfl, rfl, rfl, rfl, trivial⟩ ?_
  refine go_aload_n hF d_EW_drive_0 rfl ?_
  refine go_iconst (v := 0) hF d_EW_drive_1 (by decide) ?_
  refine go_iload_n hF d_EW_drive_2 rfl ?_
  refine go_lload_n hF d_EW_drive_3 rfl ?_
  refine go_iload hF d_EW_drive_4 rfl ?_
  refine go_callVX hF hE hlo d_EW_drive_6 (con_EW_tell hlt hb ho ok 0 n t x) mt_EW_tell mv_EW_tell lk_EW_86 ⟨rfl, rfl, by decide, by decide⟩ rfl (Nat.le_of_ble_eq_true rfl) ⟨by decide, by decide⟩ (fun H hG => gw_recv (q := (R_EW, T_EW, 4)) hK hG hb rfl rfl (by decide) rfl) (fun M => gx_out hF hM htab (fun H hG => hG) (by decide) (by decide)) rfl (fun v => ?_)
  refine go_and (fun hv => ?_)
  subst hv
  exact go_iret hF hM d_EW_drive_9 (by decide) (by decide) (fun H hG => ⟨rfl, hG⟩)
set_option maxHeartbeats 4000000 in
set_option maxRecDepth 100000 in
theorem con_EW_force {l : Launch} (hlt : l.stackTraces = false) {E : gE} {B : bsT} {N : nwT} {w : wdT} (hb : N.1 1 0 = true) (ho : N.1 0 0 = true) (ok : okC w 0) (n : Int32) (t : Int64) (x : Int32) : Con l E y_EW_force (Cond.code y_EW_force c_EW_force 5 (some .int) :: gAll) rm_EW_force [.ref (ad B 1 0 0 0), .int n, .long t, .int x] (gw E B N w) (fun v H => v = some (.int (wI w 0 0 4 0 0 + 1)) ∧ isN w n ∧ wI w 0 0 4 0 0 < 100 ∧ ((0 ≤ x ∧ x ≤ 3) ∧ (wL w 0 0 0 0 0 ≤ t ∧ t ≤ 1000000000)) ∧ gw E B N (apX w 1 n t x) H) (fun M H => (M = xIO ∧ ¬ isN w n ∨ M = xIS ∧ isN w n ∧ ¬ wI w 0 0 4 0 0 < 100 ∨ M = xIA ∧ isN w n ∧ wI w 0 0 4 0 0 < 100 ∧ ¬ ((0 ≤ x ∧ x ≤ 3) ∧ (wL w 0 0 0 0 0 ≤ t ∧ t ≤ 1000000000))) ∧ gw E B (nx1 N) w H) 2 12 := by
  refine con_of (by decide) hlt (Nat.le_of_ble_eq_true rfl) ?_
  intro F hF hM htab hnm hE hlo hl
  subst hl
  have hF : Fb F c_EW_force R_EW 5 rm_EW_force := hF
  have hK := hE.1
  have hT := hE.2.1
  refine go_lv (lv' := [(0, _), (1, _), (2, _), (4, _)]) ⟨rfl, rfl, rfl, rfl, trivial⟩ ?_
  refine go_aload_n hF d_EW_force_0 rfl ?_
  refine go_iconst (v := 1) hF d_EW_force_1 (by decide) ?_
  refine go_iload_n hF d_EW_force_2 rfl ?_
  refine go_lload_n hF d_EW_force_3 rfl ?_
  refine go_iload hF d_EW_force_4 rfl ?_
  refine go_callVX hF hE hlo d_EW_force_6 (con_EW_tell hlt hb ho ok 1 n t x) mt_EW_tell mv_EW_tell lk_EW_86 ⟨rfl, rfl, by decide, by decide⟩ rfl (Nat.le_of_ble_eq_true rfl) ⟨by decide, by decide⟩ (fun H hG => gw_recv (q := (R_EW, T_EW, 4)) hK hG hb rfl rfl (by decide) rfl) (fun M => gx_out hF hM htab (fun H hG => hG) (by decide) (by decide)) rfl (fun v => ?_)
  refine go_and (fun hv => ?_)
  subst hv
  exact go_iret hF hM d_EW_force_9 (by decide) (by decide) (fun H hG => ⟨rfl, hG⟩)
set_option maxHeartbeats 4000000 in
set_option maxRecDepth 100000 in
theorem con_EW_release {l : Launch} (hlt : l.stackTraces = false) {E : gE} {B : bsT} {N : nwT} {w : wdT} (hb : N.1 1 0 = true) (ho : N.1 0 0 = true) (ok : okC w 0) (n : Int32) (t : Int64) : Con l E y_EW_release (Cond.code y_EW_release c_EW_release 4 (some .int) :: gAll) rm_EW_release [.ref (ad B 1 0 0 0), .int n, .long t] (gw E B N w) (fun v H => v = some (.int (wI w 0 0 4 0 0 + 1)) ∧ isN w n ∧ wI w 0 0 4 0 0 < 100 ∧ ((0 ≤ (3 : Int32) ∧ (3 : Int32) ≤ 3) ∧ (wL w 0 0 0 0 0 ≤ t ∧ t ≤ 1000000000)) ∧ gw E B N (apX w 2 n t 3) H) (fun M H => (M = xIO ∧ ¬ isN w n ∨ M = xIS ∧ isN w n ∧ ¬ wI w 0 0 4 0 0 < 100 ∨ M = xIA ∧ isN w n ∧ wI w 0 0 4 0 0 < 100 ∧ ¬ ((0 ≤ (3 : Int32) ∧ (3 : Int32) ≤ 3) ∧ (wL w 0 0 0 0 0 ≤ t ∧ t ≤ 1000000000))) ∧ gw E B (nx1 N) w H) 2 12 := by
  refine con_of (by decide) hlt (Nat.le_of_ble_eq_true rfl) ?_
  intro F hF hM htab hnm hE hlo hl
  subst hl
  have hF : Fb F c_EW_release R_EW 4 rm_EW_release := hF
  have hK := hE.1
  have hT := hE.2.1
  refine go_lv (lv' := [(0, _), (1, _), (2, _)]) ⟨rfl, rfl, rfl, trivial⟩ ?_
  refine go_aload_n hF d_EW_release_0 rfl ?_
  refine go_iconst (v := 2) hF d_EW_release_1 (by decide) ?_
  refine go_iload_n hF d_EW_release_2 rfl ?_
  refine go_lload_n hF d_EW_release_3 rfl ?_
  refine go_iconst (v := 3) hF d_EW_release_4 (by decide) ?_
  refine go_callVX hF hE hlo d_EW_release_5 (con_EW_tell hlt hb ho ok 2 n t 3) mt_EW_tell mv_EW_tell lk_EW_86 ⟨rfl, rfl, by decide, by decide⟩ rfl (Nat.le_of_ble_eq_true rfl) ⟨by decide, by decide⟩ (fun H hG => gw_recv (q := (R_EW, T_EW, 4)) hK hG hb rfl rfl (by decide) rfl) (fun M => gx_out hF hM htab (fun H hG => hG) (by decide) (by decide)) rfl (fun v => ?_)
  refine go_and (fun hv => ?_)
  subst hv
  exact go_iret hF hM d_EW_release_8 (by decide) (by decide) (fun H hG => ⟨rfl, hG⟩)
set_option maxHeartbeats 4000000 in
set_option maxRecDepth 100000 in
theorem con_EW_check {l : Launch} (hlt : l.stackTraces = false) {E : gE} {B : bsT} {N : nwT} {w : wdT} (hb : N.1 1 0 = true) (ho : N.1 0 0 = true) (ok : okC w 0) (kd ck dt lm : Int32) : Con l E y_EW_check (Cond.code y_EW_check c_EW_check 5 (some .int) :: gAll) rm_EW_check [.ref (ad B 1 0 0 0), .int kd, .int ck, .int dt, .int lm] (gw E B N w) (fun v H => v = some (.int (wI w 0 0 0 6 0)) ∧ (isN w ck ∧ isN w dt) ∧ wI w 0 0 0 6 0 < 20 ∧ ((kd = 0 ∨ kd = 1) ∧ lenOk lm) ∧ gw E B N (acX w kd ck dt lm) H) (fun M H => (M = xIO ∧ ¬ (isN w ck ∧ isN w dt) ∨ M = xIS ∧ (isN w ck ∧ isN w dt) ∧ ¬ wI w 0 0 0 6 0 < 20 ∨ M = xIA ∧ (isN w ck ∧ isN w dt) ∧ wI w 0 0 0 6 0 < 20 ∧ ¬ ((kd = 0 ∨ kd = 1) ∧ lenOk lm)) ∧ gw E B (nx1 N) w H) 3 18 := by
  refine con_of (by decide) hlt (Nat.le_of_ble_eq_true rfl) ?_
  intro F hF hM htab hnm hE hlo hl
  subst hl
  have hF : Fb F c_EW_check R_EW 5 rm_EW_check := hF
  have hK := hE.1
  have hT := hE.2.1
  refine go_lv (lv' := [(0, _), (1, _), (2, _), (3, _), (4, _)]) ⟨rfl, rfl, rfl, rfl, rfl, trivial⟩ ?_
  refine go_aload_n hF d_EW_check_0 rfl ?_
  refine go_iload_n hF d_EW_check_1 rfl ?_
  refine go_callVX hF hE hlo d_EW_check_2 (con_EW_requireNet hlt hb ho ck) mt_EW_requireNet mv_EW_requireNet lk_EW_42 ⟨rfl, rfl, by decide, by decide⟩ rfl (Nat.le_of_ble_eq_true rfl) ⟨by decide, by decide⟩ (fun H hG => gw_recv (q := (R_EW, T_EW, 4)) hK hG hb rfl rfl (by decide) rfl) (fun M => gx_out hF hM htab (fun H hG => ⟨Or.inl (⟨hG.1.1, fun z => hG.1.2 z.1⟩), hG.2⟩) (by decide) (by decide)) rfl (fun v => ?_)
  refine go_and (fun hv => ?_)
  subst hv
  refine go_and (fun gc1 => ?_)
  refine go_aload_n hF d_EW_check_5 rfl ?_
  refine go_iload_n hF d_EW_check_6 rfl ?_
  refine go_callVX hF hE hlo d_EW_check_7 (con_EW_requireNet hlt hb ho dt) mt_EW_requireNet mv_EW_requireNet lk_EW_42 ⟨rfl, rfl, by decide, by decide⟩ rfl (Nat.le_of_ble_eq_true rfl) ⟨by decide, by decide⟩ (fun H hG => gw_recv (q := (R_EW, T_EW, 4)) hK hG hb rfl rfl (by decide) rfl) (fun M => gx_out hF hM htab (fun H hG => ⟨Or.inl (⟨hG.1.1, fun z => hG.1.2 z.2⟩), hG.2⟩) (by decide) (by decide)) rfl (fun v => ?_)
  refine go_and (fun hv => ?_)
  subst hv
  refine go_and (fun gd => ?_)
  refine go_aload_n hF d_EW_check_10 rfl ?_
  refine gs_getx hF hK d_EW_check_11 fl_EW_10 hb rfl rfl (by decide) rfl ?_
  refine gs_geti hF hK d_EW_check_14 fl_EW_90 ho rfl rfl (by decide) rfl ?_
  refine go_bipush (v := 20) hF d_EW_check_17 (by decide) ?_
  refine go_icmp_lt (tgt := 32) hF d_EW_check_19 (by decide) (fun h19 => ?_) (fun h19 => ?_)
  · refine go_iload_n hF d_EW_check_32 rfl ?_
    refine go_if_eq (tgt := 51) hF d_EW_check_33 (by decide) (fun h33 => ?_) (fun h33 => ?_)
    · refine go_iload hF d_EW_check_51 rfl ?_
      refine go_callSX hF hE hlo d_EW_check_53 (con_EW_isLength hlt lm) mt_EW_isLength ms_EW_isLength lk_EW_65 ⟨rfl, rfl, by decide, by decide⟩ rfl (Nat.le_of_ble_eq_true rfl) ⟨by decide, by decide⟩ (fun M => gx_no) rfl (fun v => ?_)
      refine go_and (fun hv => ?_)
      subst hv
      refine go_if_ne (tgt := 69) hF d_EW_check_56 (by decide) (fun h56 => ?_) (fun h56 => ?_)
      · refine go_aload_n hF d_EW_check_69 rfl ?_
        refine gs_getx hF hK d_EW_check_70 fl_EW_10 hb rfl rfl (by decide) rfl ?_
        refine go_iload_n hF d_EW_check_73 rfl ?_
        refine go_iload_n hF d_EW_check_74 rfl ?_
        refine go_iload_n hF d_EW_check_75 rfl ?_
        refine go_iload hF d_EW_check_76 rfl ?_
        refine go_callVX hF hE hlo d_EW_check_78 (con_Ci_addCheck hlt ho ok.2.2.1.1 (nz_lt ok.2.2.1 (by decide) (by decide) h19) kd ck dt lm) mt_Ci_addCheck mv_Ci_addCheck lk_EW_99 ⟨rfl, rfl, by decide, by decide⟩ rfl (Nat.le_of_ble_eq_true rfl) ⟨by decide, by decide⟩ (fun H hG => gw_recv (q := (R_Ci, T_Ci, 10)) hK hG ho rfl rfl (by decide) rfl) (fun M => gx_no) rfl (fun v => ?_)
        refine go_and (fun hv => ?_)
        subst hv
        exact go_iret hF hM d_EW_check_81 (by decide) (by decide) (fun H hG => ⟨congrArg (fun x => some (Value.int x)) ok.2.2.1.1.symm, ⟨gc1, gd⟩, h19, ⟨Or.inl h33, bi_1 h56⟩, hG⟩)
      · exact gs_throw (text := "a limit is not 0 .. 1000") hF hM htab hE th_IA d_EW_check_59 d_EW_check_62 d_EW_check_63 d_EW_check_65 d_EW_check_68 (by decide +kernel) (by decide) (by decide) (by decide) (by decide) (fun H hG => ⟨Or.inr (Or.inr (⟨rfl, ⟨gc1, gd⟩, h19, fun z => bi_0 h56 z.2⟩)), hG⟩)
    · refine go_iload_n hF d_EW_check_36 rfl ?_
      refine go_iconst (v := 1) hF d_EW_check_37 (by decide) ?_
      refine go_icmp_eq (tgt := 51) hF d_EW_check_38 (by decide) (fun h38 => ?_) (fun h38 => ?_)
      · refine go_iload hF d_EW_check_51 rfl ?_
        refine go_callSX hF hE hlo d_EW_check_53 (con_EW_isLength hlt lm) mt_EW_isLength ms_EW_isLength lk_EW_65 ⟨rfl, rfl, by decide, by decide⟩ rfl (Nat.le_of_ble_eq_true rfl) ⟨by decide, by decide⟩ (fun M => gx_no) rfl (fun v => ?_)
        refine go_and (fun hv => ?_)
        subst hv
        refine go_if_ne (tgt := 69) hF d_EW_check_56 (by decide) (fun h56 => ?_) (fun h56 => ?_)
        · refine go_aload_n hF d_EW_check_69 rfl ?_
          refine gs_getx hF hK d_EW_check_70 fl_EW_10 hb rfl rfl (by decide) rfl ?_
          refine go_iload_n hF d_EW_check_73 rfl ?_
          refine go_iload_n hF d_EW_check_74 rfl ?_
          refine go_iload_n hF d_EW_check_75 rfl ?_
          refine go_iload hF d_EW_check_76 rfl ?_
          refine go_callVX hF hE hlo d_EW_check_78 (con_Ci_addCheck hlt ho ok.2.2.1.1 (nz_lt ok.2.2.1 (by decide) (by decide) h19) kd ck dt lm) mt_Ci_addCheck mv_Ci_addCheck lk_EW_99 ⟨rfl, rfl, by decide, by decide⟩ rfl (Nat.le_of_ble_eq_true rfl) ⟨by decide, by decide⟩ (fun H hG => gw_recv (q := (R_Ci, T_Ci, 10)) hK hG ho rfl rfl (by decide) rfl) (fun M => gx_no) rfl (fun v => ?_)
          refine go_and (fun hv => ?_)
          subst hv
          exact go_iret hF hM d_EW_check_81 (by decide) (by decide) (fun H hG => ⟨congrArg (fun x => some (Value.int x)) ok.2.2.1.1.symm, ⟨gc1, gd⟩, h19, ⟨Or.inr h38, bi_1 h56⟩, hG⟩)
        · exact gs_throw (text := "a limit is not 0 .. 1000") hF hM htab hE th_IA d_EW_check_59 d_EW_check_62 d_EW_check_63 d_EW_check_65 d_EW_check_68 (by decide +kernel) (by decide) (by decide) (by decide) (by decide) (fun H hG => ⟨Or.inr (Or.inr (⟨rfl, ⟨gc1, gd⟩, h19, fun z => bi_0 h56 z.2⟩)), hG⟩)
      · exact gs_throw (text := "no such kind of check") hF hM htab hE th_IA d_EW_check_41 d_EW_check_44 d_EW_check_45 d_EW_check_47 d_EW_check_50 (by decide +kernel) (by decide) (by decide) (by decide) (by decide) (fun H hG => ⟨Or.inr (Or.inr (⟨rfl, ⟨gc1, gd⟩, h19, fun z => z.1.elim h33 h38⟩)), hG⟩)
  · exact gs_throw (text := "there are as many checks as there can be") hF hM htab hE th_IS d_EW_check_22 d_EW_check_25 d_EW_check_26 d_EW_check_28 d_EW_check_31 (by decide +kernel) (by decide) (by decide) (by decide) (by decide) (fun H hG => ⟨Or.inr (Or.inl (⟨rfl, ⟨gc1, gd⟩, h19⟩)), hG⟩)
set_option maxHeartbeats 4000000 in
set_option maxRecDepth 100000 in
theorem con_EW_broken {l : Launch} (hlt : l.stackTraces = false) {E : gE} {B : bsT} {N : nwT} {w : wdT} (hb : N.1 1 0 = true) (ho : N.1 0 0 = true) (ok : okC w 0) (x : Int32) : Con l E y_EW_broken (Cond.code y_EW_broken c_EW_broken 2 (some .int) :: gAll) rm_EW_broken [.ref (ad B 1 0 0 0), .int x] (gw E B N w) (fun v H => v = some (.int (wI w 0 0 15 4 (nz x))) ∧ isK w x ∧ gw E B N w H) (fun M H => (M = xIO ∧ ¬ isK w x) ∧ gw E B (nx1 N) w H) 1 6 := by
  refine con_of (by decide) hlt (Nat.le_of_ble_eq_true rfl) ?_
  intro F hF hM htab hnm hE hlo hl
  subst hl
  have hF : Fb F c_EW_broken R_EW 2 rm_EW_broken := hF
  have hK := hE.1
  have hT := hE.2.1
  refine go_lv (lv' := [(0, _), (1, _)]) ⟨rfl, rfl, trivial⟩ ?_
  refine go_iload_n hF d_EW_broken_0 rfl ?_
  refine go_if_lt (tgt := 15) hF d_EW_broken_1 (by decide) (fun h1 => ?_) (fun h1 => ?_)
  · exact gs_throw (text := "no such check") hF hM htab hE th_IO d_EW_broken_15 d_EW_broken_18 d_EW_broken_19 d_EW_broken_21 d_EW_broken_24 (by decide +kernel) (by decide) (by decide) (by decide) (by decide) (fun H hG => ⟨⟨rfl, fun z => Int32.lt_irrefl (Int32.lt_of_lt_of_le h1 z.1)⟩, hG⟩)
  · refine go_iload_n hF d_EW_broken_4 rfl ?_
    refine go_aload_n hF d_EW_broken_5 rfl ?_
    refine gs_getx hF hK d_EW_broken_6 fl_EW_10 hb rfl rfl (by decide) rfl ?_
    refine gs_geti hF hK d_EW_broken_9 fl_EW_90 ho rfl rfl (by decide) rfl ?_
    refine go_icmp_lt (tgt := 25) hF d_EW_broken_12 (by decide) (fun h12 => ?_) (fun h12 => ?_)
    · have hk : isK w x := ⟨not_lt h1, h12⟩
      have hkv := isK_vn ok hk
      refine go_aload_n hF d_EW_broken_25 rfl ?_
      refine gs_getx hF hK d_EW_broken_26 fl_EW_10 hb rfl rfl (by decide) rfl ?_
      refine gs_getr hF hK d_EW_broken_29 fl_EW_104 ho rfl rfl (by decide) rfl ?_
      refine go_iload_n hF d_EW_broken_32 rfl ?_
      refine gs_aald hF hK hT d_EW_broken_33 ho rfl rfl hkv.1.1 hkv.1.2 (by decide) ?_
      refine gs_geti hF hK d_EW_broken_34 fl_EW_108 ho rfl rfl hkv.1.2 rfl ?_
      exact go_iret hF hM d_EW_broken_37 (by decide) (by decide) (fun H hG => ⟨rfl, hk, hG⟩)
    · exact gs_throw (text := "no such check") hF hM htab hE th_IO d_EW_broken_15 d_EW_broken_18 d_EW_broken_19 d_EW_broken_21 d_EW_broken_24 (by decide +kernel) (by decide) (by decide) (by decide) (by decide) (fun H hG => ⟨⟨rfl, fun z => h12 z.2⟩, hG⟩)
set_option maxHeartbeats 4000000 in
set_option maxRecDepth 100000 in
theorem con_EW_run {l : Launch} (hlt : l.stackTraces = false) {E : gE} {B : bsT} {N : nwT} {w : wdT} (hb : N.1 1 0 = true) (ho : N.1 0 0 = true) (ok : okC w 0) (t : Int64) : Con l E y_EW_run (Cond.code y_EW_run c_EW_run 3 (some .long) :: gAll) rm_EW_run [.ref (ad B 1 0 0 0), .long t] (gw E B N w) (fun v H => v = some (.long (adW 0 t 150 w 0 0).2) ∧ (wL w 0 0 0 0 0 ≤ t ∧ t ≤ 1000000000) ∧ gw E B N (adW 0 t 150 w 0 0).1 H) (fun M H => (M = xIA ∧ ¬ (wL w 0 0 0 0 0 ≤ t ∧ t ≤ 1000000000)) ∧ gw E B (nx1 N) w H) 1 6 := by
  refine con_of (by decide) hlt (Nat.le_of_ble_eq_true rfl) ?_
  intro F hF hM htab hnm hE hlo hl
  subst hl
  have hF : Fb F c_EW_run R_EW 3 rm_EW_run := hF
  have hK := hE.1
  have hT := hE.2.1
  refine go_lv (lv' := [(0, _), (1, _)]) ⟨rfl, rfl, trivial⟩ ?_
  refine go_aload_n hF d_EW_run_0 rfl ?_
  refine gs_getx hF hK d_EW_run_1 fl_EW_10 hb rfl rfl (by decide) rfl ?_
  refine go_lload_n hF d_EW_run_4 rfl ?_
  refine go_callVX hF hE hlo d_EW_run_5 (con_Ci_isToCome hlt ho t) mt_Ci_isToCome mv_Ci_isToCome lk_EW_113 ⟨rfl, rfl, by decide, by decide⟩ rfl (Nat.le_of_ble_eq_true rfl) ⟨by decide, by decide⟩ (fun H hG => gw_recv (q := (R_Ci, T_Ci, 10)) hK hG ho rfl rfl (by decide) rfl) (fun M => gx_no) rfl (fun v => ?_)
  refine go_and (fun hv => ?_)
  subst hv
  refine go_if_ne (tgt := 21) hF d_EW_run_8 (by decide) (fun h8 => ?_) (fun h8 => ?_)
  · refine go_aload_n hF d_EW_run_21 rfl ?_
    refine gs_getx hF hK d_EW_run_22 fl_EW_10 hb rfl rfl (by decide) rfl ?_
    refine go_lload_n hF d_EW_run_25 rfl ?_
    refine go_callVX hF hE hlo d_EW_run_26 (con_Ci_advance hlt ho ok t) mt_Ci_advance mv_Ci_advance lk_EW_119 ⟨rfl, rfl, by decide, by decide⟩ rfl (Nat.le_of_ble_eq_true rfl) ⟨by decide, by decide⟩ (fun H hG => gw_recv (q := (R_Ci, T_Ci, 10)) hK hG ho rfl rfl (by decide) rfl) (fun M => gx_no) rfl (fun v => ?_)
    refine go_and (fun hv => ?_)
    subst hv
    exact go_lret hF hM d_EW_run_29 (by decide) (by decide) (fun H hG => ⟨rfl, bi_1 h8, hG⟩)
  · exact gs_throw (text := "the time is before now or beyond the last one") hF hM htab hE th_IA d_EW_run_11 d_EW_run_14 d_EW_run_15 d_EW_run_17 d_EW_run_20 (by decide +kernel) (by decide) (by decide) (by decide) (by decide) (fun H hG => ⟨⟨rfl, bi_0 h8⟩, hG⟩)
set_option maxHeartbeats 4000000 in
set_option maxRecDepth 100000 in
theorem con_EW_now {l : Launch} (hlt : l.stackTraces = false) {E : gE} {B : bsT} {N : nwT} {w : wdT} (hb : N.1 1 0 = true) (ho : N.1 0 0 = true) : Con l E y_EW_now (Cond.code y_EW_now c_EW_now 1 (some .long) :: gAll) rm_EW_now [.ref (ad B 1 0 0 0)] (gw E B N w) (fun v H => v = some (.long (wL w 0 0 0 0 0)) ∧ gw E B N w H) (fun _ _ => False) 0 0 := by
  refine con_of (by decide) hlt (Nat.le_of_ble_eq_true rfl) ?_
  intro F hF hM htab hnm hE hlo hl
  subst hl
  have hF : Fb F c_EW_now R_EW 1 rm_EW_now := hF
  have hK := hE.1
  have hT := hE.2.1
  refine go_lv (lv' := [(0, _)]) ⟨rfl, trivial⟩ ?_
  refine go_aload_n hF d_EW_now_0 rfl ?_
  refine gs_getx hF hK d_EW_now_1 fl_EW_10 hb rfl rfl (by decide) rfl ?_
  refine gs_getl hF hK d_EW_now_4 fl_EW_123 ho rfl rfl (by decide) rfl ?_
  exact go_lret hF hM d_EW_now_7 (by decide) (by decide) (fun H hG => ⟨rfl, hG⟩)
set_option maxHeartbeats 4000000 in
set_option maxRecDepth 100000 in
theorem con_EW_at {l : Launch} (hlt : l.stackTraces = false) {E : gE} {B : bsT} {N : nwT} {w : wdT} (hb : N.1 1 0 = true) (ho : N.1 0 0 = true) (ok : okC w 0) (n : Int32) (t : Int64) : Con l E y_EW_at (Cond.code y_EW_at c_EW_at 4 (some .int) :: gAll) rm_EW_at [.ref (ad B 1 0 0 0), .int n, .long t] (gw E B N w) (fun v H => v = some (.int (latW w 0 n t (nz (wI w 0 0 9 0 0)))) ∧ isN w n ∧ (0 ≤ t ∧ t ≤ wL w 0 0 0 0 0) ∧ gw E B N w H) (fun M H => (M = xIO ∧ ¬ isN w n ∨ M = xIA ∧ isN w n ∧ ¬ (0 ≤ t ∧ t ≤ wL w 0 0 0 0 0)) ∧ gw E B (nx1 N) w H) 2 12 := by
  refine con_of (by decide) hlt (Nat.le_of_ble_eq_true rfl) ?_
  intro F hF hM htab hnm hE hlo hl
  subst hl
  have hF : Fb F c_EW_at R_EW 4 rm_EW_at := hF
  have hK := hE.1
  have hT := hE.2.1
  refine go_lv (lv' := [(0, _), (1, _), (2, _)]) ⟨rfl, rfl, rfl, trivial⟩ ?_
  refine go_aload_n hF d_EW_at_0 rfl ?_
  refine go_iload_n hF d_EW_at_1 rfl ?_
  refine go_callVX hF hE hlo d_EW_at_2 (con_EW_requireNet hlt hb ho n) mt_EW_requireNet mv_EW_requireNet lk_EW_42 ⟨rfl, rfl, by decide, by decide⟩ rfl (Nat.le_of_ble_eq_true rfl) ⟨by decide, by decide⟩ (fun H hG => gw_recv (q := (R_EW, T_EW, 4)) hK hG hb rfl rfl (by decide) rfl) (fun M => gx_out hF hM htab (fun H hG => ⟨Or.inl (⟨hG.1.1, hG.1.2⟩), hG.2⟩) (by decide) (by decide)) rfl (fun v => ?_)
  refine go_and (fun hv => ?_)
  subst hv
  refine go_and (fun gn => ?_)
  refine go_lload_n hF d_EW_at_5 rfl ?_
  refine go_lconst (v := 0) hF d_EW_at_6 (by decide) ?_
  refine go_lif_lt (tgt := 23) hF d_EW_at_7 d_EW_at_8 (by decide) (fun h7 => ?_) (fun h7 => ?_)
  · exact gs_throw (text := "the time is below 0 or beyond now") hF hM htab hE th_IA d_EW_at_23 d_EW_at_26 d_EW_at_27 d_EW_at_29 d_EW_at_32 (by decide +kernel) (by decide) (by decide) (by decide) (by decide) (fun H hG => ⟨Or.inr (⟨rfl, gn, fun z => Int64.lt_irrefl (Int64.lt_of_lt_of_le h7 z.1)⟩), hG⟩)
  · refine go_lload_n hF d_EW_at_11 rfl ?_
    refine go_aload_n hF d_EW_at_12 rfl ?_
    refine gs_getx hF hK d_EW_at_13 fl_EW_10 hb rfl rfl (by decide) rfl ?_
    refine gs_getl hF hK d_EW_at_16 fl_EW_123 ho rfl rfl (by decide) rfl ?_
    refine go_lif_le (tgt := 33) hF d_EW_at_19 d_EW_at_20 (by decide) (fun h19 => ?_) (fun h19 => ?_)
    · refine go_aload_n hF d_EW_at_33 rfl ?_
      refine gs_getx hF hK d_EW_at_34 fl_EW_10 hb rfl rfl (by decide) rfl ?_
      refine gs_getr hF hK d_EW_at_37 fl_EW_129 ho rfl rfl (by decide) rfl ?_
      refine go_iload_n hF d_EW_at_40 rfl ?_
      refine go_lload_n hF d_EW_at_41 rfl ?_
      refine go_callVX hF hE hlo d_EW_at_42 (con_Wa_latest hlt ho ok.2.2.2.2.1.1 ok.2.2.2.2.1.2 n t) mt_Wa_latest mv_Wa_latest lk_EW_133 ⟨rfl, rfl, by decide, by decide⟩ rfl (Nat.le_of_ble_eq_true rfl) ⟨by decide, by decide⟩ (fun H hG => gw_recv (q := (R_Wa, T_Wa, 4)) hK hG ho rfl rfl (by decide) rfl) (fun M => gx_no) rfl (fun v => ?_)
      refine go_and (fun hv => ?_)
      subst hv
      exact go_iret hF hM d_EW_at_45 (by decide) (by decide) (fun H hG => ⟨rfl, gn, ⟨by simp only [Int64.lt_iff_toInt_lt, Int64.le_iff_toInt_le] at *; omega, h19⟩, hG⟩)
    · exact gs_throw (text := "the time is below 0 or beyond now") hF hM htab hE th_IA d_EW_at_23 d_EW_at_26 d_EW_at_27 d_EW_at_29 d_EW_at_32 (by decide +kernel) (by decide) (by decide) (by decide) (by decide) (fun H hG => ⟨Or.inr (⟨rfl, gn, fun z => h19 z.2⟩), hG⟩)
set_option maxHeartbeats 4000000 in
set_option maxRecDepth 100000 in
theorem con_EW_value {l : Launch} (hlt : l.stackTraces = false) {E : gE} {B : bsT} {N : nwT} {w : wdT} (hb : N.1 1 0 = true) (ho : N.1 0 0 = true) (ok : okC w 0) (n : Int32) : Con l E y_EW_value (Cond.code y_EW_value c_EW_value 2 (some .int) :: gAll) rm_EW_value [.ref (ad B 1 0 0 0), .int n] (gw E B N w) (fun v H => v = some (.int (wI w 0 0 13 2 (nz n))) ∧ isN w n ∧ gw E B N w H) (fun M H => (M = xIO ∧ ¬ isN w n) ∧ gw E B (nx1 N) w H) 1 6 := by
  refine con_of (by decide) hlt (Nat.le_of_ble_eq_true rfl) ?_
  intro F hF hM htab hnm hE hlo hl
  subst hl
  have hF : Fb F c_EW_value R_EW 2 rm_EW_value := hF
  have hK := hE.1
  have hT := hE.2.1
  refine go_lv (lv' := [(0, _), (1, _)]) ⟨rfl, rfl, trivial⟩ ?_
  refine go_aload_n hF d_EW_value_0 rfl ?_
  refine go_iload_n hF d_EW_value_1 rfl ?_
  refine go_callVX hF hE hlo d_EW_value_2 (con_EW_requireNet hlt hb ho n) mt_EW_requireNet mv_EW_requireNet lk_EW_42 ⟨rfl, rfl, by decide, by decide⟩ rfl (Nat.le_of_ble_eq_true rfl) ⟨by decide, by decide⟩ (fun H hG => gw_recv (q := (R_EW, T_EW, 4)) hK hG hb rfl rfl (by decide) rfl) (fun M => gx_out hF hM htab (fun H hG => hG) (by decide) (by decide)) rfl (fun v => ?_)
  refine go_and (fun hv => ?_)
  subst hv
  refine go_and (fun gn => ?_)
  have hv := isN_vn ok gn
  refine go_aload_n hF d_EW_value_5 rfl ?_
  refine gs_getx hF hK d_EW_value_6 fl_EW_10 hb rfl rfl (by decide) rfl ?_
  refine gs_getr hF hK d_EW_value_9 fl_EW_139 ho rfl rfl (by decide) rfl ?_
  refine go_iload_n hF d_EW_value_12 rfl ?_
  refine gs_aald hF hK hT d_EW_value_13 ho rfl rfl hv.1 hv.2 (by decide) ?_
  refine gs_geti hF hK d_EW_value_14 fl_EW_143 ho rfl rfl hv.2 rfl ?_
  exact go_iret hF hM d_EW_value_17 (by decide) (by decide) (fun H hG => ⟨rfl, gn, hG⟩)
set_option maxHeartbeats 4000000 in
set_option maxRecDepth 100000 in
theorem con_EW_counted {l : Launch} (hlt : l.stackTraces = false) {E : gE} {B : bsT} {N : nwT} {w : wdT} (hb : N.1 1 0 = true) (ho : N.1 0 0 = true) (ok : okC w 0) (n : Int32) : Con l E y_EW_counted (Cond.code y_EW_counted c_EW_counted 2 (some .long) :: gAll) rm_EW_counted [.ref (ad B 1 0 0 0), .int n] (gw E B N w) (fun v H => v = some (.long (wL w 0 0 13 3 (nz n))) ∧ isN w n ∧ gw E B N w H) (fun M H => (M = xIO ∧ ¬ isN w n) ∧ gw E B (nx1 N) w H) 1 6 := by
  refine con_of (by decide) hlt (Nat.le_of_ble_eq_true rfl) ?_
  intro F hF hM htab hnm hE hlo hl
  subst hl
  have hF : Fb F c_EW_counted R_EW 2 rm_EW_counted := hF
  have hK := hE.1
  have hT := hE.2.1
  refine go_lv (lv' := [(0, _), (1, _)]) ⟨rfl, rfl, trivial⟩ ?_
  refine go_aload_n hF d_EW_counted_0 rfl ?_
  refine go_iload_n hF d_EW_counted_1 rfl ?_
  refine go_callVX hF hE hlo d_EW_counted_2 (con_EW_requireNet hlt hb ho n) mt_EW_requireNet mv_EW_requireNet lk_EW_42 ⟨rfl, rfl, by decide, by decide⟩ rfl (Nat.le_of_ble_eq_true rfl) ⟨by decide, by decide⟩ (fun H hG => gw_recv (q := (R_EW, T_EW, 4)) hK hG hb rfl rfl (by decide) rfl) (fun M => gx_out hF hM htab (fun H hG => hG) (by decide) (by decide)) rfl (fun v => ?_)
  refine go_and (fun hv => ?_)
  subst hv
  refine go_and (fun gn => ?_)
  have hv := isN_vn ok gn
  refine go_aload_n hF d_EW_counted_5 rfl ?_
  refine gs_getx hF hK d_EW_counted_6 fl_EW_10 hb rfl rfl (by decide) rfl ?_
  refine gs_getr hF hK d_EW_counted_9 fl_EW_139 ho rfl rfl (by decide) rfl ?_
  refine go_iload_n hF d_EW_counted_12 rfl ?_
  refine gs_aald hF hK hT d_EW_counted_13 ho rfl rfl hv.1 hv.2 (by decide) ?_
  refine gs_getl hF hK d_EW_counted_14 fl_EW_164 ho rfl rfl hv.2 rfl ?_
  exact go_lret hF hM d_EW_counted_17 (by decide) (by decide) (fun H hG => ⟨rfl, gn, hG⟩)
set_option maxHeartbeats 4000000 in
set_option maxRecDepth 100000 in
theorem con_EW_levels {l : Launch} (hlt : l.stackTraces = false) {E : gE} {B : bsT} {N : nwT} {w : wdT} (hb : N.1 1 0 = true) (ho : N.1 0 0 = true) (ok : okC w 0) : Con l E y_EW_levels (Cond.code y_EW_levels c_EW_levels 1 (some .int) :: gAll) rm_EW_levels [.ref (ad B 1 0 0 0)] (gw E B N w) (fun v H => v = some (.int (nI (uns w 0 (nz (wI w 0 0 0 4 0))))) ∧ gw E B N w H) (fun _ _ => False) 0 0 := by
  refine con_of (by decide) hlt (Nat.le_of_ble_eq_true rfl) ?_
  intro F hF hM htab hnm hE hlo hl
  subst hl
  have hF : Fb F c_EW_levels R_EW 1 rm_EW_levels := hF
  have hK := hE.1
  have hT := hE.2.1
  refine go_lv (lv' := [(0, _)]) ⟨rfl, trivial⟩ ?_
  refine go_aload_n hF d_EW_levels_0 rfl ?_
  refine gs_getx hF hK d_EW_levels_1 fl_EW_10 hb rfl rfl (by decide) rfl ?_
  refine go_callVX hF hE hlo d_EW_levels_4 (con_Ci_unsettled hlt ho ok.2.1.1 ok.2.1.2 (fun g hg => ⟨(ok.2.2.2.2.2.1 g hg).1, (ok.2.2.2.2.2.1 g hg).2.1⟩)) mt_Ci_unsettled mv_Ci_unsettled lk_EW_200 ⟨rfl, rfl, by decide, by decide⟩ rfl (Nat.le_of_ble_eq_true rfl) ⟨by decide, by decide⟩ (fun H hG => gw_recv (q := (R_Ci, T_Ci, 10)) hK hG ho rfl rfl (by decide) rfl) (fun M => gx_no) rfl (fun v => ?_)
  refine go_and (fun hv => ?_)
  subst hv
  exact go_iret hF hM d_EW_levels_7 (by decide) (by decide) (fun H hG => ⟨rfl, hG⟩)
/-- what change(k, what) answers -/
def chg (w : wdT) (k what : Int32) : Int32 := if what = 3 then wI w 0 0 9 0 0 else if what = 0 then wI w 0 0 10 0 (nz k) else if what = 1 then wI w 0 0 11 0 (nz k) else wI w 0 0 12 0 (nz k)
def chgOk (w : wdT) (k what : Int32) : Prop := (what = 3 ∧ k = 0) ∨ (isW w k ∧ (what = 0 ∨ what = 1 ∨ what = 2 ∨ what = 3))
set_option maxHeartbeats 4000000 in
set_option maxRecDepth 100000 in
theorem con_EW_change {l : Launch} (hlt : l.stackTraces = false) {E : gE} {B : bsT} {N : nwT} {w : wdT} (hb : N.1 1 0 = true) (ho : N.1 0 0 = true) (ok : okC w 0) (k q : Int32) : Con l E y_EW_change (Cond.code y_EW_change c_EW_change 4 (some .int) :: gAll) rm_EW_change [.ref (ad B 1 0 0 0), .int k, .int q] (gw E B N w) (fun v H => v = some (.int (chg w k q)) ∧ chgOk w k q ∧ gw E B N w H) (fun M H => (M = xIO ∧ ¬ chgOk w k q) ∧ gw E B (nx1 N) w H) 1 6 := by
  refine con_of (by decide) hlt (Nat.le_of_ble_eq_true rfl) ?_
  intro F hF hM htab hnm hE hlo hl
  subst hl
  have hF : Fb F c_EW_change R_EW 4 rm_EW_change := hF
  have hK := hE.1
  have hT := hE.2.1
  refine go_lv (lv' := [(0, _), (1, _), (2, _)]) ⟨rfl, rfl, rfl, trivial⟩ ?_
  refine go_aload_n hF d_EW_change_0 rfl ?_
  refine gs_getx hF hK d_EW_change_1 fl_EW_10 hb rfl rfl (by decide) rfl ?_
  refine gs_getr hF hK d_EW_change_4 fl_EW_129 ho rfl rfl (by decide) rfl ?_
  refine go_astore_n hF d_EW_change_7 (by decide) ?_
  refine go_lv (lv' := [(0, _), (1, _), (2, _), (3, _)]) ⟨rfl, rfl, rfl, rfl, trivial⟩ ?_
  refine go_iload_n hF d_EW_change_8 rfl ?_
  refine go_iconst (v := 3) hF d_EW_change_9 (by decide) ?_
  refine go_icmp_ne (tgt := 22) hF d_EW_change_10 (by decide) (fun h10 => ?_) (fun h10 => ?_)
  · refine go_iload_n hF d_EW_change_22 rfl ?_
    refine go_if_lt (tgt := 34) hF d_EW_change_23 (by decide) (fun h23 => ?_) (fun h23 => ?_)
    · exact gs_throw (text := "no such change") hF hM htab hE th_IO d_EW_change_34 d_EW_change_37 d_EW_change_38 d_EW_change_40 d_EW_change_43 (by decide +kernel) (by decide) (by decide) (by decide) (by decide) (fun H hG => ⟨⟨rfl, fun z => z.elim (fun z => h10 z.1) (fun z => Int32.lt_irrefl (Int32.lt_of_lt_of_le h23 z.1.1))⟩, hG⟩)
    · refine go_iload_n hF d_EW_change_26 rfl ?_
      refine go_aload_n hF d_EW_change_27 rfl ?_
      refine gs_geti hF hK d_EW_change_28 fl_EW_148 ho rfl rfl (by decide) rfl ?_
      refine go_icmp_lt (tgt := 44) hF d_EW_change_31 (by decide) (fun h31 => ?_) (fun h31 => ?_)
      · have hk : isW w k := ⟨not_lt h23, h31⟩
        have hw := isW_vn ok hk
        refine go_iload_n hF d_EW_change_44 rfl ?_
        refine go_topi (fun x45 hx45 => ?_)
        by_cases e45_0 : x45 = 0
        · rw [e45_0]
          refine go_tableIn (off := 31) (tgt := 76) hF d_EW_change_45 (by decide) (by decide) (by decide) (by decide) ?_
          refine go_aload_n hF d_EW_change_76 rfl ?_
          refine gs_getr hF hK d_EW_change_77 fl_EW_153 ho rfl rfl (by decide) rfl ?_
          refine go_iload_n hF d_EW_change_80 rfl ?_
          refine gs_iald hF hK hT d_EW_change_81 ho rfl rfl hw.1.1 hw.1.2 (by decide) ?_
          exact go_iret hF hM d_EW_change_82 (by decide) (by decide) (fun H hG => ⟨by have e : q = 0 := hx45.symm.trans e45_0; subst e; rfl, Or.inr ⟨hk, Or.inl (hx45.symm.trans e45_0)⟩, hG⟩)
        by_cases e45_1 : x45 = 1
        · rw [e45_1]
          refine go_tableIn (off := 38) (tgt := 83) hF d_EW_change_45 (by decide) (by decide) (by decide) (by decide) ?_
          refine go_aload_n hF d_EW_change_83 rfl ?_
          refine gs_getr hF hK d_EW_change_84 fl_EW_157 ho rfl rfl (by decide) rfl ?_
          refine go_iload_n hF d_EW_change_87 rfl ?_
          refine gs_iald hF hK hT d_EW_change_88 ho rfl rfl hw.1.1 hw.1.2 (by decide) ?_
          exact go_iret hF hM d_EW_change_89 (by decide) (by decide) (fun H hG => ⟨by have e : q = 1 := hx45.symm.trans e45_1; subst e; rfl, Or.inr ⟨hk, Or.inr (Or.inl (hx45.symm.trans e45_1))⟩, hG⟩)
        by_cases e45_2 : x45 = 2
        · rw [e45_2]
          refine go_tableIn (off := 45) (tgt := 90) hF d_EW_change_45 (by decide) (by decide) (by decide) (by decide) ?_
          refine go_aload_n hF d_EW_change_90 rfl ?_
          refine gs_getr hF hK d_EW_change_91 fl_EW_159 ho rfl rfl (by decide) rfl ?_
          refine go_iload_n hF d_EW_change_94 rfl ?_
          refine gs_iald hF hK hT d_EW_change_95 ho rfl rfl hw.1.1 hw.1.2 (by decide) ?_
          exact go_iret hF hM d_EW_change_96 (by decide) (by decide) (fun H hG => ⟨by have e : q = 2 := hx45.symm.trans e45_2; subst e; rfl, Or.inr ⟨hk, Or.inr (Or.inr (Or.inl (hx45.symm.trans e45_2)))⟩, hG⟩)
        by_cases e45_3 : x45 = 3
        · rw [e45_3]
          refine go_tableIn (off := 52) (tgt := 97) hF d_EW_change_45 (by decide) (by decide) (by decide) (by decide) ?_
          refine go_aload_n hF d_EW_change_97 rfl ?_
          refine gs_geti hF hK d_EW_change_98 fl_EW_148 ho rfl rfl (by decide) rfl ?_
          exact go_iret hF hM d_EW_change_101 (by decide) (by decide) (fun H hG => ⟨by have e : q = 3 := hx45.symm.trans e45_3; subst e; rfl, Or.inr ⟨hk, Or.inr (Or.inr (Or.inr (hx45.symm.trans e45_3)))⟩, hG⟩)
        refine go_tableOut (tgt := 102) hF d_EW_change_45 (tsw_out (fun c h1 h2 => by
          rcases (show c = 0 ∨ c = 1 ∨ c = 2 ∨ c = 3 by omega) with rfl | rfl | rfl | rfl
          · exact e45_0
          · exact e45_1
          · exact e45_2
          · exact e45_3)) (by decide) ?_
        exact gs_throw (text := "a change has no such part") hF hM htab hE th_IO d_EW_change_102 d_EW_change_105 d_EW_change_106 d_EW_change_108 d_EW_change_111 (by decide +kernel) (by decide) (by decide) (by decide) (by decide) (fun H hG => ⟨⟨rfl, fun z => z.elim (fun z => e45_3 (hx45.trans z.1)) (fun z => by rcases z.2 with z | z | z | z; exact e45_0 (hx45.trans z); exact e45_1 (hx45.trans z); exact e45_2 (hx45.trans z); exact e45_3 (hx45.trans z))⟩, hG⟩)
      · exact gs_throw (text := "no such change") hF hM htab hE th_IO d_EW_change_34 d_EW_change_37 d_EW_change_38 d_EW_change_40 d_EW_change_43 (by decide +kernel) (by decide) (by decide) (by decide) (by decide) (fun H hG => ⟨⟨rfl, fun z => z.elim (fun z => h10 z.1) (fun z => h31 z.1.2)⟩, hG⟩)
  · refine go_iload_n hF d_EW_change_13 rfl ?_
    refine go_if_ne (tgt := 22) hF d_EW_change_14 (by decide) (fun h14 => ?_) (fun h14 => ?_)
    · refine go_iload_n hF d_EW_change_22 rfl ?_
      refine go_if_lt (tgt := 34) hF d_EW_change_23 (by decide) (fun h23 => ?_) (fun h23 => ?_)
      · exact gs_throw (text := "no such change") hF hM htab hE th_IO d_EW_change_34 d_EW_change_37 d_EW_change_38 d_EW_change_40 d_EW_change_43 (by decide +kernel) (by decide) (by decide) (by decide) (by decide) (fun H hG => ⟨⟨rfl, fun z => z.elim (fun z => h14 z.2) (fun z => Int32.lt_irrefl (Int32.lt_of_lt_of_le h23 z.1.1))⟩, hG⟩)
      · refine go_iload_n hF d_EW_change_26 rfl ?_
        refine go_aload_n hF d_EW_change_27 rfl ?_
        refine gs_geti hF hK d_EW_change_28 fl_EW_148 ho rfl rfl (by decide) rfl ?_
        refine go_icmp_lt (tgt := 44) hF d_EW_change_31 (by decide) (fun h31 => ?_) (fun h31 => ?_)
        · have hk : isW w k := ⟨not_lt h23, h31⟩
          have hw := isW_vn ok hk
          refine go_iload_n hF d_EW_change_44 rfl ?_
          refine go_topi (fun x45 hx45 => ?_)
          by_cases e45_0 : x45 = 0
          · rw [e45_0]
            refine go_tableIn (off := 31) (tgt := 76) hF d_EW_change_45 (by decide) (by decide) (by decide) (by decide) ?_
            refine go_aload_n hF d_EW_change_76 rfl ?_
            refine gs_getr hF hK d_EW_change_77 fl_EW_153 ho rfl rfl (by decide) rfl ?_
            refine go_iload_n hF d_EW_change_80 rfl ?_
            refine gs_iald hF hK hT d_EW_change_81 ho rfl rfl hw.1.1 hw.1.2 (by decide) ?_
            exact go_iret hF hM d_EW_change_82 (by decide) (by decide) (fun H hG => ⟨by have e : q = 0 := hx45.symm.trans e45_0; subst e; rfl, Or.inr ⟨hk, Or.inl (hx45.symm.trans e45_0)⟩, hG⟩)
          by_cases e45_1 : x45 = 1
          · rw [e45_1]
            refine go_tableIn (off := 38) (tgt := 83) hF d_EW_change_45 (by decide) (by decide) (by decide) (by decide) ?_
            refine go_aload_n hF d_EW_change_83 rfl ?_
            refine gs_getr hF hK d_EW_change_84 fl_EW_157 ho rfl rfl (by decide) rfl ?_
            refine go_iload_n hF d_EW_change_87 rfl ?_
            refine gs_iald hF hK hT d_EW_change_88 ho rfl rfl hw.1.1 hw.1.2 (by decide) ?_
            exact go_iret hF hM d_EW_change_89 (by decide) (by decide) (fun H hG => ⟨by have e : q = 1 := hx45.symm.trans e45_1; subst e; rfl, Or.inr ⟨hk, Or.inr (Or.inl (hx45.symm.trans e45_1))⟩, hG⟩)
          by_cases e45_2 : x45 = 2
          · rw [e45_2]
            refine go_tableIn (off := 45) (tgt := 90) hF d_EW_change_45 (by decide) (by decide) (by decide) (by decide) ?_
            refine go_aload_n hF d_EW_change_90 rfl ?_
            refine gs_getr hF hK d_EW_change_91 fl_EW_159 ho rfl rfl (by decide) rfl ?_
            refine go_iload_n hF d_EW_change_94 rfl ?_
            refine gs_iald hF hK hT d_EW_change_95 ho rfl rfl hw.1.1 hw.1.2 (by decide) ?_
            exact go_iret hF hM d_EW_change_96 (by decide) (by decide) (fun H hG => ⟨by have e : q = 2 := hx45.symm.trans e45_2; subst e; rfl, Or.inr ⟨hk, Or.inr (Or.inr (Or.inl (hx45.symm.trans e45_2)))⟩, hG⟩)
          by_cases e45_3 : x45 = 3
          · rw [e45_3]
            refine go_tableIn (off := 52) (tgt := 97) hF d_EW_change_45 (by decide) (by decide) (by decide) (by decide) ?_
            refine go_aload_n hF d_EW_change_97 rfl ?_
            refine gs_geti hF hK d_EW_change_98 fl_EW_148 ho rfl rfl (by decide) rfl ?_
            exact go_iret hF hM d_EW_change_101 (by decide) (by decide) (fun H hG => ⟨by have e : q = 3 := hx45.symm.trans e45_3; subst e; rfl, Or.inr ⟨hk, Or.inr (Or.inr (Or.inr (hx45.symm.trans e45_3)))⟩, hG⟩)
          refine go_tableOut (tgt := 102) hF d_EW_change_45 (tsw_out (fun c h1 h2 => by
            rcases (show c = 0 ∨ c = 1 ∨ c = 2 ∨ c = 3 by omega) with rfl | rfl | rfl | rfl
            · exact e45_0
            · exact e45_1
            · exact e45_2
            · exact e45_3)) (by decide) ?_
          exact gs_throw (text := "a change has no such part") hF hM htab hE th_IO d_EW_change_102 d_EW_change_105 d_EW_change_106 d_EW_change_108 d_EW_change_111 (by decide +kernel) (by decide) (by decide) (by decide) (by decide) (fun H hG => ⟨⟨rfl, fun z => z.elim (fun z => e45_3 (hx45.trans z.1)) (fun z => by rcases z.2 with z | z | z | z; exact e45_0 (hx45.trans z); exact e45_1 (hx45.trans z); exact e45_2 (hx45.trans z); exact e45_3 (hx45.trans z))⟩, hG⟩)
        · exact gs_throw (text := "no such change") hF hM htab hE th_IO d_EW_change_34 d_EW_change_37 d_EW_change_38 d_EW_change_40 d_EW_change_43 (by decide +kernel) (by decide) (by decide) (by decide) (by decide) (fun H hG => ⟨⟨rfl, fun z => z.elim (fun z => h14 z.2) (fun z => h31 z.1.2)⟩, hG⟩)
    · refine go_aload_n hF d_EW_change_17 rfl ?_
      refine gs_geti hF hK d_EW_change_18 fl_EW_148 ho rfl rfl (by decide) rfl ?_
      exact go_iret hF hM d_EW_change_21 (by decide) (by decide) (fun H hG => ⟨by unfold chg; rw [if_pos h10], Or.inl ⟨h10, h14⟩, hG⟩)
