/-- a byte of the text of changes, if there is one -/
def wrOk (w : wdT) (x : Int32) : Prop := 0 ≤ x ∧ ¬ bot w 0 (nz (wI w 0 0 9 0 0)) 0 x = -1
theorem lt_ge {x : Int32} (h : ¬ 0 ≤ x) : x < 0 := nle_lt h
set_option maxHeartbeats 4000000 in
set_option maxRecDepth 100000 in
theorem con_EW_write {l : Launch} (hlt : l.stackTraces = false) {E : gE} {B : bsT} {N : nwT} {w : wdT} (hb : N.1 1 0 = true) (ho : N.1 0 0 = true) (ok : okC w 0) (hv : ∀ k, k < nz (wI w 0 0 9 0 0) → vn (wI w 0 0 12 0 k) 4) (x : Int32) : Con l E y_EW_write (Cond.code y_EW_write c_EW_write 3 (some .int) :: gAll) rm_EW_write [.ref (ad B 1 0 0 0), .int x] (gw E B N w) (fun v H => v = some (.int (bot w 0 (nz (wI w 0 0 9 0 0)) 0 x)) ∧ wrOk w x ∧ gw E B N w H) (fun M H => (M = xIO ∧ ¬ wrOk w x) ∧ gw E B (nx1 N) w H) 1 6 := by
  refine con_of (by decide) hlt (Nat.le_of_ble_eq_true rfl) ?_
  intro F hF hM htab hnm hE hlo hl
  subst hl
  have hF : Fb F c_EW_write R_EW 3 rm_EW_write := hF
  have hK := hE.1
  have hT := hE.2.1
  refine go_lv (lv' := [(0, _), (1, _)]) ⟨rfl, rfl, trivial⟩ ?_
  refine go_iload_n hF d_EW_write_0 rfl ?_
  refine go_if_ge (tgt := 8) hF d_EW_write_1 (by decide) (fun h1 => ?_) (fun h1 => ?_)
  · refine go_aload_n hF d_EW_write_8 rfl ?_
    refine gs_getx hF hK d_EW_write_9 fl_EW_10 hb rfl rfl (by decide) rfl ?_
    refine gs_getr hF hK d_EW_write_12 fl_EW_129 ho rfl rfl (by decide) rfl ?_
    refine go_iload_n hF d_EW_write_15 rfl ?_
    refine go_callVX hF hE hlo d_EW_write_16 (con_Wa_byteOfText hlt ho ok.2.2.2.2.1.1 ok.2.2.2.2.1.2 hv x) mt_Wa_byteOfText mv_Wa_byteOfText lk_EW_194 ⟨rfl, rfl, by decide, by decide⟩ rfl (Nat.le_of_ble_eq_true rfl) ⟨by decide, by decide⟩ (fun H hG => gw_recv (q := (R_Wa, T_Wa, 4)) hK hG ho rfl rfl (by decide) rfl) (fun M => gx_no) rfl (fun v => ?_)
    refine go_and (fun hv => ?_)
    subst hv
    refine go_istore_n hF d_EW_write_19 (by decide) ?_
    refine go_lv (lv' := [(0, _), (1, _), (2, _)]) ⟨rfl, rfl, rfl, trivial⟩ ?_
    refine go_iload_n hF d_EW_write_20 rfl ?_
    refine go_iconst (v := -1) hF d_EW_write_21 (by decide) ?_
    refine go_icmp_ne (tgt := 35) hF d_EW_write_22 (by decide) (fun h22 => ?_) (fun h22 => ?_)
    · refine go_iload_n hF d_EW_write_35 rfl ?_
      exact go_iret hF hM d_EW_write_36 (by decide) (by decide) (fun H hG => ⟨rfl, ⟨h1, h22⟩, hG⟩)
    · exact gs_throw (text := "the text has no such byte") hF hM htab hE th_IO d_EW_write_25 d_EW_write_28 d_EW_write_29 d_EW_write_31 d_EW_write_34 (by decide +kernel) (by decide) (by decide) (by decide) (by decide) (fun H hG => ⟨⟨rfl, fun z => z.2 h22⟩, hG⟩)
  · refine go_iconst (v := -1) hF d_EW_write_4 (by decide) ?_
    refine go_goto (tgt := 19) hF d_EW_write_5 (by decide) ?_
    refine go_istore_n hF d_EW_write_19 (by decide) ?_
    refine go_lv (lv' := [(0, _), (1, _), (2, _)]) ⟨rfl, rfl, rfl, trivial⟩ ?_
    refine go_iload_n hF d_EW_write_20 rfl ?_
    refine go_iconst (v := -1) hF d_EW_write_21 (by decide) ?_
    refine go_icmp_ne (tgt := 35) hF d_EW_write_22 (by decide) (fun h22 => ?_) (fun h22 => ?_)
    · refine go_iload_n hF d_EW_write_35 rfl ?_
      exact go_iret hF hM d_EW_write_36 (by decide) (by decide) (fun H hG => absurd rfl h22)
    · exact gs_throw (text := "the text has no such byte") hF hM htab hE th_IO d_EW_write_25 d_EW_write_28 d_EW_write_29 d_EW_write_31 d_EW_write_34 (by decide +kernel) (by decide) (by decide) (by decide) (by decide) (fun H hG => ⟨⟨rfl, fun z => h1 z.1⟩, hG⟩)
/-- one byte more on the tape -/
def tpW (w : wdT) (x : Int32) : wdT := if wI w 2 0 1 0 0 < 2000 then sI (sI w 2 0 2 0 (nz (wI w 2 0 1 0 0)) x) 2 0 1 0 0 (wI w 2 0 1 0 0 + 1) else w
set_option maxHeartbeats 4000000 in
set_option maxRecDepth 100000 in
theorem con_Ta_append {l : Launch} (hlt : l.stackTraces = false) {E : gE} {B : bsT} {N : nwT} {w : wdT} (h2 : N.1 2 0 = true) (hn : ct (wI w 2 0 1 0 0) 2000) (x : Int32) : Con l E y_Ta_append (Cond.code y_Ta_append c_Ta_append 2 (some .boolean) :: gAll) rm_Ta_append [.ref (ad B 2 0 1 0), .int x] (gw E B N w) (fun v H => v = some (.int (bi (wI w 2 0 1 0 0 < 2000))) ∧ gw E B N (tpW w x) H) (fun _ _ => False) 0 0 := by
  refine con_of (by decide) hlt (Nat.le_of_ble_eq_true rfl) ?_
  intro F hF hM htab hnm hE hlo hl
  subst hl
  have hF : Fb F c_Ta_append R_Ta 2 rm_Ta_append := hF
  have hK := hE.1
  have hT := hE.2.1
  refine go_lv (lv' := [(0, _), (1, _)]) ⟨rfl, rfl, trivial⟩ ?_
  refine go_aload_n hF d_Ta_append_0 rfl ?_
  refine gs_geti hF hK d_Ta_append_1 fl_Ta_15 h2 rfl rfl (by decide) rfl ?_
  refine go_sipush (v := 2000) hF d_Ta_append_4 (by decide) ?_
  refine go_icmp_lt (tgt := 12) hF d_Ta_append_7 (by decide) (fun h7 => ?_) (fun h7 => ?_)
  · have hl := nz_lt hn (by decide) (by decide) (show wI w 2 0 1 0 0 < nI 2000 from h7)
    refine go_aload_n hF d_Ta_append_12 rfl ?_
    refine gs_getr hF hK d_Ta_append_13 fl_Ta_9 h2 rfl rfl (by decide) rfl ?_
    refine go_aload_n hF d_Ta_append_16 rfl ?_
    refine gs_geti hF hK d_Ta_append_17 fl_Ta_15 h2 rfl rfl (by decide) rfl ?_
    refine go_iload_n hF d_Ta_append_20 rfl ?_
    refine gs_iast hF hK hT hlo d_Ta_append_21 h2 rfl rfl hn.1 hl (by decide) ?_
    refine go_aload_n hF d_Ta_append_22 rfl ?_
    refine go_dup hF d_Ta_append_23 rfl ?_
    refine gs_geti hF hK d_Ta_append_24 fl_Ta_15 h2 rfl rfl (by decide) rfl ?_
    refine go_iconst (v := 1) hF d_Ta_append_27 (by decide) ?_
    refine go_iadd hF d_Ta_append_28 ?_
    refine gs_puti hF hK hlo d_Ta_append_29 fl_Ta_15 ct_Ta fs_Ta_0 h2 rfl rfl (by decide) rfl rfl ?_
    refine go_iconst (v := 1) hF d_Ta_append_32 (by decide) ?_
    exact go_zret hF hM d_Ta_append_33 rfl (by decide) (by decide) (fun H hG => ⟨by unfold bi; rw [if_pos h7], by unfold tpW; rw [if_pos h7]; simp only [rd_II, rd_LL, rd_PP, rd_IL, rd_IP, rd_LI, rd_LP, rd_PI, rd_PL, eq_self, true_and, and_true, false_and, and_false, if_true, if_false, reduceIte, reduceCtorEq, Nat.reduceEqDiff, Nat.one_ne_zero, Nat.zero_ne_one] at hG; exact hG⟩)
  · refine go_iconst (v := 0) hF d_Ta_append_10 (by decide) ?_
    exact go_zret hF hM d_Ta_append_11 rfl (by decide) (by decide) (fun H hG => ⟨by unfold bi; rw [if_neg h7], by unfold tpW; rw [if_neg h7]; exact hG⟩)
set_option maxHeartbeats 4000000 in
set_option maxRecDepth 100000 in
theorem con_EW_unit {l : Launch} (hlt : l.stackTraces = false) {E : gE} {B : bsT} {N : nwT} {w : wdT} (hb : N.1 1 0 = true) (h2 : N.1 2 0 = true) (hn : ct (wI w 2 0 1 0 0) 2000) (x : Int32) : Con l E y_EW_unit (Cond.code y_EW_unit c_EW_unit 2 (some .boolean) :: gAll) rm_EW_unit [.ref (ad B 1 0 0 0), .int x] (gw E B N w) (fun v H => v = some (.int (bi (wI w 2 0 1 0 0 < 2000))) ∧ gw E B N (tpW w (x &&& 255)) H) (fun _ _ => False) 0 0 := by
  refine con_of (by decide) hlt (Nat.le_of_ble_eq_true rfl) ?_
  intro F hF hM htab hnm hE hlo hl
  subst hl
  have hF : Fb F c_EW_unit R_EW 2 rm_EW_unit := hF
  have hK := hE.1
  have hT := hE.2.1
  refine go_lv (lv' := [(0, _), (1, _)]) ⟨rfl, rfl, trivial⟩ ?_
  refine go_aload_n hF d_EW_unit_0 rfl ?_
  refine gs_getx hF hK d_EW_unit_1 fl_EW_23 hb rfl rfl (by decide) rfl ?_
  refine go_iload_n hF d_EW_unit_4 rfl ?_
  refine go_sipush (v := 255) hF d_EW_unit_5 (by decide) ?_
  refine go_iand hF d_EW_unit_8 ?_
  refine go_callVX hF hE hlo d_EW_unit_9 (con_Ta_append hlt h2 hn _) mt_Ta_append mv_Ta_append lk_EW_167 ⟨rfl, rfl, by decide, by decide⟩ rfl (Nat.le_of_ble_eq_true rfl) ⟨by decide, by decide⟩ (fun H hG => gw_recv (q := (R_Ta, T_Ta, 2)) hK hG h2 rfl rfl (by decide) rfl) (fun M => gx_no) rfl (fun v => ?_)
  refine go_and (fun hv => ?_)
  subst hv
  exact go_zret hF hM d_EW_unit_12 (nar_bi _) (by decide) (by decide) (fun H hG => ⟨rfl, hG⟩)
/-- the tape's byte at x, or NONE -/
def bon (w : wdT) (x : Int32) : Int32 := if 0 ≤ x ∧ x < wI w 2 0 1 0 0 then wI w 2 0 2 0 (nz x) else -1
abbrev blk (x : Int32) : Prop := x = 9 ∨ x = 10 ∨ x = 13 ∨ x = 32
abbrev dgt (x : Int32) : Prop := 48 ≤ x ∧ x ≤ 57
set_option maxHeartbeats 4000000 in
set_option maxRecDepth 100000 in
theorem con_Ta_byteOrNone {l : Launch} (hlt : l.stackTraces = false) {E : gE} {B : bsT} {N : nwT} {w : wdT} (h2 : N.1 2 0 = true) (hn : ct (wI w 2 0 1 0 0) 2000) (x : Int32) : Con l E y_Ta_byteOrNone (Cond.code y_Ta_byteOrNone c_Ta_byteOrNone 2 (some .int) :: gAll) rm_Ta_byteOrNone [.ref (ad B 2 0 1 0), .int x] (gw E B N w) (fun v H => v = some (.int (bon w x)) ∧ gw E B N w H) (fun _ _ => False) 0 0 := by
  refine con_of (by decide) hlt (Nat.le_of_ble_eq_true rfl) ?_
  intro F hF hM htab hnm hE hlo hl
  subst hl
  have hF : Fb F c_Ta_byteOrNone R_Ta 2 rm_Ta_byteOrNone := hF
  have hK := hE.1
  have hT := hE.2.1
  refine go_lv (lv' := [(0, _), (1, _)]) ⟨rfl, rfl, trivial⟩ ?_
  refine go_iload_n hF d_Ta_byteOrNone_0 rfl ?_
  refine go_if_lt (tgt := 21) hF d_Ta_byteOrNone_1 (by decide) (fun h1 => ?_) (fun h1 => ?_)
  · refine go_iconst (v := -1) hF d_Ta_byteOrNone_21 (by decide) ?_
    exact go_iret hF hM d_Ta_byteOrNone_22 (by decide) (by decide) (fun H hG => ⟨by unfold bon; rw [if_neg (fun z => Int32.lt_irrefl (Int32.lt_of_lt_of_le h1 z.1))], hG⟩)
  · refine go_iload_n hF d_Ta_byteOrNone_4 rfl ?_
    refine go_aload_n hF d_Ta_byteOrNone_5 rfl ?_
    refine gs_geti hF hK d_Ta_byteOrNone_6 fl_Ta_15 h2 rfl rfl (by decide) rfl ?_
    refine go_icmp_ge (tgt := 21) hF d_Ta_byteOrNone_9 (by decide) (fun h9 => ?_) (fun h9 => ?_)
    · refine go_iconst (v := -1) hF d_Ta_byteOrNone_21 (by decide) ?_
      exact go_iret hF hM d_Ta_byteOrNone_22 (by decide) (by decide) (fun H hG => ⟨by unfold bon; rw [if_neg (fun z => Int32.lt_irrefl (Int32.lt_of_lt_of_le z.2 h9))], hG⟩)
    · have hq := nz_of (not_lt h1) (show nz (wI w 2 0 1 0 0) < 2 ^ 31 from by have := hn.2; omega) (hn.1 ▸ nle_lt h9)
      have hq2 : nz x < 2000 := by have := hn.2; have := hq.2; omega
      refine go_aload_n hF d_Ta_byteOrNone_12 rfl ?_
      refine gs_getr hF hK d_Ta_byteOrNone_13 fl_Ta_9 h2 rfl rfl (by decide) rfl ?_
      refine go_iload_n hF d_Ta_byteOrNone_16 rfl ?_
      refine gs_iald hF hK hT d_Ta_byteOrNone_17 h2 rfl rfl hq.1 hq2 (by decide) ?_
      refine go_goto (tgt := 22) hF d_Ta_byteOrNone_18 (by decide) ?_
      exact go_iret hF hM d_Ta_byteOrNone_22 (by decide) (by decide) (fun H hG => ⟨by unfold bon; rw [if_pos ⟨not_lt h1, nle_lt h9⟩], hG⟩)
set_option maxHeartbeats 4000000 in
set_option maxRecDepth 100000 in
theorem con_Ta_isBlank {l : Launch} (hlt : l.stackTraces = false) {E : gE} {B : bsT} {N : nwT} {w : wdT} (x : Int32) : Con l E y_Ta_isBlank (Cond.code y_Ta_isBlank c_Ta_isBlank 1 (some .boolean) :: gAll) rm_Ta_isBlank [.int x] (gw E B N w) (fun v H => v = some (.int (bi (blk x))) ∧ gw E B N w H) (fun _ _ => False) 0 0 := by
  refine con_of (by decide) hlt (Nat.le_of_ble_eq_true rfl) ?_
  intro F hF hM htab hnm hE hlo hl
  subst hl
  have hF : Fb F c_Ta_isBlank R_Ta 1 rm_Ta_isBlank := hF
  have hK := hE.1
  have hT := hE.2.1
  refine go_lv (lv' := [(0, _)]) ⟨rfl, trivial⟩ ?_
  refine go_iload_n hF d_Ta_isBlank_0 rfl ?_
  refine go_bipush (v := 9) hF d_Ta_isBlank_1 (by decide) ?_
  refine go_icmp_eq (tgt := 24) hF d_Ta_isBlank_3 (by decide) (fun h3 => ?_) (fun h3 => ?_)
  · refine go_iconst (v := 1) hF d_Ta_isBlank_24 (by decide) ?_
    refine go_goto (tgt := 29) hF d_Ta_isBlank_25 (by decide) ?_
    exact go_zret hF hM d_Ta_isBlank_29 rfl (by decide) (by decide) (fun H hG => ⟨by clear hF hM hE hK hT hlo htab hnm; unfold bi blk; split <;> simp_all, hG⟩)
  · refine go_iload_n hF d_Ta_isBlank_6 rfl ?_
    refine go_bipush (v := 10) hF d_Ta_isBlank_7 (by decide) ?_
    refine go_icmp_eq (tgt := 24) hF d_Ta_isBlank_9 (by decide) (fun h9 => ?_) (fun h9 => ?_)
    · refine go_iconst (v := 1) hF d_Ta_isBlank_24 (by decide) ?_
      refine go_goto (tgt := 29) hF d_Ta_isBlank_25 (by decide) ?_
      exact go_zret hF hM d_Ta_isBlank_29 rfl (by decide) (by decide) (fun H hG => ⟨by clear hF hM hE hK hT hlo htab hnm; unfold bi blk; split <;> simp_all, hG⟩)
    · refine go_iload_n hF d_Ta_isBlank_12 rfl ?_
      refine go_bipush (v := 13) hF d_Ta_isBlank_13 (by decide) ?_
      refine go_icmp_eq (tgt := 24) hF d_Ta_isBlank_15 (by decide) (fun h15 => ?_) (fun h15 => ?_)
      · refine go_iconst (v := 1) hF d_Ta_isBlank_24 (by decide) ?_
        refine go_goto (tgt := 29) hF d_Ta_isBlank_25 (by decide) ?_
        exact go_zret hF hM d_Ta_isBlank_29 rfl (by decide) (by decide) (fun H hG => ⟨by clear hF hM hE hK hT hlo htab hnm; unfold bi blk; split <;> simp_all, hG⟩)
      · refine go_iload_n hF d_Ta_isBlank_18 rfl ?_
        refine go_bipush (v := 32) hF d_Ta_isBlank_19 (by decide) ?_
        refine go_icmp_ne (tgt := 28) hF d_Ta_isBlank_21 (by decide) (fun h21 => ?_) (fun h21 => ?_)
        · refine go_iconst (v := 0) hF d_Ta_isBlank_28 (by decide) ?_
          exact go_zret hF hM d_Ta_isBlank_29 rfl (by decide) (by decide) (fun H hG => ⟨by clear hF hM hE hK hT hlo htab hnm; unfold bi blk; split <;> simp_all, hG⟩)
        · refine go_iconst (v := 1) hF d_Ta_isBlank_24 (by decide) ?_
          refine go_goto (tgt := 29) hF d_Ta_isBlank_25 (by decide) ?_
          exact go_zret hF hM d_Ta_isBlank_29 rfl (by decide) (by decide) (fun H hG => ⟨by clear hF hM hE hK hT hlo htab hnm; unfold bi blk; split <;> simp_all, hG⟩)
set_option maxHeartbeats 4000000 in
set_option maxRecDepth 100000 in
theorem con_Ta_isDigit {l : Launch} (hlt : l.stackTraces = false) {E : gE} {B : bsT} {N : nwT} {w : wdT} (x : Int32) : Con l E y_Ta_isDigit (Cond.code y_Ta_isDigit c_Ta_isDigit 1 (some .boolean) :: gAll) rm_Ta_isDigit [.int x] (gw E B N w) (fun v H => v = some (.int (bi (dgt x))) ∧ gw E B N w H) (fun _ _ => False) 0 0 := by
  refine con_of (by decide) hlt (Nat.le_of_ble_eq_true rfl) ?_
  intro F hF hM htab hnm hE hlo hl
  subst hl
  have hF : Fb F c_Ta_isDigit R_Ta 1 rm_Ta_isDigit := hF
  have hK := hE.1
  have hT := hE.2.1
  refine go_lv (lv' := [(0, _)]) ⟨rfl, trivial⟩ ?_
  refine go_iload_n hF d_Ta_isDigit_0 rfl ?_
  refine go_bipush (v := 48) hF d_Ta_isDigit_1 (by decide) ?_
  refine go_icmp_lt (tgt := 16) hF d_Ta_isDigit_3 (by decide) (fun h3 => ?_) (fun h3 => ?_)
  · refine go_iconst (v := 0) hF d_Ta_isDigit_16 (by decide) ?_
    exact go_zret hF hM d_Ta_isDigit_17 rfl (by decide) (by decide) (fun H hG => ⟨by clear hF hM hE hK hT hlo htab hnm; unfold bi dgt; (try simp only [Int32.lt_iff_toInt_lt, Int32.le_iff_toInt_le, Int64.lt_iff_toInt_lt, Int64.le_iff_toInt_le, ← Int32.toInt_inj, ← Int64.toInt_inj] at h3 ⊢); split <;> first | rfl | (exfalso; simp at *; omega) | (simp_all; omega), hG⟩)
  · refine go_iload_n hF d_Ta_isDigit_6 rfl ?_
    refine go_bipush (v := 57) hF d_Ta_isDigit_7 (by decide) ?_
    refine go_icmp_gt (tgt := 16) hF d_Ta_isDigit_9 (by decide) (fun h9 => ?_) (fun h9 => ?_)
    · refine go_iconst (v := 0) hF d_Ta_isDigit_16 (by decide) ?_
      exact go_zret hF hM d_Ta_isDigit_17 rfl (by decide) (by decide) (fun H hG => ⟨by clear hF hM hE hK hT hlo htab hnm; unfold bi dgt; (try simp only [Int32.lt_iff_toInt_lt, Int32.le_iff_toInt_le, Int64.lt_iff_toInt_lt, Int64.le_iff_toInt_le, ← Int32.toInt_inj, ← Int64.toInt_inj] at h3 h9 ⊢); split <;> first | rfl | (exfalso; simp at *; omega) | (simp_all; omega), hG⟩)
    · refine go_iconst (v := 1) hF d_Ta_isDigit_12 (by decide) ?_
      refine go_goto (tgt := 17) hF d_Ta_isDigit_13 (by decide) ?_
      exact go_zret hF hM d_Ta_isDigit_17 rfl (by decide) (by decide) (fun H hG => ⟨by clear hF hM hE hK hT hlo htab hnm; unfold bi dgt; (try simp only [Int32.lt_iff_toInt_lt, Int32.le_iff_toInt_le, Int64.lt_iff_toInt_lt, Int64.le_iff_toInt_le, ← Int32.toInt_inj, ← Int64.toInt_inj] at h3 h9 ⊢); split <;> first | rfl | (exfalso; simp at *; omega) | (simp_all; omega), hG⟩)
/-- the first place from p on that is beyond the tape or holds no byte with P -/
noncomputable def skp (w : wdT) (P : Int32 → Prop) : Nat → Nat → Nat
  | 0, p => p
  | m + 1, p => @ite _ (nI p < wI w 2 0 1 0 0 ∧ P (bon w (nI p))) (Classical.propDecidable _) (skp w P m (p + 1)) p
theorem skp_s (w : wdT) (P : Int32 → Prop) (m p : Nat) : skp w P (m + 1) p = @ite _ (nI p < wI w 2 0 1 0 0 ∧ P (bon w (nI p))) (Classical.propDecidable _) (skp w P m (p + 1)) p := rfl
theorem skp_le (w : wdT) (P : Int32 → Prop) : ∀ m p, p ≤ skp w P m p ∧ skp w P m p ≤ p + m
  | 0, p => ⟨Nat.le_refl p, Nat.le_refl p⟩
  | m + 1, p => by
    rw [skp_s]
    split
    · have := skp_le w P m (p + 1)
      omega
    · omega
set_option maxHeartbeats 4000000 in
set_option maxRecDepth 100000 in
theorem con_Ta_skipBlanks {l : Launch} (hlt : l.stackTraces = false) {E : gE} {B : bsT} {N : nwT} {w : wdT} {p : Nat} (h2 : N.1 2 0 = true) (hn : ct (wI w 2 0 1 0 0) 2000) (hp : p ≤ 2100) : Con l E y_Ta_skipBlanks (Cond.code y_Ta_skipBlanks c_Ta_skipBlanks 3 (some .int) :: gAll) rm_Ta_skipBlanks [.ref (ad B 2 0 1 0), .int (nI p)] (gw E B N w) (fun v H => v = some (.int (nI (skp w blk 3000 p))) ∧ gw E B N w H) (fun _ _ => False) 0 0 := by
  refine con_of (by decide) hlt (Nat.le_of_ble_eq_true rfl) ?_
  intro F hF hM htab hnm hE hlo hl
  subst hl
  have hF : Fb F c_Ta_skipBlanks R_Ta 3 rm_Ta_skipBlanks := hF
  have hK := hE.1
  have hT := hE.2.1
  refine go_lv (lv' := [(0, _), (1, _)]) ⟨rfl, rfl, trivial⟩ ?_
  have L2 : ∀ m q, q + m = p + 3000 → skp w blk m q = skp w blk 3000 p → Go F 2 [(0, .ref (ad B 2 0 1 0)), (1, .int (nI p)), (2, .int (nI q))] [] (gw E B N w) 0 0 := by
    intro m
    induction m using Nat.strongRecOn with
    | _ m ih =>
      intro q hm hR
      refine go_iload_n hF d_Ta_skipBlanks_2 rfl ?_
      refine go_aload_n hF d_Ta_skipBlanks_3 rfl ?_
      refine gs_geti hF hK d_Ta_skipBlanks_4 fl_Ta_15 h2 rfl rfl (by decide) rfl ?_
      refine go_icmp_ge (tgt := 27) hF d_Ta_skipBlanks_7 (by decide) (fun h7 => ?_) (fun h7 => ?_)
      · refine go_iload_n hF d_Ta_skipBlanks_27 rfl ?_
        exact go_iret hF hM d_Ta_skipBlanks_28 (by decide) (by decide) (fun H hG => ⟨by cases m with
        | zero => rw [← hR]; rfl
        | succ f => rw [skp_s, if_neg (fun z => Int32.lt_irrefl (Int32.lt_of_lt_of_le z.1 h7))] at hR; rw [← hR], hG⟩)
      · have hq : nI q < wI w 2 0 1 0 0 := nle_lt h7
        have hq2 : q < 2000 := by
          have h3 := hn.2
          rw [hn.1] at hq
          have := (nI_ltI (a := q) (b := nz (wI w 2 0 1 0 0)) (by omega) (by omega)).mp hq
          omega
        obtain ⟨f, rfl⟩ : ∃ f, m = f + 1 := ⟨m - 1, by omega⟩
        rw [skp_s] at hR
        refine go_aload_n hF d_Ta_skipBlanks_10 rfl ?_
        refine go_iload_n hF d_Ta_skipBlanks_11 rfl ?_
        refine go_callVX hF hE hlo d_Ta_skipBlanks_12 (con_Ta_byteOrNone hlt h2 hn _) mt_Ta_byteOrNone mv_Ta_byteOrNone lk_Ta_19 ⟨rfl, rfl, by decide, by decide⟩ rfl (Nat.le_of_ble_eq_true rfl) ⟨by decide, by decide⟩ (fun H hG => gw_recv (q := (R_Ta, T_Ta, 2)) hK hG h2 rfl rfl (by decide) rfl) (fun M => gx_no) rfl (fun v => ?_)
        refine go_and (fun hv => ?_)
        subst hv
        refine go_callSX hF hE hlo d_Ta_skipBlanks_15 (con_Ta_isBlank hlt _) mt_Ta_isBlank ms_Ta_isBlank lk_Ta_23 ⟨rfl, rfl, by decide, by decide⟩ rfl (Nat.le_of_ble_eq_true rfl) ⟨by decide, by decide⟩ (fun M => gx_no) rfl (fun v => ?_)
        refine go_and (fun hv => ?_)
        subst hv
        refine go_if_eq (tgt := 27) hF d_Ta_skipBlanks_18 (by decide) (fun h18 => ?_) (fun h18 => ?_)
        · refine go_iload_n hF d_Ta_skipBlanks_27 rfl ?_
          exact go_iret hF hM d_Ta_skipBlanks_28 (by decide) (by decide) (fun H hG => ⟨by rw [if_neg (fun z => bi_0 h18 z.2)] at hR; rw [← hR], hG⟩)
        · refine go_iincN hF d_Ta_skipBlanks_21 rfl (by decide) ?_
          refine go_lv (lv' := [(0, _), (1, _), (2, _)]) ⟨rfl, rfl, rfl, trivial⟩ ?_
          refine go_goto (tgt := 2) hF d_Ta_skipBlanks_24 (by decide) ?_
          refine go_lv (lv' := [(0, _), (1, _), (2, _)]) ⟨rfl, rfl, rfl, trivial⟩ ?_
          rw [if_pos ⟨nle_lt h7, bi_1 h18⟩] at hR
          exact ih f (by omega) (q + 1) (by omega) hR
  refine go_iload_n hF d_Ta_skipBlanks_0 rfl ?_
  refine go_istore_n hF d_Ta_skipBlanks_1 (by decide) ?_
  refine go_lv (lv' := [(0, _), (1, _), (2, _)]) ⟨rfl, rfl, rfl, trivial⟩ ?_
  exact L2 3000 p rfl rfl
set_option maxHeartbeats 4000000 in
set_option maxRecDepth 100000 in
theorem con_Ta_skipDigits {l : Launch} (hlt : l.stackTraces = false) {E : gE} {B : bsT} {N : nwT} {w : wdT} {p : Nat} (h2 : N.1 2 0 = true) (hn : ct (wI w 2 0 1 0 0) 2000) (hp : p ≤ 2100) : Con l E y_Ta_skipDigits (Cond.code y_Ta_skipDigits c_Ta_skipDigits 3 (some .int) :: gAll) rm_Ta_skipDigits [.ref (ad B 2 0 1 0), .int (nI p)] (gw E B N w) (fun v H => v = some (.int (nI (skp w dgt 3000 p))) ∧ gw E B N w H) (fun _ _ => False) 0 0 := by
  refine con_of (by decide) hlt (Nat.le_of_ble_eq_true rfl) ?_
  intro F hF hM htab hnm hE hlo hl
  subst hl
  have hF : Fb F c_Ta_skipDigits R_Ta 3 rm_Ta_skipDigits := hF
  have hK := hE.1
  have hT := hE.2.1
  refine go_lv (lv' := [(0, _), (1, _)]) ⟨rfl, rfl, trivial⟩ ?_
  have L2 : ∀ m q, q + m = p + 3000 → skp w dgt m q = skp w dgt 3000 p → Go F 2 [(0, .ref (ad B 2 0 1 0)), (1, .int (nI p)), (2, .int (nI q))] [] (gw E B N w) 0 0 := by
    intro m
    induction m using Nat.strongRecOn with
    | _ m ih =>
      intro q hm hR
      refine go_iload_n hF d_Ta_skipDigits_2 rfl ?_
      refine go_aload_n hF d_Ta_skipDigits_3 rfl ?_
      refine gs_geti hF hK d_Ta_skipDigits_4 fl_Ta_15 h2 rfl rfl (by decide) rfl ?_
      refine go_icmp_ge (tgt := 27) hF d_Ta_skipDigits_7 (by decide) (fun h7 => ?_) (fun h7 => ?_)
      · refine go_iload_n hF d_Ta_skipDigits_27 rfl ?_
        exact go_iret hF hM d_Ta_skipDigits_28 (by decide) (by decide) (fun H hG => ⟨by cases m with
        | zero => rw [← hR]; rfl
        | succ f => rw [skp_s, if_neg (fun z => Int32.lt_irrefl (Int32.lt_of_lt_of_le z.1 h7))] at hR; rw [← hR], hG⟩)
      · have hq : nI q < wI w 2 0 1 0 0 := nle_lt h7
        have hq2 : q < 2000 := by
          have h3 := hn.2
          rw [hn.1] at hq
          have := (nI_ltI (a := q) (b := nz (wI w 2 0 1 0 0)) (by omega) (by omega)).mp hq
          omega
        obtain ⟨f, rfl⟩ : ∃ f, m = f + 1 := ⟨m - 1, by omega⟩
        rw [skp_s] at hR
        refine go_aload_n hF d_Ta_skipDigits_10 rfl ?_
        refine go_iload_n hF d_Ta_skipDigits_11 rfl ?_
        refine go_callVX hF hE hlo d_Ta_skipDigits_12 (con_Ta_byteOrNone hlt h2 hn _) mt_Ta_byteOrNone mv_Ta_byteOrNone lk_Ta_19 ⟨rfl, rfl, by decide, by decide⟩ rfl (Nat.le_of_ble_eq_true rfl) ⟨by decide, by decide⟩ (fun H hG => gw_recv (q := (R_Ta, T_Ta, 2)) hK hG h2 rfl rfl (by decide) rfl) (fun M => gx_no) rfl (fun v => ?_)
        refine go_and (fun hv => ?_)
        subst hv
        refine go_callSX hF hE hlo d_Ta_skipDigits_15 (con_Ta_isDigit hlt _) mt_Ta_isDigit ms_Ta_isDigit lk_Ta_27 ⟨rfl, rfl, by decide, by decide⟩ rfl (Nat.le_of_ble_eq_true rfl) ⟨by decide, by decide⟩ (fun M => gx_no) rfl (fun v => ?_)
        refine go_and (fun hv => ?_)
        subst hv
        refine go_if_eq (tgt := 27) hF d_Ta_skipDigits_18 (by decide) (fun h18 => ?_) (fun h18 => ?_)
        · refine go_iload_n hF d_Ta_skipDigits_27 rfl ?_
          exact go_iret hF hM d_Ta_skipDigits_28 (by decide) (by decide) (fun H hG => ⟨by rw [if_neg (fun z => bi_0 h18 z.2)] at hR; rw [← hR], hG⟩)
        · refine go_iincN hF d_Ta_skipDigits_21 rfl (by decide) ?_
          refine go_lv (lv' := [(0, _), (1, _), (2, _)]) ⟨rfl, rfl, rfl, trivial⟩ ?_
          refine go_goto (tgt := 2) hF d_Ta_skipDigits_24 (by decide) ?_
          refine go_lv (lv' := [(0, _), (1, _), (2, _)]) ⟨rfl, rfl, rfl, trivial⟩ ?_
          rw [if_pos ⟨nle_lt h7, bi_1 h18⟩] at hR
          exact ih f (by omega) (q + 1) (by omega) hR
  refine go_iload_n hF d_Ta_skipDigits_0 rfl ?_
  refine go_istore_n hF d_Ta_skipDigits_1 (by decide) ?_
  refine go_lv (lv' := [(0, _), (1, _), (2, _)]) ⟨rfl, rfl, rfl, trivial⟩ ?_
  exact L2 3000 p rfl rfl
