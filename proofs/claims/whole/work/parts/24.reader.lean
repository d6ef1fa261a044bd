/-! THE READER: an object of no block, at tr; the tape and the live circuit are its own. -/
theorem ovs_ovs (O : Nat → Option va_E) (a : Nat) (e e' : va_E) : ovs (ovs O a e) a e' = ovs O a e' := by
  funext q
  unfold ovs
  split <;> rfl
abbrev rd (B : bsT) (t : Int64) (f : Int32) : va_E := .inr (8, [.ref (ad B 2 0 1 0), .ref (ad B 0 0 0 0), .long t, .int f])
abbrev nr (N : nwT) (B : bsT) (tr : Nat) (t : Int64) (f : Int32) : nwT := (N.1, ovs N.2.1 tr (rd B t f), N.2.2)
theorem nr_put {E : gE} {B : bsT} {N : nwT} {w : wdT} {H : Heap} {tr : Nat} {e e' : va_E} (h : gw E B (N.1, ovs (ovs N.2.1 tr e) tr e', N.2.2) w H) : gw E B (N.1, ovs N.2.1 tr e', N.2.2) w H := by
  rw [ovs_ovs] at h
  exact h
/-- the value that a byte means -/
def vfl (x : Int32) : Nat → Nat → Int32
  | 0, _ => -1
  | m + 1, v => if vbs v = x then nI v else vfl x m (v + 1)
theorem vfl_s (x : Int32) (m v : Nat) : vfl x (m + 1) v = if vbs v = x then nI v else vfl x m (v + 1) := rfl
def vof (x : Int32) : Int32 := vfl x 4 0
/-- the number that stands at i and behind, m digits long -/
def nmb (w : wdT) : Nat → Nat → Int64 → Int64
  | 0, _, n => n
  | m + 1, i, n => nmb w m (i + 1) (if 1000000001 < n * 10 + (bon w (nI i) - 48).toInt64 then 1000000001 else n * 10 + (bon w (nI i) - 48).toInt64)
theorem nmb_s (w : wdT) (m i : Nat) (n : Int64) : nmb w (m + 1) i n = nmb w m (i + 1) (if 1000000001 < n * 10 + (bon w (nI i) - 48).toInt64 then 1000000001 else n * 10 + (bon w (nI i) - 48).toInt64) := rfl
noncomputable def ten (w : wdT) (p : Nat) : Nat := skp w dgt 3000 (p + 1)
noncomputable def tnm (w : wdT) (p : Nat) : Int64 := nmb w (ten w p - (p + 1)) (p + 1) 0
def ttOk (w : wdT) (p : Nat) : Prop := ¬ ten w p = p + 1 ∧ (wL w 0 0 0 0 0 ≤ tnm w p ∧ tnm w p ≤ 1000000000)
def tlOk (w : wdT) (t : Int64) (p : Nat) : Prop := ¬ vof (bon w (nI p)) = -1 ∧ ¬ t = -1 ∧ isN w (bon w (nI p + 1) - 33)
def tlA (w : wdT) (b : Int32) (t : Int64) (p : Nat) (u : wdT) : wdT := if b = 0 then u else apW u 0 (nz (wI u 0 0 4 0 0)) 0 (bon w (nI p + 1) - 33) t (vof (bon w (nI p)))
noncomputable def teR (w : wdT) (p : Nat) : Int32 := @ite _ (ttOk w p) (Classical.propDecidable _) (nI (ten w p)) (-1)
noncomputable def ttT (w : wdT) (p : Nat) (t : Int64) : Int64 := @ite _ (ttOk w p) (Classical.propDecidable _) (tnm w p) t
noncomputable def tlR (w : wdT) (t : Int64) (p : Nat) : Int32 := @ite _ (tlOk w t p) (Classical.propDecidable _) (nI p + 2) (-1)
noncomputable def tlF (w : wdT) (t : Int64) (p : Nat) (f : Int32) : Int32 := @ite _ (tlOk w t p) (Classical.propDecidable _) (f + 1) f
noncomputable def tlS (w : wdT) (b : Int32) (t : Int64) (p : Nat) : wdT := @ite _ (tlOk w t p) (Classical.propDecidable _) (tlA w b t p w) w
set_option maxHeartbeats 4000000 in
set_option maxRecDepth 100000 in
theorem con_Tr_valueOf {l : Launch} (hlt : l.stackTraces = false) {E : gE} {B : bsT} {N : nwT} {w : wdT} (x : Int32) : Con l E y_Tr_valueOf (Cond.code y_Tr_valueOf c_Tr_valueOf 2 (some .int) :: gAll) rm_Tr_valueOf [.int x] (gw E B N w) (fun v H => v = some (.int (vof x)) ∧ gw E B N w H) (fun _ _ => False) 0 0 := by
  refine con_of (by decide) hlt (Nat.le_of_ble_eq_true rfl) ?_
  intro F hF hM htab hnm hE hlo hl
  subst hl
  have hF : Fb F c_Tr_valueOf R_Tr 2 rm_Tr_valueOf := hF
  have hK := hE.1
  have hT := hE.2.1
  refine go_lv (lv' := [(0, _)]) ⟨rfl, trivial⟩ ?_
  have L2 : ∀ m d : Nat, d + m = 4 → vfl x m d = vof x → Go F 2 [(0, .int x), (1, .int (nI d))] [] (gw E B N w) 0 0 := by
    intro m
    induction m using Nat.strongRecOn with
    | _ m ih =>
      intro d hm hR
      refine go_iload_n hF d_Tr_valueOf_2 rfl ?_
      refine go_tab (host := "EventWaves") hF (fun H hG => hG.1) d_Tr_valueOf_3 (va_Nw.use (nW_on _ fn_Tr_84) (hE.2.2.1 _ fn_Tr_84)) hE.2.2.2.2.1 (fun t3 ht3 => ?_)
      refine go_tlen hF (fun H hG => hG.1) ht3 d_Tr_valueOf_6 ?_
      refine go_icmp_ge (tgt := 27) hF d_Tr_valueOf_7 (by decide) (fun h7 => ?_) (fun h7 => ?_)
      · refine go_iconst (v := -1) hF d_Tr_valueOf_27 (by decide) ?_
        exact go_iret hF hM d_Tr_valueOf_28 (by decide) (by decide) (fun H hG => ⟨by have e : m = 0 := (by have := (nI_leI (a := 4) (b := d) (by omega) (by omega)).mp h7; omega); subst e; rw [← hR]; rfl, hG⟩)
      · have hp2 : d < 4 := by
          have z : ¬ 4 ≤ d := fun z => h7 ((nI_leI (a := 4) (b := d) (by omega) (by omega)).mpr z)
          omega
        obtain ⟨f, rfl⟩ : ∃ f, m = f + 1 := ⟨m - 1, by omega⟩
        rw [vfl_s] at hR
        refine go_tab (host := "EventWaves") hF (fun H hG => hG.1) d_Tr_valueOf_10 (va_Nw.use (nW_on _ fn_Tr_84) (hE.2.2.1 _ fn_Tr_84)) hE.2.2.2.2.1 (fun t10 ht10 => ?_)
        refine go_iload_n hF d_Tr_valueOf_13 rfl ?_
        refine go_tald hF (fun H hG => hG.1) ht10 d_Tr_valueOf_14 rfl hp2 (by decide) ?_
        refine go_iload_n hF d_Tr_valueOf_15 rfl ?_
        refine go_icmp_ne (tgt := 21) hF d_Tr_valueOf_16 (by decide) (fun h16 => ?_) (fun h16 => ?_)
        · refine go_iincN hF d_Tr_valueOf_21 rfl (by decide) ?_
          refine go_lv (lv' := [(0, _), (1, _)]) ⟨rfl, rfl, trivial⟩ ?_
          refine go_goto (tgt := 2) hF d_Tr_valueOf_24 (by decide) ?_
          refine go_lv (lv' := [(0, _), (1, _)]) ⟨rfl, rfl, trivial⟩ ?_
          rw [if_neg h16] at hR
          exact ih f (by omega) (d + 1) (by omega) hR
        · refine go_iload_n hF d_Tr_valueOf_19 rfl ?_
          exact go_iret hF hM d_Tr_valueOf_20 (by decide) (by decide) (fun H hG => ⟨by rw [if_pos h16] at hR; rw [hR], hG⟩)
  refine go_iconst (v := 0) hF d_Tr_valueOf_0 (by decide) ?_
  refine go_istore_n hF d_Tr_valueOf_1 (by decide) ?_
  refine go_lv (lv' := [(0, _), (1, _)]) ⟨rfl, rfl, trivial⟩ ?_
  exact L2 4 0 rfl rfl
set_option maxHeartbeats 4000000 in
set_option maxRecDepth 100000 in
theorem con_Tr_takeTime {l : Launch} (hlt : l.stackTraces = false) {E : gE} {B : bsT} {N : nwT} {w : wdT} {tr p : Nat} {t : Int64} {f : Int32} (ho : N.1 0 0 = true) (h2 : N.1 2 0 = true) (hn : ct (wI w 2 0 1 0 0) 2000) (hp : p < 2000) : Con l E y_Tr_takeTime (Cond.code y_Tr_takeTime c_Tr_takeTime 6 (some .int) :: gAll) rm_Tr_takeTime [.ref tr, .int (nI p)] (gw E B (nr N B tr t f) w) (fun v H => v = some (.int (teR w p)) ∧ gw E B (nr N B tr (ttT w p t) f) w H) (fun _ _ => False) 0 0 := by
  refine con_of (by decide) hlt (Nat.le_of_ble_eq_true rfl) ?_
  intro F hF hM htab hnm hE hlo hl
  subst hl
  have hF : Fb F c_Tr_takeTime R_Tr 6 rm_Tr_takeTime := hF
  have hK := hE.1
  have hT := hE.2.1
  refine go_lv (lv' := [(0, _), (1, _)]) ⟨rfl, rfl, trivial⟩ ?_
  have L18 : ∀ m i (n : Int64), i + m = ten w p → p + 1 ≤ i → nmb w m i n = tnm w p → Go F 18 [(0, .ref tr), (1, .int (nI p)), (2, .int (nI (ten w p))), (3, .long n), (5, .int (nI i))] [] (gw E B (nr N B tr t f) w) 0 0 := by
    intro m
    induction m using Nat.strongRecOn with
    | _ m ih =>
      intro i n hm hi hR
      have hte := skp_le w dgt 3000 (p + 1)
      have htn : ten w p ≤ 6000 := by unfold ten; omega
      refine go_iload hF d_Tr_takeTime_18 rfl ?_
      refine go_iload_n hF d_Tr_takeTime_20 rfl ?_
      refine go_icmp_ge (tgt := 56) hF d_Tr_takeTime_21 (by decide) (fun h21 => ?_) (fun h21 => ?_)
      · have e : m = 0 := (by have := (nI_leI (a := ten w p) (b := i) (by omega) (by omega)).mp h21; omega)
        subst e
        have hR2 : n = tnm w p := hR
        subst hR2
        have hte2 : nI (ten w p) = nI p + 1 ↔ ten w p = p + 1 := by rw [nI_1]; exact nI_eq (by omega) (by omega)
        refine go_iload_n hF d_Tr_takeTime_56 rfl ?_
        refine go_iload_n hF d_Tr_takeTime_57 rfl ?_
        refine go_iconst (v := 1) hF d_Tr_takeTime_58 (by decide) ?_
        refine go_iadd hF d_Tr_takeTime_59 ?_
        refine go_icmp_eq (tgt := 74) hF d_Tr_takeTime_60 (by decide) (fun h60 => ?_) (fun h60 => ?_)
        · refine go_iconst (v := -1) hF d_Tr_takeTime_74 (by decide) ?_
          exact go_iret hF hM d_Tr_takeTime_75 (by decide) (by decide) (fun H hG => by
            have q : ¬ ttOk w p := fun z => z.1 (hte2.mp h60)
            unfold teR ttT; rw [if_neg q, if_neg q]; exact ⟨rfl, hG⟩)
        · refine go_aload_n hF d_Tr_takeTime_63 rfl ?_
          refine gs_getO hF hK d_Tr_takeTime_64 fl_Tr_15 (ovs_same _ _ _) rfl ?_
          refine go_lload_n hF d_Tr_takeTime_67 rfl ?_
          refine go_callVX hF hE hlo d_Tr_takeTime_68 (con_Ci_isToCome (N := nr N B tr t f) hlt ho _) mt_Ci_isToCome mv_Ci_isToCome lk_Tr_61 ⟨rfl, rfl, by decide, by decide⟩ rfl (Nat.le_of_ble_eq_true rfl) ⟨by decide, by decide⟩ (fun H hG => gw_recv (q := (R_Ci, T_Ci, 10)) hK hG ho rfl rfl (by decide) rfl) (fun M => gx_no) rfl (fun v => ?_)
          refine go_and (fun hv => ?_)
          subst hv
          refine go_if_ne (tgt := 76) hF d_Tr_takeTime_71 (by decide) (fun h71 => ?_) (fun h71 => ?_)
          · refine go_aload_n hF d_Tr_takeTime_76 rfl ?_
            refine go_lload_n hF d_Tr_takeTime_77 rfl ?_
            refine gs_putO hF hK hlo d_Tr_takeTime_78 fl_Tr_21 ct_Tr fs_Tr_2 rfl rfl (ovs_same _ _ _) (Nat.le_of_ble_eq_true rfl) ?_
            refine go_G (fun H hG => nr_put hG) ?_
            refine go_iload_n hF d_Tr_takeTime_81 rfl ?_
            exact go_iret hF hM d_Tr_takeTime_82 (by decide) (by decide) (fun H hG => by
              have q : ttOk w p := ⟨fun z => h60 (hte2.mpr z), bi_1 h71⟩
              unfold teR ttT; rw [if_pos q, if_pos q]; exact ⟨rfl, hG⟩)
          · refine go_iconst (v := -1) hF d_Tr_takeTime_74 (by decide) ?_
            exact go_iret hF hM d_Tr_takeTime_75 (by decide) (by decide) (fun H hG => by
              have q : ¬ ttOk w p := fun z => bi_0 h71 z.2
              unfold teR ttT; rw [if_neg q, if_neg q]; exact ⟨rfl, hG⟩)
      · have hp2 : i < ten w p := by
          have z : ¬ ten w p ≤ i := fun z => h21 ((nI_leI (a := ten w p) (b := i) (by omega) (by omega)).mpr z)
          omega
        obtain ⟨f9, rfl⟩ : ∃ f, m = f + 1 := ⟨m - 1, by omega⟩
        rw [nmb_s] at hR
        refine go_lload_n hF d_Tr_takeTime_24 rfl ?_
        refine go_ldc2 hF kl_Tr_51 d_Tr_takeTime_25 ?_
        refine go_lmul hF d_Tr_takeTime_28 ?_
        refine go_aload_n hF d_Tr_takeTime_29 rfl ?_
        refine gs_getO hF hK d_Tr_takeTime_30 fl_Tr_9 (ovs_same _ _ _) rfl ?_
        refine go_iload hF d_Tr_takeTime_33 rfl ?_
        refine go_callVX hF hE hlo d_Tr_takeTime_35 (con_Ta_byteOrNone (N := nr N B tr t f) hlt h2 hn _) mt_Ta_byteOrNone mv_Ta_byteOrNone lk_Tr_38 ⟨rfl, rfl, by decide, by decide⟩ rfl (Nat.le_of_ble_eq_true rfl) ⟨by decide, by decide⟩ (fun H hG => gw_recv (q := (R_Ta, T_Ta, 2)) hK hG h2 rfl rfl (by decide) rfl) (fun M => gx_no) rfl (fun v => ?_)
        refine go_and (fun hv => ?_)
        subst hv
        refine go_bipush (v := 48) hF d_Tr_takeTime_38 (by decide) ?_
        refine go_isub hF d_Tr_takeTime_40 ?_
        refine go_i2l hF d_Tr_takeTime_41 ?_
        refine go_ladd hF d_Tr_takeTime_42 ?_
        refine go_ldc2 hF kl_Tr_53 d_Tr_takeTime_43 ?_
        refine go_min_long hF lj_Tr_55 d_Tr_takeTime_46 (by decide) (Nat.le_of_ble_eq_true rfl) (by decide) (by decide) ?_
        refine go_lstore_n hF d_Tr_takeTime_49 (by decide) ?_
        refine go_lv (lv' := [(0, _), (1, _), (2, _), (3, _), (5, _)]) ⟨rfl, rfl, rfl, rfl, rfl, trivial⟩ ?_
        refine go_iincN hF d_Tr_takeTime_50 rfl (by decide) ?_
        refine go_lv (lv' := [(0, _), (1, _), (2, _), (3, _), (5, _)]) ⟨rfl, rfl, rfl, rfl, rfl, trivial⟩ ?_
        refine go_goto (tgt := 18) hF d_Tr_takeTime_53 (by decide) ?_
        refine go_lv (lv' := [(0, _), (1, _), (2, _), (3, _), (5, _)]) ⟨rfl, rfl, rfl, rfl, rfl, trivial⟩ ?_
        exact ih f9 (by omega) (i + 1) _ (by omega) (by omega) hR
  refine go_aload_n hF d_Tr_takeTime_0 rfl ?_
  refine gs_getO hF hK d_Tr_takeTime_1 fl_Tr_9 (ovs_same _ _ _) rfl ?_
  refine go_iload_n hF d_Tr_takeTime_4 rfl ?_
  refine go_iconst (v := 1) hF d_Tr_takeTime_5 (by decide) ?_
  refine go_iadd hF d_Tr_takeTime_6 ?_
  rw [nI_1]
  refine go_callVX hF hE hlo d_Tr_takeTime_7 (con_Ta_skipDigits (N := nr N B tr t f) (p := p + 1) hlt h2 hn (by omega)) mt_Ta_skipDigits mv_Ta_skipDigits lk_Tr_48 ⟨rfl, rfl, by decide, by decide⟩ rfl (Nat.le_of_ble_eq_true rfl) ⟨by decide, by decide⟩ (fun H hG => gw_recv (q := (R_Ta, T_Ta, 2)) hK hG h2 rfl rfl (by decide) rfl) (fun M => gx_no) rfl (fun v => ?_)
  refine go_and (fun hv => ?_)
  subst hv
  refine go_istore_n hF d_Tr_takeTime_10 (by decide) ?_
  refine go_lv (lv' := [(0, _), (1, _), (2, _)]) ⟨rfl, rfl, rfl, trivial⟩ ?_
  refine go_lconst (v := 0) hF d_Tr_takeTime_11 (by decide) ?_
  refine go_lstore_n hF d_Tr_takeTime_12 (by decide) ?_
  refine go_lv (lv' := [(0, _), (1, _), (2, _), (3, _)]) ⟨rfl, rfl, rfl, rfl, trivial⟩ ?_
  refine go_iload_n hF d_Tr_takeTime_13 rfl ?_
  refine go_iconst (v := 1) hF d_Tr_takeTime_14 (by decide) ?_
  refine go_iadd hF d_Tr_takeTime_15 ?_
  refine go_istore hF d_Tr_takeTime_16 (by decide) ?_
  refine go_lv (lv' := [(0, _), (1, _), (2, _), (3, _), (5, _)]) ⟨rfl, rfl, rfl, rfl, rfl, trivial⟩ ?_
  refine go_lv (lv' := [(0, _), (1, _), (2, _), (3, _), (5, .int (nI (p + 1)))]) ⟨rfl, rfl, rfl, rfl, congrArg (fun x => some (Value.int x)) (nI_1 p), trivial⟩ ?_
  exact L18 _ (p + 1) 0 (by have := (skp_le w dgt 3000 (p + 1)).1; unfold ten; omega) (Nat.le_refl _) rfl
set_option maxHeartbeats 4000000 in
set_option maxRecDepth 100000 in
theorem con_Tr_takeLine {l : Launch} (hlt : l.stackTraces = false) {E : gE} {B : bsT} {N : nwT} {w : wdT} {tr p : Nat} {t : Int64} {f : Int32} (ho : N.1 0 0 = true) (h2 : N.1 2 0 = true) (hn : ct (wI w 2 0 1 0 0) 2000) (b : Int32) (hh : ct (wI w 0 0 4 0 0) 100) (hcap : ¬ b = 0 → tlOk w t p → nz (wI w 0 0 4 0 0) < 100) : Con l E y_Tr_takeLine (Cond.code y_Tr_takeLine c_Tr_takeLine 5 (some .int) :: gAll) rm_Tr_takeLine [.ref tr, .int (nI p), .int b] (gw E B (nr N B tr t f) w) (fun v H => v = some (.int (tlR w t p)) ∧ gw E B (nr N B tr t (tlF w t p f)) (tlS w b t p) H) (fun _ _ => False) 0 0 := by
  refine con_of (by decide) hlt (Nat.le_of_ble_eq_true rfl) ?_
  intro F hF hM htab hnm hE hlo hl
  subst hl
  have hF : Fb F c_Tr_takeLine R_Tr 5 rm_Tr_takeLine := hF
  have hK := hE.1
  have hT := hE.2.1
  refine go_lv (lv' := [(0, _), (1, _), (2, _)]) ⟨rfl, rfl, rfl, trivial⟩ ?_
  refine go_aload_n hF d_Tr_takeLine_0 rfl ?_
  refine gs_getO hF hK d_Tr_takeLine_1 fl_Tr_9 (ovs_same _ _ _) rfl ?_
  refine go_iload_n hF d_Tr_takeLine_4 rfl ?_
  refine go_callVX hF hE hlo d_Tr_takeLine_5 (con_Ta_byteOrNone (N := nr N B tr t f) hlt h2 hn _) mt_Ta_byteOrNone mv_Ta_byteOrNone lk_Tr_38 ⟨rfl, rfl, by decide, by decide⟩ rfl (Nat.le_of_ble_eq_true rfl) ⟨by decide, by decide⟩ (fun H hG => gw_recv (q := (R_Ta, T_Ta, 2)) hK hG h2 rfl rfl (by decide) rfl) (fun M => gx_no) rfl (fun v => ?_)
  refine go_and (fun hv => ?_)
  subst hv
  refine go_callSX hF hE hlo d_Tr_takeLine_8 (con_Tr_valueOf (N := nr N B tr t f) hlt _) mt_Tr_valueOf ms_Tr_valueOf lk_Tr_67 ⟨rfl, rfl, by decide, by decide⟩ rfl (Nat.le_of_ble_eq_true rfl) ⟨by decide, by decide⟩ (fun M => gx_no) rfl (fun v => ?_)
  refine go_and (fun hv => ?_)
  subst hv
  refine go_istore_n hF d_Tr_takeLine_11 (by decide) ?_
  refine go_lv (lv' := [(0, _), (1, _), (2, _), (3, _)]) ⟨rfl, rfl, rfl, rfl, trivial⟩ ?_
  refine go_aload_n hF d_Tr_takeLine_12 rfl ?_
  refine gs_getO hF hK d_Tr_takeLine_13 fl_Tr_9 (ovs_same _ _ _) rfl ?_
  refine go_iload_n hF d_Tr_takeLine_16 rfl ?_
  refine go_iconst (v := 1) hF d_Tr_takeLine_17 (by decide) ?_
  refine go_iadd hF d_Tr_takeLine_18 ?_
  refine go_callVX hF hE hlo d_Tr_takeLine_19 (con_Ta_byteOrNone (N := nr N B tr t f) hlt h2 hn _) mt_Ta_byteOrNone mv_Ta_byteOrNone lk_Tr_38 ⟨rfl, rfl, by decide, by decide⟩ rfl (Nat.le_of_ble_eq_true rfl) ⟨by decide, by decide⟩ (fun H hG => gw_recv (q := (R_Ta, T_Ta, 2)) hK hG h2 rfl rfl (by decide) rfl) (fun M => gx_no) rfl (fun v => ?_)
  refine go_and (fun hv => ?_)
  subst hv
  refine go_bipush (v := 33) hF d_Tr_takeLine_22 (by decide) ?_
  refine go_isub hF d_Tr_takeLine_24 ?_
  refine go_istore hF d_Tr_takeLine_25 (by decide) ?_
  refine go_lv (lv' := [(0, _), (1, _), (2, _), (3, _), (4, _)]) ⟨rfl, rfl, rfl, rfl, rfl, trivial⟩ ?_
  refine go_iload_n hF d_Tr_takeLine_27 rfl ?_
  refine go_iconst (v := -1) hF d_Tr_takeLine_28 (by decide) ?_
  refine go_icmp_eq (tgt := 55) hF d_Tr_takeLine_29 (by decide) (fun h29 => ?_) (fun h29 => ?_)
  · refine go_iconst (v := -1) hF d_Tr_takeLine_55 (by decide) ?_
    exact go_iret hF hM d_Tr_takeLine_56 (by decide) (by decide) (fun H hG => by
      have q : ¬ tlOk w t p := fun z => z.1 h29
      unfold tlR tlF tlS; rw [if_neg q, if_neg q, if_neg q]; exact ⟨rfl, hG⟩)
  · refine go_aload_n hF d_Tr_takeLine_32 rfl ?_
    refine gs_getO hF hK d_Tr_takeLine_33 fl_Tr_21 (ovs_same _ _ _) rfl ?_
    refine go_ldc2 hF kl_Tr_19 d_Tr_takeLine_36 ?_
    refine go_lif_eq (tgt := 55) hF d_Tr_takeLine_39 d_Tr_takeLine_40 (by decide) (fun h39 => ?_) (fun h39 => ?_)
    · refine go_iconst (v := -1) hF d_Tr_takeLine_55 (by decide) ?_
      exact go_iret hF hM d_Tr_takeLine_56 (by decide) (by decide) (fun H hG => by
        have q : ¬ tlOk w t p := fun z => z.2.1 h39
        unfold tlR tlF tlS; rw [if_neg q, if_neg q, if_neg q]; exact ⟨rfl, hG⟩)
    · refine go_aload_n hF d_Tr_takeLine_43 rfl ?_
      refine gs_getO hF hK d_Tr_takeLine_44 fl_Tr_15 (ovs_same _ _ _) rfl ?_
      refine go_iload hF d_Tr_takeLine_47 rfl ?_
      refine go_callVX hF hE hlo d_Tr_takeLine_49 (con_Ci_hasNet (N := nr N B tr t f) hlt ho _) mt_Ci_hasNet mv_Ci_hasNet lk_Tr_70 ⟨rfl, rfl, by decide, by decide⟩ rfl (Nat.le_of_ble_eq_true rfl) ⟨by decide, by decide⟩ (fun H hG => gw_recv (q := (R_Ci, T_Ci, 10)) hK hG ho rfl rfl (by decide) rfl) (fun M => gx_no) rfl (fun v => ?_)
      refine go_and (fun hv => ?_)
      subst hv
      refine go_if_ne (tgt := 57) hF d_Tr_takeLine_52 (by decide) (fun h52 => ?_) (fun h52 => ?_)
      · have htl : tlOk w t p := ⟨h29, h39, bi_1 h52⟩
        refine go_iload_n hF d_Tr_takeLine_57 rfl ?_
        refine go_if_eq (tgt := 79) hF d_Tr_takeLine_58 (by decide) (fun h58 => ?_) (fun h58 => ?_)
        · refine go_aload_n hF d_Tr_takeLine_79 rfl ?_
          refine go_dup hF d_Tr_takeLine_80 rfl ?_
          refine gs_getO hF hK d_Tr_takeLine_81 fl_Tr_25 (ovs_same _ _ _) rfl ?_
          refine go_iconst (v := 1) hF d_Tr_takeLine_84 (by decide) ?_
          refine go_iadd hF d_Tr_takeLine_85 ?_
          refine gs_putO hF hK hlo d_Tr_takeLine_86 fl_Tr_25 ct_Tr fs_Tr_3 rfl rfl (ovs_same _ _ _) (Nat.le_of_ble_eq_true rfl) ?_
          refine go_G (fun H hG => nr_put hG) ?_
          refine go_iload_n hF d_Tr_takeLine_89 rfl ?_
          refine go_iconst (v := 2) hF d_Tr_takeLine_90 (by decide) ?_
          refine go_iadd hF d_Tr_takeLine_91 ?_
          exact go_iret hF hM d_Tr_takeLine_92 (by decide) (by decide) (fun H hG => by
            unfold tlR tlF tlS tlA; rw [if_pos htl, if_pos htl, if_pos htl, if_pos h58]; exact ⟨rfl, hG⟩)
        · refine go_aload_n hF d_Tr_takeLine_61 rfl ?_
          refine gs_getO hF hK d_Tr_takeLine_62 fl_Tr_15 (ovs_same _ _ _) rfl ?_
          refine gs_getr hF hK d_Tr_takeLine_65 fl_Tr_74 ho rfl rfl (by decide) rfl ?_
          refine go_iconst (v := 0) hF d_Tr_takeLine_68 (by decide) ?_
          refine go_iload hF d_Tr_takeLine_69 rfl ?_
          refine go_aload_n hF d_Tr_takeLine_71 rfl ?_
          refine gs_getO hF hK d_Tr_takeLine_72 fl_Tr_21 (ovs_same _ _ _) rfl ?_
          refine go_iload_n hF d_Tr_takeLine_75 rfl ?_
          refine go_callVX hF hE hlo d_Tr_takeLine_76 (con_Ha_append (N := nr N B tr t f) (c := nz (wI w 0 0 4 0 0)) hlt ho hh.1 (hcap h58 htl) _ _ _ _) mt_Ha_append mv_Ha_append lk_Tr_78 ⟨rfl, rfl, by decide, by decide⟩ rfl (Nat.le_of_ble_eq_true rfl) ⟨by decide, by decide⟩ (fun H hG => gw_recv (q := (R_Ha, T_Ha, 5)) hK hG ho rfl rfl (by decide) rfl) (fun M => gx_no) rfl (fun v => ?_)
          refine go_and (fun hv => ?_)
          subst hv
          refine go_aload_n hF d_Tr_takeLine_79 rfl ?_
          refine go_dup hF d_Tr_takeLine_80 rfl ?_
          refine gs_getO hF hK d_Tr_takeLine_81 fl_Tr_25 (ovs_same _ _ _) rfl ?_
          refine go_iconst (v := 1) hF d_Tr_takeLine_84 (by decide) ?_
          refine go_iadd hF d_Tr_takeLine_85 ?_
          refine gs_putO hF hK hlo d_Tr_takeLine_86 fl_Tr_25 ct_Tr fs_Tr_3 rfl rfl (ovs_same _ _ _) (Nat.le_of_ble_eq_true rfl) ?_
          refine go_G (fun H hG => nr_put hG) ?_
          refine go_iload_n hF d_Tr_takeLine_89 rfl ?_
          refine go_iconst (v := 2) hF d_Tr_takeLine_90 (by decide) ?_
          refine go_iadd hF d_Tr_takeLine_91 ?_
          exact go_iret hF hM d_Tr_takeLine_92 (by decide) (by decide) (fun H hG => by
            unfold tlR tlF tlS tlA; rw [if_pos htl, if_pos htl, if_pos htl, if_neg h58]; exact ⟨rfl, hG⟩)
      · refine go_iconst (v := -1) hF d_Tr_takeLine_55 (by decide) ?_
        exact go_iret hF hM d_Tr_takeLine_56 (by decide) (by decide) (fun H hG => by
          have q : ¬ tlOk w t p := fun z => bi_0 h52 z.2.2
          unfold tlR tlF tlS; rw [if_neg q, if_neg q, if_neg q]; exact ⟨rfl, hG⟩)
def eqv (w u : wdT) : Prop := (∀ r k i, wI u 2 0 r k i = wI w 2 0 r k i) ∧ wL u 0 0 0 0 0 = wL w 0 0 0 0 0 ∧ wI u 0 0 0 2 0 = wI w 0 0 0 2 0
theorem eqv_rf (w : wdT) : eqv w w := ⟨fun _ _ _ => rfl, rfl, rfl⟩
theorem eqv_bon {w u : wdT} (h : eqv w u) : bon u = bon w := by
  funext x
  unfold bon
  rw [h.1 1 0 0, h.1 2 0 (nz x)]
theorem eqv_skp {w u : wdT} (h : eqv w u) (P : Int32 → Prop) : ∀ m p, skp u P m p = skp w P m p
  | 0, p => rfl
  | m + 1, p => by
    rw [skp_s, skp_s, eqv_bon h, h.1 1 0 0, eqv_skp h P m (p + 1)]
theorem eqv_nmb {w u : wdT} (h : eqv w u) : ∀ m i n, nmb u m i n = nmb w m i n
  | 0, _, _ => rfl
  | m + 1, i, n => by rw [nmb_s, nmb_s, eqv_bon h, eqv_nmb h m (i + 1)]
theorem eqv_ten {w u : wdT} (h : eqv w u) (p : Nat) : ten u p = ten w p := eqv_skp h _ _ _
theorem eqv_tnm {w u : wdT} (h : eqv w u) (p : Nat) : tnm u p = tnm w p := by
  unfold tnm
  rw [eqv_ten h, eqv_nmb h]
theorem eqv_tt {w u : wdT} (h : eqv w u) (p : Nat) : ttOk u p = ttOk w p := by
  unfold ttOk
  rw [eqv_ten h, eqv_tnm h, h.2.1]
theorem eqv_tl {w u : wdT} (h : eqv w u) (t : Int64) (p : Nat) : tlOk u t p = tlOk w t p := by
  unfold tlOk isN
  rw [eqv_bon h, h.2.2]
theorem tlA_0 (w : wdT) (t : Int64) (p : Nat) (u : wdT) : tlA w 0 t p u = u := if_pos rfl
theorem eqv_tlA {w u : wdT} (h : eqv w u) (b : Int32) (t : Int64) (p : Nat) : eqv w (tlA w b t p u) := by
  unfold tlA
  split
  · exact h
  · unfold apW
    refine ⟨fun r k i => ?_, ?_, ?_⟩
    · rw [← h.1 r k i]
      simp only [rd_II, rd_IL]
      rw [if_neg (by omega), if_neg (by omega), if_neg (by omega), if_neg (by omega)]
    · rw [← h.2.1]
      simp only [rd_LL, rd_LI]
      rw [if_neg (by omega)]
    · rw [← h.2.2]
      simp only [rd_II, rd_IL]
      rw [if_neg (by omega), if_neg (by omega), if_neg (by omega), if_neg (by omega)]
/-- going over the tape: where it is unsound, and how many lines were found -/
noncomputable def ps (w : wdT) : Nat → Nat → Int64 → Nat → Option Nat × Nat
  | 0, _, _, f => (none, f)
  | m + 1, p, t, f => if nI p < wI w 2 0 1 0 0 then
      (if bon w (nI p) = 35 then @ite _ (ttOk w p) (Classical.propDecidable _) (ps w m (skp w blk 3000 (ten w p)) (tnm w p) f) (some p, f)
       else @ite _ (tlOk w t p) (Classical.propDecidable _) (ps w m (skp w blk 3000 (p + 2)) t (f + 1)) (some p, f))
      else (none, f)
theorem ps_s (w : wdT) (m p : Nat) (t : Int64) (f : Nat) : ps w (m + 1) p t f = if nI p < wI w 2 0 1 0 0 then
      (if bon w (nI p) = 35 then @ite _ (ttOk w p) (Classical.propDecidable _) (ps w m (skp w blk 3000 (ten w p)) (tnm w p) f) (some p, f)
       else @ite _ (tlOk w t p) (Classical.propDecidable _) (ps w m (skp w blk 3000 (p + 2)) t (f + 1)) (some p, f))
      else (none, f) := rfl
theorem ps_ge (w : wdT) : ∀ m p t f, f ≤ (ps w m p t f).2
  | 0, _, _, _ => Nat.le_refl _
  | m + 1, p, t, f => by
    rw [ps_s]
    split
    · split
      · split
        · exact ps_ge w m _ _ f
        · exact Nat.le_refl _
      · split
        · exact Nat.le_trans (Nat.le_succ f) (ps_ge w m _ _ (f + 1))
        · exact Nat.le_refl _
    · exact Nat.le_refl _
/-- what the hands are behind it -/
noncomputable def psT (w : wdT) (b : Int32) : Nat → Nat → Int64 → wdT → wdT
  | 0, _, _, u => u
  | m + 1, p, t, u => if nI p < wI w 2 0 1 0 0 then
      (if bon w (nI p) = 35 then @ite _ (ttOk w p) (Classical.propDecidable _) (psT w b m (skp w blk 3000 (ten w p)) (tnm w p) u) u
       else @ite _ (tlOk w t p) (Classical.propDecidable _) (psT w b m (skp w blk 3000 (p + 2)) t (tlA w b t p u)) u)
      else u
theorem psT_s (w : wdT) (b : Int32) (m p : Nat) (t : Int64) (u : wdT) : psT w b (m + 1) p t u = if nI p < wI w 2 0 1 0 0 then
      (if bon w (nI p) = 35 then @ite _ (ttOk w p) (Classical.propDecidable _) (psT w b m (skp w blk 3000 (ten w p)) (tnm w p) u) u
       else @ite _ (tlOk w t p) (Classical.propDecidable _) (psT w b m (skp w blk 3000 (p + 2)) t (tlA w b t p u)) u)
      else u := rfl
def oI1 : Option Nat → Int32
  | none => -1
  | some p => nI p
/-- the time that was told last, at the end -/
noncomputable def psO (w : wdT) : Option Nat × Nat := ps w 2000 (skp w blk 3000 0) (-1) 0
noncomputable def psU (w : wdT) (b : Int32) : wdT := psT w b 2000 (skp w blk 3000 0) (-1) w
