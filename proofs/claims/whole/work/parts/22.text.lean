/-- how many digits x has, looked for from d on -/
def dgl (x : Int32) : Nat → Nat → Nat
  | 0, _ => 10
  | m + 1, d => if x < pws d then d else dgl x m (d + 1)
theorem dgl_s (x : Int32) (m d : Nat) : dgl x (m + 1) d = if x < pws d then d else dgl x m (d + 1) := rfl
theorem dgl_le (x : Int32) : ∀ m d, d + m = 10 → 1 ≤ d → 1 ≤ dgl x m d ∧ dgl x m d ≤ 10
  | 0, d, _, _ => ⟨Nat.le_of_ble_eq_true rfl, Nat.le_refl 10⟩
  | m + 1, d, h, h1 => by
    rw [dgl_s]
    split
    · omega
    · exact dgl_le x m (d + 1) (by omega) (by omega)
def dg (x : Int32) : Nat := dgl x 9 1
theorem dg_le (x : Int32) : 1 ≤ dg x ∧ dg x ≤ 10 := dgl_le x 9 1 rfl (by decide)
theorem pws_ne : ∀ d, d < 10 → ¬ pws d = 0 := by decide
def hby (t : Int32) (d : Nat) (x : Int32) : Int32 := if x = 0 then 35 else if (0 ≤ nI d - x ∧ nI d - x < 10) then 48 + (t / pws (nz (nI d - x)) - t / pws (nz (nI d - x)) / 10 * 10) else 10
def lby (w : wdT) (ι k : Nat) (x : Int32) : Int32 := if x = 0 then vbs (nz (wI w 0 ι 12 0 k)) else if x = 1 then 33 + wI w 0 ι 11 0 k else 10
def hd1 (w : wdT) (ι k : Nat) : Prop := k = 0 ∨ ¬ wI w 0 ι 10 0 k = wI w 0 ι 10 0 (k - 1)
/-- the text from change k on, at place l of it -/
noncomputable def bot (w : wdT) (ι : Nat) : Nat → Nat → Int32 → Int32
  | 0, _, _ => -1
  | m + 1, k, l => @ite _ (hd1 w ι k) (Classical.propDecidable _)
      (if l < nI (dg (wI w 0 ι 10 0 k)) + 2 then hby (wI w 0 ι 10 0 k) (dg (wI w 0 ι 10 0 k)) l
       else if l - (nI (dg (wI w 0 ι 10 0 k)) + 2) < 3 then lby w ι k (l - (nI (dg (wI w 0 ι 10 0 k)) + 2)) else bot w ι m (k + 1) (l - (nI (dg (wI w 0 ι 10 0 k)) + 2) + Int32.ofInt (-3)))
      (if l < 3 then lby w ι k l else bot w ι m (k + 1) (l + Int32.ofInt (-3)))
theorem bot_s (w : wdT) (ι m k : Nat) (l : Int32) : bot w ι (m + 1) k l = @ite _ (hd1 w ι k) (Classical.propDecidable _)
      (if l < nI (dg (wI w 0 ι 10 0 k)) + 2 then hby (wI w 0 ι 10 0 k) (dg (wI w 0 ι 10 0 k)) l
       else if l - (nI (dg (wI w 0 ι 10 0 k)) + 2) < 3 then lby w ι k (l - (nI (dg (wI w 0 ι 10 0 k)) + 2)) else bot w ι m (k + 1) (l - (nI (dg (wI w 0 ι 10 0 k)) + 2) + Int32.ofInt (-3)))
      (if l < 3 then lby w ι k l else bot w ι m (k + 1) (l + Int32.ofInt (-3))) := rfl
set_option maxHeartbeats 4000000 in
set_option maxRecDepth 100000 in
theorem con_Wa_digitsOf {l : Launch} (hlt : l.stackTraces = false) {E : gE} {B : bsT} {N : nwT} {w : wdT} (x : Int32) : Con l E y_Wa_digitsOf (Cond.code y_Wa_digitsOf c_Wa_digitsOf 2 (some .int) :: gAll) rm_Wa_digitsOf [.int x] (gw E B N w) (fun v H => v = some (.int (nI (dg x))) ∧ gw E B N w H) (fun _ _ => False) 0 0 := by
  refine con_of (by decide) hlt (Nat.le_of_ble_eq_true rfl) ?_
  intro F hF hM htab hnm hE hlo hl
  subst hl
  have hF : Fb F c_Wa_digitsOf R_Wa 2 rm_Wa_digitsOf := hF
  have hK := hE.1
  have hT := hE.2.1
  refine go_lv (lv' := [(0, _)]) ⟨rfl, trivial⟩ ?_
  have L2 : ∀ m d : Nat, d + m = 10 → 1 ≤ d → dgl x m d = dg x → Go F 2 [(0, .int x), (1, .int (nI d))] [] (gw E B N w) 0 0 := by
    intro m
    induction m using Nat.strongRecOn with
    | _ m ih =>
      intro d hm hd hR
      refine go_iload_n hF d_Wa_digitsOf_2 rfl ?_
      refine go_tab (host := "EventWaves") hF (fun H hG => hG.1) d_Wa_digitsOf_3 (va_Nw.use (nW_on _ fn_Wa_43) (hE.2.2.1 _ fn_Wa_43)) hE.2.2.2.2.2.1 (fun t3 ht3 => ?_)
      refine go_tlen hF (fun H hG => hG.1) ht3 d_Wa_digitsOf_6 ?_
      refine go_icmp_ge (tgt := 27) hF d_Wa_digitsOf_7 (by decide) (fun h7 => ?_) (fun h7 => ?_)
      · refine go_tab (host := "EventWaves") hF (fun H hG => hG.1) d_Wa_digitsOf_27 (va_Nw.use (nW_on _ fn_Wa_43) (hE.2.2.1 _ fn_Wa_43)) hE.2.2.2.2.2.1 (fun t27 ht27 => ?_)
        refine go_tlen hF (fun H hG => hG.1) ht27 d_Wa_digitsOf_30 ?_
        exact go_iret hF hM d_Wa_digitsOf_31 (by decide) (by decide) (fun H hG => ⟨by have e : m = 0 := (by have := (nI_leI (a := 10) (b := d) (by omega) (by omega)).mp h7; omega); subst e; rw [← hR]; rfl, hG⟩)
      · have hp2 : d < 10 := by
          have z : ¬ 10 ≤ d := fun z => h7 ((nI_leI (a := 10) (b := d) (by omega) (by omega)).mpr z)
          omega
        obtain ⟨f, rfl⟩ : ∃ f, m = f + 1 := ⟨m - 1, by omega⟩
        rw [dgl_s] at hR
        refine go_iload_n hF d_Wa_digitsOf_10 rfl ?_
        refine go_tab (host := "EventWaves") hF (fun H hG => hG.1) d_Wa_digitsOf_11 (va_Nw.use (nW_on _ fn_Wa_43) (hE.2.2.1 _ fn_Wa_43)) hE.2.2.2.2.2.1 (fun t11 ht11 => ?_)
        refine go_iload_n hF d_Wa_digitsOf_14 rfl ?_
        refine go_tald hF (fun H hG => hG.1) ht11 d_Wa_digitsOf_15 rfl hp2 (by decide) ?_
        refine go_icmp_ge (tgt := 21) hF d_Wa_digitsOf_16 (by decide) (fun h16 => ?_) (fun h16 => ?_)
        · refine go_iincN hF d_Wa_digitsOf_21 rfl (by decide) ?_
          refine go_lv (lv' := [(0, _), (1, _)]) ⟨rfl, rfl, trivial⟩ ?_
          refine go_goto (tgt := 2) hF d_Wa_digitsOf_24 (by decide) ?_
          refine go_lv (lv' := [(0, _), (1, _)]) ⟨rfl, rfl, trivial⟩ ?_
          rw [if_neg (fun z => Int32.lt_irrefl (Int32.lt_of_lt_of_le z h16))] at hR
          exact ih f (by omega) (d + 1) (by omega) (by omega) hR
        · refine go_iload_n hF d_Wa_digitsOf_19 rfl ?_
          exact go_iret hF hM d_Wa_digitsOf_20 (by decide) (by decide) (fun H hG => ⟨by rw [if_pos (by simp only [Int32.lt_iff_toInt_lt, Int32.le_iff_toInt_le] at *; omega)] at hR; rw [hR], hG⟩)
  refine go_iconst (v := 1) hF d_Wa_digitsOf_0 (by decide) ?_
  refine go_istore_n hF d_Wa_digitsOf_1 (by decide) ?_
  refine go_lv (lv' := [(0, _), (1, _)]) ⟨rfl, rfl, trivial⟩ ?_
  exact L2 9 1 rfl (by decide) rfl
set_option maxHeartbeats 4000000 in
set_option maxRecDepth 100000 in
theorem con_Wa_headByte {l : Launch} (hlt : l.stackTraces = false) {E : gE} {B : bsT} {N : nwT} {w : wdT} {d : Nat} (t x : Int32) : Con l E y_Wa_headByte (Cond.code y_Wa_headByte c_Wa_headByte 4 (some .int) :: gAll) rm_Wa_headByte [.int t, .int (nI d), .int x] (gw E B N w) (fun v H => v = some (.int (hby t d x)) ∧ gw E B N w H) (fun _ _ => False) 0 0 := by
  refine con_of (by decide) hlt (Nat.le_of_ble_eq_true rfl) ?_
  intro F hF hM htab hnm hE hlo hl
  subst hl
  have hF : Fb F c_Wa_headByte R_Wa 4 rm_Wa_headByte := hF
  have hK := hE.1
  have hT := hE.2.1
  refine go_lv (lv' := [(0, _), (1, _), (2, _)]) ⟨rfl, rfl, rfl, trivial⟩ ?_
  refine go_iload_n hF d_Wa_headByte_0 rfl ?_
  refine go_if_ne (tgt := 7) hF d_Wa_headByte_1 (by decide) (fun h1 => ?_) (fun h1 => ?_)
  · refine go_iload_n hF d_Wa_headByte_7 rfl ?_
    refine go_iload_n hF d_Wa_headByte_8 rfl ?_
    refine go_isub hF d_Wa_headByte_9 ?_
    refine go_istore_n hF d_Wa_headByte_10 (by decide) ?_
    refine go_lv (lv' := [(0, _), (1, _), (2, _), (3, _)]) ⟨rfl, rfl, rfl, rfl, trivial⟩ ?_
    refine go_iload_n hF d_Wa_headByte_11 rfl ?_
    refine go_if_lt (tgt := 23) hF d_Wa_headByte_12 (by decide) (fun h12 => ?_) (fun h12 => ?_)
    · refine go_bipush (v := 10) hF d_Wa_headByte_23 (by decide) ?_
      exact go_iret hF hM d_Wa_headByte_25 (by decide) (by decide) (fun H hG => ⟨by unfold hby; rw [if_neg h1, if_neg (fun z => Int32.lt_irrefl (Int32.lt_of_lt_of_le h12 z.1))], hG⟩)
    · refine go_iload_n hF d_Wa_headByte_15 rfl ?_
      refine go_tab (host := "EventWaves") hF (fun H hG => hG.1) d_Wa_headByte_16 (va_Nw.use (nW_on _ fn_Wa_43) (hE.2.2.1 _ fn_Wa_43)) hE.2.2.2.2.2.1 (fun t16 ht16 => ?_)
      refine go_tlen hF (fun H hG => hG.1) ht16 d_Wa_headByte_19 ?_
      refine go_icmp_lt (tgt := 26) hF d_Wa_headByte_20 (by decide) (fun h20 => ?_) (fun h20 => ?_)
      · have hp := nz_of (not_lt h12) (by decide) (show nI d - x < nI 10 from h20)
        refine go_bipush (v := 48) hF d_Wa_headByte_26 (by decide) ?_
        refine go_iload_n hF d_Wa_headByte_28 rfl ?_
        refine go_tab (host := "EventWaves") hF (fun H hG => hG.1) d_Wa_headByte_29 (va_Nw.use (nW_on _ fn_Wa_43) (hE.2.2.1 _ fn_Wa_43)) hE.2.2.2.2.2.1 (fun t29 ht29 => ?_)
        refine go_iload_n hF d_Wa_headByte_32 rfl ?_
        refine go_tald hF (fun H hG => hG.1) ht29 d_Wa_headByte_33 hp.1 hp.2 (by decide) ?_
        refine go_idiv hF d_Wa_headByte_34 (pws_ne _ hp.2) ?_
        refine go_bipush (v := 10) hF d_Wa_headByte_35 (by decide) ?_
        refine go_irem hF d_Wa_headByte_37 (by decide) ?_
        refine go_iadd hF d_Wa_headByte_38 ?_
        exact go_iret hF hM d_Wa_headByte_39 (by decide) (by decide) (fun H hG => ⟨by unfold hby; rw [if_neg h1, if_pos ⟨not_lt h12, h20⟩], hG⟩)
      · refine go_bipush (v := 10) hF d_Wa_headByte_23 (by decide) ?_
        exact go_iret hF hM d_Wa_headByte_25 (by decide) (by decide) (fun H hG => ⟨by unfold hby; rw [if_neg h1, if_neg (fun z => h20 z.2)], hG⟩)
  · refine go_bipush (v := 35) hF d_Wa_headByte_4 (by decide) ?_
    exact go_iret hF hM d_Wa_headByte_6 (by decide) (by decide) (fun H hG => ⟨by unfold hby; rw [if_pos h1], hG⟩)
set_option maxHeartbeats 4000000 in
set_option maxRecDepth 100000 in
theorem con_Wa_lineByte {l : Launch} (hlt : l.stackTraces = false) {E : gE} {B : bsT} {N : nwT} {w : wdT} {ι k : Nat} (ho : N.1 0 ι = true) (hk : k < 600) (hv : vn (wI w 0 ι 12 0 k) 4) (x : Int32) : Con l E y_Wa_lineByte (Cond.code y_Wa_lineByte c_Wa_lineByte 3 (some .int) :: gAll) rm_Wa_lineByte [.ref (ad B 0 ι 9 0), .int (nI k), .int x] (gw E B N w) (fun v H => v = some (.int (lby w ι k x)) ∧ gw E B N w H) (fun _ _ => False) 0 0 := by
  refine con_of (by decide) hlt (Nat.le_of_ble_eq_true rfl) ?_
  intro F hF hM htab hnm hE hlo hl
  subst hl
  have hF : Fb F c_Wa_lineByte R_Wa 3 rm_Wa_lineByte := hF
  have hK := hE.1
  have hT := hE.2.1
  refine go_lv (lv' := [(0, _), (1, _), (2, _)]) ⟨rfl, rfl, rfl, trivial⟩ ?_
  refine go_iload_n hF d_Wa_lineByte_0 rfl ?_
  refine go_topi (fun x1 hx1 => ?_)
  by_cases e1_0 : x1 = 0
  · rw [e1_0]
    refine go_lookup (off := 27) (tgt := 28) hF d_Wa_lineByte_1 (by decide) (by decide) (by decide) ?_
    refine go_tab (host := "EventWaves") hF (fun H hG => hG.1) d_Wa_lineByte_28 (va_Nw.use (nW_on _ fn_Wa_46) (hE.2.2.1 _ fn_Wa_46)) hE.2.2.2.2.1 (fun t28 ht28 => ?_)
    refine go_aload_n hF d_Wa_lineByte_31 rfl ?_
    refine gs_getr hF hK d_Wa_lineByte_32 fl_Wa_18 ho rfl rfl (by decide) rfl ?_
    refine go_iload_n hF d_Wa_lineByte_35 rfl ?_
    refine gs_iald hF hK hT d_Wa_lineByte_36 ho rfl rfl rfl hk (by decide) ?_
    refine go_tald hF (fun H hG => hG.1) ht28 d_Wa_lineByte_37 hv.1 hv.2 (by decide) ?_
    exact go_iret hF hM d_Wa_lineByte_38 (by decide) (by decide) (fun H hG => ⟨by unfold lby; rw [if_pos (hx1.symm.trans e1_0)]; rfl, hG⟩)
  by_cases e1_1 : x1 = 1
  · rw [e1_1]
    refine go_lookup (off := 38) (tgt := 39) hF d_Wa_lineByte_1 (by decide) (by decide) (by decide) ?_
    refine go_bipush (v := 33) hF d_Wa_lineByte_39 (by decide) ?_
    refine go_aload_n hF d_Wa_lineByte_41 rfl ?_
    refine gs_getr hF hK d_Wa_lineByte_42 fl_Wa_15 ho rfl rfl (by decide) rfl ?_
    refine go_iload_n hF d_Wa_lineByte_45 rfl ?_
    refine gs_iald hF hK hT d_Wa_lineByte_46 ho rfl rfl rfl hk (by decide) ?_
    refine go_iadd hF d_Wa_lineByte_47 ?_
    exact go_iret hF hM d_Wa_lineByte_48 (by decide) (by decide) (fun H hG => ⟨by unfold lby; rw [if_neg (fun z => e1_0 (hx1.trans z)), if_pos (hx1.symm.trans e1_1)], hG⟩)
  refine go_lookup (off := 48) (tgt := 49) hF d_Wa_lineByte_1 (by decide) (by show Op.lookupswitch.offset [(0, 27), (1, 38)] 48 x1.toInt = 48; rw [Op.lookupswitch.offset_cons, if_neg (ne_tI e1_0)]; rw [Op.lookupswitch.offset_cons, if_neg (ne_tI e1_1)]; rfl) (by decide) ?_
  refine go_bipush (v := 10) hF d_Wa_lineByte_49 (by decide) ?_
  exact go_iret hF hM d_Wa_lineByte_51 (by decide) (by decide) (fun H hG => ⟨by unfold lby; rw [if_neg (fun z => e1_0 (hx1.trans z)), if_neg (fun z => e1_1 (hx1.trans z))], hG⟩)
theorem nI_pr {k : Nat} (h : k ≠ 0) : nI k - 1 = nI (k - 1) := by
  obtain ⟨j, rfl⟩ : ∃ j, k = j + 1 := ⟨k - 1, by omega⟩
  exact nI_pred _
theorem nle_lt {x y : Int32} (h : ¬ y ≤ x) : x < y := by
  simp only [Int32.lt_iff_toInt_lt, Int32.le_iff_toInt_le] at *
  omega
set_option maxHeartbeats 4000000 in
set_option maxRecDepth 100000 in
theorem con_Wa_byteOfText {l : Launch} (hlt : l.stackTraces = false) {E : gE} {B : bsT} {N : nwT} {w : wdT} {ι c : Nat} (ho : N.1 0 ι = true) (hc : wI w 0 ι 9 0 0 = nI c) (hcn : c ≤ 600) (hv : ∀ k, k < c → vn (wI w 0 ι 12 0 k) 4) (x : Int32) : Con l E y_Wa_byteOfText (Cond.code y_Wa_byteOfText c_Wa_byteOfText 5 (some .int) :: gAll) rm_Wa_byteOfText [.ref (ad B 0 ι 9 0), .int x] (gw E B N w) (fun v H => v = some (.int (bot w ι c 0 x)) ∧ gw E B N w H) (fun _ _ => False) 0 0 := by
  refine con_of (by decide) hlt (Nat.le_of_ble_eq_true rfl) ?_
  intro F hF hM htab hnm hE hlo hl
  subst hl
  have hF : Fb F c_Wa_byteOfText R_Wa 5 rm_Wa_byteOfText := hF
  have hK := hE.1
  have hT := hE.2.1
  refine go_lv (lv' := [(0, _), (1, _)]) ⟨rfl, rfl, trivial⟩ ?_
  have L4 : ∀ m k (l : Int32), k + m = c → k ≤ c → bot w ι m k l = bot w ι c 0 x → Go F 4 [(0, .ref (ad B 0 ι 9 0)), (1, .int x), (2, .int l), (3, .int (nI k))] [] (gw E B N w) 0 0 := by
    intro m
    induction m using Nat.strongRecOn with
    | _ m ih =>
      intro k l hm hkc hR
      refine go_iload_n hF d_Wa_byteOfText_4 rfl ?_
      refine go_aload_n hF d_Wa_byteOfText_5 rfl ?_
      refine gs_geti hF hK d_Wa_byteOfText_6 fl_Wa_21 ho rfl rfl (by decide) rfl ?_
      refine go_icmp_ge (tgt := 93) hF d_Wa_byteOfText_9 (by decide) (fun h9 => ?_) (fun h9 => ?_)
      · refine go_iconst (v := -1) hF d_Wa_byteOfText_93 (by decide) ?_
        exact go_iret hF hM d_Wa_byteOfText_94 (by decide) (by decide) (fun H hG => ⟨by rw [hc] at h9; have e : m = 0 := (by have := (nI_leI (a := c) (b := k) (by omega) (by omega)).mp h9; omega); subst e; rw [← hR]; rfl, hG⟩)
      · have hp2 : k < c := by
          rw [hc] at h9
          have z : ¬ c ≤ k := fun z => h9 ((nI_leI (a := c) (b := k) (by omega) (by omega)).mpr z)
          omega
        obtain ⟨f, rfl⟩ : ∃ f, m = f + 1 := ⟨m - 1, by omega⟩
        rw [bot_s] at hR
        refine go_iload_n hF d_Wa_byteOfText_12 rfl ?_
        refine go_if_eq (tgt := 33) hF d_Wa_byteOfText_13 (by decide) (fun h13 => ?_) (fun h13 => ?_)
        · refine go_aload_n hF d_Wa_byteOfText_33 rfl ?_
          refine gs_getr hF hK d_Wa_byteOfText_34 fl_Wa_9 ho rfl rfl (by decide) rfl ?_
          refine go_iload_n hF d_Wa_byteOfText_37 rfl ?_
          refine gs_iald hF hK hT d_Wa_byteOfText_38 ho rfl rfl rfl (by omega) (by decide) ?_
          refine go_callSX hF hE hlo d_Wa_byteOfText_39 (con_Wa_digitsOf hlt _) mt_Wa_digitsOf ms_Wa_digitsOf lk_Wa_31 ⟨rfl, rfl, by decide, by decide⟩ rfl (Nat.le_of_ble_eq_true rfl) ⟨by decide, by decide⟩ (fun M => gx_no) rfl (fun v => ?_)
          refine go_and (fun hv => ?_)
          subst hv
          refine go_istore hF d_Wa_byteOfText_42 (by decide) ?_
          refine go_lv (lv' := [(0, _), (1, _), (2, _), (3, _), (4, _)]) ⟨rfl, rfl, rfl, rfl, rfl, trivial⟩ ?_
          refine go_iload_n hF d_Wa_byteOfText_44 rfl ?_
          refine go_iload hF d_Wa_byteOfText_45 rfl ?_
          refine go_iconst (v := 2) hF d_Wa_byteOfText_47 (by decide) ?_
          refine go_iadd hF d_Wa_byteOfText_48 ?_
          refine go_icmp_ge (tgt := 65) hF d_Wa_byteOfText_49 (by decide) (fun h49 => ?_) (fun h49 => ?_)
          · refine go_iload_n hF d_Wa_byteOfText_65 rfl ?_
            refine go_iload hF d_Wa_byteOfText_66 rfl ?_
            refine go_iconst (v := 2) hF d_Wa_byteOfText_68 (by decide) ?_
            refine go_iadd hF d_Wa_byteOfText_69 ?_
            refine go_isub hF d_Wa_byteOfText_70 ?_
            refine go_istore_n hF d_Wa_byteOfText_71 (by decide) ?_
            refine go_lv (lv' := [(0, _), (1, _), (2, _), (3, _), (4, _)]) ⟨rfl, rfl, rfl, rfl, rfl, trivial⟩ ?_
            refine go_iload_n hF d_Wa_byteOfText_72 rfl ?_
            refine go_iconst (v := 3) hF d_Wa_byteOfText_73 (by decide) ?_
            refine go_icmp_ge (tgt := 84) hF d_Wa_byteOfText_74 (by decide) (fun h74 => ?_) (fun h74 => ?_)
            · refine go_iinc hF d_Wa_byteOfText_84 rfl rfl (by decide) ?_
              refine go_lv (lv' := [(0, _), (1, _), (2, _), (3, _), (4, _)]) ⟨rfl, rfl, rfl, rfl, rfl, trivial⟩ ?_
              refine go_iincN hF d_Wa_byteOfText_87 rfl (by decide) ?_
              refine go_lv (lv' := [(0, _), (1, _), (2, _), (3, _), (4, _)]) ⟨rfl, rfl, rfl, rfl, rfl, trivial⟩ ?_
              refine go_goto (tgt := 4) hF d_Wa_byteOfText_90 (by decide) ?_
              refine go_lv (lv' := [(0, _), (1, _), (2, _), (3, _)]) ⟨rfl, rfl, rfl, rfl, trivial⟩ ?_
              rw [if_pos (show hd1 w ι k from Or.inl (by have := (nI_eq (a := k) (b := 0) (by omega) (by omega)).mp h13; exact this)), if_neg (fun z => Int32.lt_irrefl (Int32.lt_of_lt_of_le z h49)), if_neg (fun z => Int32.lt_irrefl (Int32.lt_of_lt_of_le z h74))] at hR
              exact ih f (by omega) (k + 1) _ (by omega) (by omega) hR
            · refine go_aload_n hF d_Wa_byteOfText_77 rfl ?_
              refine go_iload_n hF d_Wa_byteOfText_78 rfl ?_
              refine go_iload_n hF d_Wa_byteOfText_79 rfl ?_
              refine go_callVX hF hE hlo d_Wa_byteOfText_80 (con_Wa_lineByte hlt ho (show _ < 600 by omega) (hv _ hp2) _) mt_Wa_lineByte mv_Wa_lineByte lk_Wa_39 ⟨rfl, rfl, by decide, by decide⟩ rfl (Nat.le_of_ble_eq_true rfl) ⟨by decide, by decide⟩ (fun H hG => gw_recv (q := (R_Wa, T_Wa, 4)) hK hG ho rfl rfl (by decide) rfl) (fun M => gx_no) rfl (fun v => ?_)
              refine go_and (fun hv => ?_)
              subst hv
              exact go_iret hF hM d_Wa_byteOfText_83 (by decide) (by decide) (fun H hG => ⟨by rw [if_pos (show hd1 w ι k from Or.inl (by have := (nI_eq (a := k) (b := 0) (by omega) (by omega)).mp h13; exact this)), if_neg (fun z => Int32.lt_irrefl (Int32.lt_of_lt_of_le z h49)), if_pos (nle_lt h74)] at hR; rw [← hR], hG⟩)
          · refine go_aload_n hF d_Wa_byteOfText_52 rfl ?_
            refine gs_getr hF hK d_Wa_byteOfText_53 fl_Wa_9 ho rfl rfl (by decide) rfl ?_
            refine go_iload_n hF d_Wa_byteOfText_56 rfl ?_
            refine gs_iald hF hK hT d_Wa_byteOfText_57 ho rfl rfl rfl (by omega) (by decide) ?_
            refine go_iload hF d_Wa_byteOfText_58 rfl ?_
            refine go_iload_n hF d_Wa_byteOfText_60 rfl ?_
            refine go_callSX hF hE hlo d_Wa_byteOfText_61 (con_Wa_headByte hlt _ _) mt_Wa_headByte ms_Wa_headByte lk_Wa_35 ⟨rfl, rfl, by decide, by decide⟩ rfl (Nat.le_of_ble_eq_true rfl) ⟨by decide, by decide⟩ (fun M => gx_no) rfl (fun v => ?_)
            refine go_and (fun hv => ?_)
            subst hv
            exact go_iret hF hM d_Wa_byteOfText_64 (by decide) (by decide) (fun H hG => ⟨by rw [if_pos (show hd1 w ι k from Or.inl (by have := (nI_eq (a := k) (b := 0) (by omega) (by omega)).mp h13; exact this)), if_pos (nle_lt h49)] at hR; rw [← hR], hG⟩)
        · have hk0 : k ≠ 0 := fun z => h13 (by rw [z]; rfl)
          refine go_aload_n hF d_Wa_byteOfText_16 rfl ?_
          refine gs_getr hF hK d_Wa_byteOfText_17 fl_Wa_9 ho rfl rfl (by decide) rfl ?_
          refine go_iload_n hF d_Wa_byteOfText_20 rfl ?_
          refine gs_iald hF hK hT d_Wa_byteOfText_21 ho rfl rfl rfl (by omega) (by decide) ?_
          refine go_aload_n hF d_Wa_byteOfText_22 rfl ?_
          refine gs_getr hF hK d_Wa_byteOfText_23 fl_Wa_9 ho rfl rfl (by decide) rfl ?_
          refine go_iload_n hF d_Wa_byteOfText_26 rfl ?_
          refine go_iconst (v := 1) hF d_Wa_byteOfText_27 (by decide) ?_
          refine go_isub hF d_Wa_byteOfText_28 ?_
          refine gs_iald hF hK hT d_Wa_byteOfText_29 ho rfl rfl (nI_pr hk0) (by omega) (by decide) ?_
          refine go_icmp_eq (tgt := 72) hF d_Wa_byteOfText_30 (by decide) (fun h30 => ?_) (fun h30 => ?_)
          · refine go_iload_n hF d_Wa_byteOfText_72 rfl ?_
            refine go_iconst (v := 3) hF d_Wa_byteOfText_73 (by decide) ?_
            refine go_icmp_ge (tgt := 84) hF d_Wa_byteOfText_74 (by decide) (fun h74 => ?_) (fun h74 => ?_)
            · refine go_iinc hF d_Wa_byteOfText_84 rfl rfl (by decide) ?_
              refine go_lv (lv' := [(0, _), (1, _), (2, _), (3, _)]) ⟨rfl, rfl, rfl, rfl, trivial⟩ ?_
              refine go_iincN hF d_Wa_byteOfText_87 rfl (by decide) ?_
              refine go_lv (lv' := [(0, _), (1, _), (2, _), (3, _)]) ⟨rfl, rfl, rfl, rfl, trivial⟩ ?_
              refine go_goto (tgt := 4) hF d_Wa_byteOfText_90 (by decide) ?_
              refine go_lv (lv' := [(0, _), (1, _), (2, _), (3, _)]) ⟨rfl, rfl, rfl, rfl, trivial⟩ ?_
              rw [if_neg (show ¬ hd1 w ι k from fun z => z.elim (fun z => h13 (by rw [z]; rfl)) (fun z => z h30)), if_neg (fun z => Int32.lt_irrefl (Int32.lt_of_lt_of_le z h74))] at hR
              exact ih f (by omega) (k + 1) _ (by omega) (by omega) hR
            · refine go_aload_n hF d_Wa_byteOfText_77 rfl ?_
              refine go_iload_n hF d_Wa_byteOfText_78 rfl ?_
              refine go_iload_n hF d_Wa_byteOfText_79 rfl ?_
              refine go_callVX hF hE hlo d_Wa_byteOfText_80 (con_Wa_lineByte hlt ho (show _ < 600 by omega) (hv _ hp2) _) mt_Wa_lineByte mv_Wa_lineByte lk_Wa_39 ⟨rfl, rfl, by decide, by decide⟩ rfl (Nat.le_of_ble_eq_true rfl) ⟨by decide, by decide⟩ (fun H hG => gw_recv (q := (R_Wa, T_Wa, 4)) hK hG ho rfl rfl (by decide) rfl) (fun M => gx_no) rfl (fun v => ?_)
              refine go_and (fun hv => ?_)
              subst hv
              exact go_iret hF hM d_Wa_byteOfText_83 (by decide) (by decide) (fun H hG => ⟨by rw [if_neg (show ¬ hd1 w ι k from fun z => z.elim (fun z => h13 (by rw [z]; rfl)) (fun z => z h30)), if_pos (nle_lt h74)] at hR; rw [← hR], hG⟩)
          · refine go_aload_n hF d_Wa_byteOfText_33 rfl ?_
            refine gs_getr hF hK d_Wa_byteOfText_34 fl_Wa_9 ho rfl rfl (by decide) rfl ?_
            refine go_iload_n hF d_Wa_byteOfText_37 rfl ?_
            refine gs_iald hF hK hT d_Wa_byteOfText_38 ho rfl rfl rfl (by omega) (by decide) ?_
            refine go_callSX hF hE hlo d_Wa_byteOfText_39 (con_Wa_digitsOf hlt _) mt_Wa_digitsOf ms_Wa_digitsOf lk_Wa_31 ⟨rfl, rfl, by decide, by decide⟩ rfl (Nat.le_of_ble_eq_true rfl) ⟨by decide, by decide⟩ (fun M => gx_no) rfl (fun v => ?_)
            refine go_and (fun hv => ?_)
            subst hv
            refine go_istore hF d_Wa_byteOfText_42 (by decide) ?_
            refine go_lv (lv' := [(0, _), (1, _), (2, _), (3, _), (4, _)]) ⟨rfl, rfl, rfl, rfl, rfl, trivial⟩ ?_
            refine go_iload_n hF d_Wa_byteOfText_44 rfl ?_
            refine go_iload hF d_Wa_byteOfText_45 rfl ?_
            refine go_iconst (v := 2) hF d_Wa_byteOfText_47 (by decide) ?_
            refine go_iadd hF d_Wa_byteOfText_48 ?_
            refine go_icmp_ge (tgt := 65) hF d_Wa_byteOfText_49 (by decide) (fun h49 => ?_) (fun h49 => ?_)
            · refine go_iload_n hF d_Wa_byteOfText_65 rfl ?_
              refine go_iload hF d_Wa_byteOfText_66 rfl ?_
              refine go_iconst (v := 2) hF d_Wa_byteOfText_68 (by decide) ?_
              refine go_iadd hF d_Wa_byteOfText_69 ?_
              refine go_isub hF d_Wa_byteOfText_70 ?_
              refine go_istore_n hF d_Wa_byteOfText_71 (by decide) ?_
              refine go_lv (lv' := [(0, _), (1, _), (2, _), (3, _), (4, _)]) ⟨rfl, rfl, rfl, rfl, rfl, trivial⟩ ?_
              refine go_iload_n hF d_Wa_byteOfText_72 rfl ?_
              refine go_iconst (v := 3) hF d_Wa_byteOfText_73 (by decide) ?_
              refine go_icmp_ge (tgt := 84) hF d_Wa_byteOfText_74 (by decide) (fun h74 => ?_) (fun h74 => ?_)
              · refine go_iinc hF d_Wa_byteOfText_84 rfl rfl (by decide) ?_
                refine go_lv (lv' := [(0, _), (1, _), (2, _), (3, _), (4, _)]) ⟨rfl, rfl, rfl, rfl, rfl, trivial⟩ ?_
                refine go_iincN hF d_Wa_byteOfText_87 rfl (by decide) ?_
                refine go_lv (lv' := [(0, _), (1, _), (2, _), (3, _), (4, _)]) ⟨rfl, rfl, rfl, rfl, rfl, trivial⟩ ?_
                refine go_goto (tgt := 4) hF d_Wa_byteOfText_90 (by decide) ?_
                refine go_lv (lv' := [(0, _), (1, _), (2, _), (3, _)]) ⟨rfl, rfl, rfl, rfl, trivial⟩ ?_
                rw [if_pos (show hd1 w ι k from Or.inr h30), if_neg (fun z => Int32.lt_irrefl (Int32.lt_of_lt_of_le z h49)), if_neg (fun z => Int32.lt_irrefl (Int32.lt_of_lt_of_le z h74))] at hR
                exact ih f (by omega) (k + 1) _ (by omega) (by omega) hR
              · refine go_aload_n hF d_Wa_byteOfText_77 rfl ?_
                refine go_iload_n hF d_Wa_byteOfText_78 rfl ?_
                refine go_iload_n hF d_Wa_byteOfText_79 rfl ?_
                refine go_callVX hF hE hlo d_Wa_byteOfText_80 (con_Wa_lineByte hlt ho (show _ < 600 by omega) (hv _ hp2) _) mt_Wa_lineByte mv_Wa_lineByte lk_Wa_39 ⟨rfl, rfl, by decide, by decide⟩ rfl (Nat.le_of_ble_eq_true rfl) ⟨by decide, by decide⟩ (fun H hG => gw_recv (q := (R_Wa, T_Wa, 4)) hK hG ho rfl rfl (by decide) rfl) (fun M => gx_no) rfl (fun v => ?_)
                refine go_and (fun hv => ?_)
                subst hv
                exact go_iret hF hM d_Wa_byteOfText_83 (by decide) (by decide) (fun H hG => ⟨by rw [if_pos (show hd1 w ι k from Or.inr h30), if_neg (fun z => Int32.lt_irrefl (Int32.lt_of_lt_of_le z h49)), if_pos (nle_lt h74)] at hR; rw [← hR], hG⟩)
            · refine go_aload_n hF d_Wa_byteOfText_52 rfl ?_
              refine gs_getr hF hK d_Wa_byteOfText_53 fl_Wa_9 ho rfl rfl (by decide) rfl ?_
              refine go_iload_n hF d_Wa_byteOfText_56 rfl ?_
              refine gs_iald hF hK hT d_Wa_byteOfText_57 ho rfl rfl rfl (by omega) (by decide) ?_
              refine go_iload hF d_Wa_byteOfText_58 rfl ?_
              refine go_iload_n hF d_Wa_byteOfText_60 rfl ?_
              refine go_callSX hF hE hlo d_Wa_byteOfText_61 (con_Wa_headByte hlt _ _) mt_Wa_headByte ms_Wa_headByte lk_Wa_35 ⟨rfl, rfl, by decide, by decide⟩ rfl (Nat.le_of_ble_eq_true rfl) ⟨by decide, by decide⟩ (fun M => gx_no) rfl (fun v => ?_)
              refine go_and (fun hv => ?_)
              subst hv
              exact go_iret hF hM d_Wa_byteOfText_64 (by decide) (by decide) (fun H hG => ⟨by rw [if_pos (show hd1 w ι k from Or.inr h30), if_pos (nle_lt h49)] at hR; rw [← hR], hG⟩)
  refine go_iload_n hF d_Wa_byteOfText_0 rfl ?_
  refine go_istore_n hF d_Wa_byteOfText_1 (by decide) ?_
  refine go_lv (lv' := [(0, _), (1, _), (2, _)]) ⟨rfl, rfl, rfl, trivial⟩ ?_
  refine go_iconst (v := 0) hF d_Wa_byteOfText_2 (by decide) ?_
  refine go_istore_n hF d_Wa_byteOfText_3 (by decide) ?_
  refine go_lv (lv' := [(0, _), (1, _), (2, _), (3, _)]) ⟨rfl, rfl, rfl, rfl, trivial⟩ ?_
  exact L4 c 0 x (by omega) (Nat.zero_le _) rfl
