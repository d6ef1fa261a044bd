/-- w' differs from w at most in what gates of block ι wait for -/
def qk (w w' : wdT) (ι : Nat) : Prop :=
  (∀ κ ι' r k i, ¬ (κ = 0 ∧ ι' = ι ∧ r = 14 ∧ (k = 7 ∨ k = 9)) → wI w' κ ι' r k i = wI w κ ι' r k i) ∧ (∀ κ ι' r k i, ¬ (κ = 0 ∧ ι' = ι ∧ r = 14 ∧ (k = 8 ∨ k = 10)) → wL w' κ ι' r k i = wL w κ ι' r k i) ∧ wP w' = wP w
theorem qk_rf (w : wdT) (ι : Nat) : qk w w ι := ⟨fun _ _ _ _ _ _ => rfl, fun _ _ _ _ _ _ => rfl, rfl⟩
theorem qk_tr {w u v : wdT} {ι : Nat} (h : qk w u ι) (h' : qk u v ι) : qk w v ι := ⟨fun κ ι' r k i q => (h'.1 κ ι' r k i q).trans (h.1 κ ι' r k i q), fun κ ι' r k i q => (h'.2.1 κ ι' r k i q).trans (h.2.1 κ ι' r k i q), h'.2.2.trans h.2.2⟩
theorem qk_I (w : wdT) (ι k g : Nat) (x : Int32) (hk : k = 7 ∨ k = 9) : qk w (sI w 0 ι 14 k g x) ι := ⟨fun κ ι' r k' i q => up5_ne _ _ (fun z => q ⟨z.1, z.2.1, z.2.2.1, by rw [z.2.2.2.1]; exact hk⟩), fun _ _ _ _ _ _ => rfl, rfl⟩
theorem qk_L (w : wdT) (ι k g : Nat) (x : Int64) (hk : k = 8 ∨ k = 10) : qk w (sL w 0 ι 14 k g x) ι := ⟨fun _ _ _ _ _ _ => rfl, fun κ ι' r k' i q => up5_ne _ _ (fun z => q ⟨z.1, z.2.1, z.2.2.1, by rw [z.2.2.2.1]; exact hk⟩), rfl⟩
theorem qk_ask (w : wdT) (ι g : Nat) (v : Int32) (t : Int64) (rl : Int32) : qk w (askW w ι g v t rl) ι := by
  unfold askW
  split
  · exact qk_I _ _ _ _ _ (by decide)
  · split
    · exact qk_tr (qk_tr (qk_I _ _ _ _ _ (by decide)) (qk_I _ _ _ _ _ (by decide))) (qk_L _ _ _ _ _ (by decide))
    · exact qk_tr (qk_tr (qk_I _ _ _ _ _ (by decide)) (qk_L _ _ _ _ _ (by decide))) (qk_I _ _ _ _ _ (by decide))
/-- the registers of check c, of the first g gates, are asked as if they gave UNKNOWN -/
def blW (w : wdT) (ι c : Nat) : Nat → wdT
  | 0 => w
  | g + 1 => if wI (blW w ι c g) 0 ι 14 0 g = 7 ∧ wI (blW w ι c g) 0 ι 14 2 g = wI (blW w ι c g) 0 ι 15 1 c ∧ wI (blW w ι c g) 0 ι 14 1 g = wI (blW w ι c g) 0 ι 15 2 c then askW (blW w ι c g) ι g 2 (wL (blW w ι c g) 0 ι 0 0 0) (wI (blW w ι c g) 0 ι 0 1 0) else blW w ι c g
theorem blW_s (w : wdT) (ι c g : Nat) : blW w ι c (g + 1) = if wI (blW w ι c g) 0 ι 14 0 g = 7 ∧ wI (blW w ι c g) 0 ι 14 2 g = wI (blW w ι c g) 0 ι 15 1 c ∧ wI (blW w ι c g) 0 ι 14 1 g = wI (blW w ι c g) 0 ι 15 2 c then askW (blW w ι c g) ι g 2 (wL (blW w ι c g) 0 ι 0 0 0) (wI (blW w ι c g) 0 ι 0 1 0) else blW w ι c g := rfl
theorem qk_bl (w : wdT) (ι c : Nat) : ∀ g, qk w (blW w ι c g) ι
  | 0 => qk_rf w ι
  | g + 1 => by
    rw [blW_s]
    split
    · exact qk_tr (qk_bl w ι c g) (qk_ask _ _ _ _ _ _)
    · exact qk_bl w ι c g
set_option maxHeartbeats 4000000 in
set_option maxRecDepth 100000 in
theorem con_Ci_blurRegisters {l : Launch} (hlt : l.stackTraces = false) {E : gE} {B : bsT} {N : nwT} {w : wdT} {ι ng c : Nat} (ho : N.1 0 ι = true) (h1 : c < 20) (hng : wI w 0 ι 0 4 0 = nI ng) (hgn : ng ≤ 32) : Con l E y_Ci_blurRegisters (Cond.code y_Ci_blurRegisters c_Ci_blurRegisters 4 none :: gAll) rm_Ci_blurRegisters [.ref (ad B 0 ι 0 0), .ref (ad B 0 ι 15 c)] (gw E B N w) (fun v H => v = none ∧ gw E B N (blW w ι c ng) H) (fun _ _ => False) 0 0 := by
  refine con_of (by decide) hlt (Nat.le_of_ble_eq_true rfl) ?_
  intro F hF hM htab hnm hE hlo hl
  subst hl
  have hF : Fb F c_Ci_blurRegisters R_Ci 4 rm_Ci_blurRegisters := hF
  have hK := hE.1
  have hT := hE.2.1
  refine go_lv (lv' := [(0, _), (1, _)]) ⟨rfl, rfl, trivial⟩ ?_
  have L2 : ∀ m p : Nat, ng - p = m → p ≤ ng → Go F 2 [(0, .ref (ad B 0 ι 0 0)), (1, .ref (ad B 0 ι 15 c)), (2, .int (nI p))] [] (gw E B N (blW w ι c p)) 0 0 := by
    intro m
    induction m using Nat.strongRecOn with
    | _ m ih =>
      intro p hm hp
      have hcc : wI (blW w ι c p) 0 ι 0 4 0 = nI ng := ((qk_bl w ι c p).1 0 ι 0 4 0 (by simp)).trans hng
      refine go_iload_n hF d_Ci_blurRegisters_2 rfl ?_
      refine go_aload_n hF d_Ci_blurRegisters_3 rfl ?_
      refine gs_geti hF hK d_Ci_blurRegisters_4 fl_Ci_57 ho rfl rfl (by decide) rfl ?_
      refine go_icmp_ge (tgt := 67) hF d_Ci_blurRegisters_7 (by decide) (fun h7 => ?_) (fun h7 => ?_)
      · exact go_vret hF hM d_Ci_blurRegisters_67 (by decide) (by decide) (fun H hG => ⟨rfl, by rw [hcc] at h7; have q := (nI_leI (a := ng) (b := p) (by omega) (by omega)).mp h7; have e : p = ng := (by omega); subst e; exact hG⟩)
      · have hp2 : p < ng := by
          rw [hcc] at h7
          have q : ¬ ng ≤ p := fun z => h7 ((nI_leI (a := ng) (b := p) (by omega) (by omega)).mpr z)
          omega
        refine go_aload_n hF d_Ci_blurRegisters_10 rfl ?_
        refine gs_getr hF hK d_Ci_blurRegisters_11 fl_Ci_23 ho rfl rfl (by decide) rfl ?_
        refine go_iload_n hF d_Ci_blurRegisters_14 rfl ?_
        refine gs_aald hF hK hT d_Ci_blurRegisters_15 ho rfl rfl rfl (by omega) (by decide) ?_
        refine go_astore_n hF d_Ci_blurRegisters_16 (by decide) ?_
        refine go_lv (lv' := [(0, _), (1, _), (2, _), (3, _)]) ⟨rfl, rfl, rfl, rfl, trivial⟩ ?_
        refine go_aload_n hF d_Ci_blurRegisters_17 rfl ?_
        refine gs_geti hF hK d_Ci_blurRegisters_18 fl_Ci_100 ho rfl rfl (show _ < 32 from (by omega)) rfl ?_
        refine go_bipush (v := 7) hF d_Ci_blurRegisters_21 (by decide) ?_
        refine go_icmp_ne (tgt := 61) hF d_Ci_blurRegisters_23 (by decide) (fun h23 => ?_) (fun h23 => ?_)
        · refine go_iincN hF d_Ci_blurRegisters_61 rfl (by decide) ?_
          refine go_lv (lv' := [(0, _), (1, _), (2, _), (3, _)]) ⟨rfl, rfl, rfl, rfl, trivial⟩ ?_
          refine go_goto (tgt := 2) hF d_Ci_blurRegisters_64 (by decide) ?_
          refine go_lv (lv' := [(0, _), (1, _), (2, _)]) ⟨rfl, rfl, rfl, trivial⟩ ?_
          exact go_G (fun H hG => by rw [blW_s, if_neg (by simp [h7, h23])]; exact hG) (ih _ (by omega) (p + 1) rfl (by omega))
        · refine go_aload_n hF d_Ci_blurRegisters_26 rfl ?_
          refine gs_geti hF hK d_Ci_blurRegisters_27 fl_Ci_193 ho rfl rfl (show _ < 32 from (by omega)) rfl ?_
          refine go_aload_n hF d_Ci_blurRegisters_30 rfl ?_
          refine gs_geti hF hK d_Ci_blurRegisters_31 fl_Ci_210 ho rfl rfl h1 rfl ?_
          refine go_icmp_ne (tgt := 61) hF d_Ci_blurRegisters_34 (by decide) (fun h34 => ?_) (fun h34 => ?_)
          · refine go_iincN hF d_Ci_blurRegisters_61 rfl (by decide) ?_
            refine go_lv (lv' := [(0, _), (1, _), (2, _), (3, _)]) ⟨rfl, rfl, rfl, rfl, trivial⟩ ?_
            refine go_goto (tgt := 2) hF d_Ci_blurRegisters_64 (by decide) ?_
            refine go_lv (lv' := [(0, _), (1, _), (2, _)]) ⟨rfl, rfl, rfl, trivial⟩ ?_
            exact go_G (fun H hG => by rw [blW_s, if_neg (by simp [h7, h23, h34])]; exact hG) (ih _ (by omega) (p + 1) rfl (by omega))
          · refine go_aload_n hF d_Ci_blurRegisters_37 rfl ?_
            refine gs_geti hF hK d_Ci_blurRegisters_38 fl_Ci_190 ho rfl rfl (show _ < 32 from (by omega)) rfl ?_
            refine go_aload_n hF d_Ci_blurRegisters_41 rfl ?_
            refine gs_geti hF hK d_Ci_blurRegisters_42 fl_Ci_213 ho rfl rfl h1 rfl ?_
            refine go_icmp_ne (tgt := 61) hF d_Ci_blurRegisters_45 (by decide) (fun h45 => ?_) (fun h45 => ?_)
            · refine go_iincN hF d_Ci_blurRegisters_61 rfl (by decide) ?_
              refine go_lv (lv' := [(0, _), (1, _), (2, _), (3, _)]) ⟨rfl, rfl, rfl, rfl, trivial⟩ ?_
              refine go_goto (tgt := 2) hF d_Ci_blurRegisters_64 (by decide) ?_
              refine go_lv (lv' := [(0, _), (1, _), (2, _)]) ⟨rfl, rfl, rfl, trivial⟩ ?_
              exact go_G (fun H hG => by rw [blW_s, if_neg (by simp [h7, h23, h34, h45])]; exact hG) (ih _ (by omega) (p + 1) rfl (by omega))
            · refine go_aload_n hF d_Ci_blurRegisters_48 rfl ?_
              refine go_iconst (v := 2) hF d_Ci_blurRegisters_49 (by decide) ?_
              refine go_aload_n hF d_Ci_blurRegisters_50 rfl ?_
              refine gs_getl hF hK d_Ci_blurRegisters_51 fl_Ci_50 ho rfl rfl (by decide) rfl ?_
              refine go_aload_n hF d_Ci_blurRegisters_54 rfl ?_
              refine gs_geti hF hK d_Ci_blurRegisters_55 fl_Ci_9 ho rfl rfl (by decide) rfl ?_
              refine go_callVX hF hE hlo d_Ci_blurRegisters_58 (con_Ga_ask hlt ho (show p < 32 by omega) _ _ _) mt_Ga_ask mv_Ga_ask lk_Ci_95 ⟨rfl, rfl, by decide, by decide⟩ rfl (Nat.le_of_ble_eq_true rfl) ⟨by decide, by decide⟩ (fun H hG => gw_recv (q := (R_Ga, T_Ga, 11)) hK hG ho rfl rfl (show _ < 32 from (by omega)) rfl) (fun M => gx_no) rfl (fun v => ?_)
              refine go_and (fun hv => ?_)
              subst hv
              refine go_iincN hF d_Ci_blurRegisters_61 rfl (by decide) ?_
              refine go_lv (lv' := [(0, _), (1, _), (2, _), (3, _)]) ⟨rfl, rfl, rfl, rfl, trivial⟩ ?_
              refine go_goto (tgt := 2) hF d_Ci_blurRegisters_64 (by decide) ?_
              refine go_lv (lv' := [(0, _), (1, _), (2, _)]) ⟨rfl, rfl, rfl, trivial⟩ ?_
              exact go_G (fun H hG => by rw [blW_s, if_pos ⟨h23, h34, h45⟩]; exact hG) (ih _ (by omega) (p + 1) rfl (by omega))
  refine go_iconst (v := 0) hF d_Ci_blurRegisters_0 (by decide) ?_
  refine go_istore_n hF d_Ci_blurRegisters_1 (by decide) ?_
  refine go_lv (lv' := [(0, _), (1, _), (2, _)]) ⟨rfl, rfl, rfl, trivial⟩ ?_
  exact L2 _ 0 rfl (Nat.zero_le _)
def wth (x t : Int64) (lm : Int32) : Prop := ¬ x = -1 ∧ t - x < lm.toInt64
def brk (w : wdT) (ι c : Nat) (n r : Int32) : Prop :=
  (wI w 0 ι 15 0 c = 0 ∧ wI w 0 ι 15 1 c = n ∧ ¬ r = 0 ∧ wth (wL w 0 ι 13 4 (wI w 0 ι 15 2 c).toNatClampNeg) (wL w 0 ι 0 0 0) (wI w 0 ι 15 3 c)) ∨
  (¬ wI w 0 ι 15 0 c = 0 ∧ wI w 0 ι 15 2 c = n ∧ wth (wL w 0 ι 13 5 (wI w 0 ι 15 1 c).toNatClampNeg) (wL w 0 ι 0 0 0) (wI w 0 ι 15 3 c))
theorem bi_0 {p : Prop} {d : Decidable p} (h : bi p = 0) : ¬ p := fun z => by unfold bi at h; rw [if_pos z] at h; exact absurd h (by decide)
theorem bi_1 {p : Prop} {d : Decidable p} (h : ¬ bi p = 0) : p := Decidable.byContradiction (fun z => h (by unfold bi; rw [if_neg z]))
theorem biC_0 {p : Prop} (h : biC p = 0) : ¬ p := fun z => by rw [biC_t z] at h; exact absurd h (by decide)
theorem biC_1 {p : Prop} (h : ¬ biC p = 0) : p := Classical.byContradiction (fun z => h (biC_f z))
set_option maxHeartbeats 4000000 in
set_option maxRecDepth 100000 in
theorem con_Ci_breaks {l : Launch} (hlt : l.stackTraces = false) {E : gE} {B : bsT} {N : nwT} {w : wdT} {ι c : Nat} (ho : N.1 0 ι = true) (h1 : c < 20) (hck : vn (wI w 0 ι 15 1 c) 24) (hdt : vn (wI w 0 ι 15 2 c) 24) (n r : Int32) : Con l E y_Ci_breaks (Cond.code y_Ci_breaks c_Ci_breaks 4 (some .boolean) :: gAll) rm_Ci_breaks [.ref (ad B 0 ι 0 0), .ref (ad B 0 ι 15 c), .int n, .int r] (gw E B N w) (fun v H => v = some (.int (biC (brk w ι c n r))) ∧ gw E B N w H) (fun _ _ => False) 0 0 := by
  refine con_of (by decide) hlt (Nat.le_of_ble_eq_true rfl) ?_
  intro F hF hM htab hnm hE hlo hl
  subst hl
  have hF : Fb F c_Ci_breaks R_Ci 4 rm_Ci_breaks := hF
  have hK := hE.1
  have hT := hE.2.1
  refine go_lv (lv' := [(0, _), (1, _), (2, _), (3, _)]) ⟨rfl, rfl, rfl, rfl, trivial⟩ ?_
  refine go_aload_n hF d_Ci_breaks_0 rfl ?_
  refine gs_geti hF hK d_Ci_breaks_1 fl_Ci_209 ho rfl rfl h1 rfl ?_
  refine go_if_ne (tgt := 48) hF d_Ci_breaks_4 (by decide) (fun h4 => ?_) (fun h4 => ?_)
  · refine go_aload_n hF d_Ci_breaks_48 rfl ?_
    refine gs_geti hF hK d_Ci_breaks_49 fl_Ci_213 ho rfl rfl h1 rfl ?_
    refine go_iload_n hF d_Ci_breaks_52 rfl ?_
    refine go_icmp_ne (tgt := 83) hF d_Ci_breaks_53 (by decide) (fun h53 => ?_) (fun h53 => ?_)
    · refine go_iconst (v := 0) hF d_Ci_breaks_83 (by decide) ?_
      exact go_zret hF hM d_Ci_breaks_84 rfl (by decide) (by decide) (fun H hG => ⟨by rw [biC_f (show ¬ brk w ι c n r from fun z => z.elim (fun q => h4 q.1) (fun q => h53 q.2.1))], hG⟩)
    · refine go_aload_n hF d_Ci_breaks_56 rfl ?_
      refine go_aload_n hF d_Ci_breaks_57 rfl ?_
      refine gs_getr hF hK d_Ci_breaks_58 fl_Ci_17 ho rfl rfl (by decide) rfl ?_
      refine go_aload_n hF d_Ci_breaks_61 rfl ?_
      refine gs_geti hF hK d_Ci_breaks_62 fl_Ci_210 ho rfl rfl h1 rfl ?_
      refine gs_aald hF hK hT d_Ci_breaks_65 ho rfl rfl hck.1 hck.2 (by decide) ?_
      refine gs_getl hF hK d_Ci_breaks_66 fl_Ci_187 ho rfl rfl hck.2 rfl ?_
      refine go_aload_n hF d_Ci_breaks_69 rfl ?_
      refine gs_getl hF hK d_Ci_breaks_70 fl_Ci_50 ho rfl rfl (by decide) rfl ?_
      refine go_callVX hF hE hlo d_Ci_breaks_73 (con_Ch_isWithin hlt ho h1 _ _) mt_Ch_isWithin mv_Ch_isWithin lk_Ci_216 ⟨rfl, rfl, by decide, by decide⟩ rfl (Nat.le_of_ble_eq_true rfl) ⟨by decide, by decide⟩ (fun H hG => gw_recv (q := (R_Ch, T_Ch, 5)) hK hG ho rfl rfl h1 rfl) (fun M => gx_no) rfl (fun v => ?_)
      refine go_and (fun hv => ?_)
      subst hv
      refine go_if_eq (tgt := 83) hF d_Ci_breaks_76 (by decide) (fun h76 => ?_) (fun h76 => ?_)
      · refine go_iconst (v := 0) hF d_Ci_breaks_83 (by decide) ?_
        exact go_zret hF hM d_Ci_breaks_84 rfl (by decide) (by decide) (fun H hG => ⟨by rw [biC_f (show ¬ brk w ι c n r from fun z => z.elim (fun q => h4 q.1) (fun q => bi_0 h76 q.2.2))], hG⟩)
      · refine go_iconst (v := 1) hF d_Ci_breaks_79 (by decide) ?_
        refine go_goto (tgt := 84) hF d_Ci_breaks_80 (by decide) ?_
        exact go_zret hF hM d_Ci_breaks_84 rfl (by decide) (by decide) (fun H hG => ⟨by rw [biC_t (show brk w ι c n r from Or.inr ⟨h4, h53, bi_1 h76⟩)], hG⟩)
  · refine go_aload_n hF d_Ci_breaks_7 rfl ?_
    refine gs_geti hF hK d_Ci_breaks_8 fl_Ci_210 ho rfl rfl h1 rfl ?_
    refine go_iload_n hF d_Ci_breaks_11 rfl ?_
    refine go_icmp_ne (tgt := 46) hF d_Ci_breaks_12 (by decide) (fun h12 => ?_) (fun h12 => ?_)
    · refine go_iconst (v := 0) hF d_Ci_breaks_46 (by decide) ?_
      exact go_zret hF hM d_Ci_breaks_47 rfl (by decide) (by decide) (fun H hG => ⟨by rw [biC_f (show ¬ brk w ι c n r from fun z => z.elim (fun q => h12 q.2.1) (fun q => q.1 h4))], hG⟩)
    · refine go_iload_n hF d_Ci_breaks_15 rfl ?_
      refine go_if_eq (tgt := 46) hF d_Ci_breaks_16 (by decide) (fun h16 => ?_) (fun h16 => ?_)
      · refine go_iconst (v := 0) hF d_Ci_breaks_46 (by decide) ?_
        exact go_zret hF hM d_Ci_breaks_47 rfl (by decide) (by decide) (fun H hG => ⟨by rw [biC_f (show ¬ brk w ι c n r from fun z => z.elim (fun q => q.2.2.1 h16) (fun q => q.1 h4))], hG⟩)
      · refine go_aload_n hF d_Ci_breaks_19 rfl ?_
        refine go_aload_n hF d_Ci_breaks_20 rfl ?_
        refine gs_getr hF hK d_Ci_breaks_21 fl_Ci_17 ho rfl rfl (by decide) rfl ?_
        refine go_aload_n hF d_Ci_breaks_24 rfl ?_
        refine gs_geti hF hK d_Ci_breaks_25 fl_Ci_213 ho rfl rfl h1 rfl ?_
        refine gs_aald hF hK hT d_Ci_breaks_28 ho rfl rfl hdt.1 hdt.2 (by decide) ?_
        refine gs_getl hF hK d_Ci_breaks_29 fl_Ci_184 ho rfl rfl hdt.2 rfl ?_
        refine go_aload_n hF d_Ci_breaks_32 rfl ?_
        refine gs_getl hF hK d_Ci_breaks_33 fl_Ci_50 ho rfl rfl (by decide) rfl ?_
        refine go_callVX hF hE hlo d_Ci_breaks_36 (con_Ch_isWithin hlt ho h1 _ _) mt_Ch_isWithin mv_Ch_isWithin lk_Ci_216 ⟨rfl, rfl, by decide, by decide⟩ rfl (Nat.le_of_ble_eq_true rfl) ⟨by decide, by decide⟩ (fun H hG => gw_recv (q := (R_Ch, T_Ch, 5)) hK hG ho rfl rfl h1 rfl) (fun M => gx_no) rfl (fun v => ?_)
        refine go_and (fun hv => ?_)
        subst hv
        refine go_if_eq (tgt := 46) hF d_Ci_breaks_39 (by decide) (fun h39 => ?_) (fun h39 => ?_)
        · refine go_iconst (v := 0) hF d_Ci_breaks_46 (by decide) ?_
          exact go_zret hF hM d_Ci_breaks_47 rfl (by decide) (by decide) (fun H hG => ⟨by rw [biC_f (show ¬ brk w ι c n r from fun z => z.elim (fun q => bi_0 h39 q.2.2.2) (fun q => q.1 h4))], hG⟩)
        · refine go_iconst (v := 1) hF d_Ci_breaks_42 (by decide) ?_
          refine go_goto (tgt := 47) hF d_Ci_breaks_43 (by decide) ?_
          exact go_zret hF hM d_Ci_breaks_47 rfl (by decide) (by decide) (fun H hG => ⟨by rw [biC_t (show brk w ι c n r from Or.inl ⟨h4, h12, h16, bi_1 h39⟩)], hG⟩)
/-- the first c checks are tried -/
noncomputable def tcW (w : wdT) (ι ng : Nat) (n r : Int32) : Nat → wdT
  | 0 => w
  | c + 1 => @ite _ (brk (tcW w ι ng n r c) ι c n r) (Classical.propDecidable _) (blW (sI (tcW w ι ng n r c) 0 ι 15 4 c (wI (tcW w ι ng n r c) 0 ι 15 4 c + 1)) ι c ng) (tcW w ι ng n r c)
theorem tcW_t {w : wdT} {ι ng c : Nat} {n r : Int32} (h : brk (tcW w ι ng n r c) ι c n r) : tcW w ι ng n r (c + 1) = blW (sI (tcW w ι ng n r c) 0 ι 15 4 c (wI (tcW w ι ng n r c) 0 ι 15 4 c + 1)) ι c ng := by
  conv => lhs; unfold tcW
  exact if_pos h
theorem tcW_f {w : wdT} {ι ng c : Nat} {n r : Int32} (h : ¬ brk (tcW w ι ng n r c) ι c n r) : tcW w ι ng n r (c + 1) = tcW w ι ng n r c := by
  conv => lhs; unfold tcW
  exact if_neg h
/-- w' differs from w at most in what gates of block ι wait for, and in how often checks were broken -/
def qc (w w' : wdT) (ι : Nat) : Prop :=
  (∀ κ ι' r k i, ¬ (κ = 0 ∧ ι' = ι ∧ (r = 14 ∧ (k = 7 ∨ k = 9) ∨ r = 15 ∧ k = 4)) → wI w' κ ι' r k i = wI w κ ι' r k i) ∧ (∀ κ ι' r k i, ¬ (κ = 0 ∧ ι' = ι ∧ r = 14 ∧ (k = 8 ∨ k = 10)) → wL w' κ ι' r k i = wL w κ ι' r k i) ∧ wP w' = wP w
theorem qc_rf (w : wdT) (ι : Nat) : qc w w ι := ⟨fun _ _ _ _ _ _ => rfl, fun _ _ _ _ _ _ => rfl, rfl⟩
theorem qc_tr {w u v : wdT} {ι : Nat} (h : qc w u ι) (h' : qc u v ι) : qc w v ι := ⟨fun κ ι' r k i q => (h'.1 κ ι' r k i q).trans (h.1 κ ι' r k i q), fun κ ι' r k i q => (h'.2.1 κ ι' r k i q).trans (h.2.1 κ ι' r k i q), h'.2.2.trans h.2.2⟩
theorem qc_qk {w u : wdT} {ι : Nat} (h : qk w u ι) : qc w u ι := ⟨fun κ ι' r k i q => h.1 κ ι' r k i (fun z => q ⟨z.1, z.2.1, Or.inl z.2.2⟩), h.2⟩
theorem qc_I (w : wdT) (ι c : Nat) (x : Int32) : qc w (sI w 0 ι 15 4 c x) ι := ⟨fun κ ι' r k' i q => up5_ne _ _ (fun z => q ⟨z.1, z.2.1, Or.inr ⟨z.2.2.1, z.2.2.2.1⟩⟩), fun _ _ _ _ _ _ => rfl, rfl⟩
theorem qc_tc (w : wdT) (ι ng : Nat) (n r : Int32) : ∀ c, qc w (tcW w ι ng n r c) ι
  | 0 => qc_rf w ι
  | c + 1 => by
    by_cases h : brk (tcW w ι ng n r c) ι c n r
    · rw [tcW_t h]
      exact qc_tr (qc_tr (qc_tc w ι ng n r c) (qc_I _ _ _ _)) (qc_qk (qk_bl _ _ _ _))
    · rw [tcW_f h]
      exact qc_tc w ι ng n r c
set_option maxHeartbeats 4000000 in
set_option maxRecDepth 100000 in
theorem con_Ci_tryChecks {l : Launch} (hlt : l.stackTraces = false) {E : gE} {B : bsT} {N : nwT} {w : wdT} {ι ng nc : Nat} (ho : N.1 0 ι = true) (hng : wI w 0 ι 0 4 0 = nI ng) (hgn : ng ≤ 32) (hnc : wI w 0 ι 0 6 0 = nI nc) (hcn : nc ≤ 20) (hcd : ∀ c, c < nc → vn (wI w 0 ι 15 1 c) 24 ∧ vn (wI w 0 ι 15 2 c) 24) (n r : Int32) : Con l E y_Ci_tryChecks (Cond.code y_Ci_tryChecks c_Ci_tryChecks 5 none :: gAll) rm_Ci_tryChecks [.ref (ad B 0 ι 0 0), .int n, .int r] (gw E B N w) (fun v H => v = none ∧ gw E B N (tcW w ι ng n r nc) H) (fun _ _ => False) 0 0 := by
  refine con_of (by decide) hlt (Nat.le_of_ble_eq_true rfl) ?_
  intro F hF hM htab hnm hE hlo hl
  subst hl
  have hF : Fb F c_Ci_tryChecks R_Ci 5 rm_Ci_tryChecks := hF
  have hK := hE.1
  have hT := hE.2.1
  refine go_lv (lv' := [(0, _), (1, _), (2, _)]) ⟨rfl, rfl, rfl, trivial⟩ ?_
  have L2 : ∀ m p : Nat, nc - p = m → p ≤ nc → Go F 2 [(0, .ref (ad B 0 ι 0 0)), (1, .int n), (2, .int r), (3, .int (nI p))] [] (gw E B N (tcW w ι ng n r p)) 0 0 := by
    intro m
    induction m using Nat.strongRecOn with
    | _ m ih =>
      intro p hm hp
      have hcc : wI (tcW w ι ng n r p) 0 ι 0 6 0 = nI nc := ((qc_tc w ι ng n r p).1 0 ι 0 6 0 (by simp)).trans hnc
      refine go_iload_n hF d_Ci_tryChecks_2 rfl ?_
      refine go_aload_n hF d_Ci_tryChecks_3 rfl ?_
      refine gs_geti hF hK d_Ci_tryChecks_4 fl_Ci_60 ho rfl rfl (by decide) rfl ?_
      refine go_icmp_ge (tgt := 52) hF d_Ci_tryChecks_7 (by decide) (fun h7 => ?_) (fun h7 => ?_)
      · exact go_vret hF hM d_Ci_tryChecks_52 (by decide) (by decide) (fun H hG => ⟨rfl, by rw [hcc] at h7; have q := (nI_leI (a := nc) (b := p) (by omega) (by omega)).mp h7; have e : p = nc := (by omega); subst e; exact hG⟩)
      · have hp2 : p < nc := by
          rw [hcc] at h7
          have q : ¬ nc ≤ p := fun z => h7 ((nI_leI (a := nc) (b := p) (by omega) (by omega)).mpr z)
          omega
        refine go_aload_n hF d_Ci_tryChecks_10 rfl ?_
        refine gs_getr hF hK d_Ci_tryChecks_11 fl_Ci_29 ho rfl rfl (by decide) rfl ?_
        refine go_iload_n hF d_Ci_tryChecks_14 rfl ?_
        refine gs_aald hF hK hT d_Ci_tryChecks_15 ho rfl rfl rfl (by omega) (by decide) ?_
        have e1 := (qc_tc w ι ng n r p).1 0 ι 15 1 p (by simp)
        have e2 := (qc_tc w ι ng n r p).1 0 ι 15 2 p (by simp)
        have e3 := ((qc_tc w ι ng n r p).1 0 ι 0 4 0 (by simp)).trans hng
        refine go_astore hF d_Ci_tryChecks_16 (by decide) ?_
        refine go_lv (lv' := [(0, _), (1, _), (2, _), (3, _), (4, _)]) ⟨rfl, rfl, rfl, rfl, rfl, trivial⟩ ?_
        refine go_aload_n hF d_Ci_tryChecks_18 rfl ?_
        refine go_aload hF d_Ci_tryChecks_19 rfl ?_
        refine go_iload_n hF d_Ci_tryChecks_21 rfl ?_
        refine go_iload_n hF d_Ci_tryChecks_22 rfl ?_
        refine go_callVX hF hE hlo d_Ci_tryChecks_23 (con_Ci_breaks hlt ho (show p < 20 by omega) (by rw [e1]; exact (hcd p hp2).1) (by rw [e2]; exact (hcd p hp2).2) _ _) mt_Ci_breaks mv_Ci_breaks lk_Ci_200 ⟨rfl, rfl, by decide, by decide⟩ rfl (Nat.le_of_ble_eq_true rfl) ⟨by decide, by decide⟩ (fun H hG => gw_recv (q := (R_Ci, T_Ci, 10)) hK hG ho rfl rfl (by decide) rfl) (fun M => gx_no) rfl (fun v => ?_)
        refine go_and (fun hv => ?_)
        subst hv
        refine go_if_eq (tgt := 46) hF d_Ci_tryChecks_26 (by decide) (fun h26 => ?_) (fun h26 => ?_)
        · refine go_iincN hF d_Ci_tryChecks_46 rfl (by decide) ?_
          refine go_lv (lv' := [(0, _), (1, _), (2, _), (3, _), (4, _)]) ⟨rfl, rfl, rfl, rfl, rfl, trivial⟩ ?_
          refine go_goto (tgt := 2) hF d_Ci_tryChecks_49 (by decide) ?_
          refine go_lv (lv' := [(0, _), (1, _), (2, _), (3, _)]) ⟨rfl, rfl, rfl, rfl, trivial⟩ ?_
          exact go_G (fun H hG => by rw [tcW_f (biC_0 h26)]; exact hG) (ih _ (by omega) (p + 1) rfl (by omega))
        · refine go_aload hF d_Ci_tryChecks_29 rfl ?_
          refine go_dup hF d_Ci_tryChecks_31 rfl ?_
          refine gs_geti hF hK d_Ci_tryChecks_32 fl_Ci_204 ho rfl rfl (show _ < 20 from (by omega)) rfl ?_
          refine go_iconst (v := 1) hF d_Ci_tryChecks_35 (by decide) ?_
          refine go_iadd hF d_Ci_tryChecks_36 ?_
          refine gs_puti hF hK hlo d_Ci_tryChecks_37 fl_Ci_204 ct_Ch fs_Ch_4 ho rfl rfl (show _ < 20 from (by omega)) rfl rfl ?_
          refine go_aload_n hF d_Ci_tryChecks_40 rfl ?_
          refine go_aload hF d_Ci_tryChecks_41 rfl ?_
          refine go_callVX hF hE hlo d_Ci_tryChecks_43 (con_Ci_blurRegisters (ng := ng) hlt ho (show p < 20 by omega) (by simp only [rd_II, rd_LL, rd_PP, rd_IL, rd_IP, rd_LI, rd_LP, rd_PI, rd_PL, eq_self, true_and, and_true, false_and, and_false, if_true, if_false, reduceIte, reduceCtorEq, Nat.reduceEqDiff, Nat.one_ne_zero, Nat.zero_ne_one]; exact e3) hgn) mt_Ci_blurRegisters mv_Ci_blurRegisters lk_Ci_206 ⟨rfl, rfl, by decide, by decide⟩ rfl (Nat.le_of_ble_eq_true rfl) ⟨by decide, by decide⟩ (fun H hG => gw_recv (q := (R_Ci, T_Ci, 10)) hK hG ho rfl rfl (by decide) rfl) (fun M => gx_no) rfl (fun v => ?_)
          refine go_and (fun hv => ?_)
          subst hv
          refine go_iincN hF d_Ci_tryChecks_46 rfl (by decide) ?_
          refine go_lv (lv' := [(0, _), (1, _), (2, _), (3, _), (4, _)]) ⟨rfl, rfl, rfl, rfl, rfl, trivial⟩ ?_
          refine go_goto (tgt := 2) hF d_Ci_tryChecks_49 (by decide) ?_
          refine go_lv (lv' := [(0, _), (1, _), (2, _), (3, _)]) ⟨rfl, rfl, rfl, rfl, trivial⟩ ?_
          exact go_G (fun H hG => by rw [tcW_t (biC_1 h26)]; exact hG) (ih _ (by omega) (p + 1) rfl (by omega))
  refine go_iconst (v := 0) hF d_Ci_tryChecks_0 (by decide) ?_
  refine go_istore_n hF d_Ci_tryChecks_1 (by decide) ?_
  refine go_lv (lv' := [(0, _), (1, _), (2, _), (3, _)]) ⟨rfl, rfl, rfl, rfl, trivial⟩ ?_
  exact L2 _ 0 rfl (Nat.zero_le _)
