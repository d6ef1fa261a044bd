theorem con_Ci_refreshX {l : Launch} (hlt : l.stackTraces = false) {E : gE} {B : bsT} {N : nwT} {w : wdT} {ι q : Nat} (ho : N.1 0 ι = true) (hq : q < 24) (ok : okC w ι) : Con l E y_Ci_refresh (Cond.code y_Ci_refresh c_Ci_refresh 7 none :: gAll) rm_Ci_refresh [.ref (ad B 0 ι 0 0), .int (nI q)] (gw E B N w) (fun v H => v = none ∧ gw E B N (rfX w ι q) H) (fun _ _ => False) 0 0 := by
  obtain ⟨h1, h2, h3, h4, h5, h6, h7, h8⟩ := ok
  exact con_Ci_refresh hlt ho hq h2.1 h2.2 h3.1 h3.2 h7 (fun g hg => ⟨(h6 g hg).1, (h6 g hg).2.1⟩) h5.1 h5.2
/-- the hand event that is next -/
noncomputable def nxh (u : wdT) (ι : Nat) : Option Nat := if nz (wI u 0 ι 4 0 0) = 0 then none else some (hbs u ι (nz (wI u 0 ι 4 0 0) - 1))
theorem nxh_eq (u : wdT) (ι : Nat) : (if nz (wI u 0 ι 4 0 0) = 0 then -1 else nI (hbs u ι (nz (wI u 0 ι 4 0 0) - 1))) = oI (nxh u ι) := by
  unfold nxh
  split <;> rfl
theorem nxh_lt {u : wdT} {ι b : Nat} (h : nxh u ι = some b) : b < nz (wI u 0 ι 4 0 0) := by
  unfold nxh at h
  split at h
  · cases h
  · have := hbs_le u ι (nz (wI u 0 ι 4 0 0) - 1)
    cases h
    omega
/-- the gate whose event is next -/
noncomputable def nxg (u : wdT) (ι : Nat) : Option Nat := gbs u ι (nz (wI u 0 ι 0 4 0))
theorem nxg_lt {u : wdT} {ι b : Nat} (h : nxg u ι = some b) : b < nz (wI u 0 ι 0 4 0) := gbs_lt u ι _ b h
abbrev nxf (u : wdT) (ι : Nat) : Prop := hfs u ι (nxh u ι) (nxg u ι)
theorem nxf_some {u : wdT} {ι : Nat} (h : nxf u ι) : ∃ a, nxh u ι = some a := by
  unfold nxf at h
  cases e : nxh u ι with
  | none => rw [e] at h; exact h.elim
  | some a => exact ⟨a, rfl⟩
def oN : Option Nat → Nat
  | none => 0
  | some b => b
/-- when it comes -/
noncomputable def whn (u : wdT) (ι : Nat) : Int64 := @ite _ (nxf u ι) (Classical.propDecidable _) (wL u 0 ι 7 0 (oN (nxh u ι))) (if nxg u ι = none then -1 else wL u 0 ι 14 8 (oN (nxg u ι)))
theorem whn_h {u : wdT} {ι a : Nat} (h : nxf u ι) (e : nxh u ι = some a) : whn u ι = wL u 0 ι 7 0 a := by
  unfold whn
  rw [if_pos h, e]; rfl
theorem whn_n {u : wdT} {ι : Nat} (h : ¬ nxf u ι) (e : nxg u ι = none) : whn u ι = -1 := by
  unfold whn
  rw [if_neg h, if_pos e]
theorem whn_g {u : wdT} {ι b : Nat} (h : ¬ nxf u ι) (e : nxg u ι = some b) : whn u ι = wL u 0 ι 14 8 b := by
  unfold whn
  rw [if_neg h, e]; rfl
noncomputable def ge1 (u : wdT) (ι ge : Nat) : Nat := if whn u ι ≤ wL u 0 ι 0 0 0 then ge else 0
/-- events up to y, m of them at most -/
noncomputable def adW (ι : Nat) (y : Int64) : Nat → wdT → Nat → Nat → wdT × Int64
  | 0, u, _, _ => (u, 150)
  | f + 1, u, ge, came =>
    if whn u ι = -1 ∨ ¬ whn u ι ≤ y then (sL u 0 ι 0 0 0 y, (nI came).toInt64)
    else @ite _ (nxf u ι) (Classical.propDecidable _)
      (adW ι y f (rfX (thX (sL u 0 ι 0 0 0 (whn u ι)) ι (oN (nxh u ι))) ι (nz (wI u 0 ι 6 0 (oN (nxh u ι))))) (ge1 u ι ge) (came + 1))
      (if nI (ge1 u ι ge) = 60 then (sL u 0 ι 0 0 0 (whn u ι), (-1 - wI u 0 ι 14 3 (oN (nxg u ι))).toInt64)
       else adW ι y f (rfX (tkW (sL u 0 ι 0 0 0 (whn u ι)) ι (oN (nxg u ι))) ι (nz (wI u 0 ι 14 3 (oN (nxg u ι))))) (ge1 u ι ge + 1) (came + 1))
theorem adW_s (ι : Nat) (y : Int64) (f : Nat) (u : wdT) (ge came : Nat) : adW ι y (f + 1) u ge came =
    if whn u ι = -1 ∨ ¬ whn u ι ≤ y then (sL u 0 ι 0 0 0 y, (nI came).toInt64)
    else @ite _ (nxf u ι) (Classical.propDecidable _)
      (adW ι y f (rfX (thX (sL u 0 ι 0 0 0 (whn u ι)) ι (oN (nxh u ι))) ι (nz (wI u 0 ι 6 0 (oN (nxh u ι))))) (ge1 u ι ge) (came + 1))
      (if nI (ge1 u ι ge) = 60 then (sL u 0 ι 0 0 0 (whn u ι), (-1 - wI u 0 ι 14 3 (oN (nxg u ι))).toInt64)
       else adW ι y f (rfX (tkW (sL u 0 ι 0 0 0 (whn u ι)) ι (oN (nxg u ι))) ι (nz (wI u 0 ι 14 3 (oN (nxg u ι))))) (ge1 u ι ge + 1) (came + 1)) := rfl
theorem okC_tkr {u : wdT} {ι : Nat} {t : Int64} {b q : Nat} (h : okC u ι) : okC (rfX (tkW (sL u 0 ι 0 0 0 t) ι b) ι q) ι := okC_rf (okC_tk (okC_L h))
theorem tkW_out (w : wdT) (ι g : Nat) : wI (tkW w ι g) 0 ι 14 3 g = wI w 0 ι 14 3 g := by
  unfold tkW
  simp only [rd_II, rd_IL]
  rw [if_neg (by omega), if_neg (by omega), if_neg (by omega)]
set_option maxHeartbeats 4000000 in
set_option maxRecDepth 100000 in
theorem con_Ci_advance {l : Launch} (hlt : l.stackTraces = false) {E : gE} {B : bsT} {N : nwT} {w : wdT} {ι : Nat} (ho : N.1 0 ι = true) (ok : okC w ι) (y : Int64) : Con l E y_Ci_advance (Cond.code y_Ci_advance c_Ci_advance 10 (some .long) :: gAll) rm_Ci_advance [.ref (ad B 0 ι 0 0), .long y] (gw E B N w) (fun v H => v = some (.long (adW ι y 150 w 0 0).2) ∧ gw E B N (adW ι y 150 w 0 0).1 H) (fun _ _ => False) 0 0 := by
  refine con_of (by decide) hlt (Nat.le_of_ble_eq_true rfl) ?_
  intro F hF hM htab hnm hE hlo hl
  subst hl
  have hF : Fb F c_Ci_advance R_Ci 10 rm_Ci_advance := hF
  have hK := hE.1
  have hT := hE.2.1
  refine go_lv (lv' := [(0, _), (1, _)]) ⟨rfl, rfl, trivial⟩ ?_
  have L5 : ∀ m came ge (u : wdT), 150 - came = m → came ≤ 150 → okC u ι → adW ι y m u ge came = adW ι y 150 w 0 0 → Go F 5 [(0, .ref (ad B 0 ι 0 0)), (1, .long y), (3, .int (nI ge)), (4, .int (nI came))] [] (gw E B N u) 0 0 := by
    intro m
    induction m using Nat.strongRecOn with
    | _ m ih =>
      intro came ge u hm hcm ok hR
      refine go_iload hF d_Ci_advance_5 rfl ?_
      refine go_sipush (v := 150) hF d_Ci_advance_7 (by decide) ?_
      refine go_icmp_ge (tgt := 194) hF d_Ci_advance_10 (by decide) (fun h10 => ?_) (fun h10 => ?_)
      · refine go_ldc2 hF kl_Ci_136 d_Ci_advance_194 ?_
        exact go_lret hF hM d_Ci_advance_197 (by decide) (by decide) (fun H hG => by
              have e : m = 0 := by have := (nI_leI (a := 150) (b := came) (by omega) (by omega)).mp h10; omega
              subst e
              have hR2 : (u, (150 : Int64)) = adW ι y 150 w 0 0 := hR
              exact ⟨by rw [← hR2], by rw [← hR2]; exact hG⟩)
      · have hc2 : came < 150 := by
          have z : ¬ 150 ≤ came := fun z => h10 ((nI_leI (a := 150) (b := came) (by omega) (by omega)).mpr z)
          omega
        obtain ⟨f, rfl⟩ : ∃ f, m = f + 1 := ⟨m - 1, by omega⟩
        rw [adW_s ι y f u ge came] at hR
        obtain ⟨h1, h2, h3, h4, h5, h6, h7, h8⟩ := id ok
        refine go_aload_n hF d_Ci_advance_13 rfl ?_
        refine gs_getr hF hK d_Ci_advance_14 fl_Ci_36 ho rfl rfl (by decide) rfl ?_
        refine go_callVX hF hE hlo d_Ci_advance_17 (con_Ha_first hlt ho h4.1 h4.2) mt_Ha_first mv_Ha_first lk_Ci_106 ⟨rfl, rfl, by decide, by decide⟩ rfl (Nat.le_of_ble_eq_true rfl) ⟨by decide, by decide⟩ (fun H hG => gw_recv (q := (R_Ha, T_Ha, 5)) hK hG ho rfl rfl (by decide) rfl) (fun M => gx_no) rfl (fun v => ?_)
        refine go_and (fun hv => ?_)
        rw [nxh_eq] at hv
        subst hv
        refine go_istore hF d_Ci_advance_20 (by decide) ?_
        refine go_lv (lv' := [(0, _), (1, _), (3, _), (4, _), (5, _)]) ⟨rfl, rfl, rfl, rfl, rfl, trivial⟩ ?_
        refine go_aload_n hF d_Ci_advance_22 rfl ?_
        refine go_callVX hF hE hlo d_Ci_advance_23 (con_Ci_firstGate hlt ho h2.1 h2.2) mt_Ci_firstGate mv_Ci_firstGate lk_Ci_110 ⟨rfl, rfl, by decide, by decide⟩ rfl (Nat.le_of_ble_eq_true rfl) ⟨by decide, by decide⟩ (fun H hG => gw_recv (q := (R_Ci, T_Ci, 10)) hK hG ho rfl rfl (by decide) rfl) (fun M => gx_no) rfl (fun v => ?_)
        refine go_and (fun hv => ?_)
        subst hv
        refine go_istore hF d_Ci_advance_26 (by decide) ?_
        refine go_lv (lv' := [(0, _), (1, _), (3, _), (4, _), (5, _), (6, _)]) ⟨rfl, rfl, rfl, rfl, rfl, rfl, trivial⟩ ?_
        refine go_aload_n hF d_Ci_advance_28 rfl ?_
        refine go_iload hF d_Ci_advance_29 rfl ?_
        refine go_iload hF d_Ci_advance_31 rfl ?_
        refine go_callVX hF hE hlo d_Ci_advance_33 (con_Ci_isHandFirst (h := nxh u ι) (g := nxg u ι) hlt ho (fun b hb => by have := nxh_lt hb; have := h4.2; omega) (fun b hb => by have := nxg_lt hb; have := h2.2; omega)) mt_Ci_isHandFirst mv_Ci_isHandFirst lk_Ci_113 ⟨rfl, rfl, by decide, by decide⟩ rfl (Nat.le_of_ble_eq_true rfl) ⟨by decide, by decide⟩ (fun H hG => gw_recv (q := (R_Ci, T_Ci, 10)) hK hG ho rfl rfl (by decide) rfl) (fun M => gx_no) rfl (fun v => ?_)
        refine go_and (fun hv => ?_)
        subst hv
        refine go_istore hF d_Ci_advance_36 (by decide) ?_
        refine go_lv (lv' := [(0, _), (1, _), (3, _), (4, _), (5, _), (6, _), (7, _)]) ⟨rfl, rfl, rfl, rfl, rfl, rfl, rfl, trivial⟩ ?_
        refine go_iload hF d_Ci_advance_38 rfl ?_
        refine go_if_eq (tgt := 56) hF d_Ci_advance_40 (by decide) (fun h40 => ?_) (fun h40 => ?_)
        · have hfx : ¬ nxf u ι := biC_0 h40
          refine go_iload hF d_Ci_advance_56 rfl ?_
          refine go_iconst (v := -1) hF d_Ci_advance_58 (by decide) ?_
          refine go_icmp_ne (tgt := 68) hF d_Ci_advance_59 (by decide) (fun h59 => ?_) (fun h59 => ?_)
          · obtain ⟨b, hb⟩ : ∃ b, nxg u ι = some b := oI_some h59
            have hb2 := nxg_lt hb
            have hb3 : b < 32 := by have := h2.2; omega
            have hb4 := (h6 b hb2).2.2
            refine go_lv (lv' := [(0, _), (1, _), (3, _), (4, _), (5, _), (6, .int (nI b)), (7, _)]) ⟨rfl, rfl, rfl, rfl, rfl, (by rw [show gbs u ι (nz (wI u 0 ι 0 4 0)) = some b from hb]; rfl), rfl, trivial⟩ ?_
            refine go_aload_n hF d_Ci_advance_68 rfl ?_
            refine gs_getr hF hK d_Ci_advance_69 fl_Ci_23 ho rfl rfl (by decide) rfl ?_
            refine go_iload hF d_Ci_advance_72 rfl ?_
            refine gs_aald hF hK hT d_Ci_advance_74 ho rfl rfl rfl hb3 (by decide) ?_
            refine gs_getl hF hK d_Ci_advance_75 fl_Ci_123 ho rfl rfl hb3 rfl ?_
            refine go_topl (fun t ht => ?_)
            have hw : t = whn u ι := ht.trans (whn_g hfx hb).symm
            clear ht
            subst hw
            refine go_lstore hF d_Ci_advance_78 (by decide) ?_
            refine go_lv (lv' := [(0, _), (1, _), (3, _), (4, _), (5, _), (6, _), (7, _), (8, _)]) ⟨rfl, rfl, rfl, rfl, rfl, rfl, rfl, rfl, trivial⟩ ?_
            refine go_lload hF d_Ci_advance_80 rfl ?_
            refine go_ldc2 hF kl_Ci_121 d_Ci_advance_82 ?_
            refine go_lif_eq (tgt := 96) hF d_Ci_advance_85 d_Ci_advance_86 (by decide) (fun h85 => ?_) (fun h85 => ?_)
            · refine go_aload_n hF d_Ci_advance_96 rfl ?_
              refine go_lload_n hF d_Ci_advance_97 rfl ?_
              refine gs_putl hF hK hlo d_Ci_advance_98 fl_Ci_50 ct_Ci fs_Ci_0 ho rfl rfl (by decide) rfl rfl ?_
              refine go_iload hF d_Ci_advance_101 rfl ?_
              refine go_i2l hF d_Ci_advance_103 ?_
              exact go_lret hF hM d_Ci_advance_104 (by decide) (by decide) (fun H hG => by rw [if_pos (Or.inl h85)] at hR; exact ⟨by rw [← hR], by rw [← hR]; exact hG⟩)
            · refine go_lload hF d_Ci_advance_89 rfl ?_
              refine go_lload_n hF d_Ci_advance_91 rfl ?_
              refine go_lif_le (tgt := 105) hF d_Ci_advance_92 d_Ci_advance_93 (by decide) (fun h92 => ?_) (fun h92 => ?_)
              · refine go_lload hF d_Ci_advance_105 rfl ?_
                refine go_aload_n hF d_Ci_advance_107 rfl ?_
                refine gs_getl hF hK d_Ci_advance_108 fl_Ci_50 ho rfl rfl (by decide) rfl ?_
                refine go_lif_le (tgt := 117) hF d_Ci_advance_111 d_Ci_advance_112 (by decide) (fun h111 => ?_) (fun h111 => ?_)
                · refine go_lv (lv' := [(0, _), (1, _), (3, .int (nI (ge1 u ι ge))), (4, _), (5, _), (6, _), (7, _), (8, _)]) ⟨rfl, rfl, by unfold ge1; rw [if_pos h111]; rfl, rfl, rfl, rfl, rfl, rfl, trivial⟩ ?_
                  refine go_aload_n hF d_Ci_advance_117 rfl ?_
                  refine go_lload hF d_Ci_advance_118 rfl ?_
                  refine gs_putl hF hK hlo d_Ci_advance_120 fl_Ci_50 ct_Ci fs_Ci_0 ho rfl rfl (by decide) rfl rfl ?_
                  refine go_iload hF d_Ci_advance_123 rfl ?_
                  refine go_if_eq (tgt := 141) hF d_Ci_advance_125 (by decide) (fun h125 => ?_) (fun h125 => ?_)
                  · refine go_iload_n hF d_Ci_advance_141 rfl ?_
                    refine go_bipush (v := 60) hF d_Ci_advance_142 (by decide) ?_
                    refine go_icmp_ne (tgt := 161) hF d_Ci_advance_144 (by decide) (fun h144 => ?_) (fun h144 => ?_)
                    · refine go_iincN hF d_Ci_advance_161 rfl (by decide) ?_
                      refine go_lv (lv' := [(0, _), (1, _), (3, _), (4, _), (5, _), (6, _), (7, _), (8, _)]) ⟨rfl, rfl, rfl, rfl, rfl, rfl, rfl, rfl, trivial⟩ ?_
                      refine go_aload_n hF d_Ci_advance_164 rfl ?_
                      refine gs_getr hF hK d_Ci_advance_165 fl_Ci_23 ho rfl rfl (by decide) rfl ?_
                      refine go_iload hF d_Ci_advance_168 rfl ?_
                      refine gs_aald hF hK hT d_Ci_advance_170 ho rfl rfl rfl hb3 (by decide) ?_
                      refine go_callVX hF hE hlo d_Ci_advance_171 (con_Ga_takeWaiting hlt ho hb3) mt_Ga_takeWaiting mv_Ga_takeWaiting lk_Ci_133 ⟨rfl, rfl, by decide, by decide⟩ rfl (Nat.le_of_ble_eq_true rfl) ⟨by decide, by decide⟩ (fun H hG => gw_recv (q := (R_Ga, T_Ga, 11)) hK hG ho rfl rfl hb3 rfl) (fun M => gx_no) rfl (fun v => ?_)
                      refine go_and (fun hv => ?_)
                      subst hv
                      refine go_aload_n hF d_Ci_advance_174 rfl ?_
                      refine go_aload_n hF d_Ci_advance_175 rfl ?_
                      refine gs_getr hF hK d_Ci_advance_176 fl_Ci_23 ho rfl rfl (by decide) rfl ?_
                      refine go_iload hF d_Ci_advance_179 rfl ?_
                      refine gs_aald hF hK hT d_Ci_advance_181 ho rfl rfl rfl hb3 (by decide) ?_
                      refine gs_geti hF hK d_Ci_advance_182 fl_Ci_130 ho rfl rfl hb3 rfl ?_
                      refine go_topi (fun t ht => ?_)
                      rw [tkW_out, show wI (sL u 0 ι 0 0 0 (whn u ι)) 0 ι 14 3 b = nI (nz (wI u 0 ι 14 3 b)) from hb4.1] at ht
                      subst ht
                      refine go_callVX hF hE hlo d_Ci_advance_185 (con_Ci_refreshX (w := tkW (sL u 0 ι 0 0 0 (whn u ι)) ι b) (q := nz (wI u 0 ι 14 3 b)) hlt ho hb4.2 (okC_tk (okC_L ok))) mt_Ci_refresh mv_Ci_refresh lk_Ci_87 ⟨rfl, rfl, by decide, by decide⟩ rfl (Nat.le_of_ble_eq_true rfl) ⟨by decide, by decide⟩ (fun H hG => gw_recv (q := (R_Ci, T_Ci, 10)) hK hG ho rfl rfl (by decide) rfl) (fun M => gx_no) rfl (fun v => ?_)
                      refine go_and (fun hv => ?_)
                      subst hv
                      refine go_iincN hF d_Ci_advance_188 rfl (by decide) ?_
                      refine go_lv (lv' := [(0, _), (1, _), (3, _), (4, _), (5, _), (6, _), (7, _), (8, _)]) ⟨rfl, rfl, rfl, rfl, rfl, rfl, rfl, rfl, trivial⟩ ?_
                      refine go_goto (tgt := 5) hF d_Ci_advance_191 (by decide) ?_
                      refine go_lv (lv' := [(0, _), (1, _), (3, _), (4, _)]) ⟨rfl, rfl, rfl, rfl, trivial⟩ ?_
                      rw [if_neg (fun z => z.elim h85 (fun q => q h92)), if_neg hfx, if_neg h144, hb] at hR
                      exact ih f (by omega) (came + 1) (ge1 u ι ge + 1) _ (by omega) (by omega) (okC_tkr ok) hR
                    · refine go_iconst (v := -1) hF d_Ci_advance_147 (by decide) ?_
                      refine go_aload_n hF d_Ci_advance_148 rfl ?_
                      refine gs_getr hF hK d_Ci_advance_149 fl_Ci_23 ho rfl rfl (by decide) rfl ?_
                      refine go_iload hF d_Ci_advance_152 rfl ?_
                      refine gs_aald hF hK hT d_Ci_advance_154 ho rfl rfl rfl hb3 (by decide) ?_
                      refine gs_geti hF hK d_Ci_advance_155 fl_Ci_130 ho rfl rfl hb3 rfl ?_
                      refine go_isub hF d_Ci_advance_158 ?_
                      refine go_i2l hF d_Ci_advance_159 ?_
                      exact go_lret hF hM d_Ci_advance_160 (by decide) (by decide) (fun H hG => by rw [if_neg (fun z => z.elim h85 (fun q => q h92)), if_neg hfx, if_pos h144, hb] at hR; exact ⟨by rw [← hR]; rfl, by rw [← hR]; exact hG⟩)
                  · exact absurd h40 h125
                · refine go_iconst (v := 0) hF d_Ci_advance_115 (by decide) ?_
                  refine go_istore_n hF d_Ci_advance_116 (by decide) ?_
                  refine go_lv (lv' := [(0, _), (1, _), (3, _), (4, _), (5, _), (6, _), (7, _), (8, _)]) ⟨rfl, rfl, rfl, rfl, rfl, rfl, rfl, rfl, trivial⟩ ?_
                  refine go_lv (lv' := [(0, _), (1, _), (3, .int (nI (ge1 u ι ge))), (4, _), (5, _), (6, _), (7, _), (8, _)]) ⟨rfl, rfl, by unfold ge1; rw [if_neg h111]; rfl, rfl, rfl, rfl, rfl, rfl, trivial⟩ ?_
                  refine go_aload_n hF d_Ci_advance_117 rfl ?_
                  refine go_lload hF d_Ci_advance_118 rfl ?_
                  refine gs_putl hF hK hlo d_Ci_advance_120 fl_Ci_50 ct_Ci fs_Ci_0 ho rfl rfl (by decide) rfl rfl ?_
                  refine go_iload hF d_Ci_advance_123 rfl ?_
                  refine go_if_eq (tgt := 141) hF d_Ci_advance_125 (by decide) (fun h125 => ?_) (fun h125 => ?_)
                  · refine go_iload_n hF d_Ci_advance_141 rfl ?_
                    refine go_bipush (v := 60) hF d_Ci_advance_142 (by decide) ?_
                    refine go_icmp_ne (tgt := 161) hF d_Ci_advance_144 (by decide) (fun h144 => ?_) (fun h144 => ?_)
                    · refine go_iincN hF d_Ci_advance_161 rfl (by decide) ?_
                      refine go_lv (lv' := [(0, _), (1, _), (3, _), (4, _), (5, _), (6, _), (7, _), (8, _)]) ⟨rfl, rfl, rfl, rfl, rfl, rfl, rfl, rfl, trivial⟩ ?_
                      refine go_aload_n hF d_Ci_advance_164 rfl ?_
                      refine gs_getr hF hK d_Ci_advance_165 fl_Ci_23 ho rfl rfl (by decide) rfl ?_
                      refine go_iload hF d_Ci_advance_168 rfl ?_
                      refine gs_aald hF hK hT d_Ci_advance_170 ho rfl rfl rfl hb3 (by decide) ?_
                      refine go_callVX hF hE hlo d_Ci_advance_171 (con_Ga_takeWaiting hlt ho hb3) mt_Ga_takeWaiting mv_Ga_takeWaiting lk_Ci_133 ⟨rfl, rfl, by decide, by decide⟩ rfl (Nat.le_of_ble_eq_true rfl) ⟨by decide, by decide⟩ (fun H hG => gw_recv (q := (R_Ga, T_Ga, 11)) hK hG ho rfl rfl hb3 rfl) (fun M => gx_no) rfl (fun v => ?_)
                      refine go_and (fun hv => ?_)
                      subst hv
                      refine go_aload_n hF d_Ci_advance_174 rfl ?_
                      refine go_aload_n hF d_Ci_advance_175 rfl ?_
                      refine gs_getr hF hK d_Ci_advance_176 fl_Ci_23 ho rfl rfl (by decide) rfl ?_
                      refine go_iload hF d_Ci_advance_179 rfl ?_
                      refine gs_aald hF hK hT d_Ci_advance_181 ho rfl rfl rfl hb3 (by decide) ?_
                      refine gs_geti hF hK d_Ci_advance_182 fl_Ci_130 ho rfl rfl hb3 rfl ?_
                      refine go_topi (fun t ht => ?_)
                      rw [tkW_out, show wI (sL u 0 ι 0 0 0 (whn u ι)) 0 ι 14 3 b = nI (nz (wI u 0 ι 14 3 b)) from hb4.1] at ht
                      subst ht
                      refine go_callVX hF hE hlo d_Ci_advance_185 (con_Ci_refreshX (w := tkW (sL u 0 ι 0 0 0 (whn u ι)) ι b) (q := nz (wI u 0 ι 14 3 b)) hlt ho hb4.2 (okC_tk (okC_L ok))) mt_Ci_refresh mv_Ci_refresh lk_Ci_87 ⟨rfl, rfl, by decide, by decide⟩ rfl (Nat.le_of_ble_eq_true rfl) ⟨by decide, by decide⟩ (fun H hG => gw_recv (q := (R_Ci, T_Ci, 10)) hK hG ho rfl rfl (by decide) rfl) (fun M => gx_no) rfl (fun v => ?_)
                      refine go_and (fun hv => ?_)
                      subst hv
                      refine go_iincN hF d_Ci_advance_188 rfl (by decide) ?_
                      refine go_lv (lv' := [(0, _), (1, _), (3, _), (4, _), (5, _), (6, _), (7, _), (8, _)]) ⟨rfl, rfl, rfl, rfl, rfl, rfl, rfl, rfl, trivial⟩ ?_
                      refine go_goto (tgt := 5) hF d_Ci_advance_191 (by decide) ?_
                      refine go_lv (lv' := [(0, _), (1, _), (3, _), (4, _)]) ⟨rfl, rfl, rfl, rfl, trivial⟩ ?_
                      rw [if_neg (fun z => z.elim h85 (fun q => q h92)), if_neg hfx, if_neg h144, hb] at hR
                      exact ih f (by omega) (came + 1) (ge1 u ι ge + 1) _ (by omega) (by omega) (okC_tkr ok) hR
                    · refine go_iconst (v := -1) hF d_Ci_advance_147 (by decide) ?_
                      refine go_aload_n hF d_Ci_advance_148 rfl ?_
                      refine gs_getr hF hK d_Ci_advance_149 fl_Ci_23 ho rfl rfl (by decide) rfl ?_
                      refine go_iload hF d_Ci_advance_152 rfl ?_
                      refine gs_aald hF hK hT d_Ci_advance_154 ho rfl rfl rfl hb3 (by decide) ?_
                      refine gs_geti hF hK d_Ci_advance_155 fl_Ci_130 ho rfl rfl hb3 rfl ?_
                      refine go_isub hF d_Ci_advance_158 ?_
                      refine go_i2l hF d_Ci_advance_159 ?_
                      exact go_lret hF hM d_Ci_advance_160 (by decide) (by decide) (fun H hG => by rw [if_neg (fun z => z.elim h85 (fun q => q h92)), if_neg hfx, if_pos h144, hb] at hR; exact ⟨by rw [← hR]; rfl, by rw [← hR]; exact hG⟩)
                  · exact absurd h40 h125
              · refine go_aload_n hF d_Ci_advance_96 rfl ?_
                refine go_lload_n hF d_Ci_advance_97 rfl ?_
                refine gs_putl hF hK hlo d_Ci_advance_98 fl_Ci_50 ct_Ci fs_Ci_0 ho rfl rfl (by decide) rfl rfl ?_
                refine go_iload hF d_Ci_advance_101 rfl ?_
                refine go_i2l hF d_Ci_advance_103 ?_
                exact go_lret hF hM d_Ci_advance_104 (by decide) (by decide) (fun H hG => by rw [if_pos (Or.inr h92)] at hR; exact ⟨by rw [← hR], by rw [← hR]; exact hG⟩)
          · have hb : nxg u ι = none := oI_none (fun b hb => by have := nxg_lt hb; have := h2.2; omega) h59
            refine go_ldc2 hF kl_Ci_121 d_Ci_advance_62 ?_
            refine go_goto (tgt := 78) hF d_Ci_advance_65 (by decide) ?_
            refine go_topl (fun t ht => ?_)
            have hw : t = whn u ι := ht.trans (whn_n hfx hb).symm
            clear ht
            subst hw
            refine go_lstore hF d_Ci_advance_78 (by decide) ?_
            refine go_lv (lv' := [(0, _), (1, _), (3, _), (4, _), (5, _), (6, _), (7, _), (8, _)]) ⟨rfl, rfl, rfl, rfl, rfl, rfl, rfl, rfl, trivial⟩ ?_
            refine go_lload hF d_Ci_advance_80 rfl ?_
            refine go_ldc2 hF kl_Ci_121 d_Ci_advance_82 ?_
            refine go_lif_eq (tgt := 96) hF d_Ci_advance_85 d_Ci_advance_86 (by decide) (fun h85 => ?_) (fun h85 => ?_)
            · refine go_aload_n hF d_Ci_advance_96 rfl ?_
              refine go_lload_n hF d_Ci_advance_97 rfl ?_
              refine gs_putl hF hK hlo d_Ci_advance_98 fl_Ci_50 ct_Ci fs_Ci_0 ho rfl rfl (by decide) rfl rfl ?_
              refine go_iload hF d_Ci_advance_101 rfl ?_
              refine go_i2l hF d_Ci_advance_103 ?_
              exact go_lret hF hM d_Ci_advance_104 (by decide) (by decide) (fun H hG => by rw [if_pos (Or.inl h85)] at hR; exact ⟨by rw [← hR], by rw [← hR]; exact hG⟩)
            · refine go_lload hF d_Ci_advance_89 rfl ?_
              refine go_lload_n hF d_Ci_advance_91 rfl ?_
              refine go_lif_le (tgt := 105) hF d_Ci_advance_92 d_Ci_advance_93 (by decide) (fun h92 => ?_) (fun h92 => ?_)
              · refine go_lload hF d_Ci_advance_105 rfl ?_
                refine go_aload_n hF d_Ci_advance_107 rfl ?_
                refine gs_getl hF hK d_Ci_advance_108 fl_Ci_50 ho rfl rfl (by decide) rfl ?_
                refine go_lif_le (tgt := 117) hF d_Ci_advance_111 d_Ci_advance_112 (by decide) (fun h111 => ?_) (fun h111 => ?_)
                · refine go_lv (lv' := [(0, _), (1, _), (3, .int (nI (ge1 u ι ge))), (4, _), (5, _), (6, _), (7, _), (8, _)]) ⟨rfl, rfl, by unfold ge1; rw [if_pos h111]; rfl, rfl, rfl, rfl, rfl, rfl, trivial⟩ ?_
                  refine go_aload_n hF d_Ci_advance_117 rfl ?_
                  refine go_lload hF d_Ci_advance_118 rfl ?_
                  refine gs_putl hF hK hlo d_Ci_advance_120 fl_Ci_50 ct_Ci fs_Ci_0 ho rfl rfl (by decide) rfl rfl ?_
                  refine go_iload hF d_Ci_advance_123 rfl ?_
                  refine go_if_eq (tgt := 141) hF d_Ci_advance_125 (by decide) (fun h125 => ?_) (fun h125 => ?_)
                  · exact absurd (whn_n hfx hb) h85
                  · exact absurd h40 h125
                · refine go_iconst (v := 0) hF d_Ci_advance_115 (by decide) ?_
                  refine go_istore_n hF d_Ci_advance_116 (by decide) ?_
                  refine go_lv (lv' := [(0, _), (1, _), (3, _), (4, _), (5, _), (6, _), (7, _), (8, _)]) ⟨rfl, rfl, rfl, rfl, rfl, rfl, rfl, rfl, trivial⟩ ?_
                  refine go_lv (lv' := [(0, _), (1, _), (3, .int (nI (ge1 u ι ge))), (4, _), (5, _), (6, _), (7, _), (8, _)]) ⟨rfl, rfl, by unfold ge1; rw [if_neg h111]; rfl, rfl, rfl, rfl, rfl, rfl, trivial⟩ ?_
                  refine go_aload_n hF d_Ci_advance_117 rfl ?_
                  refine go_lload hF d_Ci_advance_118 rfl ?_
                  refine gs_putl hF hK hlo d_Ci_advance_120 fl_Ci_50 ct_Ci fs_Ci_0 ho rfl rfl (by decide) rfl rfl ?_
                  refine go_iload hF d_Ci_advance_123 rfl ?_
                  refine go_if_eq (tgt := 141) hF d_Ci_advance_125 (by decide) (fun h125 => ?_) (fun h125 => ?_)
                  · exact absurd (whn_n hfx hb) h85
                  · exact absurd h40 h125
              · refine go_aload_n hF d_Ci_advance_96 rfl ?_
                refine go_lload_n hF d_Ci_advance_97 rfl ?_
                refine gs_putl hF hK hlo d_Ci_advance_98 fl_Ci_50 ct_Ci fs_Ci_0 ho rfl rfl (by decide) rfl rfl ?_
                refine go_iload hF d_Ci_advance_101 rfl ?_
                refine go_i2l hF d_Ci_advance_103 ?_
                exact go_lret hF hM d_Ci_advance_104 (by decide) (by decide) (fun H hG => by rw [if_pos (Or.inr h92)] at hR; exact ⟨by rw [← hR], by rw [← hR]; exact hG⟩)
        · have hfx : nxf u ι := biC_1 h40
          obtain ⟨a, ha⟩ := nxf_some hfx
          have ha2 := nxh_lt ha
          have ha3 := h8 a ha2
          have ha4 : a < 100 := by have := h4.2; omega
          refine go_lv (lv' := [(0, _), (1, _), (3, _), (4, _), (5, .int (nI a)), (6, _), (7, _)]) ⟨rfl, rfl, rfl, rfl, by rw [ha]; rfl, rfl, rfl, trivial⟩ ?_
          refine go_aload_n hF d_Ci_advance_43 rfl ?_
          refine gs_getr hF hK d_Ci_advance_44 fl_Ci_36 ho rfl rfl (by decide) rfl ?_
          refine gs_getr hF hK d_Ci_advance_47 fl_Ci_117 ho rfl rfl (by decide) rfl ?_
          refine go_iload hF d_Ci_advance_50 rfl ?_
          refine gs_lald hF hK hT d_Ci_advance_52 ho rfl rfl rfl ha4 (by decide) ?_
          refine go_goto (tgt := 78) hF d_Ci_advance_53 (by decide) ?_
          refine go_topl (fun t ht => ?_)
          have hw : t = whn u ι := ht.trans (whn_h hfx ha).symm
          clear ht
          subst hw
          refine go_lstore hF d_Ci_advance_78 (by decide) ?_
          refine go_lv (lv' := [(0, _), (1, _), (3, _), (4, _), (5, _), (6, _), (7, _), (8, _)]) ⟨rfl, rfl, rfl, rfl, rfl, rfl, rfl, rfl, trivial⟩ ?_
          refine go_lload hF d_Ci_advance_80 rfl ?_
          refine go_ldc2 hF kl_Ci_121 d_Ci_advance_82 ?_
          refine go_lif_eq (tgt := 96) hF d_Ci_advance_85 d_Ci_advance_86 (by decide) (fun h85 => ?_) (fun h85 => ?_)
          · refine go_aload_n hF d_Ci_advance_96 rfl ?_
            refine go_lload_n hF d_Ci_advance_97 rfl ?_
            refine gs_putl hF hK hlo d_Ci_advance_98 fl_Ci_50 ct_Ci fs_Ci_0 ho rfl rfl (by decide) rfl rfl ?_
            refine go_iload hF d_Ci_advance_101 rfl ?_
            refine go_i2l hF d_Ci_advance_103 ?_
            exact go_lret hF hM d_Ci_advance_104 (by decide) (by decide) (fun H hG => by rw [if_pos (Or.inl h85)] at hR; exact ⟨by rw [← hR], by rw [← hR]; exact hG⟩)
          · refine go_lload hF d_Ci_advance_89 rfl ?_
            refine go_lload_n hF d_Ci_advance_91 rfl ?_
            refine go_lif_le (tgt := 105) hF d_Ci_advance_92 d_Ci_advance_93 (by decide) (fun h92 => ?_) (fun h92 => ?_)
            · refine go_lload hF d_Ci_advance_105 rfl ?_
              refine go_aload_n hF d_Ci_advance_107 rfl ?_
              refine gs_getl hF hK d_Ci_advance_108 fl_Ci_50 ho rfl rfl (by decide) rfl ?_
              refine go_lif_le (tgt := 117) hF d_Ci_advance_111 d_Ci_advance_112 (by decide) (fun h111 => ?_) (fun h111 => ?_)
              · refine go_lv (lv' := [(0, _), (1, _), (3, .int (nI (ge1 u ι ge))), (4, _), (5, _), (6, _), (7, _), (8, _)]) ⟨rfl, rfl, by unfold ge1; rw [if_pos h111]; rfl, rfl, rfl, rfl, rfl, rfl, trivial⟩ ?_
                refine go_aload_n hF d_Ci_advance_117 rfl ?_
                refine go_lload hF d_Ci_advance_118 rfl ?_
                refine gs_putl hF hK hlo d_Ci_advance_120 fl_Ci_50 ct_Ci fs_Ci_0 ho rfl rfl (by decide) rfl rfl ?_
                refine go_iload hF d_Ci_advance_123 rfl ?_
                refine go_if_eq (tgt := 141) hF d_Ci_advance_125 (by decide) (fun h125 => ?_) (fun h125 => ?_)
                · exact absurd h125 h40
                · refine go_aload_n hF d_Ci_advance_128 rfl ?_
                  refine go_aload_n hF d_Ci_advance_129 rfl ?_
                  refine go_iload hF d_Ci_advance_130 rfl ?_
                  refine go_callVX hF hE hlo d_Ci_advance_132 (con_Ci_takeHand (w := (sL u 0 ι 0 0 0 (whn u ι))) (h := a) (nh := nz (wI u 0 ι 4 0 0)) hlt ho h4.1 h4.2 ha2 ha3) mt_Ci_takeHand mv_Ci_takeHand lk_Ci_126 ⟨rfl, rfl, by decide, by decide⟩ rfl (Nat.le_of_ble_eq_true rfl) ⟨by decide, by decide⟩ (fun H hG => gw_recv (q := (R_Ci, T_Ci, 10)) hK hG ho rfl rfl (by decide) rfl) (fun M => gx_no) rfl (fun v => ?_)
                  refine go_and (fun hv => ?_)
                  rw [show wI (sL u 0 ι 0 0 0 (whn u ι)) 0 ι 6 0 a = nI (nz (wI u 0 ι 6 0 a)) from ha3.1] at hv
                  subst hv
                  refine go_callVX hF hE hlo d_Ci_advance_135 (con_Ci_refreshX (w := thX (sL u 0 ι 0 0 0 (whn u ι)) ι a) (q := nz (wI u 0 ι 6 0 a)) hlt ho ha3.2 (okC_th (okC_L ok) ha2)) mt_Ci_refresh mv_Ci_refresh lk_Ci_87 ⟨rfl, rfl, by decide, by decide⟩ rfl (Nat.le_of_ble_eq_true rfl) ⟨by decide, by decide⟩ (fun H hG => gw_recv (q := (R_Ci, T_Ci, 10)) hK hG ho rfl rfl (by decide) rfl) (fun M => gx_no) rfl (fun v => ?_)
                  refine go_and (fun hv => ?_)
                  subst hv
                  refine go_goto (tgt := 188) hF d_Ci_advance_138 (by decide) ?_
                  refine go_iincN hF d_Ci_advance_188 rfl (by decide) ?_
                  refine go_lv (lv' := [(0, _), (1, _), (3, _), (4, _), (5, _), (6, _), (7, _), (8, _)]) ⟨rfl, rfl, rfl, rfl, rfl, rfl, rfl, rfl, trivial⟩ ?_
                  refine go_goto (tgt := 5) hF d_Ci_advance_191 (by decide) ?_
                  refine go_lv (lv' := [(0, _), (1, _), (3, _), (4, _)]) ⟨rfl, rfl, rfl, rfl, trivial⟩ ?_
                  rw [if_neg (fun z => z.elim h85 (fun q => q h92)), if_pos hfx, ha] at hR
                  exact ih f (by omega) (came + 1) (ge1 u ι ge) _ (by omega) (by omega) (okC_rf (okC_th (okC_L ok) ha2)) hR
              · refine go_iconst (v := 0) hF d_Ci_advance_115 (by decide) ?_
                refine go_istore_n hF d_Ci_advance_116 (by decide) ?_
                refine go_lv (lv' := [(0, _), (1, _), (3, _), (4, _), (5, _), (6, _), (7, _), (8, _)]) ⟨rfl, rfl, rfl, rfl, rfl, rfl, rfl, rfl, trivial⟩ ?_
                refine go_lv (lv' := [(0, _), (1, _), (3, .int (nI (ge1 u ι ge))), (4, _), (5, _), (6, _), (7, _), (8, _)]) ⟨rfl, rfl, by unfold ge1; rw [if_neg h111]; rfl, rfl, rfl, rfl, rfl, rfl, trivial⟩ ?_
                refine go_aload_n hF d_Ci_advance_117 rfl ?_
                refine go_lload hF d_Ci_advance_118 rfl ?_
                refine gs_putl hF hK hlo d_Ci_advance_120 fl_Ci_50 ct_Ci fs_Ci_0 ho rfl rfl (by decide) rfl rfl ?_
                refine go_iload hF d_Ci_advance_123 rfl ?_
                refine go_if_eq (tgt := 141) hF d_Ci_advance_125 (by decide) (fun h125 => ?_) (fun h125 => ?_)
                · exact absurd h125 h40
                · refine go_aload_n hF d_Ci_advance_128 rfl ?_
                  refine go_aload_n hF d_Ci_advance_129 rfl ?_
                  refine go_iload hF d_Ci_advance_130 rfl ?_
                  refine go_callVX hF hE hlo d_Ci_advance_132 (con_Ci_takeHand (w := (sL u 0 ι 0 0 0 (whn u ι))) (h := a) (nh := nz (wI u 0 ι 4 0 0)) hlt ho h4.1 h4.2 ha2 ha3) mt_Ci_takeHand mv_Ci_takeHand lk_Ci_126 ⟨rfl, rfl, by decide, by decide⟩ rfl (Nat.le_of_ble_eq_true rfl) ⟨by decide, by decide⟩ (fun H hG => gw_recv (q := (R_Ci, T_Ci, 10)) hK hG ho rfl rfl (by decide) rfl) (fun M => gx_no) rfl (fun v => ?_)
                  refine go_and (fun hv => ?_)
                  rw [show wI (sL u 0 ι 0 0 0 (whn u ι)) 0 ι 6 0 a = nI (nz (wI u 0 ι 6 0 a)) from ha3.1] at hv
                  subst hv
                  refine go_callVX hF hE hlo d_Ci_advance_135 (con_Ci_refreshX (w := thX (sL u 0 ι 0 0 0 (whn u ι)) ι a) (q := nz (wI u 0 ι 6 0 a)) hlt ho ha3.2 (okC_th (okC_L ok) ha2)) mt_Ci_refresh mv_Ci_refresh lk_Ci_87 ⟨rfl, rfl, by decide, by decide⟩ rfl (Nat.le_of_ble_eq_true rfl) ⟨by decide, by decide⟩ (fun H hG => gw_recv (q := (R_Ci, T_Ci, 10)) hK hG ho rfl rfl (by decide) rfl) (fun M => gx_no) rfl (fun v => ?_)
                  refine go_and (fun hv => ?_)
                  subst hv
                  refine go_goto (tgt := 188) hF d_Ci_advance_138 (by decide) ?_
                  refine go_iincN hF d_Ci_advance_188 rfl (by decide) ?_
                  refine go_lv (lv' := [(0, _), (1, _), (3, _), (4, _), (5, _), (6, _), (7, _), (8, _)]) ⟨rfl, rfl, rfl, rfl, rfl, rfl, rfl, rfl, trivial⟩ ?_
                  refine go_goto (tgt := 5) hF d_Ci_advance_191 (by decide) ?_
                  refine go_lv (lv' := [(0, _), (1, _), (3, _), (4, _)]) ⟨rfl, rfl, rfl, rfl, trivial⟩ ?_
                  rw [if_neg (fun z => z.elim h85 (fun q => q h92)), if_pos hfx, ha] at hR
                  exact ih f (by omega) (came + 1) (ge1 u ι ge) _ (by omega) (by omega) (okC_rf (okC_th (okC_L ok) ha2)) hR
            · refine go_aload_n hF d_Ci_advance_96 rfl ?_
              refine go_lload_n hF d_Ci_advance_97 rfl ?_
              refine gs_putl hF hK hlo d_Ci_advance_98 fl_Ci_50 ct_Ci fs_Ci_0 ho rfl rfl (by decide) rfl rfl ?_
              refine go_iload hF d_Ci_advance_101 rfl ?_
              refine go_i2l hF d_Ci_advance_103 ?_
              exact go_lret hF hM d_Ci_advance_104 (by decide) (by decide) (fun H hG => by rw [if_pos (Or.inr h92)] at hR; exact ⟨by rw [← hR], by rw [← hR]; exact hG⟩)
  refine go_iconst (v := 0) hF d_Ci_advance_0 (by decide) ?_
  refine go_istore_n hF d_Ci_advance_1 (by decide) ?_
  refine go_lv (lv' := [(0, _), (1, _), (3, _)]) ⟨rfl, rfl, rfl, trivial⟩ ?_
  refine go_iconst (v := 0) hF d_Ci_advance_2 (by decide) ?_
  refine go_istore hF d_Ci_advance_3 (by decide) ?_
  refine go_lv (lv' := [(0, _), (1, _), (3, _), (4, _)]) ⟨rfl, rfl, rfl, rfl, trivial⟩ ?_
  exact L5 _ 0 0 w rfl (by omega) ok rfl
