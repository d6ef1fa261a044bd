/-- the first of p hand events -/
noncomputable def hpr (c : wdT) (ι p : Nat) : Option Nat := if p = 0 then none else some (hbs c ι (p - 1))
theorem hpr_n (c : wdT) (ι : Nat) : hpr c ι (cH c ι) = nxh c ι := rfl
theorem hpr_lt {c : wdT} {ι p b : Nat} (h : hpr c ι p = some b) : b < p := by
  unfold hpr at h
  split at h
  · cases h
  · have := hbs_le c ι (p - 1)
    cases h
    omega
theorem hpr_0 {c : wdT} {ι p : Nat} (h : hpr c ι p = none) : hpr c ι (p + 1) = some p := by
  unfold hpr at h ⊢
  split at h
  · rename_i e
    subst e
    rfl
  · cases h
theorem hpr_t {c : wdT} {ι p b : Nat} (h : hpr c ι p = some b) (ha : hAh c ι p b) : hpr c ι (p + 1) = some p := by
  unfold hpr at h ⊢
  split at h
  · cases h
  · obtain ⟨q, rfl⟩ : ∃ q, p = q + 1 := ⟨p - 1, by omega⟩
    cases h
    rw [if_neg (by omega)]
    show some (hbs c ι (q + 1)) = _
    rw [hbs_t ha]
theorem hpr_f {c : wdT} {ι p b : Nat} (h : hpr c ι p = some b) (ha : ¬ hAh c ι p b) : hpr c ι (p + 1) = some b := by
  unfold hpr at h ⊢
  split at h
  · cases h
  · obtain ⟨q, rfl⟩ : ∃ q, p = q + 1 := ⟨p - 1, by omega⟩
    cases h
    rw [if_neg (by omega)]
    show some (hbs c ι (q + 1)) = _
    rw [hbs_f ha]
    rfl
theorem oI_nn {o : Option Nat} (h : ¬ oI o < 0) : ∃ b, o = some b := by
  cases o with
  | none => exact absurd (by decide) h
  | some b => exact ⟨b, rfl⟩
theorem oI_ng {o : Option Nat} (hb : ∀ b, o = some b → b < 2 ^ 31) (h : oI o < 0) : o = none := by
  cases o with
  | none => rfl
  | some b => exact absurd h (nI_pos (hb b rfl))
theorem shF_0 (g : Nat → Int32) (a : Nat) : shF g a a = g := by
  funext i
  unfold shF
  rw [if_neg (by omega)]
theorem shF_s (g : Nat → Int32) {a k : Nat} (h : a ≤ k) : fu (shF g a k) k (shF g a k (k + 5)) = shF g a (k + 1) := by
  funext i
  unfold fu shF
  by_cases e : i = k
  · subst e
    rw [if_pos rfl, if_neg (by omega), if_pos (by omega)]
  · rw [if_neg e]
    by_cases e2 : a ≤ i ∧ i < k
    · rw [if_pos e2, if_pos (by omega)]
    · rw [if_neg e2, if_neg (by omega)]
theorem cN_th (c : wdT) (ι i : Nat) : cN (thX c ι i) ι = cN c ι := by
  unfold cN thX thW dpW
  rw [rd_II, if_neg (by omega), drW_I, if_neg (by omega), thN_I _ _ _ _ _ _ _ _ (by omega)]
theorem cN_tk (c : wdT) (ι i : Nat) : cN (tkW c ι i) ι = cN c ι := by
  unfold cN tkW
  simp only [rd_II, rd_IL]
  rw [if_neg (by omega), if_neg (by omega), if_neg (by omega)]
theorem tm_th (c : wdT) (ι i : Nat) : wL (thX c ι i) 0 ι 0 0 0 = wL c 0 ι 0 0 0 := by
  unfold thX thW dpW
  rw [rd_LI, drW_L, if_neg (by omega), thN_L]
theorem tm_tk (c : wdT) (ι i : Nat) : wL (tkW c ι i) 0 ι 0 0 0 = wL c 0 ι 0 0 0 := by
  unfold tkW
  simp only [rd_LL, rd_LI]
  rw [if_neg (by omega)]
theorem tm_rf (c : wdT) (ι q : Nat) : wL (rfX c ι q) 0 ι 0 0 0 = wL c 0 ι 0 0 0 := (qr_rfW c ι q _ _ _).2.1 0 ι 0 0 0 (by omega)
theorem tm_s (c : wdT) (ι : Nat) (t : Int64) : wL (sL c 0 ι 0 0 0 t) 0 ι 0 0 0 = t := by
  rw [rd_LL, if_pos (by simp)]
theorem out_M {x : Int32} (h : vn x 24) : (-1 - x).toInt64 = -1 - x.toInt64 := by
  have e : x.toInt = (nz x : Int) := by rw [h.1]; unfold nz; rw [nI_clamp (by have := h.2; omega), nI_toInt (by have := h.2; omega)]
  have hb : nz x < 24 := h.2
  apply Int64.toInt_inj.mp
  rw [x64, i32_sub (by rw [im1]; omega) (by rw [im1]; omega), i64_sub (by rw [x64, show (-1 : Int64).toInt = -1 by decide]; omega) (by rw [x64, show (-1 : Int64).toInt = -1 by decide]; omega), x64, im1, show (-1 : Int64).toInt = -1 by decide]
theorem dn_up {y : Int64} (h0 : 0 ≤ y.toInt) (h1 : y.toInt ≤ 1000000000) : y.toInt32.toInt64 = y ∧ y.toInt32.toInt = y.toInt := by
  have e : y.toInt32.toInt = y.toInt := by
    rw [Int64.toInt_toInt32]
    exact Int.bmod_eq_of_le (by omega) (by omega)
  exact ⟨Int64.toInt_inj.mp (by rw [x64, e]), e⟩

theorem ix700 {x : Int32} {n : Nat} (hx : x = nI n) : (700 : Int32) + 5 * x = nI (700 + 5 * n) := ixC hx
set_option maxHeartbeats 4000000 in
set_option maxRecDepth 100000 in
theorem con_Mo_nextHand {l : Launch} (hlt : l.stackTraces = false) {E : gE} {B : bsT} {N : nwT} {w : wdT} {f : Nat → Int32} (h4 : N.1 4 0 = true) {K : Nat} {c : wdT} {ι : Nat} (hR : Rel K c ι f) : Con l E y_Mo_nextHand (Cond.code y_Mo_nextHand c_Mo_nextHand 6 (some .int) :: gAll) rm_Mo_nextHand [.ref (ad B 4 0 0 0)] (gw E B N (mW w f)) (fun v H => v = some (.int (oI (nxh c ι))) ∧ gw E B N (mW w f) H) (fun _ _ => False) 0 0 := by
  refine con_of (by decide) hlt (Nat.le_of_ble_eq_true rfl) ?_
  intro F hF hM htab hnm hE hlo hl
  subst hl
  have hF : Fb F c_Mo_nextHand R_Mo 6 rm_Mo_nextHand := hF
  have hK := hE.1
  have hT := hE.2.1
  refine go_lv (lv' := [(0, _)]) ⟨rfl, trivial⟩ ?_
  have L4 : ∀ m p : Nat, cH c ι - p = m → p ≤ cH c ι → Go F 4 [(0, .ref (ad B 4 0 0 0)), (1, .int (oI (hpr c ι p))), (2, .int (nI p))] [] (gw E B N (mW w f)) 0 0 := by
    intro m
    induction m using Nat.strongRecOn with
    | _ m ih =>
      intro p hm hp
      have hg := Rel_h hR
      refine go_iload_n hF d_Mo_nextHand_4 rfl ?_
      refine go_aload_n hF d_Mo_nextHand_5 rfl ?_
      refine gs_getr hF hK d_Mo_nextHand_6 fl_Mo_7 h4 rfl rfl (by decide) rfl ?_
      refine go_iconst (v := 4) hF d_Mo_nextHand_9 (by decide) ?_
      refine gs_md hF hK hT d_Mo_nextHand_10 h4 (show (4 : Int32) = nI 4 from rfl) (by decide) ?_
      refine go_icmp_ge (tgt := 151) hF d_Mo_nextHand_11 (by decide) (fun h11 => ?_) (fun h11 => ?_)
      · refine go_iload_n hF d_Mo_nextHand_151 rfl ?_
        exact go_iret hF hM d_Mo_nextHand_152 (by decide) (by decide) (fun H hG => ⟨by have e := nI_g2 hg (by decide) hp h11; subst e; rfl, hG⟩)
      · have hp2 : p < cH c ι := nI_l2 hg (by decide) hp h11
        refine go_sipush (v := 700) hF d_Mo_nextHand_14 (by decide) ?_
        refine go_iconst (v := 5) hF d_Mo_nextHand_17 (by decide) ?_
        refine go_iload_n hF d_Mo_nextHand_18 rfl ?_
        refine go_imul hF d_Mo_nextHand_19 ?_
        refine go_iadd hF d_Mo_nextHand_20 ?_
        refine go_istore_n hF d_Mo_nextHand_21 (by decide) ?_
        refine go_lv (lv' := [(0, _), (1, _), (2, _), (3, _)]) ⟨rfl, rfl, rfl, rfl, trivial⟩ ?_
        refine go_sipush (v := 700) hF d_Mo_nextHand_22 (by decide) ?_
        refine go_iconst (v := 5) hF d_Mo_nextHand_25 (by decide) ?_
        refine go_iload_n hF d_Mo_nextHand_26 rfl ?_
        refine go_imul hF d_Mo_nextHand_27 ?_
        refine go_iadd hF d_Mo_nextHand_28 ?_
        refine go_istore hF d_Mo_nextHand_29 (by decide) ?_
        refine go_lv (lv' := [(0, _), (1, _), (2, _), (3, _), (4, _)]) ⟨rfl, rfl, rfl, rfl, rfl, trivial⟩ ?_
        refine go_iload_n hF d_Mo_nextHand_31 rfl ?_
        refine go_if_lt (tgt := 127) hF d_Mo_nextHand_32 (by decide) (fun h32 => ?_) (fun h32 => ?_)
        · refine go_iconst (v := 1) hF d_Mo_nextHand_127 (by decide) ?_
          refine go_goto (tgt := 132) hF d_Mo_nextHand_128 (by decide) ?_
          refine go_istore hF d_Mo_nextHand_132 (by decide) ?_
          refine go_lv (lv' := [(0, _), (1, _), (2, _), (3, _), (4, _), (5, _)]) ⟨rfl, rfl, rfl, rfl, rfl, rfl, trivial⟩ ?_
          refine go_iload hF d_Mo_nextHand_134 rfl ?_
          refine go_if_eq (tgt := 143) hF d_Mo_nextHand_136 (by decide) (fun h136 => ?_) (fun h136 => ?_)
          · exact absurd h136 (by decide)
          · refine go_iload_n hF d_Mo_nextHand_139 rfl ?_
            refine go_goto (tgt := 144) hF d_Mo_nextHand_140 (by decide) ?_
            refine go_istore_n hF d_Mo_nextHand_144 (by decide) ?_
            refine go_lv (lv' := [(0, _), (1, _), (2, _), (3, _), (4, _), (5, _)]) ⟨rfl, rfl, rfl, rfl, rfl, rfl, trivial⟩ ?_
            refine go_iincN hF d_Mo_nextHand_145 rfl (by decide) ?_
            refine go_lv (lv' := [(0, _), (1, _), (2, _), (3, _), (4, _), (5, _)]) ⟨rfl, rfl, rfl, rfl, rfl, rfl, trivial⟩ ?_
            refine go_goto (tgt := 4) hF d_Mo_nextHand_148 (by decide) ?_
            refine go_lv (lv' := [(0, _), (1, .int (oI (hpr c ι (p + 1)))), (2, .int (nI (p + 1)))]) ⟨rfl, by rw [hpr_0 (oI_ng (fun b hb => by have := hpr_lt hb; have := hg.2; omega) h32)]; rfl, rfl, trivial⟩ ?_
            exact ih _ (by omega) (p + 1) rfl (by omega)
        · obtain ⟨b, hb⟩ := oI_nn h32
          have hbp := hpr_lt hb
          have hbo : oI (hpr c ι p) = nI b := by rw [hb]; rfl
          refine go_aload_n hF d_Mo_nextHand_35 rfl ?_
          refine gs_getr hF hK d_Mo_nextHand_36 fl_Mo_7 h4 rfl rfl (by decide) rfl ?_
          refine go_iload_n hF d_Mo_nextHand_39 rfl ?_
          refine gs_md hF hK hT d_Mo_nextHand_40 h4 (show _ = nI (700 + 5 * p + 0) from (ixC (a := 700) (b := 5) (n := p) rfl)) (by have := hg.2; omega) ?_
          refine go_aload_n hF d_Mo_nextHand_41 rfl ?_
          refine gs_getr hF hK d_Mo_nextHand_42 fl_Mo_7 h4 rfl rfl (by decide) rfl ?_
          refine go_iload hF d_Mo_nextHand_45 rfl ?_
          refine gs_md hF hK hT d_Mo_nextHand_47 h4 (show _ = nI (700 + 5 * b + 0) from (ixC (a := 700) (b := 5) (n := b) hbo)) (by have := hg.2; omega) ?_
          refine go_icmp_lt (tgt := 127) hF d_Mo_nextHand_48 (by decide) (fun h48 => ?_) (fun h48 => ?_)
          · refine go_iconst (v := 1) hF d_Mo_nextHand_127 (by decide) ?_
            refine go_goto (tgt := 132) hF d_Mo_nextHand_128 (by decide) ?_
            refine go_istore hF d_Mo_nextHand_132 (by decide) ?_
            refine go_lv (lv' := [(0, _), (1, _), (2, _), (3, _), (4, _), (5, _)]) ⟨rfl, rfl, rfl, rfl, rfl, rfl, trivial⟩ ?_
            refine go_iload hF d_Mo_nextHand_134 rfl ?_
            refine go_if_eq (tgt := 143) hF d_Mo_nextHand_136 (by decide) (fun h136 => ?_) (fun h136 => ?_)
            · exact absurd h136 (by decide)
            · refine go_iload_n hF d_Mo_nextHand_139 rfl ?_
              refine go_goto (tgt := 144) hF d_Mo_nextHand_140 (by decide) ?_
              refine go_istore_n hF d_Mo_nextHand_144 (by decide) ?_
              refine go_lv (lv' := [(0, _), (1, _), (2, _), (3, _), (4, _), (5, _)]) ⟨rfl, rfl, rfl, rfl, rfl, rfl, trivial⟩ ?_
              refine go_iincN hF d_Mo_nextHand_145 rfl (by decide) ?_
              refine go_lv (lv' := [(0, _), (1, _), (2, _), (3, _), (4, _), (5, _)]) ⟨rfl, rfl, rfl, rfl, rfl, rfl, trivial⟩ ?_
              refine go_goto (tgt := 4) hF d_Mo_nextHand_148 (by decide) ?_
              refine go_lv (lv' := [(0, _), (1, .int (oI (hpr c ι (p + 1)))), (2, .int (nI (p + 1)))]) ⟨rfl, by rw [hpr_t hb ((Rel_hA hR hbp hp2).mp (Or.inl h48))]; rfl, rfl, trivial⟩ ?_
              exact ih _ (by omega) (p + 1) rfl (by omega)
          · refine go_aload_n hF d_Mo_nextHand_51 rfl ?_
            refine gs_getr hF hK d_Mo_nextHand_52 fl_Mo_7 h4 rfl rfl (by decide) rfl ?_
            refine go_iload_n hF d_Mo_nextHand_55 rfl ?_
            refine gs_md hF hK hT d_Mo_nextHand_56 h4 (show _ = nI (700 + 5 * p + 0) from (ixC (a := 700) (b := 5) (n := p) rfl)) (by have := hg.2; omega) ?_
            refine go_aload_n hF d_Mo_nextHand_57 rfl ?_
            refine gs_getr hF hK d_Mo_nextHand_58 fl_Mo_7 h4 rfl rfl (by decide) rfl ?_
            refine go_iload hF d_Mo_nextHand_61 rfl ?_
            refine gs_md hF hK hT d_Mo_nextHand_63 h4 (show _ = nI (700 + 5 * b + 0) from (ixC (a := 700) (b := 5) (n := b) hbo)) (by have := hg.2; omega) ?_
            refine go_icmp_ne (tgt := 131) hF d_Mo_nextHand_64 (by decide) (fun h64 => ?_) (fun h64 => ?_)
            · refine go_iconst (v := 0) hF d_Mo_nextHand_131 (by decide) ?_
              refine go_istore hF d_Mo_nextHand_132 (by decide) ?_
              refine go_lv (lv' := [(0, _), (1, _), (2, _), (3, _), (4, _), (5, _)]) ⟨rfl, rfl, rfl, rfl, rfl, rfl, trivial⟩ ?_
              refine go_iload hF d_Mo_nextHand_134 rfl ?_
              refine go_if_eq (tgt := 143) hF d_Mo_nextHand_136 (by decide) (fun h136 => ?_) (fun h136 => ?_)
              · refine go_iload_n hF d_Mo_nextHand_143 rfl ?_
                refine go_istore_n hF d_Mo_nextHand_144 (by decide) ?_
                refine go_lv (lv' := [(0, _), (1, _), (2, _), (3, _), (4, _), (5, _)]) ⟨rfl, rfl, rfl, rfl, rfl, rfl, trivial⟩ ?_
                refine go_iincN hF d_Mo_nextHand_145 rfl (by decide) ?_
                refine go_lv (lv' := [(0, _), (1, _), (2, _), (3, _), (4, _), (5, _)]) ⟨rfl, rfl, rfl, rfl, rfl, rfl, trivial⟩ ?_
                refine go_goto (tgt := 4) hF d_Mo_nextHand_148 (by decide) ?_
                refine go_lv (lv' := [(0, _), (1, .int (oI (hpr c ι (p + 1)))), (2, .int (nI (p + 1)))]) ⟨rfl, by rw [hpr_f hb (fun z => (fun z => z.elim h48 (fun z => h64 z.1)) ((Rel_hA hR hbp hp2).mpr z)), hb]; rfl, rfl, trivial⟩ ?_
                exact ih _ (by omega) (p + 1) rfl (by omega)
              · exact absurd rfl h136
            · refine go_aload_n hF d_Mo_nextHand_67 rfl ?_
              refine gs_getr hF hK d_Mo_nextHand_68 fl_Mo_7 h4 rfl rfl (by decide) rfl ?_
              refine go_iload_n hF d_Mo_nextHand_71 rfl ?_
              refine go_iconst (v := 1) hF d_Mo_nextHand_72 (by decide) ?_
              refine go_iadd hF d_Mo_nextHand_73 ?_
              refine gs_md hF hK hT d_Mo_nextHand_74 h4 (ix1 (k := 1) (ixC (a := 700) (b := 5) (n := p) rfl)) (by have := hg.2; omega) ?_
              refine go_aload_n hF d_Mo_nextHand_75 rfl ?_
              refine gs_getr hF hK d_Mo_nextHand_76 fl_Mo_7 h4 rfl rfl (by decide) rfl ?_
              refine go_iload hF d_Mo_nextHand_79 rfl ?_
              refine go_iconst (v := 1) hF d_Mo_nextHand_81 (by decide) ?_
              refine go_iadd hF d_Mo_nextHand_82 ?_
              refine gs_md hF hK hT d_Mo_nextHand_83 h4 (ix1 (k := 1) (ixC (a := 700) (b := 5) (n := b) hbo)) (by have := hg.2; omega) ?_
              refine go_icmp_lt (tgt := 127) hF d_Mo_nextHand_84 (by decide) (fun h84 => ?_) (fun h84 => ?_)
              · refine go_iconst (v := 1) hF d_Mo_nextHand_127 (by decide) ?_
                refine go_goto (tgt := 132) hF d_Mo_nextHand_128 (by decide) ?_
                refine go_istore hF d_Mo_nextHand_132 (by decide) ?_
                refine go_lv (lv' := [(0, _), (1, _), (2, _), (3, _), (4, _), (5, _)]) ⟨rfl, rfl, rfl, rfl, rfl, rfl, trivial⟩ ?_
                refine go_iload hF d_Mo_nextHand_134 rfl ?_
                refine go_if_eq (tgt := 143) hF d_Mo_nextHand_136 (by decide) (fun h136 => ?_) (fun h136 => ?_)
                · exact absurd h136 (by decide)
                · refine go_iload_n hF d_Mo_nextHand_139 rfl ?_
                  refine go_goto (tgt := 144) hF d_Mo_nextHand_140 (by decide) ?_
                  refine go_istore_n hF d_Mo_nextHand_144 (by decide) ?_
                  refine go_lv (lv' := [(0, _), (1, _), (2, _), (3, _), (4, _), (5, _)]) ⟨rfl, rfl, rfl, rfl, rfl, rfl, trivial⟩ ?_
                  refine go_iincN hF d_Mo_nextHand_145 rfl (by decide) ?_
                  refine go_lv (lv' := [(0, _), (1, _), (2, _), (3, _), (4, _), (5, _)]) ⟨rfl, rfl, rfl, rfl, rfl, rfl, trivial⟩ ?_
                  refine go_goto (tgt := 4) hF d_Mo_nextHand_148 (by decide) ?_
                  refine go_lv (lv' := [(0, _), (1, .int (oI (hpr c ι (p + 1)))), (2, .int (nI (p + 1)))]) ⟨rfl, by rw [hpr_t hb ((Rel_hA hR hbp hp2).mp (Or.inr ⟨h64, Or.inl h84⟩))]; rfl, rfl, trivial⟩ ?_
                  exact ih _ (by omega) (p + 1) rfl (by omega)
              · refine go_aload_n hF d_Mo_nextHand_87 rfl ?_
                refine gs_getr hF hK d_Mo_nextHand_88 fl_Mo_7 h4 rfl rfl (by decide) rfl ?_
                refine go_iload_n hF d_Mo_nextHand_91 rfl ?_
                refine go_iconst (v := 1) hF d_Mo_nextHand_92 (by decide) ?_
                refine go_iadd hF d_Mo_nextHand_93 ?_
                refine gs_md hF hK hT d_Mo_nextHand_94 h4 (ix1 (k := 1) (ixC (a := 700) (b := 5) (n := p) rfl)) (by have := hg.2; omega) ?_
                refine go_aload_n hF d_Mo_nextHand_95 rfl ?_
                refine gs_getr hF hK d_Mo_nextHand_96 fl_Mo_7 h4 rfl rfl (by decide) rfl ?_
                refine go_iload hF d_Mo_nextHand_99 rfl ?_
                refine go_iconst (v := 1) hF d_Mo_nextHand_101 (by decide) ?_
                refine go_iadd hF d_Mo_nextHand_102 ?_
                refine gs_md hF hK hT d_Mo_nextHand_103 h4 (ix1 (k := 1) (ixC (a := 700) (b := 5) (n := b) hbo)) (by have := hg.2; omega) ?_
                refine go_icmp_ne (tgt := 131) hF d_Mo_nextHand_104 (by decide) (fun h104 => ?_) (fun h104 => ?_)
                · refine go_iconst (v := 0) hF d_Mo_nextHand_131 (by decide) ?_
                  refine go_istore hF d_Mo_nextHand_132 (by decide) ?_
                  refine go_lv (lv' := [(0, _), (1, _), (2, _), (3, _), (4, _), (5, _)]) ⟨rfl, rfl, rfl, rfl, rfl, rfl, trivial⟩ ?_
                  refine go_iload hF d_Mo_nextHand_134 rfl ?_
                  refine go_if_eq (tgt := 143) hF d_Mo_nextHand_136 (by decide) (fun h136 => ?_) (fun h136 => ?_)
                  · refine go_iload_n hF d_Mo_nextHand_143 rfl ?_
                    refine go_istore_n hF d_Mo_nextHand_144 (by decide) ?_
                    refine go_lv (lv' := [(0, _), (1, _), (2, _), (3, _), (4, _), (5, _)]) ⟨rfl, rfl, rfl, rfl, rfl, rfl, trivial⟩ ?_
                    refine go_iincN hF d_Mo_nextHand_145 rfl (by decide) ?_
                    refine go_lv (lv' := [(0, _), (1, _), (2, _), (3, _), (4, _), (5, _)]) ⟨rfl, rfl, rfl, rfl, rfl, rfl, trivial⟩ ?_
                    refine go_goto (tgt := 4) hF d_Mo_nextHand_148 (by decide) ?_
                    refine go_lv (lv' := [(0, _), (1, .int (oI (hpr c ι (p + 1)))), (2, .int (nI (p + 1)))]) ⟨rfl, by rw [hpr_f hb (fun z => (fun z => z.elim h48 (fun z => z.2.elim h84 (fun z => h104 z.1))) ((Rel_hA hR hbp hp2).mpr z)), hb]; rfl, rfl, trivial⟩ ?_
                    exact ih _ (by omega) (p + 1) rfl (by omega)
                  · exact absurd rfl h136
                · refine go_aload_n hF d_Mo_nextHand_107 rfl ?_
                  refine gs_getr hF hK d_Mo_nextHand_108 fl_Mo_7 h4 rfl rfl (by decide) rfl ?_
                  refine go_iload_n hF d_Mo_nextHand_111 rfl ?_
                  refine go_iconst (v := 4) hF d_Mo_nextHand_112 (by decide) ?_
                  refine go_iadd hF d_Mo_nextHand_113 ?_
                  refine gs_md hF hK hT d_Mo_nextHand_114 h4 (ix1 (k := 4) (ixC (a := 700) (b := 5) (n := p) rfl)) (by have := hg.2; omega) ?_
                  refine go_aload_n hF d_Mo_nextHand_115 rfl ?_
                  refine gs_getr hF hK d_Mo_nextHand_116 fl_Mo_7 h4 rfl rfl (by decide) rfl ?_
                  refine go_iload hF d_Mo_nextHand_119 rfl ?_
                  refine go_iconst (v := 4) hF d_Mo_nextHand_121 (by decide) ?_
                  refine go_iadd hF d_Mo_nextHand_122 ?_
                  refine gs_md hF hK hT d_Mo_nextHand_123 h4 (ix1 (k := 4) (ixC (a := 700) (b := 5) (n := b) hbo)) (by have := hg.2; omega) ?_
                  refine go_icmp_ge (tgt := 131) hF d_Mo_nextHand_124 (by decide) (fun h124 => ?_) (fun h124 => ?_)
                  · refine go_iconst (v := 0) hF d_Mo_nextHand_131 (by decide) ?_
                    refine go_istore hF d_Mo_nextHand_132 (by decide) ?_
                    refine go_lv (lv' := [(0, _), (1, _), (2, _), (3, _), (4, _), (5, _)]) ⟨rfl, rfl, rfl, rfl, rfl, rfl, trivial⟩ ?_
                    refine go_iload hF d_Mo_nextHand_134 rfl ?_
                    refine go_if_eq (tgt := 143) hF d_Mo_nextHand_136 (by decide) (fun h136 => ?_) (fun h136 => ?_)
                    · refine go_iload_n hF d_Mo_nextHand_143 rfl ?_
                      refine go_istore_n hF d_Mo_nextHand_144 (by decide) ?_
                      refine go_lv (lv' := [(0, _), (1, _), (2, _), (3, _), (4, _), (5, _)]) ⟨rfl, rfl, rfl, rfl, rfl, rfl, trivial⟩ ?_
                      refine go_iincN hF d_Mo_nextHand_145 rfl (by decide) ?_
                      refine go_lv (lv' := [(0, _), (1, _), (2, _), (3, _), (4, _), (5, _)]) ⟨rfl, rfl, rfl, rfl, rfl, rfl, trivial⟩ ?_
                      refine go_goto (tgt := 4) hF d_Mo_nextHand_148 (by decide) ?_
                      refine go_lv (lv' := [(0, _), (1, .int (oI (hpr c ι (p + 1)))), (2, .int (nI (p + 1)))]) ⟨rfl, by rw [hpr_f hb (fun z => (fun z => z.elim h48 (fun z => z.2.elim h84 (fun z => ge_nlt h124 z.2))) ((Rel_hA hR hbp hp2).mpr z)), hb]; rfl, rfl, trivial⟩ ?_
                      exact ih _ (by omega) (p + 1) rfl (by omega)
                    · exact absurd rfl h136
                  · refine go_iconst (v := 1) hF d_Mo_nextHand_127 (by decide) ?_
                    refine go_goto (tgt := 132) hF d_Mo_nextHand_128 (by decide) ?_
                    refine go_istore hF d_Mo_nextHand_132 (by decide) ?_
                    refine go_lv (lv' := [(0, _), (1, _), (2, _), (3, _), (4, _), (5, _)]) ⟨rfl, rfl, rfl, rfl, rfl, rfl, trivial⟩ ?_
                    refine go_iload hF d_Mo_nextHand_134 rfl ?_
                    refine go_if_eq (tgt := 143) hF d_Mo_nextHand_136 (by decide) (fun h136 => ?_) (fun h136 => ?_)
                    · exact absurd h136 (by decide)
                    · refine go_iload_n hF d_Mo_nextHand_139 rfl ?_
                      refine go_goto (tgt := 144) hF d_Mo_nextHand_140 (by decide) ?_
                      refine go_istore_n hF d_Mo_nextHand_144 (by decide) ?_
                      refine go_lv (lv' := [(0, _), (1, _), (2, _), (3, _), (4, _), (5, _)]) ⟨rfl, rfl, rfl, rfl, rfl, rfl, trivial⟩ ?_
                      refine go_iincN hF d_Mo_nextHand_145 rfl (by decide) ?_
                      refine go_lv (lv' := [(0, _), (1, _), (2, _), (3, _), (4, _), (5, _)]) ⟨rfl, rfl, rfl, rfl, rfl, rfl, trivial⟩ ?_
                      refine go_goto (tgt := 4) hF d_Mo_nextHand_148 (by decide) ?_
                      refine go_lv (lv' := [(0, _), (1, .int (oI (hpr c ι (p + 1)))), (2, .int (nI (p + 1)))]) ⟨rfl, by rw [hpr_t hb ((Rel_hA hR hbp hp2).mp (Or.inr ⟨h64, Or.inr ⟨h104, nle_lt h124⟩⟩))]; rfl, rfl, trivial⟩ ?_
                      exact ih _ (by omega) (p + 1) rfl (by omega)
  refine go_iconst (v := -1) hF d_Mo_nextHand_0 (by decide) ?_
  refine go_istore_n hF d_Mo_nextHand_1 (by decide) ?_
  refine go_lv (lv' := [(0, _), (1, _)]) ⟨rfl, rfl, trivial⟩ ?_
  refine go_iconst (v := 0) hF d_Mo_nextHand_2 (by decide) ?_
  refine go_istore_n hF d_Mo_nextHand_3 (by decide) ?_
  refine go_lv (lv' := [(0, _), (1, _), (2, _)]) ⟨rfl, rfl, rfl, trivial⟩ ?_
  exact L4 _ 0 rfl (Nat.zero_le _)
set_option maxHeartbeats 4000000 in
set_option maxRecDepth 100000 in
theorem con_Mo_nextGate {l : Launch} (hlt : l.stackTraces = false) {E : gE} {B : bsT} {N : nwT} {w : wdT} {f : Nat → Int32} (h4 : N.1 4 0 = true) {K : Nat} {c : wdT} {ι : Nat} (hR : Rel K c ι f) : Con l E y_Mo_nextGate (Cond.code y_Mo_nextGate c_Mo_nextGate 4 (some .int) :: gAll) rm_Mo_nextGate [.ref (ad B 4 0 0 0)] (gw E B N (mW w f)) (fun v H => v = some (.int (oI (nxg c ι))) ∧ gw E B N (mW w f) H) (fun _ _ => False) 0 0 := by
  refine con_of (by decide) hlt (Nat.le_of_ble_eq_true rfl) ?_
  intro F hF hM htab hnm hE hlo hl
  subst hl
  have hF : Fb F c_Mo_nextGate R_Mo 4 rm_Mo_nextGate := hF
  have hK := hE.1
  have hT := hE.2.1
  refine go_lv (lv' := [(0, _)]) ⟨rfl, trivial⟩ ?_
  have L4 : ∀ m p : Nat, cG c ι - p = m → p ≤ cG c ι → Go F 4 [(0, .ref (ad B 4 0 0 0)), (1, .int (oI (gbs c ι p))), (2, .int (nI p))] [] (gw E B N (mW w f)) 0 0 := by
    intro m
    induction m using Nat.strongRecOn with
    | _ m ih =>
      intro p hm hp
      have hg := Rel_g hR
      refine go_iload_n hF d_Mo_nextGate_4 rfl ?_
      refine go_aload_n hF d_Mo_nextGate_5 rfl ?_
      refine gs_getr hF hK d_Mo_nextGate_6 fl_Mo_7 h4 rfl rfl (by decide) rfl ?_
      refine go_iconst (v := 3) hF d_Mo_nextGate_9 (by decide) ?_
      refine gs_md hF hK hT d_Mo_nextGate_10 h4 (show (3 : Int32) = nI 3 from rfl) (by decide) ?_
      refine go_icmp_ge (tgt := 100) hF d_Mo_nextGate_11 (by decide) (fun h11 => ?_) (fun h11 => ?_)
      · refine go_iload_n hF d_Mo_nextGate_100 rfl ?_
        exact go_iret hF hM d_Mo_nextGate_101 (by decide) (by decide) (fun H hG => ⟨by have e := nI_g2 hg (by decide) hp h11; subst e; rfl, hG⟩)
      · have hp2 : p < cG c ι := nI_l2 hg (by decide) hp h11
        have e7 := (hR.2.2.2.1 p hp2).1.2.2.2.2.2.2.2.1
        refine go_aload_n hF d_Mo_nextGate_14 rfl ?_
        refine go_iload_n hF d_Mo_nextGate_15 rfl ?_
        refine go_bipush (v := 7) hF d_Mo_nextGate_16 (by decide) ?_
        refine go_callVX hF hE hlo d_Mo_nextGate_18 (con_Mo_ofGate hlt h4 (k := 7) rfl (by have := hg.2; omega) rfl (by decide)) mt_Mo_ofGate mv_Mo_ofGate lk_Mo_36 ⟨rfl, rfl, by decide, by decide⟩ rfl (Nat.le_of_ble_eq_true rfl) ⟨by decide, by decide⟩ (fun H hG => gw_recv (q := (R_Mo, T_Mo, 9)) hK hG h4 rfl rfl (by decide) rfl) (fun M => gx_no) rfl (fun v => ?_)
        refine go_and (fun hv => ?_)
        subst hv
        refine go_iconst (v := -1) hF d_Mo_nextGate_21 (by decide) ?_
        refine go_icmp_eq (tgt := 94) hF d_Mo_nextGate_22 (by decide) (fun h22 => ?_) (fun h22 => ?_)
        · refine go_iincN hF d_Mo_nextGate_94 rfl (by decide) ?_
          refine go_lv (lv' := [(0, _), (1, _), (2, _)]) ⟨rfl, rfl, rfl, trivial⟩ ?_
          refine go_goto (tgt := 4) hF d_Mo_nextGate_97 (by decide) ?_
          refine go_lv (lv' := [(0, _), (1, .int (oI (gbs c ι (p + 1)))), (2, .int (nI (p + 1)))]) ⟨rfl, by rw [gbs_f (fun z => z.1 (by rw [← e7]; exact h22))]; rfl, rfl, trivial⟩ ?_
          exact ih _ (by omega) (p + 1) rfl (by omega)
        · refine go_iload_n hF d_Mo_nextGate_25 rfl ?_
          refine go_if_lt (tgt := 78) hF d_Mo_nextGate_26 (by decide) (fun h26 => ?_) (fun h26 => ?_)
          · refine go_iconst (v := 1) hF d_Mo_nextGate_78 (by decide) ?_
            refine go_goto (tgt := 83) hF d_Mo_nextGate_79 (by decide) ?_
            refine go_istore_n hF d_Mo_nextGate_83 (by decide) ?_
            refine go_lv (lv' := [(0, _), (1, _), (2, _), (3, _)]) ⟨rfl, rfl, rfl, rfl, trivial⟩ ?_
            refine go_iload_n hF d_Mo_nextGate_84 rfl ?_
            refine go_if_eq (tgt := 92) hF d_Mo_nextGate_85 (by decide) (fun h85 => ?_) (fun h85 => ?_)
            · exact absurd h85 (by decide)
            · refine go_iload_n hF d_Mo_nextGate_88 rfl ?_
              refine go_goto (tgt := 93) hF d_Mo_nextGate_89 (by decide) ?_
              refine go_istore_n hF d_Mo_nextGate_93 (by decide) ?_
              refine go_lv (lv' := [(0, _), (1, _), (2, _), (3, _)]) ⟨rfl, rfl, rfl, rfl, trivial⟩ ?_
              refine go_iincN hF d_Mo_nextGate_94 rfl (by decide) ?_
              refine go_lv (lv' := [(0, _), (1, _), (2, _), (3, _)]) ⟨rfl, rfl, rfl, rfl, trivial⟩ ?_
              refine go_goto (tgt := 4) hF d_Mo_nextGate_97 (by decide) ?_
              refine go_lv (lv' := [(0, _), (1, .int (oI (gbs c ι (p + 1)))), (2, .int (nI (p + 1)))]) ⟨rfl, by rw [gbs_t ⟨by rw [← e7]; exact h22, by rw [oI_ng (fun b hb => by have := gbs_lt c ι p b hb; have := hg.2; omega) h26]; trivial⟩]; rfl, rfl, trivial⟩ ?_
              exact ih _ (by omega) (p + 1) rfl (by omega)
          · obtain ⟨b, hb⟩ := oI_nn h26
            have hbp : b < cG c ι := by have := gbs_lt c ι p b hb; omega
            have hbo : oI (gbs c ι p) = nI b := by rw [hb]; rfl
            have hw7 : ¬ wI c 0 ι 14 7 p = -1 := by rw [← e7]; exact h22
            refine go_aload_n hF d_Mo_nextGate_29 rfl ?_
            refine go_iload_n hF d_Mo_nextGate_30 rfl ?_
            refine go_bipush (v := 8) hF d_Mo_nextGate_31 (by decide) ?_
            refine go_callVX hF hE hlo d_Mo_nextGate_33 (con_Mo_ofGate hlt h4 (k := 8) rfl (by have := hg.2; omega) rfl (by decide)) mt_Mo_ofGate mv_Mo_ofGate lk_Mo_36 ⟨rfl, rfl, by decide, by decide⟩ rfl (Nat.le_of_ble_eq_true rfl) ⟨by decide, by decide⟩ (fun H hG => gw_recv (q := (R_Mo, T_Mo, 9)) hK hG h4 rfl rfl (by decide) rfl) (fun M => gx_no) rfl (fun v => ?_)
            refine go_and (fun hv => ?_)
            subst hv
            refine go_aload_n hF d_Mo_nextGate_36 rfl ?_
            refine go_iload_n hF d_Mo_nextGate_37 rfl ?_
            refine go_bipush (v := 8) hF d_Mo_nextGate_38 (by decide) ?_
            refine go_callVX hF hE hlo d_Mo_nextGate_40 (con_Mo_ofGate hlt h4 (k := 8) hbo (by have := hg.2; omega) rfl (by decide)) mt_Mo_ofGate mv_Mo_ofGate lk_Mo_36 ⟨rfl, rfl, by decide, by decide⟩ rfl (Nat.le_of_ble_eq_true rfl) ⟨by decide, by decide⟩ (fun H hG => gw_recv (q := (R_Mo, T_Mo, 9)) hK hG h4 rfl rfl (by decide) rfl) (fun M => gx_no) rfl (fun v => ?_)
            refine go_and (fun hv => ?_)
            subst hv
            refine go_icmp_lt (tgt := 78) hF d_Mo_nextGate_43 (by decide) (fun h43 => ?_) (fun h43 => ?_)
            · refine go_iconst (v := 1) hF d_Mo_nextGate_78 (by decide) ?_
              refine go_goto (tgt := 83) hF d_Mo_nextGate_79 (by decide) ?_
              refine go_istore_n hF d_Mo_nextGate_83 (by decide) ?_
              refine go_lv (lv' := [(0, _), (1, _), (2, _), (3, _)]) ⟨rfl, rfl, rfl, rfl, trivial⟩ ?_
              refine go_iload_n hF d_Mo_nextGate_84 rfl ?_
              refine go_if_eq (tgt := 92) hF d_Mo_nextGate_85 (by decide) (fun h85 => ?_) (fun h85 => ?_)
              · exact absurd h85 (by decide)
              · refine go_iload_n hF d_Mo_nextGate_88 rfl ?_
                refine go_goto (tgt := 93) hF d_Mo_nextGate_89 (by decide) ?_
                refine go_istore_n hF d_Mo_nextGate_93 (by decide) ?_
                refine go_lv (lv' := [(0, _), (1, _), (2, _), (3, _)]) ⟨rfl, rfl, rfl, rfl, trivial⟩ ?_
                refine go_iincN hF d_Mo_nextGate_94 rfl (by decide) ?_
                refine go_lv (lv' := [(0, _), (1, _), (2, _), (3, _)]) ⟨rfl, rfl, rfl, rfl, trivial⟩ ?_
                refine go_goto (tgt := 4) hF d_Mo_nextGate_97 (by decide) ?_
                refine go_lv (lv' := [(0, _), (1, .int (oI (gbs c ι (p + 1)))), (2, .int (nI (p + 1)))]) ⟨rfl, by rw [gbs_t ⟨hw7, by rw [hb]; exact (Rel_gA hR hp2 hbp hw7 (gbs_wt c ι p b hb)).mp (Or.inl h43)⟩]; rfl, rfl, trivial⟩ ?_
                exact ih _ (by omega) (p + 1) rfl (by omega)
            · refine go_aload_n hF d_Mo_nextGate_46 rfl ?_
              refine go_iload_n hF d_Mo_nextGate_47 rfl ?_
              refine go_bipush (v := 8) hF d_Mo_nextGate_48 (by decide) ?_
              refine go_callVX hF hE hlo d_Mo_nextGate_50 (con_Mo_ofGate hlt h4 (k := 8) rfl (by have := hg.2; omega) rfl (by decide)) mt_Mo_ofGate mv_Mo_ofGate lk_Mo_36 ⟨rfl, rfl, by decide, by decide⟩ rfl (Nat.le_of_ble_eq_true rfl) ⟨by decide, by decide⟩ (fun H hG => gw_recv (q := (R_Mo, T_Mo, 9)) hK hG h4 rfl rfl (by decide) rfl) (fun M => gx_no) rfl (fun v => ?_)
              refine go_and (fun hv => ?_)
              subst hv
              refine go_aload_n hF d_Mo_nextGate_53 rfl ?_
              refine go_iload_n hF d_Mo_nextGate_54 rfl ?_
              refine go_bipush (v := 8) hF d_Mo_nextGate_55 (by decide) ?_
              refine go_callVX hF hE hlo d_Mo_nextGate_57 (con_Mo_ofGate hlt h4 (k := 8) hbo (by have := hg.2; omega) rfl (by decide)) mt_Mo_ofGate mv_Mo_ofGate lk_Mo_36 ⟨rfl, rfl, by decide, by decide⟩ rfl (Nat.le_of_ble_eq_true rfl) ⟨by decide, by decide⟩ (fun H hG => gw_recv (q := (R_Mo, T_Mo, 9)) hK hG h4 rfl rfl (by decide) rfl) (fun M => gx_no) rfl (fun v => ?_)
              refine go_and (fun hv => ?_)
              subst hv
              refine go_icmp_ne (tgt := 82) hF d_Mo_nextGate_60 (by decide) (fun h60 => ?_) (fun h60 => ?_)
              · refine go_iconst (v := 0) hF d_Mo_nextGate_82 (by decide) ?_
                refine go_istore_n hF d_Mo_nextGate_83 (by decide) ?_
                refine go_lv (lv' := [(0, _), (1, _), (2, _), (3, _)]) ⟨rfl, rfl, rfl, rfl, trivial⟩ ?_
                refine go_iload_n hF d_Mo_nextGate_84 rfl ?_
                refine go_if_eq (tgt := 92) hF d_Mo_nextGate_85 (by decide) (fun h85 => ?_) (fun h85 => ?_)
                · refine go_iload_n hF d_Mo_nextGate_92 rfl ?_
                  refine go_istore_n hF d_Mo_nextGate_93 (by decide) ?_
                  refine go_lv (lv' := [(0, _), (1, _), (2, _), (3, _)]) ⟨rfl, rfl, rfl, rfl, trivial⟩ ?_
                  refine go_iincN hF d_Mo_nextGate_94 rfl (by decide) ?_
                  refine go_lv (lv' := [(0, _), (1, _), (2, _), (3, _)]) ⟨rfl, rfl, rfl, rfl, trivial⟩ ?_
                  refine go_goto (tgt := 4) hF d_Mo_nextGate_97 (by decide) ?_
                  refine go_lv (lv' := [(0, _), (1, .int (oI (gbs c ι (p + 1)))), (2, .int (nI (p + 1)))]) ⟨rfl, by rw [gbs_f (fun z => (fun z => z.elim h43 (fun z => h60 z.1)) ((Rel_gA hR hp2 hbp hw7 (gbs_wt c ι p b hb)).mpr (by have z2 := z.2; rw [hb] at z2; exact z2)))]; rfl, rfl, trivial⟩ ?_
                  exact ih _ (by omega) (p + 1) rfl (by omega)
                · exact absurd rfl h85
              · refine go_aload_n hF d_Mo_nextGate_63 rfl ?_
                refine go_iload_n hF d_Mo_nextGate_64 rfl ?_
                refine go_iconst (v := 3) hF d_Mo_nextGate_65 (by decide) ?_
                refine go_callVX hF hE hlo d_Mo_nextGate_66 (con_Mo_ofGate hlt h4 (k := 3) rfl (by have := hg.2; omega) rfl (by decide)) mt_Mo_ofGate mv_Mo_ofGate lk_Mo_36 ⟨rfl, rfl, by decide, by decide⟩ rfl (Nat.le_of_ble_eq_true rfl) ⟨by decide, by decide⟩ (fun H hG => gw_recv (q := (R_Mo, T_Mo, 9)) hK hG h4 rfl rfl (by decide) rfl) (fun M => gx_no) rfl (fun v => ?_)
                refine go_and (fun hv => ?_)
                subst hv
                refine go_aload_n hF d_Mo_nextGate_69 rfl ?_
                refine go_iload_n hF d_Mo_nextGate_70 rfl ?_
                refine go_iconst (v := 3) hF d_Mo_nextGate_71 (by decide) ?_
                refine go_callVX hF hE hlo d_Mo_nextGate_72 (con_Mo_ofGate hlt h4 (k := 3) hbo (by have := hg.2; omega) rfl (by decide)) mt_Mo_ofGate mv_Mo_ofGate lk_Mo_36 ⟨rfl, rfl, by decide, by decide⟩ rfl (Nat.le_of_ble_eq_true rfl) ⟨by decide, by decide⟩ (fun H hG => gw_recv (q := (R_Mo, T_Mo, 9)) hK hG h4 rfl rfl (by decide) rfl) (fun M => gx_no) rfl (fun v => ?_)
                refine go_and (fun hv => ?_)
                subst hv
                refine go_icmp_ge (tgt := 82) hF d_Mo_nextGate_75 (by decide) (fun h75 => ?_) (fun h75 => ?_)
                · refine go_iconst (v := 0) hF d_Mo_nextGate_82 (by decide) ?_
                  refine go_istore_n hF d_Mo_nextGate_83 (by decide) ?_
                  refine go_lv (lv' := [(0, _), (1, _), (2, _), (3, _)]) ⟨rfl, rfl, rfl, rfl, trivial⟩ ?_
                  refine go_iload_n hF d_Mo_nextGate_84 rfl ?_
                  refine go_if_eq (tgt := 92) hF d_Mo_nextGate_85 (by decide) (fun h85 => ?_) (fun h85 => ?_)
                  · refine go_iload_n hF d_Mo_nextGate_92 rfl ?_
                    refine go_istore_n hF d_Mo_nextGate_93 (by decide) ?_
                    refine go_lv (lv' := [(0, _), (1, _), (2, _), (3, _)]) ⟨rfl, rfl, rfl, rfl, trivial⟩ ?_
                    refine go_iincN hF d_Mo_nextGate_94 rfl (by decide) ?_
                    refine go_lv (lv' := [(0, _), (1, _), (2, _), (3, _)]) ⟨rfl, rfl, rfl, rfl, trivial⟩ ?_
                    refine go_goto (tgt := 4) hF d_Mo_nextGate_97 (by decide) ?_
                    refine go_lv (lv' := [(0, _), (1, .int (oI (gbs c ι (p + 1)))), (2, .int (nI (p + 1)))]) ⟨rfl, by rw [gbs_f (fun z => (fun z => z.elim h43 (fun z => ge_nlt h75 z.2)) ((Rel_gA hR hp2 hbp hw7 (gbs_wt c ι p b hb)).mpr (by have z2 := z.2; rw [hb] at z2; exact z2)))]; rfl, rfl, trivial⟩ ?_
                    exact ih _ (by omega) (p + 1) rfl (by omega)
                  · exact absurd rfl h85
                · refine go_iconst (v := 1) hF d_Mo_nextGate_78 (by decide) ?_
                  refine go_goto (tgt := 83) hF d_Mo_nextGate_79 (by decide) ?_
                  refine go_istore_n hF d_Mo_nextGate_83 (by decide) ?_
                  refine go_lv (lv' := [(0, _), (1, _), (2, _), (3, _)]) ⟨rfl, rfl, rfl, rfl, trivial⟩ ?_
                  refine go_iload_n hF d_Mo_nextGate_84 rfl ?_
                  refine go_if_eq (tgt := 92) hF d_Mo_nextGate_85 (by decide) (fun h85 => ?_) (fun h85 => ?_)
                  · exact absurd h85 (by decide)
                  · refine go_iload_n hF d_Mo_nextGate_88 rfl ?_
                    refine go_goto (tgt := 93) hF d_Mo_nextGate_89 (by decide) ?_
                    refine go_istore_n hF d_Mo_nextGate_93 (by decide) ?_
                    refine go_lv (lv' := [(0, _), (1, _), (2, _), (3, _)]) ⟨rfl, rfl, rfl, rfl, trivial⟩ ?_
                    refine go_iincN hF d_Mo_nextGate_94 rfl (by decide) ?_
                    refine go_lv (lv' := [(0, _), (1, _), (2, _), (3, _)]) ⟨rfl, rfl, rfl, rfl, trivial⟩ ?_
                    refine go_goto (tgt := 4) hF d_Mo_nextGate_97 (by decide) ?_
                    refine go_lv (lv' := [(0, _), (1, .int (oI (gbs c ι (p + 1)))), (2, .int (nI (p + 1)))]) ⟨rfl, by rw [gbs_t ⟨hw7, by rw [hb]; exact (Rel_gA hR hp2 hbp hw7 (gbs_wt c ι p b hb)).mp (Or.inr ⟨h60, nle_lt h75⟩)⟩]; rfl, rfl, trivial⟩ ?_
                    exact ih _ (by omega) (p + 1) rfl (by omega)
  refine go_iconst (v := -1) hF d_Mo_nextGate_0 (by decide) ?_
  refine go_istore_n hF d_Mo_nextGate_1 (by decide) ?_
  refine go_lv (lv' := [(0, _), (1, _)]) ⟨rfl, rfl, trivial⟩ ?_
  refine go_iconst (v := 0) hF d_Mo_nextGate_2 (by decide) ?_
  refine go_istore_n hF d_Mo_nextGate_3 (by decide) ?_
  refine go_lv (lv' := [(0, _), (1, _), (2, _)]) ⟨rfl, rfl, rfl, trivial⟩ ?_
  exact L4 _ 0 rfl (Nat.zero_le _)
set_option maxHeartbeats 4000000 in
set_option maxRecDepth 100000 in
theorem con_Mo_comeHand {l : Launch} (hlt : l.stackTraces = false) {E : gE} {B : bsT} {N : nwT} {w : wdT} {f : Nat → Int32} (h4 : N.1 4 0 = true) {K : Nat} {c : wdT} {ι : Nat} {x : Int32} {i : Nat} (hx : x = nI i) (hi : i < cH c ι) (hKK : K < 1000000000) (hR : Rel K c ι f) : Con l E y_Mo_comeHand (Cond.code y_Mo_comeHand c_Mo_comeHand 7 none :: gAll) rm_Mo_comeHand [.ref (ad B 4 0 0 0), .int x] (gw E B N (mW w f)) (fun v H => ∃ f2, Rel (K + 1) (rfX (thX c ι i) ι (nz (wI c 0 ι 6 0 i))) ι f2 ∧ v = none ∧ gw E B N (mW w f2) H) (fun _ _ => False) 0 0 := by
  refine con_of (by decide) hlt (Nat.le_of_ble_eq_true rfl) ?_
  intro F hF hM htab hnm hE hlo hl
  subst hl
  have hF : Fb F c_Mo_comeHand R_Mo 7 rm_Mo_comeHand := hF
  have hK := hE.1
  have hT := hE.2.1
  refine go_lv (lv' := [(0, _), (1, _)]) ⟨rfl, rfl, trivial⟩ ?_
  subst hx
  have hg := Rel_h hR
  have hTh := Rel_th hR hi
  have hh := hR.2.2.2.2.2.1 i hi
  have hv6 : vn (f (700 + 5 * i + 1)) 24 := by rw [hh.2.1]; exact hR.1.2.2.2.2.2.2.2 i hi
  have hn6 : nz (f (700 + 5 * i + 1)) < cN (thX c ι i) ι := by rw [cN_th, hh.2.1]; exact hh.2.2.2.2.2.2.2.2.2
  have L50 : ∀ m k : Nat, 700 + 5 * (cH c ι - 1) - k = m → 700 + 5 * i ≤ k → k ≤ 700 + 5 * (cH c ι - 1) → Go F 50 [(0, .ref (ad B 4 0 0 0)), (1, .int (nI i)), (2, .int (nI (700 + 5 * i))), (3, .int (f (700 + 5 * i + 1))), (4, .int (f (700 + 5 * i + 2))), (5, .int (f (700 + 5 * i + 3))), (6, .int (nI k))] [] (gw E B N (mW w (shF (fu f 4 (nI (cH c ι - 1))) (700 + 5 * i) k))) 0 0 := by
    intro m
    induction m using Nat.strongRecOn with
    | _ m ih =>
      intro k hm hk1 hk2
      have e4 : (shF (fu f 4 (nI (cH c ι - 1))) (700 + 5 * i) k) 4 = nI (cH c ι - 1) := by unfold shF; rw [if_neg (by omega), fu_s]
      have hq := hg.2
      refine go_iload hF d_Mo_comeHand_50 rfl ?_
      refine go_sipush (v := 700) hF d_Mo_comeHand_52 (by decide) ?_
      refine go_iconst (v := 5) hF d_Mo_comeHand_55 (by decide) ?_
      refine go_aload_n hF d_Mo_comeHand_56 rfl ?_
      refine gs_getr hF hK d_Mo_comeHand_57 fl_Mo_7 h4 rfl rfl (by decide) rfl ?_
      refine go_iconst (v := 4) hF d_Mo_comeHand_60 (by decide) ?_
      refine gs_md hF hK hT d_Mo_comeHand_61 h4 (show (4 : Int32) = nI 4 from rfl) (by decide) ?_
      refine go_imul hF d_Mo_comeHand_62 ?_
      refine go_iadd hF d_Mo_comeHand_63 ?_
      refine go_icmp_ge (tgt := 89) hF d_Mo_comeHand_64 (by decide) (fun h64 => ?_) (fun h64 => ?_)
      · have hk4 : k = 700 + 5 * (cH c ι - 1) := by
          rw [e4, ix700 (n := cH c ι - 1) rfl] at h64
          have z := (nI_leI (a := 700 + 5 * (cH c ι - 1)) (b := k) (by omega) (by omega)).mp h64
          omega
        subst hk4
        refine go_aload_n hF d_Mo_comeHand_89 rfl ?_
        refine go_iload_n hF d_Mo_comeHand_90 rfl ?_
        refine go_iload hF d_Mo_comeHand_91 rfl ?_
        refine go_if_ne (tgt := 100) hF d_Mo_comeHand_93 (by decide) (fun h93 => ?_) (fun h93 => ?_)
        · refine go_iconst (v := 2) hF d_Mo_comeHand_100 (by decide) ?_
          refine go_iload hF d_Mo_comeHand_101 rfl ?_
          refine go_iconst (v := 2) hF d_Mo_comeHand_103 (by decide) ?_
          refine go_icmp_ne (tgt := 111) hF d_Mo_comeHand_104 (by decide) (fun h104 => ?_) (fun h104 => ?_)
          · refine go_iload hF d_Mo_comeHand_111 rfl ?_
            refine go_callVX hF hE hlo d_Mo_comeHand_113 (con_Mo_setNet hlt h4 (k := 2) hv6.1 hv6.2 rfl (by decide) _) mt_Mo_setNet mv_Mo_setNet lk_Mo_53 ⟨rfl, rfl, by decide, by decide⟩ rfl (Nat.le_of_ble_eq_true rfl) ⟨by decide, by decide⟩ (fun H hG => gw_recv (q := (R_Mo, T_Mo, 9)) hK hG h4 rfl rfl (by decide) rfl) (fun M => gx_no) rfl (fun v => ?_)
            refine go_and (fun hv => ?_)
            subst hv
            refine go_aload_n hF d_Mo_comeHand_116 rfl ?_
            refine go_iload_n hF d_Mo_comeHand_117 rfl ?_
            refine go_iconst (v := 3) hF d_Mo_comeHand_118 (by decide) ?_
            refine go_iconst (v := 1) hF d_Mo_comeHand_119 (by decide) ?_
            refine go_callVX hF hE hlo d_Mo_comeHand_120 (con_Mo_setNet hlt h4 (k := 3) hv6.1 hv6.2 rfl (by decide) _) mt_Mo_setNet mv_Mo_setNet lk_Mo_53 ⟨rfl, rfl, by decide, by decide⟩ rfl (Nat.le_of_ble_eq_true rfl) ⟨by decide, by decide⟩ (fun H hG => gw_recv (q := (R_Mo, T_Mo, 9)) hK hG h4 rfl rfl (by decide) rfl) (fun M => gx_no) rfl (fun v => ?_)
            refine go_and (fun hv => ?_)
            subst hv
            rw [if_neg h93, if_neg h104] at hTh
            refine go_aload_n hF d_Mo_comeHand_123 rfl ?_
            refine go_iload_n hF d_Mo_comeHand_124 rfl ?_
            refine go_callVX hF hE hlo d_Mo_comeHand_125 (con_Mo_settle (n := nz (f (700 + 5 * i + 1))) hlt h4 hv6.1 hn6 hKK (fu_s _ _ _) hTh) mt_Mo_settle mv_Mo_settle lk_Mo_74 ⟨rfl, rfl, by decide, by decide⟩ rfl (Nat.le_of_ble_eq_true rfl) ⟨by decide, by decide⟩ (fun H hG => gw_recv (q := (R_Mo, T_Mo, 9)) hK hG h4 rfl rfl (by decide) rfl) (fun M => gx_no) rfl (fun v => ?_)
            refine go_ex (fun f3 => ?_)
            refine go_and (fun h9 => ?_)
            refine go_and (fun hv => ?_)
            subst hv
            exact go_vret hF hM d_Mo_comeHand_128 (by decide) (by decide) (fun H hG => ⟨f3, by rw [hh.2.1] at h9; exact h9, rfl, hG⟩)
          · refine go_iconst (v := -1) hF d_Mo_comeHand_107 (by decide) ?_
            refine go_goto (tgt := 113) hF d_Mo_comeHand_108 (by decide) ?_
            refine go_callVX hF hE hlo d_Mo_comeHand_113 (con_Mo_setNet hlt h4 (k := 2) hv6.1 hv6.2 rfl (by decide) _) mt_Mo_setNet mv_Mo_setNet lk_Mo_53 ⟨rfl, rfl, by decide, by decide⟩ rfl (Nat.le_of_ble_eq_true rfl) ⟨by decide, by decide⟩ (fun H hG => gw_recv (q := (R_Mo, T_Mo, 9)) hK hG h4 rfl rfl (by decide) rfl) (fun M => gx_no) rfl (fun v => ?_)
            refine go_and (fun hv => ?_)
            subst hv
            refine go_aload_n hF d_Mo_comeHand_116 rfl ?_
            refine go_iload_n hF d_Mo_comeHand_117 rfl ?_
            refine go_iconst (v := 3) hF d_Mo_comeHand_118 (by decide) ?_
            refine go_iconst (v := 1) hF d_Mo_comeHand_119 (by decide) ?_
            refine go_callVX hF hE hlo d_Mo_comeHand_120 (con_Mo_setNet hlt h4 (k := 3) hv6.1 hv6.2 rfl (by decide) _) mt_Mo_setNet mv_Mo_setNet lk_Mo_53 ⟨rfl, rfl, by decide, by decide⟩ rfl (Nat.le_of_ble_eq_true rfl) ⟨by decide, by decide⟩ (fun H hG => gw_recv (q := (R_Mo, T_Mo, 9)) hK hG h4 rfl rfl (by decide) rfl) (fun M => gx_no) rfl (fun v => ?_)
            refine go_and (fun hv => ?_)
            subst hv
            rw [if_neg h93, if_pos h104] at hTh
            refine go_aload_n hF d_Mo_comeHand_123 rfl ?_
            refine go_iload_n hF d_Mo_comeHand_124 rfl ?_
            refine go_callVX hF hE hlo d_Mo_comeHand_125 (con_Mo_settle (n := nz (f (700 + 5 * i + 1))) hlt h4 hv6.1 hn6 hKK (fu_s _ _ _) hTh) mt_Mo_settle mv_Mo_settle lk_Mo_74 ⟨rfl, rfl, by decide, by decide⟩ rfl (Nat.le_of_ble_eq_true rfl) ⟨by decide, by decide⟩ (fun H hG => gw_recv (q := (R_Mo, T_Mo, 9)) hK hG h4 rfl rfl (by decide) rfl) (fun M => gx_no) rfl (fun v => ?_)
            refine go_ex (fun f3 => ?_)
            refine go_and (fun h9 => ?_)
            refine go_and (fun hv => ?_)
            subst hv
            exact go_vret hF hM d_Mo_comeHand_128 (by decide) (by decide) (fun H hG => ⟨f3, by rw [hh.2.1] at h9; exact h9, rfl, hG⟩)
        · refine go_iconst (v := 1) hF d_Mo_comeHand_96 (by decide) ?_
          refine go_goto (tgt := 101) hF d_Mo_comeHand_97 (by decide) ?_
          refine go_iload hF d_Mo_comeHand_101 rfl ?_
          refine go_iconst (v := 2) hF d_Mo_comeHand_103 (by decide) ?_
          refine go_icmp_ne (tgt := 111) hF d_Mo_comeHand_104 (by decide) (fun h104 => ?_) (fun h104 => ?_)
          · refine go_iload hF d_Mo_comeHand_111 rfl ?_
            refine go_callVX hF hE hlo d_Mo_comeHand_113 (con_Mo_setNet hlt h4 (k := 1) hv6.1 hv6.2 rfl (by decide) _) mt_Mo_setNet mv_Mo_setNet lk_Mo_53 ⟨rfl, rfl, by decide, by decide⟩ rfl (Nat.le_of_ble_eq_true rfl) ⟨by decide, by decide⟩ (fun H hG => gw_recv (q := (R_Mo, T_Mo, 9)) hK hG h4 rfl rfl (by decide) rfl) (fun M => gx_no) rfl (fun v => ?_)
            refine go_and (fun hv => ?_)
            subst hv
            refine go_aload_n hF d_Mo_comeHand_116 rfl ?_
            refine go_iload_n hF d_Mo_comeHand_117 rfl ?_
            refine go_iconst (v := 3) hF d_Mo_comeHand_118 (by decide) ?_
            refine go_iconst (v := 1) hF d_Mo_comeHand_119 (by decide) ?_
            refine go_callVX hF hE hlo d_Mo_comeHand_120 (con_Mo_setNet hlt h4 (k := 3) hv6.1 hv6.2 rfl (by decide) _) mt_Mo_setNet mv_Mo_setNet lk_Mo_53 ⟨rfl, rfl, by decide, by decide⟩ rfl (Nat.le_of_ble_eq_true rfl) ⟨by decide, by decide⟩ (fun H hG => gw_recv (q := (R_Mo, T_Mo, 9)) hK hG h4 rfl rfl (by decide) rfl) (fun M => gx_no) rfl (fun v => ?_)
            refine go_and (fun hv => ?_)
            subst hv
            rw [if_pos h93, if_neg h104] at hTh
            refine go_aload_n hF d_Mo_comeHand_123 rfl ?_
            refine go_iload_n hF d_Mo_comeHand_124 rfl ?_
            refine go_callVX hF hE hlo d_Mo_comeHand_125 (con_Mo_settle (n := nz (f (700 + 5 * i + 1))) hlt h4 hv6.1 hn6 hKK (fu_s _ _ _) hTh) mt_Mo_settle mv_Mo_settle lk_Mo_74 ⟨rfl, rfl, by decide, by decide⟩ rfl (Nat.le_of_ble_eq_true rfl) ⟨by decide, by decide⟩ (fun H hG => gw_recv (q := (R_Mo, T_Mo, 9)) hK hG h4 rfl rfl (by decide) rfl) (fun M => gx_no) rfl (fun v => ?_)
            refine go_ex (fun f3 => ?_)
            refine go_and (fun h9 => ?_)
            refine go_and (fun hv => ?_)
            subst hv
            exact go_vret hF hM d_Mo_comeHand_128 (by decide) (by decide) (fun H hG => ⟨f3, by rw [hh.2.1] at h9; exact h9, rfl, hG⟩)
          · exact absurd (h93.symm.trans h104) (by decide)
      · have hk3 : k < 700 + 5 * (cH c ι - 1) := by
          rw [e4, ix700 (n := cH c ι - 1) rfl] at h64
          have z : ¬ 700 + 5 * (cH c ι - 1) ≤ k := fun z => h64 ((nI_leI (a := 700 + 5 * (cH c ι - 1)) (b := k) (by omega) (by omega)).mpr z)
          omega
        refine go_aload_n hF d_Mo_comeHand_67 rfl ?_
        refine gs_getr hF hK d_Mo_comeHand_68 fl_Mo_7 h4 rfl rfl (by decide) rfl ?_
        refine go_iload hF d_Mo_comeHand_71 rfl ?_
        refine go_aload_n hF d_Mo_comeHand_73 rfl ?_
        refine gs_getr hF hK d_Mo_comeHand_74 fl_Mo_7 h4 rfl rfl (by decide) rfl ?_
        refine go_iload hF d_Mo_comeHand_77 rfl ?_
        refine go_iconst (v := 5) hF d_Mo_comeHand_79 (by decide) ?_
        refine go_iadd hF d_Mo_comeHand_80 ?_
        refine gs_md hF hK hT d_Mo_comeHand_81 h4 (ix1 (k := 5) (n := k) rfl) (by omega) ?_
        refine gs_ms hF hK hT hlo d_Mo_comeHand_82 h4 rfl (by omega) ?_
        refine go_iincN hF d_Mo_comeHand_83 rfl (by decide) ?_
        refine go_lv (lv' := [(0, _), (1, _), (2, _), (3, _), (4, _), (5, _), (6, _)]) ⟨rfl, rfl, rfl, rfl, rfl, rfl, rfl, trivial⟩ ?_
        refine go_goto (tgt := 50) hF d_Mo_comeHand_86 (by decide) ?_
        refine go_G (G' := gw E B N (mW w (shF (fu f 4 (nI (cH c ι - 1))) (700 + 5 * i) (k + 1)))) (fun H hG => by rw [← shF_s (fu f 4 (nI (cH c ι - 1))) hk1]; exact hG) ?_
        exact ih _ (by omega) (k + 1) rfl (by omega) (by omega)
  refine go_sipush (v := 700) hF d_Mo_comeHand_0 (by decide) ?_
  refine go_iconst (v := 5) hF d_Mo_comeHand_3 (by decide) ?_
  refine go_iload_n hF d_Mo_comeHand_4 rfl ?_
  refine go_imul hF d_Mo_comeHand_5 ?_
  refine go_iadd hF d_Mo_comeHand_6 ?_
  refine go_istore_n hF d_Mo_comeHand_7 (by decide) ?_
  refine go_lv (lv' := [(0, _), (1, _), (2, _)]) ⟨rfl, rfl, rfl, trivial⟩ ?_
  refine go_aload_n hF d_Mo_comeHand_8 rfl ?_
  refine gs_getr hF hK d_Mo_comeHand_9 fl_Mo_7 h4 rfl rfl (by decide) rfl ?_
  refine go_iload_n hF d_Mo_comeHand_12 rfl ?_
  refine go_iconst (v := 1) hF d_Mo_comeHand_13 (by decide) ?_
  refine go_iadd hF d_Mo_comeHand_14 ?_
  refine gs_md hF hK hT d_Mo_comeHand_15 h4 (ix1 (k := 1) (ixC (a := 700) (b := 5) (n := i) rfl)) (by have := hg.2; omega) ?_
  refine go_istore_n hF d_Mo_comeHand_16 (by decide) ?_
  refine go_lv (lv' := [(0, _), (1, _), (2, _), (3, _)]) ⟨rfl, rfl, rfl, rfl, trivial⟩ ?_
  refine go_aload_n hF d_Mo_comeHand_17 rfl ?_
  refine gs_getr hF hK d_Mo_comeHand_18 fl_Mo_7 h4 rfl rfl (by decide) rfl ?_
  refine go_iload_n hF d_Mo_comeHand_21 rfl ?_
  refine go_iconst (v := 2) hF d_Mo_comeHand_22 (by decide) ?_
  refine go_iadd hF d_Mo_comeHand_23 ?_
  refine gs_md hF hK hT d_Mo_comeHand_24 h4 (ix1 (k := 2) (ixC (a := 700) (b := 5) (n := i) rfl)) (by have := hg.2; omega) ?_
  refine go_istore hF d_Mo_comeHand_25 (by decide) ?_
  refine go_lv (lv' := [(0, _), (1, _), (2, _), (3, _), (4, _)]) ⟨rfl, rfl, rfl, rfl, rfl, trivial⟩ ?_
  refine go_aload_n hF d_Mo_comeHand_27 rfl ?_
  refine gs_getr hF hK d_Mo_comeHand_28 fl_Mo_7 h4 rfl rfl (by decide) rfl ?_
  refine go_iload_n hF d_Mo_comeHand_31 rfl ?_
  refine go_iconst (v := 3) hF d_Mo_comeHand_32 (by decide) ?_
  refine go_iadd hF d_Mo_comeHand_33 ?_
  refine gs_md hF hK hT d_Mo_comeHand_34 h4 (ix1 (k := 3) (ixC (a := 700) (b := 5) (n := i) rfl)) (by have := hg.2; omega) ?_
  refine go_istore hF d_Mo_comeHand_35 (by decide) ?_
  refine go_lv (lv' := [(0, _), (1, _), (2, _), (3, _), (4, _), (5, _)]) ⟨rfl, rfl, rfl, rfl, rfl, rfl, trivial⟩ ?_
  refine go_aload_n hF d_Mo_comeHand_37 rfl ?_
  refine gs_getr hF hK d_Mo_comeHand_38 fl_Mo_7 h4 rfl rfl (by decide) rfl ?_
  refine go_iconst (v := 4) hF d_Mo_comeHand_41 (by decide) ?_
  refine go_dup2 hF d_Mo_comeHand_42 rfl rfl ?_
  refine gs_md hF hK hT d_Mo_comeHand_43 h4 (show (4 : Int32) = nI 4 from rfl) (by decide) ?_
  refine go_iconst (v := 1) hF d_Mo_comeHand_44 (by decide) ?_
  refine go_isub hF d_Mo_comeHand_45 ?_
  refine gs_ms hF hK hT hlo d_Mo_comeHand_46 h4 (show (4 : Int32) = nI 4 from rfl) (by decide) ?_
  rw [show f 4 - 1 = nI (cH c ι - 1) by rw [hg.1]; exact nI_pr (by omega)]
  refine go_iload_n hF d_Mo_comeHand_47 rfl ?_
  refine go_istore hF d_Mo_comeHand_48 (by decide) ?_
  refine go_lv (lv' := [(0, _), (1, _), (2, _), (3, _), (4, _), (5, _), (6, _)]) ⟨rfl, rfl, rfl, rfl, rfl, rfl, rfl, trivial⟩ ?_
  refine go_lv (lv' := [(0, _), (1, _), (2, .int (nI (700 + 5 * i))), (3, _), (4, _), (5, _), (6, .int (nI (700 + 5 * i)))]) ⟨rfl, rfl, by rw [← ixC (a := 700) (b := 5) (n := i) rfl]; rfl, rfl, rfl, rfl, by rw [← ixC (a := 700) (b := 5) (n := i) rfl]; rfl, trivial⟩ ?_
  refine go_G (G' := gw E B N (mW w (shF (fu f 4 (nI (cH c ι - 1))) (700 + 5 * i) (700 + 5 * i)))) (fun H hG => by rw [shF_0]; exact hG) ?_
  exact L50 _ _ rfl (Nat.le_refl _) (by omega)
set_option maxHeartbeats 4000000 in
set_option maxRecDepth 100000 in
theorem con_Mo_comeGate {l : Launch} (hlt : l.stackTraces = false) {E : gE} {B : bsT} {N : nwT} {w : wdT} {f : Nat → Int32} (h4 : N.1 4 0 = true) {K : Nat} {c : wdT} {ι : Nat} {x : Int32} {g : Nat} (hx : x = nI g) (hi : g < cG c ι) (h7 : ¬ wI c 0 ι 14 7 g = -1) (hKK : K < 1000000000) (hR : Rel K c ι f) : Con l E y_Mo_comeGate (Cond.code y_Mo_comeGate c_Mo_comeGate 3 none :: gAll) rm_Mo_comeGate [.ref (ad B 4 0 0 0), .int x] (gw E B N (mW w f)) (fun v H => ∃ f2, Rel (K + 1) (rfX (tkW c ι g) ι (nz (wI c 0 ι 14 3 g))) ι f2 ∧ v = none ∧ gw E B N (mW w f2) H) (fun _ _ => False) 0 0 := by
  refine con_of (by decide) hlt (Nat.le_of_ble_eq_true rfl) ?_
  intro F hF hM htab hnm hE hlo hl
  subst hl
  have hF : Fb F c_Mo_comeGate R_Mo 3 rm_Mo_comeGate := hF
  have hK := hE.1
  have hT := hE.2.1
  refine go_lv (lv' := [(0, _), (1, _)]) ⟨rfl, rfl, trivial⟩ ?_
  subst hx
  have hg := Rel_g hR
  have hTh := Rel_tk hR hi h7
  have hh := hR.2.2.2.1 g hi
  have hva := (Rel_va hR hi).2.2
  have e9 : (fu f (250 + 14 * g + 6) (f (250 + 14 * g + 7))) (250 + 14 * g + 9) = f (250 + 14 * g + 9) := fu_n (by omega)
  have e6 : (fu f (250 + 14 * g + 6) (f (250 + 14 * g + 7))) (250 + 14 * g + 6) = f (250 + 14 * g + 7) := fu_s _ _ _
  have e10 : ∀ z, fu (fu f (250 + 14 * g + 6) (f (250 + 14 * g + 7))) (250 + 14 * g + 7) z (250 + 14 * g + 10) = f (250 + 14 * g + 10) := fun z => by rw [fu_n (by omega), fu_n (by omega)]
  have e3 : tkF f g (250 + 14 * g + 3) = f (250 + 14 * g + 3) := tkF_n f g _ (by omega)
  have hn6 : nz (f (250 + 14 * g + 3)) < cN (tkW c ι g) ι := by rw [cN_tk, hh.1.2.2.2.1]; exact hh.2.2.2.2.2.2.2
  refine go_aload_n hF d_Mo_comeGate_0 rfl ?_
  refine go_iload_n hF d_Mo_comeGate_1 rfl ?_
  refine go_bipush (v := 6) hF d_Mo_comeGate_2 (by decide) ?_
  refine go_aload_n hF d_Mo_comeGate_4 rfl ?_
  refine go_iload_n hF d_Mo_comeGate_5 rfl ?_
  refine go_bipush (v := 7) hF d_Mo_comeGate_6 (by decide) ?_
  refine go_callVX hF hE hlo d_Mo_comeGate_8 (con_Mo_ofGate hlt h4 (k := 7) rfl (by have := hg.2; omega) rfl (by decide)) mt_Mo_ofGate mv_Mo_ofGate lk_Mo_36 ⟨rfl, rfl, by decide, by decide⟩ rfl (Nat.le_of_ble_eq_true rfl) ⟨by decide, by decide⟩ (fun H hG => gw_recv (q := (R_Mo, T_Mo, 9)) hK hG h4 rfl rfl (by decide) rfl) (fun M => gx_no) rfl (fun v => ?_)
  refine go_and (fun hv => ?_)
  subst hv
  refine go_callVX hF hE hlo d_Mo_comeGate_11 (con_Mo_setGate hlt h4 (k := 6) rfl (by have := hg.2; omega) rfl (by decide) _) mt_Mo_setGate mv_Mo_setGate lk_Mo_46 ⟨rfl, rfl, by decide, by decide⟩ rfl (Nat.le_of_ble_eq_true rfl) ⟨by decide, by decide⟩ (fun H hG => gw_recv (q := (R_Mo, T_Mo, 9)) hK hG h4 rfl rfl (by decide) rfl) (fun M => gx_no) rfl (fun v => ?_)
  refine go_and (fun hv => ?_)
  subst hv
  refine go_aload_n hF d_Mo_comeGate_14 rfl ?_
  refine go_iload_n hF d_Mo_comeGate_15 rfl ?_
  refine go_bipush (v := 9) hF d_Mo_comeGate_16 (by decide) ?_
  refine go_callVX hF hE hlo d_Mo_comeGate_18 (con_Mo_ofGate hlt h4 (k := 9) rfl (by have := hg.2; omega) rfl (by decide)) mt_Mo_ofGate mv_Mo_ofGate lk_Mo_36 ⟨rfl, rfl, by decide, by decide⟩ rfl (Nat.le_of_ble_eq_true rfl) ⟨by decide, by decide⟩ (fun H hG => gw_recv (q := (R_Mo, T_Mo, 9)) hK hG h4 rfl rfl (by decide) rfl) (fun M => gx_no) rfl (fun v => ?_)
  refine go_and (fun hv => ?_)
  subst hv
  refine go_iconst (v := -1) hF d_Mo_comeGate_21 (by decide) ?_
  rw [e9]
  refine go_icmp_eq (tgt := 46) hF d_Mo_comeGate_22 (by decide) (fun h22 => ?_) (fun h22 => ?_)
  · refine go_iconst (v := 0) hF d_Mo_comeGate_46 (by decide) ?_
    refine go_istore_n hF d_Mo_comeGate_47 (by decide) ?_
    refine go_lv (lv' := [(0, _), (1, _), (2, _)]) ⟨rfl, rfl, rfl, trivial⟩ ?_
    refine go_aload_n hF d_Mo_comeGate_48 rfl ?_
    refine go_iload_n hF d_Mo_comeGate_49 rfl ?_
    refine go_bipush (v := 7) hF d_Mo_comeGate_50 (by decide) ?_
    refine go_iload_n hF d_Mo_comeGate_52 rfl ?_
    refine go_if_eq (tgt := 66) hF d_Mo_comeGate_53 (by decide) (fun h53 => ?_) (fun h53 => ?_)
    · refine go_iconst (v := -1) hF d_Mo_comeGate_66 (by decide) ?_
      refine go_callVX hF hE hlo d_Mo_comeGate_67 (con_Mo_setGate hlt h4 (k := 7) rfl (by have := hg.2; omega) rfl (by decide) _) mt_Mo_setGate mv_Mo_setGate lk_Mo_46 ⟨rfl, rfl, by decide, by decide⟩ rfl (Nat.le_of_ble_eq_true rfl) ⟨by decide, by decide⟩ (fun H hG => gw_recv (q := (R_Mo, T_Mo, 9)) hK hG h4 rfl rfl (by decide) rfl) (fun M => gx_no) rfl (fun v => ?_)
      refine go_and (fun hv => ?_)
      subst hv
      refine go_aload_n hF d_Mo_comeGate_70 rfl ?_
      refine go_iload_n hF d_Mo_comeGate_71 rfl ?_
      refine go_bipush (v := 8) hF d_Mo_comeGate_72 (by decide) ?_
      refine go_aload_n hF d_Mo_comeGate_74 rfl ?_
      refine go_iload_n hF d_Mo_comeGate_75 rfl ?_
      refine go_bipush (v := 10) hF d_Mo_comeGate_76 (by decide) ?_
      refine go_callVX hF hE hlo d_Mo_comeGate_78 (con_Mo_ofGate hlt h4 (k := 10) rfl (by have := hg.2; omega) rfl (by decide)) mt_Mo_ofGate mv_Mo_ofGate lk_Mo_36 ⟨rfl, rfl, by decide, by decide⟩ rfl (Nat.le_of_ble_eq_true rfl) ⟨by decide, by decide⟩ (fun H hG => gw_recv (q := (R_Mo, T_Mo, 9)) hK hG h4 rfl rfl (by decide) rfl) (fun M => gx_no) rfl (fun v => ?_)
      refine go_and (fun hv => ?_)
      subst hv
      refine go_callVX hF hE hlo d_Mo_comeGate_81 (con_Mo_setGate hlt h4 (k := 8) rfl (by have := hg.2; omega) rfl (by decide) _) mt_Mo_setGate mv_Mo_setGate lk_Mo_46 ⟨rfl, rfl, by decide, by decide⟩ rfl (Nat.le_of_ble_eq_true rfl) ⟨by decide, by decide⟩ (fun H hG => gw_recv (q := (R_Mo, T_Mo, 9)) hK hG h4 rfl rfl (by decide) rfl) (fun M => gx_no) rfl (fun v => ?_)
      refine go_and (fun hv => ?_)
      subst hv
      refine go_aload_n hF d_Mo_comeGate_84 rfl ?_
      refine go_iload_n hF d_Mo_comeGate_85 rfl ?_
      refine go_bipush (v := 9) hF d_Mo_comeGate_86 (by decide) ?_
      refine go_iconst (v := -1) hF d_Mo_comeGate_88 (by decide) ?_
      refine go_callVX hF hE hlo d_Mo_comeGate_89 (con_Mo_setGate hlt h4 (k := 9) rfl (by have := hg.2; omega) rfl (by decide) _) mt_Mo_setGate mv_Mo_setGate lk_Mo_46 ⟨rfl, rfl, by decide, by decide⟩ rfl (Nat.le_of_ble_eq_true rfl) ⟨by decide, by decide⟩ (fun H hG => gw_recv (q := (R_Mo, T_Mo, 9)) hK hG h4 rfl rfl (by decide) rfl) (fun M => gx_no) rfl (fun v => ?_)
      refine go_and (fun hv => ?_)
      subst hv
      refine go_G (G' := gw E B N (mW w (tkF f g))) (fun H hG => by unfold tkF; rw [if_neg (fun z => z.1 h22)]; rw [e10] at hG; exact hG) ?_
      refine go_aload_n hF d_Mo_comeGate_92 rfl ?_
      refine go_aload_n hF d_Mo_comeGate_93 rfl ?_
      refine go_iload_n hF d_Mo_comeGate_94 rfl ?_
      refine go_iconst (v := 3) hF d_Mo_comeGate_95 (by decide) ?_
      refine go_callVX hF hE hlo d_Mo_comeGate_96 (con_Mo_ofGate hlt h4 (k := 3) rfl (by have := hg.2; omega) rfl (by decide)) mt_Mo_ofGate mv_Mo_ofGate lk_Mo_36 ⟨rfl, rfl, by decide, by decide⟩ rfl (Nat.le_of_ble_eq_true rfl) ⟨by decide, by decide⟩ (fun H hG => gw_recv (q := (R_Mo, T_Mo, 9)) hK hG h4 rfl rfl (by decide) rfl) (fun M => gx_no) rfl (fun v => ?_)
      refine go_and (fun hv => ?_)
      subst hv
      refine go_callVX hF hE hlo d_Mo_comeGate_99 (con_Mo_settle (n := nz (f (250 + 14 * g + 3))) hlt h4 (e3.trans hva.1) hn6 hKK (by rw [tkF_n f g _ (by have := hva.2; unfold nz; omega), hh.1.2.2.2.1]; exact hh.2.2.2.2.1) hTh) mt_Mo_settle mv_Mo_settle lk_Mo_74 ⟨rfl, rfl, by decide, by decide⟩ rfl (Nat.le_of_ble_eq_true rfl) ⟨by decide, by decide⟩ (fun H hG => gw_recv (q := (R_Mo, T_Mo, 9)) hK hG h4 rfl rfl (by decide) rfl) (fun M => gx_no) rfl (fun v => ?_)
      refine go_ex (fun f3 => ?_)
      refine go_and (fun h9 => ?_)
      refine go_and (fun hv => ?_)
      subst hv
      exact go_vret hF hM d_Mo_comeGate_102 (by decide) (by decide) (fun H hG => ⟨f3, by rw [hh.1.2.2.2.1] at h9; exact h9, rfl, hG⟩)
    · exact absurd rfl h53
  · refine go_aload_n hF d_Mo_comeGate_25 rfl ?_
    refine go_iload_n hF d_Mo_comeGate_26 rfl ?_
    refine go_bipush (v := 9) hF d_Mo_comeGate_27 (by decide) ?_
    refine go_callVX hF hE hlo d_Mo_comeGate_29 (con_Mo_ofGate hlt h4 (k := 9) rfl (by have := hg.2; omega) rfl (by decide)) mt_Mo_ofGate mv_Mo_ofGate lk_Mo_36 ⟨rfl, rfl, by decide, by decide⟩ rfl (Nat.le_of_ble_eq_true rfl) ⟨by decide, by decide⟩ (fun H hG => gw_recv (q := (R_Mo, T_Mo, 9)) hK hG h4 rfl rfl (by decide) rfl) (fun M => gx_no) rfl (fun v => ?_)
    refine go_and (fun hv => ?_)
    subst hv
    refine go_aload_n hF d_Mo_comeGate_32 rfl ?_
    refine go_iload_n hF d_Mo_comeGate_33 rfl ?_
    refine go_bipush (v := 6) hF d_Mo_comeGate_34 (by decide) ?_
    refine go_callVX hF hE hlo d_Mo_comeGate_36 (con_Mo_ofGate hlt h4 (k := 6) rfl (by have := hg.2; omega) rfl (by decide)) mt_Mo_ofGate mv_Mo_ofGate lk_Mo_36 ⟨rfl, rfl, by decide, by decide⟩ rfl (Nat.le_of_ble_eq_true rfl) ⟨by decide, by decide⟩ (fun H hG => gw_recv (q := (R_Mo, T_Mo, 9)) hK hG h4 rfl rfl (by decide) rfl) (fun M => gx_no) rfl (fun v => ?_)
    refine go_and (fun hv => ?_)
    subst hv
    rw [e9, e6]
    refine go_icmp_eq (tgt := 46) hF d_Mo_comeGate_39 (by decide) (fun h39 => ?_) (fun h39 => ?_)
    · refine go_iconst (v := 0) hF d_Mo_comeGate_46 (by decide) ?_
      refine go_istore_n hF d_Mo_comeGate_47 (by decide) ?_
      refine go_lv (lv' := [(0, _), (1, _), (2, _)]) ⟨rfl, rfl, rfl, trivial⟩ ?_
      refine go_aload_n hF d_Mo_comeGate_48 rfl ?_
      refine go_iload_n hF d_Mo_comeGate_49 rfl ?_
      refine go_bipush (v := 7) hF d_Mo_comeGate_50 (by decide) ?_
      refine go_iload_n hF d_Mo_comeGate_52 rfl ?_
      refine go_if_eq (tgt := 66) hF d_Mo_comeGate_53 (by decide) (fun h53 => ?_) (fun h53 => ?_)
      · refine go_iconst (v := -1) hF d_Mo_comeGate_66 (by decide) ?_
        refine go_callVX hF hE hlo d_Mo_comeGate_67 (con_Mo_setGate hlt h4 (k := 7) rfl (by have := hg.2; omega) rfl (by decide) _) mt_Mo_setGate mv_Mo_setGate lk_Mo_46 ⟨rfl, rfl, by decide, by decide⟩ rfl (Nat.le_of_ble_eq_true rfl) ⟨by decide, by decide⟩ (fun H hG => gw_recv (q := (R_Mo, T_Mo, 9)) hK hG h4 rfl rfl (by decide) rfl) (fun M => gx_no) rfl (fun v => ?_)
        refine go_and (fun hv => ?_)
        subst hv
        refine go_aload_n hF d_Mo_comeGate_70 rfl ?_
        refine go_iload_n hF d_Mo_comeGate_71 rfl ?_
        refine go_bipush (v := 8) hF d_Mo_comeGate_72 (by decide) ?_
        refine go_aload_n hF d_Mo_comeGate_74 rfl ?_
        refine go_iload_n hF d_Mo_comeGate_75 rfl ?_
        refine go_bipush (v := 10) hF d_Mo_comeGate_76 (by decide) ?_
        refine go_callVX hF hE hlo d_Mo_comeGate_78 (con_Mo_ofGate hlt h4 (k := 10) rfl (by have := hg.2; omega) rfl (by decide)) mt_Mo_ofGate mv_Mo_ofGate lk_Mo_36 ⟨rfl, rfl, by decide, by decide⟩ rfl (Nat.le_of_ble_eq_true rfl) ⟨by decide, by decide⟩ (fun H hG => gw_recv (q := (R_Mo, T_Mo, 9)) hK hG h4 rfl rfl (by decide) rfl) (fun M => gx_no) rfl (fun v => ?_)
        refine go_and (fun hv => ?_)
        subst hv
        refine go_callVX hF hE hlo d_Mo_comeGate_81 (con_Mo_setGate hlt h4 (k := 8) rfl (by have := hg.2; omega) rfl (by decide) _) mt_Mo_setGate mv_Mo_setGate lk_Mo_46 ⟨rfl, rfl, by decide, by decide⟩ rfl (Nat.le_of_ble_eq_true rfl) ⟨by decide, by decide⟩ (fun H hG => gw_recv (q := (R_Mo, T_Mo, 9)) hK hG h4 rfl rfl (by decide) rfl) (fun M => gx_no) rfl (fun v => ?_)
        refine go_and (fun hv => ?_)
        subst hv
        refine go_aload_n hF d_Mo_comeGate_84 rfl ?_
        refine go_iload_n hF d_Mo_comeGate_85 rfl ?_
        refine go_bipush (v := 9) hF d_Mo_comeGate_86 (by decide) ?_
        refine go_iconst (v := -1) hF d_Mo_comeGate_88 (by decide) ?_
        refine go_callVX hF hE hlo d_Mo_comeGate_89 (con_Mo_setGate hlt h4 (k := 9) rfl (by have := hg.2; omega) rfl (by decide) _) mt_Mo_setGate mv_Mo_setGate lk_Mo_46 ⟨rfl, rfl, by decide, by decide⟩ rfl (Nat.le_of_ble_eq_true rfl) ⟨by decide, by decide⟩ (fun H hG => gw_recv (q := (R_Mo, T_Mo, 9)) hK hG h4 rfl rfl (by decide) rfl) (fun M => gx_no) rfl (fun v => ?_)
        refine go_and (fun hv => ?_)
        subst hv
        refine go_G (G' := gw E B N (mW w (tkF f g))) (fun H hG => by unfold tkF; rw [if_neg (fun z => z.2 h39)]; rw [e10] at hG; exact hG) ?_
        refine go_aload_n hF d_Mo_comeGate_92 rfl ?_
        refine go_aload_n hF d_Mo_comeGate_93 rfl ?_
        refine go_iload_n hF d_Mo_comeGate_94 rfl ?_
        refine go_iconst (v := 3) hF d_Mo_comeGate_95 (by decide) ?_
        refine go_callVX hF hE hlo d_Mo_comeGate_96 (con_Mo_ofGate hlt h4 (k := 3) rfl (by have := hg.2; omega) rfl (by decide)) mt_Mo_ofGate mv_Mo_ofGate lk_Mo_36 ⟨rfl, rfl, by decide, by decide⟩ rfl (Nat.le_of_ble_eq_true rfl) ⟨by decide, by decide⟩ (fun H hG => gw_recv (q := (R_Mo, T_Mo, 9)) hK hG h4 rfl rfl (by decide) rfl) (fun M => gx_no) rfl (fun v => ?_)
        refine go_and (fun hv => ?_)
        subst hv
        refine go_callVX hF hE hlo d_Mo_comeGate_99 (con_Mo_settle (n := nz (f (250 + 14 * g + 3))) hlt h4 (e3.trans hva.1) hn6 hKK (by rw [tkF_n f g _ (by have := hva.2; unfold nz; omega), hh.1.2.2.2.1]; exact hh.2.2.2.2.1) hTh) mt_Mo_settle mv_Mo_settle lk_Mo_74 ⟨rfl, rfl, by decide, by decide⟩ rfl (Nat.le_of_ble_eq_true rfl) ⟨by decide, by decide⟩ (fun H hG => gw_recv (q := (R_Mo, T_Mo, 9)) hK hG h4 rfl rfl (by decide) rfl) (fun M => gx_no) rfl (fun v => ?_)
        refine go_ex (fun f3 => ?_)
        refine go_and (fun h9 => ?_)
        refine go_and (fun hv => ?_)
        subst hv
        exact go_vret hF hM d_Mo_comeGate_102 (by decide) (by decide) (fun H hG => ⟨f3, by rw [hh.1.2.2.2.1] at h9; exact h9, rfl, hG⟩)
      · exact absurd rfl h53
    · refine go_iconst (v := 1) hF d_Mo_comeGate_42 (by decide) ?_
      refine go_goto (tgt := 47) hF d_Mo_comeGate_43 (by decide) ?_
      refine go_istore_n hF d_Mo_comeGate_47 (by decide) ?_
      refine go_lv (lv' := [(0, _), (1, _), (2, _)]) ⟨rfl, rfl, rfl, trivial⟩ ?_
      refine go_aload_n hF d_Mo_comeGate_48 rfl ?_
      refine go_iload_n hF d_Mo_comeGate_49 rfl ?_
      refine go_bipush (v := 7) hF d_Mo_comeGate_50 (by decide) ?_
      refine go_iload_n hF d_Mo_comeGate_52 rfl ?_
      refine go_if_eq (tgt := 66) hF d_Mo_comeGate_53 (by decide) (fun h53 => ?_) (fun h53 => ?_)
      · exact absurd h53 (by decide)
      · refine go_aload_n hF d_Mo_comeGate_56 rfl ?_
        refine go_iload_n hF d_Mo_comeGate_57 rfl ?_
        refine go_bipush (v := 9) hF d_Mo_comeGate_58 (by decide) ?_
        refine go_callVX hF hE hlo d_Mo_comeGate_60 (con_Mo_ofGate hlt h4 (k := 9) rfl (by have := hg.2; omega) rfl (by decide)) mt_Mo_ofGate mv_Mo_ofGate lk_Mo_36 ⟨rfl, rfl, by decide, by decide⟩ rfl (Nat.le_of_ble_eq_true rfl) ⟨by decide, by decide⟩ (fun H hG => gw_recv (q := (R_Mo, T_Mo, 9)) hK hG h4 rfl rfl (by decide) rfl) (fun M => gx_no) rfl (fun v => ?_)
        refine go_and (fun hv => ?_)
        subst hv
        refine go_goto (tgt := 67) hF d_Mo_comeGate_63 (by decide) ?_
        refine go_callVX hF hE hlo d_Mo_comeGate_67 (con_Mo_setGate hlt h4 (k := 7) rfl (by have := hg.2; omega) rfl (by decide) _) mt_Mo_setGate mv_Mo_setGate lk_Mo_46 ⟨rfl, rfl, by decide, by decide⟩ rfl (Nat.le_of_ble_eq_true rfl) ⟨by decide, by decide⟩ (fun H hG => gw_recv (q := (R_Mo, T_Mo, 9)) hK hG h4 rfl rfl (by decide) rfl) (fun M => gx_no) rfl (fun v => ?_)
        refine go_and (fun hv => ?_)
        subst hv
        refine go_aload_n hF d_Mo_comeGate_70 rfl ?_
        refine go_iload_n hF d_Mo_comeGate_71 rfl ?_
        refine go_bipush (v := 8) hF d_Mo_comeGate_72 (by decide) ?_
        refine go_aload_n hF d_Mo_comeGate_74 rfl ?_
        refine go_iload_n hF d_Mo_comeGate_75 rfl ?_
        refine go_bipush (v := 10) hF d_Mo_comeGate_76 (by decide) ?_
        refine go_callVX hF hE hlo d_Mo_comeGate_78 (con_Mo_ofGate hlt h4 (k := 10) rfl (by have := hg.2; omega) rfl (by decide)) mt_Mo_ofGate mv_Mo_ofGate lk_Mo_36 ⟨rfl, rfl, by decide, by decide⟩ rfl (Nat.le_of_ble_eq_true rfl) ⟨by decide, by decide⟩ (fun H hG => gw_recv (q := (R_Mo, T_Mo, 9)) hK hG h4 rfl rfl (by decide) rfl) (fun M => gx_no) rfl (fun v => ?_)
        refine go_and (fun hv => ?_)
        subst hv
        refine go_callVX hF hE hlo d_Mo_comeGate_81 (con_Mo_setGate hlt h4 (k := 8) rfl (by have := hg.2; omega) rfl (by decide) _) mt_Mo_setGate mv_Mo_setGate lk_Mo_46 ⟨rfl, rfl, by decide, by decide⟩ rfl (Nat.le_of_ble_eq_true rfl) ⟨by decide, by decide⟩ (fun H hG => gw_recv (q := (R_Mo, T_Mo, 9)) hK hG h4 rfl rfl (by decide) rfl) (fun M => gx_no) rfl (fun v => ?_)
        refine go_and (fun hv => ?_)
        subst hv
        refine go_aload_n hF d_Mo_comeGate_84 rfl ?_
        refine go_iload_n hF d_Mo_comeGate_85 rfl ?_
        refine go_bipush (v := 9) hF d_Mo_comeGate_86 (by decide) ?_
        refine go_iconst (v := -1) hF d_Mo_comeGate_88 (by decide) ?_
        refine go_callVX hF hE hlo d_Mo_comeGate_89 (con_Mo_setGate hlt h4 (k := 9) rfl (by have := hg.2; omega) rfl (by decide) _) mt_Mo_setGate mv_Mo_setGate lk_Mo_46 ⟨rfl, rfl, by decide, by decide⟩ rfl (Nat.le_of_ble_eq_true rfl) ⟨by decide, by decide⟩ (fun H hG => gw_recv (q := (R_Mo, T_Mo, 9)) hK hG h4 rfl rfl (by decide) rfl) (fun M => gx_no) rfl (fun v => ?_)
        refine go_and (fun hv => ?_)
        subst hv
        refine go_G (G' := gw E B N (mW w (tkF f g))) (fun H hG => by unfold tkF; rw [if_pos ⟨h22, h39⟩]; rw [e9] at hG; rw [e10] at hG; exact hG) ?_
        refine go_aload_n hF d_Mo_comeGate_92 rfl ?_
        refine go_aload_n hF d_Mo_comeGate_93 rfl ?_
        refine go_iload_n hF d_Mo_comeGate_94 rfl ?_
        refine go_iconst (v := 3) hF d_Mo_comeGate_95 (by decide) ?_
        refine go_callVX hF hE hlo d_Mo_comeGate_96 (con_Mo_ofGate hlt h4 (k := 3) rfl (by have := hg.2; omega) rfl (by decide)) mt_Mo_ofGate mv_Mo_ofGate lk_Mo_36 ⟨rfl, rfl, by decide, by decide⟩ rfl (Nat.le_of_ble_eq_true rfl) ⟨by decide, by decide⟩ (fun H hG => gw_recv (q := (R_Mo, T_Mo, 9)) hK hG h4 rfl rfl (by decide) rfl) (fun M => gx_no) rfl (fun v => ?_)
        refine go_and (fun hv => ?_)
        subst hv
        refine go_callVX hF hE hlo d_Mo_comeGate_99 (con_Mo_settle (n := nz (f (250 + 14 * g + 3))) hlt h4 (e3.trans hva.1) hn6 hKK (by rw [tkF_n f g _ (by have := hva.2; unfold nz; omega), hh.1.2.2.2.1]; exact hh.2.2.2.2.1) hTh) mt_Mo_settle mv_Mo_settle lk_Mo_74 ⟨rfl, rfl, by decide, by decide⟩ rfl (Nat.le_of_ble_eq_true rfl) ⟨by decide, by decide⟩ (fun H hG => gw_recv (q := (R_Mo, T_Mo, 9)) hK hG h4 rfl rfl (by decide) rfl) (fun M => gx_no) rfl (fun v => ?_)
        refine go_ex (fun f3 => ?_)
        refine go_and (fun h9 => ?_)
        refine go_and (fun hv => ?_)
        subst hv
        exact go_vret hF hM d_Mo_comeGate_102 (by decide) (by decide) (fun H hG => ⟨f3, by rw [hh.1.2.2.2.1] at h9; exact h9, rfl, hG⟩)
