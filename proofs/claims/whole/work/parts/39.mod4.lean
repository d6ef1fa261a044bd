theorem thr_v (w : wdT) (f : Nat → Int32) (x : Int32) : wI (mW (sI w 4 0 0 0 0 x) f) 4 0 0 0 0 = x := by
  rw [mW_n _ f (by omega), rd_II, if_pos (by simp)]
def rnOk (c : wdT) (ι : Nat) (y : Int64) : Prop := wL c 0 ι 0 0 0 ≤ y ∧ y ≤ 1000000000
theorem le_an {x t : Int32} {a b : Int64} (h1 : a = x.toInt64) (h2 : t.toInt64 = b) (h3 : t.toInt ≤ x.toInt) (q : a ≤ b) : x = t := by
  rw [h1, ← h2, up_le, Int32.le_iff_toInt_le] at q
  exact Int32.toInt_inj.mp (by omega)
theorem nlt64 {x y : Int64} (h : ¬ x < y) : y ≤ x := by
  rw [Int64.lt_iff_toInt_lt] at h
  rw [Int64.le_iff_toInt_le]
  omega
/-- nothing that waits comes before the next event -/
theorem late_g {K : Nat} {c : wdT} {ι : Nat} {f : Nat → Int32} {y : Int} (h : Rel K c ι f) (hy : y ≤ (nTF f (nxh c ι) (nxg c ι)).toInt) : ∀ g, g < cG c ι → ¬ wI c 0 ι 14 7 g = -1 → y ≤ (f (250 + 14 * g + 8)).toInt := by
  intro g hg hw
  obtain ⟨b, hb, _⟩ := gbs_min c ι (cG c ι) g hg hw
  have q := (Rel_ng h (show nxg c ι = some b from hb)).2.2.2.2 g hg hw
  have e : (nTF f (nxh c ι) (nxg c ι)).toInt ≤ (gTF f (nxg c ι)).toInt := by
    unfold nTF
    split
    · rename_i z
      rw [Int32.lt_iff_toInt_lt] at z
      omega
    · exact Int.le_refl _
  rw [show nxg c ι = some b from hb, gTs] at e
  rw [show nxg c ι = some b from hb] at hy
  omega
theorem late_h {K : Nat} {c : wdT} {ι : Nat} {f : Nat → Int32} {y : Int} (h : Rel K c ι f) (hy : y ≤ (nTF f (nxh c ι) (nxg c ι)).toInt) : ∀ i, i < cH c ι → y ≤ (f (700 + 5 * i + 0)).toInt := by
  intro i hi
  cases eh : nxh c ι with
  | none => rw [Rel_nh0 eh] at hi; omega
  | some a =>
    have q := (Rel_nh h eh).2.2.2 i hi
    have e : (nTF f (nxh c ι) (nxg c ι)).toInt ≤ (hTF f (nxh c ι)).toInt := by
      unfold nTF
      split
      · exact Int.le_refl _
      · rename_i z
        rw [Int32.lt_iff_toInt_lt] at z
        omega
    rw [eh, hTs] at e
    rw [eh] at hy
    omega
set_option maxHeartbeats 4000000 in
set_option maxRecDepth 100000 in
theorem con_Mo_run {l : Launch} (hlt : l.stackTraces = false) {E : gE} {B : bsT} {N : nwT} {w : wdT} {f : Nat → Int32} (h4 : N.1 4 0 = true) {K : Nat} {c : wdT} {ι : Nat} {y : Int64} (hKK : K + 150 < 1000000000) (hR : Rel K c ι f) : Con l E y_Mo_run (Cond.code y_Mo_run c_Mo_run 12 (some .long) :: gAll) rm_Mo_run [.ref (ad B 4 0 0 0), .long y] (gw E B N (mW w f)) (fun v H => (rnOk c ι y ∧ ∃ f2, Rel (K + 150) (adW ι y 150 c 0 0).1 ι f2 ∧ v = some (.long (adW ι y 150 c 0 0).2) ∧ gw E B N (mW (sI w 4 0 0 0 0 0) f2) H) ∨ (¬ rnOk c ι y ∧ v = some (.long 0) ∧ gw E B N (mW (sI w 4 0 0 0 0 1) f) H)) (fun _ _ => False) 0 0 := by
  refine con_of (by decide) hlt (Nat.le_of_ble_eq_true rfl) ?_
  intro F hF hM htab hnm hE hlo hl
  subst hl
  have hF : Fb F c_Mo_run R_Mo 12 rm_Mo_run := hF
  have hK := hE.1
  have hT := hE.2.1
  refine go_lv (lv' := [(0, _), (1, _)]) ⟨rfl, rfl, trivial⟩ ?_
  have J126 : rnOk c ι y → ∀ (m came ge : Nat) (tv : Int32) (u : wdT) (f2 : Nat → Int32) (K2 : Nat), came + (m + 1) = 150 → K2 ≤ K + came → Rel K2 u ι f2 → (f2 0).toInt64 ≤ y → (tv = f2 0 ∨ (tv = -1 ∧ ge = 0)) → adW ι y (m + 1) u ge came = adW ι y 150 c 0 0 → (∀ (ge' : Nat) (f3 : Nat → Int32) (u' : wdT) (tv' : Int32), Rel (K2 + 1) u' ι f3 → (f3 0).toInt64 ≤ y → tv' = f3 0 → adW ι y m u' ge' (came + 1) = adW ι y 150 c 0 0 → Go F 46 [(0, .ref (ad B 4 0 0 0)), (1, .long y), (3, .int (nI (came + 1))), (4, .int (nI ge')), (5, .int tv')] [] (gw E B N (mW (sI w 4 0 0 0 0 0) f3)) 0 0) → Go F 126 [(0, .ref (ad B 4 0 0 0)), (1, .long y), (3, .int (nI came)), (4, .int (nI ge)), (5, .int tv), (6, .int (oI (nxh u ι))), (7, .int (oI (nxg u ι))), (8, .int (hTF f2 (nxh u ι))), (9, .int (gTF f2 (nxg u ι))), (10, .int (nTF f2 (nxh u ι) (nxg u ι)))] [] (gw E B N (mW (sI w 4 0 0 0 0 0) f2)) 0 0 := by
    intro hok m came ge tv u f2 K2 hm hk2 hr hty htv hRR hI
    have hy9 := hok.2
    have hnx := Rel_next hr hy9
    refine go_iload hF d_Mo_run_126 rfl ?_
    refine go_i2l hF d_Mo_run_128 ?_
    refine go_lload_n hF d_Mo_run_129 rfl ?_
    refine go_lif_le (tgt := 145) hF d_Mo_run_130 d_Mo_run_131 (by decide) (fun h130 => ?_) (fun h130 => ?_)
    · obtain ⟨w1, w2, w3, w4, w5, w6⟩ := hnx.2 h130
      rw [adW_s, if_neg (fun z => hnx.1.mp z h130)] at hRR
      refine go_iload hF d_Mo_run_145 rfl ?_
      refine go_iload hF d_Mo_run_147 rfl ?_
      refine go_icmp_lt (tgt := 184) hF d_Mo_run_149 (by decide) (fun h149 => ?_) (fun h149 => ?_)
      · refine go_iconst (v := 1) hF d_Mo_run_184 (by decide) ?_
        refine go_goto (tgt := 189) hF d_Mo_run_185 (by decide) ?_
        refine go_istore hF d_Mo_run_189 (by decide) ?_
        refine go_lv (lv' := [(0, _), (1, _), (3, _), (4, _), (5, _), (6, _), (7, _), (8, _), (9, _), (10, _), (11, _)]) ⟨rfl, rfl, rfl, rfl, rfl, rfl, rfl, rfl, rfl, rfl, rfl, trivial⟩ ?_
        have nf : nxf u ι := Classical.byContradiction (fun z => (w6 z).1 h149)
        obtain ⟨a, ha⟩ := nxf_some nf
        refine go_iload hF d_Mo_run_191 rfl ?_
        refine go_iload hF d_Mo_run_193 rfl ?_
        refine go_icmp_ne (tgt := 203) hF d_Mo_run_195 (by decide) (fun h195 => ?_) (fun h195 => ?_)
        · refine go_iconst (v := 0) hF d_Mo_run_203 (by decide) ?_
          refine go_istore hF d_Mo_run_204 (by decide) ?_
          refine go_lv (lv' := [(0, _), (1, _), (3, _), (4, _), (5, _), (6, _), (7, _), (8, _), (9, _), (10, _), (11, _)]) ⟨rfl, rfl, rfl, rfl, rfl, rfl, rfl, rfl, rfl, rfl, rfl, trivial⟩ ?_
          have hge : ge1 u ι ge = 0 := by
            unfold ge1
            rcases htv with z | z
            · rw [if_neg (fun q => h195 (by rw [z]; exact le_an w1 (hr.2.1.1) w2.1 q))]
            · rw [z.2]; split <;> rfl
          refine go_lv (lv' := [(0, _), (1, _), (3, _), (4, .int (nI 0)), (5, _), (6, _), (7, _), (8, _), (9, _), (10, _), (11, _)]) ⟨rfl, rfl, rfl, rfl, rfl, rfl, rfl, rfl, rfl, rfl, rfl, trivial⟩ ?_
          refine go_iload hF d_Mo_run_206 rfl ?_
          refine go_istore hF d_Mo_run_208 (by decide) ?_
          refine go_lv (lv' := [(0, _), (1, _), (3, _), (4, _), (5, _), (6, _), (7, _), (8, _), (9, _), (10, _), (11, _)]) ⟨rfl, rfl, rfl, rfl, rfl, rfl, rfl, rfl, rfl, rfl, rfl, trivial⟩ ?_
          refine go_aload_n hF d_Mo_run_210 rfl ?_
          refine gs_getr hF hK d_Mo_run_211 fl_Mo_7 h4 rfl rfl (by decide) rfl ?_
          refine go_iconst (v := 0) hF d_Mo_run_214 (by decide) ?_
          refine go_iload hF d_Mo_run_215 rfl ?_
          refine gs_ms hF hK hT hlo d_Mo_run_217 h4 (show (0 : Int32) = nI 0 from rfl) (by decide) ?_
          have hTm := Rel_time hr w2 w3 w4
          rw [if_pos nf, hge, ha, w1] at hRR
          have hao : oI (nxh u ι) = nI a := by rw [ha]; rfl
          have hal := (Rel_nh hr ha).1
          refine go_iload hF d_Mo_run_218 rfl ?_
          refine go_if_eq (tgt := 232) hF d_Mo_run_220 (by decide) (fun h220 => ?_) (fun h220 => ?_)
          · exact absurd h220 (by decide)
          · refine go_aload_n hF d_Mo_run_223 rfl ?_
            refine go_iload hF d_Mo_run_224 rfl ?_
            refine go_callVX hF hE hlo d_Mo_run_226 (con_Mo_comeHand (K := K2) (c := sL u 0 ι 0 0 0 (nTF f2 (nxh u ι) (nxg u ι)).toInt64) hlt h4 hao hal (by omega) hTm) mt_Mo_comeHand mv_Mo_comeHand lk_Mo_99 ⟨rfl, rfl, by decide, by decide⟩ rfl (Nat.le_of_ble_eq_true rfl) ⟨by decide, by decide⟩ (fun H hG => gw_recv (q := (R_Mo, T_Mo, 9)) hK hG h4 rfl rfl (by decide) rfl) (fun M => gx_no) rfl (fun v => ?_)
            refine go_ex (fun f3 => ?_)
            refine go_and (fun h9 => ?_)
            refine go_and (fun hv => ?_)
            subst hv
            refine go_goto (tgt := 261) hF d_Mo_run_229 (by decide) ?_
            refine go_iincN hF d_Mo_run_261 rfl (by decide) ?_
            refine go_lv (lv' := [(0, _), (1, _), (3, _), (4, _), (5, _), (6, _), (7, _), (8, _), (9, _), (10, _), (11, _)]) ⟨rfl, rfl, rfl, rfl, rfl, rfl, rfl, rfl, rfl, rfl, rfl, trivial⟩ ?_
            refine go_goto (tgt := 46) hF d_Mo_run_264 (by decide) ?_
            have e0 : f3 0 = (nTF f2 (nxh u ι) (nxg u ι)) := up_inj (by rw [h9.2.1.1, tm_rf, tm_th, tm_s])
            refine go_lv (lv' := [(0, _), (1, _), (3, _), (4, _), (5, _)]) ⟨rfl, rfl, rfl, rfl, rfl, trivial⟩ ?_
            exact hI (0) f3 _ _ h9 (by rw [e0]; exact h130) e0.symm hRR
        · refine go_iload hF d_Mo_run_198 rfl ?_
          refine go_goto (tgt := 204) hF d_Mo_run_200 (by decide) ?_
          refine go_istore hF d_Mo_run_204 (by decide) ?_
          refine go_lv (lv' := [(0, _), (1, _), (3, _), (4, _), (5, _), (6, _), (7, _), (8, _), (9, _), (10, _), (11, _)]) ⟨rfl, rfl, rfl, rfl, rfl, rfl, rfl, rfl, rfl, rfl, rfl, trivial⟩ ?_
          have hge : ge1 u ι ge = ge := by
            unfold ge1
            rcases htv with z | z
            · rw [if_pos (by rw [w1, h195, z, hr.2.1.1]; exact Int64.le_refl _)]
            · exfalso
              have q := w2.1
              have q2 := hr.2.1.2.2.2.2.2.2.2.1.1
              rw [h195, z.1, im1] at q
              omega
          refine go_iload hF d_Mo_run_206 rfl ?_
          refine go_istore hF d_Mo_run_208 (by decide) ?_
          refine go_lv (lv' := [(0, _), (1, _), (3, _), (4, _), (5, _), (6, _), (7, _), (8, _), (9, _), (10, _), (11, _)]) ⟨rfl, rfl, rfl, rfl, rfl, rfl, rfl, rfl, rfl, rfl, rfl, trivial⟩ ?_
          refine go_aload_n hF d_Mo_run_210 rfl ?_
          refine gs_getr hF hK d_Mo_run_211 fl_Mo_7 h4 rfl rfl (by decide) rfl ?_
          refine go_iconst (v := 0) hF d_Mo_run_214 (by decide) ?_
          refine go_iload hF d_Mo_run_215 rfl ?_
          refine gs_ms hF hK hT hlo d_Mo_run_217 h4 (show (0 : Int32) = nI 0 from rfl) (by decide) ?_
          have hTm := Rel_time hr w2 w3 w4
          rw [if_pos nf, hge, ha, w1] at hRR
          have hao : oI (nxh u ι) = nI a := by rw [ha]; rfl
          have hal := (Rel_nh hr ha).1
          refine go_iload hF d_Mo_run_218 rfl ?_
          refine go_if_eq (tgt := 232) hF d_Mo_run_220 (by decide) (fun h220 => ?_) (fun h220 => ?_)
          · exact absurd h220 (by decide)
          · refine go_aload_n hF d_Mo_run_223 rfl ?_
            refine go_iload hF d_Mo_run_224 rfl ?_
            refine go_callVX hF hE hlo d_Mo_run_226 (con_Mo_comeHand (K := K2) (c := sL u 0 ι 0 0 0 (nTF f2 (nxh u ι) (nxg u ι)).toInt64) hlt h4 hao hal (by omega) hTm) mt_Mo_comeHand mv_Mo_comeHand lk_Mo_99 ⟨rfl, rfl, by decide, by decide⟩ rfl (Nat.le_of_ble_eq_true rfl) ⟨by decide, by decide⟩ (fun H hG => gw_recv (q := (R_Mo, T_Mo, 9)) hK hG h4 rfl rfl (by decide) rfl) (fun M => gx_no) rfl (fun v => ?_)
            refine go_ex (fun f3 => ?_)
            refine go_and (fun h9 => ?_)
            refine go_and (fun hv => ?_)
            subst hv
            refine go_goto (tgt := 261) hF d_Mo_run_229 (by decide) ?_
            refine go_iincN hF d_Mo_run_261 rfl (by decide) ?_
            refine go_lv (lv' := [(0, _), (1, _), (3, _), (4, _), (5, _), (6, _), (7, _), (8, _), (9, _), (10, _), (11, _)]) ⟨rfl, rfl, rfl, rfl, rfl, rfl, rfl, rfl, rfl, rfl, rfl, trivial⟩ ?_
            refine go_goto (tgt := 46) hF d_Mo_run_264 (by decide) ?_
            have e0 : f3 0 = (nTF f2 (nxh u ι) (nxg u ι)) := up_inj (by rw [h9.2.1.1, tm_rf, tm_th, tm_s])
            refine go_lv (lv' := [(0, _), (1, _), (3, _), (4, _), (5, _)]) ⟨rfl, rfl, rfl, rfl, rfl, trivial⟩ ?_
            exact hI (ge) f3 _ _ h9 (by rw [e0]; exact h130) e0.symm hRR
      · refine go_iload hF d_Mo_run_152 rfl ?_
        refine go_iload hF d_Mo_run_154 rfl ?_
        refine go_icmp_ne (tgt := 188) hF d_Mo_run_156 (by decide) (fun h156 => ?_) (fun h156 => ?_)
        · refine go_iconst (v := 0) hF d_Mo_run_188 (by decide) ?_
          refine go_istore hF d_Mo_run_189 (by decide) ?_
          refine go_lv (lv' := [(0, _), (1, _), (3, _), (4, _), (5, _), (6, _), (7, _), (8, _), (9, _), (10, _), (11, _)]) ⟨rfl, rfl, rfl, rfl, rfl, rfl, rfl, rfl, rfl, rfl, rfl, trivial⟩ ?_
          have nf : ¬ nxf u ι := fun z => (w5 z).elim h149 (fun z => h156 z.1)
          obtain ⟨_, b, hb, _⟩ := w6 nf
          refine go_iload hF d_Mo_run_191 rfl ?_
          refine go_iload hF d_Mo_run_193 rfl ?_
          refine go_icmp_ne (tgt := 203) hF d_Mo_run_195 (by decide) (fun h195 => ?_) (fun h195 => ?_)
          · refine go_iconst (v := 0) hF d_Mo_run_203 (by decide) ?_
            refine go_istore hF d_Mo_run_204 (by decide) ?_
            refine go_lv (lv' := [(0, _), (1, _), (3, _), (4, _), (5, _), (6, _), (7, _), (8, _), (9, _), (10, _), (11, _)]) ⟨rfl, rfl, rfl, rfl, rfl, rfl, rfl, rfl, rfl, rfl, rfl, trivial⟩ ?_
            have hge : ge1 u ι ge = 0 := by
              unfold ge1
              rcases htv with z | z
              · rw [if_neg (fun q => h195 (by rw [z]; exact le_an w1 (hr.2.1.1) w2.1 q))]
              · rw [z.2]; split <;> rfl
            refine go_lv (lv' := [(0, _), (1, _), (3, _), (4, .int (nI 0)), (5, _), (6, _), (7, _), (8, _), (9, _), (10, _), (11, _)]) ⟨rfl, rfl, rfl, rfl, rfl, rfl, rfl, rfl, rfl, rfl, rfl, trivial⟩ ?_
            refine go_iload hF d_Mo_run_206 rfl ?_
            refine go_istore hF d_Mo_run_208 (by decide) ?_
            refine go_lv (lv' := [(0, _), (1, _), (3, _), (4, _), (5, _), (6, _), (7, _), (8, _), (9, _), (10, _), (11, _)]) ⟨rfl, rfl, rfl, rfl, rfl, rfl, rfl, rfl, rfl, rfl, rfl, trivial⟩ ?_
            refine go_aload_n hF d_Mo_run_210 rfl ?_
            refine gs_getr hF hK d_Mo_run_211 fl_Mo_7 h4 rfl rfl (by decide) rfl ?_
            refine go_iconst (v := 0) hF d_Mo_run_214 (by decide) ?_
            refine go_iload hF d_Mo_run_215 rfl ?_
            refine gs_ms hF hK hT hlo d_Mo_run_217 h4 (show (0 : Int32) = nI 0 from rfl) (by decide) ?_
            have hTm := Rel_time hr w2 w3 w4
            rw [if_neg nf, hge, hb, w1] at hRR
            have hbo : oI (nxg u ι) = nI b := by rw [hb]; rfl
            obtain ⟨hbl, hb7, _⟩ := Rel_ng hr hb
            have hgb := (Rel_g hr).2
            refine go_iload hF d_Mo_run_218 rfl ?_
            refine go_if_eq (tgt := 232) hF d_Mo_run_220 (by decide) (fun h220 => ?_) (fun h220 => ?_)
            · refine go_iload hF d_Mo_run_232 rfl ?_
              refine go_bipush (v := 60) hF d_Mo_run_234 (by decide) ?_
              refine go_icmp_ne (tgt := 252) hF d_Mo_run_236 (by decide) (fun h236 => ?_) (fun h236 => ?_)
              · rw [if_neg h236] at hRR
                refine go_iincN hF d_Mo_run_252 rfl (by decide) ?_
                refine go_lv (lv' := [(0, _), (1, _), (3, _), (4, _), (5, _), (6, _), (7, _), (8, _), (9, _), (10, _), (11, _)]) ⟨rfl, rfl, rfl, rfl, rfl, rfl, rfl, rfl, rfl, rfl, rfl, trivial⟩ ?_
                refine go_aload_n hF d_Mo_run_255 rfl ?_
                refine go_iload hF d_Mo_run_256 rfl ?_
                refine go_callVX hF hE hlo d_Mo_run_258 (con_Mo_comeGate (K := K2) (c := sL u 0 ι 0 0 0 (nTF f2 (nxh u ι) (nxg u ι)).toInt64) hlt h4 hbo hbl hb7 (by omega) hTm) mt_Mo_comeGate mv_Mo_comeGate lk_Mo_104 ⟨rfl, rfl, by decide, by decide⟩ rfl (Nat.le_of_ble_eq_true rfl) ⟨by decide, by decide⟩ (fun H hG => gw_recv (q := (R_Mo, T_Mo, 9)) hK hG h4 rfl rfl (by decide) rfl) (fun M => gx_no) rfl (fun v => ?_)
                refine go_ex (fun f3 => ?_)
                refine go_and (fun h9 => ?_)
                refine go_and (fun hv => ?_)
                subst hv
                refine go_iincN hF d_Mo_run_261 rfl (by decide) ?_
                refine go_lv (lv' := [(0, _), (1, _), (3, _), (4, _), (5, _), (6, _), (7, _), (8, _), (9, _), (10, _), (11, _)]) ⟨rfl, rfl, rfl, rfl, rfl, rfl, rfl, rfl, rfl, rfl, rfl, trivial⟩ ?_
                refine go_goto (tgt := 46) hF d_Mo_run_264 (by decide) ?_
                have e0 : f3 0 = (nTF f2 (nxh u ι) (nxg u ι)) := up_inj (by rw [h9.2.1.1, tm_rf, tm_tk, tm_s])
                refine go_lv (lv' := [(0, _), (1, _), (3, _), (4, _), (5, _)]) ⟨rfl, rfl, rfl, rfl, rfl, trivial⟩ ?_
                exact hI (0 + 1) f3 _ _ h9 (by rw [e0]; exact h130) e0.symm hRR
              · rw [if_pos h236] at hRR
                refine go_ldc2 hF kl_Mo_102 d_Mo_run_239 ?_
                refine go_aload_n hF d_Mo_run_242 rfl ?_
                refine go_iload hF d_Mo_run_243 rfl ?_
                refine go_iconst (v := 3) hF d_Mo_run_245 (by decide) ?_
                refine go_callVX hF hE hlo d_Mo_run_246 (con_Mo_ofGate hlt h4 (k := 3) hbo (by omega) rfl (by decide)) mt_Mo_ofGate mv_Mo_ofGate lk_Mo_36 ⟨rfl, rfl, by decide, by decide⟩ rfl (Nat.le_of_ble_eq_true rfl) ⟨by decide, by decide⟩ (fun H hG => gw_recv (q := (R_Mo, T_Mo, 9)) hK hG h4 rfl rfl (by decide) rfl) (fun M => gx_no) rfl (fun v => ?_)
                refine go_and (fun hv => ?_)
                subst hv
                refine go_i2l hF d_Mo_run_249 ?_
                refine go_lsub hF d_Mo_run_250 ?_
                exact go_lret hF hM d_Mo_run_251 (by decide) (by decide) (fun H hG => Or.inl ⟨hok, _, by rw [← hRR]; exact Rel_K (by omega) hTm, by
                  rw [← hRR, fu_n (by omega), (hr.2.2.2.1 b hbl).1.2.2.2.1]
                  exact congrArg (fun z => some (Value.long z)) (out_M (hr.1.2.2.2.2.2.1 b hbl).2.2).symm, hG⟩)
            · exact absurd rfl h220
          · refine go_iload hF d_Mo_run_198 rfl ?_
            refine go_goto (tgt := 204) hF d_Mo_run_200 (by decide) ?_
            refine go_istore hF d_Mo_run_204 (by decide) ?_
            refine go_lv (lv' := [(0, _), (1, _), (3, _), (4, _), (5, _), (6, _), (7, _), (8, _), (9, _), (10, _), (11, _)]) ⟨rfl, rfl, rfl, rfl, rfl, rfl, rfl, rfl, rfl, rfl, rfl, trivial⟩ ?_
            have hge : ge1 u ι ge = ge := by
              unfold ge1
              rcases htv with z | z
              · rw [if_pos (by rw [w1, h195, z, hr.2.1.1]; exact Int64.le_refl _)]
              · exfalso
                have q := w2.1
                have q2 := hr.2.1.2.2.2.2.2.2.2.1.1
                rw [h195, z.1, im1] at q
                omega
            refine go_iload hF d_Mo_run_206 rfl ?_
            refine go_istore hF d_Mo_run_208 (by decide) ?_
            refine go_lv (lv' := [(0, _), (1, _), (3, _), (4, _), (5, _), (6, _), (7, _), (8, _), (9, _), (10, _), (11, _)]) ⟨rfl, rfl, rfl, rfl, rfl, rfl, rfl, rfl, rfl, rfl, rfl, trivial⟩ ?_
            refine go_aload_n hF d_Mo_run_210 rfl ?_
            refine gs_getr hF hK d_Mo_run_211 fl_Mo_7 h4 rfl rfl (by decide) rfl ?_
            refine go_iconst (v := 0) hF d_Mo_run_214 (by decide) ?_
            refine go_iload hF d_Mo_run_215 rfl ?_
            refine gs_ms hF hK hT hlo d_Mo_run_217 h4 (show (0 : Int32) = nI 0 from rfl) (by decide) ?_
            have hTm := Rel_time hr w2 w3 w4
            rw [if_neg nf, hge, hb, w1] at hRR
            have hbo : oI (nxg u ι) = nI b := by rw [hb]; rfl
            obtain ⟨hbl, hb7, _⟩ := Rel_ng hr hb
            have hgb := (Rel_g hr).2
            refine go_iload hF d_Mo_run_218 rfl ?_
            refine go_if_eq (tgt := 232) hF d_Mo_run_220 (by decide) (fun h220 => ?_) (fun h220 => ?_)
            · refine go_iload hF d_Mo_run_232 rfl ?_
              refine go_bipush (v := 60) hF d_Mo_run_234 (by decide) ?_
              refine go_icmp_ne (tgt := 252) hF d_Mo_run_236 (by decide) (fun h236 => ?_) (fun h236 => ?_)
              · rw [if_neg h236] at hRR
                refine go_iincN hF d_Mo_run_252 rfl (by decide) ?_
                refine go_lv (lv' := [(0, _), (1, _), (3, _), (4, _), (5, _), (6, _), (7, _), (8, _), (9, _), (10, _), (11, _)]) ⟨rfl, rfl, rfl, rfl, rfl, rfl, rfl, rfl, rfl, rfl, rfl, trivial⟩ ?_
                refine go_aload_n hF d_Mo_run_255 rfl ?_
                refine go_iload hF d_Mo_run_256 rfl ?_
                refine go_callVX hF hE hlo d_Mo_run_258 (con_Mo_comeGate (K := K2) (c := sL u 0 ι 0 0 0 (nTF f2 (nxh u ι) (nxg u ι)).toInt64) hlt h4 hbo hbl hb7 (by omega) hTm) mt_Mo_comeGate mv_Mo_comeGate lk_Mo_104 ⟨rfl, rfl, by decide, by decide⟩ rfl (Nat.le_of_ble_eq_true rfl) ⟨by decide, by decide⟩ (fun H hG => gw_recv (q := (R_Mo, T_Mo, 9)) hK hG h4 rfl rfl (by decide) rfl) (fun M => gx_no) rfl (fun v => ?_)
                refine go_ex (fun f3 => ?_)
                refine go_and (fun h9 => ?_)
                refine go_and (fun hv => ?_)
                subst hv
                refine go_iincN hF d_Mo_run_261 rfl (by decide) ?_
                refine go_lv (lv' := [(0, _), (1, _), (3, _), (4, _), (5, _), (6, _), (7, _), (8, _), (9, _), (10, _), (11, _)]) ⟨rfl, rfl, rfl, rfl, rfl, rfl, rfl, rfl, rfl, rfl, rfl, trivial⟩ ?_
                refine go_goto (tgt := 46) hF d_Mo_run_264 (by decide) ?_
                have e0 : f3 0 = (nTF f2 (nxh u ι) (nxg u ι)) := up_inj (by rw [h9.2.1.1, tm_rf, tm_tk, tm_s])
                refine go_lv (lv' := [(0, _), (1, _), (3, _), (4, _), (5, _)]) ⟨rfl, rfl, rfl, rfl, rfl, trivial⟩ ?_
                exact hI (ge + 1) f3 _ _ h9 (by rw [e0]; exact h130) e0.symm hRR
              · rw [if_pos h236] at hRR
                refine go_ldc2 hF kl_Mo_102 d_Mo_run_239 ?_
                refine go_aload_n hF d_Mo_run_242 rfl ?_
                refine go_iload hF d_Mo_run_243 rfl ?_
                refine go_iconst (v := 3) hF d_Mo_run_245 (by decide) ?_
                refine go_callVX hF hE hlo d_Mo_run_246 (con_Mo_ofGate hlt h4 (k := 3) hbo (by omega) rfl (by decide)) mt_Mo_ofGate mv_Mo_ofGate lk_Mo_36 ⟨rfl, rfl, by decide, by decide⟩ rfl (Nat.le_of_ble_eq_true rfl) ⟨by decide, by decide⟩ (fun H hG => gw_recv (q := (R_Mo, T_Mo, 9)) hK hG h4 rfl rfl (by decide) rfl) (fun M => gx_no) rfl (fun v => ?_)
                refine go_and (fun hv => ?_)
                subst hv
                refine go_i2l hF d_Mo_run_249 ?_
                refine go_lsub hF d_Mo_run_250 ?_
                exact go_lret hF hM d_Mo_run_251 (by decide) (by decide) (fun H hG => Or.inl ⟨hok, _, by rw [← hRR]; exact Rel_K (by omega) hTm, by
                  rw [← hRR, fu_n (by omega), (hr.2.2.2.1 b hbl).1.2.2.2.1]
                  exact congrArg (fun z => some (Value.long z)) (out_M (hr.1.2.2.2.2.2.1 b hbl).2.2).symm, hG⟩)
            · exact absurd rfl h220
        · obtain ⟨a, b, ha, hb⟩ : ∃ a b, nxh u ι = some a ∧ nxg u ι = some b := by
            by_cases nf : nxf u ι
            · rcases w5 nf with z | ⟨_, a, b, z1, z2, _⟩
              · exact absurd z h149
              · exact ⟨a, b, z1, z2⟩
            · obtain ⟨_, b, z1, z2⟩ := w6 nf
              obtain ⟨a, z3, _⟩ := z2 h156
              exact ⟨a, b, z3, z1⟩
          have hal0 := (Rel_nh hr ha).1
          have h1000 := (Rel_h hr).2
          have hbl0 := (Rel_ng hr hb).1
          have h320 := (Rel_g hr).2
          refine go_aload_n hF d_Mo_run_159 rfl ?_
          refine gs_getr hF hK d_Mo_run_160 fl_Mo_7 h4 rfl rfl (by decide) rfl ?_
          refine go_sipush (v := 700) hF d_Mo_run_163 (by decide) ?_
          refine go_iconst (v := 5) hF d_Mo_run_166 (by decide) ?_
          refine go_iload hF d_Mo_run_167 rfl ?_
          refine go_imul hF d_Mo_run_169 ?_
          refine go_iadd hF d_Mo_run_170 ?_
          refine go_iconst (v := 1) hF d_Mo_run_171 (by decide) ?_
          refine go_iadd hF d_Mo_run_172 ?_
          refine gs_md hF hK hT d_Mo_run_173 h4 (ix1 (k := 1) (ixC (a := 700) (b := 5) (n := a) (by rw [ha]; rfl))) (by omega) ?_
          refine go_aload_n hF d_Mo_run_174 rfl ?_
          refine go_iload hF d_Mo_run_175 rfl ?_
          refine go_iconst (v := 3) hF d_Mo_run_177 (by decide) ?_
          refine go_callVX hF hE hlo d_Mo_run_178 (con_Mo_ofGate hlt h4 (k := 3) (show oI (nxg u ι) = nI b by rw [hb]; rfl) (by omega) rfl (by decide)) mt_Mo_ofGate mv_Mo_ofGate lk_Mo_36 ⟨rfl, rfl, by decide, by decide⟩ rfl (Nat.le_of_ble_eq_true rfl) ⟨by decide, by decide⟩ (fun H hG => gw_recv (q := (R_Mo, T_Mo, 9)) hK hG h4 rfl rfl (by decide) rfl) (fun M => gx_no) rfl (fun v => ?_)
          refine go_and (fun hv => ?_)
          subst hv
          refine go_icmp_gt (tgt := 188) hF d_Mo_run_181 (by decide) (fun h181 => ?_) (fun h181 => ?_)
          · refine go_iconst (v := 0) hF d_Mo_run_188 (by decide) ?_
            refine go_istore hF d_Mo_run_189 (by decide) ?_
            refine go_lv (lv' := [(0, _), (1, _), (3, _), (4, _), (5, _), (6, _), (7, _), (8, _), (9, _), (10, _), (11, _)]) ⟨rfl, rfl, rfl, rfl, rfl, rfl, rfl, rfl, rfl, rfl, rfl, trivial⟩ ?_
            have nf : ¬ nxf u ι := fun z => by
              rcases w5 z with z | ⟨_, a', b', z1, z2, z3⟩
              · exact h149 z
              · rw [ha] at z1
                rw [hb] at z2
                cases z1
                cases z2
                exact Int32.lt_irrefl (Int32.lt_of_lt_of_le h181 z3)
            refine go_iload hF d_Mo_run_191 rfl ?_
            refine go_iload hF d_Mo_run_193 rfl ?_
            refine go_icmp_ne (tgt := 203) hF d_Mo_run_195 (by decide) (fun h195 => ?_) (fun h195 => ?_)
            · refine go_iconst (v := 0) hF d_Mo_run_203 (by decide) ?_
              refine go_istore hF d_Mo_run_204 (by decide) ?_
              refine go_lv (lv' := [(0, _), (1, _), (3, _), (4, _), (5, _), (6, _), (7, _), (8, _), (9, _), (10, _), (11, _)]) ⟨rfl, rfl, rfl, rfl, rfl, rfl, rfl, rfl, rfl, rfl, rfl, trivial⟩ ?_
              have hge : ge1 u ι ge = 0 := by
                unfold ge1
                rcases htv with z | z
                · rw [if_neg (fun q => h195 (by rw [z]; exact le_an w1 (hr.2.1.1) w2.1 q))]
                · rw [z.2]; split <;> rfl
              refine go_lv (lv' := [(0, _), (1, _), (3, _), (4, .int (nI 0)), (5, _), (6, _), (7, _), (8, _), (9, _), (10, _), (11, _)]) ⟨rfl, rfl, rfl, rfl, rfl, rfl, rfl, rfl, rfl, rfl, rfl, trivial⟩ ?_
              refine go_iload hF d_Mo_run_206 rfl ?_
              refine go_istore hF d_Mo_run_208 (by decide) ?_
              refine go_lv (lv' := [(0, _), (1, _), (3, _), (4, _), (5, _), (6, _), (7, _), (8, _), (9, _), (10, _), (11, _)]) ⟨rfl, rfl, rfl, rfl, rfl, rfl, rfl, rfl, rfl, rfl, rfl, trivial⟩ ?_
              refine go_aload_n hF d_Mo_run_210 rfl ?_
              refine gs_getr hF hK d_Mo_run_211 fl_Mo_7 h4 rfl rfl (by decide) rfl ?_
              refine go_iconst (v := 0) hF d_Mo_run_214 (by decide) ?_
              refine go_iload hF d_Mo_run_215 rfl ?_
              refine gs_ms hF hK hT hlo d_Mo_run_217 h4 (show (0 : Int32) = nI 0 from rfl) (by decide) ?_
              have hTm := Rel_time hr w2 w3 w4
              rw [if_neg nf, hge, hb, w1] at hRR
              have hbo : oI (nxg u ι) = nI b := by rw [hb]; rfl
              obtain ⟨hbl, hb7, _⟩ := Rel_ng hr hb
              have hgb := (Rel_g hr).2
              refine go_iload hF d_Mo_run_218 rfl ?_
              refine go_if_eq (tgt := 232) hF d_Mo_run_220 (by decide) (fun h220 => ?_) (fun h220 => ?_)
              · refine go_iload hF d_Mo_run_232 rfl ?_
                refine go_bipush (v := 60) hF d_Mo_run_234 (by decide) ?_
                refine go_icmp_ne (tgt := 252) hF d_Mo_run_236 (by decide) (fun h236 => ?_) (fun h236 => ?_)
                · rw [if_neg h236] at hRR
                  refine go_iincN hF d_Mo_run_252 rfl (by decide) ?_
                  refine go_lv (lv' := [(0, _), (1, _), (3, _), (4, _), (5, _), (6, _), (7, _), (8, _), (9, _), (10, _), (11, _)]) ⟨rfl, rfl, rfl, rfl, rfl, rfl, rfl, rfl, rfl, rfl, rfl, trivial⟩ ?_
                  refine go_aload_n hF d_Mo_run_255 rfl ?_
                  refine go_iload hF d_Mo_run_256 rfl ?_
                  refine go_callVX hF hE hlo d_Mo_run_258 (con_Mo_comeGate (K := K2) (c := sL u 0 ι 0 0 0 (nTF f2 (nxh u ι) (nxg u ι)).toInt64) hlt h4 hbo hbl hb7 (by omega) hTm) mt_Mo_comeGate mv_Mo_comeGate lk_Mo_104 ⟨rfl, rfl, by decide, by decide⟩ rfl (Nat.le_of_ble_eq_true rfl) ⟨by decide, by decide⟩ (fun H hG => gw_recv (q := (R_Mo, T_Mo, 9)) hK hG h4 rfl rfl (by decide) rfl) (fun M => gx_no) rfl (fun v => ?_)
                  refine go_ex (fun f3 => ?_)
                  refine go_and (fun h9 => ?_)
                  refine go_and (fun hv => ?_)
                  subst hv
                  refine go_iincN hF d_Mo_run_261 rfl (by decide) ?_
                  refine go_lv (lv' := [(0, _), (1, _), (3, _), (4, _), (5, _), (6, _), (7, _), (8, _), (9, _), (10, _), (11, _)]) ⟨rfl, rfl, rfl, rfl, rfl, rfl, rfl, rfl, rfl, rfl, rfl, trivial⟩ ?_
                  refine go_goto (tgt := 46) hF d_Mo_run_264 (by decide) ?_
                  have e0 : f3 0 = (nTF f2 (nxh u ι) (nxg u ι)) := up_inj (by rw [h9.2.1.1, tm_rf, tm_tk, tm_s])
                  refine go_lv (lv' := [(0, _), (1, _), (3, _), (4, _), (5, _)]) ⟨rfl, rfl, rfl, rfl, rfl, trivial⟩ ?_
                  exact hI (0 + 1) f3 _ _ h9 (by rw [e0]; exact h130) e0.symm hRR
                · rw [if_pos h236] at hRR
                  refine go_ldc2 hF kl_Mo_102 d_Mo_run_239 ?_
                  refine go_aload_n hF d_Mo_run_242 rfl ?_
                  refine go_iload hF d_Mo_run_243 rfl ?_
                  refine go_iconst (v := 3) hF d_Mo_run_245 (by decide) ?_
                  refine go_callVX hF hE hlo d_Mo_run_246 (con_Mo_ofGate hlt h4 (k := 3) hbo (by omega) rfl (by decide)) mt_Mo_ofGate mv_Mo_ofGate lk_Mo_36 ⟨rfl, rfl, by decide, by decide⟩ rfl (Nat.le_of_ble_eq_true rfl) ⟨by decide, by decide⟩ (fun H hG => gw_recv (q := (R_Mo, T_Mo, 9)) hK hG h4 rfl rfl (by decide) rfl) (fun M => gx_no) rfl (fun v => ?_)
                  refine go_and (fun hv => ?_)
                  subst hv
                  refine go_i2l hF d_Mo_run_249 ?_
                  refine go_lsub hF d_Mo_run_250 ?_
                  exact go_lret hF hM d_Mo_run_251 (by decide) (by decide) (fun H hG => Or.inl ⟨hok, _, by rw [← hRR]; exact Rel_K (by omega) hTm, by
                    rw [← hRR, fu_n (by omega), (hr.2.2.2.1 b hbl).1.2.2.2.1]
                    exact congrArg (fun z => some (Value.long z)) (out_M (hr.1.2.2.2.2.2.1 b hbl).2.2).symm, hG⟩)
              · exact absurd rfl h220
            · refine go_iload hF d_Mo_run_198 rfl ?_
              refine go_goto (tgt := 204) hF d_Mo_run_200 (by decide) ?_
              refine go_istore hF d_Mo_run_204 (by decide) ?_
              refine go_lv (lv' := [(0, _), (1, _), (3, _), (4, _), (5, _), (6, _), (7, _), (8, _), (9, _), (10, _), (11, _)]) ⟨rfl, rfl, rfl, rfl, rfl, rfl, rfl, rfl, rfl, rfl, rfl, trivial⟩ ?_
              have hge : ge1 u ι ge = ge := by
                unfold ge1
                rcases htv with z | z
                · rw [if_pos (by rw [w1, h195, z, hr.2.1.1]; exact Int64.le_refl _)]
                · exfalso
                  have q := w2.1
                  have q2 := hr.2.1.2.2.2.2.2.2.2.1.1
                  rw [h195, z.1, im1] at q
                  omega
              refine go_iload hF d_Mo_run_206 rfl ?_
              refine go_istore hF d_Mo_run_208 (by decide) ?_
              refine go_lv (lv' := [(0, _), (1, _), (3, _), (4, _), (5, _), (6, _), (7, _), (8, _), (9, _), (10, _), (11, _)]) ⟨rfl, rfl, rfl, rfl, rfl, rfl, rfl, rfl, rfl, rfl, rfl, trivial⟩ ?_
              refine go_aload_n hF d_Mo_run_210 rfl ?_
              refine gs_getr hF hK d_Mo_run_211 fl_Mo_7 h4 rfl rfl (by decide) rfl ?_
              refine go_iconst (v := 0) hF d_Mo_run_214 (by decide) ?_
              refine go_iload hF d_Mo_run_215 rfl ?_
              refine gs_ms hF hK hT hlo d_Mo_run_217 h4 (show (0 : Int32) = nI 0 from rfl) (by decide) ?_
              have hTm := Rel_time hr w2 w3 w4
              rw [if_neg nf, hge, hb, w1] at hRR
              have hbo : oI (nxg u ι) = nI b := by rw [hb]; rfl
              obtain ⟨hbl, hb7, _⟩ := Rel_ng hr hb
              have hgb := (Rel_g hr).2
              refine go_iload hF d_Mo_run_218 rfl ?_
              refine go_if_eq (tgt := 232) hF d_Mo_run_220 (by decide) (fun h220 => ?_) (fun h220 => ?_)
              · refine go_iload hF d_Mo_run_232 rfl ?_
                refine go_bipush (v := 60) hF d_Mo_run_234 (by decide) ?_
                refine go_icmp_ne (tgt := 252) hF d_Mo_run_236 (by decide) (fun h236 => ?_) (fun h236 => ?_)
                · rw [if_neg h236] at hRR
                  refine go_iincN hF d_Mo_run_252 rfl (by decide) ?_
                  refine go_lv (lv' := [(0, _), (1, _), (3, _), (4, _), (5, _), (6, _), (7, _), (8, _), (9, _), (10, _), (11, _)]) ⟨rfl, rfl, rfl, rfl, rfl, rfl, rfl, rfl, rfl, rfl, rfl, trivial⟩ ?_
                  refine go_aload_n hF d_Mo_run_255 rfl ?_
                  refine go_iload hF d_Mo_run_256 rfl ?_
                  refine go_callVX hF hE hlo d_Mo_run_258 (con_Mo_comeGate (K := K2) (c := sL u 0 ι 0 0 0 (nTF f2 (nxh u ι) (nxg u ι)).toInt64) hlt h4 hbo hbl hb7 (by omega) hTm) mt_Mo_comeGate mv_Mo_comeGate lk_Mo_104 ⟨rfl, rfl, by decide, by decide⟩ rfl (Nat.le_of_ble_eq_true rfl) ⟨by decide, by decide⟩ (fun H hG => gw_recv (q := (R_Mo, T_Mo, 9)) hK hG h4 rfl rfl (by decide) rfl) (fun M => gx_no) rfl (fun v => ?_)
                  refine go_ex (fun f3 => ?_)
                  refine go_and (fun h9 => ?_)
                  refine go_and (fun hv => ?_)
                  subst hv
                  refine go_iincN hF d_Mo_run_261 rfl (by decide) ?_
                  refine go_lv (lv' := [(0, _), (1, _), (3, _), (4, _), (5, _), (6, _), (7, _), (8, _), (9, _), (10, _), (11, _)]) ⟨rfl, rfl, rfl, rfl, rfl, rfl, rfl, rfl, rfl, rfl, rfl, trivial⟩ ?_
                  refine go_goto (tgt := 46) hF d_Mo_run_264 (by decide) ?_
                  have e0 : f3 0 = (nTF f2 (nxh u ι) (nxg u ι)) := up_inj (by rw [h9.2.1.1, tm_rf, tm_tk, tm_s])
                  refine go_lv (lv' := [(0, _), (1, _), (3, _), (4, _), (5, _)]) ⟨rfl, rfl, rfl, rfl, rfl, trivial⟩ ?_
                  exact hI (ge + 1) f3 _ _ h9 (by rw [e0]; exact h130) e0.symm hRR
                · rw [if_pos h236] at hRR
                  refine go_ldc2 hF kl_Mo_102 d_Mo_run_239 ?_
                  refine go_aload_n hF d_Mo_run_242 rfl ?_
                  refine go_iload hF d_Mo_run_243 rfl ?_
                  refine go_iconst (v := 3) hF d_Mo_run_245 (by decide) ?_
                  refine go_callVX hF hE hlo d_Mo_run_246 (con_Mo_ofGate hlt h4 (k := 3) hbo (by omega) rfl (by decide)) mt_Mo_ofGate mv_Mo_ofGate lk_Mo_36 ⟨rfl, rfl, by decide, by decide⟩ rfl (Nat.le_of_ble_eq_true rfl) ⟨by decide, by decide⟩ (fun H hG => gw_recv (q := (R_Mo, T_Mo, 9)) hK hG h4 rfl rfl (by decide) rfl) (fun M => gx_no) rfl (fun v => ?_)
                  refine go_and (fun hv => ?_)
                  subst hv
                  refine go_i2l hF d_Mo_run_249 ?_
                  refine go_lsub hF d_Mo_run_250 ?_
                  exact go_lret hF hM d_Mo_run_251 (by decide) (by decide) (fun H hG => Or.inl ⟨hok, _, by rw [← hRR]; exact Rel_K (by omega) hTm, by
                    rw [← hRR, fu_n (by omega), (hr.2.2.2.1 b hbl).1.2.2.2.1]
                    exact congrArg (fun z => some (Value.long z)) (out_M (hr.1.2.2.2.2.2.1 b hbl).2.2).symm, hG⟩)
              · exact absurd rfl h220
          · refine go_iconst (v := 1) hF d_Mo_run_184 (by decide) ?_
            refine go_goto (tgt := 189) hF d_Mo_run_185 (by decide) ?_
            refine go_istore hF d_Mo_run_189 (by decide) ?_
            refine go_lv (lv' := [(0, _), (1, _), (3, _), (4, _), (5, _), (6, _), (7, _), (8, _), (9, _), (10, _), (11, _)]) ⟨rfl, rfl, rfl, rfl, rfl, rfl, rfl, rfl, rfl, rfl, rfl, trivial⟩ ?_
            have nf : nxf u ι := Classical.byContradiction (fun z => by
              obtain ⟨_, b', z1, z2⟩ := w6 z
              obtain ⟨a', z3, z4⟩ := z2 h156
              rw [ha] at z3
              rw [hb] at z1
              cases z3
              cases z1
              exact z4 (not_lt h181))
            refine go_iload hF d_Mo_run_191 rfl ?_
            refine go_iload hF d_Mo_run_193 rfl ?_
            refine go_icmp_ne (tgt := 203) hF d_Mo_run_195 (by decide) (fun h195 => ?_) (fun h195 => ?_)
            · refine go_iconst (v := 0) hF d_Mo_run_203 (by decide) ?_
              refine go_istore hF d_Mo_run_204 (by decide) ?_
              refine go_lv (lv' := [(0, _), (1, _), (3, _), (4, _), (5, _), (6, _), (7, _), (8, _), (9, _), (10, _), (11, _)]) ⟨rfl, rfl, rfl, rfl, rfl, rfl, rfl, rfl, rfl, rfl, rfl, trivial⟩ ?_
              have hge : ge1 u ι ge = 0 := by
                unfold ge1
                rcases htv with z | z
                · rw [if_neg (fun q => h195 (by rw [z]; exact le_an w1 (hr.2.1.1) w2.1 q))]
                · rw [z.2]; split <;> rfl
              refine go_lv (lv' := [(0, _), (1, _), (3, _), (4, .int (nI 0)), (5, _), (6, _), (7, _), (8, _), (9, _), (10, _), (11, _)]) ⟨rfl, rfl, rfl, rfl, rfl, rfl, rfl, rfl, rfl, rfl, rfl, trivial⟩ ?_
              refine go_iload hF d_Mo_run_206 rfl ?_
              refine go_istore hF d_Mo_run_208 (by decide) ?_
              refine go_lv (lv' := [(0, _), (1, _), (3, _), (4, _), (5, _), (6, _), (7, _), (8, _), (9, _), (10, _), (11, _)]) ⟨rfl, rfl, rfl, rfl, rfl, rfl, rfl, rfl, rfl, rfl, rfl, trivial⟩ ?_
              refine go_aload_n hF d_Mo_run_210 rfl ?_
              refine gs_getr hF hK d_Mo_run_211 fl_Mo_7 h4 rfl rfl (by decide) rfl ?_
              refine go_iconst (v := 0) hF d_Mo_run_214 (by decide) ?_
              refine go_iload hF d_Mo_run_215 rfl ?_
              refine gs_ms hF hK hT hlo d_Mo_run_217 h4 (show (0 : Int32) = nI 0 from rfl) (by decide) ?_
              have hTm := Rel_time hr w2 w3 w4
              rw [if_pos nf, hge, ha, w1] at hRR
              have hao : oI (nxh u ι) = nI a := by rw [ha]; rfl
              have hal := (Rel_nh hr ha).1
              refine go_iload hF d_Mo_run_218 rfl ?_
              refine go_if_eq (tgt := 232) hF d_Mo_run_220 (by decide) (fun h220 => ?_) (fun h220 => ?_)
              · exact absurd h220 (by decide)
              · refine go_aload_n hF d_Mo_run_223 rfl ?_
                refine go_iload hF d_Mo_run_224 rfl ?_
                refine go_callVX hF hE hlo d_Mo_run_226 (con_Mo_comeHand (K := K2) (c := sL u 0 ι 0 0 0 (nTF f2 (nxh u ι) (nxg u ι)).toInt64) hlt h4 hao hal (by omega) hTm) mt_Mo_comeHand mv_Mo_comeHand lk_Mo_99 ⟨rfl, rfl, by decide, by decide⟩ rfl (Nat.le_of_ble_eq_true rfl) ⟨by decide, by decide⟩ (fun H hG => gw_recv (q := (R_Mo, T_Mo, 9)) hK hG h4 rfl rfl (by decide) rfl) (fun M => gx_no) rfl (fun v => ?_)
                refine go_ex (fun f3 => ?_)
                refine go_and (fun h9 => ?_)
                refine go_and (fun hv => ?_)
                subst hv
                refine go_goto (tgt := 261) hF d_Mo_run_229 (by decide) ?_
                refine go_iincN hF d_Mo_run_261 rfl (by decide) ?_
                refine go_lv (lv' := [(0, _), (1, _), (3, _), (4, _), (5, _), (6, _), (7, _), (8, _), (9, _), (10, _), (11, _)]) ⟨rfl, rfl, rfl, rfl, rfl, rfl, rfl, rfl, rfl, rfl, rfl, trivial⟩ ?_
                refine go_goto (tgt := 46) hF d_Mo_run_264 (by decide) ?_
                have e0 : f3 0 = (nTF f2 (nxh u ι) (nxg u ι)) := up_inj (by rw [h9.2.1.1, tm_rf, tm_th, tm_s])
                refine go_lv (lv' := [(0, _), (1, _), (3, _), (4, _), (5, _)]) ⟨rfl, rfl, rfl, rfl, rfl, trivial⟩ ?_
                exact hI (0) f3 _ _ h9 (by rw [e0]; exact h130) e0.symm hRR
            · refine go_iload hF d_Mo_run_198 rfl ?_
              refine go_goto (tgt := 204) hF d_Mo_run_200 (by decide) ?_
              refine go_istore hF d_Mo_run_204 (by decide) ?_
              refine go_lv (lv' := [(0, _), (1, _), (3, _), (4, _), (5, _), (6, _), (7, _), (8, _), (9, _), (10, _), (11, _)]) ⟨rfl, rfl, rfl, rfl, rfl, rfl, rfl, rfl, rfl, rfl, rfl, trivial⟩ ?_
              have hge : ge1 u ι ge = ge := by
                unfold ge1
                rcases htv with z | z
                · rw [if_pos (by rw [w1, h195, z, hr.2.1.1]; exact Int64.le_refl _)]
                · exfalso
                  have q := w2.1
                  have q2 := hr.2.1.2.2.2.2.2.2.2.1.1
                  rw [h195, z.1, im1] at q
                  omega
              refine go_iload hF d_Mo_run_206 rfl ?_
              refine go_istore hF d_Mo_run_208 (by decide) ?_
              refine go_lv (lv' := [(0, _), (1, _), (3, _), (4, _), (5, _), (6, _), (7, _), (8, _), (9, _), (10, _), (11, _)]) ⟨rfl, rfl, rfl, rfl, rfl, rfl, rfl, rfl, rfl, rfl, rfl, trivial⟩ ?_
              refine go_aload_n hF d_Mo_run_210 rfl ?_
              refine gs_getr hF hK d_Mo_run_211 fl_Mo_7 h4 rfl rfl (by decide) rfl ?_
              refine go_iconst (v := 0) hF d_Mo_run_214 (by decide) ?_
              refine go_iload hF d_Mo_run_215 rfl ?_
              refine gs_ms hF hK hT hlo d_Mo_run_217 h4 (show (0 : Int32) = nI 0 from rfl) (by decide) ?_
              have hTm := Rel_time hr w2 w3 w4
              rw [if_pos nf, hge, ha, w1] at hRR
              have hao : oI (nxh u ι) = nI a := by rw [ha]; rfl
              have hal := (Rel_nh hr ha).1
              refine go_iload hF d_Mo_run_218 rfl ?_
              refine go_if_eq (tgt := 232) hF d_Mo_run_220 (by decide) (fun h220 => ?_) (fun h220 => ?_)
              · exact absurd h220 (by decide)
              · refine go_aload_n hF d_Mo_run_223 rfl ?_
                refine go_iload hF d_Mo_run_224 rfl ?_
                refine go_callVX hF hE hlo d_Mo_run_226 (con_Mo_comeHand (K := K2) (c := sL u 0 ι 0 0 0 (nTF f2 (nxh u ι) (nxg u ι)).toInt64) hlt h4 hao hal (by omega) hTm) mt_Mo_comeHand mv_Mo_comeHand lk_Mo_99 ⟨rfl, rfl, by decide, by decide⟩ rfl (Nat.le_of_ble_eq_true rfl) ⟨by decide, by decide⟩ (fun H hG => gw_recv (q := (R_Mo, T_Mo, 9)) hK hG h4 rfl rfl (by decide) rfl) (fun M => gx_no) rfl (fun v => ?_)
                refine go_ex (fun f3 => ?_)
                refine go_and (fun h9 => ?_)
                refine go_and (fun hv => ?_)
                subst hv
                refine go_goto (tgt := 261) hF d_Mo_run_229 (by decide) ?_
                refine go_iincN hF d_Mo_run_261 rfl (by decide) ?_
                refine go_lv (lv' := [(0, _), (1, _), (3, _), (4, _), (5, _), (6, _), (7, _), (8, _), (9, _), (10, _), (11, _)]) ⟨rfl, rfl, rfl, rfl, rfl, rfl, rfl, rfl, rfl, rfl, rfl, trivial⟩ ?_
                refine go_goto (tgt := 46) hF d_Mo_run_264 (by decide) ?_
                have e0 : f3 0 = (nTF f2 (nxh u ι) (nxg u ι)) := up_inj (by rw [h9.2.1.1, tm_rf, tm_th, tm_s])
                refine go_lv (lv' := [(0, _), (1, _), (3, _), (4, _), (5, _)]) ⟨rfl, rfl, rfl, rfl, rfl, trivial⟩ ?_
                exact hI (ge) f3 _ _ h9 (by rw [e0]; exact h130) e0.symm hRR
    · rw [adW_s, if_pos (hnx.1.mpr h130)] at hRR
      refine go_aload_n hF d_Mo_run_134 rfl ?_
      refine gs_getr hF hK d_Mo_run_135 fl_Mo_7 h4 rfl rfl (by decide) rfl ?_
      refine go_iconst (v := 0) hF d_Mo_run_138 (by decide) ?_
      refine go_lload_n hF d_Mo_run_139 rfl ?_
      refine go_l2i hF d_Mo_run_140 ?_
      refine gs_ms hF hK hT hlo d_Mo_run_141 h4 (show (0 : Int32) = nI 0 from rfl) (by decide) ?_
      refine go_iload_n hF d_Mo_run_142 rfl ?_
      refine go_i2l hF d_Mo_run_143 ?_
      exact go_lret hF hM d_Mo_run_144 (by decide) (by decide) (fun H hG => Or.inl ⟨hok, _, by
        have h0 := hr.2.1.2.2.2.2.2.2.2.1.1
        have hy1 := hty
        rw [Int64.le_iff_toInt_le, x64] at hy1
        have hy2 := hy9
        rw [Int64.le_iff_toInt_le, i9] at hy2
        obtain ⟨d1, d2⟩ := dn_up (y := y) (by omega) hy2
        have hlt2 := nlt64 (fun z => h130 (Int64.le_of_lt z))
        rw [Int64.le_iff_toInt_le, x64] at hlt2
        rw [← hRR]
        have q := Rel_time (x := y.toInt32) hr ⟨by omega, by omega⟩ (late_g hr (by omega)) (late_h hr (by omega))
        rw [d1] at q
        exact Rel_K (by omega) q, by rw [← hRR], hG⟩)
  have L46 : rnOk c ι y → ∀ (m came ge : Nat) (tv : Int32) (u : wdT) (f2 : Nat → Int32) (K2 : Nat), came + m = 150 → K2 ≤ K + came → Rel K2 u ι f2 → (f2 0).toInt64 ≤ y → (tv = f2 0 ∨ (tv = -1 ∧ ge = 0)) → adW ι y m u ge came = adW ι y 150 c 0 0 → Go F 46 [(0, .ref (ad B 4 0 0 0)), (1, .long y), (3, .int (nI came)), (4, .int (nI ge)), (5, .int tv)] [] (gw E B N (mW (sI w 4 0 0 0 0 0) f2)) 0 0 := by
    intro hok
    intro m
    induction m using Nat.strongRecOn with
    | _ m ih =>
      intro came ge tv u f2 K2 hm hk2 hr hty htv hRR
      refine go_iload_n hF d_Mo_run_46 rfl ?_
      refine go_sipush (v := 150) hF d_Mo_run_47 (by decide) ?_
      refine go_icmp_ge (tgt := 267) hF d_Mo_run_50 (by decide) (fun h50 => ?_) (fun h50 => ?_)
      · refine go_iload_n hF d_Mo_run_267 rfl ?_
        refine go_i2l hF d_Mo_run_268 ?_
        exact go_lret hF hM d_Mo_run_269 (by decide) (by decide) (fun H hG => Or.inl ⟨hok, f2, by
          have e : m = 0 := by have := (nI_leI (a := 150) (b := came) (by omega) (by omega)).mp h50; omega
          subst e
          rw [← hRR]
          exact Rel_K (by omega) hr, by
          have e : m = 0 := by have := (nI_leI (a := 150) (b := came) (by omega) (by omega)).mp h50; omega
          subst e
          have e2 : came = 150 := by omega
          subst e2
          rw [← hRR]
          rfl, hG⟩)
      · refine go_aload_n hF d_Mo_run_53 rfl ?_
        refine go_callVX hF hE hlo d_Mo_run_54 (con_Mo_nextHand hlt h4 hr) mt_Mo_nextHand mv_Mo_nextHand lk_Mo_91 ⟨rfl, rfl, by decide, by decide⟩ rfl (Nat.le_of_ble_eq_true rfl) ⟨by decide, by decide⟩ (fun H hG => gw_recv (q := (R_Mo, T_Mo, 9)) hK hG h4 rfl rfl (by decide) rfl) (fun M => gx_no) rfl (fun v => ?_)
        refine go_and (fun hv => ?_)
        subst hv
        refine go_istore hF d_Mo_run_57 (by decide) ?_
        refine go_lv (lv' := [(0, _), (1, _), (3, _), (4, _), (5, _), (6, _)]) ⟨rfl, rfl, rfl, rfl, rfl, rfl, trivial⟩ ?_
        refine go_aload_n hF d_Mo_run_59 rfl ?_
        refine go_callVX hF hE hlo d_Mo_run_60 (con_Mo_nextGate hlt h4 hr) mt_Mo_nextGate mv_Mo_nextGate lk_Mo_95 ⟨rfl, rfl, by decide, by decide⟩ rfl (Nat.le_of_ble_eq_true rfl) ⟨by decide, by decide⟩ (fun H hG => gw_recv (q := (R_Mo, T_Mo, 9)) hK hG h4 rfl rfl (by decide) rfl) (fun M => gx_no) rfl (fun v => ?_)
        refine go_and (fun hv => ?_)
        subst hv
        refine go_istore hF d_Mo_run_63 (by decide) ?_
        refine go_lv (lv' := [(0, _), (1, _), (3, _), (4, _), (5, _), (6, _), (7, _)]) ⟨rfl, rfl, rfl, rfl, rfl, rfl, rfl, trivial⟩ ?_
        refine go_iload hF d_Mo_run_65 rfl ?_
        refine go_if_ge (tgt := 75) hF d_Mo_run_67 (by decide) (fun h67 => ?_) (fun h67 => ?_)
        · obtain ⟨a, ha⟩ := oI_nn (fun z => Int32.lt_irrefl (Int32.lt_of_lt_of_le z h67))
          have hal := (Rel_nh hr ha).1
          have h100 := (Rel_h hr).2
          have e8 : hTF f2 (nxh u ι) = f2 (700 + 5 * a + 0) := by rw [ha]; rfl
          have hao : oI (nxh u ι) = nI a := by rw [ha]; rfl
          refine go_aload_n hF d_Mo_run_75 rfl ?_
          refine gs_getr hF hK d_Mo_run_76 fl_Mo_7 h4 rfl rfl (by decide) rfl ?_
          refine go_sipush (v := 700) hF d_Mo_run_79 (by decide) ?_
          refine go_iconst (v := 5) hF d_Mo_run_82 (by decide) ?_
          refine go_iload hF d_Mo_run_83 rfl ?_
          refine go_imul hF d_Mo_run_85 ?_
          refine go_iadd hF d_Mo_run_86 ?_
          refine gs_md hF hK hT d_Mo_run_87 h4 (show _ = nI (700 + 5 * a + 0) from ixC (a := 700) (b := 5) (n := a) hao) (by omega) ?_
          refine go_istore hF d_Mo_run_88 (by decide) ?_
          refine go_lv (lv' := [(0, _), (1, _), (3, _), (4, _), (5, _), (6, _), (7, _), (8, _)]) ⟨rfl, rfl, rfl, rfl, rfl, rfl, rfl, rfl, trivial⟩ ?_
          refine go_iload hF d_Mo_run_90 rfl ?_
          refine go_if_ge (tgt := 100) hF d_Mo_run_92 (by decide) (fun h92 => ?_) (fun h92 => ?_)
          · obtain ⟨b, hb⟩ := oI_nn (fun z => Int32.lt_irrefl (Int32.lt_of_lt_of_le z h92))
            have hbl := (Rel_ng hr hb).1
            have h32 := (Rel_g hr).2
            have e9 : gTF f2 (nxg u ι) = f2 (250 + 14 * b + 8) := by rw [hb]; rfl
            have hbo : oI (nxg u ι) = nI b := by rw [hb]; rfl
            refine go_aload_n hF d_Mo_run_100 rfl ?_
            refine go_iload hF d_Mo_run_101 rfl ?_
            refine go_bipush (v := 8) hF d_Mo_run_103 (by decide) ?_
            refine go_callVX hF hE hlo d_Mo_run_105 (con_Mo_ofGate hlt h4 (k := 8) hbo (by omega) rfl (by decide)) mt_Mo_ofGate mv_Mo_ofGate lk_Mo_36 ⟨rfl, rfl, by decide, by decide⟩ rfl (Nat.le_of_ble_eq_true rfl) ⟨by decide, by decide⟩ (fun H hG => gw_recv (q := (R_Mo, T_Mo, 9)) hK hG h4 rfl rfl (by decide) rfl) (fun M => gx_no) rfl (fun v => ?_)
            refine go_and (fun hv => ?_)
            subst hv
            refine go_istore hF d_Mo_run_108 (by decide) ?_
            refine go_lv (lv' := [(0, _), (1, _), (3, _), (4, _), (5, _), (6, _), (7, _), (8, _), (9, _)]) ⟨rfl, rfl, rfl, rfl, rfl, rfl, rfl, rfl, rfl, trivial⟩ ?_
            refine go_iload hF d_Mo_run_110 rfl ?_
            refine go_iload hF d_Mo_run_112 rfl ?_
            refine go_icmp_ge (tgt := 122) hF d_Mo_run_114 (by decide) (fun h114 => ?_) (fun h114 => ?_)
            · refine go_iload hF d_Mo_run_122 rfl ?_
              refine go_istore hF d_Mo_run_124 (by decide) ?_
              refine go_lv (lv' := [(0, _), (1, _), (3, _), (4, _), (5, _), (6, _), (7, _), (8, _), (9, _), (10, _)]) ⟨rfl, rfl, rfl, rfl, rfl, rfl, rfl, rfl, rfl, rfl, trivial⟩ ?_
              obtain ⟨m9, rfl⟩ : ∃ m9, m = m9 + 1 := ⟨m - 1, by have z : ¬ 150 ≤ came := (fun z => h50 ((nI_leI (a := 150) (b := came) (by omega) (by omega)).mpr z)); omega⟩
              refine go_lv (lv' := [(0, _), (1, _), (3, _), (4, _), (5, _), (6, _), (7, _), (8, .int (hTF f2 (nxh u ι))), (9, .int (gTF f2 (nxg u ι))), (10, .int (nTF f2 (nxh u ι) (nxg u ι)))]) ⟨rfl, rfl, rfl, rfl, rfl, rfl, rfl, by rw [e8]; rfl, by rw [e9]; rfl, by unfold nTF; rw [e8, e9, if_neg (ge_nlt h114)]; rfl, trivial⟩ ?_
              exact J126 hok m9 came ge tv u f2 K2 hm hk2 hr hty htv hRR (fun ge' f3 u' tv' q1 q2 q3 q4 => ih m9 (by omega) (came + 1) ge' tv' u' f3 (K2 + 1) (by omega) (by omega) q1 q2 (Or.inl q3) q4)
            · refine go_iload hF d_Mo_run_117 rfl ?_
              refine go_goto (tgt := 124) hF d_Mo_run_119 (by decide) ?_
              refine go_istore hF d_Mo_run_124 (by decide) ?_
              refine go_lv (lv' := [(0, _), (1, _), (3, _), (4, _), (5, _), (6, _), (7, _), (8, _), (9, _), (10, _)]) ⟨rfl, rfl, rfl, rfl, rfl, rfl, rfl, rfl, rfl, rfl, trivial⟩ ?_
              obtain ⟨m9, rfl⟩ : ∃ m9, m = m9 + 1 := ⟨m - 1, by have z : ¬ 150 ≤ came := (fun z => h50 ((nI_leI (a := 150) (b := came) (by omega) (by omega)).mpr z)); omega⟩
              refine go_lv (lv' := [(0, _), (1, _), (3, _), (4, _), (5, _), (6, _), (7, _), (8, .int (hTF f2 (nxh u ι))), (9, .int (gTF f2 (nxg u ι))), (10, .int (nTF f2 (nxh u ι) (nxg u ι)))]) ⟨rfl, rfl, rfl, rfl, rfl, rfl, rfl, by rw [e8]; rfl, by rw [e9]; rfl, by unfold nTF; rw [e8, e9, if_pos (nle_lt h114)]; rfl, trivial⟩ ?_
              exact J126 hok m9 came ge tv u f2 K2 hm hk2 hr hty htv hRR (fun ge' f3 u' tv' q1 q2 q3 q4 => ih m9 (by omega) (came + 1) ge' tv' u' f3 (K2 + 1) (by omega) (by omega) q1 q2 (Or.inl q3) q4)
          · have e9 : gTF f2 (nxg u ι) = 1000005000 := by
              rw [oI_ng (fun b hb => by have := nxg_lt hb; have := (Rel_g hr).2; unfold cG at this; omega) (lt_ge h92)]; rfl
            refine go_ldc hF ki_Mo_98 d_Mo_run_95 ?_
            refine go_goto (tgt := 108) hF d_Mo_run_97 (by decide) ?_
            refine go_istore hF d_Mo_run_108 (by decide) ?_
            refine go_lv (lv' := [(0, _), (1, _), (3, _), (4, _), (5, _), (6, _), (7, _), (8, _), (9, _)]) ⟨rfl, rfl, rfl, rfl, rfl, rfl, rfl, rfl, rfl, trivial⟩ ?_
            refine go_iload hF d_Mo_run_110 rfl ?_
            refine go_iload hF d_Mo_run_112 rfl ?_
            refine go_icmp_ge (tgt := 122) hF d_Mo_run_114 (by decide) (fun h114 => ?_) (fun h114 => ?_)
            · refine go_iload hF d_Mo_run_122 rfl ?_
              refine go_istore hF d_Mo_run_124 (by decide) ?_
              refine go_lv (lv' := [(0, _), (1, _), (3, _), (4, _), (5, _), (6, _), (7, _), (8, _), (9, _), (10, _)]) ⟨rfl, rfl, rfl, rfl, rfl, rfl, rfl, rfl, rfl, rfl, trivial⟩ ?_
              obtain ⟨m9, rfl⟩ : ∃ m9, m = m9 + 1 := ⟨m - 1, by have z : ¬ 150 ≤ came := (fun z => h50 ((nI_leI (a := 150) (b := came) (by omega) (by omega)).mpr z)); omega⟩
              refine go_lv (lv' := [(0, _), (1, _), (3, _), (4, _), (5, _), (6, _), (7, _), (8, .int (hTF f2 (nxh u ι))), (9, .int (gTF f2 (nxg u ι))), (10, .int (nTF f2 (nxh u ι) (nxg u ι)))]) ⟨rfl, rfl, rfl, rfl, rfl, rfl, rfl, by rw [e8]; rfl, by rw [e9]; rfl, by unfold nTF; rw [e8, e9, if_neg (ge_nlt h114)]; rfl, trivial⟩ ?_
              exact J126 hok m9 came ge tv u f2 K2 hm hk2 hr hty htv hRR (fun ge' f3 u' tv' q1 q2 q3 q4 => ih m9 (by omega) (came + 1) ge' tv' u' f3 (K2 + 1) (by omega) (by omega) q1 q2 (Or.inl q3) q4)
            · refine go_iload hF d_Mo_run_117 rfl ?_
              refine go_goto (tgt := 124) hF d_Mo_run_119 (by decide) ?_
              refine go_istore hF d_Mo_run_124 (by decide) ?_
              refine go_lv (lv' := [(0, _), (1, _), (3, _), (4, _), (5, _), (6, _), (7, _), (8, _), (9, _), (10, _)]) ⟨rfl, rfl, rfl, rfl, rfl, rfl, rfl, rfl, rfl, rfl, trivial⟩ ?_
              obtain ⟨m9, rfl⟩ : ∃ m9, m = m9 + 1 := ⟨m - 1, by have z : ¬ 150 ≤ came := (fun z => h50 ((nI_leI (a := 150) (b := came) (by omega) (by omega)).mpr z)); omega⟩
              refine go_lv (lv' := [(0, _), (1, _), (3, _), (4, _), (5, _), (6, _), (7, _), (8, .int (hTF f2 (nxh u ι))), (9, .int (gTF f2 (nxg u ι))), (10, .int (nTF f2 (nxh u ι) (nxg u ι)))]) ⟨rfl, rfl, rfl, rfl, rfl, rfl, rfl, by rw [e8]; rfl, by rw [e9]; rfl, by unfold nTF; rw [e8, e9, if_pos (nle_lt h114)]; rfl, trivial⟩ ?_
              exact J126 hok m9 came ge tv u f2 K2 hm hk2 hr hty htv hRR (fun ge' f3 u' tv' q1 q2 q3 q4 => ih m9 (by omega) (came + 1) ge' tv' u' f3 (K2 + 1) (by omega) (by omega) q1 q2 (Or.inl q3) q4)
        · have e8 : hTF f2 (nxh u ι) = 1000005000 := by
            rw [oI_ng (fun b hb => by have := nxh_lt hb; have := (Rel_h hr).2; unfold cH at this; omega) (lt_ge h67)]; rfl
          refine go_ldc hF ki_Mo_98 d_Mo_run_70 ?_
          refine go_goto (tgt := 88) hF d_Mo_run_72 (by decide) ?_
          refine go_istore hF d_Mo_run_88 (by decide) ?_
          refine go_lv (lv' := [(0, _), (1, _), (3, _), (4, _), (5, _), (6, _), (7, _), (8, _)]) ⟨rfl, rfl, rfl, rfl, rfl, rfl, rfl, rfl, trivial⟩ ?_
          refine go_iload hF d_Mo_run_90 rfl ?_
          refine go_if_ge (tgt := 100) hF d_Mo_run_92 (by decide) (fun h92 => ?_) (fun h92 => ?_)
          · obtain ⟨b, hb⟩ := oI_nn (fun z => Int32.lt_irrefl (Int32.lt_of_lt_of_le z h92))
            have hbl := (Rel_ng hr hb).1
            have h32 := (Rel_g hr).2
            have e9 : gTF f2 (nxg u ι) = f2 (250 + 14 * b + 8) := by rw [hb]; rfl
            have hbo : oI (nxg u ι) = nI b := by rw [hb]; rfl
            refine go_aload_n hF d_Mo_run_100 rfl ?_
            refine go_iload hF d_Mo_run_101 rfl ?_
            refine go_bipush (v := 8) hF d_Mo_run_103 (by decide) ?_
            refine go_callVX hF hE hlo d_Mo_run_105 (con_Mo_ofGate hlt h4 (k := 8) hbo (by omega) rfl (by decide)) mt_Mo_ofGate mv_Mo_ofGate lk_Mo_36 ⟨rfl, rfl, by decide, by decide⟩ rfl (Nat.le_of_ble_eq_true rfl) ⟨by decide, by decide⟩ (fun H hG => gw_recv (q := (R_Mo, T_Mo, 9)) hK hG h4 rfl rfl (by decide) rfl) (fun M => gx_no) rfl (fun v => ?_)
            refine go_and (fun hv => ?_)
            subst hv
            refine go_istore hF d_Mo_run_108 (by decide) ?_
            refine go_lv (lv' := [(0, _), (1, _), (3, _), (4, _), (5, _), (6, _), (7, _), (8, _), (9, _)]) ⟨rfl, rfl, rfl, rfl, rfl, rfl, rfl, rfl, rfl, trivial⟩ ?_
            refine go_iload hF d_Mo_run_110 rfl ?_
            refine go_iload hF d_Mo_run_112 rfl ?_
            refine go_icmp_ge (tgt := 122) hF d_Mo_run_114 (by decide) (fun h114 => ?_) (fun h114 => ?_)
            · refine go_iload hF d_Mo_run_122 rfl ?_
              refine go_istore hF d_Mo_run_124 (by decide) ?_
              refine go_lv (lv' := [(0, _), (1, _), (3, _), (4, _), (5, _), (6, _), (7, _), (8, _), (9, _), (10, _)]) ⟨rfl, rfl, rfl, rfl, rfl, rfl, rfl, rfl, rfl, rfl, trivial⟩ ?_
              obtain ⟨m9, rfl⟩ : ∃ m9, m = m9 + 1 := ⟨m - 1, by have z : ¬ 150 ≤ came := (fun z => h50 ((nI_leI (a := 150) (b := came) (by omega) (by omega)).mpr z)); omega⟩
              refine go_lv (lv' := [(0, _), (1, _), (3, _), (4, _), (5, _), (6, _), (7, _), (8, .int (hTF f2 (nxh u ι))), (9, .int (gTF f2 (nxg u ι))), (10, .int (nTF f2 (nxh u ι) (nxg u ι)))]) ⟨rfl, rfl, rfl, rfl, rfl, rfl, rfl, by rw [e8]; rfl, by rw [e9]; rfl, by unfold nTF; rw [e8, e9, if_neg (ge_nlt h114)]; rfl, trivial⟩ ?_
              exact J126 hok m9 came ge tv u f2 K2 hm hk2 hr hty htv hRR (fun ge' f3 u' tv' q1 q2 q3 q4 => ih m9 (by omega) (came + 1) ge' tv' u' f3 (K2 + 1) (by omega) (by omega) q1 q2 (Or.inl q3) q4)
            · refine go_iload hF d_Mo_run_117 rfl ?_
              refine go_goto (tgt := 124) hF d_Mo_run_119 (by decide) ?_
              refine go_istore hF d_Mo_run_124 (by decide) ?_
              refine go_lv (lv' := [(0, _), (1, _), (3, _), (4, _), (5, _), (6, _), (7, _), (8, _), (9, _), (10, _)]) ⟨rfl, rfl, rfl, rfl, rfl, rfl, rfl, rfl, rfl, rfl, trivial⟩ ?_
              obtain ⟨m9, rfl⟩ : ∃ m9, m = m9 + 1 := ⟨m - 1, by have z : ¬ 150 ≤ came := (fun z => h50 ((nI_leI (a := 150) (b := came) (by omega) (by omega)).mpr z)); omega⟩
              refine go_lv (lv' := [(0, _), (1, _), (3, _), (4, _), (5, _), (6, _), (7, _), (8, .int (hTF f2 (nxh u ι))), (9, .int (gTF f2 (nxg u ι))), (10, .int (nTF f2 (nxh u ι) (nxg u ι)))]) ⟨rfl, rfl, rfl, rfl, rfl, rfl, rfl, by rw [e8]; rfl, by rw [e9]; rfl, by unfold nTF; rw [e8, e9, if_pos (nle_lt h114)]; rfl, trivial⟩ ?_
              exact J126 hok m9 came ge tv u f2 K2 hm hk2 hr hty htv hRR (fun ge' f3 u' tv' q1 q2 q3 q4 => ih m9 (by omega) (came + 1) ge' tv' u' f3 (K2 + 1) (by omega) (by omega) q1 q2 (Or.inl q3) q4)
          · have e9 : gTF f2 (nxg u ι) = 1000005000 := by
              rw [oI_ng (fun b hb => by have := nxg_lt hb; have := (Rel_g hr).2; unfold cG at this; omega) (lt_ge h92)]; rfl
            refine go_ldc hF ki_Mo_98 d_Mo_run_95 ?_
            refine go_goto (tgt := 108) hF d_Mo_run_97 (by decide) ?_
            refine go_istore hF d_Mo_run_108 (by decide) ?_
            refine go_lv (lv' := [(0, _), (1, _), (3, _), (4, _), (5, _), (6, _), (7, _), (8, _), (9, _)]) ⟨rfl, rfl, rfl, rfl, rfl, rfl, rfl, rfl, rfl, trivial⟩ ?_
            refine go_iload hF d_Mo_run_110 rfl ?_
            refine go_iload hF d_Mo_run_112 rfl ?_
            refine go_icmp_ge (tgt := 122) hF d_Mo_run_114 (by decide) (fun h114 => ?_) (fun h114 => ?_)
            · refine go_iload hF d_Mo_run_122 rfl ?_
              refine go_istore hF d_Mo_run_124 (by decide) ?_
              refine go_lv (lv' := [(0, _), (1, _), (3, _), (4, _), (5, _), (6, _), (7, _), (8, _), (9, _), (10, _)]) ⟨rfl, rfl, rfl, rfl, rfl, rfl, rfl, rfl, rfl, rfl, trivial⟩ ?_
              obtain ⟨m9, rfl⟩ : ∃ m9, m = m9 + 1 := ⟨m - 1, by have z : ¬ 150 ≤ came := (fun z => h50 ((nI_leI (a := 150) (b := came) (by omega) (by omega)).mpr z)); omega⟩
              refine go_lv (lv' := [(0, _), (1, _), (3, _), (4, _), (5, _), (6, _), (7, _), (8, .int (hTF f2 (nxh u ι))), (9, .int (gTF f2 (nxg u ι))), (10, .int (nTF f2 (nxh u ι) (nxg u ι)))]) ⟨rfl, rfl, rfl, rfl, rfl, rfl, rfl, by rw [e8]; rfl, by rw [e9]; rfl, by unfold nTF; rw [e8, e9, if_neg (ge_nlt h114)]; rfl, trivial⟩ ?_
              exact J126 hok m9 came ge tv u f2 K2 hm hk2 hr hty htv hRR (fun ge' f3 u' tv' q1 q2 q3 q4 => ih m9 (by omega) (came + 1) ge' tv' u' f3 (K2 + 1) (by omega) (by omega) q1 q2 (Or.inl q3) q4)
            · refine go_iload hF d_Mo_run_117 rfl ?_
              refine go_goto (tgt := 124) hF d_Mo_run_119 (by decide) ?_
              refine go_istore hF d_Mo_run_124 (by decide) ?_
              refine go_lv (lv' := [(0, _), (1, _), (3, _), (4, _), (5, _), (6, _), (7, _), (8, _), (9, _), (10, _)]) ⟨rfl, rfl, rfl, rfl, rfl, rfl, rfl, rfl, rfl, rfl, trivial⟩ ?_
              obtain ⟨m9, rfl⟩ : ∃ m9, m = m9 + 1 := ⟨m - 1, by have z : ¬ 150 ≤ came := (fun z => h50 ((nI_leI (a := 150) (b := came) (by omega) (by omega)).mpr z)); omega⟩
              refine go_lv (lv' := [(0, _), (1, _), (3, _), (4, _), (5, _), (6, _), (7, _), (8, .int (hTF f2 (nxh u ι))), (9, .int (gTF f2 (nxg u ι))), (10, .int (nTF f2 (nxh u ι) (nxg u ι)))]) ⟨rfl, rfl, rfl, rfl, rfl, rfl, rfl, by rw [e8]; rfl, by rw [e9]; rfl, by unfold nTF; rw [e8, e9, if_pos (nle_lt h114)]; rfl, trivial⟩ ?_
              exact J126 hok m9 came ge tv u f2 K2 hm hk2 hr hty htv hRR (fun ge' f3 u' tv' q1 q2 q3 q4 => ih m9 (by omega) (came + 1) ge' tv' u' f3 (K2 + 1) (by omega) (by omega) q1 q2 (Or.inl q3) q4)
  refine go_aload_n hF d_Mo_run_0 rfl ?_
  refine go_lload_n hF d_Mo_run_1 rfl ?_
  refine go_aload_n hF d_Mo_run_2 rfl ?_
  refine gs_getr hF hK d_Mo_run_3 fl_Mo_7 h4 rfl rfl (by decide) rfl ?_
  refine go_iconst (v := 0) hF d_Mo_run_6 (by decide) ?_
  refine gs_md hF hK hT d_Mo_run_7 h4 (show (0 : Int32) = nI 0 from rfl) (by decide) ?_
  refine go_i2l hF d_Mo_run_8 ?_
  refine go_lif_lt (tgt := 21) hF d_Mo_run_9 d_Mo_run_10 (by decide) (fun h9_ => ?_) (fun h9_ => ?_)
  · refine go_iconst (v := 1) hF d_Mo_run_21 (by decide) ?_
    refine go_goto (tgt := 26) hF d_Mo_run_22 (by decide) ?_
    refine gs_puti hF hK hlo d_Mo_run_26 fl_Mo_28 ct_Mo fs_Mo_0 h4 rfl rfl (by decide) rfl rfl ?_
    rw [mW_0]
    refine go_aload_n hF d_Mo_run_29 rfl ?_
    refine gs_geti hF hK d_Mo_run_30 fl_Mo_28 h4 rfl rfl (by decide) rfl ?_
    refine go_if_le (tgt := 38) hF d_Mo_run_33 (by decide) (fun h33 => ?_) (fun h33 => ?_)
    · rw [thr_v] at h33
      exact absurd h33 (by decide)
    · refine go_lconst (v := 0) hF d_Mo_run_36 (by decide) ?_
      exact go_lret hF hM d_Mo_run_37 (by decide) (by decide) (fun H hG => Or.inr ⟨fun z => Int64.lt_irrefl (Int64.lt_of_lt_of_le h9_ (by rw [hR.2.1.1]; exact z.1)), rfl, hG⟩)
  · refine go_lload_n hF d_Mo_run_13 rfl ?_
    refine go_ldc2 hF kl_Mo_81 d_Mo_run_14 ?_
    refine go_lif_le (tgt := 25) hF d_Mo_run_17 d_Mo_run_18 (by decide) (fun h17 => ?_) (fun h17 => ?_)
    · refine go_iconst (v := 0) hF d_Mo_run_25 (by decide) ?_
      refine gs_puti hF hK hlo d_Mo_run_26 fl_Mo_28 ct_Mo fs_Mo_0 h4 rfl rfl (by decide) rfl rfl ?_
      rw [mW_0]
      refine go_aload_n hF d_Mo_run_29 rfl ?_
      refine gs_geti hF hK d_Mo_run_30 fl_Mo_28 h4 rfl rfl (by decide) rfl ?_
      refine go_if_le (tgt := 38) hF d_Mo_run_33 (by decide) (fun h33 => ?_) (fun h33 => ?_)
      · refine go_iconst (v := 0) hF d_Mo_run_38 (by decide) ?_
        refine go_istore_n hF d_Mo_run_39 (by decide) ?_
        refine go_lv (lv' := [(0, _), (1, _), (3, _)]) ⟨rfl, rfl, rfl, trivial⟩ ?_
        refine go_iconst (v := 0) hF d_Mo_run_40 (by decide) ?_
        refine go_istore hF d_Mo_run_41 (by decide) ?_
        refine go_lv (lv' := [(0, _), (1, _), (3, _), (4, _)]) ⟨rfl, rfl, rfl, rfl, trivial⟩ ?_
        refine go_iconst (v := -1) hF d_Mo_run_43 (by decide) ?_
        refine go_istore hF d_Mo_run_44 (by decide) ?_
        refine go_lv (lv' := [(0, _), (1, _), (3, _), (4, _), (5, _)]) ⟨rfl, rfl, rfl, rfl, rfl, trivial⟩ ?_
        exact L46 ⟨by rw [← hR.2.1.1]; exact nlt64 h9_, h17⟩ 150 0 0 (-1) c f K rfl (by omega) hR (nlt64 h9_) (Or.inr ⟨rfl, rfl⟩) rfl
      · rw [thr_v] at h33
        exact absurd (by decide) h33
    · refine go_iconst (v := 1) hF d_Mo_run_21 (by decide) ?_
      refine go_goto (tgt := 26) hF d_Mo_run_22 (by decide) ?_
      refine gs_puti hF hK hlo d_Mo_run_26 fl_Mo_28 ct_Mo fs_Mo_0 h4 rfl rfl (by decide) rfl rfl ?_
      rw [mW_0]
      refine go_aload_n hF d_Mo_run_29 rfl ?_
      refine gs_geti hF hK d_Mo_run_30 fl_Mo_28 h4 rfl rfl (by decide) rfl ?_
      refine go_if_le (tgt := 38) hF d_Mo_run_33 (by decide) (fun h33 => ?_) (fun h33 => ?_)
      · rw [thr_v] at h33
        exact absurd h33 (by decide)
      · refine go_lconst (v := 0) hF d_Mo_run_36 (by decide) ?_
        exact go_lret hF hM d_Mo_run_37 (by decide) (by decide) (fun H hG => Or.inr ⟨fun z => h17 z.2, rfl, hG⟩)
