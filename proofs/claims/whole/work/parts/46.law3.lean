def lg2 (a b : Int32) : Int64 := (a.toInt64 <<< ((32 : Int32).toInt64 &&& 63)) ||| (b.toInt64 &&& 4294967295)
theorem qb_ap (w : wdT) (act n : Int32) (t : Int64) (v : Int32) : qb w (apX w act n t v) := qb_apW w _ _ _ _ _
theorem thr_0 (w : wdT) (x : Int32) : wI (sI w 4 0 0 0 0 x) 4 0 0 0 0 = x := by
  rw [rd_II, if_pos (by simp)]
theorem out_v (c : wdT) (v : Int64) (T : Int32) (f : Nat → Int32) : wL (mW (sI (sL c 3 0 0 0 0 v) 4 0 0 0 0 T) f) 3 0 0 0 0 = v := by
  rw [mW_L, rd_LI, rd_LL, if_pos (by simp)]
theorem Rel_v4 {K : Nat} {w : wdT} {f : Nat → Int32} (h : Rel K w 0 f) : ∀ k, k < nz (wI w 0 0 9 0 0) → vn (wI w 0 0 12 0 k) 4 := fun k hk => by
  have q := (h.2.2.2.2.2.2 k hk).2.2.2.2.1
  have h1 := q.1
  have h2 := q.2
  have e : (wI w 0 0 12 0 k).toNatClampNeg = (wI w 0 0 12 0 k).toInt.toNat := rfl
  refine ⟨Int32.toInt_inj.mp ?_, by rw [e]; omega⟩
  rw [nI_toInt (by rw [e]; omega), e]
  omega
set_option maxHeartbeats 4000000 in
set_option maxRecDepth 100000 in
theorem law_net {F : gT} {E : gE} {B : bsT} {N : nwT} {w : wdT} (hF : Fb F c_La_law R_La 8 room_1) (hE : en E (gs F)) (hlo : gLo F = E.2.2.size) (hlt : (gl F).stackTraces = false) {b L : Nat} {xs : Nat → Int32} (hX : va_X b L xs (gs F) E.2.2) (hbl : b < E.2.2.size) (hL : L ≤ 2560) {i K k n s : Nat} (hi : i + 5 ≤ L) (hKK : K + 150 < 1000000000) (hk : k + 89 ≤ 601024) (hn : n + 2891 ≤ 7293034) (h : LI K B N w s)
    (hC : ∀ (B' : bsT) (N' : nwT) (w' : wdT) (s' : Nat), LI (K + 150) B' N' w' s' → Go F 1481 [(0, .ref b), (1, .ref (ad B' 1 0 0 0)), (2, .ref (ad B' 4 0 0 0)), (3, .ref (ad B' 3 0 0 0)), (4, .int (nI i))] [] (gw E B' N' w') (k + 89) (n + 2891)) : Go F 136 [(0, .ref b), (1, .ref (ad B 1 0 0 0)), (2, .ref (ad B 4 0 0 0)), (3, .ref (ad B 3 0 0 0)), (4, .int (nI i))] [] (gw E B N w) k n := by
  have hK := hE.1
  have hT := hE.2.1
  obtain ⟨⟨ho, hb, h2, h3, h4⟩, hp, hsv, hon, hoff, h5, hO⟩ := id h
  have hR := hp.1
  have ok := hR.1
  by_cases hT0 : tN w = 0
  · refine go_aload_n hF d_La_law_136 rfl ?_
    refine go_aload_n hF d_La_law_137 rfl ?_
    refine go_callSW hF hE hlo d_La_law_138 (con_La_net hlt hb ho h2 h3 ok) mw_La_net ms_La_net lk_La_80 ⟨rfl, rfl, by decide, by decide⟩ rfl (Nat.le_of_ble_eq_true rfl) ⟨by show _ ≤ 601024; omega, by show _ ≤ 7293034; omega⟩ (fun M => gx_no) rfl (fun v => ?_)
    refine go_and (fun hv => ?_)
    subst hv
    refine go_G (G' := gw E B N (sL (anX w) 3 0 0 0 0 (wI w 0 0 0 2 0).toInt64)) (fun H hG => hG.elim (fun z => z.2) (fun z => absurd hT0 z.1)) ?_
    refine go_G (G' := gw E B N (mW (sL (anX w) 3 0 0 0 0 (wI w 0 0 0 2 0).toInt64) (mS w))) (fun H hG => by rw [mW_qb1 (qb_an w)]; exact hG) ?_
    refine go_istore hF d_La_law_141 (by decide) ?_
    refine go_lv (lv' := [(0, _), (1, _), (2, _), (3, _), (4, _), (5, _)]) ⟨rfl, rfl, rfl, rfl, rfl, rfl, trivial⟩ ?_
    refine go_aload_n hF d_La_law_143 rfl ?_
    refine go_callVX hF hE hlo d_La_law_144 (con_Mo_net (w := (sL (anX w) 3 0 0 0 0 (wI w 0 0 0 2 0).toInt64)) (f := mS w) (c := w) (K := K) (N := N) hlt h4 hR) mt_Mo_net mv_Mo_net lk_La_85 ⟨rfl, rfl, by decide, by decide⟩ rfl (Nat.le_of_ble_eq_true rfl) ⟨by show _ ≤ 601024; omega, by show _ ≤ 7293034; omega⟩ (fun H hG => gw_recv (q := (R_Mo, T_Mo, 9)) hK hG h4 rfl rfl (by decide) rfl) (fun M => gx_no) rfl (fun v => ?_)
    refine go_ex (fun f2 => ?_)
    refine go_ex (fun b9 => ?_)
    refine go_and (fun hv => ?_)
    subst hv
    refine go_and (fun g1 => ?_)
    refine go_and (fun g2 => ?_)
    obtain ⟨rfl, hR2⟩ := g1 hT0
    refine go_istore hF d_La_law_147 (by decide) ?_
    refine go_lv (lv' := [(0, _), (1, _), (2, _), (3, _), (4, _), (5, _), (6, _)]) ⟨rfl, rfl, rfl, rfl, rfl, rfl, rfl, trivial⟩ ?_
    refine go_aload_n hF d_La_law_149 rfl ?_
    refine go_callVX hF hE hlo d_La_law_150 (con_Mo_thrown (w := sI (sL (anX w) 3 0 0 0 0 (wI w 0 0 0 2 0).toInt64) 4 0 0 0 0 (tN w)) (f := f2) (N := N) hlt h4) mt_Mo_thrown mv_Mo_thrown lk_La_86 ⟨rfl, rfl, by decide, by decide⟩ rfl (Nat.le_of_ble_eq_true rfl) ⟨by show _ ≤ 601024; omega, by show _ ≤ 7293034; omega⟩ (fun H hG => gw_recv (q := (R_Mo, T_Mo, 9)) hK hG h4 rfl rfl (by decide) rfl) (fun M => gx_no) rfl (fun v => ?_)
    refine go_and (fun hv => ?_)
    subst hv
    rw [thr_0]
    refine go_iload hF d_La_law_153 rfl ?_
    refine go_icmp_eq (tgt := 160) hF d_La_law_155 (by decide) (fun h155 => ?_) (fun h155 => ?_)
    · refine go_iload hF d_La_law_160 rfl ?_
      refine go_if_ne (tgt := 177) hF d_La_law_162 (by decide) (fun h162 => ?_) (fun h162 => ?_)
      · exact absurd hT0 h162
      · refine go_aload_n hF d_La_law_165 rfl ?_
        refine go_iconst (v := 0) hF d_La_law_166 (by decide) ?_
        refine gs_lald hF hK hT d_La_law_167 h3 rfl rfl (show (0 : Int32) = nI 0 from rfl) (by decide) (by decide) ?_
        rw [out_v]
        refine go_iload hF d_La_law_168 rfl ?_
        refine go_i2l hF d_La_law_170 ?_
        refine go_lif_eq (tgt := 177) hF d_La_law_171 d_La_law_172 (by decide) (fun h171 => ?_) (fun h171 => ?_)
        · refine go_goto (tgt := 1481) hF d_La_law_177 (by decide) ?_
          refine go_lv (lv' := [(0, _), (1, _), (2, _), (3, _), (4, _)]) ⟨rfl, rfl, rfl, rfl, rfl, trivial⟩ ?_
          refine go_wd (k' := k + 89) (n' := n + 2891) (by omega) (by omega) ?_
          exact hC B N _ s (LI_K (K := K) (by omega) (LI_nx h rfl rfl (wP_1 (qb_an w)) (LIp_1 hp (by omega) (qb_an w) hR2)))
        · exact absurd rfl h171
    · exact absurd rfl h155
  · refine go_aload_n hF d_La_law_136 rfl ?_
    refine go_aload_n hF d_La_law_137 rfl ?_
    refine go_callSW hF hE hlo d_La_law_138 (con_La_net hlt hb ho h2 h3 ok) mw_La_net ms_La_net lk_La_80 ⟨rfl, rfl, by decide, by decide⟩ rfl (Nat.le_of_ble_eq_true rfl) ⟨by show _ ≤ 601024; omega, by show _ ≤ 7293034; omega⟩ (fun M => gx_no) rfl (fun v => ?_)
    refine go_and (fun hv => ?_)
    subst hv
    refine go_G (G' := gw E B (nx1 N) w) (fun H hG => hG.elim (fun z => absurd z.1 hT0) (fun z => z.2)) ?_
    refine go_G (G' := gw E B (nx1 N) (mW w (mS w))) (fun H hG => by rw [mW_w]; exact hG) ?_
    refine go_istore hF d_La_law_141 (by decide) ?_
    refine go_lv (lv' := [(0, _), (1, _), (2, _), (3, _), (4, _), (5, _)]) ⟨rfl, rfl, rfl, rfl, rfl, rfl, trivial⟩ ?_
    refine go_aload_n hF d_La_law_143 rfl ?_
    refine go_callVX hF hE hlo d_La_law_144 (con_Mo_net (w := w) (f := mS w) (c := w) (K := K) (N := (nx1 N)) hlt h4 hR) mt_Mo_net mv_Mo_net lk_La_85 ⟨rfl, rfl, by decide, by decide⟩ rfl (Nat.le_of_ble_eq_true rfl) ⟨by show _ ≤ 601024; omega, by show _ ≤ 7293034; omega⟩ (fun H hG => gw_recv (q := (R_Mo, T_Mo, 9)) hK hG h4 rfl rfl (by decide) rfl) (fun M => gx_no) rfl (fun v => ?_)
    refine go_ex (fun f2 => ?_)
    refine go_ex (fun b9 => ?_)
    refine go_and (fun hv => ?_)
    subst hv
    refine go_and (fun g1 => ?_)
    refine go_and (fun g2 => ?_)
    have hf2 := g2 hT0
    subst hf2
    refine go_istore hF d_La_law_147 (by decide) ?_
    refine go_lv (lv' := [(0, _), (1, _), (2, _), (3, _), (4, _), (5, _), (6, _)]) ⟨rfl, rfl, rfl, rfl, rfl, rfl, rfl, trivial⟩ ?_
    refine go_aload_n hF d_La_law_149 rfl ?_
    refine go_callVX hF hE hlo d_La_law_150 (con_Mo_thrown (w := sI w 4 0 0 0 0 (tN w)) (f := (mS w)) (N := (nx1 N)) hlt h4) mt_Mo_thrown mv_Mo_thrown lk_La_86 ⟨rfl, rfl, by decide, by decide⟩ rfl (Nat.le_of_ble_eq_true rfl) ⟨by show _ ≤ 601024; omega, by show _ ≤ 7293034; omega⟩ (fun H hG => gw_recv (q := (R_Mo, T_Mo, 9)) hK hG h4 rfl rfl (by decide) rfl) (fun M => gx_no) rfl (fun v => ?_)
    refine go_and (fun hv => ?_)
    subst hv
    rw [thr_0]
    refine go_iload hF d_La_law_153 rfl ?_
    refine go_icmp_eq (tgt := 160) hF d_La_law_155 (by decide) (fun h155 => ?_) (fun h155 => ?_)
    · refine go_iload hF d_La_law_160 rfl ?_
      refine go_if_ne (tgt := 177) hF d_La_law_162 (by decide) (fun h162 => ?_) (fun h162 => ?_)
      · refine go_goto (tgt := 1481) hF d_La_law_177 (by decide) ?_
        refine go_lv (lv' := [(0, _), (1, _), (2, _), (3, _), (4, _)]) ⟨rfl, rfl, rfl, rfl, rfl, trivial⟩ ?_
        refine go_wd (k' := k + 89) (n' := n + 2891) (by omega) (by omega) ?_
        exact hC B (nx1 N) _ s (LI_K (K := K) (by omega) (LI_nx h rfl rfl (wP_0 (qb_rf w)) (LIp_0 hp (Nat.le_refl K) (qb_rf w) hR)))
      · exact absurd h162 hT0
    · exact absurd rfl h155
set_option maxHeartbeats 4000000 in
set_option maxRecDepth 100000 in
theorem law_gate {F : gT} {E : gE} {B : bsT} {N : nwT} {w : wdT} (hF : Fb F c_La_law R_La 8 room_1) (hE : en E (gs F)) (hlo : gLo F = E.2.2.size) (hlt : (gl F).stackTraces = false) {b L : Nat} {xs : Nat → Int32} (hX : va_X b L xs (gs F) E.2.2) (hbl : b < E.2.2.size) (hL : L ≤ 2560) {i K k n s : Nat} (hi : i + 5 ≤ L) (hKK : K + 150 < 1000000000) (hk : k + 89 ≤ 601024) (hn : n + 2891 ≤ 7293034) (h : LI K B N w s)
    (hC : ∀ (B' : bsT) (N' : nwT) (w' : wdT) (s' : Nat), LI (K + 150) B' N' w' s' → Go F 1481 [(0, .ref b), (1, .ref (ad B' 1 0 0 0)), (2, .ref (ad B' 4 0 0 0)), (3, .ref (ad B' 3 0 0 0)), (4, .int (nI i))] [] (gw E B' N' w') (k + 89) (n + 2891)) : Go F 180 [(0, .ref b), (1, .ref (ad B 1 0 0 0)), (2, .ref (ad B 4 0 0 0)), (3, .ref (ad B 3 0 0 0)), (4, .int (nI i))] [] (gw E B N w) k n := by
  have hK := hE.1
  have hT := hE.2.1
  obtain ⟨⟨ho, hb, h2, h3, h4⟩, hp, hsv, hon, hoff, h5, hO⟩ := id h
  have hR := hp.1
  have ok := hR.1
  by_cases hT0 : tG w (xs (i + 1)) (xs (i + 2)) (xs (i + 3)) (xs (i + 4)) = 0
  · refine go_aload_n hF d_La_law_180 rfl ?_
    refine go_aload_n hF d_La_law_181 rfl ?_
    refine go_iload hF d_La_law_182 rfl ?_
    refine go_iconst (v := 1) hF d_La_law_184 (by decide) ?_
    refine go_iadd hF d_La_law_185 ?_
    refine gs_sld hF hX hbl d_La_law_186 (ix1 (k := 1) (n := i) rfl) (by omega) (by omega) ?_
    refine go_aload_n hF d_La_law_187 rfl ?_
    refine go_iload hF d_La_law_188 rfl ?_
    refine go_iconst (v := 2) hF d_La_law_190 (by decide) ?_
    refine go_iadd hF d_La_law_191 ?_
    refine gs_sld hF hX hbl d_La_law_192 (ix1 (k := 2) (n := i) rfl) (by omega) (by omega) ?_
    refine go_aload_n hF d_La_law_193 rfl ?_
    refine go_iload hF d_La_law_194 rfl ?_
    refine go_iconst (v := 3) hF d_La_law_196 (by decide) ?_
    refine go_iadd hF d_La_law_197 ?_
    refine gs_sld hF hX hbl d_La_law_198 (ix1 (k := 3) (n := i) rfl) (by omega) (by omega) ?_
    refine go_aload_n hF d_La_law_199 rfl ?_
    refine go_iload hF d_La_law_200 rfl ?_
    refine go_iconst (v := 4) hF d_La_law_202 (by decide) ?_
    refine go_iadd hF d_La_law_203 ?_
    refine gs_sld hF hX hbl d_La_law_204 (ix1 (k := 4) (n := i) rfl) (by omega) (by omega) ?_
    refine go_aload_n hF d_La_law_205 rfl ?_
    refine go_callSW hF hE hlo d_La_law_206 (con_La_gate hlt hb ho h2 h3 ok (xs (i + 1)) (xs (i + 2)) (xs (i + 3)) (xs (i + 4))) mw_La_gate ms_La_gate lk_La_89 ⟨rfl, rfl, by decide, by decide⟩ rfl (Nat.le_of_ble_eq_true rfl) ⟨by show _ ≤ 601024; omega, by show _ ≤ 7293034; omega⟩ (fun M => gx_no) rfl (fun v => ?_)
    refine go_and (fun hv => ?_)
    subst hv
    refine go_G (G' := gw E B N (sL (agX w (xs (i + 1)) (xs (i + 2)) (xs (i + 3)) (xs (i + 4))) 3 0 0 0 0 (wI w 0 0 0 4 0).toInt64)) (fun H hG => hG.elim (fun z => z.2) (fun z => absurd hT0 z.1)) ?_
    refine go_G (G' := gw E B N (mW (sL (agX w (xs (i + 1)) (xs (i + 2)) (xs (i + 3)) (xs (i + 4))) 3 0 0 0 0 (wI w 0 0 0 4 0).toInt64) (mS w))) (fun H hG => by rw [mW_qb1 (qb_ag w _ _ _ _)]; exact hG) ?_
    refine go_istore hF d_La_law_209 (by decide) ?_
    refine go_lv (lv' := [(0, _), (1, _), (2, _), (3, _), (4, _), (5, _)]) ⟨rfl, rfl, rfl, rfl, rfl, rfl, trivial⟩ ?_
    refine go_aload_n hF d_La_law_211 rfl ?_
    refine go_aload_n hF d_La_law_212 rfl ?_
    refine go_iload hF d_La_law_213 rfl ?_
    refine go_iconst (v := 1) hF d_La_law_215 (by decide) ?_
    refine go_iadd hF d_La_law_216 ?_
    refine gs_sld hF hX hbl d_La_law_217 (ix1 (k := 1) (n := i) rfl) (by omega) (by omega) ?_
    refine go_aload_n hF d_La_law_218 rfl ?_
    refine go_iload hF d_La_law_219 rfl ?_
    refine go_iconst (v := 2) hF d_La_law_221 (by decide) ?_
    refine go_iadd hF d_La_law_222 ?_
    refine gs_sld hF hX hbl d_La_law_223 (ix1 (k := 2) (n := i) rfl) (by omega) (by omega) ?_
    refine go_aload_n hF d_La_law_224 rfl ?_
    refine go_iload hF d_La_law_225 rfl ?_
    refine go_iconst (v := 3) hF d_La_law_227 (by decide) ?_
    refine go_iadd hF d_La_law_228 ?_
    refine gs_sld hF hX hbl d_La_law_229 (ix1 (k := 3) (n := i) rfl) (by omega) (by omega) ?_
    refine go_aload_n hF d_La_law_230 rfl ?_
    refine go_iload hF d_La_law_231 rfl ?_
    refine go_iconst (v := 4) hF d_La_law_233 (by decide) ?_
    refine go_iadd hF d_La_law_234 ?_
    refine gs_sld hF hX hbl d_La_law_235 (ix1 (k := 4) (n := i) rfl) (by omega) (by omega) ?_
    refine go_callVX hF hE hlo d_La_law_236 (con_Mo_gate (w := (sL (agX w (xs (i + 1)) (xs (i + 2)) (xs (i + 3)) (xs (i + 4))) 3 0 0 0 0 (wI w 0 0 0 4 0).toInt64)) (f := mS w) (c := w) (K := K) (N := N) hlt h4 (by omega) hR) mt_Mo_gate mv_Mo_gate lk_La_92 ⟨rfl, rfl, by decide, by decide⟩ rfl (Nat.le_of_ble_eq_true rfl) ⟨by show _ ≤ 601024; omega, by show _ ≤ 7293034; omega⟩ (fun H hG => gw_recv (q := (R_Mo, T_Mo, 9)) hK hG h4 rfl rfl (by decide) rfl) (fun M => gx_no) rfl (fun v => ?_)
    refine go_ex (fun f2 => ?_)
    refine go_ex (fun b9 => ?_)
    refine go_and (fun hv => ?_)
    subst hv
    refine go_and (fun g1 => ?_)
    refine go_and (fun g2 => ?_)
    obtain ⟨rfl, hR2⟩ := g1 hT0
    refine go_istore hF d_La_law_239 (by decide) ?_
    refine go_lv (lv' := [(0, _), (1, _), (2, _), (3, _), (4, _), (5, _), (6, _)]) ⟨rfl, rfl, rfl, rfl, rfl, rfl, rfl, trivial⟩ ?_
    refine go_aload_n hF d_La_law_241 rfl ?_
    refine go_callVX hF hE hlo d_La_law_242 (con_Mo_thrown (w := sI (sL (agX w (xs (i + 1)) (xs (i + 2)) (xs (i + 3)) (xs (i + 4))) 3 0 0 0 0 (wI w 0 0 0 4 0).toInt64) 4 0 0 0 0 (tG w (xs (i + 1)) (xs (i + 2)) (xs (i + 3)) (xs (i + 4)))) (f := f2) (N := N) hlt h4) mt_Mo_thrown mv_Mo_thrown lk_La_86 ⟨rfl, rfl, by decide, by decide⟩ rfl (Nat.le_of_ble_eq_true rfl) ⟨by show _ ≤ 601024; omega, by show _ ≤ 7293034; omega⟩ (fun H hG => gw_recv (q := (R_Mo, T_Mo, 9)) hK hG h4 rfl rfl (by decide) rfl) (fun M => gx_no) rfl (fun v => ?_)
    refine go_and (fun hv => ?_)
    subst hv
    rw [thr_0]
    refine go_iload hF d_La_law_245 rfl ?_
    refine go_icmp_eq (tgt := 252) hF d_La_law_247 (by decide) (fun h247 => ?_) (fun h247 => ?_)
    · refine go_iload hF d_La_law_252 rfl ?_
      refine go_if_ne (tgt := 269) hF d_La_law_254 (by decide) (fun h254 => ?_) (fun h254 => ?_)
      · exact absurd hT0 h254
      · refine go_aload_n hF d_La_law_257 rfl ?_
        refine go_iconst (v := 0) hF d_La_law_258 (by decide) ?_
        refine gs_lald hF hK hT d_La_law_259 h3 rfl rfl (show (0 : Int32) = nI 0 from rfl) (by decide) (by decide) ?_
        rw [out_v]
        refine go_iload hF d_La_law_260 rfl ?_
        refine go_i2l hF d_La_law_262 ?_
        refine go_lif_eq (tgt := 269) hF d_La_law_263 d_La_law_264 (by decide) (fun h263 => ?_) (fun h263 => ?_)
        · refine go_goto (tgt := 1481) hF d_La_law_269 (by decide) ?_
          refine go_lv (lv' := [(0, _), (1, _), (2, _), (3, _), (4, _)]) ⟨rfl, rfl, rfl, rfl, rfl, trivial⟩ ?_
          refine go_wd (k' := k + 89) (n' := n + 2891) (by omega) (by omega) ?_
          exact hC B N _ s (LI_K (K := K + 1) (by omega) (LI_nx h rfl rfl (wP_1 (qb_ag w _ _ _ _)) (LIp_1 hp (by omega) (qb_ag w _ _ _ _) hR2)))
        · exact absurd rfl h263
    · exact absurd rfl h247
  · refine go_aload_n hF d_La_law_180 rfl ?_
    refine go_aload_n hF d_La_law_181 rfl ?_
    refine go_iload hF d_La_law_182 rfl ?_
    refine go_iconst (v := 1) hF d_La_law_184 (by decide) ?_
    refine go_iadd hF d_La_law_185 ?_
    refine gs_sld hF hX hbl d_La_law_186 (ix1 (k := 1) (n := i) rfl) (by omega) (by omega) ?_
    refine go_aload_n hF d_La_law_187 rfl ?_
    refine go_iload hF d_La_law_188 rfl ?_
    refine go_iconst (v := 2) hF d_La_law_190 (by decide) ?_
    refine go_iadd hF d_La_law_191 ?_
    refine gs_sld hF hX hbl d_La_law_192 (ix1 (k := 2) (n := i) rfl) (by omega) (by omega) ?_
    refine go_aload_n hF d_La_law_193 rfl ?_
    refine go_iload hF d_La_law_194 rfl ?_
    refine go_iconst (v := 3) hF d_La_law_196 (by decide) ?_
    refine go_iadd hF d_La_law_197 ?_
    refine gs_sld hF hX hbl d_La_law_198 (ix1 (k := 3) (n := i) rfl) (by omega) (by omega) ?_
    refine go_aload_n hF d_La_law_199 rfl ?_
    refine go_iload hF d_La_law_200 rfl ?_
    refine go_iconst (v := 4) hF d_La_law_202 (by decide) ?_
    refine go_iadd hF d_La_law_203 ?_
    refine gs_sld hF hX hbl d_La_law_204 (ix1 (k := 4) (n := i) rfl) (by omega) (by omega) ?_
    refine go_aload_n hF d_La_law_205 rfl ?_
    refine go_callSW hF hE hlo d_La_law_206 (con_La_gate hlt hb ho h2 h3 ok (xs (i + 1)) (xs (i + 2)) (xs (i + 3)) (xs (i + 4))) mw_La_gate ms_La_gate lk_La_89 ⟨rfl, rfl, by decide, by decide⟩ rfl (Nat.le_of_ble_eq_true rfl) ⟨by show _ ≤ 601024; omega, by show _ ≤ 7293034; omega⟩ (fun M => gx_no) rfl (fun v => ?_)
    refine go_and (fun hv => ?_)
    subst hv
    refine go_G (G' := gw E B (nx1 N) w) (fun H hG => hG.elim (fun z => absurd z.1 hT0) (fun z => z.2)) ?_
    refine go_G (G' := gw E B (nx1 N) (mW w (mS w))) (fun H hG => by rw [mW_w]; exact hG) ?_
    refine go_istore hF d_La_law_209 (by decide) ?_
    refine go_lv (lv' := [(0, _), (1, _), (2, _), (3, _), (4, _), (5, _)]) ⟨rfl, rfl, rfl, rfl, rfl, rfl, trivial⟩ ?_
    refine go_aload_n hF d_La_law_211 rfl ?_
    refine go_aload_n hF d_La_law_212 rfl ?_
    refine go_iload hF d_La_law_213 rfl ?_
    refine go_iconst (v := 1) hF d_La_law_215 (by decide) ?_
    refine go_iadd hF d_La_law_216 ?_
    refine gs_sld hF hX hbl d_La_law_217 (ix1 (k := 1) (n := i) rfl) (by omega) (by omega) ?_
    refine go_aload_n hF d_La_law_218 rfl ?_
    refine go_iload hF d_La_law_219 rfl ?_
    refine go_iconst (v := 2) hF d_La_law_221 (by decide) ?_
    refine go_iadd hF d_La_law_222 ?_
    refine gs_sld hF hX hbl d_La_law_223 (ix1 (k := 2) (n := i) rfl) (by omega) (by omega) ?_
    refine go_aload_n hF d_La_law_224 rfl ?_
    refine go_iload hF d_La_law_225 rfl ?_
    refine go_iconst (v := 3) hF d_La_law_227 (by decide) ?_
    refine go_iadd hF d_La_law_228 ?_
    refine gs_sld hF hX hbl d_La_law_229 (ix1 (k := 3) (n := i) rfl) (by omega) (by omega) ?_
    refine go_aload_n hF d_La_law_230 rfl ?_
    refine go_iload hF d_La_law_231 rfl ?_
    refine go_iconst (v := 4) hF d_La_law_233 (by decide) ?_
    refine go_iadd hF d_La_law_234 ?_
    refine gs_sld hF hX hbl d_La_law_235 (ix1 (k := 4) (n := i) rfl) (by omega) (by omega) ?_
    refine go_callVX hF hE hlo d_La_law_236 (con_Mo_gate (w := w) (f := mS w) (c := w) (K := K) (N := (nx1 N)) hlt h4 (by omega) hR) mt_Mo_gate mv_Mo_gate lk_La_92 ⟨rfl, rfl, by decide, by decide⟩ rfl (Nat.le_of_ble_eq_true rfl) ⟨by show _ ≤ 601024; omega, by show _ ≤ 7293034; omega⟩ (fun H hG => gw_recv (q := (R_Mo, T_Mo, 9)) hK hG h4 rfl rfl (by decide) rfl) (fun M => gx_no) rfl (fun v => ?_)
    refine go_ex (fun f2 => ?_)
    refine go_ex (fun b9 => ?_)
    refine go_and (fun hv => ?_)
    subst hv
    refine go_and (fun g1 => ?_)
    refine go_and (fun g2 => ?_)
    have hf2 := g2 hT0
    subst hf2
    refine go_istore hF d_La_law_239 (by decide) ?_
    refine go_lv (lv' := [(0, _), (1, _), (2, _), (3, _), (4, _), (5, _), (6, _)]) ⟨rfl, rfl, rfl, rfl, rfl, rfl, rfl, trivial⟩ ?_
    refine go_aload_n hF d_La_law_241 rfl ?_
    refine go_callVX hF hE hlo d_La_law_242 (con_Mo_thrown (w := sI w 4 0 0 0 0 (tG w (xs (i + 1)) (xs (i + 2)) (xs (i + 3)) (xs (i + 4)))) (f := (mS w)) (N := (nx1 N)) hlt h4) mt_Mo_thrown mv_Mo_thrown lk_La_86 ⟨rfl, rfl, by decide, by decide⟩ rfl (Nat.le_of_ble_eq_true rfl) ⟨by show _ ≤ 601024; omega, by show _ ≤ 7293034; omega⟩ (fun H hG => gw_recv (q := (R_Mo, T_Mo, 9)) hK hG h4 rfl rfl (by decide) rfl) (fun M => gx_no) rfl (fun v => ?_)
    refine go_and (fun hv => ?_)
    subst hv
    rw [thr_0]
    refine go_iload hF d_La_law_245 rfl ?_
    refine go_icmp_eq (tgt := 252) hF d_La_law_247 (by decide) (fun h247 => ?_) (fun h247 => ?_)
    · refine go_iload hF d_La_law_252 rfl ?_
      refine go_if_ne (tgt := 269) hF d_La_law_254 (by decide) (fun h254 => ?_) (fun h254 => ?_)
      · refine go_goto (tgt := 1481) hF d_La_law_269 (by decide) ?_
        refine go_lv (lv' := [(0, _), (1, _), (2, _), (3, _), (4, _)]) ⟨rfl, rfl, rfl, rfl, rfl, trivial⟩ ?_
        refine go_wd (k' := k + 89) (n' := n + 2891) (by omega) (by omega) ?_
        exact hC B (nx1 N) _ s (LI_K (K := K) (by omega) (LI_nx h rfl rfl (wP_0 (qb_rf w)) (LIp_0 hp (Nat.le_refl K) (qb_rf w) hR)))
      · exact absurd h254 hT0
    · exact absurd rfl h247
set_option maxHeartbeats 4000000 in
set_option maxRecDepth 100000 in
theorem law_delay {F : gT} {E : gE} {B : bsT} {N : nwT} {w : wdT} (hF : Fb F c_La_law R_La 8 room_1) (hE : en E (gs F)) (hlo : gLo F = E.2.2.size) (hlt : (gl F).stackTraces = false) {b L : Nat} {xs : Nat → Int32} (hX : va_X b L xs (gs F) E.2.2) (hbl : b < E.2.2.size) (hL : L ≤ 2560) {i K k n s : Nat} (hi : i + 5 ≤ L) (hKK : K + 150 < 1000000000) (hk : k + 89 ≤ 601024) (hn : n + 2891 ≤ 7293034) (h : LI K B N w s)
    (hC : ∀ (B' : bsT) (N' : nwT) (w' : wdT) (s' : Nat), LI (K + 150) B' N' w' s' → Go F 1481 [(0, .ref b), (1, .ref (ad B' 1 0 0 0)), (2, .ref (ad B' 4 0 0 0)), (3, .ref (ad B' 3 0 0 0)), (4, .int (nI i))] [] (gw E B' N' w') (k + 89) (n + 2891)) : Go F 272 [(0, .ref b), (1, .ref (ad B 1 0 0 0)), (2, .ref (ad B 4 0 0 0)), (3, .ref (ad B 3 0 0 0)), (4, .int (nI i))] [] (gw E B N w) k n := by
  have hK := hE.1
  have hT := hE.2.1
  obtain ⟨⟨ho, hb, h2, h3, h4⟩, hp, hsv, hon, hoff, h5, hO⟩ := id h
  have hR := hp.1
  have ok := hR.1
  by_cases hT0 : tD w (xs (i + 1)) (xs (i + 2)) (xs (i + 3)) = 0
  · refine go_aload_n hF d_La_law_272 rfl ?_
    refine go_aload_n hF d_La_law_273 rfl ?_
    refine go_iload hF d_La_law_274 rfl ?_
    refine go_iconst (v := 1) hF d_La_law_276 (by decide) ?_
    refine go_iadd hF d_La_law_277 ?_
    refine gs_sld hF hX hbl d_La_law_278 (ix1 (k := 1) (n := i) rfl) (by omega) (by omega) ?_
    refine go_aload_n hF d_La_law_279 rfl ?_
    refine go_iload hF d_La_law_280 rfl ?_
    refine go_iconst (v := 2) hF d_La_law_282 (by decide) ?_
    refine go_iadd hF d_La_law_283 ?_
    refine gs_sld hF hX hbl d_La_law_284 (ix1 (k := 2) (n := i) rfl) (by omega) (by omega) ?_
    refine go_aload_n hF d_La_law_285 rfl ?_
    refine go_iload hF d_La_law_286 rfl ?_
    refine go_iconst (v := 3) hF d_La_law_288 (by decide) ?_
    refine go_iadd hF d_La_law_289 ?_
    refine gs_sld hF hX hbl d_La_law_290 (ix1 (k := 3) (n := i) rfl) (by omega) (by omega) ?_
    refine go_aload_n hF d_La_law_291 rfl ?_
    refine go_callSW hF hE hlo d_La_law_292 (con_La_delay hlt hb ho h2 h3 ok (xs (i + 1)) (xs (i + 2)) (xs (i + 3))) mw_La_delay ms_La_delay lk_La_93 ⟨rfl, rfl, by decide, by decide⟩ rfl (Nat.le_of_ble_eq_true rfl) ⟨by show _ ≤ 601024; omega, by show _ ≤ 7293034; omega⟩ (fun M => gx_no) rfl (fun v => ?_)
    refine go_and (fun hv => ?_)
    subst hv
    refine go_G (G' := gw E B N (sL (dlW w 0 (nz (xs (i + 1))) (xs (i + 2)) (xs (i + 3))) 3 0 0 0 0 (bi (¬ wI w 0 0 14 4 (nz (xs (i + 1))) = (xs (i + 2)) ∨ ¬ wI w 0 0 14 5 (nz (xs (i + 1))) = (xs (i + 3)))).toInt64)) (fun H hG => hG.elim (fun z => z.2) (fun z => absurd hT0 z.1)) ?_
    refine go_G (G' := gw E B N (mW (sL (dlW w 0 (nz (xs (i + 1))) (xs (i + 2)) (xs (i + 3))) 3 0 0 0 0 (bi (¬ wI w 0 0 14 4 (nz (xs (i + 1))) = (xs (i + 2)) ∨ ¬ wI w 0 0 14 5 (nz (xs (i + 1))) = (xs (i + 3)))).toInt64) (mS w))) (fun H hG => by rw [mW_qb1 (qb_dl w _ _ _)]; exact hG) ?_
    refine go_istore hF d_La_law_295 (by decide) ?_
    refine go_lv (lv' := [(0, _), (1, _), (2, _), (3, _), (4, _), (5, _)]) ⟨rfl, rfl, rfl, rfl, rfl, rfl, trivial⟩ ?_
    refine go_aload_n hF d_La_law_297 rfl ?_
    refine go_aload_n hF d_La_law_298 rfl ?_
    refine go_iload hF d_La_law_299 rfl ?_
    refine go_iconst (v := 1) hF d_La_law_301 (by decide) ?_
    refine go_iadd hF d_La_law_302 ?_
    refine gs_sld hF hX hbl d_La_law_303 (ix1 (k := 1) (n := i) rfl) (by omega) (by omega) ?_
    refine go_aload_n hF d_La_law_304 rfl ?_
    refine go_iload hF d_La_law_305 rfl ?_
    refine go_iconst (v := 2) hF d_La_law_307 (by decide) ?_
    refine go_iadd hF d_La_law_308 ?_
    refine gs_sld hF hX hbl d_La_law_309 (ix1 (k := 2) (n := i) rfl) (by omega) (by omega) ?_
    refine go_aload_n hF d_La_law_310 rfl ?_
    refine go_iload hF d_La_law_311 rfl ?_
    refine go_iconst (v := 3) hF d_La_law_313 (by decide) ?_
    refine go_iadd hF d_La_law_314 ?_
    refine gs_sld hF hX hbl d_La_law_315 (ix1 (k := 3) (n := i) rfl) (by omega) (by omega) ?_
    refine go_callVX hF hE hlo d_La_law_316 (con_Mo_delay (w := (sL (dlW w 0 (nz (xs (i + 1))) (xs (i + 2)) (xs (i + 3))) 3 0 0 0 0 (bi (¬ wI w 0 0 14 4 (nz (xs (i + 1))) = (xs (i + 2)) ∨ ¬ wI w 0 0 14 5 (nz (xs (i + 1))) = (xs (i + 3)))).toInt64)) (f := mS w) (c := w) (K := K) (N := N) hlt h4 hR) mt_Mo_delay mv_Mo_delay lk_La_96 ⟨rfl, rfl, by decide, by decide⟩ rfl (Nat.le_of_ble_eq_true rfl) ⟨by show _ ≤ 601024; omega, by show _ ≤ 7293034; omega⟩ (fun H hG => gw_recv (q := (R_Mo, T_Mo, 9)) hK hG h4 rfl rfl (by decide) rfl) (fun M => gx_no) rfl (fun v => ?_)
    refine go_ex (fun f2 => ?_)
    refine go_ex (fun b9 => ?_)
    refine go_and (fun hv => ?_)
    subst hv
    refine go_and (fun g1 => ?_)
    refine go_and (fun g2 => ?_)
    obtain ⟨rfl, hR2⟩ := g1 hT0
    refine go_istore hF d_La_law_319 (by decide) ?_
    refine go_lv (lv' := [(0, _), (1, _), (2, _), (3, _), (4, _), (5, _), (6, _)]) ⟨rfl, rfl, rfl, rfl, rfl, rfl, rfl, trivial⟩ ?_
    refine go_aload_n hF d_La_law_321 rfl ?_
    refine go_callVX hF hE hlo d_La_law_322 (con_Mo_thrown (w := sI (sL (dlW w 0 (nz (xs (i + 1))) (xs (i + 2)) (xs (i + 3))) 3 0 0 0 0 (bi (¬ wI w 0 0 14 4 (nz (xs (i + 1))) = (xs (i + 2)) ∨ ¬ wI w 0 0 14 5 (nz (xs (i + 1))) = (xs (i + 3)))).toInt64) 4 0 0 0 0 (tD w (xs (i + 1)) (xs (i + 2)) (xs (i + 3)))) (f := f2) (N := N) hlt h4) mt_Mo_thrown mv_Mo_thrown lk_La_86 ⟨rfl, rfl, by decide, by decide⟩ rfl (Nat.le_of_ble_eq_true rfl) ⟨by show _ ≤ 601024; omega, by show _ ≤ 7293034; omega⟩ (fun H hG => gw_recv (q := (R_Mo, T_Mo, 9)) hK hG h4 rfl rfl (by decide) rfl) (fun M => gx_no) rfl (fun v => ?_)
    refine go_and (fun hv => ?_)
    subst hv
    rw [thr_0]
    refine go_iload hF d_La_law_325 rfl ?_
    refine go_icmp_eq (tgt := 332) hF d_La_law_327 (by decide) (fun h327 => ?_) (fun h327 => ?_)
    · refine go_iload hF d_La_law_332 rfl ?_
      refine go_if_ne (tgt := 356) hF d_La_law_334 (by decide) (fun h334 => ?_) (fun h334 => ?_)
      · exact absurd hT0 h334
      · refine go_aload_n hF d_La_law_337 rfl ?_
        refine go_iconst (v := 0) hF d_La_law_338 (by decide) ?_
        refine gs_lald hF hK hT d_La_law_339 h3 rfl rfl (show (0 : Int32) = nI 0 from rfl) (by decide) (by decide) ?_
        rw [out_v]
        refine go_iload hF d_La_law_340 rfl ?_
        refine go_if_eq (tgt := 349) hF d_La_law_342 (by decide) (fun h342 => ?_) (fun h342 => ?_)
        · refine go_lconst (v := 0) hF d_La_law_349 (by decide) ?_
          refine go_lif_eq (tgt := 356) hF d_La_law_350 d_La_law_351 (by decide) (fun h350 => ?_) (fun h350 => ?_)
          · refine go_goto (tgt := 1481) hF d_La_law_356 (by decide) ?_
            refine go_lv (lv' := [(0, _), (1, _), (2, _), (3, _), (4, _)]) ⟨rfl, rfl, rfl, rfl, rfl, trivial⟩ ?_
            refine go_wd (k' := k + 89) (n' := n + 2891) (by omega) (by omega) ?_
            exact hC B N _ s (LI_K (K := K) (by omega) (LI_nx h rfl rfl (wP_1 (qb_dl w _ _ _)) (LIp_1 hp (by omega) (qb_dl w _ _ _) hR2)))
          · exact absurd (bi_64f h342).symm h350
        · refine go_lconst (v := 1) hF d_La_law_345 (by decide) ?_
          refine go_goto (tgt := 350) hF d_La_law_346 (by decide) ?_
          refine go_lif_eq (tgt := 356) hF d_La_law_350 d_La_law_351 (by decide) (fun h350 => ?_) (fun h350 => ?_)
          · refine go_goto (tgt := 1481) hF d_La_law_356 (by decide) ?_
            refine go_lv (lv' := [(0, _), (1, _), (2, _), (3, _), (4, _)]) ⟨rfl, rfl, rfl, rfl, rfl, trivial⟩ ?_
            refine go_wd (k' := k + 89) (n' := n + 2891) (by omega) (by omega) ?_
            exact hC B N _ s (LI_K (K := K) (by omega) (LI_nx h rfl rfl (wP_1 (qb_dl w _ _ _)) (LIp_1 hp (by omega) (qb_dl w _ _ _) hR2)))
          · exact absurd (bi_64t h342).symm h350
    · exact absurd rfl h327
  · refine go_aload_n hF d_La_law_272 rfl ?_
    refine go_aload_n hF d_La_law_273 rfl ?_
    refine go_iload hF d_La_law_274 rfl ?_
    refine go_iconst (v := 1) hF d_La_law_276 (by decide) ?_
    refine go_iadd hF d_La_law_277 ?_
    refine gs_sld hF hX hbl d_La_law_278 (ix1 (k := 1) (n := i) rfl) (by omega) (by omega) ?_
    refine go_aload_n hF d_La_law_279 rfl ?_
    refine go_iload hF d_La_law_280 rfl ?_
    refine go_iconst (v := 2) hF d_La_law_282 (by decide) ?_
    refine go_iadd hF d_La_law_283 ?_
    refine gs_sld hF hX hbl d_La_law_284 (ix1 (k := 2) (n := i) rfl) (by omega) (by omega) ?_
    refine go_aload_n hF d_La_law_285 rfl ?_
    refine go_iload hF d_La_law_286 rfl ?_
    refine go_iconst (v := 3) hF d_La_law_288 (by decide) ?_
    refine go_iadd hF d_La_law_289 ?_
    refine gs_sld hF hX hbl d_La_law_290 (ix1 (k := 3) (n := i) rfl) (by omega) (by omega) ?_
    refine go_aload_n hF d_La_law_291 rfl ?_
    refine go_callSW hF hE hlo d_La_law_292 (con_La_delay hlt hb ho h2 h3 ok (xs (i + 1)) (xs (i + 2)) (xs (i + 3))) mw_La_delay ms_La_delay lk_La_93 ⟨rfl, rfl, by decide, by decide⟩ rfl (Nat.le_of_ble_eq_true rfl) ⟨by show _ ≤ 601024; omega, by show _ ≤ 7293034; omega⟩ (fun M => gx_no) rfl (fun v => ?_)
    refine go_and (fun hv => ?_)
    subst hv
    refine go_G (G' := gw E B (nx1 N) w) (fun H hG => hG.elim (fun z => absurd z.1 hT0) (fun z => z.2)) ?_
    refine go_G (G' := gw E B (nx1 N) (mW w (mS w))) (fun H hG => by rw [mW_w]; exact hG) ?_
    refine go_istore hF d_La_law_295 (by decide) ?_
    refine go_lv (lv' := [(0, _), (1, _), (2, _), (3, _), (4, _), (5, _)]) ⟨rfl, rfl, rfl, rfl, rfl, rfl, trivial⟩ ?_
    refine go_aload_n hF d_La_law_297 rfl ?_
    refine go_aload_n hF d_La_law_298 rfl ?_
    refine go_iload hF d_La_law_299 rfl ?_
    refine go_iconst (v := 1) hF d_La_law_301 (by decide) ?_
    refine go_iadd hF d_La_law_302 ?_
    refine gs_sld hF hX hbl d_La_law_303 (ix1 (k := 1) (n := i) rfl) (by omega) (by omega) ?_
    refine go_aload_n hF d_La_law_304 rfl ?_
    refine go_iload hF d_La_law_305 rfl ?_
    refine go_iconst (v := 2) hF d_La_law_307 (by decide) ?_
    refine go_iadd hF d_La_law_308 ?_
    refine gs_sld hF hX hbl d_La_law_309 (ix1 (k := 2) (n := i) rfl) (by omega) (by omega) ?_
    refine go_aload_n hF d_La_law_310 rfl ?_
    refine go_iload hF d_La_law_311 rfl ?_
    refine go_iconst (v := 3) hF d_La_law_313 (by decide) ?_
    refine go_iadd hF d_La_law_314 ?_
    refine gs_sld hF hX hbl d_La_law_315 (ix1 (k := 3) (n := i) rfl) (by omega) (by omega) ?_
    refine go_callVX hF hE hlo d_La_law_316 (con_Mo_delay (w := w) (f := mS w) (c := w) (K := K) (N := (nx1 N)) hlt h4 hR) mt_Mo_delay mv_Mo_delay lk_La_96 ⟨rfl, rfl, by decide, by decide⟩ rfl (Nat.le_of_ble_eq_true rfl) ⟨by show _ ≤ 601024; omega, by show _ ≤ 7293034; omega⟩ (fun H hG => gw_recv (q := (R_Mo, T_Mo, 9)) hK hG h4 rfl rfl (by decide) rfl) (fun M => gx_no) rfl (fun v => ?_)
    refine go_ex (fun f2 => ?_)
    refine go_ex (fun b9 => ?_)
    refine go_and (fun hv => ?_)
    subst hv
    refine go_and (fun g1 => ?_)
    refine go_and (fun g2 => ?_)
    have hf2 := g2 hT0
    subst hf2
    refine go_istore hF d_La_law_319 (by decide) ?_
    refine go_lv (lv' := [(0, _), (1, _), (2, _), (3, _), (4, _), (5, _), (6, _)]) ⟨rfl, rfl, rfl, rfl, rfl, rfl, rfl, trivial⟩ ?_
    refine go_aload_n hF d_La_law_321 rfl ?_
    refine go_callVX hF hE hlo d_La_law_322 (con_Mo_thrown (w := sI w 4 0 0 0 0 (tD w (xs (i + 1)) (xs (i + 2)) (xs (i + 3)))) (f := (mS w)) (N := (nx1 N)) hlt h4) mt_Mo_thrown mv_Mo_thrown lk_La_86 ⟨rfl, rfl, by decide, by decide⟩ rfl (Nat.le_of_ble_eq_true rfl) ⟨by show _ ≤ 601024; omega, by show _ ≤ 7293034; omega⟩ (fun H hG => gw_recv (q := (R_Mo, T_Mo, 9)) hK hG h4 rfl rfl (by decide) rfl) (fun M => gx_no) rfl (fun v => ?_)
    refine go_and (fun hv => ?_)
    subst hv
    rw [thr_0]
    refine go_iload hF d_La_law_325 rfl ?_
    refine go_icmp_eq (tgt := 332) hF d_La_law_327 (by decide) (fun h327 => ?_) (fun h327 => ?_)
    · refine go_iload hF d_La_law_332 rfl ?_
      refine go_if_ne (tgt := 356) hF d_La_law_334 (by decide) (fun h334 => ?_) (fun h334 => ?_)
      · refine go_goto (tgt := 1481) hF d_La_law_356 (by decide) ?_
        refine go_lv (lv' := [(0, _), (1, _), (2, _), (3, _), (4, _)]) ⟨rfl, rfl, rfl, rfl, rfl, trivial⟩ ?_
        refine go_wd (k' := k + 89) (n' := n + 2891) (by omega) (by omega) ?_
        exact hC B (nx1 N) _ s (LI_K (K := K) (by omega) (LI_nx h rfl rfl (wP_0 (qb_rf w)) (LIp_0 hp (Nat.le_refl K) (qb_rf w) hR)))
      · exact absurd h334 hT0
    · exact absurd rfl h327
set_option maxHeartbeats 4000000 in
set_option maxRecDepth 100000 in
theorem law_spike {F : gT} {E : gE} {B : bsT} {N : nwT} {w : wdT} (hF : Fb F c_La_law R_La 8 room_1) (hE : en E (gs F)) (hlo : gLo F = E.2.2.size) (hlt : (gl F).stackTraces = false) {b L : Nat} {xs : Nat → Int32} (hX : va_X b L xs (gs F) E.2.2) (hbl : b < E.2.2.size) (hL : L ≤ 2560) {i K k n s : Nat} (hi : i + 5 ≤ L) (hKK : K + 150 < 1000000000) (hk : k + 89 ≤ 601024) (hn : n + 2891 ≤ 7293034) (h : LI K B N w s)
    (hC : ∀ (B' : bsT) (N' : nwT) (w' : wdT) (s' : Nat), LI (K + 150) B' N' w' s' → Go F 1481 [(0, .ref b), (1, .ref (ad B' 1 0 0 0)), (2, .ref (ad B' 4 0 0 0)), (3, .ref (ad B' 3 0 0 0)), (4, .int (nI i))] [] (gw E B' N' w') (k + 89) (n + 2891)) : Go F 359 [(0, .ref b), (1, .ref (ad B 1 0 0 0)), (2, .ref (ad B 4 0 0 0)), (3, .ref (ad B 3 0 0 0)), (4, .int (nI i))] [] (gw E B N w) k n := by
  have hK := hE.1
  have hT := hE.2.1
  obtain ⟨⟨ho, hb, h2, h3, h4⟩, hp, hsv, hon, hoff, h5, hO⟩ := id h
  have hR := hp.1
  have ok := hR.1
  by_cases hT0 : tS (xs (i + 1)) = 0
  · refine go_aload_n hF d_La_law_359 rfl ?_
    refine go_aload_n hF d_La_law_360 rfl ?_
    refine go_iload hF d_La_law_361 rfl ?_
    refine go_iconst (v := 1) hF d_La_law_363 (by decide) ?_
    refine go_iadd hF d_La_law_364 ?_
    refine gs_sld hF hX hbl d_La_law_365 (ix1 (k := 1) (n := i) rfl) (by omega) (by omega) ?_
    refine go_aload_n hF d_La_law_366 rfl ?_
    refine go_callSW hF hE hlo d_La_law_367 (con_La_spike hlt hb ho h2 h3 ok (xs (i + 1))) mw_La_spike ms_La_spike lk_La_97 ⟨rfl, rfl, by decide, by decide⟩ rfl (Nat.le_of_ble_eq_true rfl) ⟨by show _ ≤ 601024; omega, by show _ ≤ 7293034; omega⟩ (fun M => gx_no) rfl (fun v => ?_)
    refine go_and (fun hv => ?_)
    subst hv
    refine go_G (G' := gw E B N (sL (sI w 0 0 0 1 0 (xs (i + 1))) 3 0 0 0 0 (bi (¬ wI w 0 0 0 1 0 = (xs (i + 1)))).toInt64)) (fun H hG => hG.elim (fun z => z.2) (fun z => absurd hT0 z.1)) ?_
    refine go_G (G' := gw E B N (mW (sL (sI w 0 0 0 1 0 (xs (i + 1))) 3 0 0 0 0 (bi (¬ wI w 0 0 0 1 0 = (xs (i + 1)))).toInt64) (mS w))) (fun H hG => by rw [mW_qb1 (qb_I w _ _ _ _)]; exact hG) ?_
    refine go_istore hF d_La_law_370 (by decide) ?_
    refine go_lv (lv' := [(0, _), (1, _), (2, _), (3, _), (4, _), (5, _)]) ⟨rfl, rfl, rfl, rfl, rfl, rfl, trivial⟩ ?_
    refine go_aload_n hF d_La_law_372 rfl ?_
    refine go_aload_n hF d_La_law_373 rfl ?_
    refine go_iload hF d_La_law_374 rfl ?_
    refine go_iconst (v := 1) hF d_La_law_376 (by decide) ?_
    refine go_iadd hF d_La_law_377 ?_
    refine gs_sld hF hX hbl d_La_law_378 (ix1 (k := 1) (n := i) rfl) (by omega) (by omega) ?_
    refine go_callVX hF hE hlo d_La_law_379 (con_Mo_spike (w := (sL (sI w 0 0 0 1 0 (xs (i + 1))) 3 0 0 0 0 (bi (¬ wI w 0 0 0 1 0 = (xs (i + 1)))).toInt64)) (f := mS w) (c := w) (K := K) (N := N) hlt h4 hR) mt_Mo_spike mv_Mo_spike lk_La_100 ⟨rfl, rfl, by decide, by decide⟩ rfl (Nat.le_of_ble_eq_true rfl) ⟨by show _ ≤ 601024; omega, by show _ ≤ 7293034; omega⟩ (fun H hG => gw_recv (q := (R_Mo, T_Mo, 9)) hK hG h4 rfl rfl (by decide) rfl) (fun M => gx_no) rfl (fun v => ?_)
    refine go_ex (fun f2 => ?_)
    refine go_ex (fun b9 => ?_)
    refine go_and (fun hv => ?_)
    subst hv
    refine go_and (fun g1 => ?_)
    refine go_and (fun g2 => ?_)
    obtain ⟨rfl, hR2⟩ := g1 hT0
    refine go_istore hF d_La_law_382 (by decide) ?_
    refine go_lv (lv' := [(0, _), (1, _), (2, _), (3, _), (4, _), (5, _), (6, _)]) ⟨rfl, rfl, rfl, rfl, rfl, rfl, rfl, trivial⟩ ?_
    refine go_aload_n hF d_La_law_384 rfl ?_
    refine go_callVX hF hE hlo d_La_law_385 (con_Mo_thrown (w := sI (sL (sI w 0 0 0 1 0 (xs (i + 1))) 3 0 0 0 0 (bi (¬ wI w 0 0 0 1 0 = (xs (i + 1)))).toInt64) 4 0 0 0 0 (tS (xs (i + 1)))) (f := f2) (N := N) hlt h4) mt_Mo_thrown mv_Mo_thrown lk_La_86 ⟨rfl, rfl, by decide, by decide⟩ rfl (Nat.le_of_ble_eq_true rfl) ⟨by show _ ≤ 601024; omega, by show _ ≤ 7293034; omega⟩ (fun H hG => gw_recv (q := (R_Mo, T_Mo, 9)) hK hG h4 rfl rfl (by decide) rfl) (fun M => gx_no) rfl (fun v => ?_)
    refine go_and (fun hv => ?_)
    subst hv
    rw [thr_0]
    refine go_iload hF d_La_law_388 rfl ?_
    refine go_icmp_eq (tgt := 395) hF d_La_law_390 (by decide) (fun h390 => ?_) (fun h390 => ?_)
    · refine go_iload hF d_La_law_395 rfl ?_
      refine go_if_ne (tgt := 419) hF d_La_law_397 (by decide) (fun h397 => ?_) (fun h397 => ?_)
      · exact absurd hT0 h397
      · refine go_aload_n hF d_La_law_400 rfl ?_
        refine go_iconst (v := 0) hF d_La_law_401 (by decide) ?_
        refine gs_lald hF hK hT d_La_law_402 h3 rfl rfl (show (0 : Int32) = nI 0 from rfl) (by decide) (by decide) ?_
        rw [out_v]
        refine go_iload hF d_La_law_403 rfl ?_
        refine go_if_eq (tgt := 412) hF d_La_law_405 (by decide) (fun h405 => ?_) (fun h405 => ?_)
        · refine go_lconst (v := 0) hF d_La_law_412 (by decide) ?_
          refine go_lif_eq (tgt := 419) hF d_La_law_413 d_La_law_414 (by decide) (fun h413 => ?_) (fun h413 => ?_)
          · refine go_goto (tgt := 1481) hF d_La_law_419 (by decide) ?_
            refine go_lv (lv' := [(0, _), (1, _), (2, _), (3, _), (4, _)]) ⟨rfl, rfl, rfl, rfl, rfl, trivial⟩ ?_
            refine go_wd (k' := k + 89) (n' := n + 2891) (by omega) (by omega) ?_
            exact hC B N _ s (LI_K (K := K) (by omega) (LI_nx h rfl rfl (wP_1 (qb_I w _ _ _ _)) (LIp_1 hp (by omega) (qb_I w _ _ _ _) hR2)))
          · exact absurd (bi_64f h405).symm h413
        · refine go_lconst (v := 1) hF d_La_law_408 (by decide) ?_
          refine go_goto (tgt := 413) hF d_La_law_409 (by decide) ?_
          refine go_lif_eq (tgt := 419) hF d_La_law_413 d_La_law_414 (by decide) (fun h413 => ?_) (fun h413 => ?_)
          · refine go_goto (tgt := 1481) hF d_La_law_419 (by decide) ?_
            refine go_lv (lv' := [(0, _), (1, _), (2, _), (3, _), (4, _)]) ⟨rfl, rfl, rfl, rfl, rfl, trivial⟩ ?_
            refine go_wd (k' := k + 89) (n' := n + 2891) (by omega) (by omega) ?_
            exact hC B N _ s (LI_K (K := K) (by omega) (LI_nx h rfl rfl (wP_1 (qb_I w _ _ _ _)) (LIp_1 hp (by omega) (qb_I w _ _ _ _) hR2)))
          · exact absurd (bi_64t h405).symm h413
    · exact absurd rfl h390
  · refine go_aload_n hF d_La_law_359 rfl ?_
    refine go_aload_n hF d_La_law_360 rfl ?_
    refine go_iload hF d_La_law_361 rfl ?_
    refine go_iconst (v := 1) hF d_La_law_363 (by decide) ?_
    refine go_iadd hF d_La_law_364 ?_
    refine gs_sld hF hX hbl d_La_law_365 (ix1 (k := 1) (n := i) rfl) (by omega) (by omega) ?_
    refine go_aload_n hF d_La_law_366 rfl ?_
    refine go_callSW hF hE hlo d_La_law_367 (con_La_spike hlt hb ho h2 h3 ok (xs (i + 1))) mw_La_spike ms_La_spike lk_La_97 ⟨rfl, rfl, by decide, by decide⟩ rfl (Nat.le_of_ble_eq_true rfl) ⟨by show _ ≤ 601024; omega, by show _ ≤ 7293034; omega⟩ (fun M => gx_no) rfl (fun v => ?_)
    refine go_and (fun hv => ?_)
    subst hv
    refine go_G (G' := gw E B (nx1 N) w) (fun H hG => hG.elim (fun z => absurd z.1 hT0) (fun z => z.2)) ?_
    refine go_G (G' := gw E B (nx1 N) (mW w (mS w))) (fun H hG => by rw [mW_w]; exact hG) ?_
    refine go_istore hF d_La_law_370 (by decide) ?_
    refine go_lv (lv' := [(0, _), (1, _), (2, _), (3, _), (4, _), (5, _)]) ⟨rfl, rfl, rfl, rfl, rfl, rfl, trivial⟩ ?_
    refine go_aload_n hF d_La_law_372 rfl ?_
    refine go_aload_n hF d_La_law_373 rfl ?_
    refine go_iload hF d_La_law_374 rfl ?_
    refine go_iconst (v := 1) hF d_La_law_376 (by decide) ?_
    refine go_iadd hF d_La_law_377 ?_
    refine gs_sld hF hX hbl d_La_law_378 (ix1 (k := 1) (n := i) rfl) (by omega) (by omega) ?_
    refine go_callVX hF hE hlo d_La_law_379 (con_Mo_spike (w := w) (f := mS w) (c := w) (K := K) (N := (nx1 N)) hlt h4 hR) mt_Mo_spike mv_Mo_spike lk_La_100 ⟨rfl, rfl, by decide, by decide⟩ rfl (Nat.le_of_ble_eq_true rfl) ⟨by show _ ≤ 601024; omega, by show _ ≤ 7293034; omega⟩ (fun H hG => gw_recv (q := (R_Mo, T_Mo, 9)) hK hG h4 rfl rfl (by decide) rfl) (fun M => gx_no) rfl (fun v => ?_)
    refine go_ex (fun f2 => ?_)
    refine go_ex (fun b9 => ?_)
    refine go_and (fun hv => ?_)
    subst hv
    refine go_and (fun g1 => ?_)
    refine go_and (fun g2 => ?_)
    have hf2 := g2 hT0
    subst hf2
    refine go_istore hF d_La_law_382 (by decide) ?_
    refine go_lv (lv' := [(0, _), (1, _), (2, _), (3, _), (4, _), (5, _), (6, _)]) ⟨rfl, rfl, rfl, rfl, rfl, rfl, rfl, trivial⟩ ?_
    refine go_aload_n hF d_La_law_384 rfl ?_
    refine go_callVX hF hE hlo d_La_law_385 (con_Mo_thrown (w := sI w 4 0 0 0 0 (tS (xs (i + 1)))) (f := (mS w)) (N := (nx1 N)) hlt h4) mt_Mo_thrown mv_Mo_thrown lk_La_86 ⟨rfl, rfl, by decide, by decide⟩ rfl (Nat.le_of_ble_eq_true rfl) ⟨by show _ ≤ 601024; omega, by show _ ≤ 7293034; omega⟩ (fun H hG => gw_recv (q := (R_Mo, T_Mo, 9)) hK hG h4 rfl rfl (by decide) rfl) (fun M => gx_no) rfl (fun v => ?_)
    refine go_and (fun hv => ?_)
    subst hv
    rw [thr_0]
    refine go_iload hF d_La_law_388 rfl ?_
    refine go_icmp_eq (tgt := 395) hF d_La_law_390 (by decide) (fun h390 => ?_) (fun h390 => ?_)
    · refine go_iload hF d_La_law_395 rfl ?_
      refine go_if_ne (tgt := 419) hF d_La_law_397 (by decide) (fun h397 => ?_) (fun h397 => ?_)
      · refine go_goto (tgt := 1481) hF d_La_law_419 (by decide) ?_
        refine go_lv (lv' := [(0, _), (1, _), (2, _), (3, _), (4, _)]) ⟨rfl, rfl, rfl, rfl, rfl, trivial⟩ ?_
        refine go_wd (k' := k + 89) (n' := n + 2891) (by omega) (by omega) ?_
        exact hC B (nx1 N) _ s (LI_K (K := K) (by omega) (LI_nx h rfl rfl (wP_0 (qb_rf w)) (LIp_0 hp (Nat.le_refl K) (qb_rf w) hR)))
      · exact absurd h397 hT0
    · exact absurd rfl h390
set_option maxHeartbeats 4000000 in
set_option maxRecDepth 100000 in
theorem law_drive {F : gT} {E : gE} {B : bsT} {N : nwT} {w : wdT} (hF : Fb F c_La_law R_La 8 room_1) (hE : en E (gs F)) (hlo : gLo F = E.2.2.size) (hlt : (gl F).stackTraces = false) {b L : Nat} {xs : Nat → Int32} (hX : va_X b L xs (gs F) E.2.2) (hbl : b < E.2.2.size) (hL : L ≤ 2560) {i K k n s : Nat} (hi : i + 5 ≤ L) (hKK : K + 150 < 1000000000) (hk : k + 89 ≤ 601024) (hn : n + 2891 ≤ 7293034) (h : LI K B N w s)
    (hC : ∀ (B' : bsT) (N' : nwT) (w' : wdT) (s' : Nat), LI (K + 150) B' N' w' s' → Go F 1481 [(0, .ref b), (1, .ref (ad B' 1 0 0 0)), (2, .ref (ad B' 4 0 0 0)), (3, .ref (ad B' 3 0 0 0)), (4, .int (nI i))] [] (gw E B' N' w') (k + 89) (n + 2891)) : Go F 422 [(0, .ref b), (1, .ref (ad B 1 0 0 0)), (2, .ref (ad B 4 0 0 0)), (3, .ref (ad B 3 0 0 0)), (4, .int (nI i))] [] (gw E B N w) k n := by
  have hK := hE.1
  have hT := hE.2.1
  obtain ⟨⟨ho, hb, h2, h3, h4⟩, hp, hsv, hon, hoff, h5, hO⟩ := id h
  have hR := hp.1
  have ok := hR.1
  by_cases hT0 : tH w (xs (i + 1)) (lg2 (xs (i + 2)) (xs (i + 3))) (xs (i + 4)) = 0
  · refine go_aload_n hF d_La_law_422 rfl ?_
    refine go_aload_n hF d_La_law_423 rfl ?_
    refine go_iload hF d_La_law_424 rfl ?_
    refine go_iconst (v := 1) hF d_La_law_426 (by decide) ?_
    refine go_iadd hF d_La_law_427 ?_
    refine gs_sld hF hX hbl d_La_law_428 (ix1 (k := 1) (n := i) rfl) (by omega) (by omega) ?_
    refine go_aload_n hF d_La_law_429 rfl ?_
    refine go_iload hF d_La_law_430 rfl ?_
    refine go_iconst (v := 2) hF d_La_law_432 (by decide) ?_
    refine go_iadd hF d_La_law_433 ?_
    refine gs_sld hF hX hbl d_La_law_434 (ix1 (k := 2) (n := i) rfl) (by omega) (by omega) ?_
    refine go_i2l hF d_La_law_435 ?_
    refine go_bipush (v := 32) hF d_La_law_436 (by decide) ?_
    refine go_lshl hF d_La_law_438 ?_
    refine go_aload_n hF d_La_law_439 rfl ?_
    refine go_iload hF d_La_law_440 rfl ?_
    refine go_iconst (v := 3) hF d_La_law_442 (by decide) ?_
    refine go_iadd hF d_La_law_443 ?_
    refine gs_sld hF hX hbl d_La_law_444 (ix1 (k := 3) (n := i) rfl) (by omega) (by omega) ?_
    refine go_i2l hF d_La_law_445 ?_
    refine go_ldc2 hF kl_La_101 d_La_law_446 ?_
    refine go_land hF d_La_law_449 ?_
    refine go_lor hF d_La_law_450 ?_
    refine go_aload_n hF d_La_law_451 rfl ?_
    refine go_iload hF d_La_law_452 rfl ?_
    refine go_iconst (v := 4) hF d_La_law_454 (by decide) ?_
    refine go_iadd hF d_La_law_455 ?_
    refine gs_sld hF hX hbl d_La_law_456 (ix1 (k := 4) (n := i) rfl) (by omega) (by omega) ?_
    refine go_aload_n hF d_La_law_457 rfl ?_
    refine go_callSW hF hE hlo d_La_law_458 (con_La_drive hlt hb ho h2 h3 ok (xs (i + 1)) (lg2 (xs (i + 2)) (xs (i + 3))) (xs (i + 4))) mw_La_drive ms_La_drive lk_La_103 ⟨rfl, rfl, by decide, by decide⟩ rfl (Nat.le_of_ble_eq_true rfl) ⟨by show _ ≤ 601024; omega, by show _ ≤ 7293034; omega⟩ (fun M => gx_no) rfl (fun v => ?_)
    refine go_and (fun hv => ?_)
    subst hv
    refine go_G (G' := gw E B N (sL (apX w 0 (xs (i + 1)) (lg2 (xs (i + 2)) (xs (i + 3))) (xs (i + 4))) 3 0 0 0 0 (wI w 0 0 4 0 0 + 1).toInt64)) (fun H hG => hG.elim (fun z => z.2) (fun z => absurd hT0 z.1)) ?_
    refine go_G (G' := gw E B N (mW (sL (apX w 0 (xs (i + 1)) (lg2 (xs (i + 2)) (xs (i + 3))) (xs (i + 4))) 3 0 0 0 0 (wI w 0 0 4 0 0 + 1).toInt64) (mS w))) (fun H hG => by rw [mW_qb1 (qb_ap w _ _ _ _)]; exact hG) ?_
    refine go_istore hF d_La_law_461 (by decide) ?_
    refine go_lv (lv' := [(0, _), (1, _), (2, _), (3, _), (4, _), (5, _)]) ⟨rfl, rfl, rfl, rfl, rfl, rfl, trivial⟩ ?_
    refine go_aload_n hF d_La_law_463 rfl ?_
    refine go_aload_n hF d_La_law_464 rfl ?_
    refine go_iload hF d_La_law_465 rfl ?_
    refine go_iconst (v := 1) hF d_La_law_467 (by decide) ?_
    refine go_iadd hF d_La_law_468 ?_
    refine gs_sld hF hX hbl d_La_law_469 (ix1 (k := 1) (n := i) rfl) (by omega) (by omega) ?_
    refine go_aload_n hF d_La_law_470 rfl ?_
    refine go_iload hF d_La_law_471 rfl ?_
    refine go_iconst (v := 2) hF d_La_law_473 (by decide) ?_
    refine go_iadd hF d_La_law_474 ?_
    refine gs_sld hF hX hbl d_La_law_475 (ix1 (k := 2) (n := i) rfl) (by omega) (by omega) ?_
    refine go_i2l hF d_La_law_476 ?_
    refine go_bipush (v := 32) hF d_La_law_477 (by decide) ?_
    refine go_lshl hF d_La_law_479 ?_
    refine go_aload_n hF d_La_law_480 rfl ?_
    refine go_iload hF d_La_law_481 rfl ?_
    refine go_iconst (v := 3) hF d_La_law_483 (by decide) ?_
    refine go_iadd hF d_La_law_484 ?_
    refine gs_sld hF hX hbl d_La_law_485 (ix1 (k := 3) (n := i) rfl) (by omega) (by omega) ?_
    refine go_i2l hF d_La_law_486 ?_
    refine go_ldc2 hF kl_La_101 d_La_law_487 ?_
    refine go_land hF d_La_law_490 ?_
    refine go_lor hF d_La_law_491 ?_
    refine go_aload_n hF d_La_law_492 rfl ?_
    refine go_iload hF d_La_law_493 rfl ?_
    refine go_iconst (v := 4) hF d_La_law_495 (by decide) ?_
    refine go_iadd hF d_La_law_496 ?_
    refine gs_sld hF hX hbl d_La_law_497 (ix1 (k := 4) (n := i) rfl) (by omega) (by omega) ?_
    refine go_callVX hF hE hlo d_La_law_498 (con_Mo_drive (w := (sL (apX w 0 (xs (i + 1)) (lg2 (xs (i + 2)) (xs (i + 3))) (xs (i + 4))) 3 0 0 0 0 (wI w 0 0 4 0 0 + 1).toInt64)) (f := mS w) (c := w) (K := K) (N := N) (t := (lg2 (xs (i + 2)) (xs (i + 3)))) hlt h4 (by omega) hR) mt_Mo_drive mv_Mo_drive lk_La_106 ⟨rfl, rfl, by decide, by decide⟩ rfl (Nat.le_of_ble_eq_true rfl) ⟨by show _ ≤ 601024; omega, by show _ ≤ 7293034; omega⟩ (fun H hG => gw_recv (q := (R_Mo, T_Mo, 9)) hK hG h4 rfl rfl (by decide) rfl) (fun M => gx_no) rfl (fun v => ?_)
    refine go_ex (fun f2 => ?_)
    refine go_ex (fun b9 => ?_)
    refine go_and (fun hv => ?_)
    subst hv
    refine go_and (fun g1 => ?_)
    refine go_and (fun g2 => ?_)
    obtain ⟨rfl, hR2⟩ := g1 hT0
    refine go_istore hF d_La_law_501 (by decide) ?_
    refine go_lv (lv' := [(0, _), (1, _), (2, _), (3, _), (4, _), (5, _), (6, _)]) ⟨rfl, rfl, rfl, rfl, rfl, rfl, rfl, trivial⟩ ?_
    refine go_aload_n hF d_La_law_503 rfl ?_
    refine go_callVX hF hE hlo d_La_law_504 (con_Mo_thrown (w := sI (sL (apX w 0 (xs (i + 1)) (lg2 (xs (i + 2)) (xs (i + 3))) (xs (i + 4))) 3 0 0 0 0 (wI w 0 0 4 0 0 + 1).toInt64) 4 0 0 0 0 (tH w (xs (i + 1)) (lg2 (xs (i + 2)) (xs (i + 3))) (xs (i + 4)))) (f := f2) (N := N) hlt h4) mt_Mo_thrown mv_Mo_thrown lk_La_86 ⟨rfl, rfl, by decide, by decide⟩ rfl (Nat.le_of_ble_eq_true rfl) ⟨by show _ ≤ 601024; omega, by show _ ≤ 7293034; omega⟩ (fun H hG => gw_recv (q := (R_Mo, T_Mo, 9)) hK hG h4 rfl rfl (by decide) rfl) (fun M => gx_no) rfl (fun v => ?_)
    refine go_and (fun hv => ?_)
    subst hv
    rw [thr_0]
    refine go_iload hF d_La_law_507 rfl ?_
    refine go_icmp_eq (tgt := 514) hF d_La_law_509 (by decide) (fun h509 => ?_) (fun h509 => ?_)
    · refine go_iload hF d_La_law_514 rfl ?_
      refine go_if_ne (tgt := 531) hF d_La_law_516 (by decide) (fun h516 => ?_) (fun h516 => ?_)
      · exact absurd hT0 h516
      · refine go_aload_n hF d_La_law_519 rfl ?_
        refine go_iconst (v := 0) hF d_La_law_520 (by decide) ?_
        refine gs_lald hF hK hT d_La_law_521 h3 rfl rfl (show (0 : Int32) = nI 0 from rfl) (by decide) (by decide) ?_
        rw [out_v]
        refine go_iload hF d_La_law_522 rfl ?_
        refine go_i2l hF d_La_law_524 ?_
        refine go_lif_eq (tgt := 531) hF d_La_law_525 d_La_law_526 (by decide) (fun h525 => ?_) (fun h525 => ?_)
        · refine go_goto (tgt := 1481) hF d_La_law_531 (by decide) ?_
          refine go_lv (lv' := [(0, _), (1, _), (2, _), (3, _), (4, _)]) ⟨rfl, rfl, rfl, rfl, rfl, trivial⟩ ?_
          refine go_wd (k' := k + 89) (n' := n + 2891) (by omega) (by omega) ?_
          exact hC B N _ s (LI_K (K := K + 1) (by omega) (LI_nx h rfl rfl (wP_1 (qb_ap w _ _ _ _)) (LIp_1 hp (by omega) (qb_ap w _ _ _ _) hR2)))
        · exact absurd rfl h525
    · exact absurd rfl h509
  · refine go_aload_n hF d_La_law_422 rfl ?_
    refine go_aload_n hF d_La_law_423 rfl ?_
    refine go_iload hF d_La_law_424 rfl ?_
    refine go_iconst (v := 1) hF d_La_law_426 (by decide) ?_
    refine go_iadd hF d_La_law_427 ?_
    refine gs_sld hF hX hbl d_La_law_428 (ix1 (k := 1) (n := i) rfl) (by omega) (by omega) ?_
    refine go_aload_n hF d_La_law_429 rfl ?_
    refine go_iload hF d_La_law_430 rfl ?_
    refine go_iconst (v := 2) hF d_La_law_432 (by decide) ?_
    refine go_iadd hF d_La_law_433 ?_
    refine gs_sld hF hX hbl d_La_law_434 (ix1 (k := 2) (n := i) rfl) (by omega) (by omega) ?_
    refine go_i2l hF d_La_law_435 ?_
    refine go_bipush (v := 32) hF d_La_law_436 (by decide) ?_
    refine go_lshl hF d_La_law_438 ?_
    refine go_aload_n hF d_La_law_439 rfl ?_
    refine go_iload hF d_La_law_440 rfl ?_
    refine go_iconst (v := 3) hF d_La_law_442 (by decide) ?_
    refine go_iadd hF d_La_law_443 ?_
    refine gs_sld hF hX hbl d_La_law_444 (ix1 (k := 3) (n := i) rfl) (by omega) (by omega) ?_
    refine go_i2l hF d_La_law_445 ?_
    refine go_ldc2 hF kl_La_101 d_La_law_446 ?_
    refine go_land hF d_La_law_449 ?_
    refine go_lor hF d_La_law_450 ?_
    refine go_aload_n hF d_La_law_451 rfl ?_
    refine go_iload hF d_La_law_452 rfl ?_
    refine go_iconst (v := 4) hF d_La_law_454 (by decide) ?_
    refine go_iadd hF d_La_law_455 ?_
    refine gs_sld hF hX hbl d_La_law_456 (ix1 (k := 4) (n := i) rfl) (by omega) (by omega) ?_
    refine go_aload_n hF d_La_law_457 rfl ?_
    refine go_callSW hF hE hlo d_La_law_458 (con_La_drive hlt hb ho h2 h3 ok (xs (i + 1)) (lg2 (xs (i + 2)) (xs (i + 3))) (xs (i + 4))) mw_La_drive ms_La_drive lk_La_103 ⟨rfl, rfl, by decide, by decide⟩ rfl (Nat.le_of_ble_eq_true rfl) ⟨by show _ ≤ 601024; omega, by show _ ≤ 7293034; omega⟩ (fun M => gx_no) rfl (fun v => ?_)
    refine go_and (fun hv => ?_)
    subst hv
    refine go_G (G' := gw E B (nx1 N) w) (fun H hG => hG.elim (fun z => absurd z.1 hT0) (fun z => z.2)) ?_
    refine go_G (G' := gw E B (nx1 N) (mW w (mS w))) (fun H hG => by rw [mW_w]; exact hG) ?_
    refine go_istore hF d_La_law_461 (by decide) ?_
    refine go_lv (lv' := [(0, _), (1, _), (2, _), (3, _), (4, _), (5, _)]) ⟨rfl, rfl, rfl, rfl, rfl, rfl, trivial⟩ ?_
    refine go_aload_n hF d_La_law_463 rfl ?_
    refine go_aload_n hF d_La_law_464 rfl ?_
    refine go_iload hF d_La_law_465 rfl ?_
    refine go_iconst (v := 1) hF d_La_law_467 (by decide) ?_
    refine go_iadd hF d_La_law_468 ?_
    refine gs_sld hF hX hbl d_La_law_469 (ix1 (k := 1) (n := i) rfl) (by omega) (by omega) ?_
    refine go_aload_n hF d_La_law_470 rfl ?_
    refine go_iload hF d_La_law_471 rfl ?_
    refine go_iconst (v := 2) hF d_La_law_473 (by decide) ?_
    refine go_iadd hF d_La_law_474 ?_
    refine gs_sld hF hX hbl d_La_law_475 (ix1 (k := 2) (n := i) rfl) (by omega) (by omega) ?_
    refine go_i2l hF d_La_law_476 ?_
    refine go_bipush (v := 32) hF d_La_law_477 (by decide) ?_
    refine go_lshl hF d_La_law_479 ?_
    refine go_aload_n hF d_La_law_480 rfl ?_
    refine go_iload hF d_La_law_481 rfl ?_
    refine go_iconst (v := 3) hF d_La_law_483 (by decide) ?_
    refine go_iadd hF d_La_law_484 ?_
    refine gs_sld hF hX hbl d_La_law_485 (ix1 (k := 3) (n := i) rfl) (by omega) (by omega) ?_
    refine go_i2l hF d_La_law_486 ?_
    refine go_ldc2 hF kl_La_101 d_La_law_487 ?_
    refine go_land hF d_La_law_490 ?_
    refine go_lor hF d_La_law_491 ?_
    refine go_aload_n hF d_La_law_492 rfl ?_
    refine go_iload hF d_La_law_493 rfl ?_
    refine go_iconst (v := 4) hF d_La_law_495 (by decide) ?_
    refine go_iadd hF d_La_law_496 ?_
    refine gs_sld hF hX hbl d_La_law_497 (ix1 (k := 4) (n := i) rfl) (by omega) (by omega) ?_
    refine go_callVX hF hE hlo d_La_law_498 (con_Mo_drive (w := w) (f := mS w) (c := w) (K := K) (N := (nx1 N)) (t := (lg2 (xs (i + 2)) (xs (i + 3)))) hlt h4 (by omega) hR) mt_Mo_drive mv_Mo_drive lk_La_106 ⟨rfl, rfl, by decide, by decide⟩ rfl (Nat.le_of_ble_eq_true rfl) ⟨by show _ ≤ 601024; omega, by show _ ≤ 7293034; omega⟩ (fun H hG => gw_recv (q := (R_Mo, T_Mo, 9)) hK hG h4 rfl rfl (by decide) rfl) (fun M => gx_no) rfl (fun v => ?_)
    refine go_ex (fun f2 => ?_)
    refine go_ex (fun b9 => ?_)
    refine go_and (fun hv => ?_)
    subst hv
    refine go_and (fun g1 => ?_)
    refine go_and (fun g2 => ?_)
    have hf2 := g2 hT0
    subst hf2
    refine go_istore hF d_La_law_501 (by decide) ?_
    refine go_lv (lv' := [(0, _), (1, _), (2, _), (3, _), (4, _), (5, _), (6, _)]) ⟨rfl, rfl, rfl, rfl, rfl, rfl, rfl, trivial⟩ ?_
    refine go_aload_n hF d_La_law_503 rfl ?_
    refine go_callVX hF hE hlo d_La_law_504 (con_Mo_thrown (w := sI w 4 0 0 0 0 (tH w (xs (i + 1)) (lg2 (xs (i + 2)) (xs (i + 3))) (xs (i + 4)))) (f := (mS w)) (N := (nx1 N)) hlt h4) mt_Mo_thrown mv_Mo_thrown lk_La_86 ⟨rfl, rfl, by decide, by decide⟩ rfl (Nat.le_of_ble_eq_true rfl) ⟨by show _ ≤ 601024; omega, by show _ ≤ 7293034; omega⟩ (fun H hG => gw_recv (q := (R_Mo, T_Mo, 9)) hK hG h4 rfl rfl (by decide) rfl) (fun M => gx_no) rfl (fun v => ?_)
    refine go_and (fun hv => ?_)
    subst hv
    rw [thr_0]
    refine go_iload hF d_La_law_507 rfl ?_
    refine go_icmp_eq (tgt := 514) hF d_La_law_509 (by decide) (fun h509 => ?_) (fun h509 => ?_)
    · refine go_iload hF d_La_law_514 rfl ?_
      refine go_if_ne (tgt := 531) hF d_La_law_516 (by decide) (fun h516 => ?_) (fun h516 => ?_)
      · refine go_goto (tgt := 1481) hF d_La_law_531 (by decide) ?_
        refine go_lv (lv' := [(0, _), (1, _), (2, _), (3, _), (4, _)]) ⟨rfl, rfl, rfl, rfl, rfl, trivial⟩ ?_
        refine go_wd (k' := k + 89) (n' := n + 2891) (by omega) (by omega) ?_
        exact hC B (nx1 N) _ s (LI_K (K := K) (by omega) (LI_nx h rfl rfl (wP_0 (qb_rf w)) (LIp_0 hp (Nat.le_refl K) (qb_rf w) hR)))
      · exact absurd h516 hT0
    · exact absurd rfl h509
set_option maxHeartbeats 4000000 in
set_option maxRecDepth 100000 in
theorem law_force {F : gT} {E : gE} {B : bsT} {N : nwT} {w : wdT} (hF : Fb F c_La_law R_La 8 room_1) (hE : en E (gs F)) (hlo : gLo F = E.2.2.size) (hlt : (gl F).stackTraces = false) {b L : Nat} {xs : Nat → Int32} (hX : va_X b L xs (gs F) E.2.2) (hbl : b < E.2.2.size) (hL : L ≤ 2560) {i K k n s : Nat} (hi : i + 5 ≤ L) (hKK : K + 150 < 1000000000) (hk : k + 89 ≤ 601024) (hn : n + 2891 ≤ 7293034) (h : LI K B N w s)
    (hC : ∀ (B' : bsT) (N' : nwT) (w' : wdT) (s' : Nat), LI (K + 150) B' N' w' s' → Go F 1481 [(0, .ref b), (1, .ref (ad B' 1 0 0 0)), (2, .ref (ad B' 4 0 0 0)), (3, .ref (ad B' 3 0 0 0)), (4, .int (nI i))] [] (gw E B' N' w') (k + 89) (n + 2891)) : Go F 534 [(0, .ref b), (1, .ref (ad B 1 0 0 0)), (2, .ref (ad B 4 0 0 0)), (3, .ref (ad B 3 0 0 0)), (4, .int (nI i))] [] (gw E B N w) k n := by
  have hK := hE.1
  have hT := hE.2.1
  obtain ⟨⟨ho, hb, h2, h3, h4⟩, hp, hsv, hon, hoff, h5, hO⟩ := id h
  have hR := hp.1
  have ok := hR.1
  by_cases hT0 : tH w (xs (i + 1)) (lg2 (xs (i + 2)) (xs (i + 3))) (xs (i + 4)) = 0
  · refine go_aload_n hF d_La_law_534 rfl ?_
    refine go_aload_n hF d_La_law_535 rfl ?_
    refine go_iload hF d_La_law_536 rfl ?_
    refine go_iconst (v := 1) hF d_La_law_538 (by decide) ?_
    refine go_iadd hF d_La_law_539 ?_
    refine gs_sld hF hX hbl d_La_law_540 (ix1 (k := 1) (n := i) rfl) (by omega) (by omega) ?_
    refine go_aload_n hF d_La_law_541 rfl ?_
    refine go_iload hF d_La_law_542 rfl ?_
    refine go_iconst (v := 2) hF d_La_law_544 (by decide) ?_
    refine go_iadd hF d_La_law_545 ?_
    refine gs_sld hF hX hbl d_La_law_546 (ix1 (k := 2) (n := i) rfl) (by omega) (by omega) ?_
    refine go_i2l hF d_La_law_547 ?_
    refine go_bipush (v := 32) hF d_La_law_548 (by decide) ?_
    refine go_lshl hF d_La_law_550 ?_
    refine go_aload_n hF d_La_law_551 rfl ?_
    refine go_iload hF d_La_law_552 rfl ?_
    refine go_iconst (v := 3) hF d_La_law_554 (by decide) ?_
    refine go_iadd hF d_La_law_555 ?_
    refine gs_sld hF hX hbl d_La_law_556 (ix1 (k := 3) (n := i) rfl) (by omega) (by omega) ?_
    refine go_i2l hF d_La_law_557 ?_
    refine go_ldc2 hF kl_La_101 d_La_law_558 ?_
    refine go_land hF d_La_law_561 ?_
    refine go_lor hF d_La_law_562 ?_
    refine go_aload_n hF d_La_law_563 rfl ?_
    refine go_iload hF d_La_law_564 rfl ?_
    refine go_iconst (v := 4) hF d_La_law_566 (by decide) ?_
    refine go_iadd hF d_La_law_567 ?_
    refine gs_sld hF hX hbl d_La_law_568 (ix1 (k := 4) (n := i) rfl) (by omega) (by omega) ?_
    refine go_aload_n hF d_La_law_569 rfl ?_
    refine go_callSW hF hE hlo d_La_law_570 (con_La_force hlt hb ho h2 h3 ok (xs (i + 1)) (lg2 (xs (i + 2)) (xs (i + 3))) (xs (i + 4))) mw_La_force ms_La_force lk_La_107 ⟨rfl, rfl, by decide, by decide⟩ rfl (Nat.le_of_ble_eq_true rfl) ⟨by show _ ≤ 601024; omega, by show _ ≤ 7293034; omega⟩ (fun M => gx_no) rfl (fun v => ?_)
    refine go_and (fun hv => ?_)
    subst hv
    refine go_G (G' := gw E B N (sL (apX w 1 (xs (i + 1)) (lg2 (xs (i + 2)) (xs (i + 3))) (xs (i + 4))) 3 0 0 0 0 (wI w 0 0 4 0 0 + 1).toInt64)) (fun H hG => hG.elim (fun z => z.2) (fun z => absurd hT0 z.1)) ?_
    refine go_G (G' := gw E B N (mW (sL (apX w 1 (xs (i + 1)) (lg2 (xs (i + 2)) (xs (i + 3))) (xs (i + 4))) 3 0 0 0 0 (wI w 0 0 4 0 0 + 1).toInt64) (mS w))) (fun H hG => by rw [mW_qb1 (qb_ap w _ _ _ _)]; exact hG) ?_
    refine go_istore hF d_La_law_573 (by decide) ?_
    refine go_lv (lv' := [(0, _), (1, _), (2, _), (3, _), (4, _), (5, _)]) ⟨rfl, rfl, rfl, rfl, rfl, rfl, trivial⟩ ?_
    refine go_aload_n hF d_La_law_575 rfl ?_
    refine go_aload_n hF d_La_law_576 rfl ?_
    refine go_iload hF d_La_law_577 rfl ?_
    refine go_iconst (v := 1) hF d_La_law_579 (by decide) ?_
    refine go_iadd hF d_La_law_580 ?_
    refine gs_sld hF hX hbl d_La_law_581 (ix1 (k := 1) (n := i) rfl) (by omega) (by omega) ?_
    refine go_aload_n hF d_La_law_582 rfl ?_
    refine go_iload hF d_La_law_583 rfl ?_
    refine go_iconst (v := 2) hF d_La_law_585 (by decide) ?_
    refine go_iadd hF d_La_law_586 ?_
    refine gs_sld hF hX hbl d_La_law_587 (ix1 (k := 2) (n := i) rfl) (by omega) (by omega) ?_
    refine go_i2l hF d_La_law_588 ?_
    refine go_bipush (v := 32) hF d_La_law_589 (by decide) ?_
    refine go_lshl hF d_La_law_591 ?_
    refine go_aload_n hF d_La_law_592 rfl ?_
    refine go_iload hF d_La_law_593 rfl ?_
    refine go_iconst (v := 3) hF d_La_law_595 (by decide) ?_
    refine go_iadd hF d_La_law_596 ?_
    refine gs_sld hF hX hbl d_La_law_597 (ix1 (k := 3) (n := i) rfl) (by omega) (by omega) ?_
    refine go_i2l hF d_La_law_598 ?_
    refine go_ldc2 hF kl_La_101 d_La_law_599 ?_
    refine go_land hF d_La_law_602 ?_
    refine go_lor hF d_La_law_603 ?_
    refine go_aload_n hF d_La_law_604 rfl ?_
    refine go_iload hF d_La_law_605 rfl ?_
    refine go_iconst (v := 4) hF d_La_law_607 (by decide) ?_
    refine go_iadd hF d_La_law_608 ?_
    refine gs_sld hF hX hbl d_La_law_609 (ix1 (k := 4) (n := i) rfl) (by omega) (by omega) ?_
    refine go_callVX hF hE hlo d_La_law_610 (con_Mo_force (w := (sL (apX w 1 (xs (i + 1)) (lg2 (xs (i + 2)) (xs (i + 3))) (xs (i + 4))) 3 0 0 0 0 (wI w 0 0 4 0 0 + 1).toInt64)) (f := mS w) (c := w) (K := K) (N := N) (t := (lg2 (xs (i + 2)) (xs (i + 3)))) hlt h4 (by omega) hR) mt_Mo_force mv_Mo_force lk_La_109 ⟨rfl, rfl, by decide, by decide⟩ rfl (Nat.le_of_ble_eq_true rfl) ⟨by show _ ≤ 601024; omega, by show _ ≤ 7293034; omega⟩ (fun H hG => gw_recv (q := (R_Mo, T_Mo, 9)) hK hG h4 rfl rfl (by decide) rfl) (fun M => gx_no) rfl (fun v => ?_)
    refine go_ex (fun f2 => ?_)
    refine go_ex (fun b9 => ?_)
    refine go_and (fun hv => ?_)
    subst hv
    refine go_and (fun g1 => ?_)
    refine go_and (fun g2 => ?_)
    obtain ⟨rfl, hR2⟩ := g1 hT0
    refine go_istore hF d_La_law_613 (by decide) ?_
    refine go_lv (lv' := [(0, _), (1, _), (2, _), (3, _), (4, _), (5, _), (6, _)]) ⟨rfl, rfl, rfl, rfl, rfl, rfl, rfl, trivial⟩ ?_
    refine go_aload_n hF d_La_law_615 rfl ?_
    refine go_callVX hF hE hlo d_La_law_616 (con_Mo_thrown (w := sI (sL (apX w 1 (xs (i + 1)) (lg2 (xs (i + 2)) (xs (i + 3))) (xs (i + 4))) 3 0 0 0 0 (wI w 0 0 4 0 0 + 1).toInt64) 4 0 0 0 0 (tH w (xs (i + 1)) (lg2 (xs (i + 2)) (xs (i + 3))) (xs (i + 4)))) (f := f2) (N := N) hlt h4) mt_Mo_thrown mv_Mo_thrown lk_La_86 ⟨rfl, rfl, by decide, by decide⟩ rfl (Nat.le_of_ble_eq_true rfl) ⟨by show _ ≤ 601024; omega, by show _ ≤ 7293034; omega⟩ (fun H hG => gw_recv (q := (R_Mo, T_Mo, 9)) hK hG h4 rfl rfl (by decide) rfl) (fun M => gx_no) rfl (fun v => ?_)
    refine go_and (fun hv => ?_)
    subst hv
    rw [thr_0]
    refine go_iload hF d_La_law_619 rfl ?_
    refine go_icmp_eq (tgt := 626) hF d_La_law_621 (by decide) (fun h621 => ?_) (fun h621 => ?_)
    · refine go_iload hF d_La_law_626 rfl ?_
      refine go_if_ne (tgt := 643) hF d_La_law_628 (by decide) (fun h628 => ?_) (fun h628 => ?_)
      · exact absurd hT0 h628
      · refine go_aload_n hF d_La_law_631 rfl ?_
        refine go_iconst (v := 0) hF d_La_law_632 (by decide) ?_
        refine gs_lald hF hK hT d_La_law_633 h3 rfl rfl (show (0 : Int32) = nI 0 from rfl) (by decide) (by decide) ?_
        rw [out_v]
        refine go_iload hF d_La_law_634 rfl ?_
        refine go_i2l hF d_La_law_636 ?_
        refine go_lif_eq (tgt := 643) hF d_La_law_637 d_La_law_638 (by decide) (fun h637 => ?_) (fun h637 => ?_)
        · refine go_goto (tgt := 1481) hF d_La_law_643 (by decide) ?_
          refine go_lv (lv' := [(0, _), (1, _), (2, _), (3, _), (4, _)]) ⟨rfl, rfl, rfl, rfl, rfl, trivial⟩ ?_
          refine go_wd (k' := k + 89) (n' := n + 2891) (by omega) (by omega) ?_
          exact hC B N _ s (LI_K (K := K + 1) (by omega) (LI_nx h rfl rfl (wP_1 (qb_ap w _ _ _ _)) (LIp_1 hp (by omega) (qb_ap w _ _ _ _) hR2)))
        · exact absurd rfl h637
    · exact absurd rfl h621
  · refine go_aload_n hF d_La_law_534 rfl ?_
    refine go_aload_n hF d_La_law_535 rfl ?_
    refine go_iload hF d_La_law_536 rfl ?_
    refine go_iconst (v := 1) hF d_La_law_538 (by decide) ?_
    refine go_iadd hF d_La_law_539 ?_
    refine gs_sld hF hX hbl d_La_law_540 (ix1 (k := 1) (n := i) rfl) (by omega) (by omega) ?_
    refine go_aload_n hF d_La_law_541 rfl ?_
    refine go_iload hF d_La_law_542 rfl ?_
    refine go_iconst (v := 2) hF d_La_law_544 (by decide) ?_
    refine go_iadd hF d_La_law_545 ?_
    refine gs_sld hF hX hbl d_La_law_546 (ix1 (k := 2) (n := i) rfl) (by omega) (by omega) ?_
    refine go_i2l hF d_La_law_547 ?_
    refine go_bipush (v := 32) hF d_La_law_548 (by decide) ?_
    refine go_lshl hF d_La_law_550 ?_
    refine go_aload_n hF d_La_law_551 rfl ?_
    refine go_iload hF d_La_law_552 rfl ?_
    refine go_iconst (v := 3) hF d_La_law_554 (by decide) ?_
    refine go_iadd hF d_La_law_555 ?_
    refine gs_sld hF hX hbl d_La_law_556 (ix1 (k := 3) (n := i) rfl) (by omega) (by omega) ?_
    refine go_i2l hF d_La_law_557 ?_
    refine go_ldc2 hF kl_La_101 d_La_law_558 ?_
    refine go_land hF d_La_law_561 ?_
    refine go_lor hF d_La_law_562 ?_
    refine go_aload_n hF d_La_law_563 rfl ?_
    refine go_iload hF d_La_law_564 rfl ?_
    refine go_iconst (v := 4) hF d_La_law_566 (by decide) ?_
    refine go_iadd hF d_La_law_567 ?_
    refine gs_sld hF hX hbl d_La_law_568 (ix1 (k := 4) (n := i) rfl) (by omega) (by omega) ?_
    refine go_aload_n hF d_La_law_569 rfl ?_
    refine go_callSW hF hE hlo d_La_law_570 (con_La_force hlt hb ho h2 h3 ok (xs (i + 1)) (lg2 (xs (i + 2)) (xs (i + 3))) (xs (i + 4))) mw_La_force ms_La_force lk_La_107 ⟨rfl, rfl, by decide, by decide⟩ rfl (Nat.le_of_ble_eq_true rfl) ⟨by show _ ≤ 601024; omega, by show _ ≤ 7293034; omega⟩ (fun M => gx_no) rfl (fun v => ?_)
    refine go_and (fun hv => ?_)
    subst hv
    refine go_G (G' := gw E B (nx1 N) w) (fun H hG => hG.elim (fun z => absurd z.1 hT0) (fun z => z.2)) ?_
    refine go_G (G' := gw E B (nx1 N) (mW w (mS w))) (fun H hG => by rw [mW_w]; exact hG) ?_
    refine go_istore hF d_La_law_573 (by decide) ?_
    refine go_lv (lv' := [(0, _), (1, _), (2, _), (3, _), (4, _), (5, _)]) ⟨rfl, rfl, rfl, rfl, rfl, rfl, trivial⟩ ?_
    refine go_aload_n hF d_La_law_575 rfl ?_
    refine go_aload_n hF d_La_law_576 rfl ?_
    refine go_iload hF d_La_law_577 rfl ?_
    refine go_iconst (v := 1) hF d_La_law_579 (by decide) ?_
    refine go_iadd hF d_La_law_580 ?_
    refine gs_sld hF hX hbl d_La_law_581 (ix1 (k := 1) (n := i) rfl) (by omega) (by omega) ?_
    refine go_aload_n hF d_La_law_582 rfl ?_
    refine go_iload hF d_La_law_583 rfl ?_
    refine go_iconst (v := 2) hF d_La_law_585 (by decide) ?_
    refine go_iadd hF d_La_law_586 ?_
    refine gs_sld hF hX hbl d_La_law_587 (ix1 (k := 2) (n := i) rfl) (by omega) (by omega) ?_
    refine go_i2l hF d_La_law_588 ?_
    refine go_bipush (v := 32) hF d_La_law_589 (by decide) ?_
    refine go_lshl hF d_La_law_591 ?_
    refine go_aload_n hF d_La_law_592 rfl ?_
    refine go_iload hF d_La_law_593 rfl ?_
    refine go_iconst (v := 3) hF d_La_law_595 (by decide) ?_
    refine go_iadd hF d_La_law_596 ?_
    refine gs_sld hF hX hbl d_La_law_597 (ix1 (k := 3) (n := i) rfl) (by omega) (by omega) ?_
    refine go_i2l hF d_La_law_598 ?_
    refine go_ldc2 hF kl_La_101 d_La_law_599 ?_
    refine go_land hF d_La_law_602 ?_
    refine go_lor hF d_La_law_603 ?_
    refine go_aload_n hF d_La_law_604 rfl ?_
    refine go_iload hF d_La_law_605 rfl ?_
    refine go_iconst (v := 4) hF d_La_law_607 (by decide) ?_
    refine go_iadd hF d_La_law_608 ?_
    refine gs_sld hF hX hbl d_La_law_609 (ix1 (k := 4) (n := i) rfl) (by omega) (by omega) ?_
    refine go_callVX hF hE hlo d_La_law_610 (con_Mo_force (w := w) (f := mS w) (c := w) (K := K) (N := (nx1 N)) (t := (lg2 (xs (i + 2)) (xs (i + 3)))) hlt h4 (by omega) hR) mt_Mo_force mv_Mo_force lk_La_109 ⟨rfl, rfl, by decide, by decide⟩ rfl (Nat.le_of_ble_eq_true rfl) ⟨by show _ ≤ 601024; omega, by show _ ≤ 7293034; omega⟩ (fun H hG => gw_recv (q := (R_Mo, T_Mo, 9)) hK hG h4 rfl rfl (by decide) rfl) (fun M => gx_no) rfl (fun v => ?_)
    refine go_ex (fun f2 => ?_)
    refine go_ex (fun b9 => ?_)
    refine go_and (fun hv => ?_)
    subst hv
    refine go_and (fun g1 => ?_)
    refine go_and (fun g2 => ?_)
    have hf2 := g2 hT0
    subst hf2
    refine go_istore hF d_La_law_613 (by decide) ?_
    refine go_lv (lv' := [(0, _), (1, _), (2, _), (3, _), (4, _), (5, _), (6, _)]) ⟨rfl, rfl, rfl, rfl, rfl, rfl, rfl, trivial⟩ ?_
    refine go_aload_n hF d_La_law_615 rfl ?_
    refine go_callVX hF hE hlo d_La_law_616 (con_Mo_thrown (w := sI w 4 0 0 0 0 (tH w (xs (i + 1)) (lg2 (xs (i + 2)) (xs (i + 3))) (xs (i + 4)))) (f := (mS w)) (N := (nx1 N)) hlt h4) mt_Mo_thrown mv_Mo_thrown lk_La_86 ⟨rfl, rfl, by decide, by decide⟩ rfl (Nat.le_of_ble_eq_true rfl) ⟨by show _ ≤ 601024; omega, by show _ ≤ 7293034; omega⟩ (fun H hG => gw_recv (q := (R_Mo, T_Mo, 9)) hK hG h4 rfl rfl (by decide) rfl) (fun M => gx_no) rfl (fun v => ?_)
    refine go_and (fun hv => ?_)
    subst hv
    rw [thr_0]
    refine go_iload hF d_La_law_619 rfl ?_
    refine go_icmp_eq (tgt := 626) hF d_La_law_621 (by decide) (fun h621 => ?_) (fun h621 => ?_)
    · refine go_iload hF d_La_law_626 rfl ?_
      refine go_if_ne (tgt := 643) hF d_La_law_628 (by decide) (fun h628 => ?_) (fun h628 => ?_)
      · refine go_goto (tgt := 1481) hF d_La_law_643 (by decide) ?_
        refine go_lv (lv' := [(0, _), (1, _), (2, _), (3, _), (4, _)]) ⟨rfl, rfl, rfl, rfl, rfl, trivial⟩ ?_
        refine go_wd (k' := k + 89) (n' := n + 2891) (by omega) (by omega) ?_
        exact hC B (nx1 N) _ s (LI_K (K := K) (by omega) (LI_nx h rfl rfl (wP_0 (qb_rf w)) (LIp_0 hp (Nat.le_refl K) (qb_rf w) hR)))
      · exact absurd h628 hT0
    · exact absurd rfl h621
set_option maxHeartbeats 4000000 in
set_option maxRecDepth 100000 in
theorem law_release {F : gT} {E : gE} {B : bsT} {N : nwT} {w : wdT} (hF : Fb F c_La_law R_La 8 room_1) (hE : en E (gs F)) (hlo : gLo F = E.2.2.size) (hlt : (gl F).stackTraces = false) {b L : Nat} {xs : Nat → Int32} (hX : va_X b L xs (gs F) E.2.2) (hbl : b < E.2.2.size) (hL : L ≤ 2560) {i K k n s : Nat} (hi : i + 5 ≤ L) (hKK : K + 150 < 1000000000) (hk : k + 89 ≤ 601024) (hn : n + 2891 ≤ 7293034) (h : LI K B N w s)
    (hC : ∀ (B' : bsT) (N' : nwT) (w' : wdT) (s' : Nat), LI (K + 150) B' N' w' s' → Go F 1481 [(0, .ref b), (1, .ref (ad B' 1 0 0 0)), (2, .ref (ad B' 4 0 0 0)), (3, .ref (ad B' 3 0 0 0)), (4, .int (nI i))] [] (gw E B' N' w') (k + 89) (n + 2891)) : Go F 646 [(0, .ref b), (1, .ref (ad B 1 0 0 0)), (2, .ref (ad B 4 0 0 0)), (3, .ref (ad B 3 0 0 0)), (4, .int (nI i))] [] (gw E B N w) k n := by
  have hK := hE.1
  have hT := hE.2.1
  obtain ⟨⟨ho, hb, h2, h3, h4⟩, hp, hsv, hon, hoff, h5, hO⟩ := id h
  have hR := hp.1
  have ok := hR.1
  by_cases hT0 : tH w (xs (i + 1)) (lg2 (xs (i + 2)) (xs (i + 3))) 3 = 0
  · refine go_aload_n hF d_La_law_646 rfl ?_
    refine go_aload_n hF d_La_law_647 rfl ?_
    refine go_iload hF d_La_law_648 rfl ?_
    refine go_iconst (v := 1) hF d_La_law_650 (by decide) ?_
    refine go_iadd hF d_La_law_651 ?_
    refine gs_sld hF hX hbl d_La_law_652 (ix1 (k := 1) (n := i) rfl) (by omega) (by omega) ?_
    refine go_aload_n hF d_La_law_653 rfl ?_
    refine go_iload hF d_La_law_654 rfl ?_
    refine go_iconst (v := 2) hF d_La_law_656 (by decide) ?_
    refine go_iadd hF d_La_law_657 ?_
    refine gs_sld hF hX hbl d_La_law_658 (ix1 (k := 2) (n := i) rfl) (by omega) (by omega) ?_
    refine go_i2l hF d_La_law_659 ?_
    refine go_bipush (v := 32) hF d_La_law_660 (by decide) ?_
    refine go_lshl hF d_La_law_662 ?_
    refine go_aload_n hF d_La_law_663 rfl ?_
    refine go_iload hF d_La_law_664 rfl ?_
    refine go_iconst (v := 3) hF d_La_law_666 (by decide) ?_
    refine go_iadd hF d_La_law_667 ?_
    refine gs_sld hF hX hbl d_La_law_668 (ix1 (k := 3) (n := i) rfl) (by omega) (by omega) ?_
    refine go_i2l hF d_La_law_669 ?_
    refine go_ldc2 hF kl_La_101 d_La_law_670 ?_
    refine go_land hF d_La_law_673 ?_
    refine go_lor hF d_La_law_674 ?_
    refine go_aload_n hF d_La_law_675 rfl ?_
    refine go_callSW hF hE hlo d_La_law_676 (con_La_release hlt hb ho h2 h3 ok (xs (i + 1)) (lg2 (xs (i + 2)) (xs (i + 3)))) mw_La_release ms_La_release lk_La_110 ⟨rfl, rfl, by decide, by decide⟩ rfl (Nat.le_of_ble_eq_true rfl) ⟨by show _ ≤ 601024; omega, by show _ ≤ 7293034; omega⟩ (fun M => gx_no) rfl (fun v => ?_)
    refine go_and (fun hv => ?_)
    subst hv
    refine go_G (G' := gw E B N (sL (apX w 2 (xs (i + 1)) (lg2 (xs (i + 2)) (xs (i + 3))) 3) 3 0 0 0 0 (wI w 0 0 4 0 0 + 1).toInt64)) (fun H hG => hG.elim (fun z => z.2) (fun z => absurd hT0 z.1)) ?_
    refine go_G (G' := gw E B N (mW (sL (apX w 2 (xs (i + 1)) (lg2 (xs (i + 2)) (xs (i + 3))) 3) 3 0 0 0 0 (wI w 0 0 4 0 0 + 1).toInt64) (mS w))) (fun H hG => by rw [mW_qb1 (qb_ap w _ _ _ _)]; exact hG) ?_
    refine go_istore hF d_La_law_679 (by decide) ?_
    refine go_lv (lv' := [(0, _), (1, _), (2, _), (3, _), (4, _), (5, _)]) ⟨rfl, rfl, rfl, rfl, rfl, rfl, trivial⟩ ?_
    refine go_aload_n hF d_La_law_681 rfl ?_
    refine go_aload_n hF d_La_law_682 rfl ?_
    refine go_iload hF d_La_law_683 rfl ?_
    refine go_iconst (v := 1) hF d_La_law_685 (by decide) ?_
    refine go_iadd hF d_La_law_686 ?_
    refine gs_sld hF hX hbl d_La_law_687 (ix1 (k := 1) (n := i) rfl) (by omega) (by omega) ?_
    refine go_aload_n hF d_La_law_688 rfl ?_
    refine go_iload hF d_La_law_689 rfl ?_
    refine go_iconst (v := 2) hF d_La_law_691 (by decide) ?_
    refine go_iadd hF d_La_law_692 ?_
    refine gs_sld hF hX hbl d_La_law_693 (ix1 (k := 2) (n := i) rfl) (by omega) (by omega) ?_
    refine go_i2l hF d_La_law_694 ?_
    refine go_bipush (v := 32) hF d_La_law_695 (by decide) ?_
    refine go_lshl hF d_La_law_697 ?_
    refine go_aload_n hF d_La_law_698 rfl ?_
    refine go_iload hF d_La_law_699 rfl ?_
    refine go_iconst (v := 3) hF d_La_law_701 (by decide) ?_
    refine go_iadd hF d_La_law_702 ?_
    refine gs_sld hF hX hbl d_La_law_703 (ix1 (k := 3) (n := i) rfl) (by omega) (by omega) ?_
    refine go_i2l hF d_La_law_704 ?_
    refine go_ldc2 hF kl_La_101 d_La_law_705 ?_
    refine go_land hF d_La_law_708 ?_
    refine go_lor hF d_La_law_709 ?_
    refine go_callVX hF hE hlo d_La_law_710 (con_Mo_release (w := (sL (apX w 2 (xs (i + 1)) (lg2 (xs (i + 2)) (xs (i + 3))) 3) 3 0 0 0 0 (wI w 0 0 4 0 0 + 1).toInt64)) (f := mS w) (c := w) (K := K) (N := N) (t := (lg2 (xs (i + 2)) (xs (i + 3)))) hlt h4 (by omega) hR) mt_Mo_release mv_Mo_release lk_La_113 ⟨rfl, rfl, by decide, by decide⟩ rfl (Nat.le_of_ble_eq_true rfl) ⟨by show _ ≤ 601024; omega, by show _ ≤ 7293034; omega⟩ (fun H hG => gw_recv (q := (R_Mo, T_Mo, 9)) hK hG h4 rfl rfl (by decide) rfl) (fun M => gx_no) rfl (fun v => ?_)
    refine go_ex (fun f2 => ?_)
    refine go_ex (fun b9 => ?_)
    refine go_and (fun hv => ?_)
    subst hv
    refine go_and (fun g1 => ?_)
    refine go_and (fun g2 => ?_)
    obtain ⟨rfl, hR2⟩ := g1 hT0
    refine go_istore hF d_La_law_713 (by decide) ?_
    refine go_lv (lv' := [(0, _), (1, _), (2, _), (3, _), (4, _), (5, _), (6, _)]) ⟨rfl, rfl, rfl, rfl, rfl, rfl, rfl, trivial⟩ ?_
    refine go_aload_n hF d_La_law_715 rfl ?_
    refine go_callVX hF hE hlo d_La_law_716 (con_Mo_thrown (w := sI (sL (apX w 2 (xs (i + 1)) (lg2 (xs (i + 2)) (xs (i + 3))) 3) 3 0 0 0 0 (wI w 0 0 4 0 0 + 1).toInt64) 4 0 0 0 0 (tH w (xs (i + 1)) (lg2 (xs (i + 2)) (xs (i + 3))) 3)) (f := f2) (N := N) hlt h4) mt_Mo_thrown mv_Mo_thrown lk_La_86 ⟨rfl, rfl, by decide, by decide⟩ rfl (Nat.le_of_ble_eq_true rfl) ⟨by show _ ≤ 601024; omega, by show _ ≤ 7293034; omega⟩ (fun H hG => gw_recv (q := (R_Mo, T_Mo, 9)) hK hG h4 rfl rfl (by decide) rfl) (fun M => gx_no) rfl (fun v => ?_)
    refine go_and (fun hv => ?_)
    subst hv
    rw [thr_0]
    refine go_iload hF d_La_law_719 rfl ?_
    refine go_icmp_eq (tgt := 726) hF d_La_law_721 (by decide) (fun h721 => ?_) (fun h721 => ?_)
    · refine go_iload hF d_La_law_726 rfl ?_
      refine go_if_ne (tgt := 743) hF d_La_law_728 (by decide) (fun h728 => ?_) (fun h728 => ?_)
      · exact absurd hT0 h728
      · refine go_aload_n hF d_La_law_731 rfl ?_
        refine go_iconst (v := 0) hF d_La_law_732 (by decide) ?_
        refine gs_lald hF hK hT d_La_law_733 h3 rfl rfl (show (0 : Int32) = nI 0 from rfl) (by decide) (by decide) ?_
        rw [out_v]
        refine go_iload hF d_La_law_734 rfl ?_
        refine go_i2l hF d_La_law_736 ?_
        refine go_lif_eq (tgt := 743) hF d_La_law_737 d_La_law_738 (by decide) (fun h737 => ?_) (fun h737 => ?_)
        · refine go_goto (tgt := 1481) hF d_La_law_743 (by decide) ?_
          refine go_lv (lv' := [(0, _), (1, _), (2, _), (3, _), (4, _)]) ⟨rfl, rfl, rfl, rfl, rfl, trivial⟩ ?_
          refine go_wd (k' := k + 89) (n' := n + 2891) (by omega) (by omega) ?_
          exact hC B N _ s (LI_K (K := K + 1) (by omega) (LI_nx h rfl rfl (wP_1 (qb_ap w _ _ _ _)) (LIp_1 hp (by omega) (qb_ap w _ _ _ _) hR2)))
        · exact absurd rfl h737
    · exact absurd rfl h721
  · refine go_aload_n hF d_La_law_646 rfl ?_
    refine go_aload_n hF d_La_law_647 rfl ?_
    refine go_iload hF d_La_law_648 rfl ?_
    refine go_iconst (v := 1) hF d_La_law_650 (by decide) ?_
    refine go_iadd hF d_La_law_651 ?_
    refine gs_sld hF hX hbl d_La_law_652 (ix1 (k := 1) (n := i) rfl) (by omega) (by omega) ?_
    refine go_aload_n hF d_La_law_653 rfl ?_
    refine go_iload hF d_La_law_654 rfl ?_
    refine go_iconst (v := 2) hF d_La_law_656 (by decide) ?_
    refine go_iadd hF d_La_law_657 ?_
    refine gs_sld hF hX hbl d_La_law_658 (ix1 (k := 2) (n := i) rfl) (by omega) (by omega) ?_
    refine go_i2l hF d_La_law_659 ?_
    refine go_bipush (v := 32) hF d_La_law_660 (by decide) ?_
    refine go_lshl hF d_La_law_662 ?_
    refine go_aload_n hF d_La_law_663 rfl ?_
    refine go_iload hF d_La_law_664 rfl ?_
    refine go_iconst (v := 3) hF d_La_law_666 (by decide) ?_
    refine go_iadd hF d_La_law_667 ?_
    refine gs_sld hF hX hbl d_La_law_668 (ix1 (k := 3) (n := i) rfl) (by omega) (by omega) ?_
    refine go_i2l hF d_La_law_669 ?_
    refine go_ldc2 hF kl_La_101 d_La_law_670 ?_
    refine go_land hF d_La_law_673 ?_
    refine go_lor hF d_La_law_674 ?_
    refine go_aload_n hF d_La_law_675 rfl ?_
    refine go_callSW hF hE hlo d_La_law_676 (con_La_release hlt hb ho h2 h3 ok (xs (i + 1)) (lg2 (xs (i + 2)) (xs (i + 3)))) mw_La_release ms_La_release lk_La_110 ⟨rfl, rfl, by decide, by decide⟩ rfl (Nat.le_of_ble_eq_true rfl) ⟨by show _ ≤ 601024; omega, by show _ ≤ 7293034; omega⟩ (fun M => gx_no) rfl (fun v => ?_)
    refine go_and (fun hv => ?_)
    subst hv
    refine go_G (G' := gw E B (nx1 N) w) (fun H hG => hG.elim (fun z => absurd z.1 hT0) (fun z => z.2)) ?_
    refine go_G (G' := gw E B (nx1 N) (mW w (mS w))) (fun H hG => by rw [mW_w]; exact hG) ?_
    refine go_istore hF d_La_law_679 (by decide) ?_
    refine go_lv (lv' := [(0, _), (1, _), (2, _), (3, _), (4, _), (5, _)]) ⟨rfl, rfl, rfl, rfl, rfl, rfl, trivial⟩ ?_
    refine go_aload_n hF d_La_law_681 rfl ?_
    refine go_aload_n hF d_La_law_682 rfl ?_
    refine go_iload hF d_La_law_683 rfl ?_
    refine go_iconst (v := 1) hF d_La_law_685 (by decide) ?_
    refine go_iadd hF d_La_law_686 ?_
    refine gs_sld hF hX hbl d_La_law_687 (ix1 (k := 1) (n := i) rfl) (by omega) (by omega) ?_
    refine go_aload_n hF d_La_law_688 rfl ?_
    refine go_iload hF d_La_law_689 rfl ?_
    refine go_iconst (v := 2) hF d_La_law_691 (by decide) ?_
    refine go_iadd hF d_La_law_692 ?_
    refine gs_sld hF hX hbl d_La_law_693 (ix1 (k := 2) (n := i) rfl) (by omega) (by omega) ?_
    refine go_i2l hF d_La_law_694 ?_
    refine go_bipush (v := 32) hF d_La_law_695 (by decide) ?_
    refine go_lshl hF d_La_law_697 ?_
    refine go_aload_n hF d_La_law_698 rfl ?_
    refine go_iload hF d_La_law_699 rfl ?_
    refine go_iconst (v := 3) hF d_La_law_701 (by decide) ?_
    refine go_iadd hF d_La_law_702 ?_
    refine gs_sld hF hX hbl d_La_law_703 (ix1 (k := 3) (n := i) rfl) (by omega) (by omega) ?_
    refine go_i2l hF d_La_law_704 ?_
    refine go_ldc2 hF kl_La_101 d_La_law_705 ?_
    refine go_land hF d_La_law_708 ?_
    refine go_lor hF d_La_law_709 ?_
    refine go_callVX hF hE hlo d_La_law_710 (con_Mo_release (w := w) (f := mS w) (c := w) (K := K) (N := (nx1 N)) (t := (lg2 (xs (i + 2)) (xs (i + 3)))) hlt h4 (by omega) hR) mt_Mo_release mv_Mo_release lk_La_113 ⟨rfl, rfl, by decide, by decide⟩ rfl (Nat.le_of_ble_eq_true rfl) ⟨by show _ ≤ 601024; omega, by show _ ≤ 7293034; omega⟩ (fun H hG => gw_recv (q := (R_Mo, T_Mo, 9)) hK hG h4 rfl rfl (by decide) rfl) (fun M => gx_no) rfl (fun v => ?_)
    refine go_ex (fun f2 => ?_)
    refine go_ex (fun b9 => ?_)
    refine go_and (fun hv => ?_)
    subst hv
    refine go_and (fun g1 => ?_)
    refine go_and (fun g2 => ?_)
    have hf2 := g2 hT0
    subst hf2
    refine go_istore hF d_La_law_713 (by decide) ?_
    refine go_lv (lv' := [(0, _), (1, _), (2, _), (3, _), (4, _), (5, _), (6, _)]) ⟨rfl, rfl, rfl, rfl, rfl, rfl, rfl, trivial⟩ ?_
    refine go_aload_n hF d_La_law_715 rfl ?_
    refine go_callVX hF hE hlo d_La_law_716 (con_Mo_thrown (w := sI w 4 0 0 0 0 (tH w (xs (i + 1)) (lg2 (xs (i + 2)) (xs (i + 3))) 3)) (f := (mS w)) (N := (nx1 N)) hlt h4) mt_Mo_thrown mv_Mo_thrown lk_La_86 ⟨rfl, rfl, by decide, by decide⟩ rfl (Nat.le_of_ble_eq_true rfl) ⟨by show _ ≤ 601024; omega, by show _ ≤ 7293034; omega⟩ (fun H hG => gw_recv (q := (R_Mo, T_Mo, 9)) hK hG h4 rfl rfl (by decide) rfl) (fun M => gx_no) rfl (fun v => ?_)
    refine go_and (fun hv => ?_)
    subst hv
    rw [thr_0]
    refine go_iload hF d_La_law_719 rfl ?_
    refine go_icmp_eq (tgt := 726) hF d_La_law_721 (by decide) (fun h721 => ?_) (fun h721 => ?_)
    · refine go_iload hF d_La_law_726 rfl ?_
      refine go_if_ne (tgt := 743) hF d_La_law_728 (by decide) (fun h728 => ?_) (fun h728 => ?_)
      · refine go_goto (tgt := 1481) hF d_La_law_743 (by decide) ?_
        refine go_lv (lv' := [(0, _), (1, _), (2, _), (3, _), (4, _)]) ⟨rfl, rfl, rfl, rfl, rfl, trivial⟩ ?_
        refine go_wd (k' := k + 89) (n' := n + 2891) (by omega) (by omega) ?_
        exact hC B (nx1 N) _ s (LI_K (K := K) (by omega) (LI_nx h rfl rfl (wP_0 (qb_rf w)) (LIp_0 hp (Nat.le_refl K) (qb_rf w) hR)))
      · exact absurd h728 hT0
    · exact absurd rfl h721
set_option maxHeartbeats 4000000 in
set_option maxRecDepth 100000 in
theorem law_check {F : gT} {E : gE} {B : bsT} {N : nwT} {w : wdT} (hF : Fb F c_La_law R_La 8 room_1) (hE : en E (gs F)) (hlo : gLo F = E.2.2.size) (hlt : (gl F).stackTraces = false) {b L : Nat} {xs : Nat → Int32} (hX : va_X b L xs (gs F) E.2.2) (hbl : b < E.2.2.size) (hL : L ≤ 2560) {i K k n s : Nat} (hi : i + 5 ≤ L) (hKK : K + 150 < 1000000000) (hk : k + 89 ≤ 601024) (hn : n + 2891 ≤ 7293034) (h : LI K B N w s)
    (hC : ∀ (B' : bsT) (N' : nwT) (w' : wdT) (s' : Nat), LI (K + 150) B' N' w' s' → Go F 1481 [(0, .ref b), (1, .ref (ad B' 1 0 0 0)), (2, .ref (ad B' 4 0 0 0)), (3, .ref (ad B' 3 0 0 0)), (4, .int (nI i))] [] (gw E B' N' w') (k + 89) (n + 2891)) : Go F 746 [(0, .ref b), (1, .ref (ad B 1 0 0 0)), (2, .ref (ad B 4 0 0 0)), (3, .ref (ad B 3 0 0 0)), (4, .int (nI i))] [] (gw E B N w) k n := by
  have hK := hE.1
  have hT := hE.2.1
  obtain ⟨⟨ho, hb, h2, h3, h4⟩, hp, hsv, hon, hoff, h5, hO⟩ := id h
  have hR := hp.1
  have ok := hR.1
  by_cases hT0 : tC w (xs (i + 1)) (xs (i + 2)) (xs (i + 3)) (xs (i + 4)) = 0
  · refine go_aload_n hF d_La_law_746 rfl ?_
    refine go_aload_n hF d_La_law_747 rfl ?_
    refine go_iload hF d_La_law_748 rfl ?_
    refine go_iconst (v := 1) hF d_La_law_750 (by decide) ?_
    refine go_iadd hF d_La_law_751 ?_
    refine gs_sld hF hX hbl d_La_law_752 (ix1 (k := 1) (n := i) rfl) (by omega) (by omega) ?_
    refine go_aload_n hF d_La_law_753 rfl ?_
    refine go_iload hF d_La_law_754 rfl ?_
    refine go_iconst (v := 2) hF d_La_law_756 (by decide) ?_
    refine go_iadd hF d_La_law_757 ?_
    refine gs_sld hF hX hbl d_La_law_758 (ix1 (k := 2) (n := i) rfl) (by omega) (by omega) ?_
    refine go_aload_n hF d_La_law_759 rfl ?_
    refine go_iload hF d_La_law_760 rfl ?_
    refine go_iconst (v := 3) hF d_La_law_762 (by decide) ?_
    refine go_iadd hF d_La_law_763 ?_
    refine gs_sld hF hX hbl d_La_law_764 (ix1 (k := 3) (n := i) rfl) (by omega) (by omega) ?_
    refine go_aload_n hF d_La_law_765 rfl ?_
    refine go_iload hF d_La_law_766 rfl ?_
    refine go_iconst (v := 4) hF d_La_law_768 (by decide) ?_
    refine go_iadd hF d_La_law_769 ?_
    refine gs_sld hF hX hbl d_La_law_770 (ix1 (k := 4) (n := i) rfl) (by omega) (by omega) ?_
    refine go_aload_n hF d_La_law_771 rfl ?_
    refine go_callSW hF hE hlo d_La_law_772 (con_La_check hlt hb ho h2 h3 ok (xs (i + 1)) (xs (i + 2)) (xs (i + 3)) (xs (i + 4))) mw_La_check ms_La_check lk_La_114 ⟨rfl, rfl, by decide, by decide⟩ rfl (Nat.le_of_ble_eq_true rfl) ⟨by show _ ≤ 601024; omega, by show _ ≤ 7293034; omega⟩ (fun M => gx_no) rfl (fun v => ?_)
    refine go_and (fun hv => ?_)
    subst hv
    refine go_G (G' := gw E B N (sL (acX w (xs (i + 1)) (xs (i + 2)) (xs (i + 3)) (xs (i + 4))) 3 0 0 0 0 (wI w 0 0 0 6 0).toInt64)) (fun H hG => hG.elim (fun z => z.2) (fun z => absurd hT0 z.1)) ?_
    refine go_G (G' := gw E B N (mW (sL (acX w (xs (i + 1)) (xs (i + 2)) (xs (i + 3)) (xs (i + 4))) 3 0 0 0 0 (wI w 0 0 0 6 0).toInt64) (mS w))) (fun H hG => by rw [mW_qb1 (qb_ac w _ _ _ _)]; exact hG) ?_
    refine go_istore hF d_La_law_775 (by decide) ?_
    refine go_lv (lv' := [(0, _), (1, _), (2, _), (3, _), (4, _), (5, _)]) ⟨rfl, rfl, rfl, rfl, rfl, rfl, trivial⟩ ?_
    refine go_aload_n hF d_La_law_777 rfl ?_
    refine go_aload_n hF d_La_law_778 rfl ?_
    refine go_iload hF d_La_law_779 rfl ?_
    refine go_iconst (v := 1) hF d_La_law_781 (by decide) ?_
    refine go_iadd hF d_La_law_782 ?_
    refine gs_sld hF hX hbl d_La_law_783 (ix1 (k := 1) (n := i) rfl) (by omega) (by omega) ?_
    refine go_aload_n hF d_La_law_784 rfl ?_
    refine go_iload hF d_La_law_785 rfl ?_
    refine go_iconst (v := 2) hF d_La_law_787 (by decide) ?_
    refine go_iadd hF d_La_law_788 ?_
    refine gs_sld hF hX hbl d_La_law_789 (ix1 (k := 2) (n := i) rfl) (by omega) (by omega) ?_
    refine go_aload_n hF d_La_law_790 rfl ?_
    refine go_iload hF d_La_law_791 rfl ?_
    refine go_iconst (v := 3) hF d_La_law_793 (by decide) ?_
    refine go_iadd hF d_La_law_794 ?_
    refine gs_sld hF hX hbl d_La_law_795 (ix1 (k := 3) (n := i) rfl) (by omega) (by omega) ?_
    refine go_aload_n hF d_La_law_796 rfl ?_
    refine go_iload hF d_La_law_797 rfl ?_
    refine go_iconst (v := 4) hF d_La_law_799 (by decide) ?_
    refine go_iadd hF d_La_law_800 ?_
    refine gs_sld hF hX hbl d_La_law_801 (ix1 (k := 4) (n := i) rfl) (by omega) (by omega) ?_
    refine go_callVX hF hE hlo d_La_law_802 (con_Mo_check (w := (sL (acX w (xs (i + 1)) (xs (i + 2)) (xs (i + 3)) (xs (i + 4))) 3 0 0 0 0 (wI w 0 0 0 6 0).toInt64)) (f := mS w) (c := w) (K := K) (N := N) hlt h4 hR) mt_Mo_check mv_Mo_check lk_La_116 ⟨rfl, rfl, by decide, by decide⟩ rfl (Nat.le_of_ble_eq_true rfl) ⟨by show _ ≤ 601024; omega, by show _ ≤ 7293034; omega⟩ (fun H hG => gw_recv (q := (R_Mo, T_Mo, 9)) hK hG h4 rfl rfl (by decide) rfl) (fun M => gx_no) rfl (fun v => ?_)
    refine go_ex (fun f2 => ?_)
    refine go_ex (fun b9 => ?_)
    refine go_and (fun hv => ?_)
    subst hv
    refine go_and (fun g1 => ?_)
    refine go_and (fun g2 => ?_)
    obtain ⟨rfl, hR2⟩ := g1 hT0
    refine go_istore hF d_La_law_805 (by decide) ?_
    refine go_lv (lv' := [(0, _), (1, _), (2, _), (3, _), (4, _), (5, _), (6, _)]) ⟨rfl, rfl, rfl, rfl, rfl, rfl, rfl, trivial⟩ ?_
    refine go_aload_n hF d_La_law_807 rfl ?_
    refine go_callVX hF hE hlo d_La_law_808 (con_Mo_thrown (w := sI (sL (acX w (xs (i + 1)) (xs (i + 2)) (xs (i + 3)) (xs (i + 4))) 3 0 0 0 0 (wI w 0 0 0 6 0).toInt64) 4 0 0 0 0 (tC w (xs (i + 1)) (xs (i + 2)) (xs (i + 3)) (xs (i + 4)))) (f := f2) (N := N) hlt h4) mt_Mo_thrown mv_Mo_thrown lk_La_86 ⟨rfl, rfl, by decide, by decide⟩ rfl (Nat.le_of_ble_eq_true rfl) ⟨by show _ ≤ 601024; omega, by show _ ≤ 7293034; omega⟩ (fun H hG => gw_recv (q := (R_Mo, T_Mo, 9)) hK hG h4 rfl rfl (by decide) rfl) (fun M => gx_no) rfl (fun v => ?_)
    refine go_and (fun hv => ?_)
    subst hv
    rw [thr_0]
    refine go_iload hF d_La_law_811 rfl ?_
    refine go_icmp_eq (tgt := 818) hF d_La_law_813 (by decide) (fun h813 => ?_) (fun h813 => ?_)
    · refine go_iload hF d_La_law_818 rfl ?_
      refine go_if_ne (tgt := 835) hF d_La_law_820 (by decide) (fun h820 => ?_) (fun h820 => ?_)
      · exact absurd hT0 h820
      · refine go_aload_n hF d_La_law_823 rfl ?_
        refine go_iconst (v := 0) hF d_La_law_824 (by decide) ?_
        refine gs_lald hF hK hT d_La_law_825 h3 rfl rfl (show (0 : Int32) = nI 0 from rfl) (by decide) (by decide) ?_
        rw [out_v]
        refine go_iload hF d_La_law_826 rfl ?_
        refine go_i2l hF d_La_law_828 ?_
        refine go_lif_eq (tgt := 835) hF d_La_law_829 d_La_law_830 (by decide) (fun h829 => ?_) (fun h829 => ?_)
        · refine go_goto (tgt := 1481) hF d_La_law_835 (by decide) ?_
          refine go_lv (lv' := [(0, _), (1, _), (2, _), (3, _), (4, _)]) ⟨rfl, rfl, rfl, rfl, rfl, trivial⟩ ?_
          refine go_wd (k' := k + 89) (n' := n + 2891) (by omega) (by omega) ?_
          exact hC B N _ s (LI_K (K := K) (by omega) (LI_nx h rfl rfl (wP_1 (qb_ac w _ _ _ _)) (LIp_1 hp (by omega) (qb_ac w _ _ _ _) hR2)))
        · exact absurd rfl h829
    · exact absurd rfl h813
  · refine go_aload_n hF d_La_law_746 rfl ?_
    refine go_aload_n hF d_La_law_747 rfl ?_
    refine go_iload hF d_La_law_748 rfl ?_
    refine go_iconst (v := 1) hF d_La_law_750 (by decide) ?_
    refine go_iadd hF d_La_law_751 ?_
    refine gs_sld hF hX hbl d_La_law_752 (ix1 (k := 1) (n := i) rfl) (by omega) (by omega) ?_
    refine go_aload_n hF d_La_law_753 rfl ?_
    refine go_iload hF d_La_law_754 rfl ?_
    refine go_iconst (v := 2) hF d_La_law_756 (by decide) ?_
    refine go_iadd hF d_La_law_757 ?_
    refine gs_sld hF hX hbl d_La_law_758 (ix1 (k := 2) (n := i) rfl) (by omega) (by omega) ?_
    refine go_aload_n hF d_La_law_759 rfl ?_
    refine go_iload hF d_La_law_760 rfl ?_
    refine go_iconst (v := 3) hF d_La_law_762 (by decide) ?_
    refine go_iadd hF d_La_law_763 ?_
    refine gs_sld hF hX hbl d_La_law_764 (ix1 (k := 3) (n := i) rfl) (by omega) (by omega) ?_
    refine go_aload_n hF d_La_law_765 rfl ?_
    refine go_iload hF d_La_law_766 rfl ?_
    refine go_iconst (v := 4) hF d_La_law_768 (by decide) ?_
    refine go_iadd hF d_La_law_769 ?_
    refine gs_sld hF hX hbl d_La_law_770 (ix1 (k := 4) (n := i) rfl) (by omega) (by omega) ?_
    refine go_aload_n hF d_La_law_771 rfl ?_
    refine go_callSW hF hE hlo d_La_law_772 (con_La_check hlt hb ho h2 h3 ok (xs (i + 1)) (xs (i + 2)) (xs (i + 3)) (xs (i + 4))) mw_La_check ms_La_check lk_La_114 ⟨rfl, rfl, by decide, by decide⟩ rfl (Nat.le_of_ble_eq_true rfl) ⟨by show _ ≤ 601024; omega, by show _ ≤ 7293034; omega⟩ (fun M => gx_no) rfl (fun v => ?_)
    refine go_and (fun hv => ?_)
    subst hv
    refine go_G (G' := gw E B (nx1 N) w) (fun H hG => hG.elim (fun z => absurd z.1 hT0) (fun z => z.2)) ?_
    refine go_G (G' := gw E B (nx1 N) (mW w (mS w))) (fun H hG => by rw [mW_w]; exact hG) ?_
    refine go_istore hF d_La_law_775 (by decide) ?_
    refine go_lv (lv' := [(0, _), (1, _), (2, _), (3, _), (4, _), (5, _)]) ⟨rfl, rfl, rfl, rfl, rfl, rfl, trivial⟩ ?_
    refine go_aload_n hF d_La_law_777 rfl ?_
    refine go_aload_n hF d_La_law_778 rfl ?_
    refine go_iload hF d_La_law_779 rfl ?_
    refine go_iconst (v := 1) hF d_La_law_781 (by decide) ?_
    refine go_iadd hF d_La_law_782 ?_
    refine gs_sld hF hX hbl d_La_law_783 (ix1 (k := 1) (n := i) rfl) (by omega) (by omega) ?_
    refine go_aload_n hF d_La_law_784 rfl ?_
    refine go_iload hF d_La_law_785 rfl ?_
    refine go_iconst (v := 2) hF d_La_law_787 (by decide) ?_
    refine go_iadd hF d_La_law_788 ?_
    refine gs_sld hF hX hbl d_La_law_789 (ix1 (k := 2) (n := i) rfl) (by omega) (by omega) ?_
    refine go_aload_n hF d_La_law_790 rfl ?_
    refine go_iload hF d_La_law_791 rfl ?_
    refine go_iconst (v := 3) hF d_La_law_793 (by decide) ?_
    refine go_iadd hF d_La_law_794 ?_
    refine gs_sld hF hX hbl d_La_law_795 (ix1 (k := 3) (n := i) rfl) (by omega) (by omega) ?_
    refine go_aload_n hF d_La_law_796 rfl ?_
    refine go_iload hF d_La_law_797 rfl ?_
    refine go_iconst (v := 4) hF d_La_law_799 (by decide) ?_
    refine go_iadd hF d_La_law_800 ?_
    refine gs_sld hF hX hbl d_La_law_801 (ix1 (k := 4) (n := i) rfl) (by omega) (by omega) ?_
    refine go_callVX hF hE hlo d_La_law_802 (con_Mo_check (w := w) (f := mS w) (c := w) (K := K) (N := (nx1 N)) hlt h4 hR) mt_Mo_check mv_Mo_check lk_La_116 ⟨rfl, rfl, by decide, by decide⟩ rfl (Nat.le_of_ble_eq_true rfl) ⟨by show _ ≤ 601024; omega, by show _ ≤ 7293034; omega⟩ (fun H hG => gw_recv (q := (R_Mo, T_Mo, 9)) hK hG h4 rfl rfl (by decide) rfl) (fun M => gx_no) rfl (fun v => ?_)
    refine go_ex (fun f2 => ?_)
    refine go_ex (fun b9 => ?_)
    refine go_and (fun hv => ?_)
    subst hv
    refine go_and (fun g1 => ?_)
    refine go_and (fun g2 => ?_)
    have hf2 := g2 hT0
    subst hf2
    refine go_istore hF d_La_law_805 (by decide) ?_
    refine go_lv (lv' := [(0, _), (1, _), (2, _), (3, _), (4, _), (5, _), (6, _)]) ⟨rfl, rfl, rfl, rfl, rfl, rfl, rfl, trivial⟩ ?_
    refine go_aload_n hF d_La_law_807 rfl ?_
    refine go_callVX hF hE hlo d_La_law_808 (con_Mo_thrown (w := sI w 4 0 0 0 0 (tC w (xs (i + 1)) (xs (i + 2)) (xs (i + 3)) (xs (i + 4)))) (f := (mS w)) (N := (nx1 N)) hlt h4) mt_Mo_thrown mv_Mo_thrown lk_La_86 ⟨rfl, rfl, by decide, by decide⟩ rfl (Nat.le_of_ble_eq_true rfl) ⟨by show _ ≤ 601024; omega, by show _ ≤ 7293034; omega⟩ (fun H hG => gw_recv (q := (R_Mo, T_Mo, 9)) hK hG h4 rfl rfl (by decide) rfl) (fun M => gx_no) rfl (fun v => ?_)
    refine go_and (fun hv => ?_)
    subst hv
    rw [thr_0]
    refine go_iload hF d_La_law_811 rfl ?_
    refine go_icmp_eq (tgt := 818) hF d_La_law_813 (by decide) (fun h813 => ?_) (fun h813 => ?_)
    · refine go_iload hF d_La_law_818 rfl ?_
      refine go_if_ne (tgt := 835) hF d_La_law_820 (by decide) (fun h820 => ?_) (fun h820 => ?_)
      · refine go_goto (tgt := 1481) hF d_La_law_835 (by decide) ?_
        refine go_lv (lv' := [(0, _), (1, _), (2, _), (3, _), (4, _)]) ⟨rfl, rfl, rfl, rfl, rfl, trivial⟩ ?_
        refine go_wd (k' := k + 89) (n' := n + 2891) (by omega) (by omega) ?_
        exact hC B (nx1 N) _ s (LI_K (K := K) (by omega) (LI_nx h rfl rfl (wP_0 (qb_rf w)) (LIp_0 hp (Nat.le_refl K) (qb_rf w) hR)))
      · exact absurd h820 hT0
    · exact absurd rfl h813
set_option maxHeartbeats 4000000 in
set_option maxRecDepth 100000 in
theorem law_broken {F : gT} {E : gE} {B : bsT} {N : nwT} {w : wdT} (hF : Fb F c_La_law R_La 8 room_1) (hE : en E (gs F)) (hlo : gLo F = E.2.2.size) (hlt : (gl F).stackTraces = false) {b L : Nat} {xs : Nat → Int32} (hX : va_X b L xs (gs F) E.2.2) (hbl : b < E.2.2.size) (hL : L ≤ 2560) {i K k n s : Nat} (hi : i + 5 ≤ L) (hKK : K + 150 < 1000000000) (hk : k + 89 ≤ 601024) (hn : n + 2891 ≤ 7293034) (h : LI K B N w s)
    (hC : ∀ (B' : bsT) (N' : nwT) (w' : wdT) (s' : Nat), LI (K + 150) B' N' w' s' → Go F 1481 [(0, .ref b), (1, .ref (ad B' 1 0 0 0)), (2, .ref (ad B' 4 0 0 0)), (3, .ref (ad B' 3 0 0 0)), (4, .int (nI i))] [] (gw E B' N' w') (k + 89) (n + 2891)) : Go F 838 [(0, .ref b), (1, .ref (ad B 1 0 0 0)), (2, .ref (ad B 4 0 0 0)), (3, .ref (ad B 3 0 0 0)), (4, .int (nI i))] [] (gw E B N w) k n := by
  have hK := hE.1
  have hT := hE.2.1
  obtain ⟨⟨ho, hb, h2, h3, h4⟩, hp, hsv, hon, hoff, h5, hO⟩ := id h
  have hR := hp.1
  have ok := hR.1
  by_cases hT0 : tB w (xs (i + 1)) = 0
  · refine go_aload_n hF d_La_law_838 rfl ?_
    refine go_aload_n hF d_La_law_839 rfl ?_
    refine go_iload hF d_La_law_840 rfl ?_
    refine go_iconst (v := 1) hF d_La_law_842 (by decide) ?_
    refine go_iadd hF d_La_law_843 ?_
    refine gs_sld hF hX hbl d_La_law_844 (ix1 (k := 1) (n := i) rfl) (by omega) (by omega) ?_
    refine go_aload_n hF d_La_law_845 rfl ?_
    refine go_callSW hF hE hlo d_La_law_846 (con_La_broken hlt hb ho h2 h3 ok (xs (i + 1))) mw_La_broken ms_La_broken lk_La_117 ⟨rfl, rfl, by decide, by decide⟩ rfl (Nat.le_of_ble_eq_true rfl) ⟨by show _ ≤ 601024; omega, by show _ ≤ 7293034; omega⟩ (fun M => gx_no) rfl (fun v => ?_)
    refine go_and (fun hv => ?_)
    subst hv
    refine go_G (G' := gw E B N (sL (w) 3 0 0 0 0 (wI w 0 0 15 4 (nz (xs (i + 1)))).toInt64)) (fun H hG => hG.elim (fun z => z.2) (fun z => absurd hT0 z.1)) ?_
    refine go_G (G' := gw E B N (mW (sL (w) 3 0 0 0 0 (wI w 0 0 15 4 (nz (xs (i + 1)))).toInt64) (mS w))) (fun H hG => by rw [mW_qb1 (qb_rf w)]; exact hG) ?_
    refine go_istore hF d_La_law_849 (by decide) ?_
    refine go_lv (lv' := [(0, _), (1, _), (2, _), (3, _), (4, _), (5, _)]) ⟨rfl, rfl, rfl, rfl, rfl, rfl, trivial⟩ ?_
    refine go_aload_n hF d_La_law_851 rfl ?_
    refine go_aload_n hF d_La_law_852 rfl ?_
    refine go_iload hF d_La_law_853 rfl ?_
    refine go_iconst (v := 1) hF d_La_law_855 (by decide) ?_
    refine go_iadd hF d_La_law_856 ?_
    refine gs_sld hF hX hbl d_La_law_857 (ix1 (k := 1) (n := i) rfl) (by omega) (by omega) ?_
    refine go_callVX hF hE hlo d_La_law_858 (con_Mo_broken (w := (sL (w) 3 0 0 0 0 (wI w 0 0 15 4 (nz (xs (i + 1)))).toInt64)) (f := mS w) (c := w) (K := K) (N := N) hlt h4 hR) mt_Mo_broken mv_Mo_broken lk_La_119 ⟨rfl, rfl, by decide, by decide⟩ rfl (Nat.le_of_ble_eq_true rfl) ⟨by show _ ≤ 601024; omega, by show _ ≤ 7293034; omega⟩ (fun H hG => gw_recv (q := (R_Mo, T_Mo, 9)) hK hG h4 rfl rfl (by decide) rfl) (fun M => gx_no) rfl (fun v => ?_)
    refine go_ex (fun b9 => ?_)
    refine go_and (fun hv => ?_)
    subst hv
    refine go_and (fun g1 => ?_)
    have e9 := g1 hT0
    subst e9
    refine go_istore hF d_La_law_861 (by decide) ?_
    refine go_lv (lv' := [(0, _), (1, _), (2, _), (3, _), (4, _), (5, _), (6, _)]) ⟨rfl, rfl, rfl, rfl, rfl, rfl, rfl, trivial⟩ ?_
    refine go_aload_n hF d_La_law_863 rfl ?_
    refine go_callVX hF hE hlo d_La_law_864 (con_Mo_thrown (w := sI (sL (w) 3 0 0 0 0 (wI w 0 0 15 4 (nz (xs (i + 1)))).toInt64) 4 0 0 0 0 (tB w (xs (i + 1)))) (f := (mS w)) (N := N) hlt h4) mt_Mo_thrown mv_Mo_thrown lk_La_86 ⟨rfl, rfl, by decide, by decide⟩ rfl (Nat.le_of_ble_eq_true rfl) ⟨by show _ ≤ 601024; omega, by show _ ≤ 7293034; omega⟩ (fun H hG => gw_recv (q := (R_Mo, T_Mo, 9)) hK hG h4 rfl rfl (by decide) rfl) (fun M => gx_no) rfl (fun v => ?_)
    refine go_and (fun hv => ?_)
    subst hv
    rw [thr_0]
    refine go_iload hF d_La_law_867 rfl ?_
    refine go_icmp_eq (tgt := 874) hF d_La_law_869 (by decide) (fun h869 => ?_) (fun h869 => ?_)
    · refine go_iload hF d_La_law_874 rfl ?_
      refine go_if_ne (tgt := 891) hF d_La_law_876 (by decide) (fun h876 => ?_) (fun h876 => ?_)
      · exact absurd hT0 h876
      · refine go_aload_n hF d_La_law_879 rfl ?_
        refine go_iconst (v := 0) hF d_La_law_880 (by decide) ?_
        refine gs_lald hF hK hT d_La_law_881 h3 rfl rfl (show (0 : Int32) = nI 0 from rfl) (by decide) (by decide) ?_
        rw [out_v]
        refine go_iload hF d_La_law_882 rfl ?_
        refine go_i2l hF d_La_law_884 ?_
        refine go_lif_eq (tgt := 891) hF d_La_law_885 d_La_law_886 (by decide) (fun h885 => ?_) (fun h885 => ?_)
        · refine go_goto (tgt := 1481) hF d_La_law_891 (by decide) ?_
          refine go_lv (lv' := [(0, _), (1, _), (2, _), (3, _), (4, _)]) ⟨rfl, rfl, rfl, rfl, rfl, trivial⟩ ?_
          refine go_wd (k' := k + 89) (n' := n + 2891) (by omega) (by omega) ?_
          exact hC B N _ s (LI_K (K := K) (by omega) (LI_nx h rfl rfl (wP_1 (qb_rf w)) (LIp_1 hp (by omega) (qb_rf w) hR)))
        · exact absurd rfl h885
    · exact absurd rfl h869
  · refine go_aload_n hF d_La_law_838 rfl ?_
    refine go_aload_n hF d_La_law_839 rfl ?_
    refine go_iload hF d_La_law_840 rfl ?_
    refine go_iconst (v := 1) hF d_La_law_842 (by decide) ?_
    refine go_iadd hF d_La_law_843 ?_
    refine gs_sld hF hX hbl d_La_law_844 (ix1 (k := 1) (n := i) rfl) (by omega) (by omega) ?_
    refine go_aload_n hF d_La_law_845 rfl ?_
    refine go_callSW hF hE hlo d_La_law_846 (con_La_broken hlt hb ho h2 h3 ok (xs (i + 1))) mw_La_broken ms_La_broken lk_La_117 ⟨rfl, rfl, by decide, by decide⟩ rfl (Nat.le_of_ble_eq_true rfl) ⟨by show _ ≤ 601024; omega, by show _ ≤ 7293034; omega⟩ (fun M => gx_no) rfl (fun v => ?_)
    refine go_and (fun hv => ?_)
    subst hv
    refine go_G (G' := gw E B (nx1 N) w) (fun H hG => hG.elim (fun z => absurd z.1 hT0) (fun z => z.2)) ?_
    refine go_G (G' := gw E B (nx1 N) (mW w (mS w))) (fun H hG => by rw [mW_w]; exact hG) ?_
    refine go_istore hF d_La_law_849 (by decide) ?_
    refine go_lv (lv' := [(0, _), (1, _), (2, _), (3, _), (4, _), (5, _)]) ⟨rfl, rfl, rfl, rfl, rfl, rfl, trivial⟩ ?_
    refine go_aload_n hF d_La_law_851 rfl ?_
    refine go_aload_n hF d_La_law_852 rfl ?_
    refine go_iload hF d_La_law_853 rfl ?_
    refine go_iconst (v := 1) hF d_La_law_855 (by decide) ?_
    refine go_iadd hF d_La_law_856 ?_
    refine gs_sld hF hX hbl d_La_law_857 (ix1 (k := 1) (n := i) rfl) (by omega) (by omega) ?_
    refine go_callVX hF hE hlo d_La_law_858 (con_Mo_broken (w := w) (f := mS w) (c := w) (K := K) (N := (nx1 N)) hlt h4 hR) mt_Mo_broken mv_Mo_broken lk_La_119 ⟨rfl, rfl, by decide, by decide⟩ rfl (Nat.le_of_ble_eq_true rfl) ⟨by show _ ≤ 601024; omega, by show _ ≤ 7293034; omega⟩ (fun H hG => gw_recv (q := (R_Mo, T_Mo, 9)) hK hG h4 rfl rfl (by decide) rfl) (fun M => gx_no) rfl (fun v => ?_)
    refine go_ex (fun b9 => ?_)
    refine go_and (fun hv => ?_)
    subst hv
    refine go_and (fun g1 => ?_)
    refine go_istore hF d_La_law_861 (by decide) ?_
    refine go_lv (lv' := [(0, _), (1, _), (2, _), (3, _), (4, _), (5, _), (6, _)]) ⟨rfl, rfl, rfl, rfl, rfl, rfl, rfl, trivial⟩ ?_
    refine go_aload_n hF d_La_law_863 rfl ?_
    refine go_callVX hF hE hlo d_La_law_864 (con_Mo_thrown (w := sI w 4 0 0 0 0 (tB w (xs (i + 1)))) (f := (mS w)) (N := (nx1 N)) hlt h4) mt_Mo_thrown mv_Mo_thrown lk_La_86 ⟨rfl, rfl, by decide, by decide⟩ rfl (Nat.le_of_ble_eq_true rfl) ⟨by show _ ≤ 601024; omega, by show _ ≤ 7293034; omega⟩ (fun H hG => gw_recv (q := (R_Mo, T_Mo, 9)) hK hG h4 rfl rfl (by decide) rfl) (fun M => gx_no) rfl (fun v => ?_)
    refine go_and (fun hv => ?_)
    subst hv
    rw [thr_0]
    refine go_iload hF d_La_law_867 rfl ?_
    refine go_icmp_eq (tgt := 874) hF d_La_law_869 (by decide) (fun h869 => ?_) (fun h869 => ?_)
    · refine go_iload hF d_La_law_874 rfl ?_
      refine go_if_ne (tgt := 891) hF d_La_law_876 (by decide) (fun h876 => ?_) (fun h876 => ?_)
      · refine go_goto (tgt := 1481) hF d_La_law_891 (by decide) ?_
        refine go_lv (lv' := [(0, _), (1, _), (2, _), (3, _), (4, _)]) ⟨rfl, rfl, rfl, rfl, rfl, trivial⟩ ?_
        refine go_wd (k' := k + 89) (n' := n + 2891) (by omega) (by omega) ?_
        exact hC B (nx1 N) _ s (LI_K (K := K) (by omega) (LI_nx h rfl rfl (wP_0 (qb_rf w)) (LIp_0 hp (Nat.le_refl K) (qb_rf w) hR)))
      · exact absurd h876 hT0
    · exact absurd rfl h869
set_option maxHeartbeats 4000000 in
set_option maxRecDepth 100000 in
theorem law_at {F : gT} {E : gE} {B : bsT} {N : nwT} {w : wdT} (hF : Fb F c_La_law R_La 8 room_1) (hE : en E (gs F)) (hlo : gLo F = E.2.2.size) (hlt : (gl F).stackTraces = false) {b L : Nat} {xs : Nat → Int32} (hX : va_X b L xs (gs F) E.2.2) (hbl : b < E.2.2.size) (hL : L ≤ 2560) {i K k n s : Nat} (hi : i + 5 ≤ L) (hKK : K + 150 < 1000000000) (hk : k + 89 ≤ 601024) (hn : n + 2891 ≤ 7293034) (h : LI K B N w s)
    (hC : ∀ (B' : bsT) (N' : nwT) (w' : wdT) (s' : Nat), LI (K + 150) B' N' w' s' → Go F 1481 [(0, .ref b), (1, .ref (ad B' 1 0 0 0)), (2, .ref (ad B' 4 0 0 0)), (3, .ref (ad B' 3 0 0 0)), (4, .int (nI i))] [] (gw E B' N' w') (k + 89) (n + 2891)) : Go F 995 [(0, .ref b), (1, .ref (ad B 1 0 0 0)), (2, .ref (ad B 4 0 0 0)), (3, .ref (ad B 3 0 0 0)), (4, .int (nI i))] [] (gw E B N w) k n := by
  have hK := hE.1
  have hT := hE.2.1
  obtain ⟨⟨ho, hb, h2, h3, h4⟩, hp, hsv, hon, hoff, h5, hO⟩ := id h
  have hR := hp.1
  have ok := hR.1
  by_cases hT0 : tA w (xs (i + 1)) (lg2 (xs (i + 2)) (xs (i + 3))) = 0
  · refine go_aload_n hF d_La_law_995 rfl ?_
    refine go_aload_n hF d_La_law_996 rfl ?_
    refine go_iload hF d_La_law_997 rfl ?_
    refine go_iconst (v := 1) hF d_La_law_999 (by decide) ?_
    refine go_iadd hF d_La_law_1000 ?_
    refine gs_sld hF hX hbl d_La_law_1001 (ix1 (k := 1) (n := i) rfl) (by omega) (by omega) ?_
    refine go_aload_n hF d_La_law_1002 rfl ?_
    refine go_iload hF d_La_law_1003 rfl ?_
    refine go_iconst (v := 2) hF d_La_law_1005 (by decide) ?_
    refine go_iadd hF d_La_law_1006 ?_
    refine gs_sld hF hX hbl d_La_law_1007 (ix1 (k := 2) (n := i) rfl) (by omega) (by omega) ?_
    refine go_i2l hF d_La_law_1008 ?_
    refine go_bipush (v := 32) hF d_La_law_1009 (by decide) ?_
    refine go_lshl hF d_La_law_1011 ?_
    refine go_aload_n hF d_La_law_1012 rfl ?_
    refine go_iload hF d_La_law_1013 rfl ?_
    refine go_iconst (v := 3) hF d_La_law_1015 (by decide) ?_
    refine go_iadd hF d_La_law_1016 ?_
    refine gs_sld hF hX hbl d_La_law_1017 (ix1 (k := 3) (n := i) rfl) (by omega) (by omega) ?_
    refine go_i2l hF d_La_law_1018 ?_
    refine go_ldc2 hF kl_La_101 d_La_law_1019 ?_
    refine go_land hF d_La_law_1022 ?_
    refine go_lor hF d_La_law_1023 ?_
    refine go_aload_n hF d_La_law_1024 rfl ?_
    refine go_callSW hF hE hlo d_La_law_1025 (con_La_at hlt hb ho h2 h3 ok (xs (i + 1)) (lg2 (xs (i + 2)) (xs (i + 3)))) mw_La_at ms_La_at lk_La_129 ⟨rfl, rfl, by decide, by decide⟩ rfl (Nat.le_of_ble_eq_true rfl) ⟨by show _ ≤ 601024; omega, by show _ ≤ 7293034; omega⟩ (fun M => gx_no) rfl (fun v => ?_)
    refine go_and (fun hv => ?_)
    subst hv
    refine go_G (G' := gw E B N (sL (w) 3 0 0 0 0 (latW w 0 (xs (i + 1)) (lg2 (xs (i + 2)) (xs (i + 3))) (nz (wI w 0 0 9 0 0))).toInt64)) (fun H hG => hG.elim (fun z => z.2) (fun z => absurd hT0 z.1)) ?_
    refine go_G (G' := gw E B N (mW (sL (w) 3 0 0 0 0 (latW w 0 (xs (i + 1)) (lg2 (xs (i + 2)) (xs (i + 3))) (nz (wI w 0 0 9 0 0))).toInt64) (mS w))) (fun H hG => by rw [mW_qb1 (qb_rf w)]; exact hG) ?_
    refine go_istore hF d_La_law_1028 (by decide) ?_
    refine go_lv (lv' := [(0, _), (1, _), (2, _), (3, _), (4, _), (5, _)]) ⟨rfl, rfl, rfl, rfl, rfl, rfl, trivial⟩ ?_
    refine go_aload_n hF d_La_law_1030 rfl ?_
    refine go_aload_n hF d_La_law_1031 rfl ?_
    refine go_iload hF d_La_law_1032 rfl ?_
    refine go_iconst (v := 1) hF d_La_law_1034 (by decide) ?_
    refine go_iadd hF d_La_law_1035 ?_
    refine gs_sld hF hX hbl d_La_law_1036 (ix1 (k := 1) (n := i) rfl) (by omega) (by omega) ?_
    refine go_aload_n hF d_La_law_1037 rfl ?_
    refine go_iload hF d_La_law_1038 rfl ?_
    refine go_iconst (v := 2) hF d_La_law_1040 (by decide) ?_
    refine go_iadd hF d_La_law_1041 ?_
    refine gs_sld hF hX hbl d_La_law_1042 (ix1 (k := 2) (n := i) rfl) (by omega) (by omega) ?_
    refine go_i2l hF d_La_law_1043 ?_
    refine go_bipush (v := 32) hF d_La_law_1044 (by decide) ?_
    refine go_lshl hF d_La_law_1046 ?_
    refine go_aload_n hF d_La_law_1047 rfl ?_
    refine go_iload hF d_La_law_1048 rfl ?_
    refine go_iconst (v := 3) hF d_La_law_1050 (by decide) ?_
    refine go_iadd hF d_La_law_1051 ?_
    refine gs_sld hF hX hbl d_La_law_1052 (ix1 (k := 3) (n := i) rfl) (by omega) (by omega) ?_
    refine go_i2l hF d_La_law_1053 ?_
    refine go_ldc2 hF kl_La_101 d_La_law_1054 ?_
    refine go_land hF d_La_law_1057 ?_
    refine go_lor hF d_La_law_1058 ?_
    refine go_callVX hF hE hlo d_La_law_1059 (con_Mo_at (w := (sL (w) 3 0 0 0 0 (latW w 0 (xs (i + 1)) (lg2 (xs (i + 2)) (xs (i + 3))) (nz (wI w 0 0 9 0 0))).toInt64)) (f := mS w) (c := w) (K := K) (N := N) (t := (lg2 (xs (i + 2)) (xs (i + 3)))) hlt h4 hR) mt_Mo_at mv_Mo_at lk_La_131 ⟨rfl, rfl, by decide, by decide⟩ rfl (Nat.le_of_ble_eq_true rfl) ⟨by show _ ≤ 601024; omega, by show _ ≤ 7293034; omega⟩ (fun H hG => gw_recv (q := (R_Mo, T_Mo, 9)) hK hG h4 rfl rfl (by decide) rfl) (fun M => gx_no) rfl (fun v => ?_)
    refine go_ex (fun b9 => ?_)
    refine go_and (fun hv => ?_)
    subst hv
    refine go_and (fun g1 => ?_)
    have e9 := g1 hT0
    subst e9
    refine go_istore hF d_La_law_1062 (by decide) ?_
    refine go_lv (lv' := [(0, _), (1, _), (2, _), (3, _), (4, _), (5, _), (6, _)]) ⟨rfl, rfl, rfl, rfl, rfl, rfl, rfl, trivial⟩ ?_
    refine go_aload_n hF d_La_law_1064 rfl ?_
    refine go_callVX hF hE hlo d_La_law_1065 (con_Mo_thrown (w := sI (sL (w) 3 0 0 0 0 (latW w 0 (xs (i + 1)) (lg2 (xs (i + 2)) (xs (i + 3))) (nz (wI w 0 0 9 0 0))).toInt64) 4 0 0 0 0 (tA w (xs (i + 1)) (lg2 (xs (i + 2)) (xs (i + 3))))) (f := (mS w)) (N := N) hlt h4) mt_Mo_thrown mv_Mo_thrown lk_La_86 ⟨rfl, rfl, by decide, by decide⟩ rfl (Nat.le_of_ble_eq_true rfl) ⟨by show _ ≤ 601024; omega, by show _ ≤ 7293034; omega⟩ (fun H hG => gw_recv (q := (R_Mo, T_Mo, 9)) hK hG h4 rfl rfl (by decide) rfl) (fun M => gx_no) rfl (fun v => ?_)
    refine go_and (fun hv => ?_)
    subst hv
    rw [thr_0]
    refine go_iload hF d_La_law_1068 rfl ?_
    refine go_icmp_eq (tgt := 1075) hF d_La_law_1070 (by decide) (fun h1070 => ?_) (fun h1070 => ?_)
    · refine go_iload hF d_La_law_1075 rfl ?_
      refine go_if_ne (tgt := 1092) hF d_La_law_1077 (by decide) (fun h1077 => ?_) (fun h1077 => ?_)
      · exact absurd hT0 h1077
      · refine go_aload_n hF d_La_law_1080 rfl ?_
        refine go_iconst (v := 0) hF d_La_law_1081 (by decide) ?_
        refine gs_lald hF hK hT d_La_law_1082 h3 rfl rfl (show (0 : Int32) = nI 0 from rfl) (by decide) (by decide) ?_
        rw [out_v]
        refine go_iload hF d_La_law_1083 rfl ?_
        refine go_i2l hF d_La_law_1085 ?_
        refine go_lif_eq (tgt := 1092) hF d_La_law_1086 d_La_law_1087 (by decide) (fun h1086 => ?_) (fun h1086 => ?_)
        · refine go_goto (tgt := 1481) hF d_La_law_1092 (by decide) ?_
          refine go_lv (lv' := [(0, _), (1, _), (2, _), (3, _), (4, _)]) ⟨rfl, rfl, rfl, rfl, rfl, trivial⟩ ?_
          refine go_wd (k' := k + 89) (n' := n + 2891) (by omega) (by omega) ?_
          exact hC B N _ s (LI_K (K := K) (by omega) (LI_nx h rfl rfl (wP_1 (qb_rf w)) (LIp_1 hp (by omega) (qb_rf w) hR)))
        · exact absurd rfl h1086
    · exact absurd rfl h1070
  · refine go_aload_n hF d_La_law_995 rfl ?_
    refine go_aload_n hF d_La_law_996 rfl ?_
    refine go_iload hF d_La_law_997 rfl ?_
    refine go_iconst (v := 1) hF d_La_law_999 (by decide) ?_
    refine go_iadd hF d_La_law_1000 ?_
    refine gs_sld hF hX hbl d_La_law_1001 (ix1 (k := 1) (n := i) rfl) (by omega) (by omega) ?_
    refine go_aload_n hF d_La_law_1002 rfl ?_
    refine go_iload hF d_La_law_1003 rfl ?_
    refine go_iconst (v := 2) hF d_La_law_1005 (by decide) ?_
    refine go_iadd hF d_La_law_1006 ?_
    refine gs_sld hF hX hbl d_La_law_1007 (ix1 (k := 2) (n := i) rfl) (by omega) (by omega) ?_
    refine go_i2l hF d_La_law_1008 ?_
    refine go_bipush (v := 32) hF d_La_law_1009 (by decide) ?_
    refine go_lshl hF d_La_law_1011 ?_
    refine go_aload_n hF d_La_law_1012 rfl ?_
    refine go_iload hF d_La_law_1013 rfl ?_
    refine go_iconst (v := 3) hF d_La_law_1015 (by decide) ?_
    refine go_iadd hF d_La_law_1016 ?_
    refine gs_sld hF hX hbl d_La_law_1017 (ix1 (k := 3) (n := i) rfl) (by omega) (by omega) ?_
    refine go_i2l hF d_La_law_1018 ?_
    refine go_ldc2 hF kl_La_101 d_La_law_1019 ?_
    refine go_land hF d_La_law_1022 ?_
    refine go_lor hF d_La_law_1023 ?_
    refine go_aload_n hF d_La_law_1024 rfl ?_
    refine go_callSW hF hE hlo d_La_law_1025 (con_La_at hlt hb ho h2 h3 ok (xs (i + 1)) (lg2 (xs (i + 2)) (xs (i + 3)))) mw_La_at ms_La_at lk_La_129 ⟨rfl, rfl, by decide, by decide⟩ rfl (Nat.le_of_ble_eq_true rfl) ⟨by show _ ≤ 601024; omega, by show _ ≤ 7293034; omega⟩ (fun M => gx_no) rfl (fun v => ?_)
    refine go_and (fun hv => ?_)
    subst hv
    refine go_G (G' := gw E B (nx1 N) w) (fun H hG => hG.elim (fun z => absurd z.1 hT0) (fun z => z.2)) ?_
    refine go_G (G' := gw E B (nx1 N) (mW w (mS w))) (fun H hG => by rw [mW_w]; exact hG) ?_
    refine go_istore hF d_La_law_1028 (by decide) ?_
    refine go_lv (lv' := [(0, _), (1, _), (2, _), (3, _), (4, _), (5, _)]) ⟨rfl, rfl, rfl, rfl, rfl, rfl, trivial⟩ ?_
    refine go_aload_n hF d_La_law_1030 rfl ?_
    refine go_aload_n hF d_La_law_1031 rfl ?_
    refine go_iload hF d_La_law_1032 rfl ?_
    refine go_iconst (v := 1) hF d_La_law_1034 (by decide) ?_
    refine go_iadd hF d_La_law_1035 ?_
    refine gs_sld hF hX hbl d_La_law_1036 (ix1 (k := 1) (n := i) rfl) (by omega) (by omega) ?_
    refine go_aload_n hF d_La_law_1037 rfl ?_
    refine go_iload hF d_La_law_1038 rfl ?_
    refine go_iconst (v := 2) hF d_La_law_1040 (by decide) ?_
    refine go_iadd hF d_La_law_1041 ?_
    refine gs_sld hF hX hbl d_La_law_1042 (ix1 (k := 2) (n := i) rfl) (by omega) (by omega) ?_
    refine go_i2l hF d_La_law_1043 ?_
    refine go_bipush (v := 32) hF d_La_law_1044 (by decide) ?_
    refine go_lshl hF d_La_law_1046 ?_
    refine go_aload_n hF d_La_law_1047 rfl ?_
    refine go_iload hF d_La_law_1048 rfl ?_
    refine go_iconst (v := 3) hF d_La_law_1050 (by decide) ?_
    refine go_iadd hF d_La_law_1051 ?_
    refine gs_sld hF hX hbl d_La_law_1052 (ix1 (k := 3) (n := i) rfl) (by omega) (by omega) ?_
    refine go_i2l hF d_La_law_1053 ?_
    refine go_ldc2 hF kl_La_101 d_La_law_1054 ?_
    refine go_land hF d_La_law_1057 ?_
    refine go_lor hF d_La_law_1058 ?_
    refine go_callVX hF hE hlo d_La_law_1059 (con_Mo_at (w := w) (f := mS w) (c := w) (K := K) (N := (nx1 N)) (t := (lg2 (xs (i + 2)) (xs (i + 3)))) hlt h4 hR) mt_Mo_at mv_Mo_at lk_La_131 ⟨rfl, rfl, by decide, by decide⟩ rfl (Nat.le_of_ble_eq_true rfl) ⟨by show _ ≤ 601024; omega, by show _ ≤ 7293034; omega⟩ (fun H hG => gw_recv (q := (R_Mo, T_Mo, 9)) hK hG h4 rfl rfl (by decide) rfl) (fun M => gx_no) rfl (fun v => ?_)
    refine go_ex (fun b9 => ?_)
    refine go_and (fun hv => ?_)
    subst hv
    refine go_and (fun g1 => ?_)
    refine go_istore hF d_La_law_1062 (by decide) ?_
    refine go_lv (lv' := [(0, _), (1, _), (2, _), (3, _), (4, _), (5, _), (6, _)]) ⟨rfl, rfl, rfl, rfl, rfl, rfl, rfl, trivial⟩ ?_
    refine go_aload_n hF d_La_law_1064 rfl ?_
    refine go_callVX hF hE hlo d_La_law_1065 (con_Mo_thrown (w := sI w 4 0 0 0 0 (tA w (xs (i + 1)) (lg2 (xs (i + 2)) (xs (i + 3))))) (f := (mS w)) (N := (nx1 N)) hlt h4) mt_Mo_thrown mv_Mo_thrown lk_La_86 ⟨rfl, rfl, by decide, by decide⟩ rfl (Nat.le_of_ble_eq_true rfl) ⟨by show _ ≤ 601024; omega, by show _ ≤ 7293034; omega⟩ (fun H hG => gw_recv (q := (R_Mo, T_Mo, 9)) hK hG h4 rfl rfl (by decide) rfl) (fun M => gx_no) rfl (fun v => ?_)
    refine go_and (fun hv => ?_)
    subst hv
    rw [thr_0]
    refine go_iload hF d_La_law_1068 rfl ?_
    refine go_icmp_eq (tgt := 1075) hF d_La_law_1070 (by decide) (fun h1070 => ?_) (fun h1070 => ?_)
    · refine go_iload hF d_La_law_1075 rfl ?_
      refine go_if_ne (tgt := 1092) hF d_La_law_1077 (by decide) (fun h1077 => ?_) (fun h1077 => ?_)
      · refine go_goto (tgt := 1481) hF d_La_law_1092 (by decide) ?_
        refine go_lv (lv' := [(0, _), (1, _), (2, _), (3, _), (4, _)]) ⟨rfl, rfl, rfl, rfl, rfl, trivial⟩ ?_
        refine go_wd (k' := k + 89) (n' := n + 2891) (by omega) (by omega) ?_
        exact hC B (nx1 N) _ s (LI_K (K := K) (by omega) (LI_nx h rfl rfl (wP_0 (qb_rf w)) (LIp_0 hp (Nat.le_refl K) (qb_rf w) hR)))
      · exact absurd h1077 hT0
    · exact absurd rfl h1070
set_option maxHeartbeats 4000000 in
set_option maxRecDepth 100000 in
theorem law_value {F : gT} {E : gE} {B : bsT} {N : nwT} {w : wdT} (hF : Fb F c_La_law R_La 8 room_1) (hE : en E (gs F)) (hlo : gLo F = E.2.2.size) (hlt : (gl F).stackTraces = false) {b L : Nat} {xs : Nat → Int32} (hX : va_X b L xs (gs F) E.2.2) (hbl : b < E.2.2.size) (hL : L ≤ 2560) {i K k n s : Nat} (hi : i + 5 ≤ L) (hKK : K + 150 < 1000000000) (hk : k + 89 ≤ 601024) (hn : n + 2891 ≤ 7293034) (h : LI K B N w s)
    (hC : ∀ (B' : bsT) (N' : nwT) (w' : wdT) (s' : Nat), LI (K + 150) B' N' w' s' → Go F 1481 [(0, .ref b), (1, .ref (ad B' 1 0 0 0)), (2, .ref (ad B' 4 0 0 0)), (3, .ref (ad B' 3 0 0 0)), (4, .int (nI i))] [] (gw E B' N' w') (k + 89) (n + 2891)) : Go F 1095 [(0, .ref b), (1, .ref (ad B 1 0 0 0)), (2, .ref (ad B 4 0 0 0)), (3, .ref (ad B 3 0 0 0)), (4, .int (nI i))] [] (gw E B N w) k n := by
  have hK := hE.1
  have hT := hE.2.1
  obtain ⟨⟨ho, hb, h2, h3, h4⟩, hp, hsv, hon, hoff, h5, hO⟩ := id h
  have hR := hp.1
  have ok := hR.1
  by_cases hT0 : tV w (xs (i + 1)) = 0
  · refine go_aload_n hF d_La_law_1095 rfl ?_
    refine go_aload_n hF d_La_law_1096 rfl ?_
    refine go_iload hF d_La_law_1097 rfl ?_
    refine go_iconst (v := 1) hF d_La_law_1099 (by decide) ?_
    refine go_iadd hF d_La_law_1100 ?_
    refine gs_sld hF hX hbl d_La_law_1101 (ix1 (k := 1) (n := i) rfl) (by omega) (by omega) ?_
    refine go_aload_n hF d_La_law_1102 rfl ?_
    refine go_callSW hF hE hlo d_La_law_1103 (con_La_value hlt hb ho h2 h3 ok (xs (i + 1))) mw_La_value ms_La_value lk_La_132 ⟨rfl, rfl, by decide, by decide⟩ rfl (Nat.le_of_ble_eq_true rfl) ⟨by show _ ≤ 601024; omega, by show _ ≤ 7293034; omega⟩ (fun M => gx_no) rfl (fun v => ?_)
    refine go_and (fun hv => ?_)
    subst hv
    refine go_G (G' := gw E B N (sL (w) 3 0 0 0 0 (wI w 0 0 13 2 (nz (xs (i + 1)))).toInt64)) (fun H hG => hG.elim (fun z => z.2) (fun z => absurd hT0 z.1)) ?_
    refine go_G (G' := gw E B N (mW (sL (w) 3 0 0 0 0 (wI w 0 0 13 2 (nz (xs (i + 1)))).toInt64) (mS w))) (fun H hG => by rw [mW_qb1 (qb_rf w)]; exact hG) ?_
    refine go_istore hF d_La_law_1106 (by decide) ?_
    refine go_lv (lv' := [(0, _), (1, _), (2, _), (3, _), (4, _), (5, _)]) ⟨rfl, rfl, rfl, rfl, rfl, rfl, trivial⟩ ?_
    refine go_aload_n hF d_La_law_1108 rfl ?_
    refine go_aload_n hF d_La_law_1109 rfl ?_
    refine go_iload hF d_La_law_1110 rfl ?_
    refine go_iconst (v := 1) hF d_La_law_1112 (by decide) ?_
    refine go_iadd hF d_La_law_1113 ?_
    refine gs_sld hF hX hbl d_La_law_1114 (ix1 (k := 1) (n := i) rfl) (by omega) (by omega) ?_
    refine go_callVX hF hE hlo d_La_law_1115 (con_Mo_value (w := (sL (w) 3 0 0 0 0 (wI w 0 0 13 2 (nz (xs (i + 1)))).toInt64)) (f := mS w) (c := w) (K := K) (N := N) hlt h4 hR) mt_Mo_value mv_Mo_value lk_La_134 ⟨rfl, rfl, by decide, by decide⟩ rfl (Nat.le_of_ble_eq_true rfl) ⟨by show _ ≤ 601024; omega, by show _ ≤ 7293034; omega⟩ (fun H hG => gw_recv (q := (R_Mo, T_Mo, 9)) hK hG h4 rfl rfl (by decide) rfl) (fun M => gx_no) rfl (fun v => ?_)
    refine go_ex (fun b9 => ?_)
    refine go_and (fun hv => ?_)
    subst hv
    refine go_and (fun g1 => ?_)
    have e9 := g1 hT0
    subst e9
    refine go_istore hF d_La_law_1118 (by decide) ?_
    refine go_lv (lv' := [(0, _), (1, _), (2, _), (3, _), (4, _), (5, _), (6, _)]) ⟨rfl, rfl, rfl, rfl, rfl, rfl, rfl, trivial⟩ ?_
    refine go_aload_n hF d_La_law_1120 rfl ?_
    refine go_callVX hF hE hlo d_La_law_1121 (con_Mo_thrown (w := sI (sL (w) 3 0 0 0 0 (wI w 0 0 13 2 (nz (xs (i + 1)))).toInt64) 4 0 0 0 0 (tV w (xs (i + 1)))) (f := (mS w)) (N := N) hlt h4) mt_Mo_thrown mv_Mo_thrown lk_La_86 ⟨rfl, rfl, by decide, by decide⟩ rfl (Nat.le_of_ble_eq_true rfl) ⟨by show _ ≤ 601024; omega, by show _ ≤ 7293034; omega⟩ (fun H hG => gw_recv (q := (R_Mo, T_Mo, 9)) hK hG h4 rfl rfl (by decide) rfl) (fun M => gx_no) rfl (fun v => ?_)
    refine go_and (fun hv => ?_)
    subst hv
    rw [thr_0]
    refine go_iload hF d_La_law_1124 rfl ?_
    refine go_icmp_eq (tgt := 1131) hF d_La_law_1126 (by decide) (fun h1126 => ?_) (fun h1126 => ?_)
    · refine go_iload hF d_La_law_1131 rfl ?_
      refine go_if_ne (tgt := 1148) hF d_La_law_1133 (by decide) (fun h1133 => ?_) (fun h1133 => ?_)
      · exact absurd hT0 h1133
      · refine go_aload_n hF d_La_law_1136 rfl ?_
        refine go_iconst (v := 0) hF d_La_law_1137 (by decide) ?_
        refine gs_lald hF hK hT d_La_law_1138 h3 rfl rfl (show (0 : Int32) = nI 0 from rfl) (by decide) (by decide) ?_
        rw [out_v]
        refine go_iload hF d_La_law_1139 rfl ?_
        refine go_i2l hF d_La_law_1141 ?_
        refine go_lif_eq (tgt := 1148) hF d_La_law_1142 d_La_law_1143 (by decide) (fun h1142 => ?_) (fun h1142 => ?_)
        · refine go_goto (tgt := 1481) hF d_La_law_1148 (by decide) ?_
          refine go_lv (lv' := [(0, _), (1, _), (2, _), (3, _), (4, _)]) ⟨rfl, rfl, rfl, rfl, rfl, trivial⟩ ?_
          refine go_wd (k' := k + 89) (n' := n + 2891) (by omega) (by omega) ?_
          exact hC B N _ s (LI_K (K := K) (by omega) (LI_nx h rfl rfl (wP_1 (qb_rf w)) (LIp_1 hp (by omega) (qb_rf w) hR)))
        · exact absurd rfl h1142
    · exact absurd rfl h1126
  · refine go_aload_n hF d_La_law_1095 rfl ?_
    refine go_aload_n hF d_La_law_1096 rfl ?_
    refine go_iload hF d_La_law_1097 rfl ?_
    refine go_iconst (v := 1) hF d_La_law_1099 (by decide) ?_
    refine go_iadd hF d_La_law_1100 ?_
    refine gs_sld hF hX hbl d_La_law_1101 (ix1 (k := 1) (n := i) rfl) (by omega) (by omega) ?_
    refine go_aload_n hF d_La_law_1102 rfl ?_
    refine go_callSW hF hE hlo d_La_law_1103 (con_La_value hlt hb ho h2 h3 ok (xs (i + 1))) mw_La_value ms_La_value lk_La_132 ⟨rfl, rfl, by decide, by decide⟩ rfl (Nat.le_of_ble_eq_true rfl) ⟨by show _ ≤ 601024; omega, by show _ ≤ 7293034; omega⟩ (fun M => gx_no) rfl (fun v => ?_)
    refine go_and (fun hv => ?_)
    subst hv
    refine go_G (G' := gw E B (nx1 N) w) (fun H hG => hG.elim (fun z => absurd z.1 hT0) (fun z => z.2)) ?_
    refine go_G (G' := gw E B (nx1 N) (mW w (mS w))) (fun H hG => by rw [mW_w]; exact hG) ?_
    refine go_istore hF d_La_law_1106 (by decide) ?_
    refine go_lv (lv' := [(0, _), (1, _), (2, _), (3, _), (4, _), (5, _)]) ⟨rfl, rfl, rfl, rfl, rfl, rfl, trivial⟩ ?_
    refine go_aload_n hF d_La_law_1108 rfl ?_
    refine go_aload_n hF d_La_law_1109 rfl ?_
    refine go_iload hF d_La_law_1110 rfl ?_
    refine go_iconst (v := 1) hF d_La_law_1112 (by decide) ?_
    refine go_iadd hF d_La_law_1113 ?_
    refine gs_sld hF hX hbl d_La_law_1114 (ix1 (k := 1) (n := i) rfl) (by omega) (by omega) ?_
    refine go_callVX hF hE hlo d_La_law_1115 (con_Mo_value (w := w) (f := mS w) (c := w) (K := K) (N := (nx1 N)) hlt h4 hR) mt_Mo_value mv_Mo_value lk_La_134 ⟨rfl, rfl, by decide, by decide⟩ rfl (Nat.le_of_ble_eq_true rfl) ⟨by show _ ≤ 601024; omega, by show _ ≤ 7293034; omega⟩ (fun H hG => gw_recv (q := (R_Mo, T_Mo, 9)) hK hG h4 rfl rfl (by decide) rfl) (fun M => gx_no) rfl (fun v => ?_)
    refine go_ex (fun b9 => ?_)
    refine go_and (fun hv => ?_)
    subst hv
    refine go_and (fun g1 => ?_)
    refine go_istore hF d_La_law_1118 (by decide) ?_
    refine go_lv (lv' := [(0, _), (1, _), (2, _), (3, _), (4, _), (5, _), (6, _)]) ⟨rfl, rfl, rfl, rfl, rfl, rfl, rfl, trivial⟩ ?_
    refine go_aload_n hF d_La_law_1120 rfl ?_
    refine go_callVX hF hE hlo d_La_law_1121 (con_Mo_thrown (w := sI w 4 0 0 0 0 (tV w (xs (i + 1)))) (f := (mS w)) (N := (nx1 N)) hlt h4) mt_Mo_thrown mv_Mo_thrown lk_La_86 ⟨rfl, rfl, by decide, by decide⟩ rfl (Nat.le_of_ble_eq_true rfl) ⟨by show _ ≤ 601024; omega, by show _ ≤ 7293034; omega⟩ (fun H hG => gw_recv (q := (R_Mo, T_Mo, 9)) hK hG h4 rfl rfl (by decide) rfl) (fun M => gx_no) rfl (fun v => ?_)
    refine go_and (fun hv => ?_)
    subst hv
    rw [thr_0]
    refine go_iload hF d_La_law_1124 rfl ?_
    refine go_icmp_eq (tgt := 1131) hF d_La_law_1126 (by decide) (fun h1126 => ?_) (fun h1126 => ?_)
    · refine go_iload hF d_La_law_1131 rfl ?_
      refine go_if_ne (tgt := 1148) hF d_La_law_1133 (by decide) (fun h1133 => ?_) (fun h1133 => ?_)
      · refine go_goto (tgt := 1481) hF d_La_law_1148 (by decide) ?_
        refine go_lv (lv' := [(0, _), (1, _), (2, _), (3, _), (4, _)]) ⟨rfl, rfl, rfl, rfl, rfl, trivial⟩ ?_
        refine go_wd (k' := k + 89) (n' := n + 2891) (by omega) (by omega) ?_
        exact hC B (nx1 N) _ s (LI_K (K := K) (by omega) (LI_nx h rfl rfl (wP_0 (qb_rf w)) (LIp_0 hp (Nat.le_refl K) (qb_rf w) hR)))
      · exact absurd h1133 hT0
    · exact absurd rfl h1126
set_option maxHeartbeats 4000000 in
set_option maxRecDepth 100000 in
theorem law_change {F : gT} {E : gE} {B : bsT} {N : nwT} {w : wdT} (hF : Fb F c_La_law R_La 8 room_1) (hE : en E (gs F)) (hlo : gLo F = E.2.2.size) (hlt : (gl F).stackTraces = false) {b L : Nat} {xs : Nat → Int32} (hX : va_X b L xs (gs F) E.2.2) (hbl : b < E.2.2.size) (hL : L ≤ 2560) {i K k n s : Nat} (hi : i + 5 ≤ L) (hKK : K + 150 < 1000000000) (hk : k + 89 ≤ 601024) (hn : n + 2891 ≤ 7293034) (h : LI K B N w s)
    (hC : ∀ (B' : bsT) (N' : nwT) (w' : wdT) (s' : Nat), LI (K + 150) B' N' w' s' → Go F 1481 [(0, .ref b), (1, .ref (ad B' 1 0 0 0)), (2, .ref (ad B' 4 0 0 0)), (3, .ref (ad B' 3 0 0 0)), (4, .int (nI i))] [] (gw E B' N' w') (k + 89) (n + 2891)) : Go F 1151 [(0, .ref b), (1, .ref (ad B 1 0 0 0)), (2, .ref (ad B 4 0 0 0)), (3, .ref (ad B 3 0 0 0)), (4, .int (nI i))] [] (gw E B N w) k n := by
  have hK := hE.1
  have hT := hE.2.1
  obtain ⟨⟨ho, hb, h2, h3, h4⟩, hp, hsv, hon, hoff, h5, hO⟩ := id h
  have hR := hp.1
  have ok := hR.1
  by_cases hT0 : tX w (xs (i + 1)) (xs (i + 2)) = 0
  · refine go_aload_n hF d_La_law_1151 rfl ?_
    refine go_aload_n hF d_La_law_1152 rfl ?_
    refine go_iload hF d_La_law_1153 rfl ?_
    refine go_iconst (v := 1) hF d_La_law_1155 (by decide) ?_
    refine go_iadd hF d_La_law_1156 ?_
    refine gs_sld hF hX hbl d_La_law_1157 (ix1 (k := 1) (n := i) rfl) (by omega) (by omega) ?_
    refine go_aload_n hF d_La_law_1158 rfl ?_
    refine go_iload hF d_La_law_1159 rfl ?_
    refine go_iconst (v := 2) hF d_La_law_1161 (by decide) ?_
    refine go_iadd hF d_La_law_1162 ?_
    refine gs_sld hF hX hbl d_La_law_1163 (ix1 (k := 2) (n := i) rfl) (by omega) (by omega) ?_
    refine go_aload_n hF d_La_law_1164 rfl ?_
    refine go_callSW hF hE hlo d_La_law_1165 (con_La_change hlt hb ho h2 h3 ok (xs (i + 1)) (xs (i + 2))) mw_La_change ms_La_change lk_La_135 ⟨rfl, rfl, by decide, by decide⟩ rfl (Nat.le_of_ble_eq_true rfl) ⟨by show _ ≤ 601024; omega, by show _ ≤ 7293034; omega⟩ (fun M => gx_no) rfl (fun v => ?_)
    refine go_and (fun hv => ?_)
    subst hv
    refine go_G (G' := gw E B N (sL (w) 3 0 0 0 0 (chg w (xs (i + 1)) (xs (i + 2))).toInt64)) (fun H hG => hG.elim (fun z => z.2) (fun z => absurd hT0 z.1)) ?_
    refine go_G (G' := gw E B N (mW (sL (w) 3 0 0 0 0 (chg w (xs (i + 1)) (xs (i + 2))).toInt64) (mS w))) (fun H hG => by rw [mW_qb1 (qb_rf w)]; exact hG) ?_
    refine go_istore hF d_La_law_1168 (by decide) ?_
    refine go_lv (lv' := [(0, _), (1, _), (2, _), (3, _), (4, _), (5, _)]) ⟨rfl, rfl, rfl, rfl, rfl, rfl, trivial⟩ ?_
    refine go_aload_n hF d_La_law_1170 rfl ?_
    refine go_aload_n hF d_La_law_1171 rfl ?_
    refine go_iload hF d_La_law_1172 rfl ?_
    refine go_iconst (v := 1) hF d_La_law_1174 (by decide) ?_
    refine go_iadd hF d_La_law_1175 ?_
    refine gs_sld hF hX hbl d_La_law_1176 (ix1 (k := 1) (n := i) rfl) (by omega) (by omega) ?_
    refine go_aload_n hF d_La_law_1177 rfl ?_
    refine go_iload hF d_La_law_1178 rfl ?_
    refine go_iconst (v := 2) hF d_La_law_1180 (by decide) ?_
    refine go_iadd hF d_La_law_1181 ?_
    refine gs_sld hF hX hbl d_La_law_1182 (ix1 (k := 2) (n := i) rfl) (by omega) (by omega) ?_
    refine go_callVX hF hE hlo d_La_law_1183 (con_Mo_change (w := (sL (w) 3 0 0 0 0 (chg w (xs (i + 1)) (xs (i + 2))).toInt64)) (f := mS w) (c := w) (K := K) (N := N) hlt h4 hR) mt_Mo_change mv_Mo_change lk_La_138 ⟨rfl, rfl, by decide, by decide⟩ rfl (Nat.le_of_ble_eq_true rfl) ⟨by show _ ≤ 601024; omega, by show _ ≤ 7293034; omega⟩ (fun H hG => gw_recv (q := (R_Mo, T_Mo, 9)) hK hG h4 rfl rfl (by decide) rfl) (fun M => gx_no) rfl (fun v => ?_)
    refine go_ex (fun b9 => ?_)
    refine go_and (fun hv => ?_)
    subst hv
    refine go_and (fun g1 => ?_)
    have e9 := g1 hT0
    subst e9
    refine go_istore hF d_La_law_1186 (by decide) ?_
    refine go_lv (lv' := [(0, _), (1, _), (2, _), (3, _), (4, _), (5, _), (6, _)]) ⟨rfl, rfl, rfl, rfl, rfl, rfl, rfl, trivial⟩ ?_
    refine go_aload_n hF d_La_law_1188 rfl ?_
    refine go_callVX hF hE hlo d_La_law_1189 (con_Mo_thrown (w := sI (sL (w) 3 0 0 0 0 (chg w (xs (i + 1)) (xs (i + 2))).toInt64) 4 0 0 0 0 (tX w (xs (i + 1)) (xs (i + 2)))) (f := (mS w)) (N := N) hlt h4) mt_Mo_thrown mv_Mo_thrown lk_La_86 ⟨rfl, rfl, by decide, by decide⟩ rfl (Nat.le_of_ble_eq_true rfl) ⟨by show _ ≤ 601024; omega, by show _ ≤ 7293034; omega⟩ (fun H hG => gw_recv (q := (R_Mo, T_Mo, 9)) hK hG h4 rfl rfl (by decide) rfl) (fun M => gx_no) rfl (fun v => ?_)
    refine go_and (fun hv => ?_)
    subst hv
    rw [thr_0]
    refine go_iload hF d_La_law_1192 rfl ?_
    refine go_icmp_eq (tgt := 1199) hF d_La_law_1194 (by decide) (fun h1194 => ?_) (fun h1194 => ?_)
    · refine go_iload hF d_La_law_1199 rfl ?_
      refine go_if_ne (tgt := 1216) hF d_La_law_1201 (by decide) (fun h1201 => ?_) (fun h1201 => ?_)
      · exact absurd hT0 h1201
      · refine go_aload_n hF d_La_law_1204 rfl ?_
        refine go_iconst (v := 0) hF d_La_law_1205 (by decide) ?_
        refine gs_lald hF hK hT d_La_law_1206 h3 rfl rfl (show (0 : Int32) = nI 0 from rfl) (by decide) (by decide) ?_
        rw [out_v]
        refine go_iload hF d_La_law_1207 rfl ?_
        refine go_i2l hF d_La_law_1209 ?_
        refine go_lif_eq (tgt := 1216) hF d_La_law_1210 d_La_law_1211 (by decide) (fun h1210 => ?_) (fun h1210 => ?_)
        · refine go_goto (tgt := 1481) hF d_La_law_1216 (by decide) ?_
          refine go_lv (lv' := [(0, _), (1, _), (2, _), (3, _), (4, _)]) ⟨rfl, rfl, rfl, rfl, rfl, trivial⟩ ?_
          refine go_wd (k' := k + 89) (n' := n + 2891) (by omega) (by omega) ?_
          exact hC B N _ s (LI_K (K := K) (by omega) (LI_nx h rfl rfl (wP_1 (qb_rf w)) (LIp_1 hp (by omega) (qb_rf w) hR)))
        · exact absurd rfl h1210
    · exact absurd rfl h1194
  · refine go_aload_n hF d_La_law_1151 rfl ?_
    refine go_aload_n hF d_La_law_1152 rfl ?_
    refine go_iload hF d_La_law_1153 rfl ?_
    refine go_iconst (v := 1) hF d_La_law_1155 (by decide) ?_
    refine go_iadd hF d_La_law_1156 ?_
    refine gs_sld hF hX hbl d_La_law_1157 (ix1 (k := 1) (n := i) rfl) (by omega) (by omega) ?_
    refine go_aload_n hF d_La_law_1158 rfl ?_
    refine go_iload hF d_La_law_1159 rfl ?_
    refine go_iconst (v := 2) hF d_La_law_1161 (by decide) ?_
    refine go_iadd hF d_La_law_1162 ?_
    refine gs_sld hF hX hbl d_La_law_1163 (ix1 (k := 2) (n := i) rfl) (by omega) (by omega) ?_
    refine go_aload_n hF d_La_law_1164 rfl ?_
    refine go_callSW hF hE hlo d_La_law_1165 (con_La_change hlt hb ho h2 h3 ok (xs (i + 1)) (xs (i + 2))) mw_La_change ms_La_change lk_La_135 ⟨rfl, rfl, by decide, by decide⟩ rfl (Nat.le_of_ble_eq_true rfl) ⟨by show _ ≤ 601024; omega, by show _ ≤ 7293034; omega⟩ (fun M => gx_no) rfl (fun v => ?_)
    refine go_and (fun hv => ?_)
    subst hv
    refine go_G (G' := gw E B (nx1 N) w) (fun H hG => hG.elim (fun z => absurd z.1 hT0) (fun z => z.2)) ?_
    refine go_G (G' := gw E B (nx1 N) (mW w (mS w))) (fun H hG => by rw [mW_w]; exact hG) ?_
    refine go_istore hF d_La_law_1168 (by decide) ?_
    refine go_lv (lv' := [(0, _), (1, _), (2, _), (3, _), (4, _), (5, _)]) ⟨rfl, rfl, rfl, rfl, rfl, rfl, trivial⟩ ?_
    refine go_aload_n hF d_La_law_1170 rfl ?_
    refine go_aload_n hF d_La_law_1171 rfl ?_
    refine go_iload hF d_La_law_1172 rfl ?_
    refine go_iconst (v := 1) hF d_La_law_1174 (by decide) ?_
    refine go_iadd hF d_La_law_1175 ?_
    refine gs_sld hF hX hbl d_La_law_1176 (ix1 (k := 1) (n := i) rfl) (by omega) (by omega) ?_
    refine go_aload_n hF d_La_law_1177 rfl ?_
    refine go_iload hF d_La_law_1178 rfl ?_
    refine go_iconst (v := 2) hF d_La_law_1180 (by decide) ?_
    refine go_iadd hF d_La_law_1181 ?_
    refine gs_sld hF hX hbl d_La_law_1182 (ix1 (k := 2) (n := i) rfl) (by omega) (by omega) ?_
    refine go_callVX hF hE hlo d_La_law_1183 (con_Mo_change (w := w) (f := mS w) (c := w) (K := K) (N := (nx1 N)) hlt h4 hR) mt_Mo_change mv_Mo_change lk_La_138 ⟨rfl, rfl, by decide, by decide⟩ rfl (Nat.le_of_ble_eq_true rfl) ⟨by show _ ≤ 601024; omega, by show _ ≤ 7293034; omega⟩ (fun H hG => gw_recv (q := (R_Mo, T_Mo, 9)) hK hG h4 rfl rfl (by decide) rfl) (fun M => gx_no) rfl (fun v => ?_)
    refine go_ex (fun b9 => ?_)
    refine go_and (fun hv => ?_)
    subst hv
    refine go_and (fun g1 => ?_)
    refine go_istore hF d_La_law_1186 (by decide) ?_
    refine go_lv (lv' := [(0, _), (1, _), (2, _), (3, _), (4, _), (5, _), (6, _)]) ⟨rfl, rfl, rfl, rfl, rfl, rfl, rfl, trivial⟩ ?_
    refine go_aload_n hF d_La_law_1188 rfl ?_
    refine go_callVX hF hE hlo d_La_law_1189 (con_Mo_thrown (w := sI w 4 0 0 0 0 (tX w (xs (i + 1)) (xs (i + 2)))) (f := (mS w)) (N := (nx1 N)) hlt h4) mt_Mo_thrown mv_Mo_thrown lk_La_86 ⟨rfl, rfl, by decide, by decide⟩ rfl (Nat.le_of_ble_eq_true rfl) ⟨by show _ ≤ 601024; omega, by show _ ≤ 7293034; omega⟩ (fun H hG => gw_recv (q := (R_Mo, T_Mo, 9)) hK hG h4 rfl rfl (by decide) rfl) (fun M => gx_no) rfl (fun v => ?_)
    refine go_and (fun hv => ?_)
    subst hv
    rw [thr_0]
    refine go_iload hF d_La_law_1192 rfl ?_
    refine go_icmp_eq (tgt := 1199) hF d_La_law_1194 (by decide) (fun h1194 => ?_) (fun h1194 => ?_)
    · refine go_iload hF d_La_law_1199 rfl ?_
      refine go_if_ne (tgt := 1216) hF d_La_law_1201 (by decide) (fun h1201 => ?_) (fun h1201 => ?_)
      · refine go_goto (tgt := 1481) hF d_La_law_1216 (by decide) ?_
        refine go_lv (lv' := [(0, _), (1, _), (2, _), (3, _), (4, _)]) ⟨rfl, rfl, rfl, rfl, rfl, trivial⟩ ?_
        refine go_wd (k' := k + 89) (n' := n + 2891) (by omega) (by omega) ?_
        exact hC B (nx1 N) _ s (LI_K (K := K) (by omega) (LI_nx h rfl rfl (wP_0 (qb_rf w)) (LIp_0 hp (Nat.le_refl K) (qb_rf w) hR)))
      · exact absurd h1201 hT0
    · exact absurd rfl h1194
set_option maxHeartbeats 4000000 in
set_option maxRecDepth 100000 in
theorem law_counted {F : gT} {E : gE} {B : bsT} {N : nwT} {w : wdT} (hF : Fb F c_La_law R_La 8 room_1) (hE : en E (gs F)) (hlo : gLo F = E.2.2.size) (hlt : (gl F).stackTraces = false) {b L : Nat} {xs : Nat → Int32} (hX : va_X b L xs (gs F) E.2.2) (hbl : b < E.2.2.size) (hL : L ≤ 2560) {i K k n s : Nat} (hi : i + 5 ≤ L) (hKK : K + 150 < 1000000000) (hk : k + 89 ≤ 601024) (hn : n + 2891 ≤ 7293034) (h : LI K B N w s)
    (hC : ∀ (B' : bsT) (N' : nwT) (w' : wdT) (s' : Nat), LI (K + 150) B' N' w' s' → Go F 1481 [(0, .ref b), (1, .ref (ad B' 1 0 0 0)), (2, .ref (ad B' 4 0 0 0)), (3, .ref (ad B' 3 0 0 0)), (4, .int (nI i))] [] (gw E B' N' w') (k + 89) (n + 2891)) : Go F 1219 [(0, .ref b), (1, .ref (ad B 1 0 0 0)), (2, .ref (ad B 4 0 0 0)), (3, .ref (ad B 3 0 0 0)), (4, .int (nI i))] [] (gw E B N w) k n := by
  have hK := hE.1
  have hT := hE.2.1
  obtain ⟨⟨ho, hb, h2, h3, h4⟩, hp, hsv, hon, hoff, h5, hO⟩ := id h
  have hR := hp.1
  have ok := hR.1
  by_cases hT0 : tV w (xs (i + 1)) = 0
  · refine go_aload_n hF d_La_law_1219 rfl ?_
    refine go_aload_n hF d_La_law_1220 rfl ?_
    refine go_iload hF d_La_law_1221 rfl ?_
    refine go_iconst (v := 1) hF d_La_law_1223 (by decide) ?_
    refine go_iadd hF d_La_law_1224 ?_
    refine gs_sld hF hX hbl d_La_law_1225 (ix1 (k := 1) (n := i) rfl) (by omega) (by omega) ?_
    refine go_aload_n hF d_La_law_1226 rfl ?_
    refine go_callSW hF hE hlo d_La_law_1227 (con_La_counted hlt hb ho h2 h3 ok (xs (i + 1))) mw_La_counted ms_La_counted lk_La_139 ⟨rfl, rfl, by decide, by decide⟩ rfl (Nat.le_of_ble_eq_true rfl) ⟨by show _ ≤ 601024; omega, by show _ ≤ 7293034; omega⟩ (fun M => gx_no) rfl (fun v => ?_)
    refine go_and (fun hv => ?_)
    subst hv
    refine go_G (G' := gw E B N (sL (w) 3 0 0 0 0 (wL w 0 0 13 3 (nz (xs (i + 1)))))) (fun H hG => hG.elim (fun z => z.2) (fun z => absurd hT0 z.1)) ?_
    refine go_G (G' := gw E B N (mW (sL (w) 3 0 0 0 0 (wL w 0 0 13 3 (nz (xs (i + 1))))) (mS w))) (fun H hG => by rw [mW_qb1 (qb_rf w)]; exact hG) ?_
    refine go_istore hF d_La_law_1230 (by decide) ?_
    refine go_lv (lv' := [(0, _), (1, _), (2, _), (3, _), (4, _), (5, _)]) ⟨rfl, rfl, rfl, rfl, rfl, rfl, trivial⟩ ?_
    refine go_aload_n hF d_La_law_1232 rfl ?_
    refine go_aload_n hF d_La_law_1233 rfl ?_
    refine go_iload hF d_La_law_1234 rfl ?_
    refine go_iconst (v := 1) hF d_La_law_1236 (by decide) ?_
    refine go_iadd hF d_La_law_1237 ?_
    refine gs_sld hF hX hbl d_La_law_1238 (ix1 (k := 1) (n := i) rfl) (by omega) (by omega) ?_
    refine go_callVX hF hE hlo d_La_law_1239 (con_Mo_counted (w := (sL (w) 3 0 0 0 0 (wL w 0 0 13 3 (nz (xs (i + 1)))))) (f := mS w) (c := w) (K := K) (N := N) hlt h4 hR) mt_Mo_counted mv_Mo_counted lk_La_141 ⟨rfl, rfl, by decide, by decide⟩ rfl (Nat.le_of_ble_eq_true rfl) ⟨by show _ ≤ 601024; omega, by show _ ≤ 7293034; omega⟩ (fun H hG => gw_recv (q := (R_Mo, T_Mo, 9)) hK hG h4 rfl rfl (by decide) rfl) (fun M => gx_no) rfl (fun v => ?_)
    refine go_ex (fun b9 => ?_)
    refine go_and (fun hv => ?_)
    subst hv
    refine go_and (fun g1 => ?_)
    have e9 := g1 hT0
    subst e9
    refine go_lstore hF d_La_law_1242 (by decide) ?_
    refine go_lv (lv' := [(0, _), (1, _), (2, _), (3, _), (4, _), (5, _), (6, _)]) ⟨rfl, rfl, rfl, rfl, rfl, rfl, rfl, trivial⟩ ?_
    refine go_aload_n hF d_La_law_1244 rfl ?_
    refine go_callVX hF hE hlo d_La_law_1245 (con_Mo_thrown (w := sI (sL (w) 3 0 0 0 0 (wL w 0 0 13 3 (nz (xs (i + 1))))) 4 0 0 0 0 (tV w (xs (i + 1)))) (f := (mS w)) (N := N) hlt h4) mt_Mo_thrown mv_Mo_thrown lk_La_86 ⟨rfl, rfl, by decide, by decide⟩ rfl (Nat.le_of_ble_eq_true rfl) ⟨by show _ ≤ 601024; omega, by show _ ≤ 7293034; omega⟩ (fun H hG => gw_recv (q := (R_Mo, T_Mo, 9)) hK hG h4 rfl rfl (by decide) rfl) (fun M => gx_no) rfl (fun v => ?_)
    refine go_and (fun hv => ?_)
    subst hv
    rw [thr_0]
    refine go_iload hF d_La_law_1248 rfl ?_
    refine go_icmp_eq (tgt := 1255) hF d_La_law_1250 (by decide) (fun h1250 => ?_) (fun h1250 => ?_)
    · refine go_iload hF d_La_law_1255 rfl ?_
      refine go_if_ne (tgt := 1271) hF d_La_law_1257 (by decide) (fun h1257 => ?_) (fun h1257 => ?_)
      · exact absurd hT0 h1257
      · refine go_aload_n hF d_La_law_1260 rfl ?_
        refine go_iconst (v := 0) hF d_La_law_1261 (by decide) ?_
        refine gs_lald hF hK hT d_La_law_1262 h3 rfl rfl (show (0 : Int32) = nI 0 from rfl) (by decide) (by decide) ?_
        rw [out_v]
        refine go_lload hF d_La_law_1263 rfl ?_
        refine go_lif_eq (tgt := 1271) hF d_La_law_1265 d_La_law_1266 (by decide) (fun h1265 => ?_) (fun h1265 => ?_)
        · refine go_goto (tgt := 1481) hF d_La_law_1271 (by decide) ?_
          refine go_lv (lv' := [(0, _), (1, _), (2, _), (3, _), (4, _)]) ⟨rfl, rfl, rfl, rfl, rfl, trivial⟩ ?_
          refine go_wd (k' := k + 89) (n' := n + 2891) (by omega) (by omega) ?_
          exact hC B N _ s (LI_K (K := K) (by omega) (LI_nx h rfl rfl (wP_1 (qb_rf w)) (LIp_1 hp (by omega) (qb_rf w) hR)))
        · exact absurd rfl h1265
    · exact absurd rfl h1250
  · refine go_aload_n hF d_La_law_1219 rfl ?_
    refine go_aload_n hF d_La_law_1220 rfl ?_
    refine go_iload hF d_La_law_1221 rfl ?_
    refine go_iconst (v := 1) hF d_La_law_1223 (by decide) ?_
    refine go_iadd hF d_La_law_1224 ?_
    refine gs_sld hF hX hbl d_La_law_1225 (ix1 (k := 1) (n := i) rfl) (by omega) (by omega) ?_
    refine go_aload_n hF d_La_law_1226 rfl ?_
    refine go_callSW hF hE hlo d_La_law_1227 (con_La_counted hlt hb ho h2 h3 ok (xs (i + 1))) mw_La_counted ms_La_counted lk_La_139 ⟨rfl, rfl, by decide, by decide⟩ rfl (Nat.le_of_ble_eq_true rfl) ⟨by show _ ≤ 601024; omega, by show _ ≤ 7293034; omega⟩ (fun M => gx_no) rfl (fun v => ?_)
    refine go_and (fun hv => ?_)
    subst hv
    refine go_G (G' := gw E B (nx1 N) w) (fun H hG => hG.elim (fun z => absurd z.1 hT0) (fun z => z.2)) ?_
    refine go_G (G' := gw E B (nx1 N) (mW w (mS w))) (fun H hG => by rw [mW_w]; exact hG) ?_
    refine go_istore hF d_La_law_1230 (by decide) ?_
    refine go_lv (lv' := [(0, _), (1, _), (2, _), (3, _), (4, _), (5, _)]) ⟨rfl, rfl, rfl, rfl, rfl, rfl, trivial⟩ ?_
    refine go_aload_n hF d_La_law_1232 rfl ?_
    refine go_aload_n hF d_La_law_1233 rfl ?_
    refine go_iload hF d_La_law_1234 rfl ?_
    refine go_iconst (v := 1) hF d_La_law_1236 (by decide) ?_
    refine go_iadd hF d_La_law_1237 ?_
    refine gs_sld hF hX hbl d_La_law_1238 (ix1 (k := 1) (n := i) rfl) (by omega) (by omega) ?_
    refine go_callVX hF hE hlo d_La_law_1239 (con_Mo_counted (w := w) (f := mS w) (c := w) (K := K) (N := (nx1 N)) hlt h4 hR) mt_Mo_counted mv_Mo_counted lk_La_141 ⟨rfl, rfl, by decide, by decide⟩ rfl (Nat.le_of_ble_eq_true rfl) ⟨by show _ ≤ 601024; omega, by show _ ≤ 7293034; omega⟩ (fun H hG => gw_recv (q := (R_Mo, T_Mo, 9)) hK hG h4 rfl rfl (by decide) rfl) (fun M => gx_no) rfl (fun v => ?_)
    refine go_ex (fun b9 => ?_)
    refine go_and (fun hv => ?_)
    subst hv
    refine go_and (fun g1 => ?_)
    refine go_lstore hF d_La_law_1242 (by decide) ?_
    refine go_lv (lv' := [(0, _), (1, _), (2, _), (3, _), (4, _), (5, _), (6, _)]) ⟨rfl, rfl, rfl, rfl, rfl, rfl, rfl, trivial⟩ ?_
    refine go_aload_n hF d_La_law_1244 rfl ?_
    refine go_callVX hF hE hlo d_La_law_1245 (con_Mo_thrown (w := sI w 4 0 0 0 0 (tV w (xs (i + 1)))) (f := (mS w)) (N := (nx1 N)) hlt h4) mt_Mo_thrown mv_Mo_thrown lk_La_86 ⟨rfl, rfl, by decide, by decide⟩ rfl (Nat.le_of_ble_eq_true rfl) ⟨by show _ ≤ 601024; omega, by show _ ≤ 7293034; omega⟩ (fun H hG => gw_recv (q := (R_Mo, T_Mo, 9)) hK hG h4 rfl rfl (by decide) rfl) (fun M => gx_no) rfl (fun v => ?_)
    refine go_and (fun hv => ?_)
    subst hv
    rw [thr_0]
    refine go_iload hF d_La_law_1248 rfl ?_
    refine go_icmp_eq (tgt := 1255) hF d_La_law_1250 (by decide) (fun h1250 => ?_) (fun h1250 => ?_)
    · refine go_iload hF d_La_law_1255 rfl ?_
      refine go_if_ne (tgt := 1271) hF d_La_law_1257 (by decide) (fun h1257 => ?_) (fun h1257 => ?_)
      · refine go_goto (tgt := 1481) hF d_La_law_1271 (by decide) ?_
        refine go_lv (lv' := [(0, _), (1, _), (2, _), (3, _), (4, _)]) ⟨rfl, rfl, rfl, rfl, rfl, trivial⟩ ?_
        refine go_wd (k' := k + 89) (n' := n + 2891) (by omega) (by omega) ?_
        exact hC B (nx1 N) _ s (LI_K (K := K) (by omega) (LI_nx h rfl rfl (wP_0 (qb_rf w)) (LIp_0 hp (Nat.le_refl K) (qb_rf w) hR)))
      · exact absurd h1257 hT0
    · exact absurd rfl h1250
set_option maxHeartbeats 4000000 in
set_option maxRecDepth 100000 in
theorem law_write {F : gT} {E : gE} {B : bsT} {N : nwT} {w : wdT} (hF : Fb F c_La_law R_La 8 room_1) (hE : en E (gs F)) (hlo : gLo F = E.2.2.size) (hlt : (gl F).stackTraces = false) {b L : Nat} {xs : Nat → Int32} (hX : va_X b L xs (gs F) E.2.2) (hbl : b < E.2.2.size) (hL : L ≤ 2560) {i K k n s : Nat} (hi : i + 5 ≤ L) (hKK : K + 150 < 1000000000) (hk : k + 89 ≤ 601024) (hn : n + 2891 ≤ 7293034) (h : LI K B N w s)
    (hC : ∀ (B' : bsT) (N' : nwT) (w' : wdT) (s' : Nat), LI (K + 150) B' N' w' s' → Go F 1481 [(0, .ref b), (1, .ref (ad B' 1 0 0 0)), (2, .ref (ad B' 4 0 0 0)), (3, .ref (ad B' 3 0 0 0)), (4, .int (nI i))] [] (gw E B' N' w') (k + 89) (n + 2891)) : Go F 1343 [(0, .ref b), (1, .ref (ad B 1 0 0 0)), (2, .ref (ad B 4 0 0 0)), (3, .ref (ad B 3 0 0 0)), (4, .int (nI i))] [] (gw E B N w) k n := by
  have hK := hE.1
  have hT := hE.2.1
  obtain ⟨⟨ho, hb, h2, h3, h4⟩, hp, hsv, hon, hoff, h5, hO⟩ := id h
  have hR := hp.1
  have ok := hR.1
  by_cases hT0 : tWr w (xs (i + 1)) = 0
  · refine go_aload_n hF d_La_law_1343 rfl ?_
    refine go_aload_n hF d_La_law_1344 rfl ?_
    refine go_iload hF d_La_law_1345 rfl ?_
    refine go_iconst (v := 1) hF d_La_law_1347 (by decide) ?_
    refine go_iadd hF d_La_law_1348 ?_
    refine gs_sld hF hX hbl d_La_law_1349 (ix1 (k := 1) (n := i) rfl) (by omega) (by omega) ?_
    refine go_aload_n hF d_La_law_1350 rfl ?_
    refine go_callSW hF hE hlo d_La_law_1351 (con_La_write hlt hb ho h2 h3 ok (Rel_v4 hR) (xs (i + 1))) mw_La_write ms_La_write lk_La_149 ⟨rfl, rfl, by decide, by decide⟩ rfl (Nat.le_of_ble_eq_true rfl) ⟨by show _ ≤ 601024; omega, by show _ ≤ 7293034; omega⟩ (fun M => gx_no) rfl (fun v => ?_)
    refine go_and (fun hv => ?_)
    subst hv
    refine go_G (G' := gw E B N (sL (w) 3 0 0 0 0 (bot w 0 (nz (wI w 0 0 9 0 0)) 0 (xs (i + 1))).toInt64)) (fun H hG => hG.elim (fun z => z.2) (fun z => absurd hT0 z.1)) ?_
    refine go_G (G' := gw E B N (mW (sL (w) 3 0 0 0 0 (bot w 0 (nz (wI w 0 0 9 0 0)) 0 (xs (i + 1))).toInt64) (mS w))) (fun H hG => by rw [mW_qb1 (qb_rf w)]; exact hG) ?_
    refine go_istore hF d_La_law_1354 (by decide) ?_
    refine go_lv (lv' := [(0, _), (1, _), (2, _), (3, _), (4, _), (5, _)]) ⟨rfl, rfl, rfl, rfl, rfl, rfl, trivial⟩ ?_
    refine go_aload_n hF d_La_law_1356 rfl ?_
    refine go_aload_n hF d_La_law_1357 rfl ?_
    refine go_iload hF d_La_law_1358 rfl ?_
    refine go_iconst (v := 1) hF d_La_law_1360 (by decide) ?_
    refine go_iadd hF d_La_law_1361 ?_
    refine gs_sld hF hX hbl d_La_law_1362 (ix1 (k := 1) (n := i) rfl) (by omega) (by omega) ?_
    refine go_callVX hF hE hlo d_La_law_1363 (con_Mo_write (w := (sL (w) 3 0 0 0 0 (bot w 0 (nz (wI w 0 0 9 0 0)) 0 (xs (i + 1))).toInt64)) (f := mS w) (c := w) (K := K) (N := N) hlt h4 hR) mt_Mo_write mv_Mo_write lk_La_151 ⟨rfl, rfl, by decide, by decide⟩ rfl (Nat.le_of_ble_eq_true rfl) ⟨by show _ ≤ 601024; omega, by show _ ≤ 7293034; omega⟩ (fun H hG => gw_recv (q := (R_Mo, T_Mo, 9)) hK hG h4 rfl rfl (by decide) rfl) (fun M => gx_no) rfl (fun v => ?_)
    refine go_ex (fun b9 => ?_)
    refine go_and (fun hv => ?_)
    subst hv
    refine go_and (fun g1 => ?_)
    have e9 := g1 hT0
    subst e9
    refine go_istore hF d_La_law_1366 (by decide) ?_
    refine go_lv (lv' := [(0, _), (1, _), (2, _), (3, _), (4, _), (5, _), (6, _)]) ⟨rfl, rfl, rfl, rfl, rfl, rfl, rfl, trivial⟩ ?_
    refine go_aload_n hF d_La_law_1368 rfl ?_
    refine go_callVX hF hE hlo d_La_law_1369 (con_Mo_thrown (w := sI (sL (w) 3 0 0 0 0 (bot w 0 (nz (wI w 0 0 9 0 0)) 0 (xs (i + 1))).toInt64) 4 0 0 0 0 (tWr w (xs (i + 1)))) (f := (mS w)) (N := N) hlt h4) mt_Mo_thrown mv_Mo_thrown lk_La_86 ⟨rfl, rfl, by decide, by decide⟩ rfl (Nat.le_of_ble_eq_true rfl) ⟨by show _ ≤ 601024; omega, by show _ ≤ 7293034; omega⟩ (fun H hG => gw_recv (q := (R_Mo, T_Mo, 9)) hK hG h4 rfl rfl (by decide) rfl) (fun M => gx_no) rfl (fun v => ?_)
    refine go_and (fun hv => ?_)
    subst hv
    rw [thr_0]
    refine go_iload hF d_La_law_1372 rfl ?_
    refine go_icmp_eq (tgt := 1379) hF d_La_law_1374 (by decide) (fun h1374 => ?_) (fun h1374 => ?_)
    · refine go_iload hF d_La_law_1379 rfl ?_
      refine go_if_ne (tgt := 1396) hF d_La_law_1381 (by decide) (fun h1381 => ?_) (fun h1381 => ?_)
      · exact absurd hT0 h1381
      · refine go_aload_n hF d_La_law_1384 rfl ?_
        refine go_iconst (v := 0) hF d_La_law_1385 (by decide) ?_
        refine gs_lald hF hK hT d_La_law_1386 h3 rfl rfl (show (0 : Int32) = nI 0 from rfl) (by decide) (by decide) ?_
        rw [out_v]
        refine go_iload hF d_La_law_1387 rfl ?_
        refine go_i2l hF d_La_law_1389 ?_
        refine go_lif_eq (tgt := 1396) hF d_La_law_1390 d_La_law_1391 (by decide) (fun h1390 => ?_) (fun h1390 => ?_)
        · refine go_goto (tgt := 1481) hF d_La_law_1396 (by decide) ?_
          refine go_lv (lv' := [(0, _), (1, _), (2, _), (3, _), (4, _)]) ⟨rfl, rfl, rfl, rfl, rfl, trivial⟩ ?_
          refine go_wd (k' := k + 89) (n' := n + 2891) (by omega) (by omega) ?_
          exact hC B N _ s (LI_K (K := K) (by omega) (LI_nx h rfl rfl (wP_1 (qb_rf w)) (LIp_1 hp (by omega) (qb_rf w) hR)))
        · exact absurd rfl h1390
    · exact absurd rfl h1374
  · refine go_aload_n hF d_La_law_1343 rfl ?_
    refine go_aload_n hF d_La_law_1344 rfl ?_
    refine go_iload hF d_La_law_1345 rfl ?_
    refine go_iconst (v := 1) hF d_La_law_1347 (by decide) ?_
    refine go_iadd hF d_La_law_1348 ?_
    refine gs_sld hF hX hbl d_La_law_1349 (ix1 (k := 1) (n := i) rfl) (by omega) (by omega) ?_
    refine go_aload_n hF d_La_law_1350 rfl ?_
    refine go_callSW hF hE hlo d_La_law_1351 (con_La_write hlt hb ho h2 h3 ok (Rel_v4 hR) (xs (i + 1))) mw_La_write ms_La_write lk_La_149 ⟨rfl, rfl, by decide, by decide⟩ rfl (Nat.le_of_ble_eq_true rfl) ⟨by show _ ≤ 601024; omega, by show _ ≤ 7293034; omega⟩ (fun M => gx_no) rfl (fun v => ?_)
    refine go_and (fun hv => ?_)
    subst hv
    refine go_G (G' := gw E B (nx1 N) w) (fun H hG => hG.elim (fun z => absurd z.1 hT0) (fun z => z.2)) ?_
    refine go_G (G' := gw E B (nx1 N) (mW w (mS w))) (fun H hG => by rw [mW_w]; exact hG) ?_
    refine go_istore hF d_La_law_1354 (by decide) ?_
    refine go_lv (lv' := [(0, _), (1, _), (2, _), (3, _), (4, _), (5, _)]) ⟨rfl, rfl, rfl, rfl, rfl, rfl, trivial⟩ ?_
    refine go_aload_n hF d_La_law_1356 rfl ?_
    refine go_aload_n hF d_La_law_1357 rfl ?_
    refine go_iload hF d_La_law_1358 rfl ?_
    refine go_iconst (v := 1) hF d_La_law_1360 (by decide) ?_
    refine go_iadd hF d_La_law_1361 ?_
    refine gs_sld hF hX hbl d_La_law_1362 (ix1 (k := 1) (n := i) rfl) (by omega) (by omega) ?_
    refine go_callVX hF hE hlo d_La_law_1363 (con_Mo_write (w := w) (f := mS w) (c := w) (K := K) (N := (nx1 N)) hlt h4 hR) mt_Mo_write mv_Mo_write lk_La_151 ⟨rfl, rfl, by decide, by decide⟩ rfl (Nat.le_of_ble_eq_true rfl) ⟨by show _ ≤ 601024; omega, by show _ ≤ 7293034; omega⟩ (fun H hG => gw_recv (q := (R_Mo, T_Mo, 9)) hK hG h4 rfl rfl (by decide) rfl) (fun M => gx_no) rfl (fun v => ?_)
    refine go_ex (fun b9 => ?_)
    refine go_and (fun hv => ?_)
    subst hv
    refine go_and (fun g1 => ?_)
    refine go_istore hF d_La_law_1366 (by decide) ?_
    refine go_lv (lv' := [(0, _), (1, _), (2, _), (3, _), (4, _), (5, _), (6, _)]) ⟨rfl, rfl, rfl, rfl, rfl, rfl, rfl, trivial⟩ ?_
    refine go_aload_n hF d_La_law_1368 rfl ?_
    refine go_callVX hF hE hlo d_La_law_1369 (con_Mo_thrown (w := sI w 4 0 0 0 0 (tWr w (xs (i + 1)))) (f := (mS w)) (N := (nx1 N)) hlt h4) mt_Mo_thrown mv_Mo_thrown lk_La_86 ⟨rfl, rfl, by decide, by decide⟩ rfl (Nat.le_of_ble_eq_true rfl) ⟨by show _ ≤ 601024; omega, by show _ ≤ 7293034; omega⟩ (fun H hG => gw_recv (q := (R_Mo, T_Mo, 9)) hK hG h4 rfl rfl (by decide) rfl) (fun M => gx_no) rfl (fun v => ?_)
    refine go_and (fun hv => ?_)
    subst hv
    rw [thr_0]
    refine go_iload hF d_La_law_1372 rfl ?_
    refine go_icmp_eq (tgt := 1379) hF d_La_law_1374 (by decide) (fun h1374 => ?_) (fun h1374 => ?_)
    · refine go_iload hF d_La_law_1379 rfl ?_
      refine go_if_ne (tgt := 1396) hF d_La_law_1381 (by decide) (fun h1381 => ?_) (fun h1381 => ?_)
      · refine go_goto (tgt := 1481) hF d_La_law_1396 (by decide) ?_
        refine go_lv (lv' := [(0, _), (1, _), (2, _), (3, _), (4, _)]) ⟨rfl, rfl, rfl, rfl, rfl, trivial⟩ ?_
        refine go_wd (k' := k + 89) (n' := n + 2891) (by omega) (by omega) ?_
        exact hC B (nx1 N) _ s (LI_K (K := K) (by omega) (LI_nx h rfl rfl (wP_0 (qb_rf w)) (LIp_0 hp (Nat.le_refl K) (qb_rf w) hR)))
      · exact absurd h1381 hT0
    · exact absurd rfl h1374
