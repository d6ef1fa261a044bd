theorem ifC_0 {p : Prop} (h : ifC p 0 1 = 0) : p := Classical.byContradiction (fun z => by rw [ifC_f z] at h; exact absurd h (by decide))
theorem ifC_1 {p : Prop} (h : ¬ ifC p 0 1 = 0) : ¬ p ∧ ifC p 0 1 = 1 := by
  have z : ¬ p := fun z => h (ifC_t z)
  exact ⟨z, ifC_f z⟩
theorem mW_rd {w : wdT} {v : Int64} : mW (sL (rdW w) 3 0 0 0 0 v) (mS w) = sL (rdW w) 3 0 0 0 0 v ∧ ∀ r k i, wI (sL (rdW w) 3 0 0 0 0 v) 4 0 r k i = wI w 4 0 r k i := by
  have e : ∀ r k i, wI (rdW w) 4 0 r k i = wI w 4 0 r k i := fun r k i => by
    unfold rdW
    rw [rd_II, if_neg (by omega)]
    split
    · rfl
    · exact (qb_psU w).1 4 0 r k i (by omega)
  refine ⟨?_, e⟩
  have e2 : mS w = mS (sL (rdW w) 3 0 0 0 0 v) := funext (fun k => (e 1 0 k).symm)
  rw [e2]
  exact mW_w _
theorem thr_sv (w : wdT) (f : Nat → Int32) (s : Nat) : wI (svM (sI w 4 0 0 0 0 0) f s) 4 0 0 0 0 = 0 := by
  unfold svM
  rw [rd_II, if_neg (by omega), sgW_n _ _ _ _ (by omega), rd_II, if_pos (by simp)]
theorem out_sv (c : wdT) (v : Int64) (f : Nat → Int32) (s : Nat) : wL (mW (svM (sI (sL c 3 0 0 0 0 v) 4 0 0 0 0 0) f s) f) 3 0 0 0 0 = v := by
  rw [mW_L]
  show wL (sL c 3 0 0 0 0 v) 3 0 0 0 0 = v
  rw [rd_LL, if_pos (by simp)]
theorem out_rd {c w2 : wdT} {v : Int64} {T z : Int32} {f : Nat → Int32} (h : frR (sL c 3 0 0 0 0 v) w2 T z) : wL (mW w2 f) 3 0 0 0 0 = v := by
  rw [mW_L, show wL w2 = wL (sL c 3 0 0 0 0 v) from congrArg Prod.fst h.2.1, rd_LL, if_pos (by simp)]
set_option maxHeartbeats 4000000 in
set_option maxRecDepth 100000 in
theorem law_run {F : gT} {E : gE} {B : bsT} {N : nwT} {w : wdT} (hF : Fb F c_La_law R_La 8 room_1) (hE : en E (gs F)) (hlo : gLo F = E.2.2.size) (hlt : (gl F).stackTraces = false) {b L : Nat} {xs : Nat → Int32} (hX : va_X b L xs (gs F) E.2.2) (hbl : b < E.2.2.size) (hL : L ≤ 2560) {i K k n s : Nat} (hi : i + 5 ≤ L) (hKK : K + 150 < 1000000000) (hk : k + 89 ≤ 601024) (hn : n + 2891 ≤ 7293034) (h : LI K B N w s)
    (hC : ∀ (B' : bsT) (N' : nwT) (w' : wdT) (s' : Nat), LI (K + 150) B' N' w' s' → Go F 1481 [(0, .ref b), (1, .ref (ad B' 1 0 0 0)), (2, .ref (ad B' 4 0 0 0)), (3, .ref (ad B' 3 0 0 0)), (4, .int (nI i))] [] (gw E B' N' w') (k + 89) (n + 2891)) : Go F 894 [(0, .ref b), (1, .ref (ad B 1 0 0 0)), (2, .ref (ad B 4 0 0 0)), (3, .ref (ad B 3 0 0 0)), (4, .int (nI i))] [] (gw E B N w) k n := by
  have hK := hE.1
  have hT := hE.2.1
  obtain ⟨⟨ho, hb, h2, h3, h4⟩, hp, hsv, hon, hoff, h5, hO⟩ := id h
  have hR := hp.1
  have ok := hR.1
  by_cases hT0 : tR w (lg2 (xs (i + 1)) (xs (i + 2))) = 0
  · refine go_aload_n hF d_La_law_894 rfl ?_
    refine go_aload_n hF d_La_law_895 rfl ?_
    refine go_iload hF d_La_law_896 rfl ?_
    refine go_iconst (v := 1) hF d_La_law_898 (by decide) ?_
    refine go_iadd hF d_La_law_899 ?_
    refine gs_sld hF hX hbl d_La_law_900 (ix1 (k := 1) (n := i) rfl) (by omega) (by omega) ?_
    refine go_i2l hF d_La_law_901 ?_
    refine go_bipush (v := 32) hF d_La_law_902 (by decide) ?_
    refine go_lshl hF d_La_law_904 ?_
    refine go_aload_n hF d_La_law_905 rfl ?_
    refine go_iload hF d_La_law_906 rfl ?_
    refine go_iconst (v := 2) hF d_La_law_908 (by decide) ?_
    refine go_iadd hF d_La_law_909 ?_
    refine gs_sld hF hX hbl d_La_law_910 (ix1 (k := 2) (n := i) rfl) (by omega) (by omega) ?_
    refine go_i2l hF d_La_law_911 ?_
    refine go_ldc2 hF kl_La_101 d_La_law_912 ?_
    refine go_land hF d_La_law_915 ?_
    refine go_lor hF d_La_law_916 ?_
    refine go_aload_n hF d_La_law_917 rfl ?_
    refine go_callSW hF hE hlo d_La_law_918 (con_La_run hlt hb ho h2 h3 ok (lg2 (xs (i + 1)) (xs (i + 2)))) mw_La_run ms_La_run lk_La_120 ⟨rfl, rfl, by decide, by decide⟩ rfl (Nat.le_of_ble_eq_true rfl) ⟨by show _ ≤ 601024; omega, by show _ ≤ 7293034; omega⟩ (fun M => gx_no) rfl (fun v => ?_)
    refine go_and (fun hv => ?_)
    subst hv
    refine go_G (G' := gw E B N (sL (adW 0 (lg2 (xs (i + 1)) (xs (i + 2))) 150 w 0 0).1 3 0 0 0 0 (adW 0 (lg2 (xs (i + 1)) (xs (i + 2))) 150 w 0 0).2)) (fun H hG => hG.elim (fun z => z.2) (fun z => absurd hT0 z.1)) ?_
    refine go_G (G' := gw E B N (mW (sL (adW 0 (lg2 (xs (i + 1)) (xs (i + 2))) 150 w 0 0).1 3 0 0 0 0 (adW 0 (lg2 (xs (i + 1)) (xs (i + 2))) 150 w 0 0).2) (mS w))) (fun H hG => by rw [mW_qb1 (qb_ad _ _ _ _ _)]; exact hG) ?_
    refine go_istore hF d_La_law_921 (by decide) ?_
    refine go_lv (lv' := [(0, _), (1, _), (2, _), (3, _), (4, _), (5, _)]) ⟨rfl, rfl, rfl, rfl, rfl, rfl, trivial⟩ ?_
    refine go_aload_n hF d_La_law_923 rfl ?_
    refine go_aload_n hF d_La_law_924 rfl ?_
    refine go_iload hF d_La_law_925 rfl ?_
    refine go_iconst (v := 1) hF d_La_law_927 (by decide) ?_
    refine go_iadd hF d_La_law_928 ?_
    refine gs_sld hF hX hbl d_La_law_929 (ix1 (k := 1) (n := i) rfl) (by omega) (by omega) ?_
    refine go_i2l hF d_La_law_930 ?_
    refine go_bipush (v := 32) hF d_La_law_931 (by decide) ?_
    refine go_lshl hF d_La_law_933 ?_
    refine go_aload_n hF d_La_law_934 rfl ?_
    refine go_iload hF d_La_law_935 rfl ?_
    refine go_iconst (v := 2) hF d_La_law_937 (by decide) ?_
    refine go_iadd hF d_La_law_938 ?_
    refine gs_sld hF hX hbl d_La_law_939 (ix1 (k := 2) (n := i) rfl) (by omega) (by omega) ?_
    refine go_i2l hF d_La_law_940 ?_
    refine go_ldc2 hF kl_La_101 d_La_law_941 ?_
    refine go_land hF d_La_law_944 ?_
    refine go_lor hF d_La_law_945 ?_
    refine go_callVX hF hE hlo d_La_law_946 (con_Mo_run (w := (sL (adW 0 (lg2 (xs (i + 1)) (xs (i + 2))) 150 w 0 0).1 3 0 0 0 0 (adW 0 (lg2 (xs (i + 1)) (xs (i + 2))) 150 w 0 0).2)) (f := mS w) (c := w) (K := K) (N := N) (y := (lg2 (xs (i + 1)) (xs (i + 2)))) hlt h4 hKK hR) mt_Mo_run mv_Mo_run lk_La_123 ⟨rfl, rfl, by decide, by decide⟩ rfl (Nat.le_of_ble_eq_true rfl) ⟨by show _ ≤ 601024; omega, by show _ ≤ 7293034; omega⟩ (fun H hG => gw_recv (q := (R_Mo, T_Mo, 9)) hK hG h4 rfl rfl (by decide) rfl) (fun M => gx_no) rfl (fun v => ?_)
    refine go_G (G' := fun H => ∃ f2, Rel (K + 150) (adW 0 (lg2 (xs (i + 1)) (xs (i + 2))) 150 w 0 0).1 0 f2 ∧ v = some (.long (adW 0 (lg2 (xs (i + 1)) (xs (i + 2))) 150 w 0 0).2) ∧ gw E B N (mW (sI (sL (adW 0 (lg2 (xs (i + 1)) (xs (i + 2))) 150 w 0 0).1 3 0 0 0 0 (adW 0 (lg2 (xs (i + 1)) (xs (i + 2))) 150 w 0 0).2) 4 0 0 0 0 0) f2) H) (fun H hG => hG.elim (fun z => z.2) (fun z => absurd (ifC_0 hT0) z.1)) ?_
    refine go_ex (fun f2 => ?_)
    refine go_and (fun hR2 => ?_)
    refine go_and (fun hv => ?_)
    subst hv
    refine go_lstore hF d_La_law_949 (by decide) ?_
    refine go_lv (lv' := [(0, _), (1, _), (2, _), (3, _), (4, _), (5, _), (6, _)]) ⟨rfl, rfl, rfl, rfl, rfl, rfl, rfl, trivial⟩ ?_
    refine go_aload_n hF d_La_law_951 rfl ?_
    refine go_callVX hF hE hlo d_La_law_952 (con_Mo_thrown (w := sI (sL (adW 0 (lg2 (xs (i + 1)) (xs (i + 2))) 150 w 0 0).1 3 0 0 0 0 (adW 0 (lg2 (xs (i + 1)) (xs (i + 2))) 150 w 0 0).2) 4 0 0 0 0 0) (f := f2) (N := N) hlt h4) mt_Mo_thrown mv_Mo_thrown lk_La_86 ⟨rfl, rfl, by decide, by decide⟩ rfl (Nat.le_of_ble_eq_true rfl) ⟨by show _ ≤ 601024; omega, by show _ ≤ 7293034; omega⟩ (fun H hG => gw_recv (q := (R_Mo, T_Mo, 9)) hK hG h4 rfl rfl (by decide) rfl) (fun M => gx_no) rfl (fun v => ?_)
    refine go_and (fun hv => ?_)
    subst hv
    rw [thr_0]
    refine go_iload hF d_La_law_955 rfl ?_
    refine go_icmp_eq (tgt := 962) hF d_La_law_957 (by decide) (fun h957 => ?_) (fun h957 => ?_)
    · refine go_iload hF d_La_law_962 rfl ?_
      refine go_if_ne (tgt := 978) hF d_La_law_964 (by decide) (fun h964 => ?_) (fun h964 => ?_)
      · exact absurd hT0 h964
      · refine go_aload_n hF d_La_law_967 rfl ?_
        refine go_iconst (v := 0) hF d_La_law_968 (by decide) ?_
        refine gs_lald hF hK hT d_La_law_969 h3 rfl rfl (show (0 : Int32) = nI 0 from rfl) (by decide) (by decide) ?_
        rw [out_v]
        refine go_lload hF d_La_law_970 rfl ?_
        refine go_lif_eq (tgt := 978) hF d_La_law_972 d_La_law_973 (by decide) (fun h972 => ?_) (fun h972 => ?_)
        · refine go_goto (tgt := 1481) hF d_La_law_978 (by decide) ?_
          refine go_lv (lv' := [(0, _), (1, _), (2, _), (3, _), (4, _)]) ⟨rfl, rfl, rfl, rfl, rfl, trivial⟩ ?_
          refine go_wd (k' := k + 89) (n' := n + 2891) (by omega) (by omega) ?_
          exact hC B N _ s (LI_nx h rfl rfl (wP_1 (qb_ad _ _ _ _ _)) (LIp_1 hp (by omega) (qb_ad _ _ _ _ _) hR2))
        · exact absurd rfl h972
    · exact absurd hT0.symm h957
  · refine go_aload_n hF d_La_law_894 rfl ?_
    refine go_aload_n hF d_La_law_895 rfl ?_
    refine go_iload hF d_La_law_896 rfl ?_
    refine go_iconst (v := 1) hF d_La_law_898 (by decide) ?_
    refine go_iadd hF d_La_law_899 ?_
    refine gs_sld hF hX hbl d_La_law_900 (ix1 (k := 1) (n := i) rfl) (by omega) (by omega) ?_
    refine go_i2l hF d_La_law_901 ?_
    refine go_bipush (v := 32) hF d_La_law_902 (by decide) ?_
    refine go_lshl hF d_La_law_904 ?_
    refine go_aload_n hF d_La_law_905 rfl ?_
    refine go_iload hF d_La_law_906 rfl ?_
    refine go_iconst (v := 2) hF d_La_law_908 (by decide) ?_
    refine go_iadd hF d_La_law_909 ?_
    refine gs_sld hF hX hbl d_La_law_910 (ix1 (k := 2) (n := i) rfl) (by omega) (by omega) ?_
    refine go_i2l hF d_La_law_911 ?_
    refine go_ldc2 hF kl_La_101 d_La_law_912 ?_
    refine go_land hF d_La_law_915 ?_
    refine go_lor hF d_La_law_916 ?_
    refine go_aload_n hF d_La_law_917 rfl ?_
    refine go_callSW hF hE hlo d_La_law_918 (con_La_run hlt hb ho h2 h3 ok (lg2 (xs (i + 1)) (xs (i + 2)))) mw_La_run ms_La_run lk_La_120 ⟨rfl, rfl, by decide, by decide⟩ rfl (Nat.le_of_ble_eq_true rfl) ⟨by show _ ≤ 601024; omega, by show _ ≤ 7293034; omega⟩ (fun M => gx_no) rfl (fun v => ?_)
    refine go_and (fun hv => ?_)
    subst hv
    refine go_G (G' := gw E B (nx1 N) w) (fun H hG => hG.elim (fun z => absurd z.1 hT0) (fun z => z.2)) ?_
    refine go_G (G' := gw E B (nx1 N) (mW w (mS w))) (fun H hG => by rw [mW_w]; exact hG) ?_
    refine go_istore hF d_La_law_921 (by decide) ?_
    refine go_lv (lv' := [(0, _), (1, _), (2, _), (3, _), (4, _), (5, _)]) ⟨rfl, rfl, rfl, rfl, rfl, rfl, trivial⟩ ?_
    refine go_aload_n hF d_La_law_923 rfl ?_
    refine go_aload_n hF d_La_law_924 rfl ?_
    refine go_iload hF d_La_law_925 rfl ?_
    refine go_iconst (v := 1) hF d_La_law_927 (by decide) ?_
    refine go_iadd hF d_La_law_928 ?_
    refine gs_sld hF hX hbl d_La_law_929 (ix1 (k := 1) (n := i) rfl) (by omega) (by omega) ?_
    refine go_i2l hF d_La_law_930 ?_
    refine go_bipush (v := 32) hF d_La_law_931 (by decide) ?_
    refine go_lshl hF d_La_law_933 ?_
    refine go_aload_n hF d_La_law_934 rfl ?_
    refine go_iload hF d_La_law_935 rfl ?_
    refine go_iconst (v := 2) hF d_La_law_937 (by decide) ?_
    refine go_iadd hF d_La_law_938 ?_
    refine gs_sld hF hX hbl d_La_law_939 (ix1 (k := 2) (n := i) rfl) (by omega) (by omega) ?_
    refine go_i2l hF d_La_law_940 ?_
    refine go_ldc2 hF kl_La_101 d_La_law_941 ?_
    refine go_land hF d_La_law_944 ?_
    refine go_lor hF d_La_law_945 ?_
    refine go_callVX hF hE hlo d_La_law_946 (con_Mo_run (w := w) (f := mS w) (c := w) (K := K) (N := (nx1 N)) (y := (lg2 (xs (i + 1)) (xs (i + 2)))) hlt h4 hKK hR) mt_Mo_run mv_Mo_run lk_La_123 ⟨rfl, rfl, by decide, by decide⟩ rfl (Nat.le_of_ble_eq_true rfl) ⟨by show _ ≤ 601024; omega, by show _ ≤ 7293034; omega⟩ (fun H hG => gw_recv (q := (R_Mo, T_Mo, 9)) hK hG h4 rfl rfl (by decide) rfl) (fun M => gx_no) rfl (fun v => ?_)
    refine go_G (G' := fun H => v = some (.long 0) ∧ gw E B (nx1 N) (mW (sI w 4 0 0 0 0 1) (mS w)) H) (fun H hG => hG.elim (fun z => absurd z.1 (ifC_1 hT0).1) (fun z => z.2)) ?_
    refine go_and (fun hv => ?_)
    subst hv
    refine go_lstore hF d_La_law_949 (by decide) ?_
    refine go_lv (lv' := [(0, _), (1, _), (2, _), (3, _), (4, _), (5, _), (6, _)]) ⟨rfl, rfl, rfl, rfl, rfl, rfl, rfl, trivial⟩ ?_
    refine go_aload_n hF d_La_law_951 rfl ?_
    refine go_callVX hF hE hlo d_La_law_952 (con_Mo_thrown (w := sI w 4 0 0 0 0 1) (f := (mS w)) (N := (nx1 N)) hlt h4) mt_Mo_thrown mv_Mo_thrown lk_La_86 ⟨rfl, rfl, by decide, by decide⟩ rfl (Nat.le_of_ble_eq_true rfl) ⟨by show _ ≤ 601024; omega, by show _ ≤ 7293034; omega⟩ (fun H hG => gw_recv (q := (R_Mo, T_Mo, 9)) hK hG h4 rfl rfl (by decide) rfl) (fun M => gx_no) rfl (fun v => ?_)
    refine go_and (fun hv => ?_)
    subst hv
    rw [thr_0]
    refine go_iload hF d_La_law_955 rfl ?_
    refine go_icmp_eq (tgt := 962) hF d_La_law_957 (by decide) (fun h957 => ?_) (fun h957 => ?_)
    · refine go_iload hF d_La_law_962 rfl ?_
      refine go_if_ne (tgt := 978) hF d_La_law_964 (by decide) (fun h964 => ?_) (fun h964 => ?_)
      · refine go_goto (tgt := 1481) hF d_La_law_978 (by decide) ?_
        refine go_lv (lv' := [(0, _), (1, _), (2, _), (3, _), (4, _)]) ⟨rfl, rfl, rfl, rfl, rfl, trivial⟩ ?_
        refine go_wd (k' := k + 89) (n' := n + 2891) (by omega) (by omega) ?_
        exact hC B (nx1 N) _ s (LI_K (K := K) (by omega) (LI_nx h rfl rfl (wP_0 (qb_rf w)) (LIp_0 hp (Nat.le_refl K) (qb_rf w) hR)))
      · exact absurd h964 hT0
    · exact absurd (ifC_1 hT0).2.symm h957
set_option maxHeartbeats 4000000 in
set_option maxRecDepth 100000 in
theorem law_now {F : gT} {E : gE} {B : bsT} {N : nwT} {w : wdT} (hF : Fb F c_La_law R_La 8 room_1) (hE : en E (gs F)) (hlo : gLo F = E.2.2.size) (hlt : (gl F).stackTraces = false) {b L : Nat} {xs : Nat → Int32} (hX : va_X b L xs (gs F) E.2.2) (hbl : b < E.2.2.size) (hL : L ≤ 2560) {i K k n s : Nat} (hi : i + 5 ≤ L) (hKK : K + 150 < 1000000000) (hk : k + 89 ≤ 601024) (hn : n + 2891 ≤ 7293034) (h : LI K B N w s)
    (hC : ∀ (B' : bsT) (N' : nwT) (w' : wdT) (s' : Nat), LI (K + 150) B' N' w' s' → Go F 1481 [(0, .ref b), (1, .ref (ad B' 1 0 0 0)), (2, .ref (ad B' 4 0 0 0)), (3, .ref (ad B' 3 0 0 0)), (4, .int (nI i))] [] (gw E B' N' w') (k + 89) (n + 2891)) : Go F 981 [(0, .ref b), (1, .ref (ad B 1 0 0 0)), (2, .ref (ad B 4 0 0 0)), (3, .ref (ad B 3 0 0 0)), (4, .int (nI i))] [] (gw E B N w) k n := by
  have hK := hE.1
  have hT := hE.2.1
  obtain ⟨⟨ho, hb, h2, h3, h4⟩, hp, hsv, hon, hoff, h5, hO⟩ := id h
  have hR := hp.1
  have ok := hR.1
  refine go_aload_n hF d_La_law_981 rfl ?_
  refine go_callVX hF hE hlo d_La_law_982 (con_EW_now hlt hb ho) mt_EW_now mv_EW_now lk_La_124 ⟨rfl, rfl, by decide, by decide⟩ rfl (Nat.le_of_ble_eq_true rfl) ⟨by show _ ≤ 601024; omega, by show _ ≤ 7293034; omega⟩ (fun H hG => gw_recv (q := (R_EW, T_EW, 4)) hK hG hb rfl rfl (by decide) rfl) (fun M => gx_no) rfl (fun v => ?_)
  refine go_and (fun hv => ?_)
  subst hv
  refine go_G (G' := gw E B N (mW w (mS w))) (fun H hG => by rw [mW_w]; exact hG) ?_
  refine go_aload_n hF d_La_law_985 rfl ?_
  refine go_callVX hF hE hlo d_La_law_986 (con_Mo_now (w := w) (f := mS w) (c := w) (K := K) hlt h4 hR) mt_Mo_now mv_Mo_now lk_La_128 ⟨rfl, rfl, by decide, by decide⟩ rfl (Nat.le_of_ble_eq_true rfl) ⟨by show _ ≤ 601024; omega, by show _ ≤ 7293034; omega⟩ (fun H hG => gw_recv (q := (R_Mo, T_Mo, 9)) hK hG h4 rfl rfl (by decide) rfl) (fun M => gx_no) rfl (fun v => ?_)
  refine go_and (fun hv => ?_)
  subst hv
  refine go_lif_eq (tgt := 1481) hF d_La_law_989 d_La_law_990 (by decide) (fun h989 => ?_) (fun h989 => ?_)
  · refine go_lv (lv' := [(0, _), (1, _), (2, _), (3, _), (4, _)]) ⟨rfl, rfl, rfl, rfl, rfl, trivial⟩ ?_
    refine go_wd (k' := k + 89) (n' := n + 2891) (by omega) (by omega) ?_
    exact hC B N _ s (LI_K (K := K) (by omega) (LI_nx h rfl rfl (wP_0 (qb_rf w)) (LIp_0 hp (Nat.le_refl K) (qb_rf w) hR)))
  · exact absurd rfl h989
set_option maxHeartbeats 4000000 in
set_option maxRecDepth 100000 in
theorem law_levels {F : gT} {E : gE} {B : bsT} {N : nwT} {w : wdT} (hF : Fb F c_La_law R_La 8 room_1) (hE : en E (gs F)) (hlo : gLo F = E.2.2.size) (hlt : (gl F).stackTraces = false) {b L : Nat} {xs : Nat → Int32} (hX : va_X b L xs (gs F) E.2.2) (hbl : b < E.2.2.size) (hL : L ≤ 2560) {i K k n s : Nat} (hi : i + 5 ≤ L) (hKK : K + 150 < 1000000000) (hk : k + 89 ≤ 601024) (hn : n + 2891 ≤ 7293034) (h : LI K B N w s)
    (hC : ∀ (B' : bsT) (N' : nwT) (w' : wdT) (s' : Nat), LI (K + 150) B' N' w' s' → Go F 1481 [(0, .ref b), (1, .ref (ad B' 1 0 0 0)), (2, .ref (ad B' 4 0 0 0)), (3, .ref (ad B' 3 0 0 0)), (4, .int (nI i))] [] (gw E B' N' w') (k + 89) (n + 2891)) : Go F 1399 [(0, .ref b), (1, .ref (ad B 1 0 0 0)), (2, .ref (ad B 4 0 0 0)), (3, .ref (ad B 3 0 0 0)), (4, .int (nI i))] [] (gw E B N w) k n := by
  have hK := hE.1
  have hT := hE.2.1
  obtain ⟨⟨ho, hb, h2, h3, h4⟩, hp, hsv, hon, hoff, h5, hO⟩ := id h
  have hR := hp.1
  have ok := hR.1
  refine go_aload_n hF d_La_law_1399 rfl ?_
  refine go_callVX hF hE hlo d_La_law_1400 (con_EW_levels hlt hb ho ok) mt_EW_levels mv_EW_levels lk_La_152 ⟨rfl, rfl, by decide, by decide⟩ rfl (Nat.le_of_ble_eq_true rfl) ⟨by show _ ≤ 601024; omega, by show _ ≤ 7293034; omega⟩ (fun H hG => gw_recv (q := (R_EW, T_EW, 4)) hK hG hb rfl rfl (by decide) rfl) (fun M => gx_no) rfl (fun v => ?_)
  refine go_and (fun hv => ?_)
  subst hv
  refine go_G (G' := gw E B N (mW w (mS w))) (fun H hG => by rw [mW_w]; exact hG) ?_
  refine go_aload_n hF d_La_law_1403 rfl ?_
  refine go_callVX hF hE hlo d_La_law_1404 (con_Mo_levels (w := w) (f := mS w) (c := w) (K := K) hlt h4 hR) mt_Mo_levels mv_Mo_levels lk_La_155 ⟨rfl, rfl, by decide, by decide⟩ rfl (Nat.le_of_ble_eq_true rfl) ⟨by show _ ≤ 601024; omega, by show _ ≤ 7293034; omega⟩ (fun H hG => gw_recv (q := (R_Mo, T_Mo, 9)) hK hG h4 rfl rfl (by decide) rfl) (fun M => gx_no) rfl (fun v => ?_)
  refine go_and (fun hv => ?_)
  subst hv
  refine go_icmp_eq (tgt := 1481) hF d_La_law_1407 (by decide) (fun h1407 => ?_) (fun h1407 => ?_)
  · refine go_lv (lv' := [(0, _), (1, _), (2, _), (3, _), (4, _)]) ⟨rfl, rfl, rfl, rfl, rfl, trivial⟩ ?_
    refine go_wd (k' := k + 89) (n' := n + 2891) (by omega) (by omega) ?_
    exact hC B N _ s (LI_K (K := K) (by omega) (LI_nx h rfl rfl (wP_0 (qb_rf w)) (LIp_0 hp (Nat.le_refl K) (qb_rf w) hR)))
  · exact absurd rfl h1407
set_option maxHeartbeats 4000000 in
set_option maxRecDepth 100000 in
theorem law_unit {F : gT} {E : gE} {B : bsT} {N : nwT} {w : wdT} (hF : Fb F c_La_law R_La 8 room_1) (hE : en E (gs F)) (hlo : gLo F = E.2.2.size) (hlt : (gl F).stackTraces = false) {b L : Nat} {xs : Nat → Int32} (hX : va_X b L xs (gs F) E.2.2) (hbl : b < E.2.2.size) (hL : L ≤ 2560) {i K k n s : Nat} (hi : i + 5 ≤ L) (hKK : K + 150 < 1000000000) (hk : k + 89 ≤ 601024) (hn : n + 2891 ≤ 7293034) (h : LI K B N w s)
    (hC : ∀ (B' : bsT) (N' : nwT) (w' : wdT) (s' : Nat), LI (K + 150) B' N' w' s' → Go F 1481 [(0, .ref b), (1, .ref (ad B' 1 0 0 0)), (2, .ref (ad B' 4 0 0 0)), (3, .ref (ad B' 3 0 0 0)), (4, .int (nI i))] [] (gw E B' N' w') (k + 89) (n + 2891)) : Go F 1274 [(0, .ref b), (1, .ref (ad B 1 0 0 0)), (2, .ref (ad B 4 0 0 0)), (3, .ref (ad B 3 0 0 0)), (4, .int (nI i))] [] (gw E B N w) k n := by
  have hK := hE.1
  have hT := hE.2.1
  obtain ⟨⟨ho, hb, h2, h3, h4⟩, hp, hsv, hon, hoff, h5, hO⟩ := id h
  have hR := hp.1
  have ok := hR.1
  refine go_aload_n hF d_La_law_1274 rfl ?_
  refine go_aload_n hF d_La_law_1275 rfl ?_
  refine go_iload hF d_La_law_1276 rfl ?_
  refine go_iconst (v := 1) hF d_La_law_1278 (by decide) ?_
  refine go_iadd hF d_La_law_1279 ?_
  refine gs_sld hF hX hbl d_La_law_1280 (ix1 (k := 1) (n := i) rfl) (by omega) (by omega) ?_
  refine go_callVX hF hE hlo d_La_law_1281 (con_EW_unit hlt hb h2 hp.2.1 _) mt_EW_unit mv_EW_unit lk_La_142 ⟨rfl, rfl, by decide, by decide⟩ rfl (Nat.le_of_ble_eq_true rfl) ⟨by show _ ≤ 601024; omega, by show _ ≤ 7293034; omega⟩ (fun H hG => gw_recv (q := (R_EW, T_EW, 4)) hK hG hb rfl rfl (by decide) rfl) (fun M => gx_no) rfl (fun v => ?_)
  refine go_and (fun hv => ?_)
  subst hv
  have hu := LIp_u (u := (xs (i + 1) &&& 255)) hp
  refine go_G (G' := gw E B N (mW (tpW w (xs (i + 1) &&& 255)) (mS w))) (fun H hG => by rw [hu.2.1]; exact hG) ?_
  have e5 : wI (tpW w (xs (i + 1) &&& 255)) 4 0 0 5 0 = wI w 2 0 1 0 0 := hu.2.2.trans hp.2.2.1.1
  refine go_aload_n hF d_La_law_1284 rfl ?_
  refine go_aload_n hF d_La_law_1285 rfl ?_
  refine go_iload hF d_La_law_1286 rfl ?_
  refine go_iconst (v := 1) hF d_La_law_1288 (by decide) ?_
  refine go_iadd hF d_La_law_1289 ?_
  refine gs_sld hF hX hbl d_La_law_1290 (ix1 (k := 1) (n := i) rfl) (by omega) (by omega) ?_
  refine go_callVX hF hE hlo d_La_law_1291 (con_Mo_unit (w := tpW w (xs (i + 1) &&& 255)) (f := mS w) (u := xs (i + 1)) (n := nz (wI w 2 0 1 0 0)) hlt h4 (e5.trans hp.2.1.1) hp.2.1.2) mt_Mo_unit mv_Mo_unit lk_La_145 ⟨rfl, rfl, by decide, by decide⟩ rfl (Nat.le_of_ble_eq_true rfl) ⟨by show _ ≤ 601024; omega, by show _ ≤ 7293034; omega⟩ (fun H hG => gw_recv (q := (R_Mo, T_Mo, 9)) hK hG h4 rfl rfl (by decide) rfl) (fun M => gx_no) rfl (fun v => ?_)
  refine go_and (fun hv => ?_)
  subst hv
  rw [e5]
  refine go_icmp_eq (tgt := 1481) hF d_La_law_1294 (by decide) (fun h1294 => ?_) (fun h1294 => ?_)
  · refine go_lv (lv' := [(0, _), (1, _), (2, _), (3, _), (4, _)]) ⟨rfl, rfl, rfl, rfl, rfl, trivial⟩ ?_
    refine go_wd (k' := k + 89) (n' := n + 2891) (by omega) (by omega) ?_
    exact hC B N _ s (LI_K (K := K) (by omega) (LI_nx h rfl rfl (wP_tp w _) hu.1))
  · exact absurd rfl h1294
set_option maxHeartbeats 4000000 in
set_option maxRecDepth 100000 in
theorem law_back {F : gT} {E : gE} {B : bsT} {N : nwT} {w : wdT} (hF : Fb F c_La_law R_La 8 room_1) (hE : en E (gs F)) (hlo : gLo F = E.2.2.size) (hlt : (gl F).stackTraces = false) {b L : Nat} {xs : Nat → Int32} (hX : va_X b L xs (gs F) E.2.2) (hbl : b < E.2.2.size) (hL : L ≤ 2560) {i K k n s : Nat} (hi : i + 5 ≤ L) (hKK : K + 150 < 1000000000) (hk : k + 89 ≤ 601024) (hn : n + 2891 ≤ 7293034) (h : LI K B N w s)
    (hC : ∀ (B' : bsT) (N' : nwT) (w' : wdT) (s' : Nat), LI (K + 150) B' N' w' s' → Go F 1481 [(0, .ref b), (1, .ref (ad B' 1 0 0 0)), (2, .ref (ad B' 4 0 0 0)), (3, .ref (ad B' 3 0 0 0)), (4, .int (nI i))] [] (gw E B' N' w') (k + 89) (n + 2891)) : Go F 1456 [(0, .ref b), (1, .ref (ad B 1 0 0 0)), (2, .ref (ad B 4 0 0 0)), (3, .ref (ad B 3 0 0 0)), (4, .int (nI i))] [] (gw E B N w) k n := by
  have hK := hE.1
  have hT := hE.2.1
  obtain ⟨⟨ho, hb, h2, h3, h4⟩, hp, hsv, hon, hoff, h5, hO⟩ := id h
  have hR := hp.1
  have ok := hR.1
  by_cases hbk : bkOk s (xs (i + 1))
  · refine go_aload_n hF d_La_law_1456 rfl ?_
    refine go_aload_n hF d_La_law_1457 rfl ?_
    refine go_iload hF d_La_law_1458 rfl ?_
    refine go_iconst (v := 1) hF d_La_law_1460 (by decide) ?_
    refine go_iadd hF d_La_law_1461 ?_
    refine gs_sld hF hX hbl d_La_law_1462 (ix1 (k := 1) (n := i) rfl) (by omega) (by omega) ?_
    refine go_callVX hF hE hlo d_La_law_1463 (con_EW_back hlt hb ho h2 hp.2.2.2.2.1 hp.2.2.2.1 (xs (i + 1)) hsv hon (fun i9 hi9 => by have q := (hp.2.2.2.2.2.2 i9 hi9).1; exact ⟨q.1, q.2.1, q.2.2.1⟩)) mt_EW_back mv_EW_back lk_La_159 ⟨rfl, rfl, by decide, by decide⟩ rfl (Nat.le_of_ble_eq_true rfl) ⟨by show _ ≤ 601024; omega, by show _ ≤ 7293034; omega⟩ (fun H hG => gw_recv (q := (R_EW, T_EW, 4)) hK hG hb rfl rfl (by decide) rfl) (fun M => gx_no) rfl (fun v => ?_)
    refine go_G (G' := fun H => v = some (.int 1) ∧ gw E B N (cpC w 0 (nz (xs (i + 1)) + 1)) H) (fun H hG => hG.elim (fun z => z.2) (fun z => absurd hbk z.1)) ?_
    refine go_and (fun hv => ?_)
    subst hv
    refine go_G (G' := gw E B N (mW (cpC w 0 (nz (xs (i + 1)) + 1)) (mS w))) (fun H hG => by rw [mW_qb (qb_cp w (by omega))]; exact hG) ?_
    refine go_aload_n hF d_La_law_1466 rfl ?_
    refine go_aload_n hF d_La_law_1467 rfl ?_
    refine go_iload hF d_La_law_1468 rfl ?_
    refine go_iconst (v := 1) hF d_La_law_1470 (by decide) ?_
    refine go_iadd hF d_La_law_1471 ?_
    refine gs_sld hF hX hbl d_La_law_1472 (ix1 (k := 1) (n := i) rfl) (by omega) (by omega) ?_
    refine go_callVX hF hE hlo d_La_law_1473 (con_Mo_back (w := (cpC w 0 (nz (xs (i + 1)) + 1))) (f := mS w) (s := s) (x := (xs (i + 1))) hlt h4 (((qb_cp w (i := nz (xs (i + 1)) + 1) (by omega)).1 4 0 0 3 0 (by omega)).trans hp.2.2.2.2.2.1) hp.2.2.2.1) mt_Mo_back mv_Mo_back lk_La_162 ⟨rfl, rfl, by decide, by decide⟩ rfl (Nat.le_of_ble_eq_true rfl) ⟨by show _ ≤ 601024; omega, by show _ ≤ 7293034; omega⟩ (fun H hG => gw_recv (q := (R_Mo, T_Mo, 9)) hK hG h4 rfl rfl (by decide) rfl) (fun M => gx_no) rfl (fun v => ?_)
    refine go_G (G' := fun H => v = some (.int 1) ∧ gw E B N (mW (sI (cpC w 0 (nz (xs (i + 1)) + 1)) 4 0 0 0 0 0) (svF (sI (cpC w 0 (nz (xs (i + 1)) + 1)) 4 0 0 0 0 0) (mS w) (nz (xs (i + 1))) 3300)) H) (fun H hG => hG.elim (fun z => z.2) (fun z => absurd hbk z.1)) ?_
    refine go_and (fun hv => ?_)
    subst hv
    refine go_icmp_eq (tgt := 1481) hF d_La_law_1476 (by decide) (fun h1476 => ?_) (fun h1476 => ?_)
    · refine go_lv (lv' := [(0, _), (1, _), (2, _), (3, _), (4, _)]) ⟨rfl, rfl, rfl, rfl, rfl, trivial⟩ ?_
      refine go_wd (k' := k + 89) (n' := n + 2891) (by omega) (by omega) ?_
      exact hC B N _ s (LI_K (K := K) (by omega) (LI_nx h rfl rfl (wP_0 (qb_cp w (by omega))) (LIp_b hp (nz_of hbk.1 (by have := hp.2.2.2.1; omega) hbk.2).2)))
    · exact absurd rfl h1476
  · refine go_aload_n hF d_La_law_1456 rfl ?_
    refine go_aload_n hF d_La_law_1457 rfl ?_
    refine go_iload hF d_La_law_1458 rfl ?_
    refine go_iconst (v := 1) hF d_La_law_1460 (by decide) ?_
    refine go_iadd hF d_La_law_1461 ?_
    refine gs_sld hF hX hbl d_La_law_1462 (ix1 (k := 1) (n := i) rfl) (by omega) (by omega) ?_
    refine go_callVX hF hE hlo d_La_law_1463 (con_EW_back hlt hb ho h2 hp.2.2.2.2.1 hp.2.2.2.1 (xs (i + 1)) hsv hon (fun i9 hi9 => by have q := (hp.2.2.2.2.2.2 i9 hi9).1; exact ⟨q.1, q.2.1, q.2.2.1⟩)) mt_EW_back mv_EW_back lk_La_159 ⟨rfl, rfl, by decide, by decide⟩ rfl (Nat.le_of_ble_eq_true rfl) ⟨by show _ ≤ 601024; omega, by show _ ≤ 7293034; omega⟩ (fun H hG => gw_recv (q := (R_EW, T_EW, 4)) hK hG hb rfl rfl (by decide) rfl) (fun M => gx_no) rfl (fun v => ?_)
    refine go_G (G' := fun H => v = some (.int 0) ∧ gw E B N w H) (fun H hG => hG.elim (fun z => absurd z.1 hbk) (fun z => z.2)) ?_
    refine go_and (fun hv => ?_)
    subst hv
    refine go_G (G' := gw E B N (mW w (mS w))) (fun H hG => by rw [mW_w]; exact hG) ?_
    refine go_aload_n hF d_La_law_1466 rfl ?_
    refine go_aload_n hF d_La_law_1467 rfl ?_
    refine go_iload hF d_La_law_1468 rfl ?_
    refine go_iconst (v := 1) hF d_La_law_1470 (by decide) ?_
    refine go_iadd hF d_La_law_1471 ?_
    refine gs_sld hF hX hbl d_La_law_1472 (ix1 (k := 1) (n := i) rfl) (by omega) (by omega) ?_
    refine go_callVX hF hE hlo d_La_law_1473 (con_Mo_back (w := w) (f := mS w) (s := s) (x := (xs (i + 1))) hlt h4 (hp.2.2.2.2.2.1) hp.2.2.2.1) mt_Mo_back mv_Mo_back lk_La_162 ⟨rfl, rfl, by decide, by decide⟩ rfl (Nat.le_of_ble_eq_true rfl) ⟨by show _ ≤ 601024; omega, by show _ ≤ 7293034; omega⟩ (fun H hG => gw_recv (q := (R_Mo, T_Mo, 9)) hK hG h4 rfl rfl (by decide) rfl) (fun M => gx_no) rfl (fun v => ?_)
    refine go_G (G' := fun H => v = some (.int 0) ∧ gw E B N (mW (sI w 4 0 0 0 0 0) (mS w)) H) (fun H hG => hG.elim (fun z => absurd z.1 hbk) (fun z => z.2)) ?_
    refine go_and (fun hv => ?_)
    subst hv
    refine go_icmp_eq (tgt := 1481) hF d_La_law_1476 (by decide) (fun h1476 => ?_) (fun h1476 => ?_)
    · refine go_lv (lv' := [(0, _), (1, _), (2, _), (3, _), (4, _)]) ⟨rfl, rfl, rfl, rfl, rfl, trivial⟩ ?_
      refine go_wd (k' := k + 89) (n' := n + 2891) (by omega) (by omega) ?_
      exact hC B N _ s (LI_K (K := K) (by omega) (LI_nx h rfl rfl (wP_0 (qb_rf w)) (LIp_0 hp (Nat.le_refl K) (qb_rf w) hR)))
    · exact absurd rfl h1476
set_option maxHeartbeats 4000000 in
set_option maxRecDepth 100000 in
theorem law_save {F : gT} {E : gE} {B : bsT} {N : nwT} {w : wdT} (hF : Fb F c_La_law R_La 8 room_1) (hE : en E (gs F)) (hlo : gLo F = E.2.2.size) (hlt : (gl F).stackTraces = false) {b L : Nat} {xs : Nat → Int32} (hX : va_X b L xs (gs F) E.2.2) (hbl : b < E.2.2.size) (hL : L ≤ 2560) {i K k n s : Nat} (hi : i + 5 ≤ L) (hKK : K + 150 < 1000000000) (hk : k + 89 ≤ 601024) (hn : n + 2891 ≤ 7293034) (h : LI K B N w s)
    (hC : ∀ (B' : bsT) (N' : nwT) (w' : wdT) (s' : Nat), LI (K + 150) B' N' w' s' → Go F 1481 [(0, .ref b), (1, .ref (ad B' 1 0 0 0)), (2, .ref (ad B' 4 0 0 0)), (3, .ref (ad B' 3 0 0 0)), (4, .int (nI i))] [] (gw E B' N' w') (k + 89) (n + 2891)) : Go F 1412 [(0, .ref b), (1, .ref (ad B 1 0 0 0)), (2, .ref (ad B 4 0 0 0)), (3, .ref (ad B 3 0 0 0)), (4, .int (nI i))] [] (gw E B N w) k n := by
  have hK := hE.1
  have hT := hE.2.1
  obtain ⟨⟨ho, hb, h2, h3, h4⟩, hp, hsv, hon, hoff, h5, hO⟩ := id h
  have hR := hp.1
  have ok := hR.1
  by_cases hT0 : tSv s = 0
  · refine go_aload_n hF d_La_law_1412 rfl ?_
    refine go_aload_n hF d_La_law_1413 rfl ?_
    refine go_callSW hF hE hlo d_La_law_1414 (con_La_save hlt hb ho h2 h3 ok hp.2.2.2.2.1 hp.2.2.2.1 h5 (hoff s (Nat.le_refl s)) (fun q _ => hO q)) mw_La_save ms_La_save lk_La_156 ⟨rfl, rfl, by decide, by decide⟩ rfl (Nat.le_of_ble_eq_true rfl) ⟨by show _ ≤ 601024; omega, by show _ ≤ 7293034; omega⟩ (fun M => gx_no) rfl (fun v => ?_)
    refine go_and (fun hv => ?_)
    subst hv
    refine go_G (G' := fun H => s < 4 ∧ gw E (upB B 0 (s + 1) N.2.2) (upN N.1 0 (s + 1), N.2.1, N.2.2 + 89) (sL (svW w s N.2.2) 3 0 0 0 0 (nI s).toInt64) H) (fun H hG => hG.elim (fun z => z.2) (fun z => absurd hT0 z.1)) ?_
    refine go_and (fun hs4 => ?_)
    have hls := LIp_s (a := N.2.2) (v := (nI s).toInt64) hp hs4
    have h3 : upN N.1 0 (s + 1) 3 0 = true := (upN_n (show ¬ (3 = 0 ∧ 0 = s + 1) by omega)).trans h3
    have h4 : upN N.1 0 (s + 1) 4 0 = true := (upN_n (show ¬ (4 = 0 ∧ 0 = s + 1) by omega)).trans h4
    refine go_lv (lv' := [(0, _), (1, .ref (ad (upB B 0 (s + 1) N.2.2) 1 0 0 0)), (2, .ref (ad (upB B 0 (s + 1) N.2.2) 4 0 0 0)), (3, .ref (ad (upB B 0 (s + 1) N.2.2) 3 0 0 0)), (4, _)]) ⟨rfl, by rw [ad_up (by omega)]; rfl, by rw [ad_up (by omega)]; rfl, by rw [ad_up (by omega)]; rfl, rfl, trivial⟩ ?_
    refine go_G (G' := gw E (upB B 0 (s + 1) N.2.2) (upN N.1 0 (s + 1), N.2.1, N.2.2 + 89) (mW (sL (svW w s N.2.2) 3 0 0 0 0 (nI s).toInt64) (mS w))) (fun H hG => by rw [hls.2.1]; exact hG) ?_
    refine go_istore hF d_La_law_1417 (by decide) ?_
    refine go_lv (lv' := [(0, _), (1, _), (2, _), (3, _), (4, _), (5, _)]) ⟨rfl, rfl, rfl, rfl, rfl, rfl, trivial⟩ ?_
    refine go_aload_n hF d_La_law_1419 rfl ?_
    refine go_callVX hF hE hlo d_La_law_1420 (con_Mo_save (B := (upB B 0 (s + 1) N.2.2)) (N := (upN N.1 0 (s + 1), N.2.1, N.2.2 + 89)) (w := (sL (svW w s N.2.2) 3 0 0 0 0 (nI s).toInt64)) (f := mS w) (s := s) hlt h4 hls.2.2 hp.2.2.2.1) mt_Mo_save mv_Mo_save lk_La_158 ⟨rfl, rfl, by decide, by decide⟩ rfl (Nat.le_of_ble_eq_true rfl) ⟨by show _ ≤ 601024; omega, by show _ ≤ 7293034; omega⟩ (fun H hG => gw_recv (q := (R_Mo, T_Mo, 9)) hK hG h4 rfl rfl (by decide) rfl) (fun M => gx_no) rfl (fun v => ?_)
    refine go_ex (fun b9 => ?_)
    refine go_and (fun hv => ?_)
    subst hv
    refine go_G (G' := fun H => b9 = nI s ∧ gw E (upB B 0 (s + 1) N.2.2) (upN N.1 0 (s + 1), N.2.1, N.2.2 + 89) (mW (svM (sI (sL (svW w s N.2.2) 3 0 0 0 0 (nI s).toInt64) 4 0 0 0 0 0) (mS w) s) (mS w)) H) (fun H hG => ⟨(hG.1 hT0).1, (hG.1 hT0).2.2⟩) ?_
    refine go_and (fun e9 => ?_)
    subst e9
    refine go_istore hF d_La_law_1423 (by decide) ?_
    refine go_lv (lv' := [(0, _), (1, _), (2, _), (3, _), (4, _), (5, _), (6, _)]) ⟨rfl, rfl, rfl, rfl, rfl, rfl, rfl, trivial⟩ ?_
    refine go_aload_n hF d_La_law_1425 rfl ?_
    refine go_callVX hF hE hlo d_La_law_1426 (con_Mo_thrown (B := (upB B 0 (s + 1) N.2.2)) (N := (upN N.1 0 (s + 1), N.2.1, N.2.2 + 89)) (w := (svM (sI (sL (svW w s N.2.2) 3 0 0 0 0 (nI s).toInt64) 4 0 0 0 0 0) (mS w) s)) (f := mS w) hlt h4) mt_Mo_thrown mv_Mo_thrown lk_La_86 ⟨rfl, rfl, by decide, by decide⟩ rfl (Nat.le_of_ble_eq_true rfl) ⟨by show _ ≤ 601024; omega, by show _ ≤ 7293034; omega⟩ (fun H hG => gw_recv (q := (R_Mo, T_Mo, 9)) hK hG h4 rfl rfl (by decide) rfl) (fun M => gx_no) rfl (fun v => ?_)
    refine go_and (fun hv => ?_)
    subst hv
    rw [thr_sv]
    refine go_iload hF d_La_law_1429 rfl ?_
    refine go_icmp_eq (tgt := 1436) hF d_La_law_1431 (by decide) (fun h1431 => ?_) (fun h1431 => ?_)
    · refine go_iload hF d_La_law_1436 rfl ?_
      refine go_if_ne (tgt := 1453) hF d_La_law_1438 (by decide) (fun h1438 => ?_) (fun h1438 => ?_)
      · exact absurd hT0 h1438
      · refine go_aload_n hF d_La_law_1441 rfl ?_
        refine go_iconst (v := 0) hF d_La_law_1442 (by decide) ?_
        refine gs_lald hF hK hT d_La_law_1443 h3 rfl rfl (show (0 : Int32) = nI 0 from rfl) (by decide) (by decide) ?_
        rw [out_sv]
        refine go_iload hF d_La_law_1444 rfl ?_
        refine go_i2l hF d_La_law_1446 ?_
        refine go_lif_eq (tgt := 1453) hF d_La_law_1447 d_La_law_1448 (by decide) (fun h1447 => ?_) (fun h1447 => ?_)
        · refine go_goto (tgt := 1481) hF d_La_law_1453 (by decide) ?_
          refine go_lv (lv' := [(0, _), (1, _), (2, _), (3, _), (4, _)]) ⟨rfl, rfl, rfl, rfl, rfl, trivial⟩ ?_
          refine go_wd (k' := k + 89) (n' := n + 2891) (by omega) (by omega) ?_
          exact hC (upB B 0 (s + 1) N.2.2) (upN N.1 0 (s + 1), N.2.1, N.2.2 + 89) _ (s + 1) (LI_K (K := K) (by omega) (LI_sv h hs4 rfl hls.1))
        · exact absurd rfl h1447
    · exact absurd hT0.symm h1431
  · refine go_aload_n hF d_La_law_1412 rfl ?_
    refine go_aload_n hF d_La_law_1413 rfl ?_
    refine go_callSW hF hE hlo d_La_law_1414 (con_La_save hlt hb ho h2 h3 ok hp.2.2.2.2.1 hp.2.2.2.1 h5 (hoff s (Nat.le_refl s)) (fun q _ => hO q)) mw_La_save ms_La_save lk_La_156 ⟨rfl, rfl, by decide, by decide⟩ rfl (Nat.le_of_ble_eq_true rfl) ⟨by show _ ≤ 601024; omega, by show _ ≤ 7293034; omega⟩ (fun M => gx_no) rfl (fun v => ?_)
    refine go_and (fun hv => ?_)
    subst hv
    refine go_G (G' := gw E B (nx1 N) w) (fun H hG => hG.elim (fun z => absurd z.1 hT0) (fun z => z.2)) ?_
    refine go_G (G' := gw E B (nx1 N) (mW w (mS w))) (fun H hG => by rw [mW_w]; exact hG) ?_
    refine go_istore hF d_La_law_1417 (by decide) ?_
    refine go_lv (lv' := [(0, _), (1, _), (2, _), (3, _), (4, _), (5, _)]) ⟨rfl, rfl, rfl, rfl, rfl, rfl, trivial⟩ ?_
    refine go_aload_n hF d_La_law_1419 rfl ?_
    refine go_callVX hF hE hlo d_La_law_1420 (con_Mo_save (N := nx1 N) (w := w) (f := mS w) (s := s) hlt h4 hp.2.2.2.2.2.1 hp.2.2.2.1) mt_Mo_save mv_Mo_save lk_La_158 ⟨rfl, rfl, by decide, by decide⟩ rfl (Nat.le_of_ble_eq_true rfl) ⟨by show _ ≤ 601024; omega, by show _ ≤ 7293034; omega⟩ (fun H hG => gw_recv (q := (R_Mo, T_Mo, 9)) hK hG h4 rfl rfl (by decide) rfl) (fun M => gx_no) rfl (fun v => ?_)
    refine go_ex (fun b9 => ?_)
    refine go_and (fun hv => ?_)
    subst hv
    refine go_G (G' := gw E B (nx1 N) (mW (sI w 4 0 0 0 0 1) (mS w))) (fun H hG => (hG.2 hT0).1) ?_
    refine go_istore hF d_La_law_1423 (by decide) ?_
    refine go_lv (lv' := [(0, _), (1, _), (2, _), (3, _), (4, _), (5, _), (6, _)]) ⟨rfl, rfl, rfl, rfl, rfl, rfl, rfl, trivial⟩ ?_
    refine go_aload_n hF d_La_law_1425 rfl ?_
    refine go_callVX hF hE hlo d_La_law_1426 (con_Mo_thrown (N := nx1 N) (w := sI w 4 0 0 0 0 1) (f := mS w) hlt h4) mt_Mo_thrown mv_Mo_thrown lk_La_86 ⟨rfl, rfl, by decide, by decide⟩ rfl (Nat.le_of_ble_eq_true rfl) ⟨by show _ ≤ 601024; omega, by show _ ≤ 7293034; omega⟩ (fun H hG => gw_recv (q := (R_Mo, T_Mo, 9)) hK hG h4 rfl rfl (by decide) rfl) (fun M => gx_no) rfl (fun v => ?_)
    refine go_and (fun hv => ?_)
    subst hv
    rw [thr_0]
    refine go_iload hF d_La_law_1429 rfl ?_
    refine go_icmp_eq (tgt := 1436) hF d_La_law_1431 (by decide) (fun h1431 => ?_) (fun h1431 => ?_)
    · refine go_iload hF d_La_law_1436 rfl ?_
      refine go_if_ne (tgt := 1453) hF d_La_law_1438 (by decide) (fun h1438 => ?_) (fun h1438 => ?_)
      · refine go_goto (tgt := 1481) hF d_La_law_1453 (by decide) ?_
        refine go_lv (lv' := [(0, _), (1, _), (2, _), (3, _), (4, _)]) ⟨rfl, rfl, rfl, rfl, rfl, trivial⟩ ?_
        refine go_wd (k' := k + 89) (n' := n + 2891) (by omega) (by omega) ?_
        exact hC B (nx1 N) _ s (LI_K (K := K) (by omega) (LI_nx h rfl rfl (wP_0 (qb_rf w)) (LIp_0 hp (Nat.le_refl K) (qb_rf w) hR)))
      · exact absurd h1438 hT0
    · exact absurd (ifC_1 hT0).2.symm h1431
set_option maxHeartbeats 4000000 in
set_option maxRecDepth 100000 in
theorem law_read {F : gT} {E : gE} {B : bsT} {N : nwT} {w : wdT} (hF : Fb F c_La_law R_La 8 room_1) (hE : en E (gs F)) (hlo : gLo F = E.2.2.size) (hlt : (gl F).stackTraces = false) {b L : Nat} {xs : Nat → Int32} (hX : va_X b L xs (gs F) E.2.2) (hbl : b < E.2.2.size) (hL : L ≤ 2560) {i K k n s : Nat} (hi : i + 5 ≤ L) (hKK : K + 150 < 1000000000) (hk : k + 89 ≤ 601024) (hn : n + 2891 ≤ 7293034) (h : LI K B N w s)
    (hC : ∀ (B' : bsT) (N' : nwT) (w' : wdT) (s' : Nat), LI (K + 150) B' N' w' s' → Go F 1481 [(0, .ref b), (1, .ref (ad B' 1 0 0 0)), (2, .ref (ad B' 4 0 0 0)), (3, .ref (ad B' 3 0 0 0)), (4, .int (nI i))] [] (gw E B' N' w') (k + 89) (n + 2891)) : Go F 1299 [(0, .ref b), (1, .ref (ad B 1 0 0 0)), (2, .ref (ad B 4 0 0 0)), (3, .ref (ad B 3 0 0 0)), (4, .int (nI i))] [] (gw E B N w) k n := by
  have hK := hE.1
  have hT := hE.2.1
  obtain ⟨⟨ho, hb, h2, h3, h4⟩, hp, hsv, hon, hoff, h5, hO⟩ := id h
  have hR := hp.1
  have ok := hR.1
  by_cases hT0 : tRd w = 0
  · refine go_aload_n hF d_La_law_1299 rfl ?_
    refine go_aload_n hF d_La_law_1300 rfl ?_
    refine go_callSW hF hE hlo d_La_law_1301 (con_La_read hlt hb ho h2 h3 ok hp.2.1 (hO _)) mw_La_read ms_La_read lk_La_146 ⟨rfl, rfl, by decide, by decide⟩ rfl (Nat.le_of_ble_eq_true rfl) ⟨by show _ ≤ 601024; omega, by show _ ≤ 7293034; omega⟩ (fun M => gx_no) rfl (fun v => ?_)
    refine go_and (fun hv => ?_)
    subst hv
    refine go_G (G' := gw E B (nx1 N) (sL (rdW w) 3 0 0 0 0 (rdV w).toInt64)) (fun H hG => hG.elim (fun z => z.2) (fun z => absurd hT0 z.1)) ?_
    refine go_G (G' := gw E B (nx1 N) (mW (sL (rdW w) 3 0 0 0 0 (rdV w).toInt64) (mS w))) (fun H hG => by rw [mW_rd.1]; exact hG) ?_
    refine go_istore hF d_La_law_1304 (by decide) ?_
    refine go_lv (lv' := [(0, _), (1, _), (2, _), (3, _), (4, _), (5, _)]) ⟨rfl, rfl, rfl, rfl, rfl, rfl, trivial⟩ ?_
    refine go_aload_n hF d_La_law_1306 rfl ?_
    refine go_callVX hF hE hlo d_La_law_1307 (con_Mo_read (w := (sL (rdW w) 3 0 0 0 0 (rdV w).toInt64)) (f := mS w) (c := w) (K := K) (N := (nx1 N)) hlt h4 hp.2.1 ⟨(mW_rd.2 0 5 0).trans hp.2.2.1.1, fun i9 hi9 => (mW_rd.2 3 0 i9).trans (hp.2.2.1.2 i9 hi9)⟩ (by omega) hR) mt_Mo_read mv_Mo_read lk_La_148 ⟨rfl, rfl, by decide, by decide⟩ rfl (Nat.le_of_ble_eq_true rfl) ⟨by show _ ≤ 601024; omega, by show _ ≤ 7293034; omega⟩ (fun H hG => gw_recv (q := (R_Mo, T_Mo, 9)) hK hG h4 rfl rfl (by decide) rfl) (fun M => gx_no) rfl (fun v => ?_)
    refine go_ex (fun f2 => ?_)
    refine go_ex (fun w2 => ?_)
    refine go_ex (fun b9 => ?_)
    refine go_and (fun hv => ?_)
    subst hv
    refine go_and (fun hfr => ?_)
    refine go_and (fun g1 => ?_)
    refine go_and (fun g2 => ?_)
    obtain ⟨rfl, hR2⟩ := g1 hT0
    rw [ifC_t hT0] at hfr
    refine go_istore hF d_La_law_1310 (by decide) ?_
    refine go_lv (lv' := [(0, _), (1, _), (2, _), (3, _), (4, _), (5, _), (6, _)]) ⟨rfl, rfl, rfl, rfl, rfl, rfl, rfl, trivial⟩ ?_
    refine go_aload_n hF d_La_law_1312 rfl ?_
    refine go_callVX hF hE hlo d_La_law_1313 (con_Mo_thrown (w := w2) (f := f2) (N := (nx1 N)) hlt h4) mt_Mo_thrown mv_Mo_thrown lk_La_86 ⟨rfl, rfl, by decide, by decide⟩ rfl (Nat.le_of_ble_eq_true rfl) ⟨by show _ ≤ 601024; omega, by show _ ≤ 7293034; omega⟩ (fun H hG => gw_recv (q := (R_Mo, T_Mo, 9)) hK hG h4 rfl rfl (by decide) rfl) (fun M => gx_no) rfl (fun v => ?_)
    refine go_and (fun hv => ?_)
    subst hv
    rw [hfr.2.2.1]
    refine go_iload hF d_La_law_1316 rfl ?_
    refine go_icmp_eq (tgt := 1323) hF d_La_law_1318 (by decide) (fun h1318 => ?_) (fun h1318 => ?_)
    · refine go_iload hF d_La_law_1323 rfl ?_
      refine go_if_ne (tgt := 1340) hF d_La_law_1325 (by decide) (fun h1325 => ?_) (fun h1325 => ?_)
      · exact absurd hT0 h1325
      · refine go_aload_n hF d_La_law_1328 rfl ?_
        refine go_iconst (v := 0) hF d_La_law_1329 (by decide) ?_
        refine gs_lald hF hK hT d_La_law_1330 h3 rfl rfl (show (0 : Int32) = nI 0 from rfl) (by decide) (by decide) ?_
        rw [out_rd hfr]
        refine go_iload hF d_La_law_1331 rfl ?_
        refine go_i2l hF d_La_law_1333 ?_
        refine go_lif_eq (tgt := 1340) hF d_La_law_1334 d_La_law_1335 (by decide) (fun h1334 => ?_) (fun h1334 => ?_)
        · refine go_goto (tgt := 1481) hF d_La_law_1340 (by decide) ?_
          refine go_lv (lv' := [(0, _), (1, _), (2, _), (3, _), (4, _)]) ⟨rfl, rfl, rfl, rfl, rfl, trivial⟩ ?_
          refine go_wd (k' := k + 89) (n' := n + 2891) (by omega) (by omega) ?_
          exact hC B (nx1 N) _ s (LI_K (K := K + 100) (by omega) (LI_nx h rfl rfl ((congrArg Prod.snd hfr.2.1).trans (wP_rd w)) (LIp_r0 hp hfr hR2)))
        · exact absurd rfl h1334
    · exact absurd rfl h1318
  · refine go_aload_n hF d_La_law_1299 rfl ?_
    refine go_aload_n hF d_La_law_1300 rfl ?_
    refine go_callSW hF hE hlo d_La_law_1301 (con_La_read hlt hb ho h2 h3 ok hp.2.1 (hO _)) mw_La_read ms_La_read lk_La_146 ⟨rfl, rfl, by decide, by decide⟩ rfl (Nat.le_of_ble_eq_true rfl) ⟨by show _ ≤ 601024; omega, by show _ ≤ 7293034; omega⟩ (fun M => gx_no) rfl (fun v => ?_)
    refine go_and (fun hv => ?_)
    subst hv
    refine go_G (G' := gw E B (nx1 (nx1 N)) w) (fun H hG => hG.elim (fun z => absurd z.1 hT0) (fun z => z.2)) ?_
    refine go_G (G' := gw E B (nx1 (nx1 N)) (mW w (mS w))) (fun H hG => by rw [mW_w]; exact hG) ?_
    refine go_istore hF d_La_law_1304 (by decide) ?_
    refine go_lv (lv' := [(0, _), (1, _), (2, _), (3, _), (4, _), (5, _)]) ⟨rfl, rfl, rfl, rfl, rfl, rfl, trivial⟩ ?_
    refine go_aload_n hF d_La_law_1306 rfl ?_
    refine go_callVX hF hE hlo d_La_law_1307 (con_Mo_read (w := w) (f := mS w) (c := w) (K := K) (N := (nx1 (nx1 N))) hlt h4 hp.2.1 hp.2.2.1 (by omega) hR) mt_Mo_read mv_Mo_read lk_La_148 ⟨rfl, rfl, by decide, by decide⟩ rfl (Nat.le_of_ble_eq_true rfl) ⟨by show _ ≤ 601024; omega, by show _ ≤ 7293034; omega⟩ (fun H hG => gw_recv (q := (R_Mo, T_Mo, 9)) hK hG h4 rfl rfl (by decide) rfl) (fun M => gx_no) rfl (fun v => ?_)
    refine go_ex (fun f2 => ?_)
    refine go_ex (fun w2 => ?_)
    refine go_ex (fun b9 => ?_)
    refine go_and (fun hv => ?_)
    subst hv
    refine go_and (fun hfr => ?_)
    refine go_and (fun g1 => ?_)
    refine go_and (fun g2 => ?_)
    have hf2 := g2 hT0
    subst hf2
    rw [ifC_f hT0] at hfr
    refine go_istore hF d_La_law_1310 (by decide) ?_
    refine go_lv (lv' := [(0, _), (1, _), (2, _), (3, _), (4, _), (5, _), (6, _)]) ⟨rfl, rfl, rfl, rfl, rfl, rfl, rfl, trivial⟩ ?_
    refine go_aload_n hF d_La_law_1312 rfl ?_
    refine go_callVX hF hE hlo d_La_law_1313 (con_Mo_thrown (w := w2) (f := (mS w)) (N := (nx1 (nx1 N))) hlt h4) mt_Mo_thrown mv_Mo_thrown lk_La_86 ⟨rfl, rfl, by decide, by decide⟩ rfl (Nat.le_of_ble_eq_true rfl) ⟨by show _ ≤ 601024; omega, by show _ ≤ 7293034; omega⟩ (fun H hG => gw_recv (q := (R_Mo, T_Mo, 9)) hK hG h4 rfl rfl (by decide) rfl) (fun M => gx_no) rfl (fun v => ?_)
    refine go_and (fun hv => ?_)
    subst hv
    rw [hfr.2.2.1]
    refine go_iload hF d_La_law_1316 rfl ?_
    refine go_icmp_eq (tgt := 1323) hF d_La_law_1318 (by decide) (fun h1318 => ?_) (fun h1318 => ?_)
    · refine go_iload hF d_La_law_1323 rfl ?_
      refine go_if_ne (tgt := 1340) hF d_La_law_1325 (by decide) (fun h1325 => ?_) (fun h1325 => ?_)
      · refine go_goto (tgt := 1481) hF d_La_law_1340 (by decide) ?_
        refine go_lv (lv' := [(0, _), (1, _), (2, _), (3, _), (4, _)]) ⟨rfl, rfl, rfl, rfl, rfl, trivial⟩ ?_
        refine go_wd (k' := k + 89) (n' := n + 2891) (by omega) (by omega) ?_
        exact hC B (nx1 (nx1 N)) _ s (LI_K (K := K) (by omega) (LI_nx h rfl rfl (congrArg Prod.snd hfr.2.1) (LIp_r1 hp hfr)))
      · exact absurd h1325 hT0
    · exact absurd rfl h1318
