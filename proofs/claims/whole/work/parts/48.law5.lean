set_option maxHeartbeats 4000000 in
/-- the reference, finished -/
theorem mo_commit {E : gE} {B : bsT} {on : Nat → Nat → Bool} {O : Nat → Option va_E} {a : Nat} {w : wdT} {H : Heap} (hg : gw E B (on, ovMo E O a, a + 7) w H) (h5 : ∀ κ' ι', on κ' ι' = true → 0 < bln κ') (hoff : on 4 0 = false) (hO : ∀ q, a ≤ q → O q = none) : gw E (upB B 4 0 a) (upN on 4 0, O, a + 7) (zW w 4 0) H := by
  have hae : E.2.2.size ≤ a := (hg.2.2.2.1 a _ (show ovMo E O a a = some _ from (ovs_ne _ _ (by omega)).trans ((ovs_ne _ _ (by omega)).trans ((ovs_ne _ _ (by omega)).trans ((ovs_ne _ _ (by omega)).trans ((ovs_ne _ _ (by omega)).trans ((ovs_ne _ _ (by omega)).trans (ovs_same _ _ _)))))))).1
  have had : ∀ r i, ad (upB B 4 0 a) 4 0 r i = a + rof 4 r + i := fun r i => by unfold ad; rw [upB_same]
  refine gw_commit (N := (on, ovMo E O a, a + 7)) hg h5 hoff hae (by decide) ?_ ?_ ?_ ?_
  · intro d hd
    have hd : d < 7 := hd
    match d, hd with
    | 0, _ => exact ⟨_, show ovMo E O a (a + 0) = some _ from (ovs_ne _ _ (by omega)).trans ((ovs_ne _ _ (by omega)).trans ((ovs_ne _ _ (by omega)).trans ((ovs_ne _ _ (by omega)).trans ((ovs_ne _ _ (by omega)).trans ((ovs_ne _ _ (by omega)).trans (ovs_same _ _ _))))))⟩
    | 1, _ => exact ⟨_, show ovMo E O a (a + 1) = some _ from (ovs_ne _ _ (by omega)).trans ((ovs_ne _ _ (by omega)).trans ((ovs_ne _ _ (by omega)).trans ((ovs_ne _ _ (by omega)).trans ((ovs_ne _ _ (by omega)).trans (ovs_same _ _ _)))))⟩
    | 2, _ => exact ⟨_, show ovMo E O a (a + 2) = some _ from (ovs_ne _ _ (by omega)).trans ((ovs_ne _ _ (by omega)).trans ((ovs_ne _ _ (by omega)).trans ((ovs_ne _ _ (by omega)).trans (ovs_same _ _ _))))⟩
    | 3, _ => exact ⟨_, show ovMo E O a (a + 3) = some _ from (ovs_ne _ _ (by omega)).trans ((ovs_ne _ _ (by omega)).trans ((ovs_ne _ _ (by omega)).trans (ovs_same _ _ _)))⟩
    | 4, _ => exact ⟨_, show ovMo E O a (a + 4) = some _ from (ovs_ne _ _ (by omega)).trans ((ovs_ne _ _ (by omega)).trans (ovs_same _ _ _))⟩
    | 5, _ => exact ⟨_, show ovMo E O a (a + 5) = some _ from (ovs_ne _ _ (by omega)).trans (ovs_same _ _ _)⟩
    | 6, _ => exact ⟨_, show ovMo E O a (a + 6) = some _ from ovs_same _ _ _⟩
    | d + 7, h => exact absurd h (by omega)
  · intro r g i hr hi
    match r, hr with
    | 0, hr =>
      cases hr
      have hi0 : i = 0 := by have hi : i < 1 := hi; omega
      subst hi0
      refine ⟨_, show ovMo E O a (a + 0 + 0) = some _ from (ovs_ne _ _ (by omega)).trans ((ovs_ne _ _ (by omega)).trans ((ovs_ne _ _ (by omega)).trans ((ovs_ne _ _ (by omega)).trans ((ovs_ne _ _ (by omega)).trans ((ovs_ne _ _ (by omega)).trans (ovs_same _ _ _)))))), va_eqq ?_⟩
      simp only [cel, fvs, fv, tgt, had, zW_I]
      rfl
    | 1, hr =>
      cases hr
      have hi0 : i = 0 := by have hi : i < 1 := hi; omega
      subst hi0
      refine ⟨_, show ovMo E O a (a + 1 + 0) = some _ from (ovs_ne _ _ (by omega)).trans ((ovs_ne _ _ (by omega)).trans ((ovs_ne _ _ (by omega)).trans ((ovs_ne _ _ (by omega)).trans ((ovs_ne _ _ (by omega)).trans (ovs_same _ _ _))))), va_eqq ?_⟩
      simp only [cel, avs, zW_I]
    | 2, hr =>
      cases hr
      have hi0 : i = 0 := by have hi : i < 1 := hi; omega
      subst hi0
      refine ⟨_, show ovMo E O a (a + 2 + 0) = some _ from (ovs_ne _ _ (by omega)).trans ((ovs_ne _ _ (by omega)).trans ((ovs_ne _ _ (by omega)).trans ((ovs_ne _ _ (by omega)).trans (ovs_same _ _ _)))), va_eqq ?_⟩
      simp only [cel, avs, zW_I]
    | 3, hr =>
      cases hr
      have hi0 : i = 0 := by have hi : i < 1 := hi; omega
      subst hi0
      refine ⟨_, show ovMo E O a (a + 3 + 0) = some _ from (ovs_ne _ _ (by omega)).trans ((ovs_ne _ _ (by omega)).trans ((ovs_ne _ _ (by omega)).trans (ovs_same _ _ _))), va_eqq ?_⟩
      simp only [cel, avs, zW_I]
    | 4, hr =>
      cases hr
      have hi0 : i = 0 := by have hi : i < 1 := hi; omega
      subst hi0
      refine ⟨_, show ovMo E O a (a + 4 + 0) = some _ from (ovs_ne _ _ (by omega)).trans ((ovs_ne _ _ (by omega)).trans (ovs_same _ _ _)), va_eqq ?_⟩
      simp only [cel, avs, zW_I]
    | 5, hr =>
      cases hr
      have hi0 : i = 0 := by have hi : i < 1 := hi; omega
      subst hi0
      refine ⟨_, show ovMo E O a (a + 5 + 0) = some _ from (ovs_ne _ _ (by omega)).trans (ovs_same _ _ _), va_eqq ?_⟩
      simp only [cel, avs, zW_I]
    | 6, hr =>
      cases hr
      have hi0 : i = 0 := by have hi : i < 1 := hi; omega
      subst hi0
      refine ⟨_, show ovMo E O a (a + 6 + 0) = some _ from ovs_same _ _ _, va_eqq ?_⟩
      simp only [cel, avs, zW_I]
    | r + 7, hr => exact absurd hr (by simp [sch])
  · intro κ' ι' r g i h hr hi
    refine cel_old hr (fun z => ?_) (fun h9 z => by omega)
    rw [z.1, z.2] at h
    exact Bool.noConfusion (hoff.symm.trans h)
  · intro q e hq
    have hlt : q < a := Nat.lt_of_not_le (fun z => by rw [hO q z] at hq; cases hq)
    exact ⟨(show ovMo E O a q = O q from (ovs_ne _ _ (by omega)).trans ((ovs_ne _ _ (by omega)).trans ((ovs_ne _ _ (by omega)).trans ((ovs_ne _ _ (by omega)).trans ((ovs_ne _ _ (by omega)).trans ((ovs_ne _ _ (by omega)).trans (ovs_ne _ _ (by omega)))))))).trans hq, by show ¬ (a ≤ q ∧ q < a + 7); omega⟩
set_option maxHeartbeats 4000000 in
/-- the law's array of one long -/
theorem out_commit {E : gE} {B : bsT} {on : Nat → Nat → Bool} {O : Nat → Option va_E} {a : Nat} {w : wdT} {H : Heap} (hg : gw E B (on, ovs O a (aL E 1), a + 1) w H) (h5 : ∀ κ' ι', on κ' ι' = true → 0 < bln κ') (hoff : on 3 0 = false) (hO : ∀ q, a ≤ q → O q = none) : gw E (upB B 3 0 a) (upN on 3 0, O, a + 1) (zW w 3 0) H := by
  have hae : E.2.2.size ≤ a := (hg.2.2.2.1 a _ (ovs_same _ _ _)).1
  refine gw_commit (N := (on, ovs O a (aL E 1), a + 1)) hg h5 hoff hae (by decide) ?_ ?_ ?_ ?_
  · intro d hd
    have hd : d < 1 := hd
    obtain rfl : d = 0 := by omega
    exact ⟨_, ovs_same _ _ _⟩
  · intro r g i hr hi
    match r, hr with
    | 0, hr =>
      cases hr
      have hi0 : i = 0 := by have hi : i < 1 := hi; omega
      subst hi0
      refine ⟨_, ovs_same _ _ _, va_eqq ?_⟩
      simp only [cel, avs, zW_L]
    | r + 1, hr => exact absurd hr (by simp [sch])
  · intro κ' ι' r g i h hr hi
    refine cel_old hr (fun z => ?_) (fun h9 z => by omega)
    rw [z.1, z.2] at h
    exact Bool.noConfusion (hoff.symm.trans h)
  · intro q e hq
    have hlt : q < a := Nat.lt_of_not_le (fun z => by rw [hO q z] at hq; cases hq)
    exact ⟨(ovs_ne _ _ (by omega)).trans hq, by show ¬ (a ≤ q ∧ q < a + 1); omega⟩
theorem ct_0 (n : Nat) : ct 0 n := ⟨by decide, by show nz 0 ≤ n; rw [show nz 0 = 0 by decide]; exact Nat.zero_le n⟩
/-- at the beginning all is 0 -/
theorem LIp_z {w : wdT} (h0 : ∀ r k i, wI w 0 0 r k i = 0) (h0L : ∀ r k i, wL w 0 0 r k i = 0) (h1 : ∀ r k i, wI w 1 0 r k i = 0) (h2 : ∀ r k i, wI w 2 0 r k i = 0) (h4 : ∀ r k i, wI w 4 0 r k i = 0) : LIp 0 w 0 := by
  have z0 : nz 0 = 0 := by decide
  have hm : ∀ k, mS w k = 0 := fun k => h4 1 0 k
  refine ⟨⟨⟨by rw [h0]; exact ct_0 _, by rw [h0]; exact ct_0 _, by rw [h0]; exact ct_0 _, by rw [h0]; exact ct_0 _, by rw [h0]; exact ct_0 _, fun g hg => ?_, fun k hk => ?_, fun i hi => ?_⟩, ?_, fun n hn => ?_, fun g hg => ?_, fun k hk => ?_, fun i hi => ?_, fun k hk => ?_⟩, by rw [h2]; exact ct_0 _, ⟨by rw [h4, h2], fun i hi => ?_⟩, by omega, by rw [h1]; rfl, by rw [h4]; rfl, fun i hi => by omega⟩
  · rw [h0, z0] at hg; omega
  · rw [h0, z0] at hk; omega
  · rw [h0, z0] at hi; omega
  · unfold RT
    rw [hm, hm, hm, hm, hm, hm, hm, hm, h0, h0, h0, h0, h0, h0, h0L]
    exact ⟨rfl, rfl, rfl, rfl, rfl, rfl, rfl, ⟨by decide, by decide⟩, ⟨by decide, by decide⟩, ⟨by decide, by decide⟩⟩
  · unfold cN at hn; rw [h0, z0] at hn; omega
  · unfold cG at hg; rw [h0, z0] at hg; omega
  · unfold cK at hk; rw [h0, z0] at hk; omega
  · unfold cH at hi; rw [h0, z0] at hi; omega
  · unfold cW at hk; rw [h0, z0] at hk; omega
  · unfold tn at hi; rw [h2, z0] at hi; omega
set_option maxHeartbeats 4000000 in
set_option maxRecDepth 100000 in
/-- the law's loop -/
theorem law_loop {F : gT} {E : gE} (hF : Fb F c_La_law R_La 8 room_1) (hE : en E (gs F)) (hlo : gLo F = E.2.2.size) (hlt : (gl F).stackTraces = false) {b L : Nat} {xs : Nat → Int32} (hX : va_X b L xs (gs F) E.2.2) (hbl : b < E.2.2.size) (hL : L ≤ 2560) (hend : ∀ (lv : lvT) (B : bsT) (N : nwT) (w : wdT) (k n : Nat), k ≤ 601024 → n ≤ 7293034 → Go F 1487 lv [] (gw E B N w) k n) : ∀ (m j : Nat) (B : bsT) (N : nwT) (w : wdT) (s : Nat), 512 - j = m → j ≤ 512 → LI (150 * j) B N w s → Go F 23 [(0, .ref b), (1, .ref (ad B 1 0 0 0)), (2, .ref (ad B 4 0 0 0)), (3, .ref (ad B 3 0 0 0)), (4, .int (nI (5 * j)))] [] (gw E B N w) (200 + 89 * j) (30000 + 2891 * j) := by
  have hK := hE.1
  have hT := hE.2.1
  intro m
  induction m using Nat.strongRecOn with
  | _ m ih =>
    intro j B N w s hm hj h
    have hCC : 5 * j + 5 ≤ L → ∀ (B' : bsT) (N' : nwT) (w' : wdT) (s' : Nat), LI (150 * j + 150) B' N' w' s' → Go F 1481 [(0, .ref b), (1, .ref (ad B' 1 0 0 0)), (2, .ref (ad B' 4 0 0 0)), (3, .ref (ad B' 3 0 0 0)), (4, .int (nI (5 * j)))] [] (gw E B' N' w') (200 + 89 * j + 89) (30000 + 2891 * j + 2891) := by
      intro hi5 B' N' w' s' h'
      refine go_iinc hF d_La_law_1481 rfl rfl (by decide) ?_
      refine go_lv (lv' := [(0, _), (1, _), (2, _), (3, _), (4, _)]) ⟨rfl, rfl, rfl, rfl, rfl, trivial⟩ ?_
      refine go_goto (tgt := 23) hF d_La_law_1484 (by decide) ?_
      refine go_lv (lv' := [(0, _), (1, _), (2, _), (3, _), (4, .int (nI (5 * (j + 1))))]) ⟨rfl, rfl, rfl, rfl, by rw [show nI (5 * (j + 1)) = nI (5 * j) + 5 from (nI_add (5 * j) 5).symm]; rfl, trivial⟩ ?_
      refine go_kn (k' := 200 + 89 * (j + 1)) (n' := 30000 + 2891 * (j + 1)) (by omega) (by omega) ?_
      exact ih _ (by omega) (j + 1) B' N' w' s' rfl (by omega) (LI_K (by omega) h')
    refine go_iload hF d_La_law_23 rfl ?_
    refine go_aload_n hF d_La_law_25 rfl ?_
    refine gs_slen hF hX hbl d_La_law_26 ?_
    refine go_iconst (v := 5) hF d_La_law_27 (by decide) ?_
    refine go_isub hF d_La_law_28 ?_
    refine go_icmp_gt (tgt := 1487) hF d_La_law_29 (by decide) (fun h29 => ?_) (fun h29 => ?_)
    · exact hend _ _ _ _ _ _ (by omega) (by omega)
    · have hi5 : 5 * j + 5 ≤ L := by
        have e : (nI L - 5).toInt = (L : Int) - 5 := by
          rw [i32_sub (by rw [nI_toInt (by omega), show (5 : Int32).toInt = 5 by decide]; omega) (by rw [nI_toInt (by omega), show (5 : Int32).toInt = 5 by decide]; omega), nI_toInt (by omega), show (5 : Int32).toInt = 5 by decide]
        rw [Int32.lt_iff_toInt_lt, e, nI_toInt (by omega)] at h29
        omega
      have hC := hCC hi5
      refine go_aload_n hF d_La_law_32 rfl ?_
      refine go_iload hF d_La_law_33 rfl ?_
      refine gs_sld hF hX hbl d_La_law_35 rfl (by omega) (by omega) ?_
      refine go_bipush (v := 31) hF d_La_law_36 (by decide) ?_
      refine go_iand hF d_La_law_38 ?_
      refine go_topi (fun x39 hx39 => ?_)
      by_cases e39_0 : x39 = 0
      · rw [e39_0]
        refine go_tableIn (off := 97) (tgt := 136) hF d_La_law_39 (by decide) (by decide) (by decide) (by decide) ?_
        exact law_net hF hE hlo hlt hX hbl hL (i := 5 * j) (K := 150 * j) (k := 200 + 89 * j) (n := 30000 + 2891 * j) (s := s) hi5 (by omega) (by omega) (by omega) h hC
      by_cases e39_1 : x39 = 1
      · rw [e39_1]
        refine go_tableIn (off := 141) (tgt := 180) hF d_La_law_39 (by decide) (by decide) (by decide) (by decide) ?_
        exact law_gate hF hE hlo hlt hX hbl hL (i := 5 * j) (K := 150 * j) (k := 200 + 89 * j) (n := 30000 + 2891 * j) (s := s) hi5 (by omega) (by omega) (by omega) h hC
      by_cases e39_2 : x39 = 2
      · rw [e39_2]
        refine go_tableIn (off := 233) (tgt := 272) hF d_La_law_39 (by decide) (by decide) (by decide) (by decide) ?_
        exact law_delay hF hE hlo hlt hX hbl hL (i := 5 * j) (K := 150 * j) (k := 200 + 89 * j) (n := 30000 + 2891 * j) (s := s) hi5 (by omega) (by omega) (by omega) h hC
      by_cases e39_3 : x39 = 3
      · rw [e39_3]
        refine go_tableIn (off := 320) (tgt := 359) hF d_La_law_39 (by decide) (by decide) (by decide) (by decide) ?_
        exact law_spike hF hE hlo hlt hX hbl hL (i := 5 * j) (K := 150 * j) (k := 200 + 89 * j) (n := 30000 + 2891 * j) (s := s) hi5 (by omega) (by omega) (by omega) h hC
      by_cases e39_4 : x39 = 4
      · rw [e39_4]
        refine go_tableIn (off := 383) (tgt := 422) hF d_La_law_39 (by decide) (by decide) (by decide) (by decide) ?_
        exact law_drive hF hE hlo hlt hX hbl hL (i := 5 * j) (K := 150 * j) (k := 200 + 89 * j) (n := 30000 + 2891 * j) (s := s) hi5 (by omega) (by omega) (by omega) h hC
      by_cases e39_5 : x39 = 5
      · rw [e39_5]
        refine go_tableIn (off := 495) (tgt := 534) hF d_La_law_39 (by decide) (by decide) (by decide) (by decide) ?_
        exact law_force hF hE hlo hlt hX hbl hL (i := 5 * j) (K := 150 * j) (k := 200 + 89 * j) (n := 30000 + 2891 * j) (s := s) hi5 (by omega) (by omega) (by omega) h hC
      by_cases e39_6 : x39 = 6
      · rw [e39_6]
        refine go_tableIn (off := 607) (tgt := 646) hF d_La_law_39 (by decide) (by decide) (by decide) (by decide) ?_
        exact law_release hF hE hlo hlt hX hbl hL (i := 5 * j) (K := 150 * j) (k := 200 + 89 * j) (n := 30000 + 2891 * j) (s := s) hi5 (by omega) (by omega) (by omega) h hC
      by_cases e39_7 : x39 = 7
      · rw [e39_7]
        refine go_tableIn (off := 707) (tgt := 746) hF d_La_law_39 (by decide) (by decide) (by decide) (by decide) ?_
        exact law_check hF hE hlo hlt hX hbl hL (i := 5 * j) (K := 150 * j) (k := 200 + 89 * j) (n := 30000 + 2891 * j) (s := s) hi5 (by omega) (by omega) (by omega) h hC
      by_cases e39_8 : x39 = 8
      · rw [e39_8]
        refine go_tableIn (off := 799) (tgt := 838) hF d_La_law_39 (by decide) (by decide) (by decide) (by decide) ?_
        exact law_broken hF hE hlo hlt hX hbl hL (i := 5 * j) (K := 150 * j) (k := 200 + 89 * j) (n := 30000 + 2891 * j) (s := s) hi5 (by omega) (by omega) (by omega) h hC
      by_cases e39_9 : x39 = 9
      · rw [e39_9]
        refine go_tableIn (off := 855) (tgt := 894) hF d_La_law_39 (by decide) (by decide) (by decide) (by decide) ?_
        exact law_run hF hE hlo hlt hX hbl hL (i := 5 * j) (K := 150 * j) (k := 200 + 89 * j) (n := 30000 + 2891 * j) (s := s) hi5 (by omega) (by omega) (by omega) h hC
      by_cases e39_10 : x39 = 10
      · rw [e39_10]
        refine go_tableIn (off := 942) (tgt := 981) hF d_La_law_39 (by decide) (by decide) (by decide) (by decide) ?_
        exact law_now hF hE hlo hlt hX hbl hL (i := 5 * j) (K := 150 * j) (k := 200 + 89 * j) (n := 30000 + 2891 * j) (s := s) hi5 (by omega) (by omega) (by omega) h hC
      by_cases e39_11 : x39 = 11
      · rw [e39_11]
        refine go_tableIn (off := 956) (tgt := 995) hF d_La_law_39 (by decide) (by decide) (by decide) (by decide) ?_
        exact law_at hF hE hlo hlt hX hbl hL (i := 5 * j) (K := 150 * j) (k := 200 + 89 * j) (n := 30000 + 2891 * j) (s := s) hi5 (by omega) (by omega) (by omega) h hC
      by_cases e39_12 : x39 = 12
      · rw [e39_12]
        refine go_tableIn (off := 1056) (tgt := 1095) hF d_La_law_39 (by decide) (by decide) (by decide) (by decide) ?_
        exact law_value hF hE hlo hlt hX hbl hL (i := 5 * j) (K := 150 * j) (k := 200 + 89 * j) (n := 30000 + 2891 * j) (s := s) hi5 (by omega) (by omega) (by omega) h hC
      by_cases e39_13 : x39 = 13
      · rw [e39_13]
        refine go_tableIn (off := 1112) (tgt := 1151) hF d_La_law_39 (by decide) (by decide) (by decide) (by decide) ?_
        exact law_change hF hE hlo hlt hX hbl hL (i := 5 * j) (K := 150 * j) (k := 200 + 89 * j) (n := 30000 + 2891 * j) (s := s) hi5 (by omega) (by omega) (by omega) h hC
      by_cases e39_14 : x39 = 14
      · rw [e39_14]
        refine go_tableIn (off := 1180) (tgt := 1219) hF d_La_law_39 (by decide) (by decide) (by decide) (by decide) ?_
        exact law_counted hF hE hlo hlt hX hbl hL (i := 5 * j) (K := 150 * j) (k := 200 + 89 * j) (n := 30000 + 2891 * j) (s := s) hi5 (by omega) (by omega) (by omega) h hC
      by_cases e39_15 : x39 = 15
      · rw [e39_15]
        refine go_tableIn (off := 1235) (tgt := 1274) hF d_La_law_39 (by decide) (by decide) (by decide) (by decide) ?_
        exact law_unit hF hE hlo hlt hX hbl hL (i := 5 * j) (K := 150 * j) (k := 200 + 89 * j) (n := 30000 + 2891 * j) (s := s) hi5 (by omega) (by omega) (by omega) h hC
      by_cases e39_16 : x39 = 16
      · rw [e39_16]
        refine go_tableIn (off := 1260) (tgt := 1299) hF d_La_law_39 (by decide) (by decide) (by decide) (by decide) ?_
        exact law_read hF hE hlo hlt hX hbl hL (i := 5 * j) (K := 150 * j) (k := 200 + 89 * j) (n := 30000 + 2891 * j) (s := s) hi5 (by omega) (by omega) (by omega) h hC
      by_cases e39_17 : x39 = 17
      · rw [e39_17]
        refine go_tableIn (off := 1304) (tgt := 1343) hF d_La_law_39 (by decide) (by decide) (by decide) (by decide) ?_
        exact law_write hF hE hlo hlt hX hbl hL (i := 5 * j) (K := 150 * j) (k := 200 + 89 * j) (n := 30000 + 2891 * j) (s := s) hi5 (by omega) (by omega) (by omega) h hC
      by_cases e39_18 : x39 = 18
      · rw [e39_18]
        refine go_tableIn (off := 1360) (tgt := 1399) hF d_La_law_39 (by decide) (by decide) (by decide) (by decide) ?_
        exact law_levels hF hE hlo hlt hX hbl hL (i := 5 * j) (K := 150 * j) (k := 200 + 89 * j) (n := 30000 + 2891 * j) (s := s) hi5 (by omega) (by omega) (by omega) h hC
      by_cases e39_19 : x39 = 19
      · rw [e39_19]
        refine go_tableIn (off := 1373) (tgt := 1412) hF d_La_law_39 (by decide) (by decide) (by decide) (by decide) ?_
        exact law_save hF hE hlo hlt hX hbl hL (i := 5 * j) (K := 150 * j) (k := 200 + 89 * j) (n := 30000 + 2891 * j) (s := s) hi5 (by omega) (by omega) (by omega) h hC
      by_cases e39_20 : x39 = 20
      · rw [e39_20]
        refine go_tableIn (off := 1417) (tgt := 1456) hF d_La_law_39 (by decide) (by decide) (by decide) (by decide) ?_
        exact law_back hF hE hlo hlt hX hbl hL (i := 5 * j) (K := 150 * j) (k := 200 + 89 * j) (n := 30000 + 2891 * j) (s := s) hi5 (by omega) (by omega) (by omega) h hC
      refine go_tableOut (tgt := 1481) hF d_La_law_39 (tsw_out (fun c h1 h2 => by
        rcases (show c = 0 ∨ c = 1 ∨ c = 2 ∨ c = 3 ∨ c = 4 ∨ c = 5 ∨ c = 6 ∨ c = 7 ∨ c = 8 ∨ c = 9 ∨ c = 10 ∨ c = 11 ∨ c = 12 ∨ c = 13 ∨ c = 14 ∨ c = 15 ∨ c = 16 ∨ c = 17 ∨ c = 18 ∨ c = 19 ∨ c = 20 by omega) with rfl | rfl | rfl | rfl | rfl | rfl | rfl | rfl | rfl | rfl | rfl | rfl | rfl | rfl | rfl | rfl | rfl | rfl | rfl | rfl | rfl
        · exact e39_0
        · exact e39_1
        · exact e39_2
        · exact e39_3
        · exact e39_4
        · exact e39_5
        · exact e39_6
        · exact e39_7
        · exact e39_8
        · exact e39_9
        · exact e39_10
        · exact e39_11
        · exact e39_12
        · exact e39_13
        · exact e39_14
        · exact e39_15
        · exact e39_16
        · exact e39_17
        · exact e39_18
        · exact e39_19
        · exact e39_20)) (by decide) ?_
      refine go_wd (k' := 200 + 89 * j + 89) (n' := 30000 + 2891 * j + 2891) (by omega) (by omega) ?_
      exact hC B N w s (LI_K (by omega) h)
/-- blocks of the kinds there are have a length -/
theorem bl5 {on : Nat → Nat → Bool} (h : ∀ κ ι, on κ ι = true → κ ≤ 4) : ∀ κ' ι', on κ' ι' = true → 0 < bln κ' := by
  intro κ' ι' z
  have := h κ' ι' z
  rcases (show κ' = 0 ∨ κ' = 1 ∨ κ' = 2 ∨ κ' = 3 ∨ κ' = 4 by omega) with rfl | rfl | rfl | rfl | rfl <;> decide
theorem bl5u {on : Nat → Nat → Bool} {κ ι : Nat} (h : ∀ κ ι, on κ ι = true → κ ≤ 4) (hk : κ ≤ 4) : ∀ κ' ι', upN on κ ι κ' ι' = true → κ' ≤ 4 := by
  intro κ' ι' z
  rcases upN_t z with q | q
  · rw [q.1]; exact hk
  · exact h κ' ι' q
theorem gw_0 {E : gE} {B : bsT} {w : wdT} : gw E B ((fun _ _ => false), (fun _ => none), E.2.2.size) w E.2.2 :=
  ⟨⟨Nat.le_refl _, fun _ _ => rfl⟩, rfl, (fun κ ι r g i z => Bool.noConfusion z), (fun a e z => by cases z), (fun κ ι z => Bool.noConfusion z), (fun κ ι κ' ι' z => Bool.noConfusion z), (fun a e κ ι z => by cases z)⟩
set_option maxHeartbeats 4000000 in
set_option maxRecDepth 100000 in
/-- the law, from its entry -/
theorem law_body {F : gT} {E : gE} (hF : Fb F c_La_law R_La 8 room_1) (hE : en E (gs F)) (hlo : gLo F = E.2.2.size) (hlt : (gl F).stackTraces = false) {b L : Nat} {xs : Nat → Int32} (hX : va_X b L xs (gs F) E.2.2) (hbl : b < E.2.2.size) (hL : L ≤ 2560) (hend : ∀ (lv : lvT) (B : bsT) (N : nwT) (w : wdT) (k n : Nat), k ≤ 601024 → n ≤ 7293034 → Go F 1487 lv [] (gw E B N w) k n) : Go F 0 [(0, .ref b)] [] (fun H => H = E.2.2) 0 0 := by
  have hK := hE.1
  have hT := hE.2.1
  have h53 : ∀ κ ι, (upN (upN (upN (fun _ _ => false) 0 0) 2 0) 1 0) κ ι = true → κ ≤ 4 := bl5u (bl5u (bl5u (fun _ _ z => Bool.noConfusion z) (by omega)) (by omega)) (by omega)
  have h54 : ∀ κ ι, (upN (upN (upN (upN (fun _ _ => false) 0 0) 2 0) 1 0) 4 0) κ ι = true → κ ≤ 4 := bl5u h53 (by omega)
  have h55 : ∀ κ ι, (upN (upN (upN (upN (upN (fun _ _ => false) 0 0) 2 0) 1 0) 4 0) 3 0) κ ι = true → κ ≤ 4 := bl5u h54 (by omega)
  refine go_G (G' := gw E (fun _ _ => 0) ((fun _ _ => false), (fun _ => none), E.2.2.size) ((fun _ _ _ _ _ => 0), (fun _ _ _ _ _ => 0), (fun _ _ _ _ _ => none))) (fun H hG => by rw [hG]; exact gw_0) ?_
  refine gs_new (N := ((fun _ _ => false), (fun _ => none), E.2.2.size)) hF hK d_La_law_0 nw_La_8 ⟨by show _ ≤ 601024; omega, by show _ ≤ 7293034; omega⟩ ?_
  refine go_G (G' := gw E (fun _ _ => 0) ((fun _ _ => false), ovs (fun _ => none) E.2.2.size (.inr (0, [.null, .null, .int 0, .null])), E.2.2.size + 1) ((fun _ _ _ _ _ => 0), (fun _ _ _ _ _ => 0), (fun _ _ _ _ _ => none))) (fun H hG => hG) ?_
  refine go_dup hF d_La_law_3 rfl ?_
  refine go_ctor hF hE hlo d_La_law_4 rfl (con_EW_init (on := fun _ _ => false) (O := fun _ => none) (a := E.2.2.size) (B := (fun _ _ => 0)) (w := ((fun _ _ _ _ _ => 0), (fun _ _ _ _ _ => 0), (fun _ _ _ _ _ => none))) hlt (fun κ' ι' z => Bool.noConfusion z) rfl rfl (fun _ => rfl) (fun _ _ => rfl)) mt_EW_init mi_EW_init (Or.inl lk_La_76) ⟨rfl, rfl, by decide, by decide⟩ rfl (Nat.le_of_ble_eq_true rfl) ⟨by show _ ≤ 601024; omega, by show _ ≤ 7293034; omega⟩ (fun M => gx_no) rfl (fun v => ?_)
  refine go_and (fun hv => ?_)
  subst hv
  refine go_astore_n hF d_La_law_7 (by decide) ?_
  refine go_lv (lv' := [(0, _), (1, _)]) ⟨rfl, rfl, trivial⟩ ?_
  refine gs_new (N := ((upN (upN (upN (fun _ _ => false) 0 0) 2 0) 1 0), (fun _ => none), E.2.2.size + 93)) hF hK d_La_law_8 nw_La_77 ⟨by show _ ≤ 601024; omega, by show _ ≤ 7293034; omega⟩ ?_
  refine go_G (G' := gw E (upB (upB (upB (fun _ _ => 0) 0 0 (E.2.2.size + 1)) 2 0 (E.2.2.size + 90)) 1 0 E.2.2.size) ((upN (upN (upN (fun _ _ => false) 0 0) 2 0) 1 0), ovs (fun _ => none) (E.2.2.size + 93) (.inr (9, [.int 0, .null, .null, .int 0, .null, .int 0, .null, .null, .null])), E.2.2.size + 93 + 1) (zW (zW (zW ((fun _ _ _ _ _ => 0), (fun _ _ _ _ _ => 0), (fun _ _ _ _ _ => none)) 0 0) 2 0) 1 0)) (fun H hG => hG) ?_
  refine go_dup hF d_La_law_11 rfl ?_
  refine go_ctor hF hE hlo d_La_law_12 rfl (con_Mo_init (on := (upN (upN (upN (fun _ _ => false) 0 0) 2 0) 1 0)) (O := fun _ => none) (b := E.2.2.size + 93) (B := (upB (upB (upB (fun _ _ => 0) 0 0 (E.2.2.size + 1)) 2 0 (E.2.2.size + 90)) 1 0 E.2.2.size)) (w := (zW (zW (zW ((fun _ _ _ _ _ => 0), (fun _ _ _ _ _ => 0), (fun _ _ _ _ _ => none)) 0 0) 2 0) 1 0)) hlt) mt_Mo_init mi_Mo_init (Or.inl lk_La_79) ⟨rfl, rfl, by decide, by decide⟩ rfl (Nat.le_of_ble_eq_true rfl) ⟨by show _ ≤ 601024; omega, by show _ ≤ 7293034; omega⟩ (fun M => gx_no) rfl (fun v => ?_)
  refine go_and (fun hv => ?_)
  subst hv
  refine go_G (G' := gw E (upB (upB (upB (upB (fun _ _ => 0) 0 0 (E.2.2.size + 1)) 2 0 (E.2.2.size + 90)) 1 0 E.2.2.size) 4 0 (E.2.2.size + 93)) ((upN (upN (upN (upN (fun _ _ => false) 0 0) 2 0) 1 0) 4 0), (fun _ => none), E.2.2.size + 93 + 7) (zW (zW (zW (zW ((fun _ _ _ _ _ => 0), (fun _ _ _ _ _ => 0), (fun _ _ _ _ _ => none)) 0 0) 2 0) 1 0) 4 0)) (fun H hG => mo_commit hG (bl5 h53) (by decide) (fun _ _ => rfl)) ?_
  refine go_astore_n hF d_La_law_15 (by decide) ?_
  refine go_lv (lv' := [(0, _), (1, _), (2, _)]) ⟨rfl, rfl, rfl, trivial⟩ ?_
  refine go_iconst (v := 1) hF d_La_law_16 (by decide) ?_
  refine gs_newal (N := ((upN (upN (upN (upN (fun _ _ => false) 0 0) 2 0) 1 0) 4 0), (fun _ => none), E.2.2.size + 93 + 7)) (n := 1) hF hK hT d_La_law_17 (by decide) ⟨by show _ ≤ 601024; omega, by show _ ≤ 7293034; omega⟩ rfl ac_long ?_
  refine go_G (G' := gw E (upB (upB (upB (upB (upB (fun _ _ => 0) 0 0 (E.2.2.size + 1)) 2 0 (E.2.2.size + 90)) 1 0 E.2.2.size) 4 0 (E.2.2.size + 93)) 3 0 (E.2.2.size + 93 + 7)) ((upN (upN (upN (upN (upN (fun _ _ => false) 0 0) 2 0) 1 0) 4 0) 3 0), (fun _ => none), E.2.2.size + 93 + 7 + 1) (zW (zW (zW (zW (zW ((fun _ _ _ _ _ => 0), (fun _ _ _ _ _ => 0), (fun _ _ _ _ _ => none)) 0 0) 2 0) 1 0) 4 0) 3 0)) (fun H hG => out_commit hG (bl5 h54) (by decide) (fun _ _ => rfl)) ?_
  refine go_astore_n hF d_La_law_19 (by decide) ?_
  refine go_lv (lv' := [(0, _), (1, _), (2, _), (3, _)]) ⟨rfl, rfl, rfl, rfl, trivial⟩ ?_
  refine go_iconst (v := 0) hF d_La_law_20 (by decide) ?_
  refine go_istore hF d_La_law_21 (by decide) ?_
  refine go_lv (lv' := [(0, _), (1, _), (2, _), (3, _), (4, _)]) ⟨rfl, rfl, rfl, rfl, rfl, trivial⟩ ?_
  refine go_lv (lv' := [(0, _), (1, .ref (ad (upB (upB (upB (upB (upB (fun _ _ => 0) 0 0 (E.2.2.size + 1)) 2 0 (E.2.2.size + 90)) 1 0 E.2.2.size) 4 0 (E.2.2.size + 93)) 3 0 (E.2.2.size + 93 + 7)) 1 0 0 0)), (2, .ref (ad (upB (upB (upB (upB (upB (fun _ _ => 0) 0 0 (E.2.2.size + 1)) 2 0 (E.2.2.size + 90)) 1 0 E.2.2.size) 4 0 (E.2.2.size + 93)) 3 0 (E.2.2.size + 93 + 7)) 4 0 0 0)), (3, .ref (ad (upB (upB (upB (upB (upB (fun _ _ => 0) 0 0 (E.2.2.size + 1)) 2 0 (E.2.2.size + 90)) 1 0 E.2.2.size) 4 0 (E.2.2.size + 93)) 3 0 (E.2.2.size + 93 + 7)) 3 0 0 0)), (4, .int (nI (5 * 0)))]) ⟨rfl, rfl, rfl, rfl, rfl, trivial⟩ ?_
  refine go_wd (k' := 200 + 89 * 0) (n' := 30000 + 2891 * 0) (by decide) (by decide) ?_
  exact law_loop hF hE hlo hlt hX hbl hL hend _ 0 _ _ _ 0 rfl (by omega) ⟨⟨rfl, rfl, rfl, rfl, rfl⟩, LIp_z (fun _ _ _ => rfl) (fun _ _ _ => rfl) (fun _ _ _ => rfl) (fun _ _ _ => rfl) (fun _ _ _ => rfl), fun i hi => absurd hi (by omega), fun i hi => absurd hi (by omega), fun i _ => by simp [upN], bl5 h55, fun _ => rfl⟩
