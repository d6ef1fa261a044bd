theorem pws_i : ∀ d, d < 10 → (pws d).toInt = (10 ^ d : Nat) := by decide
theorem pws_10 : ∀ d, d < 9 → 10 * pws d = pws (d + 1) := by decide
theorem pws_d : ∀ d, d < 9 → pws (d + 1) / 10 = pws d := by decide
theorem div_i {x p : Int32} (hx : 0 ≤ x.toInt) (hp : 0 < p.toInt) : (x / p).toInt = x.toInt / p.toInt := by
  rw [Int32.toInt_div, Int.tdiv_eq_ediv_of_nonneg hx]
  have h1 := Int32.toInt_lt x
  have h2 : 0 ≤ x.toInt / p.toInt := Int.ediv_nonneg hx (by omega)
  have h3 : x.toInt / p.toInt ≤ x.toInt := Int.ediv_le_self _ hx
  exact Int.bmod_eq_of_le (by omega) (by omega)
theorem i9' : (9 : Int32).toInt = 9 := by decide
theorem dg_le9 {x : Int32} {d : Nat} (hx : 0 ≤ x.toInt) (h9 : d < 9) : x / pws d ≤ 9 ↔ x < pws (d + 1) := by
  rw [Int32.le_iff_toInt_le, Int32.lt_iff_toInt_lt, i9', pws_i (d + 1) (by omega), div_i hx (by rw [pws_i d (by omega)]; exact_mod_cast Nat.pow_pos (by decide)), pws_i d (by omega)]
  rcases (show d = 0 ∨ d = 1 ∨ d = 2 ∨ d = 3 ∨ d = 4 ∨ d = 5 ∨ d = 6 ∨ d = 7 ∨ d = 8 by omega) with rfl | rfl | rfl | rfl | rfl | rfl | rfl | rfl | rfl
  all_goals simp only [Nat.reducePow, Nat.reduceAdd] at *
  all_goals omega
theorem dg_9 {x : Int32} (hx : 0 ≤ x.toInt) : x / pws 9 ≤ 9 := by
  have h1 := Int32.toInt_lt x
  have e := pws_i 9 (by decide)
  rw [Int32.le_iff_toInt_le, i9', div_i hx (by rw [e]; decide), e]
  simp only [Nat.reducePow] at *
  omega
/-- the reference's count of digits: at d, the power 10^(d-1) -/
theorem dgl_t {x : Int32} {d : Nat} (hx : 0 ≤ x.toInt) (h1 : 1 ≤ d) (h10 : d ≤ 10) (hd : dgl x (10 - d) d = dg x) (h : x / pws (d - 1) ≤ 9) : dg x = d := by
  rcases Nat.lt_or_ge d 10 with q | q
  · obtain ⟨e, rfl⟩ : ∃ e, d = e + 1 := ⟨d - 1, by omega⟩
    have h2 := (dg_le9 hx (show e < 9 by omega)).mp h
    rw [show 10 - (e + 1) = (8 - e) + 1 by omega, dgl_s, if_pos h2] at hd
    exact hd.symm
  · have : d = 10 := by omega
    subst this
    exact hd.symm
theorem dgl_n {x : Int32} {d : Nat} (hx : 0 ≤ x.toInt) (h1 : 1 ≤ d) (h10 : d ≤ 10) (hd : dgl x (10 - d) d = dg x) (h : ¬ x / pws (d - 1) ≤ 9) : d ≤ 9 ∧ dgl x (10 - (d + 1)) (d + 1) = dg x ∧ 10 * pws (d - 1) = pws (d + 1 - 1) := by
  rcases Nat.lt_or_ge d 10 with q | q
  · obtain ⟨e, rfl⟩ : ∃ e, d = e + 1 := ⟨d - 1, by omega⟩
    have h2 : ¬ x < pws (e + 1) := fun z => h ((dg_le9 hx (show e < 9 by omega)).mpr z)
    rw [show 10 - (e + 1) = (8 - e) + 1 by omega, dgl_s, if_neg h2] at hd
    refine ⟨by omega, ?_, pws_10 e (by omega)⟩
    rw [show 10 - (e + 1 + 1) = 8 - e by omega]
    exact hd
  · have : d = 10 := by omega
    subst this
    exact absurd (dg_9 hx) h
theorem sub_nI {i : Int32} {a : Nat} (h0 : (a : Int) ≤ i.toInt) : ∃ q : Nat, q < 2 ^ 31 ∧ i - nI a = nI q ∧ (q : Int) = i.toInt - a := by
  have h1 := Int32.toInt_lt i
  refine ⟨(i.toInt - a).toNat, by omega, Int32.toInt_inj.mp ?_, by omega⟩
  rw [i32_sub (by rw [nI_toInt (by omega)]; omega) (by rw [nI_toInt (by omega)]; omega), nI_toInt (by omega), nI_toInt (by omega)]
  omega
theorem sub_2 (i : Int32) (a b : Nat) : i - nI a - nI b = i - nI (a + b) := by
  rw [← nI_add, Int32.sub_eq_add_neg, Int32.sub_eq_add_neg, Int32.sub_eq_add_neg, Int32.neg_add, Int32.add_assoc, Int32.sub_eq_add_neg]
theorem hby_0 (t : Int32) (d : Nat) : hby t d (nI 0) = 35 := by
  unfold hby
  rw [if_pos (show nI 0 = 0 from rfl)]
theorem nI_sub {a b : Nat} (h : b ≤ a) : nI a - nI b = nI (a - b) := by
  have e : nI a = nI (a - b) + nI b := by rw [nI_add, Nat.sub_add_cancel h]
  rw [e, Int32.add_sub_cancel]
theorem hby_m {t : Int32} {d q : Nat} (h1 : 1 ≤ q) (h2 : q ≤ d) (h3 : d ≤ 10) : hby t d (nI q) = 48 + (t / pws (d - q) - t / pws (d - q) / 10 * 10) := by
  unfold hby
  rw [if_neg (nI_ne0 h1 (by omega)), nI_sub h2, if_pos ⟨by rw [Int32.le_iff_toInt_le, i0, nI_toInt (by omega)]; omega, nI_lt (b := 10) (by omega) (by decide)⟩]
  unfold nz
  rw [nI_clamp (by omega)]
theorem hby_e {t : Int32} {d : Nat} (h3 : d ≤ 10) : hby t d (nI (d + 1)) = 10 := by
  unfold hby
  rw [if_neg (nI_ne0 (by omega) (by omega)), if_neg]
  intro z
  have z1 := z.1
  have e : nI d - nI (d + 1) = -1 := by
    rw [← nI_1]
    exact Int32.toInt_inj.mp (by
      have e1 : (nI d + 1).toInt = d + 1 := by rw [nI_1, nI_toInt (by omega)]; omega
      rw [i32_sub (by rw [e1, nI_toInt (by omega)]; omega) (by rw [e1, nI_toInt (by omega)]; omega), e1, nI_toInt (by omega), im1]
      omega)
  rw [e] at z1
  exact absurd z1 (by decide)
theorem mod10 {x : Int32} (hx : 0 ≤ x.toInt) : 0 ≤ (x - x / 10 * 10).toInt ∧ (x - x / 10 * 10).toInt ≤ 9 := by
  have h1 := Int32.toInt_lt x
  have e10 : (10 : Int32).toInt = 10 := by decide
  have e1 : (x / 10).toInt = x.toInt / 10 := by rw [div_i hx (by rw [e10]; decide), e10]
  have e2 : (x / 10 * 10).toInt = x.toInt / 10 * 10 := by
    rw [Int32.toInt_mul, e1, e10]
    exact Int.bmod_eq_of_le (by omega) (by omega)
  rw [i32_sub (by omega) (by omega), e2]
  omega
theorem hby_ne {t : Int32} {d q : Nat} (ht : 0 ≤ t.toInt) (h2 : q ≤ d + 1) (h3 : d ≤ 10) : ¬ hby t d (nI q) = -1 := by
  rcases (show q = 0 ∨ (1 ≤ q ∧ q ≤ d) ∨ q = d + 1 by omega) with e | e | e
  · rw [e, hby_0]; decide
  · rw [hby_m e.1 e.2 h3]
    intro z
    have hp := pws_i (d - q) (by omega)
    have hpp : 0 < (pws (d - q)).toInt := by rw [hp]; exact_mod_cast Nat.pow_pos (by decide)
    have h5 : 0 ≤ (t / pws (d - q)).toInt := by rw [div_i ht hpp]; exact Int.ediv_nonneg ht (by omega)
    have h6 := mod10 h5
    have h7 := congrArg Int32.toInt z
    have e48 : (48 : Int32).toInt = 48 := by decide
    rw [i32_add (by rw [e48]; omega) (by rw [e48]; omega), e48, im1] at h7
    omega
  · rw [e, hby_e h3]; decide
theorem vbs_M {v : Int32} (h : rg v 0 3) : vbs (nz v) = if v = 0 then 48 else if v = 1 then 49 else if v = 2 then 120 else 122 := by
  have h1 := h.1
  have h2 := h.2
  rcases (show v.toInt = 0 ∨ v.toInt = 1 ∨ v.toInt = 2 ∨ v.toInt = 3 by omega) with e | e | e | e
  · have : v = 0 := Int32.toInt_inj.mp (by rw [e]; rfl)
    subst this
    rfl
  · have : v = 1 := Int32.toInt_inj.mp (by rw [e]; rfl)
    subst this
    rfl
  · have : v = 2 := Int32.toInt_inj.mp (by rw [e]; rfl)
    subst this
    rfl
  · have : v = 3 := Int32.toInt_inj.mp (by rw [e]; rfl)
    subst this
    rfl
theorem lby_ne {K : Nat} {c : wdT} {ι : Nat} {f : Nat → Int32} {k : Nat} (h : Rel K c ι f) (hk : k < cW c ι) (x : Int32) : ¬ lby c ι k x = -1 := by
  obtain ⟨_, _, _, _, r2, v1⟩ := h.2.2.2.2.2.2 k hk
  unfold lby
  split
  · rw [vbs_M r2]
    repeat' split
    all_goals decide
  · split
    · intro z
      have hn : nz (wI c 0 ι 11 0 k) < 24 := v1.2
      have e : (wI c 0 ι 11 0 k).toInt = (nz (wI c 0 ι 11 0 k) : Int) := by rw [(nz_vn v1).1]; unfold nz; rw [nI_clamp (by unfold nz at hn; omega), nI_toInt (by unfold nz at hn; omega)]
      have e33 : (33 : Int32).toInt = 33 := by decide
      have z2 := congrArg Int32.toInt z
      rw [i32_add (by rw [e33]; omega) (by rw [e33]; omega), e33, im1] at z2
      omega
    · decide
/-- the text, as the reference goes through it: change k at place a -/
theorem bot_h {c : wdT} {ι m k : Nat} {l : Int32} (h : hd1 c ι k) : bot c ι (m + 1) k l = (if l < nI (dg (wI c 0 ι 10 0 k)) + 2 then hby (wI c 0 ι 10 0 k) (dg (wI c 0 ι 10 0 k)) l
       else if l - (nI (dg (wI c 0 ι 10 0 k)) + 2) < 3 then lby c ι k (l - (nI (dg (wI c 0 ι 10 0 k)) + 2)) else bot c ι m (k + 1) (l - (nI (dg (wI c 0 ι 10 0 k)) + 2) + Int32.ofInt (-3))) := by
  rw [bot_s, if_pos h]
theorem bot_n {c : wdT} {ι m k : Nat} {l : Int32} (h : ¬ hd1 c ι k) : bot c ι (m + 1) k l = (if l < 3 then lby c ι k l else bot c ι m (k + 1) (l + Int32.ofInt (-3))) := by
  rw [bot_s, if_neg h]
theorem lt_sub {i : Int32} {a b : Nat} (h0 : (a : Int) ≤ i.toInt) (hb : a + b < 2 ^ 31) : i - nI a < nI b ↔ i < nI (a + b) := by
  obtain ⟨q, h1, h2, h3⟩ := sub_nI h0
  rw [h2, nI_ltI h1 (by omega), Int32.lt_iff_toInt_lt, nI_toInt hb]
  omega

noncomputable def tWr (c : wdT) (i : Int32) : Int32 := ifC (wrOk c i) 0 1
def pq (d j : Nat) : Int32 := if j ≤ d then pws (d - j) else 0
theorem pq_s {d j : Nat} (h1 : 1 ≤ j) (h2 : j ≤ d) (h3 : d ≤ 10) : pq d j / 10 = pq d (j + 1) := by
  unfold pq
  rw [if_pos h2]
  by_cases h : j + 1 ≤ d
  · rw [if_pos h]
    have := pws_d (d - (j + 1)) (by omega)
    rw [show d - (j + 1) + 1 = d - j by omega] at this
    exact this
  · rw [if_neg h, show d - j = 0 by omega]
    decide
theorem lt3 {x : Int32} (h1 : ¬ x = 1) (h2 : ¬ x = 2) (h0 : 0 ≤ x) (h3 : x < 3) : x = 0 := by
  rw [Int32.le_iff_toInt_le, i0] at h0
  rw [Int32.lt_iff_toInt_lt, i3] at h3
  have q1 : ¬ x.toInt = 1 := fun q => h1 (Int32.toInt_inj.mp (by rw [q]; rfl))
  have q2 : ¬ x.toInt = 2 := fun q => h2 (Int32.toInt_inj.mp (by rw [q]; rfl))
  exact Int32.toInt_inj.mp (by rw [i0]; omega)
theorem nI_a2 (a d : Nat) : nI a + nI d + 2 = nI (a + d + 2) := by
  rw [show (2 : Int32) = nI 2 from rfl, nI_add, nI_add]
theorem nI_a3 (a : Nat) : nI a + 3 = nI (a + 3) := by
  rw [show (3 : Int32) = nI 3 from rfl, nI_add]
theorem sub_m3 (i : Int32) (a : Nat) : i - nI a + Int32.ofInt (-3) = i - nI (a + 3) := by
  rw [← sub_2, Int32.sub_eq_add_neg (i - nI a) (nI 3), show Int32.ofInt (-3) = -nI 3 by decide]
theorem sub_d2 (i : Int32) (a d : Nat) : i - nI a - (nI d + 2) = i - nI (a + d + 2) := by
  rw [show nI d + 2 = nI (d + 2) from nI_add d 2, sub_2, Nat.add_assoc]
theorem ge_i {i : Int32} {a : Nat} (h : nI a ≤ i) (ha : a < 2 ^ 31) : (a : Int) ≤ i.toInt := by
  rw [Int32.le_iff_toInt_le, nI_toInt ha] at h
  exact h
set_option maxHeartbeats 4000000 in
set_option maxRecDepth 100000 in
theorem con_Mo_write {l : Launch} (hlt : l.stackTraces = false) {E : gE} {B : bsT} {N : nwT} {w : wdT} {f : Nat → Int32} (h4 : N.1 4 0 = true) {K : Nat} {c : wdT} {i : Int32} (hR : Rel K c 0 f) : Con l E y_Mo_write (Cond.code y_Mo_write c_Mo_write 11 (some .int) :: gAll) rm_Mo_write [.ref (ad B 4 0 0 0), .int i] (gw E B N (mW w f)) (fun v H => ∃ b, v = some (.int b) ∧ (tWr c i = 0 → b = bot c 0 (cW c 0) 0 i) ∧ gw E B N (mW (sI w 4 0 0 0 0 (tWr c i)) f) H) (fun _ _ => False) 0 0 := by
  refine con_of (by decide) hlt (Nat.le_of_ble_eq_true rfl) ?_
  intro F hF hM htab hnm hE hlo hl
  subst hl
  have hF : Fb F c_Mo_write R_Mo 11 rm_Mo_write := hF
  have hK := hE.1
  have hT := hE.2.1
  refine go_lv (lv' := [(0, _), (1, _)]) ⟨rfl, rfl, trivial⟩ ?_
  have hg := Rel_w hR
  have J164 : ∀ (k a : Nat), k < cW c 0 → a ≤ 15 * k + 12 → (a : Int) ≤ i.toInt → 0 ≤ i → bot c 0 (cW c 0) 0 i = (if i - nI a < 3 then lby c 0 k (i - nI a) else bot c 0 (cW c 0 - (k + 1)) (k + 1) (i - nI a + Int32.ofInt (-3))) → (∀ a' : Nat, a' ≤ 15 * (k + 1) → (a' : Int) ≤ i.toInt → bot c 0 (cW c 0 - (k + 1)) (k + 1) (i - nI a') = bot c 0 (cW c 0) 0 i → Go F 7 [(0, .ref (ad B 4 0 0 0)), (1, .int i), (2, .int (nI a')), (3, .int (wI c 0 0 10 0 k)), (4, .int (nI (k + 1)))] [] (gw E B N (mW w f)) 0 0) → Go F 164 [(0, .ref (ad B 4 0 0 0)), (1, .int i), (2, .int (nI a)), (3, .int (wI c 0 0 10 0 k)), (4, .int (nI k))] [] (gw E B N (mW w f)) 0 0 := by
    intro k a hk ha hai h0 hb hI
    have hw := hR.2.2.2.2.2.2 k hk
    refine go_iload_n hF d_Mo_write_164 rfl ?_
    refine go_iload_n hF d_Mo_write_165 rfl ?_
    refine go_iconst (v := 3) hF d_Mo_write_166 (by decide) ?_
    refine go_iadd hF d_Mo_write_167 ?_
    refine go_icmp_ge (tgt := 271) hF d_Mo_write_168 (by decide) (fun h168 => ?_) (fun h168 => ?_)
    · refine go_iload_n hF d_Mo_write_271 rfl ?_
      refine go_iconst (v := 3) hF d_Mo_write_272 (by decide) ?_
      refine go_iadd hF d_Mo_write_273 ?_
      refine go_istore_n hF d_Mo_write_274 (by decide) ?_
      refine go_lv (lv' := [(0, _), (1, _), (2, _), (3, _), (4, _)]) ⟨rfl, rfl, rfl, rfl, rfl, trivial⟩ ?_
      refine go_iincN hF d_Mo_write_275 rfl (by decide) ?_
      refine go_lv (lv' := [(0, _), (1, _), (2, _), (3, _), (4, _)]) ⟨rfl, rfl, rfl, rfl, rfl, trivial⟩ ?_
      refine go_goto (tgt := 7) hF d_Mo_write_278 (by decide) ?_
      rw [nI_a3] at h168
      refine go_lv (lv' := [(0, _), (1, _), (2, .int (nI (a + 3))), (3, _), (4, _)]) ⟨rfl, rfl, by rw [← nI_a3]; rfl, rfl, rfl, trivial⟩ ?_
      exact hI (a + 3) (by omega) (ge_i h168 (by omega)) (by rw [hb, if_neg (show ¬ i - nI a < 3 from fun z => ge_nlt h168 ((lt_sub (b := 3) hai (by omega)).mp z)), sub_m3])
    · have hl3 : i - nI a < 3 := (lt_sub (b := 3) hai (by omega)).mpr (by rw [nI_a3] at h168; exact nle_lt h168)
      have hres : bot c 0 (cW c 0) 0 i = lby c 0 k (i - nI a) := by rw [hb, if_pos hl3]
      have hl0 : 0 ≤ i - nI a := by
        obtain ⟨q, q1, q2, q3⟩ := sub_nI hai
        rw [q2]
        exact nI_pos' q1
      refine go_aload_n hF d_Mo_write_171 rfl ?_
      refine go_iconst (v := 0) hF d_Mo_write_172 (by decide) ?_
      refine gs_puti hF hK hlo d_Mo_write_173 fl_Mo_28 ct_Mo fs_Mo_0 h4 rfl rfl (by decide) rfl rfl ?_
      rw [mW_0]
      refine go_aload_n hF d_Mo_write_176 rfl ?_
      refine gs_getr hF hK d_Mo_write_177 fl_Mo_7 h4 rfl rfl (by decide) rfl ?_
      refine go_sipush (v := 1450) hF d_Mo_write_180 (by decide) ?_
      refine go_iconst (v := 3) hF d_Mo_write_183 (by decide) ?_
      refine go_iload hF d_Mo_write_184 rfl ?_
      refine go_imul hF d_Mo_write_186 ?_
      refine go_iadd hF d_Mo_write_187 ?_
      refine go_iconst (v := 2) hF d_Mo_write_188 (by decide) ?_
      refine go_iadd hF d_Mo_write_189 ?_
      refine gs_md hF hK hT d_Mo_write_190 h4 (ix1 (k := 2) (ixC (a := 1450) (b := 3) (n := k) rfl)) (by have := hg.2; omega) ?_
      refine go_istore hF d_Mo_write_191 (by decide) ?_
      refine go_lv (lv' := [(0, _), (1, _), (2, _), (3, _), (4, _), (6, _)]) ⟨rfl, rfl, rfl, rfl, rfl, rfl, trivial⟩ ?_
      refine go_iload_n hF d_Mo_write_193 rfl ?_
      refine go_iload_n hF d_Mo_write_194 rfl ?_
      refine go_isub hF d_Mo_write_195 ?_
      refine go_istore hF d_Mo_write_196 (by decide) ?_
      refine go_lv (lv' := [(0, _), (1, _), (2, _), (3, _), (4, _), (6, _), (7, _)]) ⟨rfl, rfl, rfl, rfl, rfl, rfl, rfl, trivial⟩ ?_
      refine go_iload hF d_Mo_write_198 rfl ?_
      refine go_iconst (v := 1) hF d_Mo_write_200 (by decide) ?_
      refine go_icmp_ne (tgt := 225) hF d_Mo_write_201 (by decide) (fun h201 => ?_) (fun h201 => ?_)
      · refine go_iload hF d_Mo_write_225 rfl ?_
        refine go_iconst (v := 2) hF d_Mo_write_227 (by decide) ?_
        refine go_icmp_ne (tgt := 236) hF d_Mo_write_228 (by decide) (fun h228 => ?_) (fun h228 => ?_)
        · have hq0 : i - nI a = 0 := lt3 h201 h228 hl0 hl3
          refine go_iload hF d_Mo_write_236 rfl ?_
          refine go_if_ne (tgt := 246) hF d_Mo_write_238 (by decide) (fun h238 => ?_) (fun h238 => ?_)
          · refine go_iload hF d_Mo_write_246 rfl ?_
            refine go_iconst (v := 1) hF d_Mo_write_248 (by decide) ?_
            refine go_icmp_ne (tgt := 257) hF d_Mo_write_249 (by decide) (fun h249 => ?_) (fun h249 => ?_)
            · refine go_iload hF d_Mo_write_257 rfl ?_
              refine go_iconst (v := 2) hF d_Mo_write_259 (by decide) ?_
              refine go_icmp_ne (tgt := 268) hF d_Mo_write_260 (by decide) (fun h260 => ?_) (fun h260 => ?_)
              · refine go_bipush (v := 122) hF d_Mo_write_268 (by decide) ?_
                exact go_iret hF hM d_Mo_write_270 (by decide) (by decide) (fun H hG => ⟨_, rfl, fun _ => by rw [hres, hq0]; unfold lby; rw [if_pos rfl, vbs_M hw.2.2.2.2.1, ← hw.2.2.1]; rw [if_neg h238, if_neg h249, if_neg h260], by rw [show tWr c i = 0 from ifC_t ⟨h0, by rw [hres]; exact lby_ne hR hk _⟩]; exact hG⟩)
              · refine go_bipush (v := 120) hF d_Mo_write_263 (by decide) ?_
                refine go_goto (tgt := 270) hF d_Mo_write_265 (by decide) ?_
                exact go_iret hF hM d_Mo_write_270 (by decide) (by decide) (fun H hG => ⟨_, rfl, fun _ => by rw [hres, hq0]; unfold lby; rw [if_pos rfl, vbs_M hw.2.2.2.2.1, ← hw.2.2.1]; rw [if_neg h238, if_neg h249, if_pos h260], by rw [show tWr c i = 0 from ifC_t ⟨h0, by rw [hres]; exact lby_ne hR hk _⟩]; exact hG⟩)
            · refine go_bipush (v := 49) hF d_Mo_write_252 (by decide) ?_
              refine go_goto (tgt := 270) hF d_Mo_write_254 (by decide) ?_
              exact go_iret hF hM d_Mo_write_270 (by decide) (by decide) (fun H hG => ⟨_, rfl, fun _ => by rw [hres, hq0]; unfold lby; rw [if_pos rfl, vbs_M hw.2.2.2.2.1, ← hw.2.2.1]; rw [if_neg h238, if_pos h249], by rw [show tWr c i = 0 from ifC_t ⟨h0, by rw [hres]; exact lby_ne hR hk _⟩]; exact hG⟩)
          · refine go_bipush (v := 48) hF d_Mo_write_241 (by decide) ?_
            refine go_goto (tgt := 270) hF d_Mo_write_243 (by decide) ?_
            exact go_iret hF hM d_Mo_write_270 (by decide) (by decide) (fun H hG => ⟨_, rfl, fun _ => by rw [hres, hq0]; unfold lby; rw [if_pos rfl, vbs_M hw.2.2.2.2.1, ← hw.2.2.1]; rw [if_pos h238], by rw [show tWr c i = 0 from ifC_t ⟨h0, by rw [hres]; exact lby_ne hR hk _⟩]; exact hG⟩)
        · refine go_bipush (v := 10) hF d_Mo_write_231 (by decide) ?_
          refine go_goto (tgt := 270) hF d_Mo_write_233 (by decide) ?_
          exact go_iret hF hM d_Mo_write_270 (by decide) (by decide) (fun H hG => ⟨_, rfl, fun _ => by rw [hres]; unfold lby; rw [h228, if_neg (by decide), if_neg (by decide)], by rw [show tWr c i = 0 from ifC_t ⟨h0, by rw [hres]; exact lby_ne hR hk _⟩]; exact hG⟩)
      · refine go_bipush (v := 33) hF d_Mo_write_204 (by decide) ?_
        refine go_aload_n hF d_Mo_write_206 rfl ?_
        refine gs_getr hF hK d_Mo_write_207 fl_Mo_7 h4 rfl rfl (by decide) rfl ?_
        refine go_sipush (v := 1450) hF d_Mo_write_210 (by decide) ?_
        refine go_iconst (v := 3) hF d_Mo_write_213 (by decide) ?_
        refine go_iload hF d_Mo_write_214 rfl ?_
        refine go_imul hF d_Mo_write_216 ?_
        refine go_iadd hF d_Mo_write_217 ?_
        refine go_iconst (v := 1) hF d_Mo_write_218 (by decide) ?_
        refine go_iadd hF d_Mo_write_219 ?_
        refine gs_md hF hK hT d_Mo_write_220 h4 (ix1 (k := 1) (ixC (a := 1450) (b := 3) (n := k) rfl)) (by have := hg.2; omega) ?_
        refine go_iadd hF d_Mo_write_221 ?_
        refine go_goto (tgt := 270) hF d_Mo_write_222 (by decide) ?_
        exact go_iret hF hM d_Mo_write_270 (by decide) (by decide) (fun H hG => ⟨_, rfl, fun _ => by rw [hres]; unfold lby; rw [h201, if_neg (by decide), if_pos rfl, ← hw.2.1], by rw [show tWr c i = 0 from ifC_t ⟨h0, by rw [hres]; exact lby_ne hR hk _⟩]; exact hG⟩)
  have L100 : ∀ (k a d q : Nat) (bf : Int32), k < cW c 0 → 0 ≤ i → 1 ≤ d → d ≤ 10 → q ≤ d + 1 → bot c 0 (cW c 0) 0 i = hby (wI c 0 0 10 0 k) d (nI q) → ∀ m j : Nat, 12 - j = m → 1 ≤ j → (j ≤ q ∨ j = 1) → Go F 100 [(0, .ref (ad B 4 0 0 0)), (1, .int i), (2, .int (nI a)), (3, .int bf), (4, .int (nI k)), (5, .int (wI c 0 0 10 0 k)), (6, .int (nI d)), (7, .int (pws (d - 1))), (8, .int (nI q)), (9, .int (pq d j)), (10, .int (nI j))] [] (gw E B N (mW (sI w 4 0 0 0 0 0) f)) 0 0 := by
    intro k a d q bf hk h0 hd1 hd2 hqd1 hres
    intro m
    induction m using Nat.strongRecOn with
    | _ m ih =>
      intro j hm hj1 hj2
      have hw := hR.2.2.2.2.2.2 k hk
      have ht0 := hw.2.2.2.1.1
      refine go_iload hF d_Mo_write_100 rfl ?_
      refine go_iload hF d_Mo_write_102 rfl ?_
      refine go_icmp_ge (tgt := 120) hF d_Mo_write_104 (by decide) (fun h104 => ?_) (fun h104 => ?_)
      · refine go_iload hF d_Mo_write_120 rfl ?_
        refine go_if_ne (tgt := 130) hF d_Mo_write_122 (by decide) (fun h122 => ?_) (fun h122 => ?_)
        · refine go_iload hF d_Mo_write_130 rfl ?_
          refine go_iload hF d_Mo_write_132 rfl ?_
          refine go_icmp_le (tgt := 142) hF d_Mo_write_134 (by decide) (fun h134 => ?_) (fun h134 => ?_)
          · have hjq := (nI_leI (a := q) (b := j) (by omega) (by omega)).mp h104
            have hq1 : 1 ≤ q := by
              rcases Nat.eq_zero_or_pos q with z | z
              · rw [z] at h122; exact absurd rfl h122
              · exact z
            have hq2 : q ≤ d := (nI_leI (a := q) (b := d) (by omega) (by omega)).mp h134
            have hjj : j = q := by omega
            have hpq : pq d j = pws (d - q) := by unfold pq; rw [hjj, if_pos hq2]
            have hpn : ¬ pq d j = 0 := by rw [hpq]; exact pws_ne _ (by omega)
            refine go_bipush (v := 48) hF d_Mo_write_142 (by decide) ?_
            refine go_iload hF d_Mo_write_144 rfl ?_
            refine go_iload hF d_Mo_write_146 rfl ?_
            refine go_idiv hF d_Mo_write_148 hpn ?_
            refine go_bipush (v := 10) hF d_Mo_write_149 (by decide) ?_
            refine go_irem hF d_Mo_write_151 (by decide) ?_
            refine go_iadd hF d_Mo_write_152 ?_
            exact go_iret hF hM d_Mo_write_153 (by decide) (by decide) (fun H hG => ⟨_, rfl, fun _ => by rw [hres, hby_m hq1 hq2 hd2, hpq], by rw [show tWr c i = 0 from ifC_t ⟨h0, by rw [hres]; exact hby_ne ht0 hqd1 hd2⟩]; exact hG⟩)
          · have hqd : q = d + 1 := by
              have z : ¬ q ≤ d := fun z => h134 ((nI_leI (a := q) (b := d) (by omega) (by omega)).mpr z)
              omega
            refine go_bipush (v := 10) hF d_Mo_write_137 (by decide) ?_
            refine go_goto (tgt := 153) hF d_Mo_write_139 (by decide) ?_
            exact go_iret hF hM d_Mo_write_153 (by decide) (by decide) (fun H hG => ⟨_, rfl, fun _ => by rw [hres, hqd]; exact (hby_e hd2).symm, by rw [show tWr c i = 0 from ifC_t ⟨h0, by rw [hres]; exact hby_ne ht0 hqd1 hd2⟩]; exact hG⟩)
        · refine go_bipush (v := 35) hF d_Mo_write_125 (by decide) ?_
          refine go_goto (tgt := 153) hF d_Mo_write_127 (by decide) ?_
          exact go_iret hF hM d_Mo_write_153 (by decide) (by decide) (fun H hG => ⟨_, rfl, fun _ => by rw [hres, h122]; exact (hby_0 _ _).symm, by rw [show tWr c i = 0 from ifC_t ⟨h0, by rw [hres]; exact hby_ne ht0 hqd1 hd2⟩]; exact hG⟩)
      · have hjq : j < q := by
          have z : ¬ q ≤ j := fun z => h104 ((nI_leI (a := q) (b := j) (by omega) (by omega)).mpr z)
          omega
        refine go_iload hF d_Mo_write_107 rfl ?_
        refine go_bipush (v := 10) hF d_Mo_write_109 (by decide) ?_
        refine go_idiv hF d_Mo_write_111 (by decide) ?_
        refine go_istore hF d_Mo_write_112 (by decide) ?_
        refine go_lv (lv' := [(0, _), (1, _), (2, _), (3, _), (4, _), (5, _), (6, _), (7, _), (8, _), (9, _), (10, _)]) ⟨rfl, rfl, rfl, rfl, rfl, rfl, rfl, rfl, rfl, rfl, rfl, trivial⟩ ?_
        refine go_iincN hF d_Mo_write_114 rfl (by decide) ?_
        refine go_lv (lv' := [(0, _), (1, _), (2, _), (3, _), (4, _), (5, _), (6, _), (7, _), (8, _), (9, _), (10, _)]) ⟨rfl, rfl, rfl, rfl, rfl, rfl, rfl, rfl, rfl, rfl, rfl, trivial⟩ ?_
        refine go_goto (tgt := 100) hF d_Mo_write_117 (by decide) ?_
        refine go_lv (lv' := [(0, _), (1, _), (2, _), (3, _), (4, _), (5, _), (6, _), (7, _), (8, _), (9, .int (pq d (j + 1))), (10, .int (nI (j + 1)))]) ⟨rfl, rfl, rfl, rfl, rfl, rfl, rfl, rfl, rfl, by rw [← pq_s hj1 (by omega) hd2]; rfl, rfl, trivial⟩ ?_
        exact ih _ (by omega) (j + 1) rfl (by omega) (Or.inl (by omega))
  have L50 : ∀ (k a : Nat) (bf : Int32), k < cW c 0 → a ≤ 15 * k → (a : Int) ≤ i.toInt → 0 ≤ i → hd1 c 0 k → bot c 0 (cW c 0) 0 i = bot c 0 (cW c 0 - (k + 1) + 1) k (i - nI a) → (∀ a' : Nat, a' ≤ 15 * (k + 1) → (a' : Int) ≤ i.toInt → bot c 0 (cW c 0 - (k + 1)) (k + 1) (i - nI a') = bot c 0 (cW c 0) 0 i → Go F 7 [(0, .ref (ad B 4 0 0 0)), (1, .int i), (2, .int (nI a')), (3, .int (wI c 0 0 10 0 k)), (4, .int (nI (k + 1)))] [] (gw E B N (mW w f)) 0 0) → ∀ m d : Nat, 10 - d = m → 1 ≤ d → d ≤ 10 → dgl (wI c 0 0 10 0 k) (10 - d) d = dg (wI c 0 0 10 0 k) → Go F 50 [(0, .ref (ad B 4 0 0 0)), (1, .int i), (2, .int (nI a)), (3, .int bf), (4, .int (nI k)), (5, .int (wI c 0 0 10 0 k)), (6, .int (nI d)), (7, .int (pws (d - 1)))] [] (gw E B N (mW w f)) 0 0 := by
    intro k a bf hk ha hai h0 hd hb hI
    intro m
    induction m using Nat.strongRecOn with
    | _ m ih =>
      intro d hm hd1 hd2 hdg
      have hw := hR.2.2.2.2.2.2 k hk
      have ht0 := hw.2.2.2.1.1
      refine go_iload hF d_Mo_write_50 rfl ?_
      refine go_iload hF d_Mo_write_52 rfl ?_
      refine go_idiv hF d_Mo_write_54 (pws_ne _ (by omega)) ?_
      refine go_bipush (v := 9) hF d_Mo_write_55 (by decide) ?_
      refine go_icmp_le (tgt := 73) hF d_Mo_write_57 (by decide) (fun h57 => ?_) (fun h57 => ?_)
      · have hdd := dgl_t ht0 hd1 hd2 hdg h57
        refine go_iload_n hF d_Mo_write_73 rfl ?_
        refine go_iload_n hF d_Mo_write_74 rfl ?_
        refine go_iload hF d_Mo_write_75 rfl ?_
        refine go_iadd hF d_Mo_write_77 ?_
        refine go_iconst (v := 2) hF d_Mo_write_78 (by decide) ?_
        refine go_iadd hF d_Mo_write_79 ?_
        refine go_icmp_ge (tgt := 154) hF d_Mo_write_80 (by decide) (fun h80 => ?_) (fun h80 => ?_)
        · refine go_iload_n hF d_Mo_write_154 rfl ?_
          refine go_iload hF d_Mo_write_155 rfl ?_
          refine go_iadd hF d_Mo_write_157 ?_
          refine go_iconst (v := 2) hF d_Mo_write_158 (by decide) ?_
          refine go_iadd hF d_Mo_write_159 ?_
          refine go_istore_n hF d_Mo_write_160 (by decide) ?_
          refine go_lv (lv' := [(0, _), (1, _), (2, _), (3, _), (4, _), (5, _), (6, _), (7, _)]) ⟨rfl, rfl, rfl, rfl, rfl, rfl, rfl, rfl, trivial⟩ ?_
          refine go_iload hF d_Mo_write_161 rfl ?_
          refine go_istore_n hF d_Mo_write_163 (by decide) ?_
          refine go_lv (lv' := [(0, _), (1, _), (2, _), (3, _), (4, _), (5, _), (6, _), (7, _)]) ⟨rfl, rfl, rfl, rfl, rfl, rfl, rfl, rfl, trivial⟩ ?_
          refine go_lv (lv' := [(0, _), (1, _), (2, .int (nI (a + d + 2))), (3, _), (4, _)]) ⟨rfl, rfl, by rw [← nI_a2]; rfl, rfl, rfl, trivial⟩ ?_
          exact J164 k (a + d + 2) hk (by omega) (ge_i (by rw [nI_a2] at h80; exact h80) (by omega)) h0 (by rw [hb, bot_h hd, hdd, if_neg (fun z => by rw [show nI d + 2 = nI (d + 2) from nI_add d 2] at z; have z2 := (lt_sub (b := d + 2) hai (by omega)).mp z; rw [nI_a2] at h80; exact ge_nlt h80 (by rw [Nat.add_assoc]; exact z2)), sub_d2]) hI
        · refine go_aload_n hF d_Mo_write_83 rfl ?_
          refine go_iconst (v := 0) hF d_Mo_write_84 (by decide) ?_
          refine gs_puti hF hK hlo d_Mo_write_85 fl_Mo_28 ct_Mo fs_Mo_0 h4 rfl rfl (by decide) rfl rfl ?_
          rw [mW_0]
          refine go_iload_n hF d_Mo_write_88 rfl ?_
          refine go_iload_n hF d_Mo_write_89 rfl ?_
          refine go_isub hF d_Mo_write_90 ?_
          refine go_istore hF d_Mo_write_91 (by decide) ?_
          refine go_lv (lv' := [(0, _), (1, _), (2, _), (3, _), (4, _), (5, _), (6, _), (7, _), (8, _)]) ⟨rfl, rfl, rfl, rfl, rfl, rfl, rfl, rfl, rfl, trivial⟩ ?_
          refine go_iload hF d_Mo_write_93 rfl ?_
          refine go_istore hF d_Mo_write_95 (by decide) ?_
          refine go_lv (lv' := [(0, _), (1, _), (2, _), (3, _), (4, _), (5, _), (6, _), (7, _), (8, _), (9, _)]) ⟨rfl, rfl, rfl, rfl, rfl, rfl, rfl, rfl, rfl, rfl, trivial⟩ ?_
          refine go_iconst (v := 1) hF d_Mo_write_97 (by decide) ?_
          refine go_istore hF d_Mo_write_98 (by decide) ?_
          refine go_lv (lv' := [(0, _), (1, _), (2, _), (3, _), (4, _), (5, _), (6, _), (7, _), (8, _), (9, _), (10, _)]) ⟨rfl, rfl, rfl, rfl, rfl, rfl, rfl, rfl, rfl, rfl, rfl, trivial⟩ ?_
          obtain ⟨q, hq1, hq2, hq3⟩ := sub_nI hai
          have hl : i < nI (a + d + 2) := by rw [nI_a2] at h80; exact nle_lt h80
          have hl2 : i.toInt < a + d + 2 := by
            rw [Int32.lt_iff_toInt_lt, nI_toInt (by omega)] at hl
            omega
          refine go_lv (lv' := [(0, _), (1, _), (2, _), (3, _), (4, _), (5, _), (6, _), (7, _), (8, .int (nI q)), (9, .int (pq d 1)), (10, .int (nI 1))]) ⟨rfl, rfl, rfl, rfl, rfl, rfl, rfl, rfl, by rw [← hq2]; rfl, by unfold pq; rw [if_pos hd1]; rfl, rfl, trivial⟩ ?_
          exact L100 k a d q bf hk h0 hd1 hd2 (by omega) (by rw [hb, bot_h hd, hdd, hq2, if_pos (by rw [← hq2, show nI d + 2 = nI (d + 2) from nI_add d 2]; exact (lt_sub (b := d + 2) hai (by omega)).mpr (by rw [← Nat.add_assoc]; exact hl))]) _ 1 rfl (by omega) (Or.inr rfl)
      · refine go_bipush (v := 10) hF d_Mo_write_60 (by decide) ?_
        refine go_iload hF d_Mo_write_62 rfl ?_
        refine go_imul hF d_Mo_write_64 ?_
        refine go_istore hF d_Mo_write_65 (by decide) ?_
        refine go_lv (lv' := [(0, _), (1, _), (2, _), (3, _), (4, _), (5, _), (6, _), (7, _)]) ⟨rfl, rfl, rfl, rfl, rfl, rfl, rfl, rfl, trivial⟩ ?_
        refine go_iincN hF d_Mo_write_67 rfl (by decide) ?_
        refine go_lv (lv' := [(0, _), (1, _), (2, _), (3, _), (4, _), (5, _), (6, _), (7, _)]) ⟨rfl, rfl, rfl, rfl, rfl, rfl, rfl, rfl, trivial⟩ ?_
        refine go_goto (tgt := 50) hF d_Mo_write_70 (by decide) ?_
        have hn := dgl_n ht0 hd1 hd2 hdg h57
        refine go_lv (lv' := [(0, _), (1, _), (2, _), (3, _), (4, _), (5, _), (6, .int (nI (d + 1))), (7, .int (pws (d + 1 - 1)))]) ⟨rfl, rfl, rfl, rfl, rfl, rfl, rfl, by rw [← hn.2.2]; rfl, trivial⟩ ?_
        exact ih _ (by omega) (d + 1) rfl (by omega) (by omega) hn.2.1
  have L7 : ∀ (m k a : Nat) (bf : Int32), cW c 0 - k = m → k ≤ cW c 0 → a ≤ 15 * k → (0 ≤ i → (a : Int) ≤ i.toInt ∧ bot c 0 (cW c 0 - k) k (i - nI a) = bot c 0 (cW c 0) 0 i) → bf = (if k = 0 then -1 else wI c 0 0 10 0 (k - 1)) → Go F 7 [(0, .ref (ad B 4 0 0 0)), (1, .int i), (2, .int (nI a)), (3, .int bf), (4, .int (nI k))] [] (gw E B N (mW w f)) 0 0 := by
    intro m
    induction m using Nat.strongRecOn with
    | _ m ih =>
      intro k a bf hm hk ha hb hbf
      refine go_iload hF d_Mo_write_7 rfl ?_
      refine go_aload_n hF d_Mo_write_9 rfl ?_
      refine gs_getr hF hK d_Mo_write_10 fl_Mo_7 h4 rfl rfl (by decide) rfl ?_
      refine go_bipush (v := 6) hF d_Mo_write_13 (by decide) ?_
      refine gs_md hF hK hT d_Mo_write_15 h4 (show (6 : Int32) = nI 6 from rfl) (by decide) ?_
      refine go_icmp_ge (tgt := 281) hF d_Mo_write_16 (by decide) (fun h16 => ?_) (fun h16 => ?_)
      · have hTW : tWr c i = 1 := by
          refine ifC_f (fun q => ?_)
          have e := nI_g2 hg (by decide) hk h16
          subst e
          apply q.2
          show bot c 0 (cW c 0) 0 i = -1
          rw [← (hb q.1).2, Nat.sub_self]
          rfl
        refine go_aload_n hF d_Mo_write_281 rfl ?_
        refine go_iconst (v := 1) hF d_Mo_write_282 (by decide) ?_
        refine gs_puti hF hK hlo d_Mo_write_283 fl_Mo_28 ct_Mo fs_Mo_0 h4 rfl rfl (by decide) rfl rfl ?_
        rw [mW_0]
        refine go_iconst (v := 0) hF d_Mo_write_286 (by decide) ?_
        exact go_iret hF hM d_Mo_write_287 (by decide) (by decide) (fun H hG => ⟨_, rfl, fun z => absurd (hTW.symm.trans z) (by decide), by rw [hTW]; exact hG⟩)
      · refine go_iload_n hF d_Mo_write_19 rfl ?_
        refine go_if_lt (tgt := 281) hF d_Mo_write_20 (by decide) (fun h20 => ?_) (fun h20 => ?_)
        · have hTW : tWr c i = 1 := by
            refine ifC_f (fun q => ?_)
            exact Int32.lt_irrefl (Int32.lt_of_lt_of_le h20 q.1)
          refine go_aload_n hF d_Mo_write_281 rfl ?_
          refine go_iconst (v := 1) hF d_Mo_write_282 (by decide) ?_
          refine gs_puti hF hK hlo d_Mo_write_283 fl_Mo_28 ct_Mo fs_Mo_0 h4 rfl rfl (by decide) rfl rfl ?_
          rw [mW_0]
          refine go_iconst (v := 0) hF d_Mo_write_286 (by decide) ?_
          exact go_iret hF hM d_Mo_write_287 (by decide) (by decide) (fun H hG => ⟨_, rfl, fun z => absurd (hTW.symm.trans z) (by decide), by rw [hTW]; exact hG⟩)
        · have hk2 : k < cW c 0 := nI_l2 hg (by decide) hk h16
          have h0 : 0 ≤ i := not_lt h20
          have hw := hR.2.2.2.2.2.2 k hk2
          refine go_aload_n hF d_Mo_write_23 rfl ?_
          refine gs_getr hF hK d_Mo_write_24 fl_Mo_7 h4 rfl rfl (by decide) rfl ?_
          refine go_sipush (v := 1450) hF d_Mo_write_27 (by decide) ?_
          refine go_iconst (v := 3) hF d_Mo_write_30 (by decide) ?_
          refine go_iload hF d_Mo_write_31 rfl ?_
          refine go_imul hF d_Mo_write_33 ?_
          refine go_iadd hF d_Mo_write_34 ?_
          refine gs_md hF hK hT d_Mo_write_35 h4 (show _ = nI (1450 + 3 * k + 0) from ixC (a := 1450) (b := 3) (n := k) rfl) (by have := hg.2; omega) ?_
          refine go_istore hF d_Mo_write_36 (by decide) ?_
          refine go_lv (lv' := [(0, _), (1, _), (2, _), (3, _), (4, _), (5, _)]) ⟨rfl, rfl, rfl, rfl, rfl, rfl, trivial⟩ ?_
          refine go_iload hF d_Mo_write_38 rfl ?_
          refine go_iload_n hF d_Mo_write_40 rfl ?_
          refine go_icmp_eq (tgt := 164) hF d_Mo_write_41 (by decide) (fun h41 => ?_) (fun h41 => ?_)
          · have hnh : ¬ hd1 c 0 k := fun q => by
              by_cases z : k = 0
              · rw [hbf, if_pos z, hw.1] at h41
                have q2 := hw.2.2.2.1.1
                rw [h41, im1] at q2
                omega
              · rw [hbf, if_neg z, hw.1] at h41
                exact q.elim z (fun q => q h41)
            refine go_lv (lv' := [(0, _), (1, _), (2, _), (3, .int (wI c 0 0 10 0 k)), (4, _)]) ⟨rfl, rfl, rfl, by rw [← hw.1, h41]; rfl, rfl, trivial⟩ ?_
            exact J164 k a hk2 (by omega) (hb h0).1 h0 (by rw [← (hb h0).2, show cW c 0 - k = cW c 0 - (k + 1) + 1 by omega, bot_n hnh]) (fun a' q1 q2 q3 => ih _ (by omega) (k + 1) a' _ rfl (by omega) q1 (fun _ => ⟨q2, q3⟩) (by rw [if_neg (by omega)]; rfl))
          · have hhd : hd1 c 0 k := by
              by_cases z : k = 0
              · exact Or.inl z
              · refine Or.inr (fun q => h41 ?_)
                rw [hbf, if_neg z, hw.1]
                exact q
            refine go_iconst (v := 1) hF d_Mo_write_44 (by decide) ?_
            refine go_istore hF d_Mo_write_45 (by decide) ?_
            refine go_lv (lv' := [(0, _), (1, _), (2, _), (3, _), (4, _), (5, _), (6, _)]) ⟨rfl, rfl, rfl, rfl, rfl, rfl, rfl, trivial⟩ ?_
            refine go_iconst (v := 1) hF d_Mo_write_47 (by decide) ?_
            refine go_istore hF d_Mo_write_48 (by decide) ?_
            refine go_lv (lv' := [(0, _), (1, _), (2, _), (3, _), (4, _), (5, _), (6, _), (7, _)]) ⟨rfl, rfl, rfl, rfl, rfl, rfl, rfl, rfl, trivial⟩ ?_
            refine go_lv (lv' := [(0, _), (1, _), (2, _), (3, _), (4, _), (5, .int (wI c 0 0 10 0 k)), (6, .int (nI 1)), (7, .int (pws (1 - 1)))]) ⟨rfl, rfl, rfl, rfl, rfl, by rw [← hw.1]; rfl, rfl, rfl, trivial⟩ ?_
            exact L50 k a bf hk2 ha (hb h0).1 h0 hhd (by rw [← (hb h0).2, show cW c 0 - (k + 1) + 1 = cW c 0 - k by omega]) (fun a' q1 q2 q3 => ih _ (by omega) (k + 1) a' _ rfl (by omega) q1 (fun _ => ⟨q2, q3⟩) (by rw [if_neg (by omega)]; rfl)) _ 1 rfl (by omega) (by omega) rfl
  refine go_iconst (v := 0) hF d_Mo_write_0 (by decide) ?_
  refine go_istore_n hF d_Mo_write_1 (by decide) ?_
  refine go_lv (lv' := [(0, _), (1, _), (2, _)]) ⟨rfl, rfl, rfl, trivial⟩ ?_
  refine go_iconst (v := -1) hF d_Mo_write_2 (by decide) ?_
  refine go_istore_n hF d_Mo_write_3 (by decide) ?_
  refine go_lv (lv' := [(0, _), (1, _), (2, _), (3, _)]) ⟨rfl, rfl, rfl, rfl, trivial⟩ ?_
  refine go_iconst (v := 0) hF d_Mo_write_4 (by decide) ?_
  refine go_istore hF d_Mo_write_5 (by decide) ?_
  refine go_lv (lv' := [(0, _), (1, _), (2, _), (3, _), (4, _)]) ⟨rfl, rfl, rfl, rfl, rfl, trivial⟩ ?_
  exact L7 _ 0 0 (-1) rfl (by omega) (by omega) (fun z => ⟨by rw [Int32.le_iff_toInt_le, i0] at z; omega, by rw [show i - nI 0 = i from Int32.sub_zero i]; rfl⟩) rfl
