theorem mW_g (w : wdT) (f : Nat → Int32) (k i : Nat) : wI (mW w f) 4 0 0 k i = wI w 4 0 0 k i := mW_n w f (by omega)
section MOD2
variable {F : gT} {pc : Nat} {lv : lvT} {st : List Value} {kc ks : Nat} {cc : ByteArray} {own : String} {nL : Nat} {rm : Room} {E : gE} {B : bsT} {N : nwT} {w : wdT} {f : Nat → Int32}
theorem gs_mo (hF : Fb F cc own nL rm) (hE : va_K E.1 vwCl E.2.1 (gs F)) (hT : E.2.1.map Prod.snd = atyL) {r t m o q : Nat} {u : Nat × Nat} {x : Int32} (hd : decode cc pc = .ok (.iaload, 1)) (ho : N.1 4 0 = true) (h1 : r ≠ 1) (hr : (sch 4)[r]? = some (o, 1, .inr (t, m, 0, u))) (ht : atyL[t]? = some .int) (hx : x = nI q) (hq : q < m) (hm : m < 2 ^ 31)
    (kk : Go F (pc + 1) lv (.int (wI w 4 0 r 0 q) :: st) (gw E B N (mW w f)) kc ks) : Go F pc lv (.int x :: .ref (ad B 4 0 r 0) :: st) (gw E B N (mW w f)) kc ks := by
  refine gs_iald hF hE hT hd ho hr ht hx hq hm ?_
  rw [mW_n w f (by omega)]
  exact kk
theorem gs_mp (hF : Fb F cc own nL rm) (hE : va_K E.1 vwCl E.2.1 (gs F)) (hT : E.2.1.map Prod.snd = atyL) (hlo : gLo F = E.2.2.size) {r t m o q : Nat} {u : Nat × Nat} {x y : Int32} (hd : decode cc pc = .ok (.iastore, 1)) (ho : N.1 4 0 = true) (h1 : r ≠ 1) (hr : (sch 4)[r]? = some (o, 1, .inr (t, m, 0, u))) (ht : atyL[t]? = some .int) (hx : x = nI q) (hq : q < m) (hm : m < 2 ^ 31)
    (kk : Go F (pc + 1) lv st (gw E B N (mW (sI w 4 0 r 0 q y) f)) kc ks) : Go F pc lv (.int y :: .int x :: .ref (ad B 4 0 r 0) :: st) (gw E B N (mW w f)) kc ks := by
  refine gs_iast hF hE hT hlo hd ho hr ht hx hq hm ?_
  rw [mW_o w f h1]
  exact kk
end MOD2
/-- k cells of s are remembered at place s -/
def sgW (w : wdT) (f : Nat → Int32) (s k : Nat) : wdT := (fun a b c d e => if a = 4 ∧ b = 0 ∧ c = 2 ∧ d = 0 ∧ 3300 * s ≤ e ∧ e < 3300 * s + k then f (e - 3300 * s) else w.1 a b c d e, w.2)
theorem sgW_0 (w : wdT) (f : Nat → Int32) (s : Nat) : sgW w f s 0 = w := by
  unfold sgW
  refine Prod.ext ?_ rfl
  funext a b c d e
  show (if _ then _ else _) = _
  rw [if_neg (by omega)]
theorem sgW_s (w : wdT) (f : Nat → Int32) (s k : Nat) : sI (sgW w f s k) 4 0 2 0 (3300 * s + k) (f k) = sgW w f s (k + 1) := by
  unfold sI sgW up5
  refine Prod.ext ?_ rfl
  funext a b c d e
  show (if a = 4 ∧ b = 0 ∧ c = 2 ∧ d = 0 ∧ e = 3300 * s + k then f k else if a = 4 ∧ b = 0 ∧ c = 2 ∧ d = 0 ∧ 3300 * s ≤ e ∧ e < 3300 * s + k then f (e - 3300 * s) else w.1 a b c d e) = if a = 4 ∧ b = 0 ∧ c = 2 ∧ d = 0 ∧ 3300 * s ≤ e ∧ e < 3300 * s + (k + 1) then f (e - 3300 * s) else w.1 a b c d e
  by_cases h : a = 4 ∧ b = 0 ∧ c = 2 ∧ d = 0 ∧ e = 3300 * s + k
  · rw [if_pos h, if_pos (by omega)]
    congr 1
    omega
  · rw [if_neg h]
    by_cases h2 : a = 4 ∧ b = 0 ∧ c = 2 ∧ d = 0 ∧ 3300 * s ≤ e ∧ e < 3300 * s + k
    · rw [if_pos h2, if_pos (by omega)]
    · rw [if_neg h2, if_neg (by omega)]
theorem sgW_n (w : wdT) (f : Nat → Int32) (s k : Nat) {a b c d e : Nat} (h : ¬ (a = 4 ∧ b = 0 ∧ c = 2 ∧ d = 0 ∧ 3300 * s ≤ e ∧ e < 3300 * s + k)) : wI (sgW w f s k) a b c d e = wI w a b c d e := if_neg h
theorem sgW_i (w : wdT) (f : Nat → Int32) (s k j : Nat) (h : j < k) : wI (sgW w f s k) 4 0 2 0 (3300 * s + j) = f j := by
  show (if _ then _ else _) = _
  rw [if_pos (by omega)]
  congr 1
  omega
/-- what save leaves -/
def svM (w : wdT) (f : Nat → Int32) (s : Nat) : wdT := sI (sgW w f s 3300) 4 0 0 3 0 (nI (s + 1))
noncomputable def tSv (s : Nat) : Int32 := ifC (s < 4) 0 1
/-- what lies at place i of the remembered ones -/
def svF (w : wdT) (f : Nat → Int32) (i k : Nat) : Nat → Int32 := fun e => if e < k then wI w 4 0 2 0 (3300 * i + e) else f e
theorem svF_0 (w : wdT) (f : Nat → Int32) (i : Nat) : svF w f i 0 = f := by
  funext e
  unfold svF
  rw [if_neg (by omega)]
theorem svF_s (w : wdT) (f : Nat → Int32) (i k : Nat) : fu (svF w f i k) k (wI w 4 0 2 0 (3300 * i + k)) = svF w f i (k + 1) := by
  funext e
  unfold fu svF
  by_cases h : e = k
  · subst h
    rw [if_pos rfl, if_pos (by omega)]
  · rw [if_neg h]
    by_cases h2 : e < k
    · rw [if_pos h2, if_pos (by omega)]
    · rw [if_neg h2, if_neg (by omega)]
theorem ix33 {x : Int32} {n k : Nat} (hx : x = nI n) : (3300 : Int32) * x + nI k = nI (3300 * n + k) := by
  subst hx
  rw [show (3300 : Int32) = nI 3300 from rfl, nI_mul, nI_add]
set_option maxHeartbeats 4000000 in
set_option maxRecDepth 100000 in
theorem con_Mo_save {l : Launch} (hlt : l.stackTraces = false) {E : gE} {B : bsT} {N : nwT} {w : wdT} {f : Nat → Int32} (h4 : N.1 4 0 = true) {s : Nat} (hs : wI w 4 0 0 3 0 = nI s) (hs4 : s ≤ 4) : Con l E y_Mo_save (Cond.code y_Mo_save c_Mo_save 2 (some .int) :: gAll) rm_Mo_save [.ref (ad B 4 0 0 0)] (gw E B N (mW w f)) (fun v H => ∃ b, v = some (.int b) ∧ (tSv s = 0 → b = nI s ∧ s < 4 ∧ gw E B N (mW (svM (sI w 4 0 0 0 0 0) f s) f) H) ∧ (¬ tSv s = 0 → gw E B N (mW (sI w 4 0 0 0 0 1) f) H ∧ tSv s = 1)) (fun _ _ => False) 0 0 := by
  refine con_of (by decide) hlt (Nat.le_of_ble_eq_true rfl) ?_
  intro F hF hM htab hnm hE hlo hl
  subst hl
  have hF : Fb F c_Mo_save R_Mo 2 rm_Mo_save := hF
  have hK := hE.1
  have hT := hE.2.1
  refine go_lv (lv' := [(0, _)]) ⟨rfl, trivial⟩ ?_
  have L28 : s < 4 → tSv s = 0 → ∀ m k : Nat, 3300 - k = m → k ≤ 3300 → Go F 28 [(0, .ref (ad B 4 0 0 0)), (1, .int (nI k))] [] (gw E B N (mW (sgW (sI w 4 0 0 0 0 0) f s k) f)) 0 0 := by
    intro h4s hTT
    intro m
    induction m using Nat.strongRecOn with
    | _ m ih =>
      intro k hm hk
      have e3 : wI (sgW (sI w 4 0 0 0 0 0) f s k) 4 0 0 3 0 = nI s := by rw [sgW_n _ _ _ _ (by omega), rd_II, if_neg (by omega)]; exact hs
      refine go_iload_n hF d_Mo_save_28 rfl ?_
      refine go_sipush (v := 3300) hF d_Mo_save_29 (by decide) ?_
      refine go_icmp_ge (tgt := 62) hF d_Mo_save_32 (by decide) (fun h32 => ?_) (fun h32 => ?_)
      · have hk2 : k = 3300 := by
          have z := (nI_leI (a := 3300) (b := k) (by decide) (by omega)).mp h32
          omega
        subst hk2
        refine go_aload_n hF d_Mo_save_62 rfl ?_
        refine go_dup hF d_Mo_save_63 rfl ?_
        refine gs_geti hF hK d_Mo_save_64 fl_Mo_125 h4 rfl rfl (by decide) rfl ?_
        rw [mW_g]
        refine go_iconst (v := 1) hF d_Mo_save_67 (by decide) ?_
        refine go_iadd hF d_Mo_save_68 ?_
        refine gs_puti hF hK hlo d_Mo_save_69 fl_Mo_125 ct_Mo fs_Mo_3 h4 rfl rfl (by decide) rfl rfl ?_
        rw [mW_0]
        refine go_aload_n hF d_Mo_save_72 rfl ?_
        refine gs_geti hF hK d_Mo_save_73 fl_Mo_125 h4 rfl rfl (by decide) rfl ?_
        rw [mW_g]
        refine go_iconst (v := 1) hF d_Mo_save_76 (by decide) ?_
        refine go_isub hF d_Mo_save_77 ?_
        exact go_iret hF hM d_Mo_save_78 (by decide) (by decide) (fun H hG => ⟨_, rfl, fun _ => ⟨by rw [rd_II, if_pos (by simp), e3, nI_1, nI_pred], h4s, by unfold svM; rw [e3, nI_1] at hG; exact hG⟩, fun z => absurd hTT z⟩)
      · have hk2 : k < 3300 := by
          have z : ¬ 3300 ≤ k := fun z => h32 ((nI_leI (a := 3300) (b := k) (by decide) (by omega)).mpr z)
          omega
        refine go_aload_n hF d_Mo_save_35 rfl ?_
        refine gs_getr hF hK d_Mo_save_36 fl_Mo_13 h4 rfl rfl (by decide) rfl ?_
        refine go_sipush (v := 3300) hF d_Mo_save_39 (by decide) ?_
        refine go_aload_n hF d_Mo_save_42 rfl ?_
        refine gs_geti hF hK d_Mo_save_43 fl_Mo_125 h4 rfl rfl (by decide) rfl ?_
        rw [mW_g]
        refine go_imul hF d_Mo_save_46 ?_
        refine go_iload_n hF d_Mo_save_47 rfl ?_
        refine go_iadd hF d_Mo_save_48 ?_
        refine go_aload_n hF d_Mo_save_49 rfl ?_
        refine gs_getr hF hK d_Mo_save_50 fl_Mo_7 h4 rfl rfl (by decide) rfl ?_
        refine go_iload_n hF d_Mo_save_53 rfl ?_
        refine gs_md hF hK hT d_Mo_save_54 h4 rfl hk2 ?_
        refine gs_mp (r := 2) hF hK hT hlo d_Mo_save_55 h4 (by decide) rfl rfl (ix33 e3) (by omega) (by decide) ?_
        refine go_iincN hF d_Mo_save_56 rfl (by decide) ?_
        refine go_lv (lv' := [(0, _), (1, _)]) ⟨rfl, rfl, trivial⟩ ?_
        refine go_goto (tgt := 28) hF d_Mo_save_59 (by decide) ?_
        refine go_G (G' := gw E B N (mW (sgW (sI w 4 0 0 0 0 0) f s (k + 1)) f)) (fun H hG => by rw [← sgW_s]; exact hG) ?_
        exact ih _ (by omega) (k + 1) rfl (by omega)
  refine go_aload_n hF d_Mo_save_0 rfl ?_
  refine go_aload_n hF d_Mo_save_1 rfl ?_
  refine gs_geti hF hK d_Mo_save_2 fl_Mo_125 h4 rfl rfl (by decide) rfl ?_
  rw [mW_g]
  refine go_iconst (v := 4) hF d_Mo_save_5 (by decide) ?_
  refine go_icmp_ne (tgt := 13) hF d_Mo_save_6 (by decide) (fun h6 => ?_) (fun h6 => ?_)
  · refine go_iconst (v := 0) hF d_Mo_save_13 (by decide) ?_
    have hTT : tSv s = 0 := ifC_t (by
      rw [hs] at h6
      have z : ¬ s = 4 := fun z => h6 (by rw [z]; rfl)
      omega)
    refine gs_puti hF hK hlo d_Mo_save_14 fl_Mo_28 ct_Mo fs_Mo_0 h4 rfl rfl (by decide) rfl rfl ?_
    rw [mW_0]
    refine go_aload_n hF d_Mo_save_17 rfl ?_
    refine gs_geti hF hK d_Mo_save_18 fl_Mo_28 h4 rfl rfl (by decide) rfl ?_
    rw [mW_g]
    refine go_if_le (tgt := 26) hF d_Mo_save_21 (by decide) (fun h21 => ?_) (fun h21 => ?_)
    · have h4s : s < 4 := by
        rw [hs] at h6
        have z : ¬ s = 4 := fun z => h6 (by rw [z]; rfl)
        omega
      refine go_iconst (v := 0) hF d_Mo_save_26 (by decide) ?_
      refine go_istore_n hF d_Mo_save_27 (by decide) ?_
      refine go_lv (lv' := [(0, _), (1, _)]) ⟨rfl, rfl, trivial⟩ ?_
      refine go_G (G' := gw E B N (mW (sgW (sI w 4 0 0 0 0 0) f s 0) f)) (fun H hG => by rw [sgW_0]; exact hG) ?_
      exact L28 h4s hTT _ 0 rfl (by omega)
    · rw [rd_II, if_pos (by simp)] at h21
      exact absurd (by decide) h21
  · refine go_iconst (v := 1) hF d_Mo_save_9 (by decide) ?_
    refine go_goto (tgt := 14) hF d_Mo_save_10 (by decide) ?_
    have hTT : tSv s = 1 := ifC_f (fun z => by
      rw [hs] at h6
      have := (nI_eq (a := s) (b := 4) (by omega) (by decide)).mp h6
      omega)
    refine gs_puti hF hK hlo d_Mo_save_14 fl_Mo_28 ct_Mo fs_Mo_0 h4 rfl rfl (by decide) rfl rfl ?_
    rw [mW_0]
    refine go_aload_n hF d_Mo_save_17 rfl ?_
    refine gs_geti hF hK d_Mo_save_18 fl_Mo_28 h4 rfl rfl (by decide) rfl ?_
    rw [mW_g]
    refine go_if_le (tgt := 26) hF d_Mo_save_21 (by decide) (fun h21 => ?_) (fun h21 => ?_)
    · rw [rd_II, if_pos (by simp)] at h21
      exact absurd h21 (by decide)
    · refine go_iconst (v := 0) hF d_Mo_save_24 (by decide) ?_
      exact go_iret hF hM d_Mo_save_25 (by decide) (by decide) (fun H hG => ⟨_, rfl, fun z => absurd (hTT.symm.trans z) (by decide), fun _ => ⟨hG, hTT⟩⟩)
set_option maxHeartbeats 4000000 in
set_option maxRecDepth 100000 in
theorem con_Mo_back {l : Launch} (hlt : l.stackTraces = false) {E : gE} {B : bsT} {N : nwT} {w : wdT} {f : Nat → Int32} (h4 : N.1 4 0 = true) {s : Nat} {x : Int32} (hs : wI w 4 0 0 3 0 = nI s) (hs4 : s ≤ 4) : Con l E y_Mo_back (Cond.code y_Mo_back c_Mo_back 3 (some .boolean) :: gAll) rm_Mo_back [.ref (ad B 4 0 0 0), .int x] (gw E B N (mW w f)) (fun v H => (bkOk s x ∧ v = some (.int 1) ∧ gw E B N (mW (sI w 4 0 0 0 0 0) (svF (sI w 4 0 0 0 0 0) f (nz x) 3300)) H) ∨ (¬ bkOk s x ∧ v = some (.int 0) ∧ gw E B N (mW (sI w 4 0 0 0 0 0) f) H)) (fun _ _ => False) 0 0 := by
  refine con_of (by decide) hlt (Nat.le_of_ble_eq_true rfl) ?_
  intro F hF hM htab hnm hE hlo hl
  subst hl
  have hF : Fb F c_Mo_back R_Mo 3 rm_Mo_back := hF
  have hK := hE.1
  have hT := hE.2.1
  refine go_lv (lv' := [(0, _), (1, _)]) ⟨rfl, rfl, trivial⟩ ?_
  have L21 : bkOk s x → ∀ m k : Nat, 3300 - k = m → k ≤ 3300 → Go F 21 [(0, .ref (ad B 4 0 0 0)), (1, .int x), (2, .int (nI k))] [] (gw E B N (mW (sI w 4 0 0 0 0 0) (svF (sI w 4 0 0 0 0 0) f (nz x) k))) 0 0 := by
    intro hbk
    intro m
    induction m using Nat.strongRecOn with
    | _ m ih =>
      intro k hm hk
      have hq := nz_of hbk.1 (by omega) hbk.2
      refine go_iload_n hF d_Mo_back_21 rfl ?_
      refine go_sipush (v := 3300) hF d_Mo_back_22 (by decide) ?_
      refine go_icmp_ge (tgt := 52) hF d_Mo_back_25 (by decide) (fun h25 => ?_) (fun h25 => ?_)
      · have hk2 : k = 3300 := by
          have z := (nI_leI (a := 3300) (b := k) (by decide) (by omega)).mp h25
          omega
        subst hk2
        refine go_iconst (v := 1) hF d_Mo_back_52 (by decide) ?_
        exact go_zret hF hM d_Mo_back_53 rfl (by decide) (by decide) (fun H hG => Or.inl ⟨hbk, rfl, hG⟩)
      · have hk2 : k < 3300 := by
          have z : ¬ 3300 ≤ k := fun z => h25 ((nI_leI (a := 3300) (b := k) (by decide) (by omega)).mpr z)
          omega
        refine go_aload_n hF d_Mo_back_28 rfl ?_
        refine gs_getr hF hK d_Mo_back_29 fl_Mo_7 h4 rfl rfl (by decide) rfl ?_
        refine go_iload_n hF d_Mo_back_32 rfl ?_
        refine go_aload_n hF d_Mo_back_33 rfl ?_
        refine gs_getr hF hK d_Mo_back_34 fl_Mo_13 h4 rfl rfl (by decide) rfl ?_
        refine go_sipush (v := 3300) hF d_Mo_back_37 (by decide) ?_
        refine go_iload_n hF d_Mo_back_40 rfl ?_
        refine go_imul hF d_Mo_back_41 ?_
        refine go_iload_n hF d_Mo_back_42 rfl ?_
        refine go_iadd hF d_Mo_back_43 ?_
        refine gs_mo (r := 2) hF hK hT d_Mo_back_44 h4 (by decide) rfl rfl (ix33 hq.1) (by have := hq.2; omega) (by decide) ?_
        refine gs_ms hF hK hT hlo d_Mo_back_45 h4 rfl hk2 ?_
        refine go_iincN hF d_Mo_back_46 rfl (by decide) ?_
        refine go_lv (lv' := [(0, _), (1, _), (2, _)]) ⟨rfl, rfl, rfl, trivial⟩ ?_
        refine go_goto (tgt := 21) hF d_Mo_back_49 (by decide) ?_
        refine go_G (G' := gw E B N (mW (sI w 4 0 0 0 0 0) (svF (sI w 4 0 0 0 0 0) f (nz x) (k + 1)))) (fun H hG => by rw [← svF_s]; exact hG) ?_
        exact ih _ (by omega) (k + 1) rfl (by omega)
  refine go_aload_n hF d_Mo_back_0 rfl ?_
  refine go_iconst (v := 0) hF d_Mo_back_1 (by decide) ?_
  refine gs_puti hF hK hlo d_Mo_back_2 fl_Mo_28 ct_Mo fs_Mo_0 h4 rfl rfl (by decide) rfl rfl ?_
  rw [mW_0]
  refine go_iload_n hF d_Mo_back_5 rfl ?_
  refine go_if_lt (tgt := 17) hF d_Mo_back_6 (by decide) (fun h6 => ?_) (fun h6 => ?_)
  · refine go_iconst (v := 0) hF d_Mo_back_17 (by decide) ?_
    exact go_zret hF hM d_Mo_back_18 rfl (by decide) (by decide) (fun H hG => Or.inr ⟨fun z => Int32.lt_irrefl (Int32.lt_of_lt_of_le h6 z.1), rfl, hG⟩)
  · refine go_iload_n hF d_Mo_back_9 rfl ?_
    refine go_aload_n hF d_Mo_back_10 rfl ?_
    refine gs_geti hF hK d_Mo_back_11 fl_Mo_125 h4 rfl rfl (by decide) rfl ?_
    rw [mW_g]
    refine go_icmp_lt (tgt := 19) hF d_Mo_back_14 (by decide) (fun h14 => ?_) (fun h14 => ?_)
    · refine go_iconst (v := 0) hF d_Mo_back_19 (by decide) ?_
      refine go_istore_n hF d_Mo_back_20 (by decide) ?_
      refine go_lv (lv' := [(0, _), (1, _), (2, _)]) ⟨rfl, rfl, rfl, trivial⟩ ?_
      refine go_G (G' := gw E B N (mW (sI w 4 0 0 0 0 0) (svF (sI w 4 0 0 0 0 0) f (nz x) 0))) (fun H hG => by rw [svF_0]; exact hG) ?_
      exact L21 ⟨not_lt h6, by rw [rd_II, if_neg (by omega), hs] at h14; exact h14⟩ _ 0 rfl (by omega)
    · refine go_iconst (v := 0) hF d_Mo_back_17 (by decide) ?_
      exact go_zret hF hM d_Mo_back_18 rfl (by decide) (by decide) (fun H hG => Or.inr ⟨fun z => h14 (by rw [rd_II, if_neg (by omega), hs]; exact z.2), rfl, hG⟩)
/-- one byte more on the reference's tape -/
def tpM (w : wdT) (x : Int32) : wdT := if wI w 4 0 0 5 0 < 2000 then sI (sI w 4 0 3 0 (nz (wI w 4 0 0 5 0)) x) 4 0 0 5 0 (wI w 4 0 0 5 0 + 1) else w
set_option maxHeartbeats 4000000 in
set_option maxRecDepth 100000 in
theorem con_Mo_unit {l : Launch} (hlt : l.stackTraces = false) {E : gE} {B : bsT} {N : nwT} {w : wdT} {f : Nat → Int32} (h4 : N.1 4 0 = true) {u : Int32} {n : Nat} (hn : wI w 4 0 0 5 0 = nI n) (hnl : n ≤ 2000) : Con l E y_Mo_unit (Cond.code y_Mo_unit c_Mo_unit 3 (some .boolean) :: gAll) rm_Mo_unit [.ref (ad B 4 0 0 0), .int u] (gw E B N (mW w f)) (fun v H => v = some (.int (bi (wI w 4 0 0 5 0 < 2000))) ∧ gw E B N (mW (tpM (sI w 4 0 0 0 0 0) (u &&& 255)) f) H) (fun _ _ => False) 0 0 := by
  refine con_of (by decide) hlt (Nat.le_of_ble_eq_true rfl) ?_
  intro F hF hM htab hnm hE hlo hl
  subst hl
  have hF : Fb F c_Mo_unit R_Mo 3 rm_Mo_unit := hF
  have hK := hE.1
  have hT := hE.2.1
  refine go_lv (lv' := [(0, _), (1, _)]) ⟨rfl, rfl, trivial⟩ ?_
  have e5 : wI (sI w 4 0 0 0 0 0) 4 0 0 5 0 = wI w 4 0 0 5 0 := by rw [rd_II, if_neg (by omega)]
  refine go_aload_n hF d_Mo_unit_0 rfl ?_
  refine go_iconst (v := 0) hF d_Mo_unit_1 (by decide) ?_
  refine gs_puti hF hK hlo d_Mo_unit_2 fl_Mo_28 ct_Mo fs_Mo_0 h4 rfl rfl (by decide) rfl rfl ?_
  rw [mW_0]
  refine go_aload_n hF d_Mo_unit_5 rfl ?_
  refine gs_geti hF hK d_Mo_unit_6 fl_Mo_107 h4 rfl rfl (by decide) rfl ?_
  rw [mW_g]
  refine go_sipush (v := 2000) hF d_Mo_unit_9 (by decide) ?_
  refine go_icmp_ge (tgt := 19) hF d_Mo_unit_12 (by decide) (fun h12 => ?_) (fun h12 => ?_)
  · refine go_iconst (v := 0) hF d_Mo_unit_19 (by decide) ?_
    refine go_istore_n hF d_Mo_unit_20 (by decide) ?_
    refine go_lv (lv' := [(0, _), (1, _), (2, _)]) ⟨rfl, rfl, rfl, trivial⟩ ?_
    refine go_iload_n hF d_Mo_unit_21 rfl ?_
    refine go_if_eq (tgt := 49) hF d_Mo_unit_22 (by decide) (fun h22 => ?_) (fun h22 => ?_)
    · refine go_iload_n hF d_Mo_unit_49 rfl ?_
      exact go_zret hF hM d_Mo_unit_50 rfl (by decide) (by decide) (fun H hG => ⟨by unfold bi; rw [if_neg (by rw [e5] at h12; exact ge_nlt h12)], by
        unfold tpM
        rw [if_neg (ge_nlt h12)]
        exact hG⟩)
    · exact absurd rfl h22
  · refine go_iconst (v := 1) hF d_Mo_unit_15 (by decide) ?_
    refine go_goto (tgt := 20) hF d_Mo_unit_16 (by decide) ?_
    refine go_istore_n hF d_Mo_unit_20 (by decide) ?_
    refine go_lv (lv' := [(0, _), (1, _), (2, _)]) ⟨rfl, rfl, rfl, trivial⟩ ?_
    refine go_iload_n hF d_Mo_unit_21 rfl ?_
    refine go_if_eq (tgt := 49) hF d_Mo_unit_22 (by decide) (fun h22 => ?_) (fun h22 => ?_)
    · exact absurd h22 (by decide)
    · have hlt2 : n < 2000 := by
        rw [e5, hn] at h12
        have z : ¬ 2000 ≤ n := fun z => h12 ((nI_leI (a := 2000) (b := n) (by decide) (by omega)).mpr z)
        omega
      refine go_aload_n hF d_Mo_unit_25 rfl ?_
      refine gs_getr hF hK d_Mo_unit_26 fl_Mo_16 h4 rfl rfl (by decide) rfl ?_
      refine go_aload_n hF d_Mo_unit_29 rfl ?_
      refine gs_geti hF hK d_Mo_unit_30 fl_Mo_107 h4 rfl rfl (by decide) rfl ?_
      rw [mW_g]
      refine go_iload_n hF d_Mo_unit_33 rfl ?_
      refine go_sipush (v := 255) hF d_Mo_unit_34 (by decide) ?_
      refine go_iand hF d_Mo_unit_37 ?_
      refine gs_mp (r := 3) hF hK hT hlo d_Mo_unit_38 h4 (by decide) rfl rfl (e5.trans hn) hlt2 (by decide) ?_
      refine go_aload_n hF d_Mo_unit_39 rfl ?_
      refine go_dup hF d_Mo_unit_40 rfl ?_
      refine gs_geti hF hK d_Mo_unit_41 fl_Mo_107 h4 rfl rfl (by decide) rfl ?_
      rw [mW_g]
      refine go_iconst (v := 1) hF d_Mo_unit_44 (by decide) ?_
      refine go_iadd hF d_Mo_unit_45 ?_
      refine gs_puti hF hK hlo d_Mo_unit_46 fl_Mo_107 ct_Mo fs_Mo_5 h4 rfl rfl (by decide) rfl rfl ?_
      rw [mW_0]
      refine go_iload_n hF d_Mo_unit_49 rfl ?_
      exact go_zret hF hM d_Mo_unit_50 rfl (by decide) (by decide) (fun H hG => ⟨by unfold bi; rw [if_pos (by rw [e5] at h12; exact nle_lt h12)], by
        unfold tpM
        rw [if_pos (nle_lt h12)]
        rw [rd_II, if_neg (by omega)] at hG
        rw [show nz (wI (sI w 4 0 0 0 0 0) 4 0 0 5 0) = n by rw [e5, hn]; exact nI_clamp (by omega)]
        exact hG⟩)
set_option maxHeartbeats 4000000 in
set_option maxRecDepth 100000 in
theorem con_Mo_byteAt {l : Launch} (hlt : l.stackTraces = false) {E : gE} {B : bsT} {N : nwT} {w : wdT} {f : Nat → Int32} (h4 : N.1 4 0 = true) {x : Int32} {p n : Nat} (hx : x = nI p) (hn : wI w 4 0 0 5 0 = nI n) (hnl : n ≤ 2000) (hp : p < 2 ^ 31) : Con l E y_Mo_byteAt (Cond.code y_Mo_byteAt c_Mo_byteAt 2 (some .int) :: gAll) rm_Mo_byteAt [.ref (ad B 4 0 0 0), .int x] (gw E B N (mW w f)) (fun v H => v = some (.int (if p < n then wI w 4 0 3 0 p else -1)) ∧ gw E B N (mW w f) H) (fun _ _ => False) 0 0 := by
  refine con_of (by decide) hlt (Nat.le_of_ble_eq_true rfl) ?_
  intro F hF hM htab hnm hE hlo hl
  subst hl
  have hF : Fb F c_Mo_byteAt R_Mo 2 rm_Mo_byteAt := hF
  have hK := hE.1
  have hT := hE.2.1
  refine go_lv (lv' := [(0, _), (1, _)]) ⟨rfl, rfl, trivial⟩ ?_
  subst hx
  refine go_iload_n hF d_Mo_byteAt_0 rfl ?_
  refine go_aload_n hF d_Mo_byteAt_1 rfl ?_
  refine gs_geti hF hK d_Mo_byteAt_2 fl_Mo_107 h4 rfl rfl (by decide) rfl ?_
  rw [mW_g]
  refine go_icmp_ge (tgt := 17) hF d_Mo_byteAt_5 (by decide) (fun h5 => ?_) (fun h5 => ?_)
  · refine go_iconst (v := -1) hF d_Mo_byteAt_17 (by decide) ?_
    exact go_iret hF hM d_Mo_byteAt_18 (by decide) (by decide) (fun H hG => ⟨by rw [if_neg (fun z => by rw [hn] at h5; have := (nI_leI (a := n) (b := p) (by omega) hp).mp h5; omega)], hG⟩)
  · have hlt2 : p < n := by
      rw [hn] at h5
      have z : ¬ n ≤ p := fun z => h5 ((nI_leI (a := n) (b := p) (by omega) hp).mpr z)
      omega
    refine go_aload_n hF d_Mo_byteAt_8 rfl ?_
    refine gs_getr hF hK d_Mo_byteAt_9 fl_Mo_16 h4 rfl rfl (by decide) rfl ?_
    refine go_iload_n hF d_Mo_byteAt_12 rfl ?_
    refine gs_mo (r := 3) hF hK hT d_Mo_byteAt_13 h4 (by decide) rfl rfl rfl (by omega) (by decide) ?_
    refine go_goto (tgt := 18) hF d_Mo_byteAt_14 (by decide) ?_
    exact go_iret hF hM d_Mo_byteAt_18 (by decide) (by decide) (fun H hG => ⟨by rw [if_pos hlt2], hG⟩)
set_option maxHeartbeats 4000000 in
set_option maxRecDepth 100000 in
theorem con_Mo_isDigit {l : Launch} (hlt : l.stackTraces = false) {E : gE} {B : bsT} {N : nwT} {w : wdT} {f : Nat → Int32} (x : Int32) : Con l E y_Mo_isDigit (Cond.code y_Mo_isDigit c_Mo_isDigit 1 (some .boolean) :: gAll) rm_Mo_isDigit [.int x] (gw E B N (mW w f)) (fun v H => v = some (.int (bi (dgt x))) ∧ gw E B N (mW w f) H) (fun _ _ => False) 0 0 := by
  refine con_of (by decide) hlt (Nat.le_of_ble_eq_true rfl) ?_
  intro F hF hM htab hnm hE hlo hl
  subst hl
  have hF : Fb F c_Mo_isDigit R_Mo 1 rm_Mo_isDigit := hF
  have hK := hE.1
  have hT := hE.2.1
  refine go_lv (lv' := [(0, _)]) ⟨rfl, trivial⟩ ?_
  refine go_iload_n hF d_Mo_isDigit_0 rfl ?_
  refine go_bipush (v := 48) hF d_Mo_isDigit_1 (by decide) ?_
  refine go_icmp_lt (tgt := 16) hF d_Mo_isDigit_3 (by decide) (fun h3 => ?_) (fun h3 => ?_)
  · refine go_iconst (v := 0) hF d_Mo_isDigit_16 (by decide) ?_
    exact go_zret hF hM d_Mo_isDigit_17 rfl (by decide) (by decide) (fun H hG => ⟨by clear hG; clear hF hM hE hK hT hlo htab hnm; unfold bi dgt; (try simp only [Int32.lt_iff_toInt_lt, Int32.le_iff_toInt_le, Int64.lt_iff_toInt_lt, Int64.le_iff_toInt_le, ← Int32.toInt_inj, ← Int64.toInt_inj] at h3 ⊢); split <;> first | rfl | (exfalso; omega), hG⟩)
  · refine go_iload_n hF d_Mo_isDigit_6 rfl ?_
    refine go_bipush (v := 57) hF d_Mo_isDigit_7 (by decide) ?_
    refine go_icmp_gt (tgt := 16) hF d_Mo_isDigit_9 (by decide) (fun h9 => ?_) (fun h9 => ?_)
    · refine go_iconst (v := 0) hF d_Mo_isDigit_16 (by decide) ?_
      exact go_zret hF hM d_Mo_isDigit_17 rfl (by decide) (by decide) (fun H hG => ⟨by clear hG; clear hF hM hE hK hT hlo htab hnm; unfold bi dgt; (try simp only [Int32.lt_iff_toInt_lt, Int32.le_iff_toInt_le, Int64.lt_iff_toInt_lt, Int64.le_iff_toInt_le, ← Int32.toInt_inj, ← Int64.toInt_inj] at h3 h9 ⊢); split <;> first | rfl | (exfalso; omega), hG⟩)
    · refine go_iconst (v := 1) hF d_Mo_isDigit_12 (by decide) ?_
      refine go_goto (tgt := 17) hF d_Mo_isDigit_13 (by decide) ?_
      exact go_zret hF hM d_Mo_isDigit_17 rfl (by decide) (by decide) (fun H hG => ⟨by clear hG; clear hF hM hE hK hT hlo htab hnm; unfold bi dgt; (try simp only [Int32.lt_iff_toInt_lt, Int32.le_iff_toInt_le, Int64.lt_iff_toInt_lt, Int64.le_iff_toInt_le, ← Int32.toInt_inj, ← Int64.toInt_inj] at h3 h9 ⊢); split <;> first | rfl | (exfalso; omega), hG⟩)
theorem vof_M (x : Int32) : vof x = if x = 48 then 0 else if x = 49 then 1 else if x = 120 then 2 else if x = 122 then 3 else -1 := by
  unfold vof
  rw [vfl_s, vfl_s, vfl_s, vfl_s]
  rw [show vbs 0 = 48 from rfl, show vbs (0 + 1) = 49 from rfl, show vbs (0 + 1 + 1) = 120 from rfl, show vbs (0 + 1 + 1 + 1) = 122 from rfl]
  simp only [eq_comm (b := x)]
  rfl
set_option maxHeartbeats 4000000 in
set_option maxRecDepth 100000 in
theorem con_Mo_valueOf {l : Launch} (hlt : l.stackTraces = false) {E : gE} {B : bsT} {N : nwT} {w : wdT} {f : Nat → Int32} (x : Int32) : Con l E y_Mo_valueOf (Cond.code y_Mo_valueOf c_Mo_valueOf 1 (some .int) :: gAll) rm_Mo_valueOf [.int x] (gw E B N (mW w f)) (fun v H => v = some (.int (vof x)) ∧ gw E B N (mW w f) H) (fun _ _ => False) 0 0 := by
  refine con_of (by decide) hlt (Nat.le_of_ble_eq_true rfl) ?_
  intro F hF hM htab hnm hE hlo hl
  subst hl
  have hF : Fb F c_Mo_valueOf R_Mo 1 rm_Mo_valueOf := hF
  have hK := hE.1
  have hT := hE.2.1
  refine go_lv (lv' := [(0, _)]) ⟨rfl, trivial⟩ ?_
  refine go_iload_n hF d_Mo_valueOf_0 rfl ?_
  refine go_bipush (v := 48) hF d_Mo_valueOf_1 (by decide) ?_
  refine go_icmp_ne (tgt := 10) hF d_Mo_valueOf_3 (by decide) (fun h3 => ?_) (fun h3 => ?_)
  · refine go_iload_n hF d_Mo_valueOf_10 rfl ?_
    refine go_bipush (v := 49) hF d_Mo_valueOf_11 (by decide) ?_
    refine go_icmp_ne (tgt := 20) hF d_Mo_valueOf_13 (by decide) (fun h13 => ?_) (fun h13 => ?_)
    · refine go_iload_n hF d_Mo_valueOf_20 rfl ?_
      refine go_bipush (v := 120) hF d_Mo_valueOf_21 (by decide) ?_
      refine go_icmp_ne (tgt := 30) hF d_Mo_valueOf_23 (by decide) (fun h23 => ?_) (fun h23 => ?_)
      · refine go_iload_n hF d_Mo_valueOf_30 rfl ?_
        refine go_bipush (v := 122) hF d_Mo_valueOf_31 (by decide) ?_
        refine go_icmp_ne (tgt := 40) hF d_Mo_valueOf_33 (by decide) (fun h33 => ?_) (fun h33 => ?_)
        · refine go_iconst (v := -1) hF d_Mo_valueOf_40 (by decide) ?_
          exact go_iret hF hM d_Mo_valueOf_41 (by decide) (by decide) (fun H hG => ⟨by clear hG; clear hF hM hE hK hT hlo htab hnm; rw [vof_M]; simp [h3, h13, h23, h33], hG⟩)
        · refine go_iconst (v := 3) hF d_Mo_valueOf_36 (by decide) ?_
          refine go_goto (tgt := 41) hF d_Mo_valueOf_37 (by decide) ?_
          exact go_iret hF hM d_Mo_valueOf_41 (by decide) (by decide) (fun H hG => ⟨by clear hG; clear hF hM hE hK hT hlo htab hnm; rw [vof_M]; simp [h3, h13, h23, h33], hG⟩)
      · refine go_iconst (v := 2) hF d_Mo_valueOf_26 (by decide) ?_
        refine go_goto (tgt := 41) hF d_Mo_valueOf_27 (by decide) ?_
        exact go_iret hF hM d_Mo_valueOf_41 (by decide) (by decide) (fun H hG => ⟨by clear hG; clear hF hM hE hK hT hlo htab hnm; rw [vof_M]; simp [h3, h13, h23], hG⟩)
    · refine go_iconst (v := 1) hF d_Mo_valueOf_16 (by decide) ?_
      refine go_goto (tgt := 41) hF d_Mo_valueOf_17 (by decide) ?_
      exact go_iret hF hM d_Mo_valueOf_41 (by decide) (by decide) (fun H hG => ⟨by clear hG; clear hF hM hE hK hT hlo htab hnm; rw [vof_M]; simp [h3, h13], hG⟩)
  · refine go_iconst (v := 0) hF d_Mo_valueOf_6 (by decide) ?_
    refine go_goto (tgt := 41) hF d_Mo_valueOf_7 (by decide) ?_
    exact go_iret hF hM d_Mo_valueOf_41 (by decide) (by decide) (fun H hG => ⟨by clear hG; clear hF hM hE hK hT hlo htab hnm; rw [vof_M]; simp [h3], hG⟩)
theorem q012 {q : Int32} (h1 : 0 ≤ q) (h2 : q ≤ 2) : q = 0 ∨ q = 1 ∨ q = 2 ∨ q = 3 := by
  rw [Int32.le_iff_toInt_le, i0] at h1
  rw [Int32.le_iff_toInt_le, i2] at h2
  rcases (show q.toInt = 0 ∨ q.toInt = 1 ∨ q.toInt = 2 by omega) with z | z | z
  · exact Or.inl (Int32.toInt_inj.mp (by rw [z]; rfl))
  · exact Or.inr (Or.inl (Int32.toInt_inj.mp (by rw [z]; rfl)))
  · exact Or.inr (Or.inr (Or.inl (Int32.toInt_inj.mp (by rw [z]; rfl))))
theorem q012n {q : Int32} (h : q < 0 ∨ 2 < q) (h3 : ¬ q = 3) (z : q = 0 ∨ q = 1 ∨ q = 2 ∨ q = 3) : False := by
  rcases z with rfl | rfl | rfl | rfl
  · exact h.elim (by decide) (by decide)
  · exact h.elim (by decide) (by decide)
  · exact h.elim (by decide) (by decide)
  · exact h3 rfl
theorem chg_M {K : Nat} {c : wdT} {f : Nat → Int32} {k q : Int32} (hR : Rel K c 0 f) (hk : isW c k) (h0 : 0 ≤ q) (h2 : q ≤ 2) : ∃ j : Nat, j < 3 ∧ q = nI j ∧ f (1450 + 3 * nz k + j) = chg c k q := by
  have hw := hR.2.2.2.2.2.2 _ (isW_vn hR.1 hk).2
  rcases q012 h0 h2 with z | z | z | z
  · exact ⟨0, by decide, z, by subst z; exact hw.1⟩
  · exact ⟨1, by decide, z, by subst z; exact hw.2.1⟩
  · exact ⟨2, by decide, z, by subst z; exact hw.2.2.1⟩
  · subst z
    exact absurd h2 (by decide)
set_option maxHeartbeats 4000000 in
set_option maxRecDepth 100000 in
theorem con_Mo_change {l : Launch} (hlt : l.stackTraces = false) {E : gE} {B : bsT} {N : nwT} {w : wdT} {f : Nat → Int32} (h4 : N.1 4 0 = true) {K : Nat} {c : wdT} {k q : Int32} (hR : Rel K c 0 f) : Con l E y_Mo_change (Cond.code y_Mo_change c_Mo_change 4 (some .int) :: gAll) rm_Mo_change [.ref (ad B 4 0 0 0), .int k, .int q] (gw E B N (mW w f)) (fun v H => ∃ b, v = some (.int b) ∧ (tX c k q = 0 → b = chg c k q) ∧ gw E B N (mW (sI w 4 0 0 0 0 (tX c k q)) f) H) (fun _ _ => False) 0 0 := by
  refine con_of (by decide) hlt (Nat.le_of_ble_eq_true rfl) ?_
  intro F hF hM htab hnm hE hlo hl
  subst hl
  have hF : Fb F c_Mo_change R_Mo 4 rm_Mo_change := hF
  have hK := hE.1
  have hT := hE.2.1
  refine go_lv (lv' := [(0, _), (1, _), (2, _)]) ⟨rfl, rfl, rfl, trivial⟩ ?_
  refine go_iload_n hF d_Mo_change_0 rfl ?_
  refine go_if_lt (tgt := 19) hF d_Mo_change_1 (by decide) (fun h1 => ?_) (fun h1 => ?_)
  · refine go_iconst (v := 0) hF d_Mo_change_19 (by decide) ?_
    refine go_istore_n hF d_Mo_change_20 (by decide) ?_
    refine go_lv (lv' := [(0, _), (1, _), (2, _), (3, _)]) ⟨rfl, rfl, rfl, rfl, trivial⟩ ?_
    refine go_aload_n hF d_Mo_change_21 rfl ?_
    refine go_iload_n hF d_Mo_change_22 rfl ?_
    refine go_iconst (v := 3) hF d_Mo_change_23 (by decide) ?_
    refine go_icmp_ne (tgt := 35) hF d_Mo_change_24 (by decide) (fun h24 => ?_) (fun h24 => ?_)
    · refine go_iload_n hF d_Mo_change_35 rfl ?_
      refine go_if_eq (tgt := 52) hF d_Mo_change_36 (by decide) (fun h36 => ?_) (fun h36 => ?_)
      · refine go_iconst (v := 1) hF d_Mo_change_52 (by decide) ?_
        have hTT : tX c k q = 1 := by
          unfold tX
          exact ifC_f (fun z => z.elim (fun z => h24 z.1) (fun z => (fun z => Int32.lt_irrefl (Int32.lt_of_lt_of_le h1 z.1)) z.1))
        refine gs_puti hF hK hlo d_Mo_change_53 fl_Mo_28 ct_Mo fs_Mo_0 h4 rfl rfl (by decide) rfl rfl ?_
        rw [mW_0]
        refine go_aload_n hF d_Mo_change_56 rfl ?_
        refine gs_geti hF hK d_Mo_change_57 fl_Mo_28 h4 rfl rfl (by decide) rfl ?_
        rw [mW_g]
        refine go_if_le (tgt := 67) hF d_Mo_change_60 (by decide) (fun h60 => ?_) (fun h60 => ?_)
        · rw [rd_II, if_pos (by simp)] at h60
          exact absurd h60 (by decide)
        · refine go_iconst (v := 0) hF d_Mo_change_63 (by decide) ?_
          refine go_goto (tgt := 96) hF d_Mo_change_64 (by decide) ?_
          exact go_iret hF hM d_Mo_change_96 (by decide) (by decide) (fun H hG => ⟨_, rfl, fun z => absurd (hTT.symm.trans z) (by decide), by rw [hTT]; exact hG⟩)
      · exact absurd rfl h36
    · refine go_iload_n hF d_Mo_change_27 rfl ?_
      refine go_if_ne (tgt := 48) hF d_Mo_change_28 (by decide) (fun h28 => ?_) (fun h28 => ?_)
      · exact absurd rfl h28
      · refine go_iload_n hF d_Mo_change_31 rfl ?_
        refine go_if_eq (tgt := 48) hF d_Mo_change_32 (by decide) (fun h32 => ?_) (fun h32 => ?_)
        · refine go_iconst (v := 0) hF d_Mo_change_48 (by decide) ?_
          refine go_goto (tgt := 53) hF d_Mo_change_49 (by decide) ?_
          have hTT : tX c k q = 0 := by
            unfold tX
            exact ifC_t (Or.inl ⟨h24, h32⟩)
          refine gs_puti hF hK hlo d_Mo_change_53 fl_Mo_28 ct_Mo fs_Mo_0 h4 rfl rfl (by decide) rfl rfl ?_
          rw [mW_0]
          refine go_aload_n hF d_Mo_change_56 rfl ?_
          refine gs_geti hF hK d_Mo_change_57 fl_Mo_28 h4 rfl rfl (by decide) rfl ?_
          rw [mW_g]
          refine go_if_le (tgt := 67) hF d_Mo_change_60 (by decide) (fun h60 => ?_) (fun h60 => ?_)
          · refine go_iload_n hF d_Mo_change_67 rfl ?_
            refine go_iconst (v := 3) hF d_Mo_change_68 (by decide) ?_
            refine go_icmp_ne (tgt := 82) hF d_Mo_change_69 (by decide) (fun h69 => ?_) (fun h69 => ?_)
            · exact absurd h24 h69
            · refine go_aload_n hF d_Mo_change_72 rfl ?_
              refine gs_getr hF hK d_Mo_change_73 fl_Mo_7 h4 rfl rfl (by decide) rfl ?_
              refine go_bipush (v := 6) hF d_Mo_change_76 (by decide) ?_
              refine gs_md hF hK hT d_Mo_change_78 h4 (show (6 : Int32) = nI 6 from rfl) (by decide) ?_
              refine go_goto (tgt := 96) hF d_Mo_change_79 (by decide) ?_
              exact go_iret hF hM d_Mo_change_96 (by decide) (by decide) (fun H hG => ⟨_, rfl, fun _ => by unfold chg; rw [if_pos h69]; exact hR.2.1.2.2.2.2.2.2.1, by rw [hTT]; exact hG⟩)
          · rw [rd_II, if_pos (by simp)] at h60
            exact absurd (by decide) h60
        · refine go_iload_n hF d_Mo_change_35 rfl ?_
          refine go_if_eq (tgt := 52) hF d_Mo_change_36 (by decide) (fun h36 => ?_) (fun h36 => ?_)
          · refine go_iconst (v := 1) hF d_Mo_change_52 (by decide) ?_
            have hTT : tX c k q = 1 := by
              unfold tX
              exact ifC_f (fun z => z.elim (fun z => h32 z.2) (fun z => (fun z => Int32.lt_irrefl (Int32.lt_of_lt_of_le h1 z.1)) z.1))
            refine gs_puti hF hK hlo d_Mo_change_53 fl_Mo_28 ct_Mo fs_Mo_0 h4 rfl rfl (by decide) rfl rfl ?_
            rw [mW_0]
            refine go_aload_n hF d_Mo_change_56 rfl ?_
            refine gs_geti hF hK d_Mo_change_57 fl_Mo_28 h4 rfl rfl (by decide) rfl ?_
            rw [mW_g]
            refine go_if_le (tgt := 67) hF d_Mo_change_60 (by decide) (fun h60 => ?_) (fun h60 => ?_)
            · rw [rd_II, if_pos (by simp)] at h60
              exact absurd h60 (by decide)
            · refine go_iconst (v := 0) hF d_Mo_change_63 (by decide) ?_
              refine go_goto (tgt := 96) hF d_Mo_change_64 (by decide) ?_
              exact go_iret hF hM d_Mo_change_96 (by decide) (by decide) (fun H hG => ⟨_, rfl, fun z => absurd (hTT.symm.trans z) (by decide), by rw [hTT]; exact hG⟩)
          · exact absurd rfl h36
  · refine go_iload_n hF d_Mo_change_4 rfl ?_
    refine go_aload_n hF d_Mo_change_5 rfl ?_
    refine gs_getr hF hK d_Mo_change_6 fl_Mo_7 h4 rfl rfl (by decide) rfl ?_
    refine go_bipush (v := 6) hF d_Mo_change_9 (by decide) ?_
    refine gs_md hF hK hT d_Mo_change_11 h4 (show (6 : Int32) = nI 6 from rfl) (by decide) ?_
    refine go_icmp_ge (tgt := 19) hF d_Mo_change_12 (by decide) (fun h12 => ?_) (fun h12 => ?_)
    · refine go_iconst (v := 0) hF d_Mo_change_19 (by decide) ?_
      refine go_istore_n hF d_Mo_change_20 (by decide) ?_
      refine go_lv (lv' := [(0, _), (1, _), (2, _), (3, _)]) ⟨rfl, rfl, rfl, rfl, trivial⟩ ?_
      refine go_aload_n hF d_Mo_change_21 rfl ?_
      refine go_iload_n hF d_Mo_change_22 rfl ?_
      refine go_iconst (v := 3) hF d_Mo_change_23 (by decide) ?_
      refine go_icmp_ne (tgt := 35) hF d_Mo_change_24 (by decide) (fun h24 => ?_) (fun h24 => ?_)
      · refine go_iload_n hF d_Mo_change_35 rfl ?_
        refine go_if_eq (tgt := 52) hF d_Mo_change_36 (by decide) (fun h36 => ?_) (fun h36 => ?_)
        · refine go_iconst (v := 1) hF d_Mo_change_52 (by decide) ?_
          have hTT : tX c k q = 1 := by
            unfold tX
            exact ifC_f (fun z => z.elim (fun z => h24 z.1) (fun z => (fun z => ge_nlt h12 ((Rel_isW hR _).mpr z).2) z.1))
          refine gs_puti hF hK hlo d_Mo_change_53 fl_Mo_28 ct_Mo fs_Mo_0 h4 rfl rfl (by decide) rfl rfl ?_
          rw [mW_0]
          refine go_aload_n hF d_Mo_change_56 rfl ?_
          refine gs_geti hF hK d_Mo_change_57 fl_Mo_28 h4 rfl rfl (by decide) rfl ?_
          rw [mW_g]
          refine go_if_le (tgt := 67) hF d_Mo_change_60 (by decide) (fun h60 => ?_) (fun h60 => ?_)
          · rw [rd_II, if_pos (by simp)] at h60
            exact absurd h60 (by decide)
          · refine go_iconst (v := 0) hF d_Mo_change_63 (by decide) ?_
            refine go_goto (tgt := 96) hF d_Mo_change_64 (by decide) ?_
            exact go_iret hF hM d_Mo_change_96 (by decide) (by decide) (fun H hG => ⟨_, rfl, fun z => absurd (hTT.symm.trans z) (by decide), by rw [hTT]; exact hG⟩)
        · exact absurd rfl h36
      · refine go_iload_n hF d_Mo_change_27 rfl ?_
        refine go_if_ne (tgt := 48) hF d_Mo_change_28 (by decide) (fun h28 => ?_) (fun h28 => ?_)
        · exact absurd rfl h28
        · refine go_iload_n hF d_Mo_change_31 rfl ?_
          refine go_if_eq (tgt := 48) hF d_Mo_change_32 (by decide) (fun h32 => ?_) (fun h32 => ?_)
          · refine go_iconst (v := 0) hF d_Mo_change_48 (by decide) ?_
            refine go_goto (tgt := 53) hF d_Mo_change_49 (by decide) ?_
            have hTT : tX c k q = 0 := by
              unfold tX
              exact ifC_t (Or.inl ⟨h24, h32⟩)
            refine gs_puti hF hK hlo d_Mo_change_53 fl_Mo_28 ct_Mo fs_Mo_0 h4 rfl rfl (by decide) rfl rfl ?_
            rw [mW_0]
            refine go_aload_n hF d_Mo_change_56 rfl ?_
            refine gs_geti hF hK d_Mo_change_57 fl_Mo_28 h4 rfl rfl (by decide) rfl ?_
            rw [mW_g]
            refine go_if_le (tgt := 67) hF d_Mo_change_60 (by decide) (fun h60 => ?_) (fun h60 => ?_)
            · refine go_iload_n hF d_Mo_change_67 rfl ?_
              refine go_iconst (v := 3) hF d_Mo_change_68 (by decide) ?_
              refine go_icmp_ne (tgt := 82) hF d_Mo_change_69 (by decide) (fun h69 => ?_) (fun h69 => ?_)
              · exact absurd h24 h69
              · refine go_aload_n hF d_Mo_change_72 rfl ?_
                refine gs_getr hF hK d_Mo_change_73 fl_Mo_7 h4 rfl rfl (by decide) rfl ?_
                refine go_bipush (v := 6) hF d_Mo_change_76 (by decide) ?_
                refine gs_md hF hK hT d_Mo_change_78 h4 (show (6 : Int32) = nI 6 from rfl) (by decide) ?_
                refine go_goto (tgt := 96) hF d_Mo_change_79 (by decide) ?_
                exact go_iret hF hM d_Mo_change_96 (by decide) (by decide) (fun H hG => ⟨_, rfl, fun _ => by unfold chg; rw [if_pos h69]; exact hR.2.1.2.2.2.2.2.2.1, by rw [hTT]; exact hG⟩)
            · rw [rd_II, if_pos (by simp)] at h60
              exact absurd (by decide) h60
          · refine go_iload_n hF d_Mo_change_35 rfl ?_
            refine go_if_eq (tgt := 52) hF d_Mo_change_36 (by decide) (fun h36 => ?_) (fun h36 => ?_)
            · refine go_iconst (v := 1) hF d_Mo_change_52 (by decide) ?_
              have hTT : tX c k q = 1 := by
                unfold tX
                exact ifC_f (fun z => z.elim (fun z => h32 z.2) (fun z => (fun z => ge_nlt h12 ((Rel_isW hR _).mpr z).2) z.1))
              refine gs_puti hF hK hlo d_Mo_change_53 fl_Mo_28 ct_Mo fs_Mo_0 h4 rfl rfl (by decide) rfl rfl ?_
              rw [mW_0]
              refine go_aload_n hF d_Mo_change_56 rfl ?_
              refine gs_geti hF hK d_Mo_change_57 fl_Mo_28 h4 rfl rfl (by decide) rfl ?_
              rw [mW_g]
              refine go_if_le (tgt := 67) hF d_Mo_change_60 (by decide) (fun h60 => ?_) (fun h60 => ?_)
              · rw [rd_II, if_pos (by simp)] at h60
                exact absurd h60 (by decide)
              · refine go_iconst (v := 0) hF d_Mo_change_63 (by decide) ?_
                refine go_goto (tgt := 96) hF d_Mo_change_64 (by decide) ?_
                exact go_iret hF hM d_Mo_change_96 (by decide) (by decide) (fun H hG => ⟨_, rfl, fun z => absurd (hTT.symm.trans z) (by decide), by rw [hTT]; exact hG⟩)
            · exact absurd rfl h36
    · refine go_iconst (v := 1) hF d_Mo_change_15 (by decide) ?_
      refine go_goto (tgt := 20) hF d_Mo_change_16 (by decide) ?_
      refine go_istore_n hF d_Mo_change_20 (by decide) ?_
      refine go_lv (lv' := [(0, _), (1, _), (2, _), (3, _)]) ⟨rfl, rfl, rfl, rfl, trivial⟩ ?_
      refine go_aload_n hF d_Mo_change_21 rfl ?_
      refine go_iload_n hF d_Mo_change_22 rfl ?_
      refine go_iconst (v := 3) hF d_Mo_change_23 (by decide) ?_
      refine go_icmp_ne (tgt := 35) hF d_Mo_change_24 (by decide) (fun h24 => ?_) (fun h24 => ?_)
      · refine go_iload_n hF d_Mo_change_35 rfl ?_
        refine go_if_eq (tgt := 52) hF d_Mo_change_36 (by decide) (fun h36 => ?_) (fun h36 => ?_)
        · exact absurd h36 (by decide)
        · refine go_iload_n hF d_Mo_change_39 rfl ?_
          refine go_if_lt (tgt := 52) hF d_Mo_change_40 (by decide) (fun h40 => ?_) (fun h40 => ?_)
          · refine go_iconst (v := 1) hF d_Mo_change_52 (by decide) ?_
            have hTT : tX c k q = 1 := by
              unfold tX
              exact ifC_f (fun z => z.elim (fun z => h24 z.1) (fun z => q012n (Or.inl h40) h24 z.2))
            refine gs_puti hF hK hlo d_Mo_change_53 fl_Mo_28 ct_Mo fs_Mo_0 h4 rfl rfl (by decide) rfl rfl ?_
            rw [mW_0]
            refine go_aload_n hF d_Mo_change_56 rfl ?_
            refine gs_geti hF hK d_Mo_change_57 fl_Mo_28 h4 rfl rfl (by decide) rfl ?_
            rw [mW_g]
            refine go_if_le (tgt := 67) hF d_Mo_change_60 (by decide) (fun h60 => ?_) (fun h60 => ?_)
            · rw [rd_II, if_pos (by simp)] at h60
              exact absurd h60 (by decide)
            · refine go_iconst (v := 0) hF d_Mo_change_63 (by decide) ?_
              refine go_goto (tgt := 96) hF d_Mo_change_64 (by decide) ?_
              exact go_iret hF hM d_Mo_change_96 (by decide) (by decide) (fun H hG => ⟨_, rfl, fun z => absurd (hTT.symm.trans z) (by decide), by rw [hTT]; exact hG⟩)
          · refine go_iload_n hF d_Mo_change_43 rfl ?_
            refine go_iconst (v := 2) hF d_Mo_change_44 (by decide) ?_
            refine go_icmp_gt (tgt := 52) hF d_Mo_change_45 (by decide) (fun h45 => ?_) (fun h45 => ?_)
            · refine go_iconst (v := 1) hF d_Mo_change_52 (by decide) ?_
              have hTT : tX c k q = 1 := by
                unfold tX
                exact ifC_f (fun z => z.elim (fun z => h24 z.1) (fun z => q012n (Or.inr h45) h24 z.2))
              refine gs_puti hF hK hlo d_Mo_change_53 fl_Mo_28 ct_Mo fs_Mo_0 h4 rfl rfl (by decide) rfl rfl ?_
              rw [mW_0]
              refine go_aload_n hF d_Mo_change_56 rfl ?_
              refine gs_geti hF hK d_Mo_change_57 fl_Mo_28 h4 rfl rfl (by decide) rfl ?_
              rw [mW_g]
              refine go_if_le (tgt := 67) hF d_Mo_change_60 (by decide) (fun h60 => ?_) (fun h60 => ?_)
              · rw [rd_II, if_pos (by simp)] at h60
                exact absurd h60 (by decide)
              · refine go_iconst (v := 0) hF d_Mo_change_63 (by decide) ?_
                refine go_goto (tgt := 96) hF d_Mo_change_64 (by decide) ?_
                exact go_iret hF hM d_Mo_change_96 (by decide) (by decide) (fun H hG => ⟨_, rfl, fun z => absurd (hTT.symm.trans z) (by decide), by rw [hTT]; exact hG⟩)
            · refine go_iconst (v := 0) hF d_Mo_change_48 (by decide) ?_
              refine go_goto (tgt := 53) hF d_Mo_change_49 (by decide) ?_
              have hTT : tX c k q = 0 := by
                unfold tX
                exact ifC_t (Or.inr ⟨(Rel_isW hR _).mp ⟨not_lt h1, nle_lt h12⟩, q012 (not_lt h40) (not_lt h45)⟩)
              refine gs_puti hF hK hlo d_Mo_change_53 fl_Mo_28 ct_Mo fs_Mo_0 h4 rfl rfl (by decide) rfl rfl ?_
              rw [mW_0]
              refine go_aload_n hF d_Mo_change_56 rfl ?_
              refine gs_geti hF hK d_Mo_change_57 fl_Mo_28 h4 rfl rfl (by decide) rfl ?_
              rw [mW_g]
              refine go_if_le (tgt := 67) hF d_Mo_change_60 (by decide) (fun h60 => ?_) (fun h60 => ?_)
              · refine go_iload_n hF d_Mo_change_67 rfl ?_
                refine go_iconst (v := 3) hF d_Mo_change_68 (by decide) ?_
                refine go_icmp_ne (tgt := 82) hF d_Mo_change_69 (by decide) (fun h69 => ?_) (fun h69 => ?_)
                · obtain ⟨j, hj1, hj2, hj3⟩ := chg_M hR ((Rel_isW hR _).mp ⟨not_lt h1, nle_lt h12⟩) (not_lt h40) (not_lt h45)
                  have hwv := isW_vn hR.1 ((Rel_isW hR _).mp ⟨not_lt h1, nle_lt h12⟩)
                  refine go_aload_n hF d_Mo_change_82 rfl ?_
                  refine gs_getr hF hK d_Mo_change_83 fl_Mo_7 h4 rfl rfl (by decide) rfl ?_
                  refine go_sipush (v := 1450) hF d_Mo_change_86 (by decide) ?_
                  refine go_iconst (v := 3) hF d_Mo_change_89 (by decide) ?_
                  refine go_iload_n hF d_Mo_change_90 rfl ?_
                  refine go_imul hF d_Mo_change_91 ?_
                  refine go_iadd hF d_Mo_change_92 ?_
                  refine go_iload_n hF d_Mo_change_93 rfl ?_
                  refine go_iadd hF d_Mo_change_94 ?_
                  refine gs_md hF hK hT d_Mo_change_95 h4 (show 1450 + 3 * k + q = nI (1450 + 3 * nz k + j) by rw [hj2]; exact ix1 (ixC (a := 1450) (b := 3) hwv.1.1)) (by have h6 : nz k < 600 := hwv.1.2; omega) ?_
                  exact go_iret hF hM d_Mo_change_96 (by decide) (by decide) (fun H hG => ⟨_, rfl, fun _ => hj3, by rw [hTT]; exact hG⟩)
                · exact absurd h69 h24
              · rw [rd_II, if_pos (by simp)] at h60
                exact absurd (by decide) h60
      · refine go_iload_n hF d_Mo_change_27 rfl ?_
        refine go_if_ne (tgt := 48) hF d_Mo_change_28 (by decide) (fun h28 => ?_) (fun h28 => ?_)
        · refine go_iconst (v := 0) hF d_Mo_change_48 (by decide) ?_
          refine go_goto (tgt := 53) hF d_Mo_change_49 (by decide) ?_
          have hTT : tX c k q = 0 := by
            unfold tX
            exact ifC_t (Or.inr ⟨(Rel_isW hR _).mp ⟨not_lt h1, nle_lt h12⟩, Or.inr (Or.inr (Or.inr h24))⟩)
          refine gs_puti hF hK hlo d_Mo_change_53 fl_Mo_28 ct_Mo fs_Mo_0 h4 rfl rfl (by decide) rfl rfl ?_
          rw [mW_0]
          refine go_aload_n hF d_Mo_change_56 rfl ?_
          refine gs_geti hF hK d_Mo_change_57 fl_Mo_28 h4 rfl rfl (by decide) rfl ?_
          rw [mW_g]
          refine go_if_le (tgt := 67) hF d_Mo_change_60 (by decide) (fun h60 => ?_) (fun h60 => ?_)
          · refine go_iload_n hF d_Mo_change_67 rfl ?_
            refine go_iconst (v := 3) hF d_Mo_change_68 (by decide) ?_
            refine go_icmp_ne (tgt := 82) hF d_Mo_change_69 (by decide) (fun h69 => ?_) (fun h69 => ?_)
            · exact absurd h24 h69
            · refine go_aload_n hF d_Mo_change_72 rfl ?_
              refine gs_getr hF hK d_Mo_change_73 fl_Mo_7 h4 rfl rfl (by decide) rfl ?_
              refine go_bipush (v := 6) hF d_Mo_change_76 (by decide) ?_
              refine gs_md hF hK hT d_Mo_change_78 h4 (show (6 : Int32) = nI 6 from rfl) (by decide) ?_
              refine go_goto (tgt := 96) hF d_Mo_change_79 (by decide) ?_
              exact go_iret hF hM d_Mo_change_96 (by decide) (by decide) (fun H hG => ⟨_, rfl, fun _ => by unfold chg; rw [if_pos h69]; exact hR.2.1.2.2.2.2.2.2.1, by rw [hTT]; exact hG⟩)
          · rw [rd_II, if_pos (by simp)] at h60
            exact absurd (by decide) h60
        · exact absurd h28 (by decide)
