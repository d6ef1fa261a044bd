/-! THE REFERENCE: its array s (kind 4, region 1) as a function f of its own beside the rest of the world. -/
def mW (w : wdT) (f : Nat → Int32) : wdT := (fun a b c d e => if a = 4 ∧ b = 0 ∧ c = 1 ∧ d = 0 then f e else w.1 a b c d e, w.2)
abbrev mS (w : wdT) : Nat → Int32 := fun k => wI w 4 0 1 0 k
theorem mW_w (w : wdT) : mW w (mS w) = w := by
  unfold mW
  refine Prod.ext ?_ rfl
  funext a b c d e
  show (if a = 4 ∧ b = 0 ∧ c = 1 ∧ d = 0 then wI w 4 0 1 0 e else w.1 a b c d e) = w.1 a b c d e
  split
  · rename_i h
    obtain ⟨rfl, rfl, rfl, rfl⟩ := h
    rfl
  · rfl
theorem mW_r (w : wdT) (f : Nat → Int32) (k : Nat) : wI (mW w f) 4 0 1 0 k = f k := by
  show (if 4 = 4 ∧ 0 = 0 ∧ 1 = 1 ∧ 0 = 0 then f k else w.1 4 0 1 0 k) = f k
  exact if_pos ⟨rfl, rfl, rfl, rfl⟩
theorem mW_n (w : wdT) (f : Nat → Int32) {a b c d e : Nat} (h : ¬ (a = 4 ∧ b = 0 ∧ c = 1 ∧ d = 0)) : wI (mW w f) a b c d e = wI w a b c d e := if_neg h
theorem mW_L (w : wdT) (f : Nat → Int32) : wL (mW w f) = wL w := rfl
theorem mW_P (w : wdT) (f : Nat → Int32) : wP (mW w f) = wP w := rfl
theorem mW_s (w : wdT) (f : Nat → Int32) (k : Nat) (x : Int32) : sI (mW w f) 4 0 1 0 k x = mW w (fu f k x) := by
  unfold sI mW up5 fu
  refine Prod.ext ?_ rfl
  funext a b c d e
  show (if a = 4 ∧ b = 0 ∧ c = 1 ∧ d = 0 ∧ e = k then x else if a = 4 ∧ b = 0 ∧ c = 1 ∧ d = 0 then f e else w.1 a b c d e) = if a = 4 ∧ b = 0 ∧ c = 1 ∧ d = 0 then (if e = k then x else f e) else w.1 a b c d e
  by_cases h : a = 4 ∧ b = 0 ∧ c = 1 ∧ d = 0
  · rw [if_pos h, if_pos h]
    by_cases he : e = k
    · rw [if_pos he, if_pos ⟨h.1, h.2.1, h.2.2.1, h.2.2.2, he⟩]
    · rw [if_neg he, if_neg (fun z => he z.2.2.2.2)]
  · rw [if_neg h, if_neg h, if_neg (fun z => h ⟨z.1, z.2.1, z.2.2.1, z.2.2.2.1⟩)]
theorem mW_o (w : wdT) (f : Nat → Int32) {r k i : Nat} (h : r ≠ 1) (x : Int32) : sI (mW w f) 4 0 r k i x = mW (sI w 4 0 r k i x) f := by
  unfold sI mW up5
  refine Prod.ext ?_ rfl
  funext a b c d e
  show (if a = 4 ∧ b = 0 ∧ c = r ∧ d = k ∧ e = i then x else if a = 4 ∧ b = 0 ∧ c = 1 ∧ d = 0 then f e else w.1 a b c d e) = if a = 4 ∧ b = 0 ∧ c = 1 ∧ d = 0 then f e else (if a = 4 ∧ b = 0 ∧ c = r ∧ d = k ∧ e = i then x else w.1 a b c d e)
  by_cases h1 : a = 4 ∧ b = 0 ∧ c = 1 ∧ d = 0
  · rw [if_pos h1, if_pos h1, if_neg (by omega)]
  · rw [if_neg h1, if_neg h1]
theorem mW_0 (w : wdT) (f : Nat → Int32) (k i : Nat) (x : Int32) : sI (mW w f) 4 0 0 k i x = mW (sI w 4 0 0 k i x) f := mW_o w f (by decide) x
theorem mW_mW (w : wdT) (f g : Nat → Int32) : mW (mW w f) g = mW w g := by
  unfold mW
  refine Prod.ext ?_ rfl
  funext a b c d e
  show (if a = 4 ∧ b = 0 ∧ c = 1 ∧ d = 0 then g e else if a = 4 ∧ b = 0 ∧ c = 1 ∧ d = 0 then f e else w.1 a b c d e) = if a = 4 ∧ b = 0 ∧ c = 1 ∧ d = 0 then g e else w.1 a b c d e
  split <;> rfl
section MOD
variable {F : gT} {pc : Nat} {lv : lvT} {st : List Value} {kc ks : Nat} {cc : ByteArray} {own : String} {nL : Nat} {rm : Room} {E : gE} {B : bsT} {N : nwT} {w : wdT} {f : Nat → Int32}
theorem gs_md (hF : Fb F cc own nL rm) (hE : va_K E.1 vwCl E.2.1 (gs F)) (hT : E.2.1.map Prod.snd = atyL) {q : Nat} {x : Int32} (hd : decode cc pc = .ok (.iaload, 1)) (ho : N.1 4 0 = true) (hx : x = nI q) (hq : q < 3300)
    (kk : Go F (pc + 1) lv (.int (f q) :: st) (gw E B N (mW w f)) kc ks) : Go F pc lv (.int x :: .ref (ad B 4 0 1 0) :: st) (gw E B N (mW w f)) kc ks := by
  refine gs_iald hF hE hT hd ho rfl rfl hx hq (by decide) ?_
  rw [mW_r]
  exact kk
theorem gs_ms (hF : Fb F cc own nL rm) (hE : va_K E.1 vwCl E.2.1 (gs F)) (hT : E.2.1.map Prod.snd = atyL) (hlo : gLo F = E.2.2.size) {q : Nat} {x y : Int32} (hd : decode cc pc = .ok (.iastore, 1)) (ho : N.1 4 0 = true) (hx : x = nI q) (hq : q < 3300)
    (kk : Go F (pc + 1) lv st (gw E B N (mW w (fu f q y))) kc ks) : Go F pc lv (.int y :: .int x :: .ref (ad B 4 0 1 0) :: st) (gw E B N (mW w f)) kc ks := by
  refine gs_iast hF hE hT hlo hd ho rfl rfl hx hq (by decide) ?_
  rw [mW_s]
  exact kk
end MOD
theorem nI_mul (a b : Nat) : nI a * nI b = nI (a * b) := (Int32.ofNat_mul a b).symm
theorem ixN {x y : Int32} {n k : Nat} (hx : x = nI n) (hy : y = nI k) : 10 + 10 * x + y = nI (10 + 10 * n + k) := by
  subst hx hy
  rw [show (10 : Int32) = nI 10 from rfl, nI_mul, nI_add, nI_add]
theorem ixG {x y : Int32} {n k : Nat} (hx : x = nI n) (hy : y = nI k) : 250 + 14 * x + y = nI (250 + 14 * n + k) := by
  subst hx hy
  rw [show (250 : Int32) = nI 250 from rfl, show (14 : Int32) = nI 14 from rfl, nI_mul, nI_add, nI_add]
theorem ixC {x : Int32} {a b n : Nat} (hx : x = nI n) : nI a + nI b * x = nI (a + b * n) := by
  subst hx
  rw [nI_mul, nI_add]
theorem ix1 {x : Int32} {n k : Nat} (hx : x = nI n) : x + nI k = nI (n + k) := by
  subst hx
  rw [nI_add]

set_option maxHeartbeats 4000000 in
set_option maxRecDepth 100000 in
theorem con_Mo_thrown {l : Launch} (hlt : l.stackTraces = false) {E : gE} {B : bsT} {N : nwT} {w : wdT} {f : Nat → Int32} (h4 : N.1 4 0 = true)  : Con l E y_Mo_thrown (Cond.code y_Mo_thrown c_Mo_thrown 1 (some .int) :: gAll) rm_Mo_thrown [.ref (ad B 4 0 0 0)] (gw E B N (mW w f)) (fun v H => v = some (.int (wI w 4 0 0 0 0)) ∧ gw E B N (mW w f) H) (fun _ _ => False) 0 0 := by
  refine con_of (by decide) hlt (Nat.le_of_ble_eq_true rfl) ?_
  intro F hF hM htab hnm hE hlo hl
  subst hl
  have hF : Fb F c_Mo_thrown R_Mo 1 rm_Mo_thrown := hF
  have hK := hE.1
  have hT := hE.2.1
  refine go_lv (lv' := [(0, _)]) ⟨rfl, trivial⟩ ?_
  refine go_aload_n hF d_Mo_thrown_0 rfl ?_
  refine gs_geti hF hK d_Mo_thrown_1 fl_Mo_28 h4 rfl rfl (by decide) rfl ?_
  exact go_iret hF hM d_Mo_thrown_4 (by decide) (by decide) (fun H hG => ⟨rfl, hG⟩)
set_option maxHeartbeats 4000000 in
set_option maxRecDepth 100000 in
theorem con_Mo_ofNet {l : Launch} (hlt : l.stackTraces = false) {E : gE} {B : bsT} {N : nwT} {w : wdT} {f : Nat → Int32} (h4 : N.1 4 0 = true) {x y : Int32} {n k : Nat} (hx : x = nI n) (hn : n < 24) (hy : y = nI k) (hk : k < 10) : Con l E y_Mo_ofNet (Cond.code y_Mo_ofNet c_Mo_ofNet 3 (some .int) :: gAll) rm_Mo_ofNet [.ref (ad B 4 0 0 0), .int x, .int y] (gw E B N (mW w f)) (fun v H => v = some (.int (f (10 + 10 * n + k))) ∧ gw E B N (mW w f) H) (fun _ _ => False) 0 0 := by
  refine con_of (by decide) hlt (Nat.le_of_ble_eq_true rfl) ?_
  intro F hF hM htab hnm hE hlo hl
  subst hl
  have hF : Fb F c_Mo_ofNet R_Mo 3 rm_Mo_ofNet := hF
  have hK := hE.1
  have hT := hE.2.1
  refine go_lv (lv' := [(0, _), (1, _), (2, _)]) ⟨rfl, rfl, rfl, trivial⟩ ?_
  refine go_aload_n hF d_Mo_ofNet_0 rfl ?_
  refine gs_getr hF hK d_Mo_ofNet_1 fl_Mo_7 h4 rfl rfl (by decide) rfl ?_
  refine go_bipush (v := 10) hF d_Mo_ofNet_4 (by decide) ?_
  refine go_bipush (v := 10) hF d_Mo_ofNet_6 (by decide) ?_
  refine go_iload_n hF d_Mo_ofNet_8 rfl ?_
  refine go_imul hF d_Mo_ofNet_9 ?_
  refine go_iadd hF d_Mo_ofNet_10 ?_
  refine go_iload_n hF d_Mo_ofNet_11 rfl ?_
  refine go_iadd hF d_Mo_ofNet_12 ?_
  refine gs_md hF hK hT d_Mo_ofNet_13 h4 (ixN hx hy) (by omega) ?_
  exact go_iret hF hM d_Mo_ofNet_14 (by decide) (by decide) (fun H hG => ⟨rfl, hG⟩)
set_option maxHeartbeats 4000000 in
set_option maxRecDepth 100000 in
theorem con_Mo_ofGate {l : Launch} (hlt : l.stackTraces = false) {E : gE} {B : bsT} {N : nwT} {w : wdT} {f : Nat → Int32} (h4 : N.1 4 0 = true) {x y : Int32} {n k : Nat} (hx : x = nI n) (hn : n < 32) (hy : y = nI k) (hk : k < 14) : Con l E y_Mo_ofGate (Cond.code y_Mo_ofGate c_Mo_ofGate 3 (some .int) :: gAll) rm_Mo_ofGate [.ref (ad B 4 0 0 0), .int x, .int y] (gw E B N (mW w f)) (fun v H => v = some (.int (f (250 + 14 * n + k))) ∧ gw E B N (mW w f) H) (fun _ _ => False) 0 0 := by
  refine con_of (by decide) hlt (Nat.le_of_ble_eq_true rfl) ?_
  intro F hF hM htab hnm hE hlo hl
  subst hl
  have hF : Fb F c_Mo_ofGate R_Mo 3 rm_Mo_ofGate := hF
  have hK := hE.1
  have hT := hE.2.1
  refine go_lv (lv' := [(0, _), (1, _), (2, _)]) ⟨rfl, rfl, rfl, trivial⟩ ?_
  refine go_aload_n hF d_Mo_ofGate_0 rfl ?_
  refine gs_getr hF hK d_Mo_ofGate_1 fl_Mo_7 h4 rfl rfl (by decide) rfl ?_
  refine go_sipush (v := 250) hF d_Mo_ofGate_4 (by decide) ?_
  refine go_bipush (v := 14) hF d_Mo_ofGate_7 (by decide) ?_
  refine go_iload_n hF d_Mo_ofGate_9 rfl ?_
  refine go_imul hF d_Mo_ofGate_10 ?_
  refine go_iadd hF d_Mo_ofGate_11 ?_
  refine go_iload_n hF d_Mo_ofGate_12 rfl ?_
  refine go_iadd hF d_Mo_ofGate_13 ?_
  refine gs_md hF hK hT d_Mo_ofGate_14 h4 (ixG hx hy) (by omega) ?_
  exact go_iret hF hM d_Mo_ofGate_15 (by decide) (by decide) (fun H hG => ⟨rfl, hG⟩)
set_option maxHeartbeats 4000000 in
set_option maxRecDepth 100000 in
theorem con_Mo_setGate {l : Launch} (hlt : l.stackTraces = false) {E : gE} {B : bsT} {N : nwT} {w : wdT} {f : Nat → Int32} (h4 : N.1 4 0 = true) {x y : Int32} {n k : Nat} (hx : x = nI n) (hn : n < 32) (hy : y = nI k) (hk : k < 14) (z : Int32) : Con l E y_Mo_setGate (Cond.code y_Mo_setGate c_Mo_setGate 4 none :: gAll) rm_Mo_setGate [.ref (ad B 4 0 0 0), .int x, .int y, .int z] (gw E B N (mW w f)) (fun v H => v = none ∧ gw E B N (mW w (fu f (250 + 14 * n + k) z)) H) (fun _ _ => False) 0 0 := by
  refine con_of (by decide) hlt (Nat.le_of_ble_eq_true rfl) ?_
  intro F hF hM htab hnm hE hlo hl
  subst hl
  have hF : Fb F c_Mo_setGate R_Mo 4 rm_Mo_setGate := hF
  have hK := hE.1
  have hT := hE.2.1
  refine go_lv (lv' := [(0, _), (1, _), (2, _), (3, _)]) ⟨rfl, rfl, rfl, rfl, trivial⟩ ?_
  refine go_aload_n hF d_Mo_setGate_0 rfl ?_
  refine gs_getr hF hK d_Mo_setGate_1 fl_Mo_7 h4 rfl rfl (by decide) rfl ?_
  refine go_sipush (v := 250) hF d_Mo_setGate_4 (by decide) ?_
  refine go_bipush (v := 14) hF d_Mo_setGate_7 (by decide) ?_
  refine go_iload_n hF d_Mo_setGate_9 rfl ?_
  refine go_imul hF d_Mo_setGate_10 ?_
  refine go_iadd hF d_Mo_setGate_11 ?_
  refine go_iload_n hF d_Mo_setGate_12 rfl ?_
  refine go_iadd hF d_Mo_setGate_13 ?_
  refine go_iload_n hF d_Mo_setGate_14 rfl ?_
  refine gs_ms hF hK hT hlo d_Mo_setGate_15 h4 (ixG hx hy) (by omega) ?_
  exact go_vret hF hM d_Mo_setGate_16 (by decide) (by decide) (fun H hG => ⟨rfl, hG⟩)
set_option maxHeartbeats 4000000 in
set_option maxRecDepth 100000 in
theorem con_Mo_setNet {l : Launch} (hlt : l.stackTraces = false) {E : gE} {B : bsT} {N : nwT} {w : wdT} {f : Nat → Int32} (h4 : N.1 4 0 = true) {x y : Int32} {n k : Nat} (hx : x = nI n) (hn : n < 24) (hy : y = nI k) (hk : k < 10) (z : Int32) : Con l E y_Mo_setNet (Cond.code y_Mo_setNet c_Mo_setNet 4 none :: gAll) rm_Mo_setNet [.ref (ad B 4 0 0 0), .int x, .int y, .int z] (gw E B N (mW w f)) (fun v H => v = none ∧ gw E B N (mW w (fu f (10 + 10 * n + k) z)) H) (fun _ _ => False) 0 0 := by
  refine con_of (by decide) hlt (Nat.le_of_ble_eq_true rfl) ?_
  intro F hF hM htab hnm hE hlo hl
  subst hl
  have hF : Fb F c_Mo_setNet R_Mo 4 rm_Mo_setNet := hF
  have hK := hE.1
  have hT := hE.2.1
  refine go_lv (lv' := [(0, _), (1, _), (2, _), (3, _)]) ⟨rfl, rfl, rfl, rfl, trivial⟩ ?_
  refine go_aload_n hF d_Mo_setNet_0 rfl ?_
  refine gs_getr hF hK d_Mo_setNet_1 fl_Mo_7 h4 rfl rfl (by decide) rfl ?_
  refine go_bipush (v := 10) hF d_Mo_setNet_4 (by decide) ?_
  refine go_bipush (v := 10) hF d_Mo_setNet_6 (by decide) ?_
  refine go_iload_n hF d_Mo_setNet_8 rfl ?_
  refine go_imul hF d_Mo_setNet_9 ?_
  refine go_iadd hF d_Mo_setNet_10 ?_
  refine go_iload_n hF d_Mo_setNet_11 rfl ?_
  refine go_iadd hF d_Mo_setNet_12 ?_
  refine go_iload_n hF d_Mo_setNet_13 rfl ?_
  refine gs_ms hF hK hT hlo d_Mo_setNet_14 h4 (ixN hx hy) (by omega) ?_
  exact go_vret hF hM d_Mo_setNet_15 (by decide) (by decide) (fun H hG => ⟨rfl, hG⟩)
set_option maxHeartbeats 4000000 in
set_option maxRecDepth 100000 in
theorem con_Mo_seen {l : Launch} (hlt : l.stackTraces = false) {E : gE} {B : bsT} {N : nwT} {w : wdT} {f : Nat → Int32} (h4 : N.1 4 0 = true) {x : Int32} {n : Nat} (hx : x = nI n) (hn : n < 24) : Con l E y_Mo_seen (Cond.code y_Mo_seen c_Mo_seen 3 (some .int) :: gAll) rm_Mo_seen [.ref (ad B 4 0 0 0), .int x] (gw E B N (mW w f)) (fun v H => v = some (.int (opn (f (10 + 10 * n + 0)))) ∧ gw E B N (mW w f) H) (fun _ _ => False) 0 0 := by
  refine con_of (by decide) hlt (Nat.le_of_ble_eq_true rfl) ?_
  intro F hF hM htab hnm hE hlo hl
  subst hl
  have hF : Fb F c_Mo_seen R_Mo 3 rm_Mo_seen := hF
  have hK := hE.1
  have hT := hE.2.1
  refine go_lv (lv' := [(0, _), (1, _)]) ⟨rfl, rfl, trivial⟩ ?_
  refine go_aload_n hF d_Mo_seen_0 rfl ?_
  refine go_iload_n hF d_Mo_seen_1 rfl ?_
  refine go_iconst (v := 0) hF d_Mo_seen_2 (by decide) ?_
  refine go_callVX hF hE hlo d_Mo_seen_3 (con_Mo_ofNet hlt h4 (k := 0) hx hn rfl (by decide)) mt_Mo_ofNet mv_Mo_ofNet lk_Mo_32 ⟨rfl, rfl, by decide, by decide⟩ rfl (Nat.le_of_ble_eq_true rfl) ⟨by decide, by decide⟩ (fun H hG => gw_recv (q := (R_Mo, T_Mo, 9)) hK hG h4 rfl rfl (by decide) rfl) (fun M => gx_no) rfl (fun v => ?_)
  refine go_and (fun hv => ?_)
  subst hv
  refine go_istore_n hF d_Mo_seen_6 (by decide) ?_
  refine go_lv (lv' := [(0, _), (1, _), (2, _)]) ⟨rfl, rfl, rfl, trivial⟩ ?_
  refine go_iload_n hF d_Mo_seen_7 rfl ?_
  refine go_iconst (v := 3) hF d_Mo_seen_8 (by decide) ?_
  refine go_icmp_ne (tgt := 16) hF d_Mo_seen_9 (by decide) (fun h9 => ?_) (fun h9 => ?_)
  · refine go_iload_n hF d_Mo_seen_16 rfl ?_
    exact go_iret hF hM d_Mo_seen_17 (by decide) (by decide) (fun H hG => ⟨by unfold opn; split <;> first | rfl | (exfalso; contradiction), hG⟩)
  · refine go_iconst (v := 2) hF d_Mo_seen_12 (by decide) ?_
    refine go_goto (tgt := 17) hF d_Mo_seen_13 (by decide) ?_
    exact go_iret hF hM d_Mo_seen_17 (by decide) (by decide) (fun H hG => ⟨by unfold opn; split <;> first | rfl | (exfalso; contradiction), hG⟩)
set_option maxHeartbeats 4000000 in
set_option maxRecDepth 100000 in
theorem con_Mo_gives {l : Launch} (hlt : l.stackTraces = false) {E : gE} {B : bsT} {N : nwT} {w : wdT} {f : Nat → Int32} (h4 : N.1 4 0 = true) {x : Int32} {g : Nat} (hx : x = nI g) (hg : g < 32) (ha : vn (f (250 + 14 * g + 1)) 24) (hb : vn (f (250 + 14 * g + 2)) 24) : Con l E y_Mo_gives (Cond.code y_Mo_gives c_Mo_gives 5 (some .int) :: gAll) rm_Mo_gives [.ref (ad B 4 0 0 0), .int x] (gw E B N (mW w f)) (fun v H => v = some (.int (gvF f g)) ∧ gw E B N (mW w f) H) (fun _ _ => False) 0 0 := by
  refine con_of (by decide) hlt (Nat.le_of_ble_eq_true rfl) ?_
  intro F hF hM htab hnm hE hlo hl
  subst hl
  have hF : Fb F c_Mo_gives R_Mo 5 rm_Mo_gives := hF
  have hK := hE.1
  have hT := hE.2.1
  refine go_lv (lv' := [(0, _), (1, _)]) ⟨rfl, rfl, trivial⟩ ?_
  refine go_aload_n hF d_Mo_gives_0 rfl ?_
  refine go_aload_n hF d_Mo_gives_1 rfl ?_
  refine go_iload_n hF d_Mo_gives_2 rfl ?_
  refine go_iconst (v := 1) hF d_Mo_gives_3 (by decide) ?_
  refine go_callVX hF hE hlo d_Mo_gives_4 (con_Mo_ofGate hlt h4 (k := 1) hx hg rfl (by decide)) mt_Mo_ofGate mv_Mo_ofGate lk_Mo_36 ⟨rfl, rfl, by decide, by decide⟩ rfl (Nat.le_of_ble_eq_true rfl) ⟨by decide, by decide⟩ (fun H hG => gw_recv (q := (R_Mo, T_Mo, 9)) hK hG h4 rfl rfl (by decide) rfl) (fun M => gx_no) rfl (fun v => ?_)
  refine go_and (fun hv => ?_)
  subst hv
  refine go_callVX hF hE hlo d_Mo_gives_7 (con_Mo_seen hlt h4 ha.1 ha.2) mt_Mo_seen mv_Mo_seen lk_Mo_39 ⟨rfl, rfl, by decide, by decide⟩ rfl (Nat.le_of_ble_eq_true rfl) ⟨by decide, by decide⟩ (fun H hG => gw_recv (q := (R_Mo, T_Mo, 9)) hK hG h4 rfl rfl (by decide) rfl) (fun M => gx_no) rfl (fun v => ?_)
  refine go_and (fun hv => ?_)
  subst hv
  refine go_istore_n hF d_Mo_gives_10 (by decide) ?_
  refine go_lv (lv' := [(0, _), (1, _), (2, _)]) ⟨rfl, rfl, rfl, trivial⟩ ?_
  refine go_aload_n hF d_Mo_gives_11 rfl ?_
  refine go_aload_n hF d_Mo_gives_12 rfl ?_
  refine go_iload_n hF d_Mo_gives_13 rfl ?_
  refine go_iconst (v := 2) hF d_Mo_gives_14 (by decide) ?_
  refine go_callVX hF hE hlo d_Mo_gives_15 (con_Mo_ofGate hlt h4 (k := 2) hx hg rfl (by decide)) mt_Mo_ofGate mv_Mo_ofGate lk_Mo_36 ⟨rfl, rfl, by decide, by decide⟩ rfl (Nat.le_of_ble_eq_true rfl) ⟨by decide, by decide⟩ (fun H hG => gw_recv (q := (R_Mo, T_Mo, 9)) hK hG h4 rfl rfl (by decide) rfl) (fun M => gx_no) rfl (fun v => ?_)
  refine go_and (fun hv => ?_)
  subst hv
  refine go_callVX hF hE hlo d_Mo_gives_18 (con_Mo_seen hlt h4 hb.1 hb.2) mt_Mo_seen mv_Mo_seen lk_Mo_39 ⟨rfl, rfl, by decide, by decide⟩ rfl (Nat.le_of_ble_eq_true rfl) ⟨by decide, by decide⟩ (fun H hG => gw_recv (q := (R_Mo, T_Mo, 9)) hK hG h4 rfl rfl (by decide) rfl) (fun M => gx_no) rfl (fun v => ?_)
  refine go_and (fun hv => ?_)
  subst hv
  refine go_istore_n hF d_Mo_gives_21 (by decide) ?_
  refine go_lv (lv' := [(0, _), (1, _), (2, _), (3, _)]) ⟨rfl, rfl, rfl, rfl, trivial⟩ ?_
  refine go_aload_n hF d_Mo_gives_22 rfl ?_
  refine go_iload_n hF d_Mo_gives_23 rfl ?_
  refine go_bipush (v := 6) hF d_Mo_gives_24 (by decide) ?_
  refine go_callVX hF hE hlo d_Mo_gives_26 (con_Mo_ofGate hlt h4 (k := 6) hx hg rfl (by decide)) mt_Mo_ofGate mv_Mo_ofGate lk_Mo_36 ⟨rfl, rfl, by decide, by decide⟩ rfl (Nat.le_of_ble_eq_true rfl) ⟨by decide, by decide⟩ (fun H hG => gw_recv (q := (R_Mo, T_Mo, 9)) hK hG h4 rfl rfl (by decide) rfl) (fun M => gx_no) rfl (fun v => ?_)
  refine go_and (fun hv => ?_)
  subst hv
  refine go_istore hF d_Mo_gives_29 (by decide) ?_
  refine go_lv (lv' := [(0, _), (1, _), (2, _), (3, _), (4, _)]) ⟨rfl, rfl, rfl, rfl, rfl, trivial⟩ ?_
  refine go_aload_n hF d_Mo_gives_31 rfl ?_
  refine go_iload_n hF d_Mo_gives_32 rfl ?_
  refine go_iconst (v := 0) hF d_Mo_gives_33 (by decide) ?_
  refine go_callVX hF hE hlo d_Mo_gives_34 (con_Mo_ofGate hlt h4 (k := 0) hx hg rfl (by decide)) mt_Mo_ofGate mv_Mo_ofGate lk_Mo_36 ⟨rfl, rfl, by decide, by decide⟩ rfl (Nat.le_of_ble_eq_true rfl) ⟨by decide, by decide⟩ (fun H hG => gw_recv (q := (R_Mo, T_Mo, 9)) hK hG h4 rfl rfl (by decide) rfl) (fun M => gx_no) rfl (fun v => ?_)
  refine go_and (fun hv => ?_)
  subst hv
  refine go_topi (fun x37 hx37 => ?_)
  by_cases e37_1 : x37 = 1
  · rw [e37_1]
    refine go_tableIn (off := 39) (tgt := 76) hF d_Mo_gives_37 (by decide) (by decide) (by decide) (by decide) ?_
    refine go_iload_n hF d_Mo_gives_76 rfl ?_
    refine go_iconst (v := 2) hF d_Mo_gives_77 (by decide) ?_
    refine go_icmp_ne (tgt := 85) hF d_Mo_gives_78 (by decide) (fun h78 => ?_) (fun h78 => ?_)
    · refine go_iconst (v := 1) hF d_Mo_gives_85 (by decide) ?_
      refine go_iload_n hF d_Mo_gives_86 rfl ?_
      refine go_isub hF d_Mo_gives_87 ?_
      exact go_iret hF hM d_Mo_gives_88 (by decide) (by decide) (fun H hG => ⟨by clear hG; clear hF hM hE hK hT hlo htab hnm; unfold gvF gvs nz; simp_all, hG⟩)
    · refine go_iconst (v := 2) hF d_Mo_gives_81 (by decide) ?_
      refine go_goto (tgt := 88) hF d_Mo_gives_82 (by decide) ?_
      exact go_iret hF hM d_Mo_gives_88 (by decide) (by decide) (fun H hG => ⟨by clear hG; clear hF hM hE hK hT hlo htab hnm; unfold gvF gvs nz; simp_all, hG⟩)
  by_cases e37_2 : x37 = 2
  · rw [e37_2]
    refine go_tableIn (off := 52) (tgt := 89) hF d_Mo_gives_37 (by decide) (by decide) (by decide) (by decide) ?_
    refine go_iload_n hF d_Mo_gives_89 rfl ?_
    refine go_if_eq (tgt := 97) hF d_Mo_gives_90 (by decide) (fun h90 => ?_) (fun h90 => ?_)
    · refine go_iconst (v := 0) hF d_Mo_gives_97 (by decide) ?_
      refine go_goto (tgt := 116) hF d_Mo_gives_98 (by decide) ?_
      exact go_iret hF hM d_Mo_gives_116 (by decide) (by decide) (fun H hG => ⟨by clear hG; clear hF hM hE hK hT hlo htab hnm; unfold gvF gvs nz; simp_all, hG⟩)
    · refine go_iload_n hF d_Mo_gives_93 rfl ?_
      refine go_if_ne (tgt := 101) hF d_Mo_gives_94 (by decide) (fun h94 => ?_) (fun h94 => ?_)
      · refine go_iload_n hF d_Mo_gives_101 rfl ?_
        refine go_iconst (v := 1) hF d_Mo_gives_102 (by decide) ?_
        refine go_icmp_ne (tgt := 115) hF d_Mo_gives_103 (by decide) (fun h103 => ?_) (fun h103 => ?_)
        · refine go_iconst (v := 2) hF d_Mo_gives_115 (by decide) ?_
          exact go_iret hF hM d_Mo_gives_116 (by decide) (by decide) (fun H hG => ⟨by clear hG; clear hF hM hE hK hT hlo htab hnm; unfold gvF gvs nz; simp_all, hG⟩)
        · refine go_iload_n hF d_Mo_gives_106 rfl ?_
          refine go_iconst (v := 1) hF d_Mo_gives_107 (by decide) ?_
          refine go_icmp_ne (tgt := 115) hF d_Mo_gives_108 (by decide) (fun h108 => ?_) (fun h108 => ?_)
          · refine go_iconst (v := 2) hF d_Mo_gives_115 (by decide) ?_
            exact go_iret hF hM d_Mo_gives_116 (by decide) (by decide) (fun H hG => ⟨by clear hG; clear hF hM hE hK hT hlo htab hnm; unfold gvF gvs nz; simp_all, hG⟩)
          · refine go_iconst (v := 1) hF d_Mo_gives_111 (by decide) ?_
            refine go_goto (tgt := 116) hF d_Mo_gives_112 (by decide) ?_
            exact go_iret hF hM d_Mo_gives_116 (by decide) (by decide) (fun H hG => ⟨by clear hG; clear hF hM hE hK hT hlo htab hnm; unfold gvF gvs nz; simp_all, hG⟩)
      · refine go_iconst (v := 0) hF d_Mo_gives_97 (by decide) ?_
        refine go_goto (tgt := 116) hF d_Mo_gives_98 (by decide) ?_
        exact go_iret hF hM d_Mo_gives_116 (by decide) (by decide) (fun H hG => ⟨by clear hG; clear hF hM hE hK hT hlo htab hnm; unfold gvF gvs nz; simp_all, hG⟩)
  by_cases e37_3 : x37 = 3
  · rw [e37_3]
    refine go_tableIn (off := 80) (tgt := 117) hF d_Mo_gives_37 (by decide) (by decide) (by decide) (by decide) ?_
    refine go_iload_n hF d_Mo_gives_117 rfl ?_
    refine go_iconst (v := 1) hF d_Mo_gives_118 (by decide) ?_
    refine go_icmp_eq (tgt := 127) hF d_Mo_gives_119 (by decide) (fun h119 => ?_) (fun h119 => ?_)
    · refine go_iconst (v := 1) hF d_Mo_gives_127 (by decide) ?_
      refine go_goto (tgt := 144) hF d_Mo_gives_128 (by decide) ?_
      exact go_iret hF hM d_Mo_gives_144 (by decide) (by decide) (fun H hG => ⟨by clear hG; clear hF hM hE hK hT hlo htab hnm; unfold gvF gvs nz; simp_all, hG⟩)
    · refine go_iload_n hF d_Mo_gives_122 rfl ?_
      refine go_iconst (v := 1) hF d_Mo_gives_123 (by decide) ?_
      refine go_icmp_ne (tgt := 131) hF d_Mo_gives_124 (by decide) (fun h124 => ?_) (fun h124 => ?_)
      · refine go_iload_n hF d_Mo_gives_131 rfl ?_
        refine go_if_ne (tgt := 143) hF d_Mo_gives_132 (by decide) (fun h132 => ?_) (fun h132 => ?_)
        · refine go_iconst (v := 2) hF d_Mo_gives_143 (by decide) ?_
          exact go_iret hF hM d_Mo_gives_144 (by decide) (by decide) (fun H hG => ⟨by clear hG; clear hF hM hE hK hT hlo htab hnm; unfold gvF gvs nz; simp_all, hG⟩)
        · refine go_iload_n hF d_Mo_gives_135 rfl ?_
          refine go_if_ne (tgt := 143) hF d_Mo_gives_136 (by decide) (fun h136 => ?_) (fun h136 => ?_)
          · refine go_iconst (v := 2) hF d_Mo_gives_143 (by decide) ?_
            exact go_iret hF hM d_Mo_gives_144 (by decide) (by decide) (fun H hG => ⟨by clear hG; clear hF hM hE hK hT hlo htab hnm; unfold gvF gvs nz; simp_all, hG⟩)
          · refine go_iconst (v := 0) hF d_Mo_gives_139 (by decide) ?_
            refine go_goto (tgt := 144) hF d_Mo_gives_140 (by decide) ?_
            exact go_iret hF hM d_Mo_gives_144 (by decide) (by decide) (fun H hG => ⟨by clear hG; clear hF hM hE hK hT hlo htab hnm; unfold gvF gvs nz; simp_all, hG⟩)
      · refine go_iconst (v := 1) hF d_Mo_gives_127 (by decide) ?_
        refine go_goto (tgt := 144) hF d_Mo_gives_128 (by decide) ?_
        exact go_iret hF hM d_Mo_gives_144 (by decide) (by decide) (fun H hG => ⟨by clear hG; clear hF hM hE hK hT hlo htab hnm; unfold gvF gvs nz; simp_all, hG⟩)
  by_cases e37_4 : x37 = 4
  · rw [e37_4]
    refine go_tableIn (off := 108) (tgt := 145) hF d_Mo_gives_37 (by decide) (by decide) (by decide) (by decide) ?_
    refine go_iload_n hF d_Mo_gives_145 rfl ?_
    refine go_iconst (v := 2) hF d_Mo_gives_146 (by decide) ?_
    refine go_icmp_eq (tgt := 155) hF d_Mo_gives_147 (by decide) (fun h147 => ?_) (fun h147 => ?_)
    · refine go_iconst (v := 2) hF d_Mo_gives_155 (by decide) ?_
      refine go_goto (tgt := 169) hF d_Mo_gives_156 (by decide) ?_
      exact go_iret hF hM d_Mo_gives_169 (by decide) (by decide) (fun H hG => ⟨by clear hG; clear hF hM hE hK hT hlo htab hnm; unfold gvF gvs nz; simp_all, hG⟩)
    · refine go_iload_n hF d_Mo_gives_150 rfl ?_
      refine go_iconst (v := 2) hF d_Mo_gives_151 (by decide) ?_
      refine go_icmp_ne (tgt := 159) hF d_Mo_gives_152 (by decide) (fun h152 => ?_) (fun h152 => ?_)
      · refine go_iload_n hF d_Mo_gives_159 rfl ?_
        refine go_iload_n hF d_Mo_gives_160 rfl ?_
        refine go_icmp_ne (tgt := 168) hF d_Mo_gives_161 (by decide) (fun h161 => ?_) (fun h161 => ?_)
        · refine go_iconst (v := 1) hF d_Mo_gives_168 (by decide) ?_
          exact go_iret hF hM d_Mo_gives_169 (by decide) (by decide) (fun H hG => ⟨by clear hG; clear hF hM hE hK hT hlo htab hnm; unfold gvF gvs nz; simp_all, hG⟩)
        · refine go_iconst (v := 0) hF d_Mo_gives_164 (by decide) ?_
          refine go_goto (tgt := 169) hF d_Mo_gives_165 (by decide) ?_
          exact go_iret hF hM d_Mo_gives_169 (by decide) (by decide) (fun H hG => ⟨by clear hG; clear hF hM hE hK hT hlo htab hnm; unfold gvF gvs nz; simp_all, hG⟩)
      · refine go_iconst (v := 2) hF d_Mo_gives_155 (by decide) ?_
        refine go_goto (tgt := 169) hF d_Mo_gives_156 (by decide) ?_
        exact go_iret hF hM d_Mo_gives_169 (by decide) (by decide) (fun H hG => ⟨by clear hG; clear hF hM hE hK hT hlo htab hnm; unfold gvF gvs nz; simp_all, hG⟩)
  by_cases e37_5 : x37 = 5
  · rw [e37_5]
    refine go_tableIn (off := 133) (tgt := 170) hF d_Mo_gives_37 (by decide) (by decide) (by decide) (by decide) ?_
    refine go_iload_n hF d_Mo_gives_170 rfl ?_
    refine go_iconst (v := 1) hF d_Mo_gives_171 (by decide) ?_
    refine go_icmp_ne (tgt := 179) hF d_Mo_gives_172 (by decide) (fun h172 => ?_) (fun h172 => ?_)
    · refine go_iload_n hF d_Mo_gives_179 rfl ?_
      refine go_if_ne (tgt := 187) hF d_Mo_gives_180 (by decide) (fun h180 => ?_) (fun h180 => ?_)
      · refine go_iconst (v := 2) hF d_Mo_gives_187 (by decide) ?_
        exact go_iret hF hM d_Mo_gives_188 (by decide) (by decide) (fun H hG => ⟨by clear hG; clear hF hM hE hK hT hlo htab hnm; unfold gvF gvs nz; simp_all, hG⟩)
      · refine go_iconst (v := 3) hF d_Mo_gives_183 (by decide) ?_
        refine go_goto (tgt := 188) hF d_Mo_gives_184 (by decide) ?_
        exact go_iret hF hM d_Mo_gives_188 (by decide) (by decide) (fun H hG => ⟨by clear hG; clear hF hM hE hK hT hlo htab hnm; unfold gvF gvs nz; simp_all, hG⟩)
    · refine go_iload_n hF d_Mo_gives_175 rfl ?_
      refine go_goto (tgt := 188) hF d_Mo_gives_176 (by decide) ?_
      exact go_iret hF hM d_Mo_gives_188 (by decide) (by decide) (fun H hG => ⟨by clear hG; clear hF hM hE hK hT hlo htab hnm; unfold gvF gvs nz; simp_all, hG⟩)
  by_cases e37_6 : x37 = 6
  · rw [e37_6]
    refine go_tableIn (off := 152) (tgt := 189) hF d_Mo_gives_37 (by decide) (by decide) (by decide) (by decide) ?_
    refine go_iload_n hF d_Mo_gives_189 rfl ?_
    refine go_iconst (v := 1) hF d_Mo_gives_190 (by decide) ?_
    refine go_icmp_ne (tgt := 198) hF d_Mo_gives_191 (by decide) (fun h191 => ?_) (fun h191 => ?_)
    · refine go_iload_n hF d_Mo_gives_198 rfl ?_
      refine go_if_eq (tgt := 208) hF d_Mo_gives_199 (by decide) (fun h199 => ?_) (fun h199 => ?_)
      · refine go_iload hF d_Mo_gives_208 rfl ?_
        refine go_goto (tgt := 214) hF d_Mo_gives_210 (by decide) ?_
        exact go_iret hF hM d_Mo_gives_214 (by decide) (by decide) (fun H hG => ⟨by clear hG; clear hF hM hE hK hT hlo htab hnm; unfold gvF gvs nz; simp_all, hG⟩)
      · refine go_iload hF d_Mo_gives_202 rfl ?_
        refine go_iload_n hF d_Mo_gives_204 rfl ?_
        refine go_icmp_ne (tgt := 213) hF d_Mo_gives_205 (by decide) (fun h205 => ?_) (fun h205 => ?_)
        · refine go_iconst (v := 2) hF d_Mo_gives_213 (by decide) ?_
          exact go_iret hF hM d_Mo_gives_214 (by decide) (by decide) (fun H hG => ⟨by clear hG; clear hF hM hE hK hT hlo htab hnm; unfold gvF gvs nz; simp_all, hG⟩)
        · refine go_iload hF d_Mo_gives_208 rfl ?_
          refine go_goto (tgt := 214) hF d_Mo_gives_210 (by decide) ?_
          exact go_iret hF hM d_Mo_gives_214 (by decide) (by decide) (fun H hG => ⟨by clear hG; clear hF hM hE hK hT hlo htab hnm; unfold gvF gvs nz; simp_all, hG⟩)
    · refine go_iload_n hF d_Mo_gives_194 rfl ?_
      refine go_goto (tgt := 214) hF d_Mo_gives_195 (by decide) ?_
      exact go_iret hF hM d_Mo_gives_214 (by decide) (by decide) (fun H hG => ⟨by clear hG; clear hF hM hE hK hT hlo htab hnm; unfold gvF gvs nz; simp_all, hG⟩)
  refine go_tableOut (tgt := 215) hF d_Mo_gives_37 (tsw_out (fun c h1 h2 => by
    rcases (show c = 1 ∨ c = 2 ∨ c = 3 ∨ c = 4 ∨ c = 5 ∨ c = 6 by omega) with rfl | rfl | rfl | rfl | rfl | rfl
    · exact e37_1
    · exact e37_2
    · exact e37_3
    · exact e37_4
    · exact e37_5
    · exact e37_6)) (by decide) ?_
  refine go_iload_n hF d_Mo_gives_215 rfl ?_
  exact go_iret hF hM d_Mo_gives_216 (by decide) (by decide) (fun H hG => ⟨by clear hG; clear hF hM hE hK hT hlo htab hnm; unfold gvF gvs nz; simp_all, hG⟩)
theorem dly_M {r s v : Int32} (h0 : ¬ v = 0) (h1 : ¬ v = 1) (h2 : ¬ v = 2) : r + s - (if r < s then r else s) = dly r s v := by
  unfold dly
  rw [if_neg h0, if_neg h1, if_neg h2]
  by_cases h : r < s
  · rw [if_pos h, if_pos h, Int32.add_comm, Int32.add_sub_cancel]
  · rw [if_neg h, if_neg h, Int32.add_sub_cancel]
theorem dly_m {r s : Int32} : (if r < s then r else s) = if s < r then s else r := by
  by_cases h : r < s
  · rw [if_pos h, if_neg (fun z => Int32.lt_irrefl (Int32.lt_trans h z))]
  · rw [if_neg h]
    by_cases h2 : s < r
    · rw [if_pos h2]
    · rw [if_neg h2]
      rw [Int32.lt_iff_toInt_lt] at h h2
      exact Int32.toInt_inj.mp (by omega)
theorem dly_2 {r s : Int32} : (if r < s then r else s) = dly r s 2 := by
  unfold dly
  rw [if_neg (show ¬ (2 : Int32) = 0 by decide), if_neg (show ¬ (2 : Int32) = 1 by decide), if_pos (rfl : (2 : Int32) = 2)]
  exact dly_m
theorem nge_lt {x y : Int32} (h : ¬ y ≤ x) : x < y := nle_lt h
theorem ge_nlt {x y : Int32} (h : y ≤ x) : ¬ x < y := fun z => Int32.lt_irrefl (Int32.lt_of_lt_of_le z h)
set_option maxHeartbeats 4000000 in
set_option maxRecDepth 100000 in
theorem con_Mo_delayTo {l : Launch} (hlt : l.stackTraces = false) {E : gE} {B : bsT} {N : nwT} {w : wdT} {f : Nat → Int32} (h4 : N.1 4 0 = true) {x : Int32} {g : Nat} (hx : x = nI g) (hg : g < 32) (a : Int32) : Con l E y_Mo_delayTo (Cond.code y_Mo_delayTo c_Mo_delayTo 6 (some .int) :: gAll) rm_Mo_delayTo [.ref (ad B 4 0 0 0), .int x, .int a] (gw E B N (mW w f)) (fun v H => v = some (.int (dly (f (250 + 14 * g + 4)) (f (250 + 14 * g + 5)) a)) ∧ gw E B N (mW w f) H) (fun _ _ => False) 0 0 := by
  refine con_of (by decide) hlt (Nat.le_of_ble_eq_true rfl) ?_
  intro F hF hM htab hnm hE hlo hl
  subst hl
  have hF : Fb F c_Mo_delayTo R_Mo 6 rm_Mo_delayTo := hF
  have hK := hE.1
  have hT := hE.2.1
  refine go_lv (lv' := [(0, _), (1, _), (2, _)]) ⟨rfl, rfl, rfl, trivial⟩ ?_
  have J27 : ∀ (y : Int32), y = (if f (250 + 14 * g + 4) < f (250 + 14 * g + 5) then f (250 + 14 * g + 4) else f (250 + 14 * g + 5)) → Go F 27 [(0, .ref (ad B 4 0 0 0)), (1, .int x), (2, .int a), (3, .int (f (250 + 14 * g + 4))), (4, .int (f (250 + 14 * g + 5)))] [.int y] (gw E B N (mW w f)) 0 0 := by
    intro y j27_0
    refine go_istore hF d_Mo_delayTo_27 (by decide) ?_
    refine go_lv (lv' := [(0, _), (1, _), (2, _), (3, _), (4, _), (5, _)]) ⟨rfl, rfl, rfl, rfl, rfl, rfl, trivial⟩ ?_
    refine go_iload_n hF d_Mo_delayTo_29 rfl ?_
    refine go_iconst (v := 1) hF d_Mo_delayTo_30 (by decide) ?_
    refine go_icmp_ne (tgt := 38) hF d_Mo_delayTo_31 (by decide) (fun h31 => ?_) (fun h31 => ?_)
    · refine go_iload_n hF d_Mo_delayTo_38 rfl ?_
      refine go_if_ne (tgt := 47) hF d_Mo_delayTo_39 (by decide) (fun h39 => ?_) (fun h39 => ?_)
      · refine go_iload_n hF d_Mo_delayTo_47 rfl ?_
        refine go_iconst (v := 2) hF d_Mo_delayTo_48 (by decide) ?_
        refine go_icmp_ne (tgt := 57) hF d_Mo_delayTo_49 (by decide) (fun h49 => ?_) (fun h49 => ?_)
        · refine go_iload_n hF d_Mo_delayTo_57 rfl ?_
          refine go_iload hF d_Mo_delayTo_58 rfl ?_
          refine go_iadd hF d_Mo_delayTo_60 ?_
          refine go_iload hF d_Mo_delayTo_61 rfl ?_
          refine go_isub hF d_Mo_delayTo_63 ?_
          exact go_iret hF hM d_Mo_delayTo_64 (by decide) (by decide) (fun H hG => ⟨by first | (unfold dly; simp [j27_0, h31, h39, h49]; done) | (subst j27_0; rw [h49]; exact congrArg (fun z => some (Value.int z)) dly_2) | (subst j27_0; rw [dly_M (v := a) (by simpa using h39) (by simpa using h31) (by simpa using h49)]), hG⟩)
        · refine go_iload hF d_Mo_delayTo_52 rfl ?_
          refine go_goto (tgt := 64) hF d_Mo_delayTo_54 (by decide) ?_
          exact go_iret hF hM d_Mo_delayTo_64 (by decide) (by decide) (fun H hG => ⟨by first | (unfold dly; simp [j27_0, h31, h39, h49]; done) | (subst j27_0; rw [h49]; exact congrArg (fun z => some (Value.int z)) dly_2) | (subst j27_0; rw [dly_M (v := a) (by simpa using h39) (by simpa using h31) (by simpa using h49)]), hG⟩)
      · refine go_iload hF d_Mo_delayTo_42 rfl ?_
        refine go_goto (tgt := 64) hF d_Mo_delayTo_44 (by decide) ?_
        exact go_iret hF hM d_Mo_delayTo_64 (by decide) (by decide) (fun H hG => ⟨by first | (unfold dly; simp [j27_0, h31, h39]; done) | (subst j27_0; rw [h49]; exact congrArg (fun z => some (Value.int z)) dly_2) | (subst j27_0; rw [dly_M (v := a) (by simpa using h39) (by simpa using h31) (by simpa using h49)]), hG⟩)
    · refine go_iload_n hF d_Mo_delayTo_34 rfl ?_
      refine go_goto (tgt := 64) hF d_Mo_delayTo_35 (by decide) ?_
      exact go_iret hF hM d_Mo_delayTo_64 (by decide) (by decide) (fun H hG => ⟨by first | (unfold dly; simp [j27_0, h31]; done) | (subst j27_0; rw [h49]; exact congrArg (fun z => some (Value.int z)) dly_2) | (subst j27_0; rw [dly_M (v := a) (by simpa using h39) (by simpa using h31) (by simpa using h49)]), hG⟩)
  refine go_aload_n hF d_Mo_delayTo_0 rfl ?_
  refine go_iload_n hF d_Mo_delayTo_1 rfl ?_
  refine go_iconst (v := 4) hF d_Mo_delayTo_2 (by decide) ?_
  refine go_callVX hF hE hlo d_Mo_delayTo_3 (con_Mo_ofGate hlt h4 (k := 4) hx hg rfl (by decide)) mt_Mo_ofGate mv_Mo_ofGate lk_Mo_36 ⟨rfl, rfl, by decide, by decide⟩ rfl (Nat.le_of_ble_eq_true rfl) ⟨by decide, by decide⟩ (fun H hG => gw_recv (q := (R_Mo, T_Mo, 9)) hK hG h4 rfl rfl (by decide) rfl) (fun M => gx_no) rfl (fun v => ?_)
  refine go_and (fun hv => ?_)
  subst hv
  refine go_istore_n hF d_Mo_delayTo_6 (by decide) ?_
  refine go_lv (lv' := [(0, _), (1, _), (2, _), (3, _)]) ⟨rfl, rfl, rfl, rfl, trivial⟩ ?_
  refine go_aload_n hF d_Mo_delayTo_7 rfl ?_
  refine go_iload_n hF d_Mo_delayTo_8 rfl ?_
  refine go_iconst (v := 5) hF d_Mo_delayTo_9 (by decide) ?_
  refine go_callVX hF hE hlo d_Mo_delayTo_10 (con_Mo_ofGate hlt h4 (k := 5) hx hg rfl (by decide)) mt_Mo_ofGate mv_Mo_ofGate lk_Mo_36 ⟨rfl, rfl, by decide, by decide⟩ rfl (Nat.le_of_ble_eq_true rfl) ⟨by decide, by decide⟩ (fun H hG => gw_recv (q := (R_Mo, T_Mo, 9)) hK hG h4 rfl rfl (by decide) rfl) (fun M => gx_no) rfl (fun v => ?_)
  refine go_and (fun hv => ?_)
  subst hv
  refine go_istore hF d_Mo_delayTo_13 (by decide) ?_
  refine go_lv (lv' := [(0, _), (1, _), (2, _), (3, _), (4, _)]) ⟨rfl, rfl, rfl, rfl, rfl, trivial⟩ ?_
  refine go_iload_n hF d_Mo_delayTo_15 rfl ?_
  refine go_iload hF d_Mo_delayTo_16 rfl ?_
  refine go_icmp_ge (tgt := 25) hF d_Mo_delayTo_18 (by decide) (fun h18 => ?_) (fun h18 => ?_)
  · refine go_iload hF d_Mo_delayTo_25 rfl ?_
    exact J27 _ (by rw [if_neg (ge_nlt h18)])
  · refine go_iload_n hF d_Mo_delayTo_21 rfl ?_
    refine go_goto (tgt := 27) hF d_Mo_delayTo_22 (by decide) ?_
    exact J27 _ (by rw [if_pos (nge_lt h18)])
set_option maxHeartbeats 4000000 in
set_option maxRecDepth 100000 in
theorem con_Mo_near {l : Launch} (hlt : l.stackTraces = false) {E : gE} {B : bsT} {N : nwT} {w : wdT} {f : Nat → Int32} (h4 : N.1 4 0 = true) (x y : Int32) : Con l E y_Mo_near (Cond.code y_Mo_near c_Mo_near 3 (some .boolean) :: gAll) rm_Mo_near [.ref (ad B 4 0 0 0), .int x, .int y] (gw E B N (mW w f)) (fun v H => v = some (.int (bi (nrF f x y))) ∧ gw E B N (mW w f) H) (fun _ _ => False) 0 0 := by
  refine con_of (by decide) hlt (Nat.le_of_ble_eq_true rfl) ?_
  intro F hF hM htab hnm hE hlo hl
  subst hl
  have hF : Fb F c_Mo_near R_Mo 3 rm_Mo_near := hF
  have hK := hE.1
  have hT := hE.2.1
  refine go_lv (lv' := [(0, _), (1, _), (2, _)]) ⟨rfl, rfl, rfl, trivial⟩ ?_
  refine go_iload_n hF d_Mo_near_0 rfl ?_
  refine go_iconst (v := -1) hF d_Mo_near_1 (by decide) ?_
  refine go_icmp_eq (tgt := 21) hF d_Mo_near_2 (by decide) (fun h2 => ?_) (fun h2 => ?_)
  · refine go_iconst (v := 0) hF d_Mo_near_21 (by decide) ?_
    exact go_zret hF hM d_Mo_near_22 rfl (by decide) (by decide) (fun H hG => ⟨by clear hG; clear hF hM hE hK hT hlo htab hnm; unfold bi nrF; (try simp only [Int32.lt_iff_toInt_lt, Int32.le_iff_toInt_le, Int64.lt_iff_toInt_lt, Int64.le_iff_toInt_le, ← Int32.toInt_inj, ← Int64.toInt_inj] at h2 ⊢); split <;> first | rfl | (exfalso; omega), hG⟩)
  · refine go_aload_n hF d_Mo_near_5 rfl ?_
    refine gs_getr hF hK d_Mo_near_6 fl_Mo_7 h4 rfl rfl (by decide) rfl ?_
    refine go_iconst (v := 0) hF d_Mo_near_9 (by decide) ?_
    refine gs_md hF hK hT d_Mo_near_10 h4 (show (0 : Int32) = nI 0 from rfl) (by decide) ?_
    refine go_iload_n hF d_Mo_near_11 rfl ?_
    refine go_isub hF d_Mo_near_12 ?_
    refine go_iload_n hF d_Mo_near_13 rfl ?_
    refine go_icmp_ge (tgt := 21) hF d_Mo_near_14 (by decide) (fun h14 => ?_) (fun h14 => ?_)
    · refine go_iconst (v := 0) hF d_Mo_near_21 (by decide) ?_
      exact go_zret hF hM d_Mo_near_22 rfl (by decide) (by decide) (fun H hG => ⟨by clear hG; clear hF hM hE hK hT hlo htab hnm; unfold bi nrF; (try simp only [Int32.lt_iff_toInt_lt, Int32.le_iff_toInt_le, Int64.lt_iff_toInt_lt, Int64.le_iff_toInt_le, ← Int32.toInt_inj, ← Int64.toInt_inj] at h2 h14 ⊢); split <;> first | rfl | (exfalso; omega), hG⟩)
    · refine go_iconst (v := 1) hF d_Mo_near_17 (by decide) ?_
      refine go_goto (tgt := 22) hF d_Mo_near_18 (by decide) ?_
      exact go_zret hF hM d_Mo_near_22 rfl (by decide) (by decide) (fun H hG => ⟨by clear hG; clear hF hM hE hK hT hlo htab hnm; unfold bi nrF; (try simp only [Int32.lt_iff_toInt_lt, Int32.le_iff_toInt_le, Int64.lt_iff_toInt_lt, Int64.le_iff_toInt_le, ← Int32.toInt_inj, ← Int64.toInt_inj] at h2 h14 ⊢); split <;> first | rfl | (exfalso; omega), hG⟩)
set_option maxHeartbeats 4000000 in
set_option maxRecDepth 100000 in
theorem con_Mo_isNet {l : Launch} (hlt : l.stackTraces = false) {E : gE} {B : bsT} {N : nwT} {w : wdT} {f : Nat → Int32} (h4 : N.1 4 0 = true) (x : Int32) : Con l E y_Mo_isNet (Cond.code y_Mo_isNet c_Mo_isNet 2 (some .boolean) :: gAll) rm_Mo_isNet [.ref (ad B 4 0 0 0), .int x] (gw E B N (mW w f)) (fun v H => v = some (.int (bi (0 ≤ x ∧ x < f 2))) ∧ gw E B N (mW w f) H) (fun _ _ => False) 0 0 := by
  refine con_of (by decide) hlt (Nat.le_of_ble_eq_true rfl) ?_
  intro F hF hM htab hnm hE hlo hl
  subst hl
  have hF : Fb F c_Mo_isNet R_Mo 2 rm_Mo_isNet := hF
  have hK := hE.1
  have hT := hE.2.1
  refine go_lv (lv' := [(0, _), (1, _)]) ⟨rfl, rfl, trivial⟩ ?_
  refine go_iload_n hF d_Mo_isNet_0 rfl ?_
  refine go_if_lt (tgt := 18) hF d_Mo_isNet_1 (by decide) (fun h1 => ?_) (fun h1 => ?_)
  · refine go_iconst (v := 0) hF d_Mo_isNet_18 (by decide) ?_
    exact go_zret hF hM d_Mo_isNet_19 rfl (by decide) (by decide) (fun H hG => ⟨by clear hG; clear hF hM hE hK hT hlo htab hnm; unfold bi; (try simp only [Int32.lt_iff_toInt_lt, Int32.le_iff_toInt_le, Int64.lt_iff_toInt_lt, Int64.le_iff_toInt_le, ← Int32.toInt_inj, ← Int64.toInt_inj] at h1 ⊢); split <;> first | rfl | (exfalso; omega), hG⟩)
  · refine go_iload_n hF d_Mo_isNet_4 rfl ?_
    refine go_aload_n hF d_Mo_isNet_5 rfl ?_
    refine gs_getr hF hK d_Mo_isNet_6 fl_Mo_7 h4 rfl rfl (by decide) rfl ?_
    refine go_iconst (v := 2) hF d_Mo_isNet_9 (by decide) ?_
    refine gs_md hF hK hT d_Mo_isNet_10 h4 (show (2 : Int32) = nI 2 from rfl) (by decide) ?_
    refine go_icmp_ge (tgt := 18) hF d_Mo_isNet_11 (by decide) (fun h11 => ?_) (fun h11 => ?_)
    · refine go_iconst (v := 0) hF d_Mo_isNet_18 (by decide) ?_
      exact go_zret hF hM d_Mo_isNet_19 rfl (by decide) (by decide) (fun H hG => ⟨by clear hG; clear hF hM hE hK hT hlo htab hnm; unfold bi; (try simp only [Int32.lt_iff_toInt_lt, Int32.le_iff_toInt_le, Int64.lt_iff_toInt_lt, Int64.le_iff_toInt_le, ← Int32.toInt_inj, ← Int64.toInt_inj] at h1 h11 ⊢); split <;> first | rfl | (exfalso; omega), hG⟩)
    · refine go_iconst (v := 1) hF d_Mo_isNet_14 (by decide) ?_
      refine go_goto (tgt := 19) hF d_Mo_isNet_15 (by decide) ?_
      exact go_zret hF hM d_Mo_isNet_19 rfl (by decide) (by decide) (fun H hG => ⟨by clear hG; clear hF hM hE hK hT hlo htab hnm; unfold bi; (try simp only [Int32.lt_iff_toInt_lt, Int32.le_iff_toInt_le, Int64.lt_iff_toInt_lt, Int64.le_iff_toInt_le, ← Int32.toInt_inj, ← Int64.toInt_inj] at h1 h11 ⊢); split <;> first | rfl | (exfalso; omega), hG⟩)
set_option maxHeartbeats 4000000 in
set_option maxRecDepth 100000 in
theorem con_Mo_isGate {l : Launch} (hlt : l.stackTraces = false) {E : gE} {B : bsT} {N : nwT} {w : wdT} {f : Nat → Int32} (h4 : N.1 4 0 = true) (x : Int32) : Con l E y_Mo_isGate (Cond.code y_Mo_isGate c_Mo_isGate 2 (some .boolean) :: gAll) rm_Mo_isGate [.ref (ad B 4 0 0 0), .int x] (gw E B N (mW w f)) (fun v H => v = some (.int (bi (0 ≤ x ∧ x < f 3))) ∧ gw E B N (mW w f) H) (fun _ _ => False) 0 0 := by
  refine con_of (by decide) hlt (Nat.le_of_ble_eq_true rfl) ?_
  intro F hF hM htab hnm hE hlo hl
  subst hl
  have hF : Fb F c_Mo_isGate R_Mo 2 rm_Mo_isGate := hF
  have hK := hE.1
  have hT := hE.2.1
  refine go_lv (lv' := [(0, _), (1, _)]) ⟨rfl, rfl, trivial⟩ ?_
  refine go_iload_n hF d_Mo_isGate_0 rfl ?_
  refine go_if_lt (tgt := 18) hF d_Mo_isGate_1 (by decide) (fun h1 => ?_) (fun h1 => ?_)
  · refine go_iconst (v := 0) hF d_Mo_isGate_18 (by decide) ?_
    exact go_zret hF hM d_Mo_isGate_19 rfl (by decide) (by decide) (fun H hG => ⟨by clear hG; clear hF hM hE hK hT hlo htab hnm; unfold bi; (try simp only [Int32.lt_iff_toInt_lt, Int32.le_iff_toInt_le, Int64.lt_iff_toInt_lt, Int64.le_iff_toInt_le, ← Int32.toInt_inj, ← Int64.toInt_inj] at h1 ⊢); split <;> first | rfl | (exfalso; omega), hG⟩)
  · refine go_iload_n hF d_Mo_isGate_4 rfl ?_
    refine go_aload_n hF d_Mo_isGate_5 rfl ?_
    refine gs_getr hF hK d_Mo_isGate_6 fl_Mo_7 h4 rfl rfl (by decide) rfl ?_
    refine go_iconst (v := 3) hF d_Mo_isGate_9 (by decide) ?_
    refine gs_md hF hK hT d_Mo_isGate_10 h4 (show (3 : Int32) = nI 3 from rfl) (by decide) ?_
    refine go_icmp_ge (tgt := 18) hF d_Mo_isGate_11 (by decide) (fun h11 => ?_) (fun h11 => ?_)
    · refine go_iconst (v := 0) hF d_Mo_isGate_18 (by decide) ?_
      exact go_zret hF hM d_Mo_isGate_19 rfl (by decide) (by decide) (fun H hG => ⟨by clear hG; clear hF hM hE hK hT hlo htab hnm; unfold bi; (try simp only [Int32.lt_iff_toInt_lt, Int32.le_iff_toInt_le, Int64.lt_iff_toInt_lt, Int64.le_iff_toInt_le, ← Int32.toInt_inj, ← Int64.toInt_inj] at h1 h11 ⊢); split <;> first | rfl | (exfalso; omega), hG⟩)
    · refine go_iconst (v := 1) hF d_Mo_isGate_14 (by decide) ?_
      refine go_goto (tgt := 19) hF d_Mo_isGate_15 (by decide) ?_
      exact go_zret hF hM d_Mo_isGate_19 rfl (by decide) (by decide) (fun H hG => ⟨by clear hG; clear hF hM hE hK hT hlo htab hnm; unfold bi; (try simp only [Int32.lt_iff_toInt_lt, Int32.le_iff_toInt_le, Int64.lt_iff_toInt_lt, Int64.le_iff_toInt_le, ← Int32.toInt_inj, ← Int64.toInt_inj] at h1 h11 ⊢); split <;> first | rfl | (exfalso; omega), hG⟩)
set_option maxHeartbeats 4000000 in
set_option maxRecDepth 100000 in
theorem con_Mo_ask {l : Launch} (hlt : l.stackTraces = false) {E : gE} {B : bsT} {N : nwT} {w : wdT} {f : Nat → Int32} (h4 : N.1 4 0 = true) {x : Int32} {g : Nat} (hx : x = nI g) (hg : g < 32) (a : Int32) : Con l E y_Mo_ask (Cond.code y_Mo_ask c_Mo_ask 6 none :: gAll) rm_Mo_ask [.ref (ad B 4 0 0 0), .int x, .int a] (gw E B N (mW w f)) (fun v H => v = none ∧ gw E B N (mW w (askF f g a)) H) (fun _ _ => False) 0 0 := by
  refine con_of (by decide) hlt (Nat.le_of_ble_eq_true rfl) ?_
  intro F hF hM htab hnm hE hlo hl
  subst hl
  have hF : Fb F c_Mo_ask R_Mo 6 rm_Mo_ask := hF
  have hK := hE.1
  have hT := hE.2.1
  refine go_lv (lv' := [(0, _), (1, _), (2, _)]) ⟨rfl, rfl, rfl, trivial⟩ ?_
  refine go_aload_n hF d_Mo_ask_0 rfl ?_
  refine gs_getr hF hK d_Mo_ask_1 fl_Mo_7 h4 rfl rfl (by decide) rfl ?_
  refine go_iconst (v := 0) hF d_Mo_ask_4 (by decide) ?_
  refine gs_md hF hK hT d_Mo_ask_5 h4 (show (0 : Int32) = nI 0 from rfl) (by decide) ?_
  refine go_aload_n hF d_Mo_ask_6 rfl ?_
  refine go_iload_n hF d_Mo_ask_7 rfl ?_
  refine go_iload_n hF d_Mo_ask_8 rfl ?_
  refine go_callVX hF hE hlo d_Mo_ask_9 (con_Mo_delayTo hlt h4 hx hg a) mt_Mo_delayTo mv_Mo_delayTo lk_Mo_43 ⟨rfl, rfl, by decide, by decide⟩ rfl (Nat.le_of_ble_eq_true rfl) ⟨by decide, by decide⟩ (fun H hG => gw_recv (q := (R_Mo, T_Mo, 9)) hK hG h4 rfl rfl (by decide) rfl) (fun M => gx_no) rfl (fun v => ?_)
  refine go_and (fun hv => ?_)
  subst hv
  refine go_iadd hF d_Mo_ask_12 ?_
  refine go_istore_n hF d_Mo_ask_13 (by decide) ?_
  refine go_lv (lv' := [(0, _), (1, _), (2, _), (3, _)]) ⟨rfl, rfl, rfl, rfl, trivial⟩ ?_
  refine go_aload_n hF d_Mo_ask_14 rfl ?_
  refine go_iload_n hF d_Mo_ask_15 rfl ?_
  refine go_bipush (v := 7) hF d_Mo_ask_16 (by decide) ?_
  refine go_callVX hF hE hlo d_Mo_ask_18 (con_Mo_ofGate hlt h4 (k := 7) hx hg rfl (by decide)) mt_Mo_ofGate mv_Mo_ofGate lk_Mo_36 ⟨rfl, rfl, by decide, by decide⟩ rfl (Nat.le_of_ble_eq_true rfl) ⟨by decide, by decide⟩ (fun H hG => gw_recv (q := (R_Mo, T_Mo, 9)) hK hG h4 rfl rfl (by decide) rfl) (fun M => gx_no) rfl (fun v => ?_)
  refine go_and (fun hv => ?_)
  subst hv
  refine go_istore hF d_Mo_ask_21 (by decide) ?_
  refine go_lv (lv' := [(0, _), (1, _), (2, _), (3, _), (4, _)]) ⟨rfl, rfl, rfl, rfl, rfl, trivial⟩ ?_
  refine go_iload hF d_Mo_ask_23 rfl ?_
  refine go_iconst (v := -1) hF d_Mo_ask_25 (by decide) ?_
  refine go_icmp_eq (tgt := 44) hF d_Mo_ask_26 (by decide) (fun h26 => ?_) (fun h26 => ?_)
  · refine go_iload_n hF d_Mo_ask_44 rfl ?_
    refine go_aload_n hF d_Mo_ask_45 rfl ?_
    refine go_iload_n hF d_Mo_ask_46 rfl ?_
    refine go_bipush (v := 6) hF d_Mo_ask_47 (by decide) ?_
    refine go_callVX hF hE hlo d_Mo_ask_49 (con_Mo_ofGate hlt h4 (k := 6) hx hg rfl (by decide)) mt_Mo_ofGate mv_Mo_ofGate lk_Mo_36 ⟨rfl, rfl, by decide, by decide⟩ rfl (Nat.le_of_ble_eq_true rfl) ⟨by decide, by decide⟩ (fun H hG => gw_recv (q := (R_Mo, T_Mo, 9)) hK hG h4 rfl rfl (by decide) rfl) (fun M => gx_no) rfl (fun v => ?_)
    refine go_and (fun hv => ?_)
    subst hv
    refine go_icmp_eq (tgt := 59) hF d_Mo_ask_52 (by decide) (fun h52 => ?_) (fun h52 => ?_)
    · refine go_iconst (v := 0) hF d_Mo_ask_59 (by decide) ?_
      refine go_istore hF d_Mo_ask_60 (by decide) ?_
      refine go_lv (lv' := [(0, _), (1, _), (2, _), (3, _), (4, _), (5, _)]) ⟨rfl, rfl, rfl, rfl, rfl, rfl, trivial⟩ ?_
      refine go_aload_n hF d_Mo_ask_62 rfl ?_
      refine go_iload_n hF d_Mo_ask_63 rfl ?_
      refine go_bipush (v := 7) hF d_Mo_ask_64 (by decide) ?_
      refine go_iload hF d_Mo_ask_66 rfl ?_
      refine go_if_eq (tgt := 75) hF d_Mo_ask_68 (by decide) (fun h68 => ?_) (fun h68 => ?_)
      · refine go_iconst (v := -1) hF d_Mo_ask_75 (by decide) ?_
        refine go_callVX hF hE hlo d_Mo_ask_76 (con_Mo_setGate hlt h4 (k := 7) hx hg rfl (by decide) _) mt_Mo_setGate mv_Mo_setGate lk_Mo_46 ⟨rfl, rfl, by decide, by decide⟩ rfl (Nat.le_of_ble_eq_true rfl) ⟨by decide, by decide⟩ (fun H hG => gw_recv (q := (R_Mo, T_Mo, 9)) hK hG h4 rfl rfl (by decide) rfl) (fun M => gx_no) rfl (fun v => ?_)
        refine go_and (fun hv => ?_)
        subst hv
        refine go_aload_n hF d_Mo_ask_79 rfl ?_
        refine go_iload_n hF d_Mo_ask_80 rfl ?_
        refine go_bipush (v := 8) hF d_Mo_ask_81 (by decide) ?_
        refine go_iload_n hF d_Mo_ask_83 rfl ?_
        refine go_callVX hF hE hlo d_Mo_ask_84 (con_Mo_setGate hlt h4 (k := 8) hx hg rfl (by decide) _) mt_Mo_setGate mv_Mo_setGate lk_Mo_46 ⟨rfl, rfl, by decide, by decide⟩ rfl (Nat.le_of_ble_eq_true rfl) ⟨by decide, by decide⟩ (fun H hG => gw_recv (q := (R_Mo, T_Mo, 9)) hK hG h4 rfl rfl (by decide) rfl) (fun M => gx_no) rfl (fun v => ?_)
        refine go_and (fun hv => ?_)
        subst hv
        refine go_aload_n hF d_Mo_ask_87 rfl ?_
        refine go_iload_n hF d_Mo_ask_88 rfl ?_
        refine go_bipush (v := 9) hF d_Mo_ask_89 (by decide) ?_
        refine go_iconst (v := -1) hF d_Mo_ask_91 (by decide) ?_
        refine go_callVX hF hE hlo d_Mo_ask_92 (con_Mo_setGate hlt h4 (k := 9) hx hg rfl (by decide) _) mt_Mo_setGate mv_Mo_setGate lk_Mo_46 ⟨rfl, rfl, by decide, by decide⟩ rfl (Nat.le_of_ble_eq_true rfl) ⟨by decide, by decide⟩ (fun H hG => gw_recv (q := (R_Mo, T_Mo, 9)) hK hG h4 rfl rfl (by decide) rfl) (fun M => gx_no) rfl (fun v => ?_)
        refine go_and (fun hv => ?_)
        subst hv
        refine go_goto (tgt := 159) hF d_Mo_ask_95 (by decide) ?_
        exact go_vret hF hM d_Mo_ask_159 (by decide) (by decide) (fun H hG => ⟨rfl, by clear hF hM hE hK hT hlo htab hnm; unfold askF; (repeat' split) <;> first | exact hG | (exfalso; simp_all; done) | (exfalso; simp only [Int32.lt_iff_toInt_lt, Int32.le_iff_toInt_le] at *; omega)⟩)
      · refine go_iload_n hF d_Mo_ask_71 rfl ?_
        refine go_goto (tgt := 76) hF d_Mo_ask_72 (by decide) ?_
        refine go_callVX hF hE hlo d_Mo_ask_76 (con_Mo_setGate hlt h4 (k := 7) hx hg rfl (by decide) _) mt_Mo_setGate mv_Mo_setGate lk_Mo_46 ⟨rfl, rfl, by decide, by decide⟩ rfl (Nat.le_of_ble_eq_true rfl) ⟨by decide, by decide⟩ (fun H hG => gw_recv (q := (R_Mo, T_Mo, 9)) hK hG h4 rfl rfl (by decide) rfl) (fun M => gx_no) rfl (fun v => ?_)
        refine go_and (fun hv => ?_)
        subst hv
        refine go_aload_n hF d_Mo_ask_79 rfl ?_
        refine go_iload_n hF d_Mo_ask_80 rfl ?_
        refine go_bipush (v := 8) hF d_Mo_ask_81 (by decide) ?_
        refine go_iload_n hF d_Mo_ask_83 rfl ?_
        refine go_callVX hF hE hlo d_Mo_ask_84 (con_Mo_setGate hlt h4 (k := 8) hx hg rfl (by decide) _) mt_Mo_setGate mv_Mo_setGate lk_Mo_46 ⟨rfl, rfl, by decide, by decide⟩ rfl (Nat.le_of_ble_eq_true rfl) ⟨by decide, by decide⟩ (fun H hG => gw_recv (q := (R_Mo, T_Mo, 9)) hK hG h4 rfl rfl (by decide) rfl) (fun M => gx_no) rfl (fun v => ?_)
        refine go_and (fun hv => ?_)
        subst hv
        refine go_aload_n hF d_Mo_ask_87 rfl ?_
        refine go_iload_n hF d_Mo_ask_88 rfl ?_
        refine go_bipush (v := 9) hF d_Mo_ask_89 (by decide) ?_
        refine go_iconst (v := -1) hF d_Mo_ask_91 (by decide) ?_
        refine go_callVX hF hE hlo d_Mo_ask_92 (con_Mo_setGate hlt h4 (k := 9) hx hg rfl (by decide) _) mt_Mo_setGate mv_Mo_setGate lk_Mo_46 ⟨rfl, rfl, by decide, by decide⟩ rfl (Nat.le_of_ble_eq_true rfl) ⟨by decide, by decide⟩ (fun H hG => gw_recv (q := (R_Mo, T_Mo, 9)) hK hG h4 rfl rfl (by decide) rfl) (fun M => gx_no) rfl (fun v => ?_)
        refine go_and (fun hv => ?_)
        subst hv
        refine go_goto (tgt := 159) hF d_Mo_ask_95 (by decide) ?_
        exact go_vret hF hM d_Mo_ask_159 (by decide) (by decide) (fun H hG => ⟨rfl, by clear hF hM hE hK hT hlo htab hnm; unfold askF; (repeat' split) <;> first | exact hG | (exfalso; simp_all; done) | (exfalso; simp only [Int32.lt_iff_toInt_lt, Int32.le_iff_toInt_le] at *; omega)⟩)
    · refine go_iconst (v := 1) hF d_Mo_ask_55 (by decide) ?_
      refine go_goto (tgt := 60) hF d_Mo_ask_56 (by decide) ?_
      refine go_istore hF d_Mo_ask_60 (by decide) ?_
      refine go_lv (lv' := [(0, _), (1, _), (2, _), (3, _), (4, _), (5, _)]) ⟨rfl, rfl, rfl, rfl, rfl, rfl, trivial⟩ ?_
      refine go_aload_n hF d_Mo_ask_62 rfl ?_
      refine go_iload_n hF d_Mo_ask_63 rfl ?_
      refine go_bipush (v := 7) hF d_Mo_ask_64 (by decide) ?_
      refine go_iload hF d_Mo_ask_66 rfl ?_
      refine go_if_eq (tgt := 75) hF d_Mo_ask_68 (by decide) (fun h68 => ?_) (fun h68 => ?_)
      · refine go_iconst (v := -1) hF d_Mo_ask_75 (by decide) ?_
        refine go_callVX hF hE hlo d_Mo_ask_76 (con_Mo_setGate hlt h4 (k := 7) hx hg rfl (by decide) _) mt_Mo_setGate mv_Mo_setGate lk_Mo_46 ⟨rfl, rfl, by decide, by decide⟩ rfl (Nat.le_of_ble_eq_true rfl) ⟨by decide, by decide⟩ (fun H hG => gw_recv (q := (R_Mo, T_Mo, 9)) hK hG h4 rfl rfl (by decide) rfl) (fun M => gx_no) rfl (fun v => ?_)
        refine go_and (fun hv => ?_)
        subst hv
        refine go_aload_n hF d_Mo_ask_79 rfl ?_
        refine go_iload_n hF d_Mo_ask_80 rfl ?_
        refine go_bipush (v := 8) hF d_Mo_ask_81 (by decide) ?_
        refine go_iload_n hF d_Mo_ask_83 rfl ?_
        refine go_callVX hF hE hlo d_Mo_ask_84 (con_Mo_setGate hlt h4 (k := 8) hx hg rfl (by decide) _) mt_Mo_setGate mv_Mo_setGate lk_Mo_46 ⟨rfl, rfl, by decide, by decide⟩ rfl (Nat.le_of_ble_eq_true rfl) ⟨by decide, by decide⟩ (fun H hG => gw_recv (q := (R_Mo, T_Mo, 9)) hK hG h4 rfl rfl (by decide) rfl) (fun M => gx_no) rfl (fun v => ?_)
        refine go_and (fun hv => ?_)
        subst hv
        refine go_aload_n hF d_Mo_ask_87 rfl ?_
        refine go_iload_n hF d_Mo_ask_88 rfl ?_
        refine go_bipush (v := 9) hF d_Mo_ask_89 (by decide) ?_
        refine go_iconst (v := -1) hF d_Mo_ask_91 (by decide) ?_
        refine go_callVX hF hE hlo d_Mo_ask_92 (con_Mo_setGate hlt h4 (k := 9) hx hg rfl (by decide) _) mt_Mo_setGate mv_Mo_setGate lk_Mo_46 ⟨rfl, rfl, by decide, by decide⟩ rfl (Nat.le_of_ble_eq_true rfl) ⟨by decide, by decide⟩ (fun H hG => gw_recv (q := (R_Mo, T_Mo, 9)) hK hG h4 rfl rfl (by decide) rfl) (fun M => gx_no) rfl (fun v => ?_)
        refine go_and (fun hv => ?_)
        subst hv
        refine go_goto (tgt := 159) hF d_Mo_ask_95 (by decide) ?_
        exact go_vret hF hM d_Mo_ask_159 (by decide) (by decide) (fun H hG => ⟨rfl, by clear hF hM hE hK hT hlo htab hnm; unfold askF; (repeat' split) <;> first | exact hG | (exfalso; simp_all; done) | (exfalso; simp only [Int32.lt_iff_toInt_lt, Int32.le_iff_toInt_le] at *; omega)⟩)
      · refine go_iload_n hF d_Mo_ask_71 rfl ?_
        refine go_goto (tgt := 76) hF d_Mo_ask_72 (by decide) ?_
        refine go_callVX hF hE hlo d_Mo_ask_76 (con_Mo_setGate hlt h4 (k := 7) hx hg rfl (by decide) _) mt_Mo_setGate mv_Mo_setGate lk_Mo_46 ⟨rfl, rfl, by decide, by decide⟩ rfl (Nat.le_of_ble_eq_true rfl) ⟨by decide, by decide⟩ (fun H hG => gw_recv (q := (R_Mo, T_Mo, 9)) hK hG h4 rfl rfl (by decide) rfl) (fun M => gx_no) rfl (fun v => ?_)
        refine go_and (fun hv => ?_)
        subst hv
        refine go_aload_n hF d_Mo_ask_79 rfl ?_
        refine go_iload_n hF d_Mo_ask_80 rfl ?_
        refine go_bipush (v := 8) hF d_Mo_ask_81 (by decide) ?_
        refine go_iload_n hF d_Mo_ask_83 rfl ?_
        refine go_callVX hF hE hlo d_Mo_ask_84 (con_Mo_setGate hlt h4 (k := 8) hx hg rfl (by decide) _) mt_Mo_setGate mv_Mo_setGate lk_Mo_46 ⟨rfl, rfl, by decide, by decide⟩ rfl (Nat.le_of_ble_eq_true rfl) ⟨by decide, by decide⟩ (fun H hG => gw_recv (q := (R_Mo, T_Mo, 9)) hK hG h4 rfl rfl (by decide) rfl) (fun M => gx_no) rfl (fun v => ?_)
        refine go_and (fun hv => ?_)
        subst hv
        refine go_aload_n hF d_Mo_ask_87 rfl ?_
        refine go_iload_n hF d_Mo_ask_88 rfl ?_
        refine go_bipush (v := 9) hF d_Mo_ask_89 (by decide) ?_
        refine go_iconst (v := -1) hF d_Mo_ask_91 (by decide) ?_
        refine go_callVX hF hE hlo d_Mo_ask_92 (con_Mo_setGate hlt h4 (k := 9) hx hg rfl (by decide) _) mt_Mo_setGate mv_Mo_setGate lk_Mo_46 ⟨rfl, rfl, by decide, by decide⟩ rfl (Nat.le_of_ble_eq_true rfl) ⟨by decide, by decide⟩ (fun H hG => gw_recv (q := (R_Mo, T_Mo, 9)) hK hG h4 rfl rfl (by decide) rfl) (fun M => gx_no) rfl (fun v => ?_)
        refine go_and (fun hv => ?_)
        subst hv
        refine go_goto (tgt := 159) hF d_Mo_ask_95 (by decide) ?_
        exact go_vret hF hM d_Mo_ask_159 (by decide) (by decide) (fun H hG => ⟨rfl, by clear hF hM hE hK hT hlo htab hnm; unfold askF; (repeat' split) <;> first | exact hG | (exfalso; simp_all; done) | (exfalso; simp only [Int32.lt_iff_toInt_lt, Int32.le_iff_toInt_le] at *; omega)⟩)
  · refine go_iload hF d_Mo_ask_29 rfl ?_
    refine go_iload_n hF d_Mo_ask_31 rfl ?_
    refine go_icmp_eq (tgt := 98) hF d_Mo_ask_32 (by decide) (fun h32 => ?_) (fun h32 => ?_)
    · refine go_iload hF d_Mo_ask_98 rfl ?_
      refine go_iload_n hF d_Mo_ask_100 rfl ?_
      refine go_icmp_eq (tgt := 151) hF d_Mo_ask_101 (by decide) (fun h101 => ?_) (fun h101 => ?_)
      · refine go_aload_n hF d_Mo_ask_151 rfl ?_
        refine go_iload_n hF d_Mo_ask_152 rfl ?_
        refine go_bipush (v := 9) hF d_Mo_ask_153 (by decide) ?_
        refine go_iconst (v := -1) hF d_Mo_ask_155 (by decide) ?_
        refine go_callVX hF hE hlo d_Mo_ask_156 (con_Mo_setGate hlt h4 (k := 9) hx hg rfl (by decide) _) mt_Mo_setGate mv_Mo_setGate lk_Mo_46 ⟨rfl, rfl, by decide, by decide⟩ rfl (Nat.le_of_ble_eq_true rfl) ⟨by decide, by decide⟩ (fun H hG => gw_recv (q := (R_Mo, T_Mo, 9)) hK hG h4 rfl rfl (by decide) rfl) (fun M => gx_no) rfl (fun v => ?_)
        refine go_and (fun hv => ?_)
        subst hv
        exact go_vret hF hM d_Mo_ask_159 (by decide) (by decide) (fun H hG => ⟨rfl, by clear hF hM hE hK hT hlo htab hnm; unfold askF; (repeat' split) <;> first | exact hG | (exfalso; simp_all; done) | (exfalso; simp only [Int32.lt_iff_toInt_lt, Int32.le_iff_toInt_le] at *; omega)⟩)
      · refine go_aload_n hF d_Mo_ask_104 rfl ?_
        refine go_iload_n hF d_Mo_ask_105 rfl ?_
        refine go_bipush (v := 8) hF d_Mo_ask_106 (by decide) ?_
        refine go_callVX hF hE hlo d_Mo_ask_108 (con_Mo_ofGate hlt h4 (k := 8) hx hg rfl (by decide)) mt_Mo_ofGate mv_Mo_ofGate lk_Mo_36 ⟨rfl, rfl, by decide, by decide⟩ rfl (Nat.le_of_ble_eq_true rfl) ⟨by decide, by decide⟩ (fun H hG => gw_recv (q := (R_Mo, T_Mo, 9)) hK hG h4 rfl rfl (by decide) rfl) (fun M => gx_no) rfl (fun v => ?_)
        refine go_and (fun hv => ?_)
        subst hv
        refine go_istore hF d_Mo_ask_111 (by decide) ?_
        refine go_lv (lv' := [(0, _), (1, _), (2, _), (3, _), (4, _), (5, _)]) ⟨rfl, rfl, rfl, rfl, rfl, rfl, trivial⟩ ?_
        refine go_aload_n hF d_Mo_ask_113 rfl ?_
        refine go_iload_n hF d_Mo_ask_114 rfl ?_
        refine go_bipush (v := 7) hF d_Mo_ask_115 (by decide) ?_
        refine go_iconst (v := 2) hF d_Mo_ask_117 (by decide) ?_
        refine go_callVX hF hE hlo d_Mo_ask_118 (con_Mo_setGate hlt h4 (k := 7) hx hg rfl (by decide) _) mt_Mo_setGate mv_Mo_setGate lk_Mo_46 ⟨rfl, rfl, by decide, by decide⟩ rfl (Nat.le_of_ble_eq_true rfl) ⟨by decide, by decide⟩ (fun H hG => gw_recv (q := (R_Mo, T_Mo, 9)) hK hG h4 rfl rfl (by decide) rfl) (fun M => gx_no) rfl (fun v => ?_)
        refine go_and (fun hv => ?_)
        subst hv
        refine go_aload_n hF d_Mo_ask_121 rfl ?_
        refine go_iload_n hF d_Mo_ask_122 rfl ?_
        refine go_bipush (v := 9) hF d_Mo_ask_123 (by decide) ?_
        refine go_iload_n hF d_Mo_ask_125 rfl ?_
        refine go_callVX hF hE hlo d_Mo_ask_126 (con_Mo_setGate hlt h4 (k := 9) hx hg rfl (by decide) _) mt_Mo_setGate mv_Mo_setGate lk_Mo_46 ⟨rfl, rfl, by decide, by decide⟩ rfl (Nat.le_of_ble_eq_true rfl) ⟨by decide, by decide⟩ (fun H hG => gw_recv (q := (R_Mo, T_Mo, 9)) hK hG h4 rfl rfl (by decide) rfl) (fun M => gx_no) rfl (fun v => ?_)
        refine go_and (fun hv => ?_)
        subst hv
        refine go_aload_n hF d_Mo_ask_129 rfl ?_
        refine go_iload_n hF d_Mo_ask_130 rfl ?_
        refine go_bipush (v := 10) hF d_Mo_ask_131 (by decide) ?_
        refine go_iload_n hF d_Mo_ask_133 rfl ?_
        refine go_iload hF d_Mo_ask_134 rfl ?_
        refine go_icmp_le (tgt := 143) hF d_Mo_ask_136 (by decide) (fun h136 => ?_) (fun h136 => ?_)
        · refine go_iload hF d_Mo_ask_143 rfl ?_
          refine go_callVX hF hE hlo d_Mo_ask_145 (con_Mo_setGate hlt h4 (k := 10) hx hg rfl (by decide) _) mt_Mo_setGate mv_Mo_setGate lk_Mo_46 ⟨rfl, rfl, by decide, by decide⟩ rfl (Nat.le_of_ble_eq_true rfl) ⟨by decide, by decide⟩ (fun H hG => gw_recv (q := (R_Mo, T_Mo, 9)) hK hG h4 rfl rfl (by decide) rfl) (fun M => gx_no) rfl (fun v => ?_)
          refine go_and (fun hv => ?_)
          subst hv
          refine go_goto (tgt := 159) hF d_Mo_ask_148 (by decide) ?_
          exact go_vret hF hM d_Mo_ask_159 (by decide) (by decide) (fun H hG => ⟨rfl, by clear hF hM hE hK hT hlo htab hnm; unfold askF; (repeat' split) <;> first | exact hG | (exfalso; simp_all; done) | (exfalso; simp only [Int32.lt_iff_toInt_lt, Int32.le_iff_toInt_le] at *; omega)⟩)
        · refine go_iload_n hF d_Mo_ask_139 rfl ?_
          refine go_goto (tgt := 145) hF d_Mo_ask_140 (by decide) ?_
          refine go_callVX hF hE hlo d_Mo_ask_145 (con_Mo_setGate hlt h4 (k := 10) hx hg rfl (by decide) _) mt_Mo_setGate mv_Mo_setGate lk_Mo_46 ⟨rfl, rfl, by decide, by decide⟩ rfl (Nat.le_of_ble_eq_true rfl) ⟨by decide, by decide⟩ (fun H hG => gw_recv (q := (R_Mo, T_Mo, 9)) hK hG h4 rfl rfl (by decide) rfl) (fun M => gx_no) rfl (fun v => ?_)
          refine go_and (fun hv => ?_)
          subst hv
          refine go_goto (tgt := 159) hF d_Mo_ask_148 (by decide) ?_
          exact go_vret hF hM d_Mo_ask_159 (by decide) (by decide) (fun H hG => ⟨rfl, by clear hF hM hE hK hT hlo htab hnm; unfold askF; (repeat' split) <;> first | exact hG | (exfalso; simp_all; done) | (exfalso; simp only [Int32.lt_iff_toInt_lt, Int32.le_iff_toInt_le] at *; omega)⟩)
    · refine go_aload_n hF d_Mo_ask_35 rfl ?_
      refine gs_getr hF hK d_Mo_ask_36 fl_Mo_7 h4 rfl rfl (by decide) rfl ?_
      refine go_iconst (v := 1) hF d_Mo_ask_39 (by decide) ?_
      refine gs_md hF hK hT d_Mo_ask_40 h4 (show (1 : Int32) = nI 1 from rfl) (by decide) ?_
      refine go_if_ne (tgt := 98) hF d_Mo_ask_41 (by decide) (fun h41 => ?_) (fun h41 => ?_)
      · refine go_iload hF d_Mo_ask_98 rfl ?_
        refine go_iload_n hF d_Mo_ask_100 rfl ?_
        refine go_icmp_eq (tgt := 151) hF d_Mo_ask_101 (by decide) (fun h101 => ?_) (fun h101 => ?_)
        · refine go_aload_n hF d_Mo_ask_151 rfl ?_
          refine go_iload_n hF d_Mo_ask_152 rfl ?_
          refine go_bipush (v := 9) hF d_Mo_ask_153 (by decide) ?_
          refine go_iconst (v := -1) hF d_Mo_ask_155 (by decide) ?_
          refine go_callVX hF hE hlo d_Mo_ask_156 (con_Mo_setGate hlt h4 (k := 9) hx hg rfl (by decide) _) mt_Mo_setGate mv_Mo_setGate lk_Mo_46 ⟨rfl, rfl, by decide, by decide⟩ rfl (Nat.le_of_ble_eq_true rfl) ⟨by decide, by decide⟩ (fun H hG => gw_recv (q := (R_Mo, T_Mo, 9)) hK hG h4 rfl rfl (by decide) rfl) (fun M => gx_no) rfl (fun v => ?_)
          refine go_and (fun hv => ?_)
          subst hv
          exact go_vret hF hM d_Mo_ask_159 (by decide) (by decide) (fun H hG => ⟨rfl, by clear hF hM hE hK hT hlo htab hnm; unfold askF; (repeat' split) <;> first | exact hG | (exfalso; simp_all; done) | (exfalso; simp only [Int32.lt_iff_toInt_lt, Int32.le_iff_toInt_le] at *; omega)⟩)
        · refine go_aload_n hF d_Mo_ask_104 rfl ?_
          refine go_iload_n hF d_Mo_ask_105 rfl ?_
          refine go_bipush (v := 8) hF d_Mo_ask_106 (by decide) ?_
          refine go_callVX hF hE hlo d_Mo_ask_108 (con_Mo_ofGate hlt h4 (k := 8) hx hg rfl (by decide)) mt_Mo_ofGate mv_Mo_ofGate lk_Mo_36 ⟨rfl, rfl, by decide, by decide⟩ rfl (Nat.le_of_ble_eq_true rfl) ⟨by decide, by decide⟩ (fun H hG => gw_recv (q := (R_Mo, T_Mo, 9)) hK hG h4 rfl rfl (by decide) rfl) (fun M => gx_no) rfl (fun v => ?_)
          refine go_and (fun hv => ?_)
          subst hv
          refine go_istore hF d_Mo_ask_111 (by decide) ?_
          refine go_lv (lv' := [(0, _), (1, _), (2, _), (3, _), (4, _), (5, _)]) ⟨rfl, rfl, rfl, rfl, rfl, rfl, trivial⟩ ?_
          refine go_aload_n hF d_Mo_ask_113 rfl ?_
          refine go_iload_n hF d_Mo_ask_114 rfl ?_
          refine go_bipush (v := 7) hF d_Mo_ask_115 (by decide) ?_
          refine go_iconst (v := 2) hF d_Mo_ask_117 (by decide) ?_
          refine go_callVX hF hE hlo d_Mo_ask_118 (con_Mo_setGate hlt h4 (k := 7) hx hg rfl (by decide) _) mt_Mo_setGate mv_Mo_setGate lk_Mo_46 ⟨rfl, rfl, by decide, by decide⟩ rfl (Nat.le_of_ble_eq_true rfl) ⟨by decide, by decide⟩ (fun H hG => gw_recv (q := (R_Mo, T_Mo, 9)) hK hG h4 rfl rfl (by decide) rfl) (fun M => gx_no) rfl (fun v => ?_)
          refine go_and (fun hv => ?_)
          subst hv
          refine go_aload_n hF d_Mo_ask_121 rfl ?_
          refine go_iload_n hF d_Mo_ask_122 rfl ?_
          refine go_bipush (v := 9) hF d_Mo_ask_123 (by decide) ?_
          refine go_iload_n hF d_Mo_ask_125 rfl ?_
          refine go_callVX hF hE hlo d_Mo_ask_126 (con_Mo_setGate hlt h4 (k := 9) hx hg rfl (by decide) _) mt_Mo_setGate mv_Mo_setGate lk_Mo_46 ⟨rfl, rfl, by decide, by decide⟩ rfl (Nat.le_of_ble_eq_true rfl) ⟨by decide, by decide⟩ (fun H hG => gw_recv (q := (R_Mo, T_Mo, 9)) hK hG h4 rfl rfl (by decide) rfl) (fun M => gx_no) rfl (fun v => ?_)
          refine go_and (fun hv => ?_)
          subst hv
          refine go_aload_n hF d_Mo_ask_129 rfl ?_
          refine go_iload_n hF d_Mo_ask_130 rfl ?_
          refine go_bipush (v := 10) hF d_Mo_ask_131 (by decide) ?_
          refine go_iload_n hF d_Mo_ask_133 rfl ?_
          refine go_iload hF d_Mo_ask_134 rfl ?_
          refine go_icmp_le (tgt := 143) hF d_Mo_ask_136 (by decide) (fun h136 => ?_) (fun h136 => ?_)
          · refine go_iload hF d_Mo_ask_143 rfl ?_
            refine go_callVX hF hE hlo d_Mo_ask_145 (con_Mo_setGate hlt h4 (k := 10) hx hg rfl (by decide) _) mt_Mo_setGate mv_Mo_setGate lk_Mo_46 ⟨rfl, rfl, by decide, by decide⟩ rfl (Nat.le_of_ble_eq_true rfl) ⟨by decide, by decide⟩ (fun H hG => gw_recv (q := (R_Mo, T_Mo, 9)) hK hG h4 rfl rfl (by decide) rfl) (fun M => gx_no) rfl (fun v => ?_)
            refine go_and (fun hv => ?_)
            subst hv
            refine go_goto (tgt := 159) hF d_Mo_ask_148 (by decide) ?_
            exact go_vret hF hM d_Mo_ask_159 (by decide) (by decide) (fun H hG => ⟨rfl, by clear hF hM hE hK hT hlo htab hnm; unfold askF; (repeat' split) <;> first | exact hG | (exfalso; simp_all; done) | (exfalso; simp only [Int32.lt_iff_toInt_lt, Int32.le_iff_toInt_le] at *; omega)⟩)
          · refine go_iload_n hF d_Mo_ask_139 rfl ?_
            refine go_goto (tgt := 145) hF d_Mo_ask_140 (by decide) ?_
            refine go_callVX hF hE hlo d_Mo_ask_145 (con_Mo_setGate hlt h4 (k := 10) hx hg rfl (by decide) _) mt_Mo_setGate mv_Mo_setGate lk_Mo_46 ⟨rfl, rfl, by decide, by decide⟩ rfl (Nat.le_of_ble_eq_true rfl) ⟨by decide, by decide⟩ (fun H hG => gw_recv (q := (R_Mo, T_Mo, 9)) hK hG h4 rfl rfl (by decide) rfl) (fun M => gx_no) rfl (fun v => ?_)
            refine go_and (fun hv => ?_)
            subst hv
            refine go_goto (tgt := 159) hF d_Mo_ask_148 (by decide) ?_
            exact go_vret hF hM d_Mo_ask_159 (by decide) (by decide) (fun H hG => ⟨rfl, by clear hF hM hE hK hT hlo htab hnm; unfold askF; (repeat' split) <;> first | exact hG | (exfalso; simp_all; done) | (exfalso; simp only [Int32.lt_iff_toInt_lt, Int32.le_iff_toInt_le] at *; omega)⟩)
      · refine go_iload_n hF d_Mo_ask_44 rfl ?_
        refine go_aload_n hF d_Mo_ask_45 rfl ?_
        refine go_iload_n hF d_Mo_ask_46 rfl ?_
        refine go_bipush (v := 6) hF d_Mo_ask_47 (by decide) ?_
        refine go_callVX hF hE hlo d_Mo_ask_49 (con_Mo_ofGate hlt h4 (k := 6) hx hg rfl (by decide)) mt_Mo_ofGate mv_Mo_ofGate lk_Mo_36 ⟨rfl, rfl, by decide, by decide⟩ rfl (Nat.le_of_ble_eq_true rfl) ⟨by decide, by decide⟩ (fun H hG => gw_recv (q := (R_Mo, T_Mo, 9)) hK hG h4 rfl rfl (by decide) rfl) (fun M => gx_no) rfl (fun v => ?_)
        refine go_and (fun hv => ?_)
        subst hv
        refine go_icmp_eq (tgt := 59) hF d_Mo_ask_52 (by decide) (fun h52 => ?_) (fun h52 => ?_)
        · refine go_iconst (v := 0) hF d_Mo_ask_59 (by decide) ?_
          refine go_istore hF d_Mo_ask_60 (by decide) ?_
          refine go_lv (lv' := [(0, _), (1, _), (2, _), (3, _), (4, _), (5, _)]) ⟨rfl, rfl, rfl, rfl, rfl, rfl, trivial⟩ ?_
          refine go_aload_n hF d_Mo_ask_62 rfl ?_
          refine go_iload_n hF d_Mo_ask_63 rfl ?_
          refine go_bipush (v := 7) hF d_Mo_ask_64 (by decide) ?_
          refine go_iload hF d_Mo_ask_66 rfl ?_
          refine go_if_eq (tgt := 75) hF d_Mo_ask_68 (by decide) (fun h68 => ?_) (fun h68 => ?_)
          · refine go_iconst (v := -1) hF d_Mo_ask_75 (by decide) ?_
            refine go_callVX hF hE hlo d_Mo_ask_76 (con_Mo_setGate hlt h4 (k := 7) hx hg rfl (by decide) _) mt_Mo_setGate mv_Mo_setGate lk_Mo_46 ⟨rfl, rfl, by decide, by decide⟩ rfl (Nat.le_of_ble_eq_true rfl) ⟨by decide, by decide⟩ (fun H hG => gw_recv (q := (R_Mo, T_Mo, 9)) hK hG h4 rfl rfl (by decide) rfl) (fun M => gx_no) rfl (fun v => ?_)
            refine go_and (fun hv => ?_)
            subst hv
            refine go_aload_n hF d_Mo_ask_79 rfl ?_
            refine go_iload_n hF d_Mo_ask_80 rfl ?_
            refine go_bipush (v := 8) hF d_Mo_ask_81 (by decide) ?_
            refine go_iload_n hF d_Mo_ask_83 rfl ?_
            refine go_callVX hF hE hlo d_Mo_ask_84 (con_Mo_setGate hlt h4 (k := 8) hx hg rfl (by decide) _) mt_Mo_setGate mv_Mo_setGate lk_Mo_46 ⟨rfl, rfl, by decide, by decide⟩ rfl (Nat.le_of_ble_eq_true rfl) ⟨by decide, by decide⟩ (fun H hG => gw_recv (q := (R_Mo, T_Mo, 9)) hK hG h4 rfl rfl (by decide) rfl) (fun M => gx_no) rfl (fun v => ?_)
            refine go_and (fun hv => ?_)
            subst hv
            refine go_aload_n hF d_Mo_ask_87 rfl ?_
            refine go_iload_n hF d_Mo_ask_88 rfl ?_
            refine go_bipush (v := 9) hF d_Mo_ask_89 (by decide) ?_
            refine go_iconst (v := -1) hF d_Mo_ask_91 (by decide) ?_
            refine go_callVX hF hE hlo d_Mo_ask_92 (con_Mo_setGate hlt h4 (k := 9) hx hg rfl (by decide) _) mt_Mo_setGate mv_Mo_setGate lk_Mo_46 ⟨rfl, rfl, by decide, by decide⟩ rfl (Nat.le_of_ble_eq_true rfl) ⟨by decide, by decide⟩ (fun H hG => gw_recv (q := (R_Mo, T_Mo, 9)) hK hG h4 rfl rfl (by decide) rfl) (fun M => gx_no) rfl (fun v => ?_)
            refine go_and (fun hv => ?_)
            subst hv
            refine go_goto (tgt := 159) hF d_Mo_ask_95 (by decide) ?_
            exact go_vret hF hM d_Mo_ask_159 (by decide) (by decide) (fun H hG => ⟨rfl, by clear hF hM hE hK hT hlo htab hnm; unfold askF; (repeat' split) <;> first | exact hG | (exfalso; simp_all; done) | (exfalso; simp only [Int32.lt_iff_toInt_lt, Int32.le_iff_toInt_le] at *; omega)⟩)
          · refine go_iload_n hF d_Mo_ask_71 rfl ?_
            refine go_goto (tgt := 76) hF d_Mo_ask_72 (by decide) ?_
            refine go_callVX hF hE hlo d_Mo_ask_76 (con_Mo_setGate hlt h4 (k := 7) hx hg rfl (by decide) _) mt_Mo_setGate mv_Mo_setGate lk_Mo_46 ⟨rfl, rfl, by decide, by decide⟩ rfl (Nat.le_of_ble_eq_true rfl) ⟨by decide, by decide⟩ (fun H hG => gw_recv (q := (R_Mo, T_Mo, 9)) hK hG h4 rfl rfl (by decide) rfl) (fun M => gx_no) rfl (fun v => ?_)
            refine go_and (fun hv => ?_)
            subst hv
            refine go_aload_n hF d_Mo_ask_79 rfl ?_
            refine go_iload_n hF d_Mo_ask_80 rfl ?_
            refine go_bipush (v := 8) hF d_Mo_ask_81 (by decide) ?_
            refine go_iload_n hF d_Mo_ask_83 rfl ?_
            refine go_callVX hF hE hlo d_Mo_ask_84 (con_Mo_setGate hlt h4 (k := 8) hx hg rfl (by decide) _) mt_Mo_setGate mv_Mo_setGate lk_Mo_46 ⟨rfl, rfl, by decide, by decide⟩ rfl (Nat.le_of_ble_eq_true rfl) ⟨by decide, by decide⟩ (fun H hG => gw_recv (q := (R_Mo, T_Mo, 9)) hK hG h4 rfl rfl (by decide) rfl) (fun M => gx_no) rfl (fun v => ?_)
            refine go_and (fun hv => ?_)
            subst hv
            refine go_aload_n hF d_Mo_ask_87 rfl ?_
            refine go_iload_n hF d_Mo_ask_88 rfl ?_
            refine go_bipush (v := 9) hF d_Mo_ask_89 (by decide) ?_
            refine go_iconst (v := -1) hF d_Mo_ask_91 (by decide) ?_
            refine go_callVX hF hE hlo d_Mo_ask_92 (con_Mo_setGate hlt h4 (k := 9) hx hg rfl (by decide) _) mt_Mo_setGate mv_Mo_setGate lk_Mo_46 ⟨rfl, rfl, by decide, by decide⟩ rfl (Nat.le_of_ble_eq_true rfl) ⟨by decide, by decide⟩ (fun H hG => gw_recv (q := (R_Mo, T_Mo, 9)) hK hG h4 rfl rfl (by decide) rfl) (fun M => gx_no) rfl (fun v => ?_)
            refine go_and (fun hv => ?_)
            subst hv
            refine go_goto (tgt := 159) hF d_Mo_ask_95 (by decide) ?_
            exact go_vret hF hM d_Mo_ask_159 (by decide) (by decide) (fun H hG => ⟨rfl, by clear hF hM hE hK hT hlo htab hnm; unfold askF; (repeat' split) <;> first | exact hG | (exfalso; simp_all; done) | (exfalso; simp only [Int32.lt_iff_toInt_lt, Int32.le_iff_toInt_le] at *; omega)⟩)
        · refine go_iconst (v := 1) hF d_Mo_ask_55 (by decide) ?_
          refine go_goto (tgt := 60) hF d_Mo_ask_56 (by decide) ?_
          refine go_istore hF d_Mo_ask_60 (by decide) ?_
          refine go_lv (lv' := [(0, _), (1, _), (2, _), (3, _), (4, _), (5, _)]) ⟨rfl, rfl, rfl, rfl, rfl, rfl, trivial⟩ ?_
          refine go_aload_n hF d_Mo_ask_62 rfl ?_
          refine go_iload_n hF d_Mo_ask_63 rfl ?_
          refine go_bipush (v := 7) hF d_Mo_ask_64 (by decide) ?_
          refine go_iload hF d_Mo_ask_66 rfl ?_
          refine go_if_eq (tgt := 75) hF d_Mo_ask_68 (by decide) (fun h68 => ?_) (fun h68 => ?_)
          · refine go_iconst (v := -1) hF d_Mo_ask_75 (by decide) ?_
            refine go_callVX hF hE hlo d_Mo_ask_76 (con_Mo_setGate hlt h4 (k := 7) hx hg rfl (by decide) _) mt_Mo_setGate mv_Mo_setGate lk_Mo_46 ⟨rfl, rfl, by decide, by decide⟩ rfl (Nat.le_of_ble_eq_true rfl) ⟨by decide, by decide⟩ (fun H hG => gw_recv (q := (R_Mo, T_Mo, 9)) hK hG h4 rfl rfl (by decide) rfl) (fun M => gx_no) rfl (fun v => ?_)
            refine go_and (fun hv => ?_)
            subst hv
            refine go_aload_n hF d_Mo_ask_79 rfl ?_
            refine go_iload_n hF d_Mo_ask_80 rfl ?_
            refine go_bipush (v := 8) hF d_Mo_ask_81 (by decide) ?_
            refine go_iload_n hF d_Mo_ask_83 rfl ?_
            refine go_callVX hF hE hlo d_Mo_ask_84 (con_Mo_setGate hlt h4 (k := 8) hx hg rfl (by decide) _) mt_Mo_setGate mv_Mo_setGate lk_Mo_46 ⟨rfl, rfl, by decide, by decide⟩ rfl (Nat.le_of_ble_eq_true rfl) ⟨by decide, by decide⟩ (fun H hG => gw_recv (q := (R_Mo, T_Mo, 9)) hK hG h4 rfl rfl (by decide) rfl) (fun M => gx_no) rfl (fun v => ?_)
            refine go_and (fun hv => ?_)
            subst hv
            refine go_aload_n hF d_Mo_ask_87 rfl ?_
            refine go_iload_n hF d_Mo_ask_88 rfl ?_
            refine go_bipush (v := 9) hF d_Mo_ask_89 (by decide) ?_
            refine go_iconst (v := -1) hF d_Mo_ask_91 (by decide) ?_
            refine go_callVX hF hE hlo d_Mo_ask_92 (con_Mo_setGate hlt h4 (k := 9) hx hg rfl (by decide) _) mt_Mo_setGate mv_Mo_setGate lk_Mo_46 ⟨rfl, rfl, by decide, by decide⟩ rfl (Nat.le_of_ble_eq_true rfl) ⟨by decide, by decide⟩ (fun H hG => gw_recv (q := (R_Mo, T_Mo, 9)) hK hG h4 rfl rfl (by decide) rfl) (fun M => gx_no) rfl (fun v => ?_)
            refine go_and (fun hv => ?_)
            subst hv
            refine go_goto (tgt := 159) hF d_Mo_ask_95 (by decide) ?_
            exact go_vret hF hM d_Mo_ask_159 (by decide) (by decide) (fun H hG => ⟨rfl, by clear hF hM hE hK hT hlo htab hnm; unfold askF; (repeat' split) <;> first | exact hG | (exfalso; simp_all; done) | (exfalso; simp only [Int32.lt_iff_toInt_lt, Int32.le_iff_toInt_le] at *; omega)⟩)
          · refine go_iload_n hF d_Mo_ask_71 rfl ?_
            refine go_goto (tgt := 76) hF d_Mo_ask_72 (by decide) ?_
            refine go_callVX hF hE hlo d_Mo_ask_76 (con_Mo_setGate hlt h4 (k := 7) hx hg rfl (by decide) _) mt_Mo_setGate mv_Mo_setGate lk_Mo_46 ⟨rfl, rfl, by decide, by decide⟩ rfl (Nat.le_of_ble_eq_true rfl) ⟨by decide, by decide⟩ (fun H hG => gw_recv (q := (R_Mo, T_Mo, 9)) hK hG h4 rfl rfl (by decide) rfl) (fun M => gx_no) rfl (fun v => ?_)
            refine go_and (fun hv => ?_)
            subst hv
            refine go_aload_n hF d_Mo_ask_79 rfl ?_
            refine go_iload_n hF d_Mo_ask_80 rfl ?_
            refine go_bipush (v := 8) hF d_Mo_ask_81 (by decide) ?_
            refine go_iload_n hF d_Mo_ask_83 rfl ?_
            refine go_callVX hF hE hlo d_Mo_ask_84 (con_Mo_setGate hlt h4 (k := 8) hx hg rfl (by decide) _) mt_Mo_setGate mv_Mo_setGate lk_Mo_46 ⟨rfl, rfl, by decide, by decide⟩ rfl (Nat.le_of_ble_eq_true rfl) ⟨by decide, by decide⟩ (fun H hG => gw_recv (q := (R_Mo, T_Mo, 9)) hK hG h4 rfl rfl (by decide) rfl) (fun M => gx_no) rfl (fun v => ?_)
            refine go_and (fun hv => ?_)
            subst hv
            refine go_aload_n hF d_Mo_ask_87 rfl ?_
            refine go_iload_n hF d_Mo_ask_88 rfl ?_
            refine go_bipush (v := 9) hF d_Mo_ask_89 (by decide) ?_
            refine go_iconst (v := -1) hF d_Mo_ask_91 (by decide) ?_
            refine go_callVX hF hE hlo d_Mo_ask_92 (con_Mo_setGate hlt h4 (k := 9) hx hg rfl (by decide) _) mt_Mo_setGate mv_Mo_setGate lk_Mo_46 ⟨rfl, rfl, by decide, by decide⟩ rfl (Nat.le_of_ble_eq_true rfl) ⟨by decide, by decide⟩ (fun H hG => gw_recv (q := (R_Mo, T_Mo, 9)) hK hG h4 rfl rfl (by decide) rfl) (fun M => gx_no) rfl (fun v => ?_)
            refine go_and (fun hv => ?_)
            subst hv
            refine go_goto (tgt := 159) hF d_Mo_ask_95 (by decide) ?_
            exact go_vret hF hM d_Mo_ask_159 (by decide) (by decide) (fun H hG => ⟨rfl, by clear hF hM hE hK hT hlo htab hnm; unfold askF; (repeat' split) <;> first | exact hG | (exfalso; simp_all; done) | (exfalso; simp only [Int32.lt_iff_toInt_lt, Int32.le_iff_toInt_le] at *; omega)⟩)
