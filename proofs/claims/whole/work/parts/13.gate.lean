def bi (p : Prop) [Decidable p] : Int32 := if p then 1 else 0
def opn (x : Int32) : Int32 := if x = 3 then 2 else x
/-- what a gate gives: kind, what it has, the values at A and B -/
def gvs (kd hs a b : Int32) : Int32 :=
  if kd = 1 then (if opn a = 2 then 2 else 1 - opn a)
  else if kd = 2 then (if opn a = 0 ∨ opn b = 0 then 0 else if opn a = 1 ∧ opn b = 1 then 1 else 2)
  else if kd = 3 then (if opn a = 1 ∨ opn b = 1 then 1 else if opn a = 0 ∧ opn b = 0 then 0 else 2)
  else if kd = 4 then (if opn a = 2 ∨ opn b = 2 then 2 else if opn a = opn b then 0 else 1)
  else if kd = 5 then (if opn b = 1 then opn a else if opn b = 0 then 3 else 2)
  else if kd = 6 then (if opn b = 1 then opn a else if opn b = 0 ∨ hs = opn a then hs else 2)
  else opn a
def dly (rise fall v : Int32) : Int32 := if v = 0 then fall else if v = 1 then rise else if v = 2 then (if fall < rise then fall else rise) else (if rise < fall then fall else rise)
def mxl (x y : Int64) : Int64 := if y < x then x else y
def askW (w : wdT) (ι g : Nat) (v : Int32) (t : Int64) (rl : Int32) : wdT :=
  if v = wI w 0 ι 14 7 g then sI w 0 ι 14 9 g (-1)
  else if ¬ wI w 0 ι 14 7 g = -1 ∧ rl = 1 then
    sL (sI (sI w 0 ι 14 7 g 2) 0 ι 14 9 g v) 0 ι 14 10 g (mxl (wL w 0 ι 14 8 g) (t + (dly (wI w 0 ι 14 4 g) (wI w 0 ι 14 5 g) v).toInt64))
  else sI (sL (sI w 0 ι 14 7 g (if v = wI w 0 ι 14 6 g then -1 else v)) 0 ι 14 8 g (t + (dly (wI w 0 ι 14 4 g) (wI w 0 ι 14 5 g) v).toInt64)) 0 ι 14 9 g (-1)

set_option maxHeartbeats 4000000 in
set_option maxRecDepth 100000 in
theorem con_Ci_hasNet {l : Launch} (hlt : l.stackTraces = false) {E : gE} {B : bsT} {N : nwT} {w : wdT} {ι : Nat} (ho : N.1 0 ι = true) (x : Int32) : Con l E y_Ci_hasNet (Cond.code y_Ci_hasNet c_Ci_hasNet 2 (some .boolean) :: gAll) rm_Ci_hasNet [.ref (ad B 0 ι 0 0), .int x] (gw E B N w) (fun v H => v = some (.int (bi (0 ≤ x ∧ x < wI w 0 ι 0 2 0))) ∧ gw E B N w H) (fun _ _ => False) 0 0 := by
  refine con_of (by decide) hlt (Nat.le_of_ble_eq_true rfl) ?_
  intro F hF hM htab hnm hE hlo hl
  subst hl
  have hF : Fb F c_Ci_hasNet R_Ci 2 rm_Ci_hasNet := hF
  have hK := hE.1
  have hT := hE.2.1
  refine go_lv (lv' := [(0, _), (1, _)]) ⟨rfl, rfl, trivial⟩ ?_
  refine go_iload_n hF d_Ci_hasNet_0 rfl ?_
  refine go_if_lt (tgt := 16) hF d_Ci_hasNet_1 (by decide) (fun h1 => ?_) (fun h1 => ?_)
  · refine go_iconst (v := 0) hF d_Ci_hasNet_16 (by decide) ?_
    exact go_zret hF hM d_Ci_hasNet_17 rfl (by decide) (by decide) (fun H hG => ⟨by clear hF hM hE hK hT hlo htab hnm; unfold bi; (try simp only [Int32.lt_iff_toInt_lt, Int32.le_iff_toInt_le, Int64.lt_iff_toInt_lt, Int64.le_iff_toInt_le, ← Int32.toInt_inj, ← Int64.toInt_inj] at h1 ⊢); split <;> first | rfl | (exfalso; omega), hG⟩)
  · refine go_iload_n hF d_Ci_hasNet_4 rfl ?_
    refine go_aload_n hF d_Ci_hasNet_5 rfl ?_
    refine gs_geti hF hK d_Ci_hasNet_6 fl_Ci_54 ho rfl rfl (by decide) rfl ?_
    refine go_icmp_ge (tgt := 16) hF d_Ci_hasNet_9 (by decide) (fun h9 => ?_) (fun h9 => ?_)
    · refine go_iconst (v := 0) hF d_Ci_hasNet_16 (by decide) ?_
      exact go_zret hF hM d_Ci_hasNet_17 rfl (by decide) (by decide) (fun H hG => ⟨by clear hF hM hE hK hT hlo htab hnm; unfold bi; (try simp only [Int32.lt_iff_toInt_lt, Int32.le_iff_toInt_le, Int64.lt_iff_toInt_lt, Int64.le_iff_toInt_le, ← Int32.toInt_inj, ← Int64.toInt_inj] at h1 h9 ⊢); split <;> first | rfl | (exfalso; omega), hG⟩)
    · refine go_iconst (v := 1) hF d_Ci_hasNet_12 (by decide) ?_
      refine go_goto (tgt := 17) hF d_Ci_hasNet_13 (by decide) ?_
      exact go_zret hF hM d_Ci_hasNet_17 rfl (by decide) (by decide) (fun H hG => ⟨by clear hF hM hE hK hT hlo htab hnm; unfold bi; (try simp only [Int32.lt_iff_toInt_lt, Int32.le_iff_toInt_le, Int64.lt_iff_toInt_lt, Int64.le_iff_toInt_le, ← Int32.toInt_inj, ← Int64.toInt_inj] at h1 h9 ⊢); split <;> first | rfl | (exfalso; omega), hG⟩)
set_option maxHeartbeats 4000000 in
set_option maxRecDepth 100000 in
theorem con_Ci_isToCome {l : Launch} (hlt : l.stackTraces = false) {E : gE} {B : bsT} {N : nwT} {w : wdT} {ι : Nat} (ho : N.1 0 ι = true) (x : Int64) : Con l E y_Ci_isToCome (Cond.code y_Ci_isToCome c_Ci_isToCome 3 (some .boolean) :: gAll) rm_Ci_isToCome [.ref (ad B 0 ι 0 0), .long x] (gw E B N w) (fun v H => v = some (.int (bi (wL w 0 ι 0 0 0 ≤ x ∧ x ≤ 1000000000))) ∧ gw E B N w H) (fun _ _ => False) 0 0 := by
  refine con_of (by decide) hlt (Nat.le_of_ble_eq_true rfl) ?_
  intro F hF hM htab hnm hE hlo hl
  subst hl
  have hF : Fb F c_Ci_isToCome R_Ci 3 rm_Ci_isToCome := hF
  have hK := hE.1
  have hT := hE.2.1
  refine go_lv (lv' := [(0, _), (1, _)]) ⟨rfl, rfl, trivial⟩ ?_
  refine go_lload_n hF d_Ci_isToCome_0 rfl ?_
  refine go_aload_n hF d_Ci_isToCome_1 rfl ?_
  refine gs_getl hF hK d_Ci_isToCome_2 fl_Ci_50 ho rfl rfl (by decide) rfl ?_
  refine go_lif_lt (tgt := 21) hF d_Ci_isToCome_5 d_Ci_isToCome_6 (by decide) (fun h5 => ?_) (fun h5 => ?_)
  · refine go_iconst (v := 0) hF d_Ci_isToCome_21 (by decide) ?_
    exact go_zret hF hM d_Ci_isToCome_22 rfl (by decide) (by decide) (fun H hG => ⟨by clear hF hM hE hK hT hlo htab hnm; unfold bi; (try simp only [Int32.lt_iff_toInt_lt, Int32.le_iff_toInt_le, Int64.lt_iff_toInt_lt, Int64.le_iff_toInt_le, ← Int32.toInt_inj, ← Int64.toInt_inj] at h5 ⊢); split <;> first | rfl | (exfalso; omega), hG⟩)
  · refine go_lload_n hF d_Ci_isToCome_9 rfl ?_
    refine go_ldc2 hF kl_Ci_79 d_Ci_isToCome_10 ?_
    refine go_lif_gt (tgt := 21) hF d_Ci_isToCome_13 d_Ci_isToCome_14 (by decide) (fun h13 => ?_) (fun h13 => ?_)
    · refine go_iconst (v := 0) hF d_Ci_isToCome_21 (by decide) ?_
      exact go_zret hF hM d_Ci_isToCome_22 rfl (by decide) (by decide) (fun H hG => ⟨by clear hF hM hE hK hT hlo htab hnm; unfold bi; (try simp only [Int32.lt_iff_toInt_lt, Int32.le_iff_toInt_le, Int64.lt_iff_toInt_lt, Int64.le_iff_toInt_le, ← Int32.toInt_inj, ← Int64.toInt_inj] at h5 h13 ⊢); split <;> first | rfl | (exfalso; omega), hG⟩)
    · refine go_iconst (v := 1) hF d_Ci_isToCome_17 (by decide) ?_
      refine go_goto (tgt := 22) hF d_Ci_isToCome_18 (by decide) ?_
      exact go_zret hF hM d_Ci_isToCome_22 rfl (by decide) (by decide) (fun H hG => ⟨by clear hF hM hE hK hT hlo htab hnm; unfold bi; (try simp only [Int32.lt_iff_toInt_lt, Int32.le_iff_toInt_le, Int64.lt_iff_toInt_lt, Int64.le_iff_toInt_le, ← Int32.toInt_inj, ← Int64.toInt_inj] at h5 h13 ⊢); split <;> first | rfl | (exfalso; omega), hG⟩)
set_option maxHeartbeats 4000000 in
set_option maxRecDepth 100000 in
theorem con_Ch_isWithin {l : Launch} (hlt : l.stackTraces = false) {E : gE} {B : bsT} {N : nwT} {w : wdT} {ι i : Nat} (ho : N.1 0 ι = true) (hi : i < 20) (x t : Int64) : Con l E y_Ch_isWithin (Cond.code y_Ch_isWithin c_Ch_isWithin 5 (some .boolean) :: gAll) rm_Ch_isWithin [.ref (ad B 0 ι 15 i), .long x, .long t] (gw E B N w) (fun v H => v = some (.int (bi (¬ x = -1 ∧ t - x < (wI w 0 ι 15 3 i).toInt64))) ∧ gw E B N w H) (fun _ _ => False) 0 0 := by
  refine con_of (by decide) hlt (Nat.le_of_ble_eq_true rfl) ?_
  intro F hF hM htab hnm hE hlo hl
  subst hl
  have hF : Fb F c_Ch_isWithin R_Ch 5 rm_Ch_isWithin := hF
  have hK := hE.1
  have hT := hE.2.1
  refine go_lv (lv' := [(0, _), (1, _), (3, _)]) ⟨rfl, rfl, rfl, trivial⟩ ?_
  refine go_lload_n hF d_Ch_isWithin_0 rfl ?_
  refine go_ldc2 hF kl_Ch_27 d_Ch_isWithin_1 ?_
  refine go_lif_eq (tgt := 24) hF d_Ch_isWithin_4 d_Ch_isWithin_5 (by decide) (fun h4 => ?_) (fun h4 => ?_)
  · refine go_iconst (v := 0) hF d_Ch_isWithin_24 (by decide) ?_
    exact go_zret hF hM d_Ch_isWithin_25 rfl (by decide) (by decide) (fun H hG => ⟨by clear hF hM hE hK hT hlo htab hnm; unfold bi; (try simp only [Int32.lt_iff_toInt_lt, Int32.le_iff_toInt_le, Int64.lt_iff_toInt_lt, Int64.le_iff_toInt_le, ← Int32.toInt_inj, ← Int64.toInt_inj] at h4 ⊢); split <;> first | rfl | (exfalso; omega), hG⟩)
  · refine go_lload_n hF d_Ch_isWithin_8 rfl ?_
    refine go_lload_n hF d_Ch_isWithin_9 rfl ?_
    refine go_lsub hF d_Ch_isWithin_10 ?_
    refine go_aload_n hF d_Ch_isWithin_11 rfl ?_
    refine gs_geti hF hK d_Ch_isWithin_12 fl_Ch_21 ho rfl rfl hi rfl ?_
    refine go_i2l hF d_Ch_isWithin_15 ?_
    refine go_lif_ge (tgt := 24) hF d_Ch_isWithin_16 d_Ch_isWithin_17 (by decide) (fun h16 => ?_) (fun h16 => ?_)
    · refine go_iconst (v := 0) hF d_Ch_isWithin_24 (by decide) ?_
      exact go_zret hF hM d_Ch_isWithin_25 rfl (by decide) (by decide) (fun H hG => ⟨by clear hF hM hE hK hT hlo htab hnm; unfold bi; (try simp only [Int32.lt_iff_toInt_lt, Int32.le_iff_toInt_le, Int64.lt_iff_toInt_lt, Int64.le_iff_toInt_le, ← Int32.toInt_inj, ← Int64.toInt_inj] at h4 h16 ⊢); split <;> first | rfl | (exfalso; omega), hG⟩)
    · refine go_iconst (v := 1) hF d_Ch_isWithin_20 (by decide) ?_
      refine go_goto (tgt := 25) hF d_Ch_isWithin_21 (by decide) ?_
      exact go_zret hF hM d_Ch_isWithin_25 rfl (by decide) (by decide) (fun H hG => ⟨by clear hF hM hE hK hT hlo htab hnm; unfold bi; (try simp only [Int32.lt_iff_toInt_lt, Int32.le_iff_toInt_le, Int64.lt_iff_toInt_lt, Int64.le_iff_toInt_le, ← Int32.toInt_inj, ← Int64.toInt_inj] at h4 h16 ⊢); split <;> first | rfl | (exfalso; omega), hG⟩)
set_option maxHeartbeats 4000000 in
set_option maxRecDepth 100000 in
theorem con_Ga_hears {l : Launch} (hlt : l.stackTraces = false) {E : gE} {B : bsT} {N : nwT} {w : wdT} {ι i : Nat} (ho : N.1 0 ι = true) (hi : i < 32) (x r : Int32) : Con l E y_Ga_hears (Cond.code y_Ga_hears c_Ga_hears 3 (some .boolean) :: gAll) rm_Ga_hears [.ref (ad B 0 ι 14 i), .int x, .int r] (gw E B N w) (fun v H => v = some (.int (bi ((wI w 0 ι 14 0 i = 7 ∧ wI w 0 ι 14 2 i = x ∧ ¬ r = 0) ∨ (¬ wI w 0 ι 14 0 i = 7 ∧ (wI w 0 ι 14 1 i = x ∨ wI w 0 ι 14 2 i = x))))) ∧ gw E B N w H) (fun _ _ => False) 0 0 := by
  refine con_of (by decide) hlt (Nat.le_of_ble_eq_true rfl) ?_
  intro F hF hM htab hnm hE hlo hl
  subst hl
  have hF : Fb F c_Ga_hears R_Ga 3 rm_Ga_hears := hF
  have hK := hE.1
  have hT := hE.2.1
  refine go_lv (lv' := [(0, _), (1, _), (2, _)]) ⟨rfl, rfl, rfl, trivial⟩ ?_
  refine go_aload_n hF d_Ga_hears_0 rfl ?_
  refine gs_geti hF hK d_Ga_hears_1 fl_Ga_9 ho rfl rfl hi rfl ?_
  refine go_bipush (v := 7) hF d_Ga_hears_4 (by decide) ?_
  refine go_icmp_ne (tgt := 29) hF d_Ga_hears_6 (by decide) (fun h6 => ?_) (fun h6 => ?_)
  · refine go_aload_n hF d_Ga_hears_29 rfl ?_
    refine gs_geti hF hK d_Ga_hears_30 fl_Ga_15 ho rfl rfl hi rfl ?_
    refine go_iload_n hF d_Ga_hears_33 rfl ?_
    refine go_icmp_eq (tgt := 45) hF d_Ga_hears_34 (by decide) (fun h34 => ?_) (fun h34 => ?_)
    · refine go_iconst (v := 1) hF d_Ga_hears_45 (by decide) ?_
      refine go_goto (tgt := 50) hF d_Ga_hears_46 (by decide) ?_
      exact go_zret hF hM d_Ga_hears_50 rfl (by decide) (by decide) (fun H hG => ⟨by clear hG; clear hF hM hE hK hT hlo htab hnm; unfold bi; split <;> simp_all, hG⟩)
    · refine go_aload_n hF d_Ga_hears_37 rfl ?_
      refine gs_geti hF hK d_Ga_hears_38 fl_Ga_18 ho rfl rfl hi rfl ?_
      refine go_iload_n hF d_Ga_hears_41 rfl ?_
      refine go_icmp_ne (tgt := 49) hF d_Ga_hears_42 (by decide) (fun h42 => ?_) (fun h42 => ?_)
      · refine go_iconst (v := 0) hF d_Ga_hears_49 (by decide) ?_
        exact go_zret hF hM d_Ga_hears_50 rfl (by decide) (by decide) (fun H hG => ⟨by clear hG; clear hF hM hE hK hT hlo htab hnm; unfold bi; split <;> simp_all, hG⟩)
      · refine go_iconst (v := 1) hF d_Ga_hears_45 (by decide) ?_
        refine go_goto (tgt := 50) hF d_Ga_hears_46 (by decide) ?_
        exact go_zret hF hM d_Ga_hears_50 rfl (by decide) (by decide) (fun H hG => ⟨by clear hG; clear hF hM hE hK hT hlo htab hnm; unfold bi; split <;> simp_all, hG⟩)
  · refine go_aload_n hF d_Ga_hears_9 rfl ?_
    refine gs_geti hF hK d_Ga_hears_10 fl_Ga_18 ho rfl rfl hi rfl ?_
    refine go_iload_n hF d_Ga_hears_13 rfl ?_
    refine go_icmp_ne (tgt := 25) hF d_Ga_hears_14 (by decide) (fun h14 => ?_) (fun h14 => ?_)
    · refine go_iconst (v := 0) hF d_Ga_hears_25 (by decide) ?_
      refine go_goto (tgt := 50) hF d_Ga_hears_26 (by decide) ?_
      exact go_zret hF hM d_Ga_hears_50 rfl (by decide) (by decide) (fun H hG => ⟨by clear hG; clear hF hM hE hK hT hlo htab hnm; unfold bi; split <;> simp_all, hG⟩)
    · refine go_iload_n hF d_Ga_hears_17 rfl ?_
      refine go_if_eq (tgt := 25) hF d_Ga_hears_18 (by decide) (fun h18 => ?_) (fun h18 => ?_)
      · refine go_iconst (v := 0) hF d_Ga_hears_25 (by decide) ?_
        refine go_goto (tgt := 50) hF d_Ga_hears_26 (by decide) ?_
        exact go_zret hF hM d_Ga_hears_50 rfl (by decide) (by decide) (fun H hG => ⟨by clear hG; clear hF hM hE hK hT hlo htab hnm; unfold bi; split <;> simp_all, hG⟩)
      · refine go_iconst (v := 1) hF d_Ga_hears_21 (by decide) ?_
        refine go_goto (tgt := 50) hF d_Ga_hears_22 (by decide) ?_
        exact go_zret hF hM d_Ga_hears_50 rfl (by decide) (by decide) (fun H hG => ⟨by clear hG; clear hF hM hE hK hT hlo htab hnm; unfold bi; split <;> simp_all, hG⟩)
set_option maxHeartbeats 4000000 in
set_option maxRecDepth 100000 in
theorem con_Ga_gives {l : Launch} (hlt : l.stackTraces = false) {E : gE} {B : bsT} {N : nwT} {w : wdT} {ι i : Nat} (ho : N.1 0 ι = true) (hi : i < 32) (a b : Int32) : Con l E y_Ga_gives (Cond.code y_Ga_gives c_Ga_gives 5 (some .int) :: gAll) rm_Ga_gives [.ref (ad B 0 ι 14 i), .int a, .int b] (gw E B N w) (fun v H => v = some (.int (gvs (wI w 0 ι 14 0 i) (wI w 0 ι 14 6 i) a b)) ∧ gw E B N w H) (fun _ _ => False) 0 0 := by
  refine con_of (by decide) hlt (Nat.le_of_ble_eq_true rfl) ?_
  intro F hF hM htab hnm hE hlo hl
  subst hl
  have hF : Fb F c_Ga_gives R_Ga 5 rm_Ga_gives := hF
  have hK := hE.1
  have hT := hE.2.1
  refine go_lv (lv' := [(0, _), (1, _), (2, _)]) ⟨rfl, rfl, rfl, trivial⟩ ?_
  have J23 : ∀ (x y : Int32), x = opn a → y = opn b → Go F 23 [(0, .ref (ad B 0 ι 14 i)), (1, .int a), (2, .int b), (3, .int x), (4, .int y)] [] (gw E B N w) 0 0 := by
    intro x y j23_0 j23_1
    refine go_aload_n hF d_Ga_gives_23 rfl ?_
    refine gs_geti hF hK d_Ga_gives_24 fl_Ga_9 ho rfl rfl hi rfl ?_
    refine go_topi (fun x27 hx27 => ?_)
    by_cases e27_1 : x27 = 1
    · rw [e27_1]
      refine go_tableIn (off := 37) (tgt := 64) hF d_Ga_gives_27 (by decide) (by decide) (by decide) (by decide) ?_
      refine go_iload_n hF d_Ga_gives_64 rfl ?_
      refine go_iconst (v := 2) hF d_Ga_gives_65 (by decide) ?_
      refine go_icmp_ne (tgt := 73) hF d_Ga_gives_66 (by decide) (fun h66 => ?_) (fun h66 => ?_)
      · refine go_iconst (v := 1) hF d_Ga_gives_73 (by decide) ?_
        refine go_iload_n hF d_Ga_gives_74 rfl ?_
        refine go_isub hF d_Ga_gives_75 ?_
        exact go_iret hF hM d_Ga_gives_76 (by decide) (by decide) (fun H hG => ⟨by clear hG; clear hF hM hE hK hT hlo htab hnm; subst j23_0 j23_1; unfold gvs; simp_all, hG⟩)
      · refine go_iconst (v := 2) hF d_Ga_gives_69 (by decide) ?_
        refine go_goto (tgt := 76) hF d_Ga_gives_70 (by decide) ?_
        exact go_iret hF hM d_Ga_gives_76 (by decide) (by decide) (fun H hG => ⟨by clear hG; clear hF hM hE hK hT hlo htab hnm; subst j23_0 j23_1; unfold gvs; simp_all, hG⟩)
    by_cases e27_2 : x27 = 2
    · rw [e27_2]
      refine go_tableIn (off := 50) (tgt := 77) hF d_Ga_gives_27 (by decide) (by decide) (by decide) (by decide) ?_
      refine go_iload_n hF d_Ga_gives_77 rfl ?_
      refine go_if_eq (tgt := 86) hF d_Ga_gives_78 (by decide) (fun h78 => ?_) (fun h78 => ?_)
      · refine go_iconst (v := 0) hF d_Ga_gives_86 (by decide) ?_
        refine go_goto (tgt := 106) hF d_Ga_gives_87 (by decide) ?_
        exact go_iret hF hM d_Ga_gives_106 (by decide) (by decide) (fun H hG => ⟨by clear hG; clear hF hM hE hK hT hlo htab hnm; subst j23_0 j23_1; unfold gvs; simp_all, hG⟩)
      · refine go_iload hF d_Ga_gives_81 rfl ?_
        refine go_if_ne (tgt := 90) hF d_Ga_gives_83 (by decide) (fun h83 => ?_) (fun h83 => ?_)
        · refine go_iload_n hF d_Ga_gives_90 rfl ?_
          refine go_iconst (v := 1) hF d_Ga_gives_91 (by decide) ?_
          refine go_icmp_ne (tgt := 105) hF d_Ga_gives_92 (by decide) (fun h92 => ?_) (fun h92 => ?_)
          · refine go_iconst (v := 2) hF d_Ga_gives_105 (by decide) ?_
            exact go_iret hF hM d_Ga_gives_106 (by decide) (by decide) (fun H hG => ⟨by clear hG; clear hF hM hE hK hT hlo htab hnm; subst j23_0 j23_1; unfold gvs; simp_all, hG⟩)
          · refine go_iload hF d_Ga_gives_95 rfl ?_
            refine go_iconst (v := 1) hF d_Ga_gives_97 (by decide) ?_
            refine go_icmp_ne (tgt := 105) hF d_Ga_gives_98 (by decide) (fun h98 => ?_) (fun h98 => ?_)
            · refine go_iconst (v := 2) hF d_Ga_gives_105 (by decide) ?_
              exact go_iret hF hM d_Ga_gives_106 (by decide) (by decide) (fun H hG => ⟨by clear hG; clear hF hM hE hK hT hlo htab hnm; subst j23_0 j23_1; unfold gvs; simp_all, hG⟩)
            · refine go_iconst (v := 1) hF d_Ga_gives_101 (by decide) ?_
              refine go_goto (tgt := 106) hF d_Ga_gives_102 (by decide) ?_
              exact go_iret hF hM d_Ga_gives_106 (by decide) (by decide) (fun H hG => ⟨by clear hG; clear hF hM hE hK hT hlo htab hnm; subst j23_0 j23_1; unfold gvs; simp_all, hG⟩)
        · refine go_iconst (v := 0) hF d_Ga_gives_86 (by decide) ?_
          refine go_goto (tgt := 106) hF d_Ga_gives_87 (by decide) ?_
          exact go_iret hF hM d_Ga_gives_106 (by decide) (by decide) (fun H hG => ⟨by clear hG; clear hF hM hE hK hT hlo htab hnm; subst j23_0 j23_1; unfold gvs; simp_all, hG⟩)
    by_cases e27_3 : x27 = 3
    · rw [e27_3]
      refine go_tableIn (off := 80) (tgt := 107) hF d_Ga_gives_27 (by decide) (by decide) (by decide) (by decide) ?_
      refine go_iload_n hF d_Ga_gives_107 rfl ?_
      refine go_iconst (v := 1) hF d_Ga_gives_108 (by decide) ?_
      refine go_icmp_eq (tgt := 118) hF d_Ga_gives_109 (by decide) (fun h109 => ?_) (fun h109 => ?_)
      · refine go_iconst (v := 1) hF d_Ga_gives_118 (by decide) ?_
        refine go_goto (tgt := 136) hF d_Ga_gives_119 (by decide) ?_
        exact go_iret hF hM d_Ga_gives_136 (by decide) (by decide) (fun H hG => ⟨by clear hG; clear hF hM hE hK hT hlo htab hnm; subst j23_0 j23_1; unfold gvs; simp_all, hG⟩)
      · refine go_iload hF d_Ga_gives_112 rfl ?_
        refine go_iconst (v := 1) hF d_Ga_gives_114 (by decide) ?_
        refine go_icmp_ne (tgt := 122) hF d_Ga_gives_115 (by decide) (fun h115 => ?_) (fun h115 => ?_)
        · refine go_iload_n hF d_Ga_gives_122 rfl ?_
          refine go_if_ne (tgt := 135) hF d_Ga_gives_123 (by decide) (fun h123 => ?_) (fun h123 => ?_)
          · refine go_iconst (v := 2) hF d_Ga_gives_135 (by decide) ?_
            exact go_iret hF hM d_Ga_gives_136 (by decide) (by decide) (fun H hG => ⟨by clear hG; clear hF hM hE hK hT hlo htab hnm; subst j23_0 j23_1; unfold gvs; simp_all, hG⟩)
          · refine go_iload hF d_Ga_gives_126 rfl ?_
            refine go_if_ne (tgt := 135) hF d_Ga_gives_128 (by decide) (fun h128 => ?_) (fun h128 => ?_)
            · refine go_iconst (v := 2) hF d_Ga_gives_135 (by decide) ?_
              exact go_iret hF hM d_Ga_gives_136 (by decide) (by decide) (fun H hG => ⟨by clear hG; clear hF hM hE hK hT hlo htab hnm; subst j23_0 j23_1; unfold gvs; simp_all, hG⟩)
            · refine go_iconst (v := 0) hF d_Ga_gives_131 (by decide) ?_
              refine go_goto (tgt := 136) hF d_Ga_gives_132 (by decide) ?_
              exact go_iret hF hM d_Ga_gives_136 (by decide) (by decide) (fun H hG => ⟨by clear hG; clear hF hM hE hK hT hlo htab hnm; subst j23_0 j23_1; unfold gvs; simp_all, hG⟩)
        · refine go_iconst (v := 1) hF d_Ga_gives_118 (by decide) ?_
          refine go_goto (tgt := 136) hF d_Ga_gives_119 (by decide) ?_
          exact go_iret hF hM d_Ga_gives_136 (by decide) (by decide) (fun H hG => ⟨by clear hG; clear hF hM hE hK hT hlo htab hnm; subst j23_0 j23_1; unfold gvs; simp_all, hG⟩)
    by_cases e27_4 : x27 = 4
    · rw [e27_4]
      refine go_tableIn (off := 110) (tgt := 137) hF d_Ga_gives_27 (by decide) (by decide) (by decide) (by decide) ?_
      refine go_iload_n hF d_Ga_gives_137 rfl ?_
      refine go_iconst (v := 2) hF d_Ga_gives_138 (by decide) ?_
      refine go_icmp_eq (tgt := 148) hF d_Ga_gives_139 (by decide) (fun h139 => ?_) (fun h139 => ?_)
      · refine go_iconst (v := 2) hF d_Ga_gives_148 (by decide) ?_
        refine go_goto (tgt := 163) hF d_Ga_gives_149 (by decide) ?_
        exact go_iret hF hM d_Ga_gives_163 (by decide) (by decide) (fun H hG => ⟨by clear hG; clear hF hM hE hK hT hlo htab hnm; subst j23_0 j23_1; unfold gvs; simp_all, hG⟩)
      · refine go_iload hF d_Ga_gives_142 rfl ?_
        refine go_iconst (v := 2) hF d_Ga_gives_144 (by decide) ?_
        refine go_icmp_ne (tgt := 152) hF d_Ga_gives_145 (by decide) (fun h145 => ?_) (fun h145 => ?_)
        · refine go_iload_n hF d_Ga_gives_152 rfl ?_
          refine go_iload hF d_Ga_gives_153 rfl ?_
          refine go_icmp_ne (tgt := 162) hF d_Ga_gives_155 (by decide) (fun h155 => ?_) (fun h155 => ?_)
          · refine go_iconst (v := 1) hF d_Ga_gives_162 (by decide) ?_
            exact go_iret hF hM d_Ga_gives_163 (by decide) (by decide) (fun H hG => ⟨by clear hG; clear hF hM hE hK hT hlo htab hnm; subst j23_0 j23_1; unfold gvs; simp_all, hG⟩)
          · refine go_iconst (v := 0) hF d_Ga_gives_158 (by decide) ?_
            refine go_goto (tgt := 163) hF d_Ga_gives_159 (by decide) ?_
            exact go_iret hF hM d_Ga_gives_163 (by decide) (by decide) (fun H hG => ⟨by clear hG; clear hF hM hE hK hT hlo htab hnm; subst j23_0 j23_1; unfold gvs; simp_all, hG⟩)
        · refine go_iconst (v := 2) hF d_Ga_gives_148 (by decide) ?_
          refine go_goto (tgt := 163) hF d_Ga_gives_149 (by decide) ?_
          exact go_iret hF hM d_Ga_gives_163 (by decide) (by decide) (fun H hG => ⟨by clear hG; clear hF hM hE hK hT hlo htab hnm; subst j23_0 j23_1; unfold gvs; simp_all, hG⟩)
    by_cases e27_5 : x27 = 5
    · rw [e27_5]
      refine go_tableIn (off := 137) (tgt := 164) hF d_Ga_gives_27 (by decide) (by decide) (by decide) (by decide) ?_
      refine go_iload hF d_Ga_gives_164 rfl ?_
      refine go_iconst (v := 1) hF d_Ga_gives_166 (by decide) ?_
      refine go_icmp_ne (tgt := 174) hF d_Ga_gives_167 (by decide) (fun h167 => ?_) (fun h167 => ?_)
      · refine go_iload hF d_Ga_gives_174 rfl ?_
        refine go_if_ne (tgt := 183) hF d_Ga_gives_176 (by decide) (fun h176 => ?_) (fun h176 => ?_)
        · refine go_iconst (v := 2) hF d_Ga_gives_183 (by decide) ?_
          exact go_iret hF hM d_Ga_gives_184 (by decide) (by decide) (fun H hG => ⟨by clear hG; clear hF hM hE hK hT hlo htab hnm; subst j23_0 j23_1; unfold gvs; simp_all, hG⟩)
        · refine go_iconst (v := 3) hF d_Ga_gives_179 (by decide) ?_
          refine go_goto (tgt := 184) hF d_Ga_gives_180 (by decide) ?_
          exact go_iret hF hM d_Ga_gives_184 (by decide) (by decide) (fun H hG => ⟨by clear hG; clear hF hM hE hK hT hlo htab hnm; subst j23_0 j23_1; unfold gvs; simp_all, hG⟩)
      · refine go_iload_n hF d_Ga_gives_170 rfl ?_
        refine go_goto (tgt := 184) hF d_Ga_gives_171 (by decide) ?_
        exact go_iret hF hM d_Ga_gives_184 (by decide) (by decide) (fun H hG => ⟨by clear hG; clear hF hM hE hK hT hlo htab hnm; subst j23_0 j23_1; unfold gvs; simp_all, hG⟩)
    by_cases e27_6 : x27 = 6
    · rw [e27_6]
      refine go_tableIn (off := 158) (tgt := 185) hF d_Ga_gives_27 (by decide) (by decide) (by decide) (by decide) ?_
      refine go_iload hF d_Ga_gives_185 rfl ?_
      refine go_iconst (v := 1) hF d_Ga_gives_187 (by decide) ?_
      refine go_icmp_ne (tgt := 195) hF d_Ga_gives_188 (by decide) (fun h188 => ?_) (fun h188 => ?_)
      · refine go_iload hF d_Ga_gives_195 rfl ?_
        refine go_if_eq (tgt := 208) hF d_Ga_gives_197 (by decide) (fun h197 => ?_) (fun h197 => ?_)
        · refine go_aload_n hF d_Ga_gives_208 rfl ?_
          refine gs_geti hF hK d_Ga_gives_209 fl_Ga_30 ho rfl rfl hi rfl ?_
          refine go_goto (tgt := 216) hF d_Ga_gives_212 (by decide) ?_
          exact go_iret hF hM d_Ga_gives_216 (by decide) (by decide) (fun H hG => ⟨by clear hG; clear hF hM hE hK hT hlo htab hnm; subst j23_0 j23_1; unfold gvs; simp_all, hG⟩)
        · refine go_aload_n hF d_Ga_gives_200 rfl ?_
          refine gs_geti hF hK d_Ga_gives_201 fl_Ga_30 ho rfl rfl hi rfl ?_
          refine go_iload_n hF d_Ga_gives_204 rfl ?_
          refine go_icmp_ne (tgt := 215) hF d_Ga_gives_205 (by decide) (fun h205 => ?_) (fun h205 => ?_)
          · refine go_iconst (v := 2) hF d_Ga_gives_215 (by decide) ?_
            exact go_iret hF hM d_Ga_gives_216 (by decide) (by decide) (fun H hG => ⟨by clear hG; clear hF hM hE hK hT hlo htab hnm; subst j23_0 j23_1; unfold gvs; simp_all, hG⟩)
          · refine go_aload_n hF d_Ga_gives_208 rfl ?_
            refine gs_geti hF hK d_Ga_gives_209 fl_Ga_30 ho rfl rfl hi rfl ?_
            refine go_goto (tgt := 216) hF d_Ga_gives_212 (by decide) ?_
            exact go_iret hF hM d_Ga_gives_216 (by decide) (by decide) (fun H hG => ⟨by clear hG; clear hF hM hE hK hT hlo htab hnm; subst j23_0 j23_1; unfold gvs; simp_all, hG⟩)
      · refine go_iload_n hF d_Ga_gives_191 rfl ?_
        refine go_goto (tgt := 216) hF d_Ga_gives_192 (by decide) ?_
        exact go_iret hF hM d_Ga_gives_216 (by decide) (by decide) (fun H hG => ⟨by clear hG; clear hF hM hE hK hT hlo htab hnm; subst j23_0 j23_1; unfold gvs; simp_all, hG⟩)
    refine go_tableOut (tgt := 217) hF d_Ga_gives_27 (tsw_out (fun c h1 h2 => by
      rcases (show c = 1 ∨ c = 2 ∨ c = 3 ∨ c = 4 ∨ c = 5 ∨ c = 6 by omega) with rfl | rfl | rfl | rfl | rfl | rfl
      · exact e27_1
      · exact e27_2
      · exact e27_3
      · exact e27_4
      · exact e27_5
      · exact e27_6)) (by decide) ?_
    refine go_iload_n hF d_Ga_gives_217 rfl ?_
    exact go_iret hF hM d_Ga_gives_218 (by decide) (by decide) (fun H hG => ⟨by clear hG; clear hF hM hE hK hT hlo htab hnm; subst j23_0 j23_1; unfold gvs; simp_all, hG⟩)
  have J21 : ∀ (x y : Int32), x = opn a → y = opn b → Go F 21 [(0, .ref (ad B 0 ι 14 i)), (1, .int a), (2, .int b), (3, .int x)] [.int y] (gw E B N w) 0 0 := by
    intro x y j21_0 j21_1
    refine go_istore hF d_Ga_gives_21 (by decide) ?_
    refine go_lv (lv' := [(0, _), (1, _), (2, _), (3, _), (4, _)]) ⟨rfl, rfl, rfl, rfl, rfl, trivial⟩ ?_
    exact J23 _ _ j21_0 j21_1
  have J10 : ∀ (x : Int32), x = opn a → Go F 10 [(0, .ref (ad B 0 ι 14 i)), (1, .int a), (2, .int b)] [.int x] (gw E B N w) 0 0 := by
    intro x j10_0
    refine go_istore_n hF d_Ga_gives_10 (by decide) ?_
    refine go_lv (lv' := [(0, _), (1, _), (2, _), (3, _)]) ⟨rfl, rfl, rfl, rfl, trivial⟩ ?_
    refine go_iload_n hF d_Ga_gives_11 rfl ?_
    refine go_iconst (v := 3) hF d_Ga_gives_12 (by decide) ?_
    refine go_icmp_ne (tgt := 20) hF d_Ga_gives_13 (by decide) (fun h13 => ?_) (fun h13 => ?_)
    · refine go_iload_n hF d_Ga_gives_20 rfl ?_
      exact J21 _ _ j10_0 (by simp [opn, *])
    · refine go_iconst (v := 2) hF d_Ga_gives_16 (by decide) ?_
      refine go_goto (tgt := 21) hF d_Ga_gives_17 (by decide) ?_
      exact J21 _ _ j10_0 (by simp [opn, *])
  refine go_iload_n hF d_Ga_gives_0 rfl ?_
  refine go_iconst (v := 3) hF d_Ga_gives_1 (by decide) ?_
  refine go_icmp_ne (tgt := 9) hF d_Ga_gives_2 (by decide) (fun h2 => ?_) (fun h2 => ?_)
  · refine go_iload_n hF d_Ga_gives_9 rfl ?_
    exact J10 _ (by simp [opn, *])
  · refine go_iconst (v := 2) hF d_Ga_gives_5 (by decide) ?_
    refine go_goto (tgt := 10) hF d_Ga_gives_6 (by decide) ?_
    exact J10 _ (by simp [opn, *])
set_option maxHeartbeats 4000000 in
set_option maxRecDepth 100000 in
theorem con_Ga_delayTo {l : Launch} (hlt : l.stackTraces = false) {E : gE} {B : bsT} {N : nwT} {w : wdT} {ι i : Nat} (ho : N.1 0 ι = true) (hi : i < 32) (x : Int32) : Con l E y_Ga_delayTo (Cond.code y_Ga_delayTo c_Ga_delayTo 2 (some .int) :: gAll) rm_Ga_delayTo [.ref (ad B 0 ι 14 i), .int x] (gw E B N w) (fun v H => v = some (.int (dly (wI w 0 ι 14 4 i) (wI w 0 ι 14 5 i) x)) ∧ gw E B N w H) (fun _ _ => False) 0 0 := by
  refine con_of (by decide) hlt (Nat.le_of_ble_eq_true rfl) ?_
  intro F hF hM htab hnm hE hlo hl
  subst hl
  have hF : Fb F c_Ga_delayTo R_Ga 2 rm_Ga_delayTo := hF
  have hK := hE.1
  have hT := hE.2.1
  refine go_lv (lv' := [(0, _), (1, _)]) ⟨rfl, rfl, trivial⟩ ?_
  refine go_iload_n hF d_Ga_delayTo_0 rfl ?_
  refine go_topi (fun x1 hx1 => ?_)
  by_cases e1_0 : x1 = 0
  · rw [e1_0]
    refine go_tableIn (off := 27) (tgt := 28) hF d_Ga_delayTo_1 (by decide) (by decide) (by decide) (by decide) ?_
    refine go_aload_n hF d_Ga_delayTo_28 rfl ?_
    refine gs_geti hF hK d_Ga_delayTo_29 fl_Ga_27 ho rfl rfl hi rfl ?_
    exact go_iret hF hM d_Ga_delayTo_32 (by decide) (by decide) (fun H hG => ⟨by clear hG; clear hF hM hE hK hT hlo htab hnm; unfold dly; simp_all, hG⟩)
  by_cases e1_1 : x1 = 1
  · rw [e1_1]
    refine go_tableIn (off := 32) (tgt := 33) hF d_Ga_delayTo_1 (by decide) (by decide) (by decide) (by decide) ?_
    refine go_aload_n hF d_Ga_delayTo_33 rfl ?_
    refine gs_geti hF hK d_Ga_delayTo_34 fl_Ga_24 ho rfl rfl hi rfl ?_
    exact go_iret hF hM d_Ga_delayTo_37 (by decide) (by decide) (fun H hG => ⟨by clear hG; clear hF hM hE hK hT hlo htab hnm; unfold dly; simp_all, hG⟩)
  by_cases e1_2 : x1 = 2
  · rw [e1_2]
    refine go_tableIn (off := 37) (tgt := 38) hF d_Ga_delayTo_1 (by decide) (by decide) (by decide) (by decide) ?_
    refine go_aload_n hF d_Ga_delayTo_38 rfl ?_
    refine gs_geti hF hK d_Ga_delayTo_39 fl_Ga_24 ho rfl rfl hi rfl ?_
    refine go_aload_n hF d_Ga_delayTo_42 rfl ?_
    refine gs_geti hF hK d_Ga_delayTo_43 fl_Ga_27 ho rfl rfl hi rfl ?_
    refine go_min_int hF lj_Ga_46 d_Ga_delayTo_46 (by decide) (Nat.le_of_ble_eq_true rfl) (by decide) (by decide) ?_
    exact go_iret hF hM d_Ga_delayTo_49 (by decide) (by decide) (fun H hG => ⟨by clear hG; clear hF hM hE hK hT hlo htab hnm; unfold dly; simp_all, hG⟩)
  refine go_tableOut (tgt := 50) hF d_Ga_delayTo_1 (tsw_out (fun c h1 h2 => by
    rcases (show c = 0 ∨ c = 1 ∨ c = 2 by omega) with rfl | rfl | rfl
    · exact e1_0
    · exact e1_1
    · exact e1_2)) (by decide) ?_
  refine go_aload_n hF d_Ga_delayTo_50 rfl ?_
  refine gs_geti hF hK d_Ga_delayTo_51 fl_Ga_24 ho rfl rfl hi rfl ?_
  refine go_aload_n hF d_Ga_delayTo_54 rfl ?_
  refine gs_geti hF hK d_Ga_delayTo_55 fl_Ga_27 ho rfl rfl hi rfl ?_
  refine go_max_int hF lj_Ga_52 d_Ga_delayTo_58 (by decide) (Nat.le_of_ble_eq_true rfl) (by decide) (by decide) ?_
  exact go_iret hF hM d_Ga_delayTo_61 (by decide) (by decide) (fun H hG => ⟨by clear hG; clear hF hM hE hK hT hlo htab hnm; unfold dly; simp_all, hG⟩)
set_option maxHeartbeats 4000000 in
set_option maxRecDepth 100000 in
theorem con_Ga_ask {l : Launch} (hlt : l.stackTraces = false) {E : gE} {B : bsT} {N : nwT} {w : wdT} {ι i : Nat} (ho : N.1 0 ι = true) (hi : i < 32) (x : Int32) (t : Int64) (rl : Int32) : Con l E y_Ga_ask (Cond.code y_Ga_ask c_Ga_ask 7 none :: gAll) rm_Ga_ask [.ref (ad B 0 ι 14 i), .int x, .long t, .int rl] (gw E B N w) (fun v H => v = none ∧ gw E B N (askW w ι i x t rl) H) (fun _ _ => False) 0 0 := by
  refine con_of (by decide) hlt (Nat.le_of_ble_eq_true rfl) ?_
  intro F hF hM htab hnm hE hlo hl
  subst hl
  have hF : Fb F c_Ga_ask R_Ga 7 rm_Ga_ask := hF
  have hK := hE.1
  have hT := hE.2.1
  refine go_lv (lv' := [(0, _), (1, _), (2, _), (4, _)]) ⟨rfl, rfl, rfl, rfl, trivial⟩ ?_
  refine go_iload_n hF d_Ga_ask_0 rfl ?_
  refine go_aload_n hF d_Ga_ask_1 rfl ?_
  refine gs_geti hF hK d_Ga_ask_2 fl_Ga_33 ho rfl rfl hi rfl ?_
  refine go_icmp_ne (tgt := 14) hF d_Ga_ask_5 (by decide) (fun h5 => ?_) (fun h5 => ?_)
  · refine go_lload_n hF d_Ga_ask_14 rfl ?_
    refine go_aload_n hF d_Ga_ask_15 rfl ?_
    refine go_iload_n hF d_Ga_ask_16 rfl ?_
    refine go_callVX hF hE hlo d_Ga_ask_17 (con_Ga_delayTo hlt ho hi x) mt_Ga_delayTo mv_Ga_delayTo lk_Ga_55 ⟨rfl, rfl, by decide, by decide⟩ rfl (Nat.le_of_ble_eq_true rfl) ⟨by decide, by decide⟩ (fun H hG => gw_recv (q := (R_Ga, T_Ga, 11)) hK hG ho rfl rfl hi rfl) (fun M => gx_no) rfl (fun v => ?_)
    refine go_and (fun hv => ?_)
    subst hv
    refine go_i2l hF d_Ga_ask_20 ?_
    refine go_ladd hF d_Ga_ask_21 ?_
    refine go_lstore hF d_Ga_ask_22 (by decide) ?_
    refine go_lv (lv' := [(0, _), (1, _), (2, _), (4, _), (5, _)]) ⟨rfl, rfl, rfl, rfl, rfl, trivial⟩ ?_
    refine go_aload_n hF d_Ga_ask_24 rfl ?_
    refine gs_geti hF hK d_Ga_ask_25 fl_Ga_33 ho rfl rfl hi rfl ?_
    refine go_iconst (v := -1) hF d_Ga_ask_28 (by decide) ?_
    refine go_icmp_eq (tgt := 62) hF d_Ga_ask_29 (by decide) (fun h29 => ?_) (fun h29 => ?_)
    · refine go_aload_n hF d_Ga_ask_62 rfl ?_
      refine go_iload_n hF d_Ga_ask_63 rfl ?_
      refine go_aload_n hF d_Ga_ask_64 rfl ?_
      refine gs_geti hF hK d_Ga_ask_65 fl_Ga_30 ho rfl rfl hi rfl ?_
      refine go_icmp_ne (tgt := 75) hF d_Ga_ask_68 (by decide) (fun h68 => ?_) (fun h68 => ?_)
      · refine go_iload_n hF d_Ga_ask_75 rfl ?_
        refine gs_puti hF hK hlo d_Ga_ask_76 fl_Ga_33 ct_Ga fs_Ga_7 ho rfl rfl hi rfl rfl ?_
        refine go_aload_n hF d_Ga_ask_79 rfl ?_
        refine go_lload hF d_Ga_ask_80 rfl ?_
        refine gs_putl hF hK hlo d_Ga_ask_82 fl_Ga_39 ct_Ga fs_Ga_8 ho rfl rfl hi rfl rfl ?_
        refine go_aload_n hF d_Ga_ask_85 rfl ?_
        refine go_iconst (v := -1) hF d_Ga_ask_86 (by decide) ?_
        refine gs_puti hF hK hlo d_Ga_ask_87 fl_Ga_36 ct_Ga fs_Ga_9 ho rfl rfl hi rfl rfl ?_
        exact go_vret hF hM d_Ga_ask_90 (by decide) (by decide) (fun H hG => ⟨rfl, by clear hF hM hE hK hT hlo htab hnm; unfold askW; (repeat' split) <;> first | exact hG | (exfalso; simp_all)⟩)
      · refine go_iconst (v := -1) hF d_Ga_ask_71 (by decide) ?_
        refine go_goto (tgt := 76) hF d_Ga_ask_72 (by decide) ?_
        refine gs_puti hF hK hlo d_Ga_ask_76 fl_Ga_33 ct_Ga fs_Ga_7 ho rfl rfl hi rfl rfl ?_
        refine go_aload_n hF d_Ga_ask_79 rfl ?_
        refine go_lload hF d_Ga_ask_80 rfl ?_
        refine gs_putl hF hK hlo d_Ga_ask_82 fl_Ga_39 ct_Ga fs_Ga_8 ho rfl rfl hi rfl rfl ?_
        refine go_aload_n hF d_Ga_ask_85 rfl ?_
        refine go_iconst (v := -1) hF d_Ga_ask_86 (by decide) ?_
        refine gs_puti hF hK hlo d_Ga_ask_87 fl_Ga_36 ct_Ga fs_Ga_9 ho rfl rfl hi rfl rfl ?_
        exact go_vret hF hM d_Ga_ask_90 (by decide) (by decide) (fun H hG => ⟨rfl, by clear hF hM hE hK hT hlo htab hnm; unfold askW; (repeat' split) <;> first | exact hG | (exfalso; simp_all)⟩)
    · refine go_iload hF d_Ga_ask_32 rfl ?_
      refine go_iconst (v := 1) hF d_Ga_ask_34 (by decide) ?_
      refine go_icmp_ne (tgt := 62) hF d_Ga_ask_35 (by decide) (fun h35 => ?_) (fun h35 => ?_)
      · refine go_aload_n hF d_Ga_ask_62 rfl ?_
        refine go_iload_n hF d_Ga_ask_63 rfl ?_
        refine go_aload_n hF d_Ga_ask_64 rfl ?_
        refine gs_geti hF hK d_Ga_ask_65 fl_Ga_30 ho rfl rfl hi rfl ?_
        refine go_icmp_ne (tgt := 75) hF d_Ga_ask_68 (by decide) (fun h68 => ?_) (fun h68 => ?_)
        · refine go_iload_n hF d_Ga_ask_75 rfl ?_
          refine gs_puti hF hK hlo d_Ga_ask_76 fl_Ga_33 ct_Ga fs_Ga_7 ho rfl rfl hi rfl rfl ?_
          refine go_aload_n hF d_Ga_ask_79 rfl ?_
          refine go_lload hF d_Ga_ask_80 rfl ?_
          refine gs_putl hF hK hlo d_Ga_ask_82 fl_Ga_39 ct_Ga fs_Ga_8 ho rfl rfl hi rfl rfl ?_
          refine go_aload_n hF d_Ga_ask_85 rfl ?_
          refine go_iconst (v := -1) hF d_Ga_ask_86 (by decide) ?_
          refine gs_puti hF hK hlo d_Ga_ask_87 fl_Ga_36 ct_Ga fs_Ga_9 ho rfl rfl hi rfl rfl ?_
          exact go_vret hF hM d_Ga_ask_90 (by decide) (by decide) (fun H hG => ⟨rfl, by clear hF hM hE hK hT hlo htab hnm; unfold askW; (repeat' split) <;> first | exact hG | (exfalso; simp_all)⟩)
        · refine go_iconst (v := -1) hF d_Ga_ask_71 (by decide) ?_
          refine go_goto (tgt := 76) hF d_Ga_ask_72 (by decide) ?_
          refine gs_puti hF hK hlo d_Ga_ask_76 fl_Ga_33 ct_Ga fs_Ga_7 ho rfl rfl hi rfl rfl ?_
          refine go_aload_n hF d_Ga_ask_79 rfl ?_
          refine go_lload hF d_Ga_ask_80 rfl ?_
          refine gs_putl hF hK hlo d_Ga_ask_82 fl_Ga_39 ct_Ga fs_Ga_8 ho rfl rfl hi rfl rfl ?_
          refine go_aload_n hF d_Ga_ask_85 rfl ?_
          refine go_iconst (v := -1) hF d_Ga_ask_86 (by decide) ?_
          refine gs_puti hF hK hlo d_Ga_ask_87 fl_Ga_36 ct_Ga fs_Ga_9 ho rfl rfl hi rfl rfl ?_
          exact go_vret hF hM d_Ga_ask_90 (by decide) (by decide) (fun H hG => ⟨rfl, by clear hF hM hE hK hT hlo htab hnm; unfold askW; (repeat' split) <;> first | exact hG | (exfalso; simp_all)⟩)
      · refine go_aload_n hF d_Ga_ask_38 rfl ?_
        refine go_iconst (v := 2) hF d_Ga_ask_39 (by decide) ?_
        refine gs_puti hF hK hlo d_Ga_ask_40 fl_Ga_33 ct_Ga fs_Ga_7 ho rfl rfl hi rfl rfl ?_
        refine go_aload_n hF d_Ga_ask_43 rfl ?_
        refine go_iload_n hF d_Ga_ask_44 rfl ?_
        refine gs_puti hF hK hlo d_Ga_ask_45 fl_Ga_36 ct_Ga fs_Ga_9 ho rfl rfl hi rfl rfl ?_
        refine go_aload_n hF d_Ga_ask_48 rfl ?_
        refine go_aload_n hF d_Ga_ask_49 rfl ?_
        refine gs_getl hF hK d_Ga_ask_50 fl_Ga_39 ho rfl rfl hi rfl ?_
        refine go_lload hF d_Ga_ask_53 rfl ?_
        refine go_max_long hF lj_Ga_59 d_Ga_ask_55 (by decide) (Nat.le_of_ble_eq_true rfl) (by decide) (by decide) ?_
        refine gs_putl hF hK hlo d_Ga_ask_58 fl_Ga_43 ct_Ga fs_Ga_10 ho rfl rfl hi rfl rfl ?_
        exact go_vret hF hM d_Ga_ask_61 (by decide) (by decide) (fun H hG => ⟨rfl, by clear hF hM hE hK hT hlo htab hnm; unfold askW; (repeat' split) <;> first | exact hG | (exfalso; simp_all)⟩)
  · refine go_aload_n hF d_Ga_ask_8 rfl ?_
    refine go_iconst (v := -1) hF d_Ga_ask_9 (by decide) ?_
    refine gs_puti hF hK hlo d_Ga_ask_10 fl_Ga_36 ct_Ga fs_Ga_9 ho rfl rfl hi rfl rfl ?_
    exact go_vret hF hM d_Ga_ask_13 (by decide) (by decide) (fun H hG => ⟨rfl, by clear hF hM hE hK hT hlo htab hnm; unfold askW; (repeat' split) <;> first | exact hG | (exfalso; simp_all)⟩)
def tkW (w : wdT) (ι g : Nat) : wdT :=
  sI (sL (sI (sI w 0 ι 14 6 g (wI w 0 ι 14 7 g)) 0 ι 14 7 g (if wI w 0 ι 14 9 g = wI w 0 ι 14 7 g then -1 else wI w 0 ι 14 9 g)) 0 ι 14 8 g (wL w 0 ι 14 10 g)) 0 ι 14 9 g (-1)
set_option maxHeartbeats 4000000 in
set_option maxRecDepth 100000 in
theorem con_Ga_takeWaiting {l : Launch} (hlt : l.stackTraces = false) {E : gE} {B : bsT} {N : nwT} {w : wdT} {ι i : Nat} (ho : N.1 0 ι = true) (hi : i < 32) : Con l E y_Ga_takeWaiting (Cond.code y_Ga_takeWaiting c_Ga_takeWaiting 1 none :: gAll) rm_Ga_takeWaiting [.ref (ad B 0 ι 14 i)] (gw E B N w) (fun v H => v = none ∧ gw E B N (tkW w ι i) H) (fun _ _ => False) 0 0 := by
  refine con_of (by decide) hlt (Nat.le_of_ble_eq_true rfl) ?_
  intro F hF hM htab hnm hE hlo hl
  subst hl
  have hF : Fb F c_Ga_takeWaiting R_Ga 1 rm_Ga_takeWaiting := hF
  have hK := hE.1
  have hT := hE.2.1
  refine go_lv (lv' := [(0, _)]) ⟨rfl, trivial⟩ ?_
  refine go_aload_n hF d_Ga_takeWaiting_0 rfl ?_
  refine go_aload_n hF d_Ga_takeWaiting_1 rfl ?_
  refine gs_geti hF hK d_Ga_takeWaiting_2 fl_Ga_33 ho rfl rfl hi rfl ?_
  refine gs_puti hF hK hlo d_Ga_takeWaiting_5 fl_Ga_30 ct_Ga fs_Ga_6 ho rfl rfl hi rfl rfl ?_
  refine go_aload_n hF d_Ga_takeWaiting_8 rfl ?_
  refine go_aload_n hF d_Ga_takeWaiting_9 rfl ?_
  refine gs_geti hF hK d_Ga_takeWaiting_10 fl_Ga_36 ho rfl rfl hi rfl ?_
  refine go_aload_n hF d_Ga_takeWaiting_13 rfl ?_
  refine gs_geti hF hK d_Ga_takeWaiting_14 fl_Ga_30 ho rfl rfl hi rfl ?_
  refine go_icmp_ne (tgt := 24) hF d_Ga_takeWaiting_17 (by decide) (fun h17 => ?_) (fun h17 => ?_)
  · refine go_aload_n hF d_Ga_takeWaiting_24 rfl ?_
    refine gs_geti hF hK d_Ga_takeWaiting_25 fl_Ga_36 ho rfl rfl hi rfl ?_
    refine gs_puti hF hK hlo d_Ga_takeWaiting_28 fl_Ga_33 ct_Ga fs_Ga_7 ho rfl rfl hi rfl rfl ?_
    refine go_aload_n hF d_Ga_takeWaiting_31 rfl ?_
    refine go_aload_n hF d_Ga_takeWaiting_32 rfl ?_
    refine gs_getl hF hK d_Ga_takeWaiting_33 fl_Ga_43 ho rfl rfl hi rfl ?_
    refine gs_putl hF hK hlo d_Ga_takeWaiting_36 fl_Ga_39 ct_Ga fs_Ga_8 ho rfl rfl hi rfl rfl ?_
    refine go_aload_n hF d_Ga_takeWaiting_39 rfl ?_
    refine go_iconst (v := -1) hF d_Ga_takeWaiting_40 (by decide) ?_
    refine gs_puti hF hK hlo d_Ga_takeWaiting_41 fl_Ga_36 ct_Ga fs_Ga_9 ho rfl rfl hi rfl rfl ?_
    exact go_vret hF hM d_Ga_takeWaiting_44 (by decide) (by decide) (fun H hG => ⟨rfl, by clear hF hM hE hK hT hlo htab hnm; simp only [rd_II, rd_LL, rd_PP, rd_IL, rd_IP, rd_LI, rd_LP, rd_PI, rd_PL, eq_self, true_and, and_true, false_and, and_false, if_true, if_false, reduceIte, reduceCtorEq, Nat.reduceEqDiff, Nat.one_ne_zero, Nat.zero_ne_one] at hG h17; unfold tkW; split <;> first | exact hG | (exfalso; simp_all)⟩)
  · refine go_iconst (v := -1) hF d_Ga_takeWaiting_20 (by decide) ?_
    refine go_goto (tgt := 28) hF d_Ga_takeWaiting_21 (by decide) ?_
    refine gs_puti hF hK hlo d_Ga_takeWaiting_28 fl_Ga_33 ct_Ga fs_Ga_7 ho rfl rfl hi rfl rfl ?_
    refine go_aload_n hF d_Ga_takeWaiting_31 rfl ?_
    refine go_aload_n hF d_Ga_takeWaiting_32 rfl ?_
    refine gs_getl hF hK d_Ga_takeWaiting_33 fl_Ga_43 ho rfl rfl hi rfl ?_
    refine gs_putl hF hK hlo d_Ga_takeWaiting_36 fl_Ga_39 ct_Ga fs_Ga_8 ho rfl rfl hi rfl rfl ?_
    refine go_aload_n hF d_Ga_takeWaiting_39 rfl ?_
    refine go_iconst (v := -1) hF d_Ga_takeWaiting_40 (by decide) ?_
    refine gs_puti hF hK hlo d_Ga_takeWaiting_41 fl_Ga_36 ct_Ga fs_Ga_9 ho rfl rfl hi rfl rfl ?_
    exact go_vret hF hM d_Ga_takeWaiting_44 (by decide) (by decide) (fun H hG => ⟨rfl, by clear hF hM hE hK hT hlo htab hnm; simp only [rd_II, rd_LL, rd_PP, rd_IL, rd_IP, rd_LI, rd_LP, rd_PI, rd_PL, eq_self, true_and, and_true, false_and, and_false, if_true, if_false, reduceIte, reduceCtorEq, Nat.reduceEqDiff, Nat.one_ne_zero, Nat.zero_ne_one] at hG h17; unfold tkW; split <;> first | exact hG | (exfalso; simp_all)⟩)
def dlW (w : wdT) (ι g : Nat) (r f : Int32) : wdT := sI (sI w 0 ι 14 4 g r) 0 ι 14 5 g f
set_option maxHeartbeats 4000000 in
set_option maxRecDepth 100000 in
theorem con_Ga_takeDelays {l : Launch} (hlt : l.stackTraces = false) {E : gE} {B : bsT} {N : nwT} {w : wdT} {ι i : Nat} (ho : N.1 0 ι = true) (hi : i < 32) (x y : Int32) : Con l E y_Ga_takeDelays (Cond.code y_Ga_takeDelays c_Ga_takeDelays 4 (some .boolean) :: gAll) rm_Ga_takeDelays [.ref (ad B 0 ι 14 i), .int x, .int y] (gw E B N w) (fun v H => v = some (.int (bi (¬ wI w 0 ι 14 4 i = x ∨ ¬ wI w 0 ι 14 5 i = y))) ∧ gw E B N (dlW w ι i x y) H) (fun _ _ => False) 0 0 := by
  refine con_of (by decide) hlt (Nat.le_of_ble_eq_true rfl) ?_
  intro F hF hM htab hnm hE hlo hl
  subst hl
  have hF : Fb F c_Ga_takeDelays R_Ga 4 rm_Ga_takeDelays := hF
  have hK := hE.1
  have hT := hE.2.1
  refine go_lv (lv' := [(0, _), (1, _), (2, _)]) ⟨rfl, rfl, rfl, trivial⟩ ?_
  refine go_aload_n hF d_Ga_takeDelays_0 rfl ?_
  refine gs_geti hF hK d_Ga_takeDelays_1 fl_Ga_24 ho rfl rfl hi rfl ?_
  refine go_iload_n hF d_Ga_takeDelays_4 rfl ?_
  refine go_icmp_ne (tgt := 16) hF d_Ga_takeDelays_5 (by decide) (fun h5 => ?_) (fun h5 => ?_)
  · refine go_iconst (v := 1) hF d_Ga_takeDelays_16 (by decide) ?_
    refine go_goto (tgt := 21) hF d_Ga_takeDelays_17 (by decide) ?_
    refine go_istore_n hF d_Ga_takeDelays_21 (by decide) ?_
    refine go_lv (lv' := [(0, _), (1, _), (2, _), (3, _)]) ⟨rfl, rfl, rfl, rfl, trivial⟩ ?_
    refine go_aload_n hF d_Ga_takeDelays_22 rfl ?_
    refine go_iload_n hF d_Ga_takeDelays_23 rfl ?_
    refine gs_puti hF hK hlo d_Ga_takeDelays_24 fl_Ga_24 ct_Ga fs_Ga_4 ho rfl rfl hi rfl rfl ?_
    refine go_aload_n hF d_Ga_takeDelays_27 rfl ?_
    refine go_iload_n hF d_Ga_takeDelays_28 rfl ?_
    refine gs_puti hF hK hlo d_Ga_takeDelays_29 fl_Ga_27 ct_Ga fs_Ga_5 ho rfl rfl hi rfl rfl ?_
    refine go_iload_n hF d_Ga_takeDelays_32 rfl ?_
    exact go_zret hF hM d_Ga_takeDelays_33 rfl (by decide) (by decide) (fun H hG => ⟨by clear hG; clear hF hM hE hK hT hlo htab hnm; unfold bi; split <;> simp_all, hG⟩)
  · refine go_aload_n hF d_Ga_takeDelays_8 rfl ?_
    refine gs_geti hF hK d_Ga_takeDelays_9 fl_Ga_27 ho rfl rfl hi rfl ?_
    refine go_iload_n hF d_Ga_takeDelays_12 rfl ?_
    refine go_icmp_eq (tgt := 20) hF d_Ga_takeDelays_13 (by decide) (fun h13 => ?_) (fun h13 => ?_)
    · refine go_iconst (v := 0) hF d_Ga_takeDelays_20 (by decide) ?_
      refine go_istore_n hF d_Ga_takeDelays_21 (by decide) ?_
      refine go_lv (lv' := [(0, _), (1, _), (2, _), (3, _)]) ⟨rfl, rfl, rfl, rfl, trivial⟩ ?_
      refine go_aload_n hF d_Ga_takeDelays_22 rfl ?_
      refine go_iload_n hF d_Ga_takeDelays_23 rfl ?_
      refine gs_puti hF hK hlo d_Ga_takeDelays_24 fl_Ga_24 ct_Ga fs_Ga_4 ho rfl rfl hi rfl rfl ?_
      refine go_aload_n hF d_Ga_takeDelays_27 rfl ?_
      refine go_iload_n hF d_Ga_takeDelays_28 rfl ?_
      refine gs_puti hF hK hlo d_Ga_takeDelays_29 fl_Ga_27 ct_Ga fs_Ga_5 ho rfl rfl hi rfl rfl ?_
      refine go_iload_n hF d_Ga_takeDelays_32 rfl ?_
      exact go_zret hF hM d_Ga_takeDelays_33 rfl (by decide) (by decide) (fun H hG => ⟨by clear hG; clear hF hM hE hK hT hlo htab hnm; unfold bi; split <;> simp_all, hG⟩)
    · refine go_iconst (v := 1) hF d_Ga_takeDelays_16 (by decide) ?_
      refine go_goto (tgt := 21) hF d_Ga_takeDelays_17 (by decide) ?_
      refine go_istore_n hF d_Ga_takeDelays_21 (by decide) ?_
      refine go_lv (lv' := [(0, _), (1, _), (2, _), (3, _)]) ⟨rfl, rfl, rfl, rfl, trivial⟩ ?_
      refine go_aload_n hF d_Ga_takeDelays_22 rfl ?_
      refine go_iload_n hF d_Ga_takeDelays_23 rfl ?_
      refine gs_puti hF hK hlo d_Ga_takeDelays_24 fl_Ga_24 ct_Ga fs_Ga_4 ho rfl rfl hi rfl rfl ?_
      refine go_aload_n hF d_Ga_takeDelays_27 rfl ?_
      refine go_iload_n hF d_Ga_takeDelays_28 rfl ?_
      refine gs_puti hF hK hlo d_Ga_takeDelays_29 fl_Ga_27 ct_Ga fs_Ga_5 ho rfl rfl hi rfl rfl ?_
      refine go_iload_n hF d_Ga_takeDelays_32 rfl ?_
      exact go_zret hF hM d_Ga_takeDelays_33 rfl (by decide) (by decide) (fun H hG => ⟨by clear hG; clear hF hM hE hK hT hlo htab hnm; unfold bi; split <;> simp_all, hG⟩)
def bgW (w : wdT) (ι g : Nat) (kd a b o : Int32) : wdT := sI (sI (sI (sI (sI (sI (sI (sI (sI w 0 ι 14 0 g kd) 0 ι 14 1 g a) 0 ι 14 2 g b) 0 ι 14 3 g o) 0 ι 14 4 g 1) 0 ι 14 5 g 1) 0 ι 14 6 g (if kd = 5 then 3 else 2)) 0 ι 14 7 g (-1)) 0 ι 14 9 g (-1)
set_option maxHeartbeats 4000000 in
set_option maxRecDepth 100000 in
theorem con_Ga_begin {l : Launch} (hlt : l.stackTraces = false) {E : gE} {B : bsT} {N : nwT} {w : wdT} {ι i : Nat} (ho : N.1 0 ι = true) (hi : i < 32) (kd a b o : Int32) : Con l E y_Ga_begin (Cond.code y_Ga_begin c_Ga_begin 5 none :: gAll) rm_Ga_begin [.ref (ad B 0 ι 14 i), .int kd, .int a, .int b, .int o] (gw E B N w) (fun v H => v = none ∧ gw E B N (bgW w ι i kd a b o) H) (fun _ _ => False) 0 0 := by
  refine con_of (by decide) hlt (Nat.le_of_ble_eq_true rfl) ?_
  intro F hF hM htab hnm hE hlo hl
  subst hl
  have hF : Fb F c_Ga_begin R_Ga 5 rm_Ga_begin := hF
  have hK := hE.1
  have hT := hE.2.1
  refine go_lv (lv' := [(0, _), (1, _), (2, _), (3, _), (4, _)]) ⟨rfl, rfl, rfl, rfl, rfl, trivial⟩ ?_
  refine go_aload_n hF d_Ga_begin_0 rfl ?_
  refine go_iload_n hF d_Ga_begin_1 rfl ?_
  refine gs_puti hF hK hlo d_Ga_begin_2 fl_Ga_9 ct_Ga fs_Ga_0 ho rfl rfl hi rfl rfl ?_
  refine go_aload_n hF d_Ga_begin_5 rfl ?_
  refine go_iload_n hF d_Ga_begin_6 rfl ?_
  refine gs_puti hF hK hlo d_Ga_begin_7 fl_Ga_15 ct_Ga fs_Ga_1 ho rfl rfl hi rfl rfl ?_
  refine go_aload_n hF d_Ga_begin_10 rfl ?_
  refine go_iload_n hF d_Ga_begin_11 rfl ?_
  refine gs_puti hF hK hlo d_Ga_begin_12 fl_Ga_18 ct_Ga fs_Ga_2 ho rfl rfl hi rfl rfl ?_
  refine go_aload_n hF d_Ga_begin_15 rfl ?_
  refine go_iload hF d_Ga_begin_16 rfl ?_
  refine gs_puti hF hK hlo d_Ga_begin_18 fl_Ga_21 ct_Ga fs_Ga_3 ho rfl rfl hi rfl rfl ?_
  refine go_aload_n hF d_Ga_begin_21 rfl ?_
  refine go_iconst (v := 1) hF d_Ga_begin_22 (by decide) ?_
  refine gs_puti hF hK hlo d_Ga_begin_23 fl_Ga_24 ct_Ga fs_Ga_4 ho rfl rfl hi rfl rfl ?_
  refine go_aload_n hF d_Ga_begin_26 rfl ?_
  refine go_iconst (v := 1) hF d_Ga_begin_27 (by decide) ?_
  refine gs_puti hF hK hlo d_Ga_begin_28 fl_Ga_27 ct_Ga fs_Ga_5 ho rfl rfl hi rfl rfl ?_
  refine go_aload_n hF d_Ga_begin_31 rfl ?_
  refine go_iload_n hF d_Ga_begin_32 rfl ?_
  refine go_iconst (v := 5) hF d_Ga_begin_33 (by decide) ?_
  refine go_icmp_ne (tgt := 41) hF d_Ga_begin_34 (by decide) (fun h34 => ?_) (fun h34 => ?_)
  · refine go_iconst (v := 2) hF d_Ga_begin_41 (by decide) ?_
    refine gs_puti hF hK hlo d_Ga_begin_42 fl_Ga_30 ct_Ga fs_Ga_6 ho rfl rfl hi rfl rfl ?_
    refine go_aload_n hF d_Ga_begin_45 rfl ?_
    refine go_iconst (v := -1) hF d_Ga_begin_46 (by decide) ?_
    refine gs_puti hF hK hlo d_Ga_begin_47 fl_Ga_33 ct_Ga fs_Ga_7 ho rfl rfl hi rfl rfl ?_
    refine go_aload_n hF d_Ga_begin_50 rfl ?_
    refine go_iconst (v := -1) hF d_Ga_begin_51 (by decide) ?_
    refine gs_puti hF hK hlo d_Ga_begin_52 fl_Ga_36 ct_Ga fs_Ga_9 ho rfl rfl hi rfl rfl ?_
    exact go_vret hF hM d_Ga_begin_55 (by decide) (by decide) (fun H hG => ⟨rfl, by clear hF hM hE hK hT hlo htab hnm; unfold bgW; (repeat' split) <;> first | exact hG | (exfalso; simp_all)⟩)
  · refine go_iconst (v := 3) hF d_Ga_begin_37 (by decide) ?_
    refine go_goto (tgt := 42) hF d_Ga_begin_38 (by decide) ?_
    refine gs_puti hF hK hlo d_Ga_begin_42 fl_Ga_30 ct_Ga fs_Ga_6 ho rfl rfl hi rfl rfl ?_
    refine go_aload_n hF d_Ga_begin_45 rfl ?_
    refine go_iconst (v := -1) hF d_Ga_begin_46 (by decide) ?_
    refine gs_puti hF hK hlo d_Ga_begin_47 fl_Ga_33 ct_Ga fs_Ga_7 ho rfl rfl hi rfl rfl ?_
    refine go_aload_n hF d_Ga_begin_50 rfl ?_
    refine go_iconst (v := -1) hF d_Ga_begin_51 (by decide) ?_
    refine gs_puti hF hK hlo d_Ga_begin_52 fl_Ga_36 ct_Ga fs_Ga_9 ho rfl rfl hi rfl rfl ?_
    exact go_vret hF hM d_Ga_begin_55 (by decide) (by decide) (fun H hG => ⟨rfl, by clear hF hM hE hK hT hlo htab hnm; unfold bgW; (repeat' split) <;> first | exact hG | (exfalso; simp_all)⟩)
def bnW (w : wdT) (ι n : Nat) : wdT := sL (sL (sL (sI (sI (sI w 0 ι 13 0 n 3) 0 ι 13 1 n (-1)) 0 ι 13 2 n 2) 0 ι 13 3 n 0) 0 ι 13 4 n (-1)) 0 ι 13 5 n (-1)
def bcW (w : wdT) (ι c : Nat) (kd ck dt lm : Int32) : wdT := sI (sI (sI (sI (sI w 0 ι 15 0 c kd) 0 ι 15 1 c ck) 0 ι 15 2 c dt) 0 ι 15 3 c lm) 0 ι 15 4 c 0
set_option maxHeartbeats 4000000 in
set_option maxRecDepth 100000 in
theorem con_Ne_begin {l : Launch} (hlt : l.stackTraces = false) {E : gE} {B : bsT} {N : nwT} {w : wdT} {ι i : Nat} (ho : N.1 0 ι = true) (hi : i < 24) : Con l E y_Ne_begin (Cond.code y_Ne_begin c_Ne_begin 1 none :: gAll) rm_Ne_begin [.ref (ad B 0 ι 13 i)] (gw E B N w) (fun v H => v = none ∧ gw E B N (bnW w ι i) H) (fun _ _ => False) 0 0 := by
  refine con_of (by decide) hlt (Nat.le_of_ble_eq_true rfl) ?_
  intro F hF hM htab hnm hE hlo hl
  subst hl
  have hF : Fb F c_Ne_begin R_Ne 1 rm_Ne_begin := hF
  have hK := hE.1
  have hT := hE.2.1
  refine go_lv (lv' := [(0, _)]) ⟨rfl, trivial⟩ ?_
  refine go_aload_n hF d_Ne_begin_0 rfl ?_
  refine go_iconst (v := 3) hF d_Ne_begin_1 (by decide) ?_
  refine gs_puti hF hK hlo d_Ne_begin_2 fl_Ne_9 ct_Ne fs_Ne_0 ho rfl rfl hi rfl rfl ?_
  refine go_aload_n hF d_Ne_begin_5 rfl ?_
  refine go_iconst (v := -1) hF d_Ne_begin_6 (by decide) ?_
  refine gs_puti hF hK hlo d_Ne_begin_7 fl_Ne_15 ct_Ne fs_Ne_1 ho rfl rfl hi rfl rfl ?_
  refine go_aload_n hF d_Ne_begin_10 rfl ?_
  refine go_iconst (v := 2) hF d_Ne_begin_11 (by decide) ?_
  refine gs_puti hF hK hlo d_Ne_begin_12 fl_Ne_18 ct_Ne fs_Ne_2 ho rfl rfl hi rfl rfl ?_
  refine go_aload_n hF d_Ne_begin_15 rfl ?_
  refine go_lconst (v := 0) hF d_Ne_begin_16 (by decide) ?_
  refine gs_putl hF hK hlo d_Ne_begin_17 fl_Ne_21 ct_Ne fs_Ne_3 ho rfl rfl hi rfl rfl ?_
  refine go_aload_n hF d_Ne_begin_20 rfl ?_
  refine go_ldc2 hF kl_Ne_25 d_Ne_begin_21 ?_
  refine gs_putl hF hK hlo d_Ne_begin_24 fl_Ne_27 ct_Ne fs_Ne_4 ho rfl rfl hi rfl rfl ?_
  refine go_aload_n hF d_Ne_begin_27 rfl ?_
  refine go_ldc2 hF kl_Ne_25 d_Ne_begin_28 ?_
  refine gs_putl hF hK hlo d_Ne_begin_31 fl_Ne_30 ct_Ne fs_Ne_5 ho rfl rfl hi rfl rfl ?_
  exact go_vret hF hM d_Ne_begin_34 (by decide) (by decide) (fun H hG => ⟨rfl, hG⟩)
set_option maxHeartbeats 4000000 in
set_option maxRecDepth 100000 in
theorem con_Ch_begin {l : Launch} (hlt : l.stackTraces = false) {E : gE} {B : bsT} {N : nwT} {w : wdT} {ι i : Nat} (ho : N.1 0 ι = true) (hi : i < 20) (kd ck dt lm : Int32) : Con l E y_Ch_begin (Cond.code y_Ch_begin c_Ch_begin 5 none :: gAll) rm_Ch_begin [.ref (ad B 0 ι 15 i), .int kd, .int ck, .int dt, .int lm] (gw E B N w) (fun v H => v = none ∧ gw E B N (bcW w ι i kd ck dt lm) H) (fun _ _ => False) 0 0 := by
  refine con_of (by decide) hlt (Nat.le_of_ble_eq_true rfl) ?_
  intro F hF hM htab hnm hE hlo hl
  subst hl
  have hF : Fb F c_Ch_begin R_Ch 5 rm_Ch_begin := hF
  have hK := hE.1
  have hT := hE.2.1
  refine go_lv (lv' := [(0, _), (1, _), (2, _), (3, _), (4, _)]) ⟨rfl, rfl, rfl, rfl, rfl, trivial⟩ ?_
  refine go_aload_n hF d_Ch_begin_0 rfl ?_
  refine go_iload_n hF d_Ch_begin_1 rfl ?_
  refine gs_puti hF hK hlo d_Ch_begin_2 fl_Ch_9 ct_Ch fs_Ch_0 ho rfl rfl hi rfl rfl ?_
  refine go_aload_n hF d_Ch_begin_5 rfl ?_
  refine go_iload_n hF d_Ch_begin_6 rfl ?_
  refine gs_puti hF hK hlo d_Ch_begin_7 fl_Ch_15 ct_Ch fs_Ch_1 ho rfl rfl hi rfl rfl ?_
  refine go_aload_n hF d_Ch_begin_10 rfl ?_
  refine go_iload_n hF d_Ch_begin_11 rfl ?_
  refine gs_puti hF hK hlo d_Ch_begin_12 fl_Ch_18 ct_Ch fs_Ch_2 ho rfl rfl hi rfl rfl ?_
  refine go_aload_n hF d_Ch_begin_15 rfl ?_
  refine go_iload hF d_Ch_begin_16 rfl ?_
  refine gs_puti hF hK hlo d_Ch_begin_18 fl_Ch_21 ct_Ch fs_Ch_3 ho rfl rfl hi rfl rfl ?_
  refine go_aload_n hF d_Ch_begin_21 rfl ?_
  refine go_iconst (v := 0) hF d_Ch_begin_22 (by decide) ?_
  refine gs_puti hF hK hlo d_Ch_begin_23 fl_Ch_24 ct_Ch fs_Ch_4 ho rfl rfl hi rfl rfl ?_
  exact go_vret hF hM d_Ch_begin_26 (by decide) (by decide) (fun H hG => ⟨rfl, hG⟩)
