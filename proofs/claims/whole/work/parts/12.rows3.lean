theorem w_16 : (Cond.initialized "java/lang/Math") ∈ gAll := gm_of (i := 52) (by decide +kernel) (by decide +kernel)
theorem w_18 : (Cond.initialized "java/lang/System") ∈ gAll := gm_of (i := 54) (by decide +kernel) (by decide +kernel)
theorem w_318 : (Cond.methodLink "EventWaves$Hands" (29 : Nat) ({ cls := "java/lang/System", name := "arraycopy", desc := "(Ljava/lang/Object;ILjava/lang/Object;II)V" } : MethodName)) ∈ gAll := gm_of (i := 354) (by decide +kernel) (by decide +kernel)
theorem w_319 : (Cond.static ({ cls := "java/lang/System", name := "arraycopy", desc := "(Ljava/lang/Object;ILjava/lang/Object;II)V" } : MethodName)) ∈ gAll := gm_of (i := 355) (by decide +kernel) (by decide +kernel)
theorem w_320 : (Cond.native ({ cls := "java/lang/System", name := "arraycopy", desc := "(Ljava/lang/Object;ILjava/lang/Object;II)V" } : MethodName)) ∈ gAll := gm_of (i := 356) (by decide +kernel) (by decide +kernel)
theorem w_325 : (Cond.methodLink "EventWaves$Waves" (25 : Nat) ({ cls := "java/lang/System", name := "arraycopy", desc := "(Ljava/lang/Object;ILjava/lang/Object;II)V" } : MethodName)) ∈ gAll := gm_of (i := 361) (by decide +kernel) (by decide +kernel)
theorem w_493 : (Cond.methodLink "EventWaves$Gate" (46 : Nat) ({ cls := "java/lang/Math", name := "min", desc := "(II)I" } : MethodName)) ∈ gAll := gm_of (i := 529) (by decide +kernel) (by decide +kernel)
theorem w_494 : (Cond.static ({ cls := "java/lang/Math", name := "min", desc := "(II)I" } : MethodName)) ∈ gAll := gm_of (i := 530) (by decide +kernel) (by decide +kernel)
theorem w_495 : (Cond.code ({ cls := "java/lang/Math", name := "min", desc := "(II)I" } : MethodName) prog_16_method_69_code (2 : Nat) (Option.some FieldType.int)) ∈ gAll := gm_of (i := 531) (by decide +kernel) (by decide +kernel)
theorem w_496 : (Cond.methodLink "EventWaves$Gate" (52 : Nat) ({ cls := "java/lang/Math", name := "max", desc := "(II)I" } : MethodName)) ∈ gAll := gm_of (i := 532) (by decide +kernel) (by decide +kernel)
theorem w_497 : (Cond.static ({ cls := "java/lang/Math", name := "max", desc := "(II)I" } : MethodName)) ∈ gAll := gm_of (i := 533) (by decide +kernel) (by decide +kernel)
theorem w_498 : (Cond.code ({ cls := "java/lang/Math", name := "max", desc := "(II)I" } : MethodName) prog_16_method_65_code (2 : Nat) (Option.some FieldType.int)) ∈ gAll := gm_of (i := 534) (by decide +kernel) (by decide +kernel)
theorem w_499 : (Cond.methodLink "EventWaves$Gate" (59 : Nat) ({ cls := "java/lang/Math", name := "max", desc := "(JJ)J" } : MethodName)) ∈ gAll := gm_of (i := 535) (by decide +kernel) (by decide +kernel)
theorem w_500 : (Cond.static ({ cls := "java/lang/Math", name := "max", desc := "(JJ)J" } : MethodName)) ∈ gAll := gm_of (i := 536) (by decide +kernel) (by decide +kernel)
theorem w_501 : (Cond.code ({ cls := "java/lang/Math", name := "max", desc := "(JJ)J" } : MethodName) prog_16_method_66_code (4 : Nat) (Option.some FieldType.long)) ∈ gAll := gm_of (i := 537) (by decide +kernel) (by decide +kernel)
theorem w_738 : (Cond.methodLink "EventWaves$TapeReader" (55 : Nat) ({ cls := "java/lang/Math", name := "min", desc := "(JJ)J" } : MethodName)) ∈ gAll := gm_of (i := 774) (by decide +kernel) (by decide +kernel)
theorem w_739 : (Cond.static ({ cls := "java/lang/Math", name := "min", desc := "(JJ)J" } : MethodName)) ∈ gAll := gm_of (i := 775) (by decide +kernel) (by decide +kernel)
theorem w_740 : (Cond.code ({ cls := "java/lang/Math", name := "min", desc := "(JJ)J" } : MethodName) prog_16_method_70_code (4 : Nat) (Option.some FieldType.long)) ∈ gAll := gm_of (i := 776) (by decide +kernel) (by decide +kernel)
section GS3
variable {F : gT} {cc : ByteArray} {own : String} {nL : Nat} {rm : Room} {pc idx : Nat} {lv : lvT} {st : List Value} {G : Heap → Prop} {k n : Nat}
theorem go_min_int (hF : Fb F cc own nL rm) {x y : Int32} (hw : Cond.methodLink own idx ({ cls := "java/lang/Math", name := "min", desc := "(II)I" } : MethodName) ∈ gAll) (hd : decode cc pc = .ok (.invokestatic idx, 3)) (hfr : 1 ≤ rm.frames) (hlc : (st.map fun v => v.category).sum + 13 ≤ rm.locals) (hk : k ≤ rm.cells) (hn : n ≤ rm.slots) (kk : Go F (pc + 3) lv (.int (if y < x then y else x) :: st) G k n) : Go F pc lv (.int y :: .int x :: st) G k n := by
  intro H locs ls hG hL hl
  have hR := hF.2.2.2.2.2.2.2.1
  exact va_mmin hF.1 hF.2.1 (hF.2.2.1.trans (hF.2.2.2.1.symm.trans hl.1.symm)) hF.2.2.2.2.1 (hF.2.2.2.2.2.1 _ hw) (hF.2.2.2.2.2.1 _ w_494) (hF.2.2.2.2.2.1 _ w_16) (hF.2.2.2.2.2.1 _ w_495) (by rw [hR]; exact hfr) (by rw [hR]; exact hlc) (by rw [hR]; exact hk) (by rw [hR]; exact hn) hd (kk H locs ls hG hL hl)
theorem go_max_int (hF : Fb F cc own nL rm) {x y : Int32} (hw : Cond.methodLink own idx ({ cls := "java/lang/Math", name := "max", desc := "(II)I" } : MethodName) ∈ gAll) (hd : decode cc pc = .ok (.invokestatic idx, 3)) (hfr : 1 ≤ rm.frames) (hlc : (st.map fun v => v.category).sum + 13 ≤ rm.locals) (hk : k ≤ rm.cells) (hn : n ≤ rm.slots) (kk : Go F (pc + 3) lv (.int (if x < y then y else x) :: st) G k n) : Go F pc lv (.int y :: .int x :: st) G k n := by
  intro H locs ls hG hL hl
  have hR := hF.2.2.2.2.2.2.2.1
  exact va_mmax hF.1 hF.2.1 (hF.2.2.1.trans (hF.2.2.2.1.symm.trans hl.1.symm)) hF.2.2.2.2.1 (hF.2.2.2.2.2.1 _ hw) (hF.2.2.2.2.2.1 _ w_497) (hF.2.2.2.2.2.1 _ w_16) (hF.2.2.2.2.2.1 _ w_498) (by rw [hR]; exact hfr) (by rw [hR]; exact hlc) (by rw [hR]; exact hk) (by rw [hR]; exact hn) hd (kk H locs ls hG hL hl)
theorem go_max_long (hF : Fb F cc own nL rm) {x y : Int64} (hw : Cond.methodLink own idx ({ cls := "java/lang/Math", name := "max", desc := "(JJ)J" } : MethodName) ∈ gAll) (hd : decode cc pc = .ok (.invokestatic idx, 3)) (hfr : 1 ≤ rm.frames) (hlc : (st.map fun v => v.category).sum + 15 ≤ rm.locals) (hk : k ≤ rm.cells) (hn : n ≤ rm.slots) (kk : Go F (pc + 3) lv (.long (if y < x then x else y) :: st) G k n) : Go F pc lv (.long y :: .long x :: st) G k n := by
  intro H locs ls hG hL hl
  have hR := hF.2.2.2.2.2.2.2.1
  exact va_mmax_long hF.1 hF.2.1 (hF.2.2.1.trans (hF.2.2.2.1.symm.trans hl.1.symm)) hF.2.2.2.2.1 (hF.2.2.2.2.2.1 _ hw) (hF.2.2.2.2.2.1 _ w_500) (hF.2.2.2.2.2.1 _ w_16) (hF.2.2.2.2.2.1 _ w_501) (by rw [hR]; exact hfr) (by rw [hR]; exact hlc) (by rw [hR]; exact hk) (by rw [hR]; exact hn) hd (kk H locs ls hG hL hl)
theorem go_min_long (hF : Fb F cc own nL rm) {x y : Int64} (hw : Cond.methodLink own idx ({ cls := "java/lang/Math", name := "min", desc := "(JJ)J" } : MethodName) ∈ gAll) (hd : decode cc pc = .ok (.invokestatic idx, 3)) (hfr : 1 ≤ rm.frames) (hlc : (st.map fun v => v.category).sum + 15 ≤ rm.locals) (hk : k ≤ rm.cells) (hn : n ≤ rm.slots) (kk : Go F (pc + 3) lv (.long (if y < x then y else x) :: st) G k n) : Go F pc lv (.long y :: .long x :: st) G k n := by
  intro H locs ls hG hL hl
  have hR := hF.2.2.2.2.2.2.2.1
  exact va_mmin_long hF.1 hF.2.1 (hF.2.2.1.trans (hF.2.2.2.1.symm.trans hl.1.symm)) hF.2.2.2.2.1 (hF.2.2.2.2.2.1 _ hw) (hF.2.2.2.2.2.1 _ w_739) (hF.2.2.2.2.2.1 _ w_16) (hF.2.2.2.2.2.1 _ w_740) (by rw [hR]; exact hfr) (by rw [hR]; exact hlc) (by rw [hR]; exact hk) (by rw [hR]; exact hn) hd (kk H locs ls hG hL hl)
end GS3
theorem tsw_out {x : Int32} {lo hi : Int} (h : ∀ c : Int, lo ≤ c → c ≤ hi → x ≠ Int32.ofInt c) : x.toInt < lo ∨ hi < x.toInt := by
  by_cases h1 : x.toInt < lo
  · exact Or.inl h1
  by_cases h2 : hi < x.toInt
  · exact Or.inr h2
  exact absurd (Int32.ofInt_toInt x).symm (h x.toInt (by omega) (by omega))
theorem lj_Ga_46 : Cond.methodLink R_Ga 46 ⟨"java/lang/Math", "min", "(II)I"⟩ ∈ gAll := w_493
theorem lj_Ga_52 : Cond.methodLink R_Ga 52 ⟨"java/lang/Math", "max", "(II)I"⟩ ∈ gAll := w_496
theorem lj_Ga_59 : Cond.methodLink R_Ga 59 ⟨"java/lang/Math", "max", "(JJ)J"⟩ ∈ gAll := w_499
theorem lj_Ha_29 : Cond.methodLink R_Ha 29 ⟨"java/lang/System", "arraycopy", "(Ljava/lang/Object;ILjava/lang/Object;II)V"⟩ ∈ gAll := w_318
theorem lj_Tr_55 : Cond.methodLink R_Tr 55 ⟨"java/lang/Math", "min", "(JJ)J"⟩ ∈ gAll := w_738
theorem lj_Wa_25 : Cond.methodLink R_Wa 25 ⟨"java/lang/System", "arraycopy", "(Ljava/lang/Object;ILjava/lang/Object;II)V"⟩ ∈ gAll := w_325
theorem rd_II (w : wdT) (a b c d e a' b' c' d' e' : Nat) (x : Int32) : wI (sI w a b c d e x) a' b' c' d' e' = if a' = a ∧ b' = b ∧ c' = c ∧ d' = d ∧ e' = e then x else wI w a' b' c' d' e' := rfl
theorem rd_LL (w : wdT) (a b c d e a' b' c' d' e' : Nat) (x : Int64) : wL (sL w a b c d e x) a' b' c' d' e' = if a' = a ∧ b' = b ∧ c' = c ∧ d' = d ∧ e' = e then x else wL w a' b' c' d' e' := rfl
theorem rd_PP (w : wdT) (a b c d e a' b' c' d' e' : Nat) (x : Option Nat) : wP (sP w a b c d e x) a' b' c' d' e' = if a' = a ∧ b' = b ∧ c' = c ∧ d' = d ∧ e' = e then x else wP w a' b' c' d' e' := rfl
theorem rd_IL (w : wdT) (a b c d e : Nat) (x : Int64) : wI (sL w a b c d e x) = wI w := rfl
theorem rd_IP (w : wdT) (a b c d e : Nat) (x : Option Nat) : wI (sP w a b c d e x) = wI w := rfl
theorem rd_LI (w : wdT) (a b c d e : Nat) (x : Int32) : wL (sI w a b c d e x) = wL w := rfl
theorem rd_LP (w : wdT) (a b c d e : Nat) (x : Option Nat) : wL (sP w a b c d e x) = wL w := rfl
theorem rd_PI (w : wdT) (a b c d e : Nat) (x : Int32) : wP (sI w a b c d e x) = wP w := rfl
theorem rd_PL (w : wdT) (a b c d e : Nat) (x : Int64) : wP (sL w a b c d e x) = wP w := rfl
