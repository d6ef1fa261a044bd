/-! CONTRACTS AND CALLS in Go's words. 'en E U' (what a launch's tables say, stands ahead) with en_warm, en_same. -/
/-- y, called with As over a heap with G, returns v over a heap with 'Q v', or throws an object of the class named M over one with 'X M' -/
def Con (l : Launch) (E : gE) (y : MethodName) (ws : List Cond) (rm : Room) (As : List Value) (G : Heap → Prop) (Q : Option Value → Heap → Prop) (X : String → Heap → Prop) (mc ms : Nat) : Prop :=
  MetFree l y (headSpec ws rm) (fun a U => a = As.toArray ∧ en E U ∧ G U.heap) (fun _ _ _ _ _ => True) (Qx Q X E.2.2.size mc ms)
theorem con_of {l : Launch} {E : gE} {y : MethodName} {cc : ByteArray} {maxL : Nat} {ret : Option FieldType} {rm : Room} {As : List Value} {G : Heap → Prop} {Q : Option Value → Heap → Prop} {X : String → Heap → Prop} {mc ms : Nat}
    (hy : plainName y.cls = true) (hlt : l.stackTraces = false) (hlen : (lg_sl As).length ≤ maxL)
    (body : ∀ F : gT, Fb F cc y.cls maxL rm → Fm F ret Q X mc ms → (∀ x ∈ (gc F).exceptionTable.toList, False) → (gt F).name = y.name → en E (gs F) → gLo F = E.2.2.size → gl F = l → Go F 0 (lv_args 0 As) [] G 0 0) :
    Con l E y (Cond.code y cc maxL ret :: gAll) rm As G Q X mc ms := by
  refine MetFree.of_bodyS (code := cc) (maxLocals := maxL) (ret := ret) hy ?_ ?_
  · intro args s m h hn
    obtain ⟨meth, c, h1, h2, h3, h4, h5, h6, -, -⟩ := Cond.code_spec hn (atoms_spec (ws := Cond.code y cc maxL ret :: gAll) h _ List.mem_cons_self)
    exact ⟨meth, c, h1, h2, h3, h4, h5, h6⟩
  · intro p e s m args below meth c s₁ B hml hv _
    obtain ⟨rfl, hEn, hG⟩ := hv
    have hts := atoms_spec (ws := Cond.code y cc maxL ret :: gAll) B.pre
    have Y := Stand.of_body B
    have ht : ∀ x ∈ c.exceptionTable.toList, False := by
      obtain ⟨meth9, c9, h1, h2, -, -, -, -, h7, -⟩ := Cond.code_spec B.named (hts _ List.mem_cons_self)
      cases Option.some.inj (h1.symm.trans B.method)
      cases Option.some.inj (h2.symm.trans Y.code)
      intro x hx
      rw [Array.isEmpty_iff.mp h7] at hx
      cases hx
    have h := body (p, l, e, rm, s, m, As.toArray, below, meth, c, zX below Q X E.2.2.size mc ms As.toArray s, E.2.2.size, maxL)
      ⟨B.exec, B.bytes, hml, rfl, findClass_of_methodNamed B.named, fun w hw => hts w (List.mem_cons_of_mem _ hw), B.notSynchronized, rfl, hlt⟩
      ⟨B.returns, rfl⟩ ht (name_of_methodNamed B.named B.method).1 hEn rfl rfl s.heap [] _ hG (fun z hz => nomatch hz) (lv_entry As hlen)
    rw [← lg_entry_eq] at h
    have hh0 : s₁.heap = s.heap := by rw [B.state]; rfl
    obtain ⟨t, a1, o, b1, b2, b3⟩ := h s₁ hh0 Y
    exact ⟨t, o, a1, b1, b2, b3⟩
/-- a method's own words -/
def Mt (y : MethodName) (bytes : ByteArray) (maxL : Nat) (ret : Option FieldType) (np : Nat) : Prop :=
  Cond.code y bytes maxL ret ∈ gAll ∧ Cond.initialized y.cls ∈ gAll ∧ (y.cls ≠ "java/lang/invoke/MethodHandle" ∧ y.cls ≠ "java/lang/invoke/VarHandle") ∧ ∀ sig, parseMethodDescriptor y.desc = some sig → np = sig.parameters.length
theorem gAll_at {s U : State} {a a' : Array Value} {w : Cond} (hw : w ∈ gAll) (h : w.before a s = true) (hW : s.WarmedH U.vm) : w.before a' U = true := word_at hW (good_of_word (List.mem_filter.mp hw).2) h
section CX
variable {p : Program} {l : Launch} {e : Env} {R : Room} {s : State} {m : MethodId} {args : Array Value} {below : List Frame} {meth : Method} {c : Code} {U : State} {locs : List Loc} {k n : Nat}
/-- a call by contract, from where the machine stands with the arguments taken off the stack -/
theorem cx_call {y : MethodName} {ws : List Cond} {rm1 : Room} {P : Array Value → State → Prop} {Q1 : Option Value → Heap → Prop} {X1 : String → Heap → Prop} {lo mc1 ms1 maxL len : Nat} (hM : MetFree l y (headSpec ws rm1) P (fun _ _ _ _ _ => True) (Qx Q1 X1 lo mc1 ms1))
    (Y : Stand p l e R s m args below meth c U locs k n) {g : JFrame} (hg : g.method = m) (hsize : g.locals.size = c.maxLocals) {ig : Instr} (hdg : decode c.code g.pc = .ok (ig, len)) {mk : MethodId} {methY : Method} {cY : Code} {kY : Class} {a : Array Value}
    (hn : U.methodNamed? y = some mk) (hmY : U.vm.method? mk = some methY) (hcY : methY.code = some cY) (hlY : cY.maxLocals = maxL) (hkY : U.vm.classes[mk.cls]? = some kY) (hiY : kY.init = .initialized) (hpre : (allAtoms ws).before a U = true)
    (hfr : rm1.frames + 1 ≤ R.frames) (hlo : 2 * g.monitorRoom + (g.stack.map fun v => v.category).sum + (maxL + 11) + rm1.locals ≤ R.locals) (hce : k + rm1.cells ≤ R.cells) (hsl : n + rm1.slots ≤ R.slots) (hP : P a (U.calling g mk a)) :
    (∃ (v : Option Value) (T' : State) (L : List Loc), Stand p l e R s m args below meth c T' (locs ++ L) (k + mc1) (n + ms1) ∧ (∀ z ∈ L, lo ≤ z.base) ∧ Q1 v T'.heap ∧
      Steps p.tables e below (doInvoke e (U.setTop g) [] mk a).1 (T'.setTop { g with pc := g.pc + len, stack := v.toList ++ g.stack })) ∨
    (∃ (q : Addr) (M : String) (ce : Cell) (T' : State) (L : List Loc), Stand p l e R s m args below meth c T' (locs ++ L) (k + mc1) (n + ms1) ∧ (∀ z ∈ L, lo ≤ z.base) ∧ X1 M T'.heap ∧ T'.heap[q]? = some ce ∧ ce.vm = .none ∧ s.vm.findClass M = some ce.cls ∧
      Steps p.tables e below (doInvoke e (U.setTop g) [] mk a).1 ((T'.setTop g).pushFrame (.throwing q))) := by
  have h : At U g.method c below := by rw [hg]; exact Y.here
  have happ : (headSpec ws rm1).appliesLoose y e.platform (U.calling g mk a) = true :=
    Spec.appliesLoose_calling (g := g) h hdg hn hkY hiY (Y.room_calling (g := g) (R' := rm1) hsize hmY hcY hfr (by rw [hlY]; omega) hce hsl) hpre
  obtain ⟨mid, hmid⟩ := h.above
  have hfrm : (U.setTop g).frames = (.java g :: mid) ++ below := by rw [State.frames_setTop' g h.top, hmid]; rfl
  obtain ⟨o, t, hsteps, -, hend, hq⟩ := Steps.callFree hM p Y.admits Y.cas Y.clock (acts := []) hfrm happ hP trivial
  rw [State.frames_setTop' g h.top, Y.tail] at hend
  obtain ⟨L, hW, hsame, hL, hcase⟩ := hq
  rcases hcase with ⟨v, rfl, hQ⟩ | ⟨q, M, ce, rfl, hX, hce1, hcv, hcl⟩
  · obtain ⟨T', Y', -, -, ht⟩ := Y.outOf hg hdg (mk := mk) (a := a) hend hW hsame
    refine Or.inl ⟨v, T', L, Y', hL, ?_, by rw [← ht]; exact hsteps⟩
    have : t.heap = T'.heap := by rw [ht]; rfl
    rw [← this]
    exact hQ
  · obtain ⟨T', Y', -, -, ht⟩ := Y.outOfThrown hg (mk := mk) (a := a) hend hW hsame
    have hh : t.heap = T'.heap := by rw [ht]; rfl
    refine Or.inr ⟨q, M, ce, T', L, Y', hL, by rw [← hh]; exact hX, by rw [← hh]; exact hce1, hcv, ?_, by rw [← ht]; exact hsteps⟩
    have h9 : U.vm.findClass M = some ce.cls := hcl
    rw [Y.warmed.alike.findClass] at h9
    exact h9
end CX
/-- the frame at pc, with q thrown over it -/
def Gx (F : gT) (pc : Nat) (lv : lvT) (st : List Value) (G : Heap → Prop) (M : String) (k n : Nat) : Prop :=
  ∀ (H : Heap) (locs : List Loc) (ls : Array Slot) (q : Addr) (ce : Cell), G H → (∀ z ∈ locs, gLo F ≤ z.base) → lv_has ls (gN F) lv → H[q]? = some ce → ce.vm = .none → (gs F).vm.findClass M = some ce.cls →
    ∀ T : State, T.heap = H → Stand (gp F) (gl F) (ge F) (gR F) (gs F) (gm F) (ga F) (gb F) (gt F) (gc F) T locs k n → ∃ t, Steps (gp F).tables (ge F) (gb F) ((T.setTop (F0 (gm F) pc ls st)).pushFrame (.throwing q)) t ∧ gZ F t
section GC
variable {F : gT} {cc : ByteArray} {own : String} {nL : Nat} {rm : Room} {pc : Nat} {lv : lvT} {st : List Value} {k n : Nat} {E : gE} {G : Heap → Prop} {Q1 : Option Value → Heap → Prop} {X1 : String → Heap → Prop} {mc1 ms1 idx maxL np : Nat} {y : MethodName} {bytes : ByteArray} {ret : Option FieldType} {rm1 : Room} {b : Nat} {As : List Value}
theorem go_locs {F : gT} {E : gE} {locs L : List Loc} (hlo : gLo F = E.2.2.size) (hL : ∀ z ∈ locs, gLo F ≤ z.base) (hL' : ∀ z ∈ L, E.2.2.size ≤ z.base) : ∀ z ∈ locs ++ L, gLo F ≤ z.base := fun z hz => by
  rcases List.mem_append.mp hz with h | h
  · exact hL z h
  · rw [hlo]; exact hL' z h
theorem all_atoms {s U : State} {a a' : Array Value} {w : Cond} (hw : w ∈ gAll) (hts : ∀ x ∈ gAll, x.before a s = true) (hW : s.WarmedH U.vm) : (allAtoms (w :: gAll)).before a' U = true :=
  atoms_intro fun x hx => by
    rcases List.mem_cons.mp hx with e | h
    · rw [e]; exact gAll_at hw (hts _ hw) hW
    · exact gAll_at h (hts _ h) hW
/-- invokevirtual of a method that returns or throws -/
theorem go_callVX (hF : Fb F cc own nL rm) (hE : en E (gs F)) (hlo : gLo F = E.2.2.size) (hd : decode cc pc = .ok (.invokevirtual idx, 3))
    (hc : Con (gl F) E y (Cond.code y bytes maxL ret :: gAll) rm1 (.ref b :: As) G Q1 X1 mc1 ms1) (hm : Mt y bytes maxL ret np) (hv : Cond.instanceMethod y ∈ gAll ∧ Cond.selects y.cls y y ∈ gAll) (hlk : Cond.methodLink own idx y ∈ gAll)
    (hrm : rm1.cells = mc1 ∧ rm1.slots = ms1 ∧ rm1.frames + 1 ≤ rm.frames ∧ 8 + (maxL + 11) + rm1.locals ≤ rm.locals) (hn : As.length = np) (hst : (st.map fun v => v.category).sum ≤ 8) (hf : k + mc1 ≤ rm.cells ∧ n + ms1 ≤ rm.slots)
    (hrecv : ∀ H, G H → ∃ cell : Cell, H[b]? = some cell ∧ cell.vm.isStatics = false ∧ (gs F).vm.findClass y.cls = some cell.cls)
    (kx : ∀ M, Gx F pc lv st (X1 M) M (k + mc1) (n + ms1))
    {stk : List Value} (hs : stk = As.reverse ++ .ref b :: st)
    (kk : ∀ v, Go F (pc + 3) lv (v.toList ++ st) (Q1 v) (k + mc1) (n + ms1)) : Go F pc lv stk G k n := by
  subst hs
  intro H locs ls hG hL hl T hT Y
  have hcode := hF.2.2.2.2.2.1 _ hm.1
  obtain ⟨mk, methM, hnamed, hmethM, hstM, habM⟩ := Cond.instanceMethod_spec (hF.2.2.2.2.2.1 _ hv.1)
  obtain ⟨methM', cM, hmethM', hcM, -, hlM, -, -, -, hsigM⟩ := Cond.code_spec hnamed hcode
  cases hmethM.symm.trans hmethM'
  obtain ⟨cell, hcell, hobj, hcls⟩ := hrecv H hG
  obtain ⟨c2, r2, m2, q1, q2, q3, q4, kP, hkP, hkPi⟩ := Cond.selects_spec (hF.2.2.2.2.2.1 _ hv.2)
  cases hcls.symm.trans q1
  cases (State.methodFound?_of_named hnamed hm.2.2.1).symm.trans q2
  cases hnamed.symm.trans q3
  have hselP : selectMethod (ge F).platform (gs F).vm cell.cls mk = .method mk := by rw [Launch.admits_selectMethod Y.admits]; exact q4
  have hd' : decode (gc F).code pc = .ok (.invokevirtual idx, 3) := by rw [hF.2.1]; exact hd
  obtain ⟨vm₁, Y₁, hstep₁⟩ := Y.invokevirtual hF.1 hF.2.2.2.2.1 (hF.2.2.2.2.2.1 _ hlk) hnamed hmethM hstM hkP hkPi hm.2.2.1 (a := b) (cell := cell) (by rw [hT]; exact hcell)
    (fun z h => by rw [h] at hobj; cases hobj) hselP hmethM habM hkP hkPi (g := F0 (gm F) pc ls (As.reverse ++ .ref b :: st)) rfl (argsL := As) (rest := st) (hn.trans (hm.2.2.2 _ hsigM)) rfl hd'
  have hal := Y₁.warmed.alike
  have hn₁ := Y₁.named hnamed
  obtain ⟨kY, hkY, -⟩ := className_of_methodNamed hn₁
  have hiY : kY.init = .initialized := Cond.initialized_spec (findClass_of_methodNamed hn₁) hkY (gAll_at (a' := #[]) hm.2.1 (hF.2.2.2.2.2.1 _ hm.2.1) Y₁.warmed)
  obtain ⟨methN, cN, hmN, hcN, -, hlN, -, -, -, -⟩ := Cond.code_spec hn₁ (gAll_at (a' := #[]) hm.1 hcode Y₁.warmed)
  have hR := hF.2.2.2.2.2.2.2.1
  rcases cx_call hc Y₁ (g := F0 (gm F) pc ls st) rfl (hl.1.trans (hF.2.2.2.1.trans hF.2.2.1.symm)) hd' (a := (Value.ref b :: As).toArray) hn₁ hmN hcN hlN hkY hiY (all_atoms hm.1 hF.2.2.2.2.2.1 Y₁.warmed)
      (by rw [hR]; exact hrm.2.2.1) (by rw [hR]; have := hrm.2.2.2; have h8 := hst; show 2 * 0 + (st.map fun v => v.category).sum + _ + _ ≤ _; omega) (by rw [hR, hrm.1]; exact hf.1) (by rw [hR, hrm.2.1]; exact hf.2)
      ⟨rfl, en_same (U' := (T.setVm vm₁).calling (F0 (gm F) pc ls st) mk (Value.ref b :: As).toArray) (U := T.setVm vm₁) rfl (en_warm Y₁.warmed hE), by show G T.heap; rw [hT]; exact hG⟩ with
    ⟨v, T', L, Y', hL', hQ, stp⟩ | ⟨q, M, ce, T', L, Y', hL', hX, hce, hcv, hcl, stp⟩
  · obtain ⟨t2, a1, b1⟩ := kk v T'.heap (locs ++ L) ls hQ (go_locs hlo hL hL') hl T' rfl Y'
    exact ⟨t2, hstep₁ _ fun acts => by rw [doInvoke_state]; exact stp.trans a1, b1⟩
  · obtain ⟨t2, a1, b1⟩ := kx M T'.heap (locs ++ L) ls q ce hX (go_locs hlo hL hL') hl hce hcv hcl T' rfl Y'
    exact ⟨t2, hstep₁ _ fun acts => by rw [doInvoke_state]; exact stp.trans a1, b1⟩
theorem gx_no {M : String} : Gx F pc lv st (fun _ => False) M k n := fun _ _ _ _ _ h => h.elim
theorem go_callSX (hF : Fb F cc own nL rm) (hE : en E (gs F)) (hlo : gLo F = E.2.2.size) (hd : decode cc pc = .ok (.invokestatic idx, 3))
    (hc : Con (gl F) E y (Cond.code y bytes maxL ret :: gAll) rm1 As G Q1 X1 mc1 ms1) (hm : Mt y bytes maxL ret np) (hv : Cond.static y ∈ gAll) (hlk : Cond.methodLink own idx y ∈ gAll)
    (hrm : rm1.cells = mc1 ∧ rm1.slots = ms1 ∧ rm1.frames + 1 ≤ rm.frames ∧ 8 + (maxL + 11) + rm1.locals ≤ rm.locals) (hn : As.length = np) (hst : (st.map fun v => v.category).sum ≤ 8) (hf : k + mc1 ≤ rm.cells ∧ n + ms1 ≤ rm.slots)
    (kx : ∀ M, Gx F pc lv st (X1 M) M (k + mc1) (n + ms1))
    {stk : List Value} (hs : stk = As.reverse ++ st)
    (kk : ∀ v, Go F (pc + 3) lv (v.toList ++ st) (Q1 v) (k + mc1) (n + ms1)) : Go F pc lv stk G k n := by
  subst hs
  intro H locs ls hG hL hl T hT Y
  have hcode := hF.2.2.2.2.2.1 _ hm.1
  obtain ⟨mk, hnamed⟩ := Cond.code_named hcode
  obtain ⟨methM, cM, hmethM, hcM, -, hlM, -, -, -, hsigM⟩ := Cond.code_spec hnamed hcode
  have hstatic : methM.isStatic = true := Cond.static_spec hnamed hmethM (hF.2.2.2.2.2.1 _ hv)
  obtain ⟨kP, hkP, -⟩ := className_of_methodNamed hnamed
  have hinitP : kP.init = .initialized := Cond.initialized_spec (findClass_of_methodNamed hnamed) hkP (hF.2.2.2.2.2.1 _ hm.2.1)
  have hd' : decode (gc F).code pc = .ok (.invokestatic idx, 3) := by rw [hF.2.1]; exact hd
  obtain ⟨vm₁, Y₁, hstep₁⟩ := Y.invokestatic hF.1 hF.2.2.2.2.1 (hF.2.2.2.2.2.1 _ hlk) hnamed hmethM hstatic hkP hinitP hm.2.2.1 (g := F0 (gm F) pc ls (As.reverse ++ st)) rfl (argsL := As) (rest := st) (hn.trans (hm.2.2.2 _ hsigM)) rfl hd'
  have hn₁ := Y₁.named hnamed
  obtain ⟨kY, hkY, -⟩ := className_of_methodNamed hn₁
  have hiY : kY.init = .initialized := Cond.initialized_spec (findClass_of_methodNamed hn₁) hkY (gAll_at (a' := #[]) hm.2.1 (hF.2.2.2.2.2.1 _ hm.2.1) Y₁.warmed)
  obtain ⟨methN, cN, hmN, hcN, -, hlN, -, -, -, -⟩ := Cond.code_spec hn₁ (gAll_at (a' := #[]) hm.1 hcode Y₁.warmed)
  have hR := hF.2.2.2.2.2.2.2.1
  rcases cx_call hc Y₁ (g := F0 (gm F) pc ls st) rfl (hl.1.trans (hF.2.2.2.1.trans hF.2.2.1.symm)) hd' (a := As.toArray) hn₁ hmN hcN hlN hkY hiY (all_atoms hm.1 hF.2.2.2.2.2.1 Y₁.warmed)
      (by rw [hR]; exact hrm.2.2.1) (by rw [hR]; have := hrm.2.2.2; have h8 := hst; show 2 * 0 + (st.map fun v => v.category).sum + _ + _ ≤ _; omega) (by rw [hR, hrm.1]; exact hf.1) (by rw [hR, hrm.2.1]; exact hf.2)
      ⟨rfl, en_same (U' := (T.setVm vm₁).calling (F0 (gm F) pc ls st) mk As.toArray) (U := T.setVm vm₁) rfl (en_warm Y₁.warmed hE), by show G T.heap; rw [hT]; exact hG⟩ with
    ⟨v, T', L, Y', hL', hQ, stp⟩ | ⟨q, M, ce, T', L, Y', hL', hX, hce, hcv, hcl, stp⟩
  · obtain ⟨t2, a1, b1⟩ := kk v T'.heap (locs ++ L) ls hQ (go_locs hlo hL hL') hl T' rfl Y'
    exact ⟨t2, hstep₁ _ fun acts => by rw [doInvoke_state]; exact stp.trans a1, b1⟩
  · obtain ⟨t2, a1, b1⟩ := kx M T'.heap (locs ++ L) ls q ce hX (go_locs hlo hL hL') hl hce hcv hcl T' rfl Y'
    exact ⟨t2, hstep₁ _ fun acts => by rw [doInvoke_state]; exact stp.trans a1, b1⟩
variable {Q : Option Value → Heap → Prop} {X : String → Heap → Prop} {mc ms : Nat} {ret0 : Option FieldType}
/-- thrown on to the caller: this method has no handlers -/
theorem gx_out (hF : Fb F cc own nL rm) (hM : Fm F ret0 Q X mc ms) (htab : ∀ x ∈ (gc F).exceptionTable.toList, False) {M : String} (hX : ∀ H, G H → X M H) (h1 : k ≤ mc) (h2 : n ≤ ms) : Gx F pc lv st G M k n := by
  intro H locs ls q ce hG hL hl hce hcv hcl T hT Y
  rw [hM.2]
  obtain ⟨st1, hrun, hend, hW, hsm⟩ := Y.leaveThrown q (g := F0 (gm F) pc ls st) rfl rfl rfl (fun x hx => (htab x hx).elim) hF.2.2.2.2.2.2.1
  refine ⟨_, st1, .threw q, hrun, hend, locs, hW, hsm.mono h1 h2, hL, Or.inr ⟨q, M, ce, rfl, ?_, ?_, hcv, hcl⟩⟩
  · show X M T.heap
    rw [hT]; exact hX H hG
  · show T.heap[q]? = some ce
    rw [hT]; exact hce
end GC
