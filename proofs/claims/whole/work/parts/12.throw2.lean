/-! METHODS WITH HANDLERS (the law's own): a contract for one, a call of one, and what is thrown into one. -/
abbrev hdT : Type := List (Nat × Nat × Nat × Nat)
def tabOf (c : Code) : hdT := c.exceptionTable.toList.map (fun h => (h.startPc, h.endPc, h.handlerPc, h.catchType))
theorem conW_of {l : Launch} {E : gE} {y : MethodName} {cc : ByteArray} {maxL : Nat} {ret : Option FieldType} {hh : hdT} {rm : Room} {As : List Value} {G : Heap → Prop} {Q : Option Value → Heap → Prop} {X : String → Heap → Prop} {mc ms : Nat}
    (hy : plainName y.cls = true) (hlt : l.stackTraces = false) (hlen : (lg_sl As).length ≤ maxL)
    (body : ∀ F : gT, Fb F cc y.cls maxL rm → Fm F ret Q X mc ms → tabOf (gc F) = hh → (gt F).name = y.name → en E (gs F) → gLo F = E.2.2.size → gl F = l → Go F 0 (lv_args 0 As) [] G 0 0) :
    Con l E y (Cond.codeWith y cc maxL ret hh :: gAll) rm As G Q X mc ms := by
  refine MetFree.of_bodyS (code := cc) (maxLocals := maxL) (ret := ret) hy ?_ ?_
  · intro args s m h hn
    obtain ⟨m', meth, c, h0, h1, h2, h3, h4, h5, h6, h7, -⟩ := Cond.codeWith_spec (atoms_spec (ws := Cond.codeWith y cc maxL ret hh :: gAll) h _ List.mem_cons_self)
    cases Option.some.inj (h0.symm.trans hn)
    exact ⟨meth, c, h1, h2, h3, h4, h6, h7⟩
  · intro p e s m args below meth c s₁ B hml hv _
    obtain ⟨rfl, hEn, hG⟩ := hv
    have hts := atoms_spec (ws := Cond.codeWith y cc maxL ret hh :: gAll) B.pre
    have Y := Stand.of_body B
    have ht : tabOf c = hh := by
      obtain ⟨m', meth9, c9, h0, h1, h2, -, -, h7, -, -, -⟩ := Cond.codeWith_spec (hts _ List.mem_cons_self)
      cases Option.some.inj (h0.symm.trans B.named)
      cases Option.some.inj (h1.symm.trans B.method)
      cases Option.some.inj (h2.symm.trans Y.code)
      exact h7
    have h := body (p, l, e, rm, s, m, As.toArray, below, meth, c, zX below Q X E.2.2.size mc ms As.toArray s, E.2.2.size, maxL)
      ⟨B.exec, B.bytes, hml, rfl, findClass_of_methodNamed B.named, fun w hw => hts w (List.mem_cons_of_mem _ hw), B.notSynchronized, rfl, hlt⟩
      ⟨B.returns, rfl⟩ ht (name_of_methodNamed B.named B.method).1 hEn rfl rfl s.heap [] _ hG (fun z hz => nomatch hz) (lv_entry As hlen)
    rw [← lg_entry_eq] at h
    have hh0 : s₁.heap = s.heap := by rw [B.state]; rfl
    obtain ⟨t, a1, o, b1, b2, b3⟩ := h s₁ hh0 Y
    exact ⟨t, o, a1, b1, b2, b3⟩
def MtW (y : MethodName) (bytes : ByteArray) (maxL : Nat) (ret : Option FieldType) (hh : hdT) (np : Nat) : Prop :=
  Cond.codeWith y bytes maxL ret hh ∈ gAll ∧ Cond.initialized y.cls ∈ gAll ∧ (y.cls ≠ "java/lang/invoke/MethodHandle" ∧ y.cls ≠ "java/lang/invoke/VarHandle") ∧ ∀ sig, parseMethodDescriptor y.desc = some sig → np = sig.parameters.length
section GW9
variable {F : gT} {cc : ByteArray} {own : String} {nL : Nat} {rm : Room} {pc : Nat} {lv : lvT} {st : List Value} {k n : Nat} {E : gE} {G : Heap → Prop} {Q1 : Option Value → Heap → Prop} {X1 : String → Heap → Prop} {mc1 ms1 idx maxL np : Nat} {y : MethodName} {bytes : ByteArray} {ret : Option FieldType} {rm1 : Room} {b : Nat} {As : List Value}
theorem go_callSW {hh : hdT} (hF : Fb F cc own nL rm) (hE : en E (gs F)) (hlo : gLo F = E.2.2.size) (hd : decode cc pc = .ok (.invokestatic idx, 3))
    (hc : Con (gl F) E y (Cond.codeWith y bytes maxL ret hh :: gAll) rm1 As G Q1 X1 mc1 ms1) (hm : MtW y bytes maxL ret hh np) (hv : Cond.static y ∈ gAll) (hlk : Cond.methodLink own idx y ∈ gAll)
    (hrm : rm1.cells = mc1 ∧ rm1.slots = ms1 ∧ rm1.frames + 1 ≤ rm.frames ∧ 8 + (maxL + 11) + rm1.locals ≤ rm.locals) (hn : As.length = np) (hst : (st.map fun v => v.category).sum ≤ 8) (hf : k + mc1 ≤ rm.cells ∧ n + ms1 ≤ rm.slots)
    (kx : ∀ M, Gx F pc lv st (X1 M) M (k + mc1) (n + ms1))
    {stk : List Value} (hs : stk = As.reverse ++ st)
    (kk : ∀ v, Go F (pc + 3) lv (v.toList ++ st) (Q1 v) (k + mc1) (n + ms1)) : Go F pc lv stk G k n := by
  subst hs
  intro H locs ls hG hL hl T hT Y
  have hcode := hF.2.2.2.2.2.1 _ hm.1
  obtain ⟨mk, methM, cM, hnamed, hmethM, hcM, -, hlM, -, -, -, hsigM⟩ := Cond.codeWith_spec hcode
  have hstatic : methM.isStatic = true := Cond.static_spec hnamed hmethM (hF.2.2.2.2.2.1 _ hv)
  obtain ⟨kP, hkP, -⟩ := className_of_methodNamed hnamed
  have hinitP : kP.init = .initialized := Cond.initialized_spec (findClass_of_methodNamed hnamed) hkP (hF.2.2.2.2.2.1 _ hm.2.1)
  have hd' : decode (gc F).code pc = .ok (.invokestatic idx, 3) := by rw [hF.2.1]; exact hd
  obtain ⟨vm₁, Y₁, hstep₁⟩ := Y.invokestatic hF.1 hF.2.2.2.2.1 (hF.2.2.2.2.2.1 _ hlk) hnamed hmethM hstatic hkP hinitP hm.2.2.1 (g := F0 (gm F) pc ls (As.reverse ++ st)) rfl (argsL := As) (rest := st) (hn.trans (hm.2.2.2 _ hsigM)) rfl hd'
  have hn₁ := Y₁.named hnamed
  obtain ⟨kY, hkY, -⟩ := className_of_methodNamed hn₁
  have hiY : kY.init = .initialized := Cond.initialized_spec (findClass_of_methodNamed hn₁) hkY (gAll_at (a' := #[]) hm.2.1 (hF.2.2.2.2.2.1 _ hm.2.1) Y₁.warmed)
  obtain ⟨mk', methN, cN, hnm', hmN, hcN, -, hlN, -, -, -, -⟩ := Cond.codeWith_spec (gAll_at (a' := #[]) hm.1 hcode Y₁.warmed)
  cases Option.some.inj (hnm'.symm.trans hn₁)
  have hR := hF.2.2.2.2.2.2.2.1
  rcases cx_call hc Y₁ (g := F0 (gm F) pc ls st) rfl (hl.1.trans (hF.2.2.2.1.trans hF.2.2.1.symm)) hd' (a := As.toArray) hn₁ hmN hcN hlN hkY hiY (all_atoms hm.1 hF.2.2.2.2.2.1 Y₁.warmed)
      (by rw [hR]; exact hrm.2.2.1) (by rw [hR]; have := hrm.2.2.2; have h8 := hst; show 2 * 0 + (st.map fun v => v.category).sum + _ + _ ≤ _; omega) (by rw [hR, hrm.1]; exact hf.1) (by rw [hR, hrm.2.1]; exact hf.2)
      ⟨rfl, en_same (U' := (T.setVm vm₁).calling (F0 (gm F) pc ls st) mk As.toArray) (U := T.setVm vm₁) rfl (en_warm Y₁.warmed hE), by show G T.heap; rw [hT]; exact hG⟩ with
    ⟨v, T', L, Y', hL', hQ, stp⟩ | ⟨q, M, ce, T', L, Y', hL', hX, hce, hcv, hcl, stp⟩
  · obtain ⟨t2, a1, b1⟩ := kk v T'.heap (locs ++ L) ls hQ (go_locs hlo hL hL') hl T' rfl Y'
    exact ⟨t2, hstep₁ _ fun acts => by rw [doInvoke_state]; exact stp.trans a1, b1⟩
  · obtain ⟨t2, a1, b1⟩ := kx M T'.heap (locs ++ L) ls q ce hX (go_locs hlo hL hL') hl hce hcv hcl T' rfl Y'
    exact ⟨t2, hstep₁ _ fun acts => by rw [doInvoke_state]; exact stp.trans a1, b1⟩
/-- what is thrown is caught: the rows ahead are of other classes, this one is of its own -/
theorem gx_catch (hF : Fb F cc own nL rm) (hE : en E (gs F)) {M : String} {pre rest : hdT} {a e hp ct : Nat} (htab : tabOf (gc F) = pre ++ (a, e, hp, ct) :: rest) (hcov : a ≤ pc ∧ pc < e)
    (hpre : ∀ y ∈ pre, y.2.2.2 ≠ 0 ∧ ∃ nm, Cond.classLink own y.2.2.2 nm ∈ gAll ∧ (M, nm) ∈ ncW) (hct : ct ≠ 0) (hcl : Cond.classLink own ct M ∈ gAll) (hcs : Cond.castable M M ∈ nW) (hin : Cond.instantiable M 6 ∈ gAll)
    (kk : ∀ q : Nat, Go F hp lv [.ref q] G k n) : Gx F pc lv st G M k n := by
  intro H locs ls q ce hG hL hl hce hcv hcM T hT Y
  have hpl : (ge F).platform.magicAccessors = ({} : Platform).magicAccessors := by rw [Y.admits.platform]
  obtain ⟨L1, L2, e1, e2, e3⟩ := List.map_eq_append_iff.mp htab
  obtain ⟨x, L3, e4, e5, e6⟩ := List.map_eq_cons_iff.mp e3
  simp only [Prod.mk.injEq] at e5
  obtain ⟨x1, x2, x3, x4⟩ := e5
  have hk0 : ∃ kc, (gs F).vm.classes[ce.cls]? = some kc := by
    obtain ⟨cC, kC, hfc, hk, -⟩ := Cond.instantiable_spec (hF.2.2.2.2.2.1 _ hin)
    cases Option.some.inj (hfc.symm.trans hcM)
    exact ⟨kC, hk⟩
  have hself : (gs F).vm.assignable ce.cls ce.cls = true := by
    have h1 := hE.2.2.1 _ hcs
    simp only [va_Nw, Cond.before, Cond.holds, Cond.value, hcM] at h1
    simpa using h1
  obtain ⟨vm', Y', stp⟩ := Y.thenCaughtThrough q (g := F0 (gm F) pc ls st) rfl (Steps.refl _) (cell := ce) (by rw [hT]; exact hce) (by rw [hcv]; rfl) hk0 L1 x L3 (by rw [e1, e4])
    (fun y hy => by
      have hy' : (y.startPc, y.endPc, y.handlerPc, y.catchType) ∈ pre := by rw [← e2]; exact List.mem_map_of_mem hy
      obtain ⟨h0, nm, hlk, hnc⟩ := hpre _ hy'
      obtain ⟨c', hc', hcl'⟩ := Cond.classLink_spec hF.2.2.2.2.1 (hF.2.2.2.2.2.1 _ hlk) (ge F).platform hpl
      obtain ⟨ca, cb, q1, q2, q3⟩ := hE.2.2.2.2.2.2.2.2.2 _ hnc
      cases Option.some.inj (q1.symm.trans hcM)
      cases Option.some.inj (q2.symm.trans hc')
      exact Or.inr ⟨h0, _, hcl', q3⟩)
    (by
      unfold covers
      rw [x1, x2]
      simp only [F0]
      simp [hcov.1, hcov.2])
    (by
      obtain ⟨c', hc', hcl'⟩ := Cond.classLink_spec hF.2.2.2.2.1 (hF.2.2.2.2.2.1 _ hcl) (ge F).platform hpl
      cases Option.some.inj (hc'.symm.trans hcM)
      exact Or.inr ⟨by rw [x4]; exact hct, _, by rw [x4]; exact hcl', hself⟩)
  obtain ⟨t2, a1, b1⟩ := kk q H locs ls hG hL hl (T.setVm vm') hT Y'
  rw [x3] at stp
  exact ⟨t2, stp.trans a1, b1⟩
end GW9
