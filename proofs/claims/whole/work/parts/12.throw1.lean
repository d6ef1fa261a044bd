/-! THROWING: 'new X; dup; ldc text; X.<init>(String); athrow', out of a method without handlers of its own. The library's ctorThrowS
tells what it leaves alone against the method's ENTRY; st_rebase sets the entry anew at the place where the throw begins. -/
theorem code_of (s : State) (m : MethodId) : s.code? m = (s.vm.method? m).bind (·.code) := by
  unfold State.code? Vm.method?
  cases s.vm.classes[m.cls]? with
  | none => rfl
  | some k =>
    show (k.methods[m.idx]?.bind fun x => x.code) = _
    cases h : k.methods[m.idx]? <;> simp [h]
theorem st_rebase {p : Program} {l : Launch} {e : Env} {R : Room} {s : State} {m : MethodId} {args : Array Value} {below : List Frame} {meth : Method} {c : Code} {T : State} {locs : List Loc} {k n : Nat}
    (Y : Stand p l e R s m args below meth c T locs k n) {R' : Room} (hf : R'.frames ≤ R.frames) (hlo : R'.locals ≤ R.locals) (hce : k + R'.cells ≤ R.cells) (hsl : n + R'.slots ≤ R.slots) :
    Stand p l e R' { s with vm := T.vm, heap := T.heap, slotsUsed := T.slotsUsed } m args below meth c T [] 0 0 := by
  have hm' : T.vm.method? m = some meth := Y.method'
  refine ⟨Y.admits, Y.cas, Y.clock, Y.frames, ?_, ?_, hm', Y.code, Y.here, Y.tail, ?_, Y.limits, Y.bytes, ?_⟩
  · have h := Y.room
    have hu := Y.used
    have hs := Y.heapSize
    have hb := Y.book
    have r5 := State.hasRoom_real h
    have e1 : ({ s with vm := T.vm, heap := T.heap, slotsUsed := T.slotsUsed } : State).localsInUse = s.localsInUse := by
      rw [State.localsInUse_invoking (s := { s with vm := T.vm, heap := T.heap, slotsUsed := T.slotsUsed }) Y.frames hm' Y.code, State.localsInUse_invoking Y.frames Y.method Y.code]
    simp only [State.hasRoom, Bool.and_eq_true, decide_eq_true_eq] at h ⊢
    rw [e1]
    obtain ⟨⟨⟨⟨h1, h2, h3, h4, h5, h6⟩, h7⟩, h8⟩, h9⟩ := h
    refine ⟨⟨⟨⟨by omega, ?_, ?_, by omega, ?_, h6⟩, ?_⟩, ?_⟩, ?_⟩
    · show s.frames.length + R'.frames ≤ _
      omega
    · show s.frames.length + R'.frames ≤ (e.platform.stackLimits s.me).1
      omega
    · show s.localsInUse + R'.locals ≤ (e.platform.stackLimits s.me).2
      omega
    · show T.heap.size + R'.cells ≤ _
      omega
    · show T.slotsUsed + R'.slots ≤ _
      omega
    · exact hb
  · have h := Y.hears
    have hal := Y.warmed.alike
    unfold State.hears at h ⊢
    split at h
    · rw [code_of] at h ⊢
      rw [hal.method?]
      exact h
    · rfl
    · rfl
    · show ((T.vm.method? m).any fun x => x.sig.returnType.isNone) = true
      rw [hal.method?]
      exact h
  · exact State.WarmedH.refl ({ s with vm := T.vm, heap := T.heap, slotsUsed := T.slotsUsed } : State)
  · have h1 := Y.same.1
    have e0 : ((T.heap.toList.drop T.heap.size).map (·.slots.size)).sum = 0 := by
      rw [List.drop_eq_nil_of_le (by simp)]
      rfl
    refine ⟨?_, Nat.le_refl _, Nat.le_refl _, ?_, ?_, ?_⟩
    · have h2 : T = { (s.setFrames T.frames) with vm := T.vm, heap := T.heap, slotsUsed := T.slotsUsed } := by
        have h3 := congrArg (fun u : State => u.setVm T.vm) h1
        exact h3
      exact h2
    · show T.slotsUsed = T.slotsUsed + ((T.heap.toList.drop T.heap.size).map (·.slots.size)).sum
      rw [e0]
      exact (Nat.add_zero _).symm
    · show ((T.heap.toList.drop T.heap.size).map (·.slots.size)).sum ≤ 0
      rw [e0]
      exact Nat.le_refl 0
    · intro a c h
      exact ⟨c, h, rfl, rfl, fun _ _ => rfl⟩
theorem st_back {p : Program} {l : Launch} {e : Env} {R : Room} {s : State} {m : MethodId} {args : Array Value} {below : List Frame} {meth : Method} {c : Code} {T U : State} {locs : List Loc} {k n k' n' : Nat}
    (Y : Stand p l e R s m args below meth c T locs k n) (h : State.sameButNew { s with vm := T.vm, heap := T.heap, slotsUsed := T.slotsUsed } ({ U with vm := T.vm } : State) [] k' n') :
    s.sameButNew ({ U with vm := s.vm } : State) locs (k + k') (n + n') := by
  have h1 := Y.same.setFrames s.frames Y.cur
  have e1 : (T.setVm s.vm).setFrames s.frames = ({ s with vm := T.vm, heap := T.heap, slotsUsed := T.slotsUsed } : State).setVm s.vm := by
    have h2 := Y.same.1
    obtain ⟨x, hx, -⟩ := State.frames_cons Y.frames
    have h3 : s.setFrames s.frames = s := Sym.setFrames_own (State.sameButNew.refl s hx)
    generalize hFr : (T.setVm s.vm).frames = Fr at h2
    have e : (T.setVm s.vm).setFrames s.frames = ({ s.setFrames Fr with heap := T.heap, slotsUsed := T.slotsUsed } : State).setFrames s.frames := congrArg (·.setFrames s.frames) h2
    have e2 : ({ s.setFrames Fr with heap := T.heap, slotsUsed := T.slotsUsed } : State).setFrames s.frames = { (s.setFrames Fr).setFrames s.frames with heap := T.heap, slotsUsed := T.slotsUsed } := rfl
    rw [e, e2, State.setFrames_setFrames, h3]
    rfl
  rw [e1] at h1
  have h2 := h.setVm s.vm
  have h3 := h1.trans h2
  rw [List.append_nil] at h3
  exact h3
def thrW : List Cond := [.laysStatic Bundle.tN "UNASSIGNED_STACK" Bundle.steD, .laysStatic Bundle.tN "SUPPRESSED_SENTINEL" Bundle.listD, .isRef (.static Bundle.tN "UNASSIGNED_STACK" Bundle.steD), .isRef (.static Bundle.tN "SUPPRESSED_SENTINEL" Bundle.listD)]
theorem zs_at {O f d : String} {U : State} {H0 H : Heap} (h : zs O f d U H0) (hq : ∀ a : Nat, a < H0.size → H[a]? = H0[a]?) : zs O f d U H := by
  obtain ⟨c, k, i, fd, a, cell, v, h1, h2, h3, h4, h5, h6⟩ := h
  exact ⟨c, k, i, fd, a, cell, v, h1, h2, h3, h4, by rw [hq a (Array.getElem?_eq_some_iff.mp h5).1]; exact h5, h6⟩
section TH
variable {F : gT} {cc : ByteArray} {own : String} {nL : Nat} {rm : Room} {pc : Nat} {lv : lvT} {st : List Value} {k n : Nat} {E : gE} {G : Heap → Prop} {Q : Option Value → Heap → Prop} {X : String → Heap → Prop} {mc ms : Nat} {ret0 : Option FieldType}
set_option maxHeartbeats 4000000 in
theorem go_throw (hF : Fb F cc own nL rm) (hM : Fm F ret0 Q X mc ms) (htab : ∀ x ∈ (gc F).exceptionTable.toList, False) (hE : en E (gs F)) {M text : String} {names : List String} {ik is ic : Nat} (how : own = "EventWaves")
    (h0 : decode cc pc = .ok (.new ik, 3)) (h3 : decode cc (pc + 3) = .ok (.dup, 1)) (h4 : decode cc (pc + 4) = .ok (.ldc is, 2)) (h6 : decode cc (pc + 6) = .ok (.invokespecial ic, 3)) (h9 : decode cc (pc + 9) = .ok (.athrow, 1))
    (hcl : Cond.classLink own ik M ∈ gAll) (hin : Cond.instantiable M 6 ∈ gAll) (hini : Cond.initialized M ∈ gAll) (hst : (is, text) ∈ sW)
    (hw : ∀ w ∈ Bundle.ownAtoms own ic M names, w ∈ gAll ∨ w ∈ nW ∨ w ∈ thrW) (hfit : Bundle.fit M = true) (hfits : ∀ x ∈ names, Bundle.fit x = true)
    (hfr : names.length + 3 < rm.frames) (hlc : ((st.map fun v => v.category).sum + 1) + (13 * (names.length + 1) + 42) ≤ rm.locals) (hk : k + 1 ≤ mc ∧ mc ≤ rm.cells) (hn : n + 6 ≤ ms ∧ ms ≤ rm.slots)
    (hG : ∀ H, G H → E.2.2.size ≤ H.size ∧ ∀ q : Nat, q < E.2.2.size → H[q]? = E.2.2[q]?)
    (hX : ∀ H H' : Heap, G H → H'.size = H.size + 1 → (∀ q : Nat, q < H.size → H'[q]? = H[q]?) → X M H') : Go F pc lv st G k n := by
  intro H locs ls hGH hL hl T hT Y
  subst hT
  have hR := hF.2.2.2.2.2.2.2.1
  have Y' := st_rebase Y (R' := { frames := rm.frames, cells := 1, slots := 6, locals := rm.locals }) (by rw [hR]; exact Nat.le_refl _) (by rw [hR]; exact Nat.le_refl _) (by rw [hR]; show k + 1 ≤ rm.cells; omega) (by rw [hR]; show n + 6 ≤ rm.slots; omega)
  have hHq := hG T.heap hGH
  generalize hs' : ({ gs F with vm := T.vm, heap := T.heap, slotsUsed := T.slotsUsed } : State) = s' at Y'
  have hvm : s'.vm = T.vm := by rw [← hs']
  have hhp : s'.heap = T.heap := by rw [← hs']
  have hWs : (gs F).WarmedH s'.vm := by rw [hvm]; exact Y.warmed
  have hE' : en E s' := en_warm hWs hE
  have hgA : ∀ w ∈ gAll, w.before (ga F) s' = true := fun w h => gAll_at h (hF.2.2.2.2.2.1 w h) hWs
  have hzs : ∀ {O f d : String}, zs O f d s' E.2.2 → zs O f d s' s'.heap := fun h => zs_at h (by rw [hhp]; exact hHq.2)
  have hown : s'.vm.findClass own = some (gm F).cls := by rw [hWs.alike.findClass]; exact hF.2.2.2.2.1
  have hthr : ∀ w ∈ thrW, w.before (ga F) s' = true := by
    intro w h
    simp only [thrW, List.mem_cons, List.not_mem_nil, or_false] at h
    rcases h with rfl | rfl | rfl | rfl
    · exact zs_lays (hzs hE'.2.2.2.2.2.2.2.1)
    · exact zs_lays (hzs hE'.2.2.2.2.2.2.2.2.1)
    · exact zs_ref (hzs hE'.2.2.2.2.2.2.2.1)
    · exact zs_ref (hzs hE'.2.2.2.2.2.2.2.2.1)
  have hat : ∀ w ∈ Bundle.ownAtoms own ic M names, w.before (ga F) s' = true := by
    intro w h
    rcases hw w h with q | q | q
    · exact hgA w q
    · exact va_Nw.use (nW_on w q) (hE'.2.2.1 w q)
    · exact hthr w q
  have htr : (ge F).platform.stackTraces = false := by
    rw [Example.NoTraceControls.admits_follows Y.admits]
    exact hF.2.2.2.2.2.2.2.2
  have hd : ∀ {q : Nat} {x : Instr × Nat}, decode cc q = .ok x → decode (gc F).code q = .ok x := fun h => by rw [hF.2.1]; exact h
  obtain ⟨vm₁, cX, kX, hfX, hkX, -, -, X₁, st1⟩ := Y'.newCold hF.1 (own := own) (C := M) (index := ik) (n := 6) hown (hgA _ hcl) (hgA _ hin) (hgA _ hini)
    (g := F0 (gm F) pc ls st) rfl (hd h0) (Nat.le_refl 1) (Nat.le_refl 6)
  generalize hT1 : (T.setVm vm₁).pushCell { cls := cX, slots := kX.instanceTypes.map defaultValue, vm := .none } = T1 at X₁ st1
  have hcellA : T1.heap[T.heap.size]? = some (freshCell cX kX) := by rw [← hT1]; exact State.heap_pushCell_size _ _
  obtain ⟨sa, hsr, hsv⟩ := hE'.2.2.2.1 (is, text) hst
  have hsr' : (Cond.stringRef own is text).before (ga F) s' = true := by rw [how]; exact hsr
  have hsv' : (Term.string own is).eval (ga F) s' none [] s' = some (.ref sa) := by rw [how]; exact hsv
  have st3 := X₁.ldcString hF.1 (own := own) (text := text) (index := is) (a := sa) hown hsr' hsv' (g := F0 (gm F) (pc + 4) ls (.ref T.heap.size :: .ref T.heap.size :: st)) rfl (hd h4)
  obtain ⟨U, hsteps, hrun, hend, hW2, hsame2, ce, hce, K⟩ := X₁.ctorThrowS hF.1 htr (own := own) (cls := M) (names := names) (ic := ic) hown hfit hfits hat (fun x hx => by cases hx) hfX hkX hcellA (by rw [hhp]; exact Nat.le_refl _) (msg := .ref sa) rfl
    (g := F0 (gm F) (pc + 6) ls (.ref sa :: .ref T.heap.size :: .ref T.heap.size :: st)) rfl (hl.1.trans (hF.2.2.2.1.trans hF.2.2.1.symm)) rfl rfl (rest := st) rfl (hd h6) (hd h9) (fun x hx => (htab x hx).elim) hfr
    (by
      rw [List.map_cons, List.sum_cons]
      show 2 * 0 + (1 + (st.map fun v => v.category).sum) + (13 * (names.length + 1) + 42) ≤ rm.locals
      omega) hF.2.2.2.2.2.2.1
  rw [hM.2]
  have hsame3 := hsame2
  rw [show s' = ({ gs F with vm := T.vm, heap := T.heap, slotsUsed := T.slotsUsed } : State) from hs'.symm] at hsame3
  have hsame4 := st_back Y hsame3
  have hUsz : U.heap.size = T.heap.size + 1 := by
    have a1 : U.heap.size ≤ s'.heap.size + 1 := hsame2.2.2.1
    have a2 : T.heap.size < U.heap.size := (Array.getElem?_eq_some_iff.mp hce).1
    rw [hhp] at a1
    omega
  have hUq : ∀ q : Nat, q < T.heap.size → U.heap[q]? = T.heap[q]? := by
    intro q hq
    have e1 : T.heap[q]? = some T.heap[q] := Array.getElem?_eq_getElem hq
    rw [e1]
    exact hsame2.old_cell (s := s') (s' := ({ U with vm := s'.vm } : State)) (by rw [hhp]; exact e1)
  refine ⟨U, ?_, .threw T.heap.size, hrun, hend, locs, State.WarmedH.trans (t := s') hWs hW2, hsame4.mono hk.1 hn.1, hL, Or.inr ⟨T.heap.size, M, ce, rfl, hX T.heap U.heap hGH hUsz hUq, hce, K.vm, ?_⟩⟩
  · refine st1 _ ?_
    show Steps (gp F).tables (ge F) (gb F) (T1.setTop (F0 (gm F) (pc + 3) ls (.ref T.heap.size :: st))) _
    have hd3 := hd h3
    jvm_step X₁.here [X₁.here.top, hF.1, hd3, Value.category]
    exact st3 _ hsteps
  · have h := K.cls
    rw [hWs.alike.findClass] at h
    exact h
end TH
