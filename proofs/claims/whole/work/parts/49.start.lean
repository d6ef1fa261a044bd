/-! THE CLAIM OUT OF ONE WALK OF THE LAW'S BODY. Your part is whole_start (and what it stands on); all else here is the same for every law, but numbers. -/
def R_law : String := "EventWavesLaw"
def lw_P (b : Addr) (xs : List Int32) (args : Array Value) (s : State) : Prop := args = #[.ref b] ∧ s.IntsAt b xs ∧ xs.length ≤ 2560 ∧ (Jvm.Cond.and given_1 narrow_1).before args s = true
def lw_Q (_ : Array Value) (s : State) (o : Outcome) (t : State) : Prop := o = .returned (some (.int 1)) ∧ Framed s o t [] 601024 7293034
def lw_Z (below : List Frame) (a : Array Value) (s : State) : State → Prop := fun t => ∃ o, t.status = .running ∧ Ended t below o ∧ lw_Q a s o t
/-- the law's own end, with 1 on the stack, nothing written that was there before, its room as the claim has it -/
theorem lw_ret {p : Program} {l : Launch} {e : Env} {s : State} {m : MethodId} {below : List Frame} {meth : Method} {c : Code} {b : Nat} (hx : p.tables.exec = Jvm.exec) (hb : c.code = code) (hr : meth.sig.returnType = ret) (hlocks : meth.locks = false) {pc : Nat} {H : Heap} {ls : Array Slot} (hdg : decode code pc = .ok (.ireturn, 1)) : W p l e room_1 s m #[Value.ref b] below meth c H [] 601024 7293034 (lw_Z below #[Value.ref b] s) (F0 m pc ls [.int 1]) := by
  intro T hT X
  obtain ⟨fs, hret, hrun, hended, hW, hframe⟩ := X.leave (v := some (.int 1)) (hlocks := hlocks) (fun h => by rw [hr] at h; cases h)
  have hmeth' : T.vm.method? m = some meth := X.method'
  refine ⟨T.setFrames fs, ?_, .returned (some (.int 1)), hrun, hended, rfl, ⟨_, rfl⟩, hW, hframe⟩
  jvm_step X.here [X.here.top, hx, hb, hdg, hmeth', hr, ret, narrow_b1]
  (try refine ⟨rfl, ?_⟩); (try refine ⟨rfl, ?_⟩)
  first | (intro acts; rw [hret _ acts rfl rfl rfl]) | rw [hret _ _ rfl rfl rfl]
  exact Steps.refl _
/-- what holds at the law's entry: the machine, the code, the tables' words (any of lw_tbl by 'hts w (by decide +kernel)'), the script of L ints xs at the cell b, what the Statement gives of the start (any of its parts by flat_of_before) -/
def lw_At (p : Program) (s : State) (m : MethodId) (meth : Method) (c : Code) (b L : Nat) (xs : Nat → Int32) : Prop :=
  p.tables.exec = Jvm.exec ∧ c.code = code ∧ meth.sig.returnType = ret ∧ c.maxLocals = 8 ∧ s.vm.findClass R_law = some m.cls ∧ (∀ w ∈ lw_tbl, w.before #[Value.ref b] s = true) ∧ va_X b L xs s s.heap ∧ b < s.heap.size ∧ meth.locks = false ∧ (Jvm.Cond.and given_1 narrow_1).before #[Value.ref b] s = true
theorem nW_tbl : ∀ w ∈ nW, w ∈ lw_tbl := by
  have h : nW.all (fun w => decide (w ∈ lw_tbl)) = true := by decide +kernel
  intro w hw
  exact of_decide_eq_true (List.all_eq_true.mp h w hw)
theorem sW_tbl : ∀ q ∈ sW, Cond.stringRef "EventWaves" q.1 q.2 ∈ lw_tbl := by
  have h : sW.all (fun q => decide (Cond.stringRef "EventWaves" q.1 q.2 ∈ lw_tbl)) = true := by decide +kernel
  intro w hw
  exact of_decide_eq_true (List.all_eq_true.mp h w hw)
set_option maxHeartbeats 4000000 in
set_option maxRecDepth 100000 in
/-- what the law's start says of the tables and the heap -/
theorem en_start {s : State} {b : Nat} (hts : ∀ w ∈ lw_tbl, w.before #[Value.ref b] s = true) (hgv : (Jvm.Cond.and given_1 narrow_1).before #[Value.ref b] s = true) (hown : ∃ c, s.vm.findClass "EventWaves" = some c) : ∃ E : gE, E.2.2 = s.heap ∧ en E s := by
  have hg : ∀ w ∈ gAll, w.before #[Value.ref b] s = true := fun w hw => hts w ((List.mem_filter.mp hw).1)
  have hs := flat_of_before _ hgv
  obtain ⟨c0, i0, k0⟩ := u_known (C := R_EW) (T := T_EW) (N := 4) (n := 4) hg uw_EW (hts (.instantiable R_EW 4) (by decide +kernel))
  obtain ⟨c1, i1, k1⟩ := u_known (C := R_Ci) (T := T_Ci) (N := 10) (n := 10) hg uw_Ci (hts (.instantiable R_Ci 10) (by decide +kernel))
  obtain ⟨c2, i2, k2⟩ := u_known (C := R_Ne) (T := T_Ne) (N := 6) (n := 6) hg uw_Ne (hts (.instantiable R_Ne 6) (by decide +kernel))
  obtain ⟨c3, i3, k3⟩ := u_known (C := R_Ga) (T := T_Ga) (N := 11) (n := 11) hg uw_Ga (hts (.instantiable R_Ga 11) (by decide +kernel))
  obtain ⟨c4, i4, k4⟩ := u_known (C := R_Ch) (T := T_Ch) (N := 5) (n := 5) hg uw_Ch (hts (.instantiable R_Ch 5) (by decide +kernel))
  obtain ⟨c5, i5, k5⟩ := u_known (C := R_Ha) (T := T_Ha) (N := 5) (n := 5) hg uw_Ha (hts (.instantiable R_Ha 5) (by decide +kernel))
  obtain ⟨c6, i6, k6⟩ := u_known (C := R_Wa) (T := T_Wa) (N := 4) (n := 4) hg uw_Wa (hts (.instantiable R_Wa 4) (by decide +kernel))
  obtain ⟨c7, i7, k7⟩ := u_known (C := R_Ta) (T := T_Ta) (N := 2) (n := 2) hg uw_Ta (hts (.instantiable R_Ta 2) (by decide +kernel))
  obtain ⟨c8, i8, k8⟩ := u_known (C := R_Tr) (T := T_Tr) (N := 4) (n := 4) hg uw_Tr (hts (.instantiable R_Tr 4) (by decide +kernel))
  obtain ⟨c9, i9, k9⟩ := u_known (C := R_Mo) (T := T_Mo) (N := 9) (n := 9) hg uw_Mo (hts (.instantiable R_Mo 9) (by decide +kernel))
  obtain ⟨cI, kI, pI, aI1, aI2, aI3⟩ := Cond.arrayClass_spec (hg _ ac_int)
  obtain ⟨cL, kL, pL, aL1, aL2, aL3⟩ := Cond.arrayClass_spec (hg _ ac_long)
  have oNet := hts (.arrayOver (.object "EventWaves$Net")) (by decide +kernel)
  obtain ⟨pNet, cNet, kNet, aNet1, -, aNet2, aNet3, aNet4⟩ := Cond.arrayOver_spec oNet
  have oGate := hts (.arrayOver (.object "EventWaves$Gate")) (by decide +kernel)
  obtain ⟨pGate, cGate, kGate, aGate1, -, aGate2, aGate3, aGate4⟩ := Cond.arrayOver_spec oGate
  have oCheck := hts (.arrayOver (.object "EventWaves$Check")) (by decide +kernel)
  obtain ⟨pCheck, cCheck, kCheck, aCheck1, -, aCheck2, aCheck3, aCheck4⟩ := Cond.arrayOver_spec oCheck
  have oCircuit := hts (.arrayOver (.object "EventWaves$Circuit")) (by decide +kernel)
  obtain ⟨pCircuit, cCircuit, kCircuit, aCircuit1, -, aCircuit2, aCircuit3, aCircuit4⟩ := Cond.arrayOver_spec oCircuit
  refine ⟨((fun k => ([c0, c1, c2, c3, c4, c5, c6, c7, c8, c9] : List ClassId).getD k 0, fun k => ([i0, i1, i2, i3, i4, i5, i6, i7, i8, i9] : List (Nat → Nat)).getD k (fun _ => 0)), [(cI, .int), (cL, .long), (cNet, .object "EventWaves$Net"), (cGate, .object "EventWaves$Gate"), (cCheck, .object "EventWaves$Check"), (cCircuit, .object "EventWaves$Circuit")], s.heap), rfl, ⟨fun k q hq => ?_, fun k q hq => ?_⟩, rfl, fun w hw => va_Nw.of (nW_on w hw) (hts w (nW_tbl w hw)), fun q hq => ?_, ?_, ?_, ⟨va_AO.of oNet, va_AO.of oGate, va_AO.of oCheck, va_AO.of oCircuit⟩, ?_, ?_, fun q hq => ?_⟩
  · match k, hq with
    | 0, hq => cases hq; exact k0
    | 1, hq => cases hq; exact k1
    | 2, hq => cases hq; exact k2
    | 3, hq => cases hq; exact k3
    | 4, hq => cases hq; exact k4
    | 5, hq => cases hq; exact k5
    | 6, hq => cases hq; exact k6
    | 7, hq => cases hq; exact k7
    | 8, hq => cases hq; exact k8
    | 9, hq => cases hq; exact k9
    | k + 10, hq => simp [vwCl] at hq
  · match k, hq with
    | 0, hq => cases hq; exact ⟨fun n z => ⟨(fun k h => by cases h), kI, aI2, pI, aI3⟩, aI1⟩
    | 1, hq => cases hq; exact ⟨fun n z => ⟨(fun k h => by cases h), kL, aL2, pL, aL3⟩, aL1⟩
    | 2, hq => cases hq; exact ⟨fun n z => ⟨(fun k h => by cases h), kNet, aNet2, pNet, aNet3⟩, kNet, pNet, aNet2, aNet3, aNet1, aNet4⟩
    | 3, hq => cases hq; exact ⟨fun n z => ⟨(fun k h => by cases h), kGate, aGate2, pGate, aGate3⟩, kGate, pGate, aGate2, aGate3, aGate1, aGate4⟩
    | 4, hq => cases hq; exact ⟨fun n z => ⟨(fun k h => by cases h), kCheck, aCheck2, pCheck, aCheck3⟩, kCheck, pCheck, aCheck2, aCheck3, aCheck1, aCheck4⟩
    | 5, hq => cases hq; exact ⟨fun n z => ⟨(fun k h => by cases h), kCircuit, aCircuit2, pCircuit, aCircuit3⟩, kCircuit, pCircuit, aCircuit2, aCircuit3, aCircuit1, aCircuit4⟩
    | k + 6, hq => simp at hq
  · obtain ⟨cur, hcur⟩ := hown
    have h1 := hts _ (sW_tbl q hq)
    obtain ⟨kk, cf, i, a, -, -, -, -, -, hev⟩ := Cond.stringRef_spec hcur h1
    exact ⟨a, vk_R.of h1 hev⟩
  · have hel : ∀ j : Nat, j < 4 → (Term.elem (.static "EventWaves" "VALUE_BYTES" "[I") (.int (Int32.ofNat j))).eval #[Value.ref b] s none [] s = some (.int (vbs j)) := by
      intro j hj
      match j, hj with
      | 0, _ => exact va_eqt (hs (.eq (.elem (.static "EventWaves" "VALUE_BYTES" "[I") (.int 0)) (.int 48)) (by decide +kernel))
      | 1, _ => exact va_eqt (hs (.eq (.elem (.static "EventWaves" "VALUE_BYTES" "[I") (.int 1)) (.int 49)) (by decide +kernel))
      | 2, _ => exact va_eqt (hs (.eq (.elem (.static "EventWaves" "VALUE_BYTES" "[I") (.int 2)) (.int 120)) (by decide +kernel))
      | 3, _ => exact va_eqt (hs (.eq (.elem (.static "EventWaves" "VALUE_BYTES" "[I") (.int 3)) (.int 122)) (by decide +kernel))
      | j + 4, h => exact absurd h (by omega)
    obtain ⟨t, h1, h2⟩ := va_Tof (tm := .static "EventWaves" "VALUE_BYTES" "[I") (ty := .int) (N := 4) (f := fun j => .int (vbs j)) (A := nA) (by decide) (hs (.arrayOf (.static "EventWaves" "VALUE_BYTES" "[I") .int) (by decide +kernel)) (va_eqt (hs (.eq (.length (.static "EventWaves" "VALUE_BYTES" "[I")) (.int 4)) (by decide +kernel))) hel (fun _ _ h => h)
    exact ⟨t, va_Zref (hts (.laysStatic "EventWaves" "VALUE_BYTES" "[I") (by decide +kernel)) (hts (.initialized "EventWaves") (by decide +kernel)) h1 (fun _ _ h => h), h2⟩
  · have hel : ∀ j : Nat, j < 10 → (Term.elem (.static "EventWaves" "POWERS" "[I") (.int (Int32.ofNat j))).eval #[Value.ref b] s none [] s = some (.int (pws j)) := by
      intro j hj
      match j, hj with
      | 0, _ => exact va_eqt (hs (.eq (.elem (.static "EventWaves" "POWERS" "[I") (.int 0)) (.int 1)) (by decide +kernel))
      | 1, _ => exact va_eqt (hs (.eq (.elem (.static "EventWaves" "POWERS" "[I") (.int 1)) (.int 10)) (by decide +kernel))
      | 2, _ => exact va_eqt (hs (.eq (.elem (.static "EventWaves" "POWERS" "[I") (.int 2)) (.int 100)) (by decide +kernel))
      | 3, _ => exact va_eqt (hs (.eq (.elem (.static "EventWaves" "POWERS" "[I") (.int 3)) (.int 1000)) (by decide +kernel))
      | 4, _ => exact va_eqt (hs (.eq (.elem (.static "EventWaves" "POWERS" "[I") (.int 4)) (.int 10000)) (by decide +kernel))
      | 5, _ => exact va_eqt (hs (.eq (.elem (.static "EventWaves" "POWERS" "[I") (.int 5)) (.int 100000)) (by decide +kernel))
      | 6, _ => exact va_eqt (hs (.eq (.elem (.static "EventWaves" "POWERS" "[I") (.int 6)) (.int 1000000)) (by decide +kernel))
      | 7, _ => exact va_eqt (hs (.eq (.elem (.static "EventWaves" "POWERS" "[I") (.int 7)) (.int 10000000)) (by decide +kernel))
      | 8, _ => exact va_eqt (hs (.eq (.elem (.static "EventWaves" "POWERS" "[I") (.int 8)) (.int 100000000)) (by decide +kernel))
      | 9, _ => exact va_eqt (hs (.eq (.elem (.static "EventWaves" "POWERS" "[I") (.int 9)) (.int 1000000000)) (by decide +kernel))
      | j + 10, h => exact absurd h (by omega)
    obtain ⟨t, h1, h2⟩ := va_Tof (tm := .static "EventWaves" "POWERS" "[I") (ty := .int) (N := 10) (f := fun j => .int (pws j)) (A := nA) (by decide) (hs (.arrayOf (.static "EventWaves" "POWERS" "[I") .int) (by decide +kernel)) (va_eqt (hs (.eq (.length (.static "EventWaves" "POWERS" "[I")) (.int 10)) (by decide +kernel))) hel (fun _ _ h => h)
    exact ⟨t, va_Zref (hts (.laysStatic "EventWaves" "POWERS" "[I") (by decide +kernel)) (hts (.initialized "EventWaves") (by decide +kernel)) h1 (fun _ _ h => h), h2⟩
  · exact zs_of (hts (.laysStatic Bundle.tN "UNASSIGNED_STACK" Bundle.steD) (by decide +kernel)) (hs (.isRef (.static Bundle.tN "UNASSIGNED_STACK" Bundle.steD)) (by decide +kernel))
  · exact zs_of (hts (.laysStatic Bundle.tN "SUPPRESSED_SENTINEL" Bundle.listD) (by decide +kernel)) (hs (.isRef (.static Bundle.tN "SUPPRESSED_SENTINEL" Bundle.listD)) (by decide +kernel))
  · have hn : ∀ q ∈ ncW, (Cond.not (.castable q.1 q.2)).before #[Value.ref b] s = true := by
      intro q hq
      simp only [ncW, List.mem_cons, List.not_mem_nil, or_false] at hq
      rcases hq with rfl | rfl | rfl | rfl | rfl | rfl
      all_goals exact hs _ (by decide +kernel)
    exact ncs_of (hn q hq)
set_option maxHeartbeats 4000000 in
/-- from the entry, for every script of at most 2560 ints, the law comes to its end with true -/
theorem whole_start {p : Program} {e : Env} {s : State} {m : MethodId} {below : List Frame} {meth : Method} {c : Code} (l : Launch) (hlt : l.stackTraces = false) {b L : Nat} {xs : Nat → Int32} (hL : L ≤ 2560) (C0 : lw_At p s m meth c b L xs) : W p l e room_1 s m #[Value.ref b] below meth c s.heap [] 0 0 (lw_Z below #[Value.ref b] s) (entryFrame m ([Value.ref b] : List Value).toArray 8) := by
  obtain ⟨hx, hb, hr, hml, hown, hts, hX, hbl, hlocks, hgv⟩ := id C0
  obtain ⟨cE, kE, hfE, -⟩ := Cond.instantiable_spec (hts (.instantiable "EventWaves" 4) (by decide +kernel))
  obtain ⟨E, hEh, hE⟩ := en_start hts hgv ⟨cE, hfE⟩
  have hl := lv_entry ([.ref b]) (n := 8) (Nat.le_of_ble_eq_true rfl)
  rw [lg_entry_eq]
  have hF : Fb (p, l, e, room_1, s, m, #[Value.ref b], below, meth, c, lw_Z below #[Value.ref b] s, E.2.2.size, 8) c_La_law R_La 8 room_1 := ⟨hx, hb, hml, rfl, hown, fun w hw => hts w ((List.mem_filter.mp hw).1), hlocks, rfl, hlt⟩
  have K := law_body (F := (p, l, e, room_1, s, m, #[Value.ref b], below, meth, c, lw_Z below #[Value.ref b] s, E.2.2.size, 8)) hF hE rfl hlt (by rw [hEh]; exact hX) (by rw [hEh]; exact hbl) hL (fun lv B N w k n hk hn => by
    refine go_iconst (v := 1) hF d_La_law_1487 (by decide) ?_
    intro H locs ls hG hL' hl'
    refine va_forget (fun q hq => by have := hL' q hq; rw [← hEh]; exact this) ?_
    refine W.widen (k := 601024) (n := 7293034) hk hn ?_
    exact lw_ret hx hb hr hlocks d_La_law_1488)
  exact K s.heap [] _ hEh.symm (fun z hz => nomatch hz) hl
set_option maxHeartbeats 4000000 in
theorem lw_walk (l : Launch) (hlt : l.stackTraces = false) (b : Addr) (xs : List Int32) : MetFree l x (headSpec (Jvm.Cond.code x code maxLocals ret :: tables_1) room_1) (lw_P b xs) (fun _ _ _ _ _ => True) lw_Q := by
  refine MetFree.of_bodyS (code := code) (maxLocals := maxLocals) (ret := ret) (by decide) ?_ ?_
  · intro args s m h hn
    obtain ⟨meth, c, h1, h2, h3, h4, h5, h6, -, -⟩ := Cond.code_spec hn (atoms_spec (ws := Jvm.Cond.code x code maxLocals ret :: tables_1) h _ List.mem_cons_self)
    exact ⟨meth, c, h1, h2, h3, h4, h5, h6⟩
  · intro p e s m args below meth c s₁ B hml0 hP _
    obtain ⟨rfl, hx, hbd, hgv⟩ := hP
    obtain ⟨scr, harrAt, hlist, hof, hsmall⟩ := hx
    obtain ⟨hcb, hkn, -, -⟩ := State.arrayAt?_spec harrAt
    have hown : s.vm.findClass R_law = some m.cls := findClass_of_methodNamed B.named
    have hts0 : ∀ c ∈ (Jvm.Cond.code x code maxLocals ret :: tables_1), c.before #[Value.ref b] s = true := atoms_spec (ws := Jvm.Cond.code x code maxLocals ret :: tables_1) B.pre
    have hts : ∀ w ∈ lw_tbl, w.before #[Value.ref b] s = true := k2_hts_sels lw_privs (fun w hw => hts0 w (List.mem_cons_of_mem _ hw)) lw_privs_ok
    have hml : c.maxLocals = 8 := B.maxLocals_eq (hts0 _ List.mem_cons_self)
    have X₀ : Stand p l e room_1 s m #[Value.ref b] below meth c s₁ [] 0 0 := Stand.of_body B
    have hh0 : s₁.heap = s.heap := by rw [B.state]; rfl
    have hsz : scr.slots.size = xs.length := by rw [← Array.length_toList, hlist, List.length_map]
    have hval : ∀ j : Nat, j < xs.length → scr.slots[j]? = some (.int (xs.getD j 0)) := fun j hj => by
      rw [← Array.getElem?_toList, hlist]
      simp [hj]
    have hbl : b < s.heap.size := (Array.getElem?_eq_some_iff.mp hcb).1
    have hX : va_X b xs.length (fun j => xs.getD j 0) s s.heap := ⟨scr, hcb, hof, hkn, hsz, hval⟩
    have K : W p l e room_1 s m #[Value.ref b] below meth c s₁.heap [] 0 0 (lw_Z below #[Value.ref b] s) (entryFrame m ([Value.ref b] : List Value).toArray 8) := by
      rw [hh0]
      exact whole_start l hlt hbd ⟨B.exec, B.bytes, B.returns, hml, hown, hts, hX, hbl, B.notSynchronized, hgv⟩
    obtain ⟨t, a1, o, b1, b2, b3⟩ := K s₁ rfl X₀
    exact ⟨t, o, a1, b1, b2, b3⟩
theorem lw_pre_spec {args : Array Value} {s : State} (h : (Jvm.Cond.and given_1 narrow_1).before args s = true) (hr : rest_1_c.before args s = true) : ∃ (b : Addr) (xs : List Int32), lw_P b xs args s := by
  have hs := flat_of_before _ h
  have hq := flat_of_before _ hr
  have hc : (Cond.count 1).before args s = true := hs _ (by decide +kernel)
  have harr : (Cond.arrayOf (.arg 0) .int).before args s = true := hs _ (by decide +kernel)
  have hle : (Cond.le (.length (.arg 0)) (.int 2560)).before args s = true := hs _ (by decide +kernel)
  have hlen : (Cond.isInt (.length (.arg 0))).before args s = true := hq _ (by decide +kernel)
  have hall : (Cond.all (.arg 0) (.isInt (.elem (.arg 0) (.index 0)))).before args s = true := hq _ (by decide +kernel)
  obtain ⟨b, xs, hb, hx⟩ := State.ints_of_pre rfl harr hlen hall
  have hsm : xs.length < 2 ^ 31 := hx.choose_spec.2.2.2
  have hev : (Term.length (.arg 0)).eval args s none [] s = some (.int xs.length.toInt32) := hx.length_eval hb
  have hv := Cond.le_ints hev (show (Term.int 2560).eval args s none [] s = some (.int 2560) from rfl)
  have hd : xs.length.toInt32 ≤ 2560 := by
    simpa [Cond.before, Cond.holds, hv] using hle
  have hN : xs.length ≤ 2560 := (Int32.ofNat_le_ofNat hsm (by decide)).mp (show Int32.ofNat xs.length ≤ Int32.ofNat 2560 from hd)
  exact ⟨b, xs, Cond.one_arg hc (show args[0]? = some (.ref b) from hb), hx, hN, h⟩
theorem lw_comes (l : Launch) (hlt : l.stackTraces = false) : Comes l x (Jvm.Cond.code x code maxLocals ret :: tables_1) room_1 (fun tb e args s => Calls_1 tb e args s ∧ rest_1 tb e args s ∧ Pre_1 tb e args s)
    (fun _ _ args s o t => lw_Q args s o t) := by
  intro p e ha hc hk s m args below hf hfit hheap happ hpre
  obtain ⟨b, xs, hP⟩ := lw_pre_spec hpre.2.2 hpre.2.1
  obtain ⟨k, o, h1, h2, h3, hQ⟩ := lw_walk l hlt b xs p e ha hc hk s m args below hf ((Spec.applies_iff_loose hf).mp happ).1 hP trivial
  exact ⟨k, o, h1, h2, h3, hQ⟩
theorem lw_frame {s t : State} {o : Outcome} {args : Array Value} (h : Framed s o t [] 601024 7293034) :
    Framed s o t (fieldLocs frame_1_writes args s ++ arrayLocs frame_1_arrays args s ++ staticLocs frame_1_statics s) 601024 7293034 := h
theorem lw_limb (L : Cond) (hL : ∀ (args : Array Value) (s t : State), L.after args s (.returned (some (.int 1))) t = true) :
    ArmFor flags0 classFile x code maxLocals ret World_1 tables_1 room_1 Calls_1 rest_1 Pre_1
      (fun tb e a s o t => postC L tb e a s o t ∧ Framed s o t (fieldLocs frame_1_writes a s ++ arrayLocs frame_1_arrays a s ++ staticLocs frame_1_statics s) 601024 7293034) := by
  intro l hfl _ _ p e ha hc hk s m args below hf hfit hheap happ hpre
  have hlt : l.stackTraces = false := by
    unfold Launch.stackTraces
    rw [hfl]
    decide +kernel
  obtain ⟨k, o, h1, h2, h3, rfl, hF⟩ := lw_comes l hlt p e ha hc hk s m args below hf hfit hheap happ hpre
  exact ⟨k, _, h1, h2, h3, hL args s _, lw_frame hF⟩
theorem i_vc : Claimed_1_1 ∧ Claimed_1_2 := ⟨lw_limb limb_1_1 (fun args s t => by simp [limb_1_1, Cond.after, Cond.holds, Cond.value]), lw_limb limb_1_2 (fun args s t => Cond.after_iff.mpr (by
  first | (rw [show limb_1_2 = Cond.eq .result (.int 1) from rfl, Cond.eq_ints (x := 1) (y := 1) rfl rfl]; simp; done) | (simp [limb_1_2, Cond.value, Term.eval]; done)))⟩
