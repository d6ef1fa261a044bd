/-! CONSTRUCTORS called; blocks that join; tables; pointers. -/
section NEW2
variable {F : gT} {cc : ByteArray} {own : String} {nL : Nat} {rm : Room} {pc : Nat} {lv : lvT} {st : List Value} {k n : Nat} {E : gE} {B : bsT} {N : nwT} {w : wdT} {G : Heap → Prop} {Q1 : Option Value → Heap → Prop} {X1 : String → Heap → Prop} {mc1 ms1 idx maxL np : Nat} {y : MethodName} {bytes : ByteArray} {rm1 : Room} {b : Nat} {As : List Value}
theorem go_ctor (hF : Fb F cc own nL rm) (hE : en E (gs F)) (hlo : gLo F = E.2.2.size) (hd : decode cc pc = .ok (.invokespecial idx, 3)) (hy1 : y.name = "<init>")
    (hc : Con (gl F) E y (Cond.code y bytes maxL none :: gAll) rm1 (.ref b :: As) G Q1 X1 mc1 ms1) (hm : Mt y bytes maxL none np) (hv : Cond.instanceMethod y ∈ gAll) (hlk : Cond.methodLink own idx y ∈ gAll ∨ ∃ host, Cond.methodLinkNest own idx y host ∈ nW)
    (hrm : rm1.cells = mc1 ∧ rm1.slots = ms1 ∧ rm1.frames + 1 ≤ rm.frames ∧ 8 + (maxL + 11) + rm1.locals ≤ rm.locals) (hn : As.length = np) (hst : (st.map fun v => v.category).sum ≤ 8) (hf : k + mc1 ≤ rm.cells ∧ n + ms1 ≤ rm.slots)
    (kx : ∀ M, Gx F pc lv st (X1 M) M (k + mc1) (n + ms1))
    {stk : List Value} (hs : stk = As.reverse ++ .ref b :: st)
    (kk : ∀ v, Go F (pc + 3) lv (v.toList ++ st) (Q1 v) (k + mc1) (n + ms1)) : Go F pc lv stk G k n := by
  subst hs
  intro H locs ls hG hL hl T hT Y
  have hcode := hF.2.2.2.2.2.1 _ hm.1
  have hpl : (ge F).platform.magicAccessors = ({} : Platform).magicAccessors := by rw [Y.admits.platform]
  have hd' : decode (gc F).code pc = .ok (.invokespecial idx, 3) := by rw [hF.2.1]; exact hd
  have hlen : ∀ sig, parseMethodDescriptor y.desc = some sig → As.length = sig.parameters.length := fun sig h => hn.trans (hm.2.2.2 _ h)
  have hstep : ∃ mk methM cM kP vm₁, (gs F).methodNamed? y = some mk ∧ (gs F).vm.method? mk = some methM ∧ methM.code = some cM ∧ cM.code = bytes ∧ cM.maxLocals = maxL ∧ methM.locks = false ∧ (gs F).vm.classes[mk.cls]? = some kP ∧ kP.name = y.cls ∧ (gs F).WarmedH vm₁ ∧
      ∀ target, (∀ acts, Steps (gp F).tables (ge F) (gb F) (doInvoke (ge F) ((T.setVm vm₁).setTop (F0 (gm F) pc ls st)) acts mk (.ref b :: As).toArray).1 target) → Steps (gp F).tables (ge F) (gb F) (T.setTop (F0 (gm F) pc ls (As.reverse ++ .ref b :: st))) target := by
    rcases hlk with h | ⟨host, h⟩
    · exact Steps.initColdArgs (e := ge F) Y.here hF.1 Y.warmed hpl hF.2.2.2.2.1 hy1 hm.2.2.1 (hF.2.2.2.2.2.1 _ h) (hF.2.2.2.2.2.1 _ hv) hcode (f := F0 (gm F) pc ls (As.reverse ++ .ref b :: st)) rfl hlen rfl hd'
    · exact Steps.initColdArgsNest (e := ge F) Y.here hF.1 Y.warmed hpl hF.2.2.2.2.1 hy1 hm.2.2.1 (va_Nw.use (nW_on _ h) (hE.2.2.1 _ h)) (hF.2.2.2.2.2.1 _ hv) hcode (f := F0 (gm F) pc ls (As.reverse ++ .ref b :: st)) rfl hlen rfl hd'
  obtain ⟨mk, methM, cM, kP, vm₁, hnamed, hmethM, hcM, -, hlM, -, hkP, -, hW₁, hstep₁⟩ := hstep
  have Y₁ := Y.noted hW₁
  have hn₁ := Y₁.named hnamed
  obtain ⟨kY, hkY, -⟩ := className_of_methodNamed hn₁
  have hiY : kY.init = .initialized := Cond.initialized_spec (findClass_of_methodNamed hn₁) hkY (gAll_at (a' := #[]) hm.2.1 (hF.2.2.2.2.2.1 _ hm.2.1) Y₁.warmed)
  obtain ⟨methN, cN, hmN, hcN, -, hlN, -, -, -, -⟩ := Cond.code_spec hn₁ (gAll_at (a' := #[]) hm.1 hcode Y₁.warmed)
  have hR := hF.2.2.2.2.2.2.2.1
  rcases cx_call hc Y₁ (g := F0 (gm F) pc ls st) rfl (hl.1.trans (hF.2.2.2.1.trans hF.2.2.1.symm)) hd' (a := (Value.ref b :: As).toArray) hn₁ hmN hcN hlN hkY hiY (all_atoms hm.1 hF.2.2.2.2.2.1 Y₁.warmed)
      (by rw [hR]; exact hrm.2.2.1) (by rw [hR]; have := hrm.2.2.2; have h8 := hst; show 2 * 0 + (st.map fun v => v.category).sum + _ + _ ≤ _; omega) (by rw [hR, hrm.1]; exact hf.1) (by rw [hR, hrm.2.1]; exact hf.2)
      ⟨rfl, en_same (U' := (T.setVm vm₁).calling (F0 (gm F) pc ls st) mk (Value.ref b :: As).toArray) (U := T.setVm vm₁) rfl (en_warm Y₁.warmed hE), by show G T.heap; rw [hT]; exact hG⟩ with
    ⟨v, T', L, Y', hL', hQ, stp⟩ | ⟨q, M, ce, T', L, Y', hL', hX, hce, hcv, hcl, stp⟩
  · obtain ⟨t2, a1, b1⟩ := kk v T'.heap (locs ++ L) ls hQ (go_locs hlo hL hL') hl T' rfl Y'
    exact ⟨t2, hstep₁ _ fun acts => by rw [doInvoke_state]; exact stp.trans a1, b1⟩
  · obtain ⟨t2, a1, b1⟩ := kx M T'.heap (locs ++ L) ls q ce hX (go_locs hlo hL hL') hl hce hcv hcl T' rfl Y'
    exact ⟨t2, hstep₁ _ fun acts => by rw [doInvoke_state]; exact stp.trans a1, b1⟩
/-- fewer cells of no block are spoken of -/
theorem gw_sub {H : Heap} {O' : Nat → Option va_E} (hg : gw E B N w H) (h : ∀ q e, O' q = some e → N.2.1 q = some e) : gw E B (N.1, O', N.2.2) w H := by
  obtain ⟨g1, g2, g3, g4, g5, g6, g7⟩ := hg
  exact ⟨g1, g2, g3, fun a e ha => g4 a e (h a e ha), g5, g6, fun a e κ ι ha ho => g7 a e κ ι (h a e ha) ho⟩
/-- cells at the end that nobody speaks of -/
theorem gw_grow {H H' : Heap} {j : Nat} (hg : gw E B N w H) (hz : H'.size = H.size + j) (hq : ∀ q : Nat, q < H.size → H'[q]? = H[q]?) : gw E B (N.1, N.2.1, N.2.2 + j) w H' := by
  obtain ⟨⟨g0, g1⟩, g2, g3, g4, g5, g6, g7⟩ := hg
  refine ⟨⟨by omega, fun q h => ?_⟩, by rw [hz, g2], ?_, ?_, ?_, g6, g7⟩
  · rw [hq q (by omega)]
    exact g1 q h
  · intro κ ι r g i ho hr hi
    have h := g3 κ ι r g i ho hr hi
    exact h.kept (hq _ h.lt)
  · intro q x hx
    have h := g4 q x hx
    exact ⟨h.1, h.2.kept (hq q h.2.lt)⟩
  · intro κ ι ho
    have := g5 κ ι ho
    exact ⟨this.1, by show _ ≤ N.2.2 + j; omega⟩
def upB (B : bsT) (κ ι a : Nat) : bsT := fun κ' ι' => if κ' = κ ∧ ι' = ι then a else B κ' ι'
def upN (f : Nat → Nat → Bool) (κ ι : Nat) : Nat → Nat → Bool := fun κ' ι' => if κ' = κ ∧ ι' = ι then true else f κ' ι'
theorem upB_same (B : bsT) (κ ι a : Nat) : upB B κ ι a κ ι = a := if_pos ⟨rfl, rfl⟩
theorem upB_ne (B : bsT) {κ ι κ' ι' : Nat} (a : Nat) (h : ¬ (κ' = κ ∧ ι' = ι)) : upB B κ ι a κ' ι' = B κ' ι' := if_neg h
/-- a finished block joins the world; O' is what is still of no block -/
theorem gw_commit {H : Heap} {w' : wdT} {κ ι a : Nat} {O' : Nat → Option va_E} (hg : gw E B N w H) (h5 : ∀ κ' ι', N.1 κ' ι' = true → 0 < bln κ') (hoff : N.1 κ ι = false) (ha : E.2.2.size ≤ a) (hb : 0 < bln κ) (hcov : ∀ d, d < bln κ → ∃ e, N.2.1 (a + d) = some e)
    (hnew : ∀ (r : Nat) (g : rgT) (i : Nat), (sch κ)[r]? = some g → i < g.2.1 → ∃ e, N.2.1 (a + g.1 + i) = some e ∧ ∀ H, va_at E.1 vwCl (a + g.1 + i, e) H → va_at E.1 vwCl (a + g.1 + i, cel E (upB B κ ι a) w' κ ι r g.2.2 i) H)
    (hold : ∀ (κ' ι' r : Nat) (g : rgT) (i : Nat), N.1 κ' ι' = true → (sch κ')[r]? = some g → i < g.2.1 → cel E (upB B κ ι a) w' κ' ι' r g.2.2 i = cel E B w κ' ι' r g.2.2 i)
    (hO : ∀ q e, O' q = some e → N.2.1 q = some e ∧ ¬ (a ≤ q ∧ q < a + bln κ)) : gw E (upB B κ ι a) (upN N.1 κ ι, O', N.2.2) w' H := by
  obtain ⟨g1, g2, g3, g4, g5, g6, g7⟩ := hg
  have hne : ∀ {κ' ι' : Nat}, N.1 κ' ι' = true → ¬ (κ' = κ ∧ ι' = ι) := fun h z => by rw [z.1, z.2, hoff] at h; cases h
  have hon : ∀ {κ' ι' : Nat}, upN N.1 κ ι κ' ι' = true → (κ' = κ ∧ ι' = ι) ∨ N.1 κ' ι' = true := fun {κ' ι'} h => by
    unfold upN at h
    by_cases hz : κ' = κ ∧ ι' = ι
    · exact Or.inl hz
    · rw [if_neg hz] at h
      exact Or.inr h
  have hend : a + bln κ ≤ N.2.2 := by
    obtain ⟨e, he⟩ := hcov (bln κ - 1) (by omega)
    have := (g4 _ e he).2.lt
    omega
  have hap : ∀ κ' ι', N.1 κ' ι' = true → 0 < bln κ' → B κ' ι' + bln κ' ≤ a ∨ a + bln κ ≤ B κ' ι' := by
    intro κ' ι' h hp
    by_cases h1 : B κ' ι' < a
    · obtain ⟨e, he⟩ := hcov 0 hb
      have := g7 (a + 0) e κ' ι' he h
      omega
    · by_cases h2 : a + bln κ ≤ B κ' ι'
      · exact Or.inr h2
      · obtain ⟨e, he⟩ := hcov (B κ' ι' - a) (by omega)
        have := g7 _ e κ' ι' he h
        omega
  refine ⟨g1, g2, ?_, fun q e hq => g4 q e (hO q e hq).1, ?_, ?_, ?_⟩
  · intro κ' ι' r g i ho hr hi
    rcases hon ho with ⟨rfl, rfl⟩ | h
    · unfold ad
      rw [upB_same, rof_of hr]
      obtain ⟨e, he, hv⟩ := hnew r g i hr hi
      exact hv H (g4 _ _ he).2
    · have h3 := g3 κ' ι' r g i h hr hi
      rw [← hold κ' ι' r g i h hr hi] at h3
      unfold ad at h3 ⊢
      rw [upB_ne _ _ (hne h)]
      exact h3
  · intro κ' ι' ho
    rcases hon ho with ⟨rfl, rfl⟩ | h
    · rw [upB_same]
      exact ⟨ha, hend⟩
    · rw [upB_ne _ _ (hne h)]
      exact g5 κ' ι' h
  · intro κ' ι' κ'' ι'' ho ho' hd
    rcases hon ho with ⟨rfl, rfl⟩ | h <;> rcases hon ho' with ⟨rfl, rfl⟩ | h'
    · exact absurd ⟨rfl, rfl⟩ hd
    · rw [upB_same, upB_ne _ _ (hne h')]
      have := hap κ'' ι'' h' (h5 _ _ h')
      omega
    · rw [upB_same, upB_ne _ _ (hne h)]
      have := hap κ' ι' h (h5 _ _ h)
      omega
    · rw [upB_ne _ _ (hne h), upB_ne _ _ (hne h')]
      exact g6 κ' ι' κ'' ι'' h h' hd
  · intro q e κ' ι' hq ho
    obtain ⟨hq1, hq2⟩ := hO q e hq
    rcases hon ho with ⟨rfl, rfl⟩ | h
    · rw [upB_same]
      omega
    · rw [upB_ne _ _ (hne h)]
      exact g7 q e κ' ι' hq1 h
theorem gw_recvO {U : State} {H : Heap} (hK : va_K E.1 vwCl E.2.1 U) (hG : gw E B N w H) {a ci : Nat} {fs : List Value} {q : vw_C} (ha : N.2.1 a = some (.inr (ci, fs))) (hc : vwCl[ci]? = some q) :
    ∃ cell : Cell, H[a]? = some cell ∧ cell.vm.isStatics = false ∧ U.vm.findClass q.1 = some cell.cls :=
  va_recv (q0 := 0) hK (va_P1 (hG.2.2.2.1 a _ ha).2) hc rfl
/-- a table: a static array of ints that nobody writes -/
def TB (E : gE) (U : State) (t n : Nat) (f : Nat → Int32) : Prop := va_T .int t n (fun j => .int (f j)) nA U E.2.2
theorem go_tab (hF : Fb F cc own nL rm) {nm host : String} {tn : Nat} {f : Nat → Int32} (hG : ∀ H, G H → E.2.2.size ≤ H.size ∧ ∀ q : Nat, q < E.2.2.size → H[q]? = E.2.2[q]?) (hd : decode cc pc = .ok (.getstatic idx, 3)) (hlk : (Cond.fieldLinkNest own idx "EventWaves" nm "[I" host).before (ga F) (gs F) = true)
    (hz : ∃ t, va_Z "EventWaves" nm "[I" (.ref t) nA (gs F) E.2.2 ∧ va_T .int t tn (fun j => .int (f j)) nA (gs F) E.2.2)
    (kk : ∀ t, TB E (gs F) t tn f → Go F (pc + 3) lv (.ref t :: st) G k n) : Go F pc lv st G k n := by
  intro H locs ls hGH hL hl
  obtain ⟨t, ⟨cf, kf, fi, fd, a, cell, h1, h2, h3, h4, h5, h6, h7, h8⟩, hT⟩ := hz
  exact va_WgetsN hF.1 hF.2.1 hF.2.2.2.2.1 hlk h1 h2 h3 h4 (by rw [(hG H hGH).2 a (Array.getElem?_eq_some_iff.mp h5).1]; exact h5) (fun e => by rw [e] at h6; cases h6) h7 rfl hd (kk t hT H locs ls hGH hL hl)
theorem go_tald (hF : Fb F cc own nL rm) {t tn q : Nat} {f : Nat → Int32} {x : Int32} (hG : ∀ H, G H → E.2.2.size ≤ H.size ∧ ∀ q : Nat, q < E.2.2.size → H[q]? = E.2.2[q]?) (hT : TB E (gs F) t tn f) (hd : decode cc pc = .ok (.iaload, 1)) (hx : x = nI q) (hq : q < tn) (hn : tn < 2 ^ 31)
    (kk : Go F (pc + 1) lv (.int (f q) :: st) G k n) : Go F pc lv (.int x :: .ref t :: st) G k n := by
  intro H locs ls hGH hL hl
  subst hx
  obtain ⟨cell, h1, h2, h3, h4, h5, h6, h7⟩ := hT
  have hcl : (nI q).toNatClampNeg = q := nI_clamp (by omega)
  exact W.iald (v := .int (f q)) hF.1 hF.2.1 (by rw [(hG H hGH).2 t (Array.getElem?_eq_some_iff.mp h1).1]; exact h1) h2 h3 (by rw [hcl]; intro z; rcases z with z | z; exact nI_pos (by omega) z; omega) (by rw [hcl]; exact h6 q hq) rfl rfl hd (kk H locs ls hGH hL hl)
theorem go_tlen (hF : Fb F cc own nL rm) {t tn : Nat} {f : Nat → Int32} (hG : ∀ H, G H → E.2.2.size ≤ H.size ∧ ∀ q : Nat, q < E.2.2.size → H[q]? = E.2.2[q]?) (hT : TB E (gs F) t tn f) (hd : decode cc pc = .ok (.arraylength, 1))
    (kk : Go F (pc + 1) lv (.int (nI tn) :: st) G k n) : Go F pc lv (.ref t :: st) G k n := by
  intro H locs ls hGH hL hl
  obtain ⟨cell, h1, h2, h3, h4, h5, h6, h7⟩ := hT
  exact W.alen (n := nI tn) hF.1 hF.2.1 (by rw [(hG H hGH).2 t (Array.getElem?_eq_some_iff.mp h1).1]; exact h1) h2 (by rw [h5]; rfl) rfl rfl hd (kk H locs ls hGH hL hl)
/-- a block's own object, as a pointer, into a block's array of pointers -/
theorem gs_aastP (hF : Fb F cc own nL rm) (hE : va_K E.1 vwCl E.2.1 (gs F)) (hT : E.2.1.map Prod.snd = atyL) (hlo : gLo F = E.2.2.size) {κ ι r o t m q κ' ι' r' i' ci : Nat} {u : Nat × Nat} {g' : rgT} {fs : List kdT} {rr : vw_C} {x : Int32} (hd : decode cc pc = .ok (.aastore, 1))
    (ho : N.1 κ ι = true) (hr : (sch κ)[r]? = some (o, 1, .inr (t, m, 2, u))) (ht : atyL[t]? = some (.object rr.1)) (ho' : N.1 κ' ι' = true) (hr' : (sch κ')[r']? = some g') (hb' : g'.2.2 = .inl (ci, fs)) (hi' : i' < g'.2.1) (hc : vwCl[ci]? = some rr) (hx : x = nI q) (hq : q < m) (hm : m < 2 ^ 31)
    (kk : Go F (pc + 1) lv st (gw E B N (sP w κ ι r 0 q (some (ad B κ' ι' r' i')))) k n) : Go F pc lv (.ref (ad B κ' ι' r' i') :: .int x :: .ref (ad B κ ι r 0) :: st) (gw E B N w) k n := by
  intro H locs ls hG hL hl
  subst hx
  have hcl : (nI q).toNatClampNeg = q := nI_clamp (by omega)
  obtain ⟨rq, hrq, cellV, g1, g2, g3, -⟩ := gw_va hG ho' hr' hb' hi'
  have hcls := (hE.1 ci rr hc).2
  have hce : H[ad B κ ι r 0]? = some (vp_cell (aty E t) (m, avs B w κ ι r (2, u))) := gw_arr hG ho hr
  obtain ⟨kA, comp, k1, k2, k3, -⟩ := (hE.2 t _ (aty_of hT ht)).2
  have hcomp : comp = E.1.1 ci := Option.some.inj (k3.symm.trans hcls.1)
  subst hcomp
  obtain ⟨kC, hkC, -⟩ := id hcls.2
  have hwf := hG.2.2.2.2
  refine W.aast hF.1 hF.2.1 hce (fun q h => by cases h) (fun h => by cases h) k1 k2 rfl hkC ⟨nI_pos (by omega), by rw [hcl, vp_cell_size]; exact hq⟩ g1 (fun q h => by rw [g3] at h; cases h) (by rw [g2]; exact hkC) (by rw [g2]; exact va_assign hcls) rfl rfl hd fun H1 e z oq => ?_
  refine kk H1 _ ls ?_ (fun z hz => ?_) hl
  · refine gw_put (i := 0) hG ho hr Nat.zero_lt_one (agr_all (agr_sP w κ ι r 0 q (some (ad B κ' ι' r' i')))) (fun i' h1 h2 => absurd h1 (by simp; omega)) z oq ?_
    show H1[_]? = some (vp_cell _ _)
    rw [e, hcl]
    show some ((vp_cell (aty E t) (m, .inr (.inr (.inr (.inr (fun i => wP w κ ι r 0 i)))))).setSlot q (.ref (ad B κ' ι' r' i'))) = some (vp_cell (aty E t) (m, .inr (.inr (.inr (.inr (fun i => wP (sP w κ ι r 0 q (some (ad B κ' ι' r' i'))) κ ι r 0 i))))))
    rw [vp_cell_q, vp_cell_q, arrV_store]
    congr 2
    funext j
    by_cases hj : j = q
    · subst hj
      simp [updV, wP, sP, up5, va_rf]
    · simp [updV, wP, sP, up5, hj]
  · rcases List.mem_append.mp hz with h | h
    · exact hL z h
    · rw [List.mem_singleton.mp h, hlo]
      exact ad_lo hwf ho
end NEW2
