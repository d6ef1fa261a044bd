/-! NEW CELLS: objects and arrays that are made; their constructors; and how a finished block joins the world. -/
/-- a new object: its class's number, what it holds at first, its size -/
def NW (own : String) (idx ci : Nat) (fs : List Value) (n : Nat) : Prop := ∃ (C : String) (T : u_T) (ty : Nat → FieldType), vwCl[ci]? = some (C, T, n) ∧ (∀ x ∈ u_ws C T n, x ∈ gAll) ∧ (∀ k, k < n → parseFieldDescriptor (T k).2.2.1 = some (ty k)) ∧
  Cond.classLink own idx C ∈ gAll ∧ Cond.instantiable C n ∈ gAll ∧ Cond.initialized C ∈ gAll ∧ (∀ j, j < n → defaultValue (ty j) = vp_V fs j)
/-- a final field, stored by a constructor of the class that has it -/
def FF (own : String) (ci k : Nat) (ty : FieldType) : Prop := ∃ (C : String) (T : u_T) (N : Nat), vwCl[ci]? = some (C, T, N) ∧ (T k).2.2.2 = true ∧ (T k).1 = own ∧ parseFieldDescriptor (T k).2.2.1 = some ty
section NEWR
variable {F : gT} {cc : ByteArray} {own : String} {nL : Nat} {rm : Room} {pc : Nat} {lv : lvT} {st : List Value} {kc ks : Nat} {E : gE} {B : bsT} {N : nwT} {w : wdT}
theorem gs_new (hF : Fb F cc own nL rm) (hE : va_K E.1 vwCl E.2.1 (gs F)) {idx ci n : Nat} {fs : List Value} (hd : decode cc pc = .ok (.new idx, 3)) (hn : NW own idx ci fs n) (hk : kc + 1 ≤ rm.cells ∧ ks + n ≤ rm.slots)
    (kk : Go F (pc + 3) lv (.ref N.2.2 :: st) (gw E B (N.1, ovs N.2.1 N.2.2 (.inr (ci, fs)), N.2.2 + 1) w) (kc + 1) (ks + n)) : Go F pc lv st (gw E B N w) kc ks := by
  intro H locs ls hG hL hl
  obtain ⟨C, T, ty, e1, e2, e3, e4, e5, e6, e7⟩ := hn
  have hKn := hE.1 ci _ e1
  have hR := hF.2.2.2.2.2.2.2.1
  have hw := hF.2.2.2.2.2.1
  refine W.newcK hF.1 hF.2.1 hF.2.2.2.2.1 (hw _ e4) (hw _ e5) (hw _ e6) rfl hd (by rw [hR]; exact hk.1) (by rw [hR]; exact hk.2) hKn.2.1 rfl fun H1 kC hkC c1 z1 o1 => ?_
  rw [hG.2.1]
  rw [hG.2.1] at c1 z1 o1
  refine kk H1 locs ls (gw_ovnew hG (by rw [z1, hG.2.1]) (fun q hq => o1 q (by rw [← hG.2.1]; exact hq)) ⟨_, e1, ?_⟩) hL hl
  exact (u_born ty hw e2 hKn hkC c1 e3).to e7
theorem aty_ra {U : State} (hE : va_K E.1 vwCl E.2.1 U) (hT : E.2.1.map Prod.snd = atyL) {t : Nat} {ty : FieldType} (h : atyL[t]? = some ty) {cA : ClassId} (hc : U.vm.findClass ("[" ++ ty.toString) = some cA) : cA = aty E t := by
  have h1 := (hE.2 t _ (aty_of hT h)).2
  cases ty with
  | object C =>
    obtain ⟨kA, comp, -, -, -, q⟩ := h1
    exact Option.some.inj (hc.symm.trans q)
  | _ => exact Option.some.inj (hc.symm.trans h1)
theorem gs_newai (hF : Fb F cc own nL rm) (hE : va_K E.1 vwCl E.2.1 (gs F)) (hT : E.2.1.map Prod.snd = atyL) {n : Nat} (hd : decode cc pc = .ok (.newarray .int, 2)) (hn : n * 4 ≤ 536870912) (hk : kc + 1 ≤ rm.cells ∧ ks + n ≤ rm.slots) {x : Int32} (hx : x = nI n)
    (hw : Cond.arrayClass .int ∈ gAll) (kk : Go F (pc + 2) lv (.ref N.2.2 :: st) (gw E B (N.1, ovs N.2.1 N.2.2 (.inl (aty E 0, n, .inl (fun _ => 0))), N.2.2 + 1) w) (kc + 1) (ks + n)) : Go F pc lv (.int x :: st) (gw E B N w) kc ks := by
  intro H locs ls hG hL hl
  subst hx
  have hR := hF.2.2.2.2.2.2.2.1
  refine va_newaK hF.1 hF.2.1 (atype := .int) (hF.2.2.2.2.2.1 _ hw) rfl hd rfl (nI_pos (by omega)) (nI_clamp (by omega)) hn (by rw [hR]; exact hk.1) (by rw [hR]; exact hk.2) rfl fun H1 cA c1 z1 o1 _ hNm => ?_
  have hcA : cA = aty E 0 := aty_ra hE hT (t := 0) (ty := .int) rfl hNm
  subst hcA
  rw [hG.2.1] at c1 z1 o1 ⊢
  refine kk H1 locs ls (gw_ovnew hG (by rw [z1, hG.2.1]) (fun q hq => o1 q (by rw [← hG.2.1]; exact hq)) ?_) hL hl
  exact c1
theorem gs_newal (hF : Fb F cc own nL rm) (hE : va_K E.1 vwCl E.2.1 (gs F)) (hT : E.2.1.map Prod.snd = atyL) {n : Nat} (hd : decode cc pc = .ok (.newarray .long, 2)) (hn : n * 8 ≤ 536870912) (hk : kc + 1 ≤ rm.cells ∧ ks + n ≤ rm.slots) {x : Int32} (hx : x = nI n)
    (hw : Cond.arrayClass .long ∈ gAll) (kk : Go F (pc + 2) lv (.ref N.2.2 :: st) (gw E B (N.1, ovs N.2.1 N.2.2 (.inl (aty E 1, n, .inr (.inl (fun _ => 0)))), N.2.2 + 1) w) (kc + 1) (ks + n)) : Go F pc lv (.int x :: st) (gw E B N w) kc ks := by
  intro H locs ls hG hL hl
  subst hx
  have hR := hF.2.2.2.2.2.2.2.1
  refine va_newaK hF.1 hF.2.1 (atype := .long) (hF.2.2.2.2.2.1 _ hw) rfl hd rfl (nI_pos (by omega)) (nI_clamp (by omega)) hn (by rw [hR]; exact hk.1) (by rw [hR]; exact hk.2) rfl fun H1 cA c1 z1 o1 _ hNm => ?_
  have hcA : cA = aty E 1 := aty_ra hE hT (t := 1) (ty := .long) rfl hNm
  subst hcA
  rw [hG.2.1] at c1 z1 o1 ⊢
  refine kk H1 locs ls (gw_ovnew hG (by rw [z1, hG.2.1]) (fun q hq => o1 q (by rw [← hG.2.1]; exact hq)) ?_) hL hl
  exact c1
theorem gs_anew (hF : Fb F cc own nL rm) (hE : va_K E.1 vwCl E.2.1 (gs F)) (hT : E.2.1.map Prod.snd = atyL) {n t idx : Nat} {C : String} (hd : decode cc pc = .ok (.anewarray idx, 3)) (hn : n * 4 ≤ 536870912) (hk : kc + 1 ≤ rm.cells ∧ ks + n ≤ rm.slots) (ht : atyL[t]? = some (.object C)) {x : Int32} (hx : x = nI n)
    (hw : Cond.classLink own idx C ∈ gAll) (hao : va_AO C (gs F)) (kk : Go F (pc + 3) lv (.ref N.2.2 :: st) (gw E B (N.1, ovs N.2.1 N.2.2 (.inl (aty E t, n, .inr (.inr (.inr (.inr (fun _ => none)))))), N.2.2 + 1) w) (kc + 1) (ks + n)) : Go F pc lv (.int x :: st) (gw E B N w) kc ks := by
  intro H locs ls hG hL hl
  subst hx
  have hR := hF.2.2.2.2.2.2.2.1
  have hcl : (nI n).toNatClampNeg = n := nI_clamp (by omega)
  refine W.anew hF.1 hF.2.1 hF.2.2.2.2.1 (hF.2.2.2.2.2.1 _ hw) (va_AO.use hao) rfl hd rfl (nI_pos (by omega)) (by rw [hcl]; exact hn) (by rw [hR]; exact hk.1) (by rw [hR, hcl]; exact hk.2) fun cA kA comp f1 f2 f3 f4 => ?_
  have hcA : cA = aty E t := aty_ra hE hT ht f1
  subst hcA
  rw [hcl]
  generalize hH1 : H.push ({ cls := aty E t, slots := Array.replicate n .null, vm := .none } : Cell) = H1
  have z1 : H1.size = H.size + 1 := by rw [← hH1, Array.size_push]
  have c1 : H1[H.size]? = some (arrV (aty E t) n (fun _ => .null)) := by rw [← hH1, Array.getElem?_push_size, ← arrV_new]
  have o1 : ∀ q : Nat, q < H.size → H1[q]? = H[q]? := fun q hq => by rw [← hH1, Array.getElem?_push, if_neg (Nat.ne_of_lt hq)]
  rw [hG.2.1] at c1 z1 o1 ⊢
  refine kk H1 locs ls (gw_ovnew hG (by rw [z1, hG.2.1]) (fun q hq => o1 q (by rw [← hG.2.1]; exact hq)) ?_) hL hl
  show H1[N.2.2]? = some (vp_cell _ _)
  rw [vp_cell_q]
  exact c1
/-- a reference into an array of no block -/
theorem gs_aastO (hF : Fb F cc own nL rm) (hE : va_K E.1 vwCl E.2.1 (gs F)) (hT : E.2.1.map Prod.snd = atyL) (hlo : gLo F = E.2.2.size) {a v n t ci q : Nat} {r : vw_C} {vs : List Value} {f : Nat → Option Nat} {x : Int32} (hd : decode cc pc = .ok (.aastore, 1))
    (ha : N.2.1 a = some (.inl (aty E t, n, .inr (.inr (.inr (.inr f)))))) (ht : atyL[t]? = some (.object r.1)) (hv : N.2.1 v = some (.inr (ci, vs))) (hc : vwCl[ci]? = some r) (hx : x = nI q) (hq : q < n) (hn : n < 2 ^ 31)
    (kk : Go F (pc + 1) lv st (gw E B (N.1, ovs N.2.1 a (.inl (aty E t, n, .inr (.inr (.inr (.inr (va_up f q (some v))))))), N.2.2) w) kc ks) : Go F pc lv (.ref v :: .int x :: .ref a :: st) (gw E B N w) kc ks := by
  intro H locs ls hG hL hl
  subst hx
  have hcl : (nI q).toNatClampNeg = q := nI_clamp (by omega)
  obtain ⟨r', hr', cellV, g1, g2, g3, -⟩ := (hG.2.2.2.1 v _ hv).2
  have hcls := (hE.1 ci r hc).2
  have hce : H[a]? = some (vp_cell (aty E t) (n, .inr (.inr (.inr (.inr f))))) := (hG.2.2.2.1 a _ ha).2
  obtain ⟨kA, comp, k1, k2, k3, -⟩ := (hE.2 t _ (aty_of hT ht)).2
  have hcomp : comp = E.1.1 ci := Option.some.inj (k3.symm.trans hcls.1)
  subst hcomp
  obtain ⟨kC, hkC, -⟩ := id hcls.2
  refine W.aast hF.1 hF.2.1 hce (fun q h => by cases h) (fun h => by cases h) k1 k2 rfl hkC ⟨nI_pos (by omega), by rw [hcl, vp_cell_size]; exact hq⟩ g1 (fun q h => by rw [g3] at h; cases h) (by rw [g2]; exact hkC) (by rw [g2]; exact va_assign hcls) rfl rfl hd fun H1 e z oq => ?_
  refine kk H1 _ ls (gw_ovput hG ha z oq ?_) (fun z hz => ?_) hl
  · show H1[a]? = some (vp_cell _ _)
    rw [e, vp_cell_q, vp_cell_q, arrV_store, hcl]
    congr 2
    funext j
    by_cases hj : j = q
    · subst hj
      simp [updV, va_up, va_rf]
    · simp [updV, va_up, hj]
  · rcases List.mem_append.mp hz with h | h
    · exact hL z h
    · rw [List.mem_singleton.mp h, hlo]
      exact (hG.2.2.2.1 a _ ha).1
/-- a final field of an object of no block, in a constructor -/
theorem gs_putOF (hF : Fb F cc own nL rm) (hE : va_K E.1 vwCl E.2.1 (gs F)) (hlo : gLo F = E.2.2.size) (hnm : (gt F).name = "<init>") {a idx ci k : Nat} {fs : List Value} {v : Value} {ty : FieldType} (hd : decode cc pc = .ok (.putfield idx, 3)) (hfl : FL own idx ci k) (hct : CT ci) (hff : FF own ci k ty) (hn : narrow ty v = v) (hfit : fits ty v = true) (ha : N.2.1 a = some (.inr (ci, fs))) (hk : k < fs.length)
    (kk : Go F (pc + 3) lv st (gw E B (N.1, ovs N.2.1 a (.inr (ci, fs.set k v)), N.2.2) w) kc ks) : Go F pc lv (v :: .ref a :: st) (gw E B N w) kc ks := by
  intro H locs ls hG hL hl
  obtain ⟨C, T, N', e1, e2, e3, e4⟩ := hfl
  obtain ⟨C', T', N', ty0, f1, -, f3, f4⟩ := hct
  obtain ⟨C'', T'', N'', g1, g2, g3, g4⟩ := hff
  cases e1.symm.trans f1
  cases e1.symm.trans g1
  have hap := va_apart (own := own) hF.2.2.2.2.2.1 e2 ty0 f3 f4 hE e1
  obtain ⟨r, h1, cell, q1, q2, q3, q4⟩ := (hG.2.2.2.1 a _ ha).2
  cases h1.symm.trans e1
  obtain ⟨hS, hfc, kC, hkC, hkind⟩ := hE.1 ci _ e1
  obtain ⟨cf, kf, fi, f, hi, hsl⟩ := hS k e3
  have hlay := hF.2.2.2.2.2.1 _ (e2 _ (u_in_lay e3))
  unfold u_lay at hlay
  rw [if_pos g2] at hlay
  have hst := (u_facts hfc hkC (u_lays hF.2.2.2.2.2.1 e2 e3) hi).1
  have hcf : (gm F).cls = cf := by
    obtain ⟨_, _, c', _, _, _, -, -, hf', -, -, -, hown2, -⟩ := Cond.laysFinal_spec hlay
    have e5 : c' = cf := by have := hi.symm.trans hf'; simp at this; exact this.1.symm
    rw [g3] at hown2
    rw [← e5]; exact Option.some.inj (hF.2.2.2.2.1.symm.trans hown2)
  have h6 := u_fits hfc hkC hkind (Or.inr hlay) hi g4 hn hfit
  refine W.putFinK hF.1 hF.2.1 hF.2.2.2.2.1 (hF.2.2.2.2.2.1 _ e4) hi hst hcf hnm (by rw [q2]; exact h6) q1 q3 (by rw [hsl]; exact k2_hasslot (q4 k e3)) rfl rfl hd fun H' c1 c2 c3 => ?_
  rw [hsl] at c1 ⊢
  refine kk H' _ ls (gw_ovput hG ha c2 c3 ⟨_, e1, t_OB.to (V := updV (vp_V fs) k v) ⟨_, c1, q2, q3, t_set q4 hap e3 v⟩ (fun j _ => vp_updV_set hk v j)⟩) (fun z hz => ?_) hl
  rcases List.mem_append.mp hz with h | h
  · exact hL z h
  · rw [List.mem_singleton.mp h, hlo]
    exact (hG.2.2.2.1 a _ ha).1
theorem go_objInit (hF : Fb F cc own nL rm) {G : Heap → Prop} {a idx : Nat} (hd : decode cc pc = .ok (.invokespecial idx, 3)) (h1 : Cond.methodLink own idx Lib.objectInit ∈ gAll) (h2 : Cond.instanceMethod Lib.objectInit ∈ gAll) (h3 : Cond.code Lib.objectInit { data := #[177] } 1 none ∈ gAll)
    (hr : 1 ≤ rm.frames ∧ (st.map fun v => v.category).sum + 12 ≤ rm.locals) (kk : Go F (pc + 3) lv st G kc ks) : Go F pc lv (.ref a :: st) G kc ks := by
  intro H locs ls hG hL hl
  have hR := hF.2.2.2.2.2.2.2.1
  have hw := hF.2.2.2.2.2.1
  refine W.objInit hF.1 hF.2.1 hF.2.2.2.2.1 (hw _ h1) (hw _ h2) (hw _ h3) rfl (hl.1.trans (hF.2.2.2.1.trans hF.2.2.1.symm)) rfl hd (by rw [hR]; exact hr.1) ?_ (kk H locs ls hG hL hl)
  rw [hR]
  show 2 * 0 + (st.map fun v => v.category).sum + 12 ≤ rm.locals
  omega
end NEWR
