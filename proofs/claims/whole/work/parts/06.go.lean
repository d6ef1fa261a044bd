/-! THE JUDGEMENT Go: the kit's W for one running method, with the method's fixed things in one tuple F, the locals as a list of
places, and ANY predicate on the heap. Rows of the kit become rows of Go; no row here knows the class that is proved. -/
abbrev gT := Program × Launch × Env × Room × State × MethodId × Array Value × List Frame × Method × Code × (State → Prop) × Nat × Nat
abbrev gp (F : gT) : Program := F.1
abbrev gl (F : gT) : Launch := F.2.1
abbrev ge (F : gT) : Env := F.2.2.1
abbrev gR (F : gT) : Room := F.2.2.2.1
abbrev gs (F : gT) : State := F.2.2.2.2.1
abbrev gm (F : gT) : MethodId := F.2.2.2.2.2.1
abbrev ga (F : gT) : Array Value := F.2.2.2.2.2.2.1
abbrev gb (F : gT) : List Frame := F.2.2.2.2.2.2.2.1
abbrev gt (F : gT) : Method := F.2.2.2.2.2.2.2.2.1
abbrev gc (F : gT) : Code := F.2.2.2.2.2.2.2.2.2.1
abbrev gZ (F : gT) : State → Prop := F.2.2.2.2.2.2.2.2.2.2.1
abbrev gLo (F : gT) : Nat := F.2.2.2.2.2.2.2.2.2.2.2.1
abbrev gN (F : gT) : Nat := F.2.2.2.2.2.2.2.2.2.2.2.2
abbrev lvT : Type := List (Nat × Value)
def Go (F : gT) (pc : Nat) (lv : lvT) (st : List Value) (G : Heap → Prop) (k n : Nat) : Prop :=
  ∀ (H : Heap) (locs : List Loc) (ls : Array Slot), G H → (∀ z ∈ locs, gLo F ≤ z.base) → lv_has ls (gN F) lv →
    W (gp F) (gl F) (ge F) (gR F) (gs F) (gm F) (ga F) (gb F) (gt F) (gc F) H locs k n (gZ F) (F0 (gm F) pc ls st)
/-- what is fixed in a running method: machine, bytes, locals, its class, the words, no lock, its room, launch without traces -/
def Fb (F : gT) (cc : ByteArray) (own : String) (nL : Nat) (rm : Room) : Prop :=
  (gp F).tables.exec = Jvm.exec ∧ (gc F).code = cc ∧ (gc F).maxLocals = nL ∧ gN F = nL ∧ (gs F).vm.findClass own = some (gm F).cls ∧
  (∀ w ∈ gAll, w.before (ga F) (gs F) = true) ∧ (gt F).locks = false ∧ gR F = rm ∧ (gl F).stackTraces = false
def gQ (Q : Option Value → Heap → Prop) : Array Value → State → Outcome → State → Prop := fun _ _ o t => ∃ v, o = .returned v ∧ Q v t.heap
/-- how a method ends: it returned v, and 'Q v' holds of the heap; or it threw an object of the class named M, and 'X M' holds; no cell below lo was written -/
def Qx (Q : Option Value → Heap → Prop) (X : String → Heap → Prop) (lo mc ms : Nat) : Array Value → State → Outcome → State → Prop := fun _ u o t =>
  ∃ L : List Loc, u.WarmedH t.vm ∧ u.sameButNew ({ t with vm := u.vm } : State) L mc ms ∧ (∀ z ∈ L, lo ≤ z.base) ∧
    ((∃ v, o = .returned v ∧ Q v t.heap) ∨ ∃ (q : Addr) (M : String) (ce : Cell), o = .threw q ∧ X M t.heap ∧ t.heap[q]? = some ce ∧ ce.vm = .none ∧ u.vm.findClass M = some ce.cls)
def zX (below : List Frame) (Q : Option Value → Heap → Prop) (X : String → Heap → Prop) (lo mc ms : Nat) (a : Array Value) (s : State) : State → Prop := fun t =>
  ∃ o, t.status = .running ∧ Ended t below o ∧ Qx Q X lo mc ms a s o t
/-- .. and of a method that is called by contract: its type, its posts, its cells and slots -/
def Fm (F : gT) (ret : Option FieldType) (Q : Option Value → Heap → Prop) (X : String → Heap → Prop) (mc ms : Nat) : Prop :=
  (gt F).sig.returnType = ret ∧ gZ F = zX (gb F) Q X (gLo F) mc ms (ga F) (gs F)
theorem mq_z {below : List Frame} {Q : Option Value → Heap → Prop} {X : String → Heap → Prop} {lo mc ms : Nat} {a : Array Value} {s t : State} (h : MQ below (gQ Q) a s mc ms (fun q => lo ≤ q) t) : zX below Q X lo mc ms a s t := by
  obtain ⟨o, h1, h2, ⟨v, hv, hq⟩, L, hF, hL⟩ := h
  exact ⟨o, h1, h2, L, hF.2.1, hF.2.2, hL, Or.inl ⟨v, hv, hq⟩⟩
theorem w_mono {p : Program} {l : Launch} {e : Env} {R : Room} {s : State} {m : MethodId} {args : Array Value} {below : List Frame} {meth : Method} {c : Code} {H : Heap} {locs : List Loc} {k n : Nat} {Q1 Q2 : State → Prop} {g : JFrame} (h : ∀ t, Q1 t → Q2 t)
    (w : W p l e R s m args below meth c H locs k n Q1 g) : W p l e R s m args below meth c H locs k n Q2 g := fun T hT Y => by
  obtain ⟨t, a, b⟩ := w T hT Y
  exact ⟨t, a, h t b⟩
def lget : lvT → Nat → Option Value
  | [], _ => none
  | q :: t, i => if q.1 == i then some q.2 else lget t i
theorem lget_mem : ∀ {lv : lvT} {i : Nat} {v : Value}, lget lv i = some v → (i, v) ∈ lv
  | [], _, _, h => by simp [lget] at h
  | (j, x) :: t, i, v, h => by
    by_cases hj : j = i
    · subst hj
      simp [lget] at h
      subst h
      exact List.mem_cons_self
    · have hb : (j == i) = false := by simp [hj]
      simp only [lget, hb] at h
      exact List.mem_cons_of_mem _ (lget_mem h)
theorem lv_get {ls : Array Slot} {n : Nat} {lv : lvT} {i : Nat} {v : Value} (hl : lv_has ls n lv) (h : lget lv i = some v) : ls[i]? = some (.val v) := hl.2.2 (i, v) (lget_mem h)
def lput (lv : lvT) (i : Nat) (v : Value) : lvT := (i, v) :: lv.filter (fun q => !(q.1 == i) && !(q.1 + 1 == i && q.2.category == 2))
def lput2 (lv : lvT) (i : Nat) (v : Value) : lvT := (i, v) :: lv.filter (fun q => !(q.1 == i) && (!(q.1 == i + 1) && !(q.1 + 1 == i && q.2.category == 2)))
def lall (lv : lvT) : lvT → Prop
  | [] => True
  | q :: t => lget lv q.1 = some q.2 ∧ lall lv t
theorem lall_mem {lv : lvT} : ∀ {l : lvT}, lall lv l → ∀ q ∈ l, q ∈ lv
  | [], _, q, hq => nomatch hq
  | x :: t, h, q, hq => by
    rcases List.mem_cons.mp hq with e | h2
    · subst e
      exact lget_mem h.1
    · exact lall_mem h.2 q h2
section GO
variable {F : gT} {cc : ByteArray} {own : String} {nL : Nat} {rm : Room} {pc : Nat} {lv : lvT} {st : List Value} {G : Heap → Prop} {k n : Nat}
theorem go_lv {lv' : lvT} (h : lall lv lv') (kk : Go F pc lv' st G k n) : Go F pc lv st G k n :=
  fun H locs ls hG hL hl => kk H locs ls hG hL ⟨hl.1, hl.2.1, fun q hq => hl.2.2 q (lall_mem h q hq)⟩
theorem go_G {G' : Heap → Prop} (h : ∀ H, G H → G' H) (kk : Go F pc lv st G' k n) : Go F pc lv st G k n := fun H locs ls hG hL hl => kk H locs ls (h H hG) hL hl
theorem go_ex {α : Sort _} {P : α → Heap → Prop} (kk : ∀ x, Go F pc lv st (P x) k n) : Go F pc lv st (fun H => ∃ x, P x H) k n :=
  fun H locs ls hG hL hl => by obtain ⟨x, hx⟩ := hG; exact kk x H locs ls hx hL hl
theorem go_and {P : Prop} (kk : P → Go F pc lv st G k n) : Go F pc lv st (fun H => P ∧ G H) k n := fun H locs ls hG hL hl => kk hG.1 H locs ls hG.2 hL hl
theorem go_fact {P : Prop} (h : ∀ H, G H → P) (kk : P → Go F pc lv st G k n) : Go F pc lv st G k n := fun H locs ls hG hL hl => kk (h H hG) H locs ls hG hL hl
theorem go_or {G1 G2 : Heap → Prop} (k1 : Go F pc lv st G1 k n) (k2 : Go F pc lv st G2 k n) : Go F pc lv st (fun H => G1 H ∨ G2 H) k n :=
  fun H locs ls hG hL hl => hG.elim (fun h => k1 H locs ls h hL hl) (fun h => k2 H locs ls h hL hl)
theorem go_widen {k' n' : Nat} (h1 : k ≤ k') (h2 : n ≤ n') (kk : Go F pc lv st G k' n') : Go F pc lv st G k n := fun H locs ls hG hL hl => W.widen h1 h2 (kk H locs ls hG hL hl)
theorem go_topi {x : Int32} (kk : ∀ y : Int32, y = x → Go F pc lv (.int y :: st) G k n) : Go F pc lv (.int x :: st) G k n := kk x rfl
theorem go_topl {x : Int64} (kk : ∀ y : Int64, y = x → Go F pc lv (.long y :: st) G k n) : Go F pc lv (.long x :: st) G k n := kk x rfl
theorem go_st {st' : List Value} (h : st = st') (kk : Go F pc lv st' G k n) : Go F pc lv st G k n := h ▸ kk
theorem go_iconst (hF : Fb F cc own nL rm) {m : Int} {v : Int32} (hd : decode cc pc = .ok (.iconst m, 1)) (hv : Int32.ofInt m = v) (kk : Go F (pc + 1) lv (.int v :: st) G k n) : Go F pc lv st G k n := fun H locs ls hG hL hl => lv_iconst hF.1 hF.2.1 hd hv (kk H locs ls hG hL hl)
theorem go_bipush (hF : Fb F cc own nL rm) {m : Int} {v : Int32} (hd : decode cc pc = .ok (.bipush m, 2)) (hv : (Int8.ofInt m).toInt32 = v) (kk : Go F (pc + 2) lv (.int v :: st) G k n) : Go F pc lv st G k n := fun H locs ls hG hL hl => lv_bipush hF.1 hF.2.1 hd hv (kk H locs ls hG hL hl)
theorem go_sipush (hF : Fb F cc own nL rm) {m : Int} {v : Int32} (hd : decode cc pc = .ok (.sipush m, 3)) (hv : (Int16.ofInt m).toInt32 = v) (kk : Go F (pc + 3) lv (.int v :: st) G k n) : Go F pc lv st G k n := fun H locs ls hG hL hl => lv_sipush hF.1 hF.2.1 hd hv (kk H locs ls hG hL hl)
theorem go_lconst (hF : Fb F cc own nL rm) {m : Fin 2} {v : Int64} (hd : decode cc pc = .ok (.lconst m, 1)) (hv : Int64.ofNat (m : Nat) = v) (kk : Go F (pc + 1) lv (.long v :: st) G k n) : Go F pc lv st G k n := fun H locs ls hG hL hl => lv_lconst hF.1 hF.2.1 hd hv (kk H locs ls hG hL hl)
theorem go_ldc (hF : Fb F cc own nL rm) {index : Nat} {v : Int32} (hw : Jvm.Cond.constant own index v ∈ gAll) (hd : decode cc pc = .ok (.ldc index, 2)) (kk : Go F (pc + 2) lv (.int v :: st) G k n) : Go F pc lv st G k n := fun H locs ls hG hL hl => lv_ldc hF.1 hF.2.1 hF.2.2.2.2.1 (hF.2.2.2.2.2.1 _ hw) hd (kk H locs ls hG hL hl)
theorem go_ldc2 (hF : Fb F cc own nL rm) {index : Nat} {v : Int64} (hw : Jvm.Cond.constantLong own index v ∈ gAll) (hd : decode cc pc = .ok (.ldc2_w index, 3)) (kk : Go F (pc + 3) lv (.long v :: st) G k n) : Go F pc lv st G k n := fun H locs ls hG hL hl => lv_ldc2 hF.1 hF.2.1 hF.2.2.2.2.1 (hF.2.2.2.2.2.1 _ hw) hd (kk H locs ls hG hL hl)
theorem go_null (hF : Fb F cc own nL rm) (hd : decode cc pc = .ok (.aconst_null, 1)) (kk : Go F (pc + 1) lv (.null :: st) G k n) : Go F pc lv st G k n := fun H locs ls hG hL hl => lv_null hF.1 hF.2.1 hd (kk H locs ls hG hL hl)
theorem go_iload_n (hF : Fb F cc own nL rm) {j : Fin 4} {x : Int32} (hd : decode cc pc = .ok (.iload_n j, 1)) (hv : lget lv (j : Nat) = some (.int x)) (kk : Go F (pc + 1) lv (.int x :: st) G k n) : Go F pc lv st G k n := fun H locs ls hG hL hl => lv_iload_n hF.1 hF.2.1 hd rfl (lv_get hl hv) (kk H locs ls hG hL hl)
theorem go_iload (hF : Fb F cc own nL rm) {i : Nat} {x : Int32} (hd : decode cc pc = .ok (.iload i, 2)) (hv : lget lv i = some (.int x)) (kk : Go F (pc + 2) lv (.int x :: st) G k n) : Go F pc lv st G k n := fun H locs ls hG hL hl => lv_iload hF.1 hF.2.1 hd (lv_get hl hv) (kk H locs ls hG hL hl)
theorem go_lload_n (hF : Fb F cc own nL rm) {j : Fin 4} {x : Int64} (hd : decode cc pc = .ok (.lload_n j, 1)) (hv : lget lv (j : Nat) = some (.long x)) (kk : Go F (pc + 1) lv (.long x :: st) G k n) : Go F pc lv st G k n := fun H locs ls hG hL hl => lv_lload_n hF.1 hF.2.1 hd rfl (lv_get hl hv) (kk H locs ls hG hL hl)
theorem go_lload (hF : Fb F cc own nL rm) {i : Nat} {x : Int64} (hd : decode cc pc = .ok (.lload i, 2)) (hv : lget lv i = some (.long x)) (kk : Go F (pc + 2) lv (.long x :: st) G k n) : Go F pc lv st G k n := fun H locs ls hG hL hl => lv_lload hF.1 hF.2.1 hd (lv_get hl hv) (kk H locs ls hG hL hl)
theorem go_aload_n (hF : Fb F cc own nL rm) {j : Fin 4} {x : Nat} (hd : decode cc pc = .ok (.aload_n j, 1)) (hv : lget lv (j : Nat) = some (.ref x)) (kk : Go F (pc + 1) lv (.ref x :: st) G k n) : Go F pc lv st G k n := fun H locs ls hG hL hl => lv_aload_n hF.1 hF.2.1 hd rfl (lv_get hl hv) (kk H locs ls hG hL hl)
theorem go_aload (hF : Fb F cc own nL rm) {i : Nat} {x : Nat} (hd : decode cc pc = .ok (.aload i, 2)) (hv : lget lv i = some (.ref x)) (kk : Go F (pc + 2) lv (.ref x :: st) G k n) : Go F pc lv st G k n := fun H locs ls hG hL hl => lv_aload hF.1 hF.2.1 hd (lv_get hl hv) (kk H locs ls hG hL hl)
theorem go_aload_nN (hF : Fb F cc own nL rm) {j : Fin 4} (hd : decode cc pc = .ok (.aload_n j, 1)) (hv : lget lv (j : Nat) = some .null) (kk : Go F (pc + 1) lv (.null :: st) G k n) : Go F pc lv st G k n := fun H locs ls hG hL hl => lv_aload_nN hF.1 hF.2.1 hd rfl (lv_get hl hv) (kk H locs ls hG hL hl)
theorem go_aloadN (hF : Fb F cc own nL rm) {i : Nat} (hd : decode cc pc = .ok (.aload i, 2)) (hv : lget lv i = some .null) (kk : Go F (pc + 2) lv (.null :: st) G k n) : Go F pc lv st G k n := fun H locs ls hG hL hl => lv_aloadN hF.1 hF.2.1 hd (lv_get hl hv) (kk H locs ls hG hL hl)
theorem go_istore_n (hF : Fb F cc own nL rm) {j : Fin 4} {x : Int32} (hd : decode cc pc = .ok (.istore_n j, 1)) (hb : (j : Nat) < nL) (kk : Go F (pc + 1) (lput lv j (.int x)) st G k n) : Go F pc lv (.int x :: st) G k n := fun H locs ls hG hL hl => lv_istore_n hF.1 hF.2.1 hd rfl hl (by rw [hF.2.2.2.1]; exact hb) rfl (fun ls' hl' => kk H locs ls' hG hL hl')
theorem go_istore (hF : Fb F cc own nL rm) {i : Nat} {x : Int32} (hd : decode cc pc = .ok (.istore i, 2)) (hb : i < nL) (kk : Go F (pc + 2) (lput lv i (.int x)) st G k n) : Go F pc lv (.int x :: st) G k n := fun H locs ls hG hL hl => lv_istore hF.1 hF.2.1 hd hl (by rw [hF.2.2.2.1]; exact hb) rfl (fun ls' hl' => kk H locs ls' hG hL hl')
theorem go_lstore_n (hF : Fb F cc own nL rm) {j : Fin 4} {x : Int64} (hd : decode cc pc = .ok (.lstore_n j, 1)) (hb : (j : Nat) + 1 < nL) (kk : Go F (pc + 1) (lput2 lv j (.long x)) st G k n) : Go F pc lv (.long x :: st) G k n := fun H locs ls hG hL hl => lv_lstore_n hF.1 hF.2.1 hd rfl hl (by rw [hF.2.2.2.1]; exact hb) rfl (fun ls' hl' => kk H locs ls' hG hL hl')
theorem go_lstore (hF : Fb F cc own nL rm) {i : Nat} {x : Int64} (hd : decode cc pc = .ok (.lstore i, 2)) (hb : i + 1 < nL) (kk : Go F (pc + 2) (lput2 lv i (.long x)) st G k n) : Go F pc lv (.long x :: st) G k n := fun H locs ls hG hL hl => lv_lstore hF.1 hF.2.1 hd hl (by rw [hF.2.2.2.1]; exact hb) rfl (fun ls' hl' => kk H locs ls' hG hL hl')
theorem go_astore_n (hF : Fb F cc own nL rm) {j : Fin 4} {x : Nat} (hd : decode cc pc = .ok (.astore_n j, 1)) (hb : (j : Nat) < nL) (kk : Go F (pc + 1) (lput lv j (.ref x)) st G k n) : Go F pc lv (.ref x :: st) G k n := fun H locs ls hG hL hl => lv_astore_n hF.1 hF.2.1 hd rfl hl (by rw [hF.2.2.2.1]; exact hb) rfl (fun ls' hl' => kk H locs ls' hG hL hl')
theorem go_astore (hF : Fb F cc own nL rm) {i : Nat} {x : Nat} (hd : decode cc pc = .ok (.astore i, 2)) (hb : i < nL) (kk : Go F (pc + 2) (lput lv i (.ref x)) st G k n) : Go F pc lv (.ref x :: st) G k n := fun H locs ls hG hL hl => lv_astore hF.1 hF.2.1 hd hl (by rw [hF.2.2.2.1]; exact hb) rfl (fun ls' hl' => kk H locs ls' hG hL hl')
theorem lget_idx : ∀ {lv : lvT} {i : Nat} {v : Value}, lget lv i = some v → ∃ k : Nat, lv[k]? = some (i, v) := fun h => List.getElem?_of_mem (lget_mem h)
theorem go_iinc (hF : Fb F cc own nL rm) {i : Nat} {m : Int} {x v : Int32} (hd : decode cc pc = .ok (.iinc i m, 3)) (hx : lget lv i = some (.int x)) (hv : x + Int32.ofInt m = v) (hb : i < nL) (kk : Go F (pc + 3) (lput lv i (.int v)) st G k n) : Go F pc lv st G k n := by
  intro H locs ls hG hL hl
  obtain ⟨q, hq⟩ := lget_idx hx
  exact lv_iinc hF.1 hF.2.1 hd hl hq hv (by rw [hF.2.2.2.1]; exact hb) rfl (fun ls' hl' => kk H locs ls' hG hL hl')
theorem go_iadd (hF : Fb F cc own nL rm) {x y : Int32} (hd : decode cc pc = .ok (.iadd, 1)) (kk : Go F (pc + 1) lv (.int (x + y) :: st) G k n) : Go F pc lv (.int y :: .int x :: st) G k n := fun H locs ls hG hL hl => lv_iadd hF.1 hF.2.1 hd (kk H locs ls hG hL hl)
theorem go_isub (hF : Fb F cc own nL rm) {x y : Int32} (hd : decode cc pc = .ok (.isub, 1)) (kk : Go F (pc + 1) lv (.int (x - y) :: st) G k n) : Go F pc lv (.int y :: .int x :: st) G k n := fun H locs ls hG hL hl => lv_isub hF.1 hF.2.1 hd (kk H locs ls hG hL hl)
theorem go_imul (hF : Fb F cc own nL rm) {x y : Int32} (hd : decode cc pc = .ok (.imul, 1)) (kk : Go F (pc + 1) lv (.int (x * y) :: st) G k n) : Go F pc lv (.int y :: .int x :: st) G k n := fun H locs ls hG hL hl => lv_imul hF.1 hF.2.1 hd (kk H locs ls hG hL hl)
theorem go_iand (hF : Fb F cc own nL rm) {x y : Int32} (hd : decode cc pc = .ok (.iand, 1)) (kk : Go F (pc + 1) lv (.int (x &&& y) :: st) G k n) : Go F pc lv (.int y :: .int x :: st) G k n := fun H locs ls hG hL hl => lv_iand hF.1 hF.2.1 hd (kk H locs ls hG hL hl)
theorem go_ior (hF : Fb F cc own nL rm) {x y : Int32} (hd : decode cc pc = .ok (.ior, 1)) (kk : Go F (pc + 1) lv (.int (x ||| y) :: st) G k n) : Go F pc lv (.int y :: .int x :: st) G k n := fun H locs ls hG hL hl => lv_ior hF.1 hF.2.1 hd (kk H locs ls hG hL hl)
theorem go_ixor (hF : Fb F cc own nL rm) {x y : Int32} (hd : decode cc pc = .ok (.ixor, 1)) (kk : Go F (pc + 1) lv (.int (x ^^^ y) :: st) G k n) : Go F pc lv (.int y :: .int x :: st) G k n := fun H locs ls hG hL hl => lv_ixor hF.1 hF.2.1 hd (kk H locs ls hG hL hl)
theorem go_ladd (hF : Fb F cc own nL rm) {x y : Int64} (hd : decode cc pc = .ok (.ladd, 1)) (kk : Go F (pc + 1) lv (.long (x + y) :: st) G k n) : Go F pc lv (.long y :: .long x :: st) G k n := fun H locs ls hG hL hl => lv_ladd hF.1 hF.2.1 hd (kk H locs ls hG hL hl)
theorem go_lsub (hF : Fb F cc own nL rm) {x y : Int64} (hd : decode cc pc = .ok (.lsub, 1)) (kk : Go F (pc + 1) lv (.long (x - y) :: st) G k n) : Go F pc lv (.long y :: .long x :: st) G k n := fun H locs ls hG hL hl => lv_lsub hF.1 hF.2.1 hd (kk H locs ls hG hL hl)
theorem go_lmul (hF : Fb F cc own nL rm) {x y : Int64} (hd : decode cc pc = .ok (.lmul, 1)) (kk : Go F (pc + 1) lv (.long (x * y) :: st) G k n) : Go F pc lv (.long y :: .long x :: st) G k n := fun H locs ls hG hL hl => lv_lmul hF.1 hF.2.1 hd (kk H locs ls hG hL hl)
theorem go_land (hF : Fb F cc own nL rm) {x y : Int64} (hd : decode cc pc = .ok (.land, 1)) (kk : Go F (pc + 1) lv (.long (x &&& y) :: st) G k n) : Go F pc lv (.long y :: .long x :: st) G k n := fun H locs ls hG hL hl => lv_land hF.1 hF.2.1 hd (kk H locs ls hG hL hl)
theorem go_lor (hF : Fb F cc own nL rm) {x y : Int64} (hd : decode cc pc = .ok (.lor, 1)) (kk : Go F (pc + 1) lv (.long (x ||| y) :: st) G k n) : Go F pc lv (.long y :: .long x :: st) G k n := fun H locs ls hG hL hl => lv_lor hF.1 hF.2.1 hd (kk H locs ls hG hL hl)
theorem go_lxor (hF : Fb F cc own nL rm) {x y : Int64} (hd : decode cc pc = .ok (.lxor, 1)) (kk : Go F (pc + 1) lv (.long (x ^^^ y) :: st) G k n) : Go F pc lv (.long y :: .long x :: st) G k n := fun H locs ls hG hL hl => lv_lxor hF.1 hF.2.1 hd (kk H locs ls hG hL hl)
theorem go_idiv (hF : Fb F cc own nL rm) {x y : Int32} (hd : decode cc pc = .ok (.idiv, 1)) (hy : ¬ y = 0) (kk : Go F (pc + 1) lv (.int (x / y) :: st) G k n) : Go F pc lv (.int y :: .int x :: st) G k n := fun H locs ls hG hL hl => lv_idiv hF.1 hF.2.1 hd hy (kk H locs ls hG hL hl)
theorem go_irem (hF : Fb F cc own nL rm) {x y : Int32} (hd : decode cc pc = .ok (.irem, 1)) (hy : ¬ y = 0) (kk : Go F (pc + 1) lv (.int (x - x / y * y) :: st) G k n) : Go F pc lv (.int y :: .int x :: st) G k n := fun H locs ls hG hL hl => lv_irem hF.1 hF.2.1 hd hy (kk H locs ls hG hL hl)
theorem go_ldiv (hF : Fb F cc own nL rm) {x y : Int64} (hd : decode cc pc = .ok (.ldiv, 1)) (hy : ¬ y = 0) (kk : Go F (pc + 1) lv (.long (x / y) :: st) G k n) : Go F pc lv (.long y :: .long x :: st) G k n := fun H locs ls hG hL hl => lv_ldiv hF.1 hF.2.1 hd hy (kk H locs ls hG hL hl)
theorem go_lrem (hF : Fb F cc own nL rm) {x y : Int64} (hd : decode cc pc = .ok (.lrem, 1)) (hy : ¬ y = 0) (kk : Go F (pc + 1) lv (.long (x - x / y * y) :: st) G k n) : Go F pc lv (.long y :: .long x :: st) G k n := fun H locs ls hG hL hl => lv_lrem hF.1 hF.2.1 hd hy (kk H locs ls hG hL hl)
theorem go_ineg (hF : Fb F cc own nL rm) {x : Int32} (hd : decode cc pc = .ok (.ineg, 1)) (kk : Go F (pc + 1) lv (.int (-x) :: st) G k n) : Go F pc lv (.int x :: st) G k n := fun H locs ls hG hL hl => lv_ineg hF.1 hF.2.1 hd (kk H locs ls hG hL hl)
theorem go_lneg (hF : Fb F cc own nL rm) {x : Int64} (hd : decode cc pc = .ok (.lneg, 1)) (kk : Go F (pc + 1) lv (.long (-x) :: st) G k n) : Go F pc lv (.long x :: st) G k n := fun H locs ls hG hL hl => lv_lneg hF.1 hF.2.1 hd (kk H locs ls hG hL hl)
theorem go_i2l (hF : Fb F cc own nL rm) {x : Int32} (hd : decode cc pc = .ok (.i2l, 1)) (kk : Go F (pc + 1) lv (.long x.toInt64 :: st) G k n) : Go F pc lv (.int x :: st) G k n := fun H locs ls hG hL hl => lv_i2l hF.1 hF.2.1 hd rfl (kk H locs ls hG hL hl)
theorem go_l2i (hF : Fb F cc own nL rm) {x : Int64} (hd : decode cc pc = .ok (.l2i, 1)) (kk : Go F (pc + 1) lv (.int x.toInt32 :: st) G k n) : Go F pc lv (.long x :: st) G k n := fun H locs ls hG hL hl => lv_l2i hF.1 hF.2.1 hd rfl (kk H locs ls hG hL hl)
theorem go_lshl (hF : Fb F cc own nL rm) {x : Int64} {y : Int32} (hd : decode cc pc = .ok (.lshl, 1)) (kk : Go F (pc + 1) lv (.long (x <<< (y.toInt64 &&& 63)) :: st) G k n) : Go F pc lv (.int y :: .long x :: st) G k n := fun H locs ls hG hL hl => lv_lshl hF.1 hF.2.1 hd rfl (kk H locs ls hG hL hl)
theorem go_lcmp (hF : Fb F cc own nL rm) {x y : Int64} (hd : decode cc pc = .ok (.lcmp, 1)) (kk : Go F (pc + 1) lv (.int (lg_cmp x y) :: st) G k n) : Go F pc lv (.long y :: .long x :: st) G k n := fun H locs ls hG hL hl => W.lcmp hF.1 hF.2.1 hd (kk H locs ls hG hL hl)
theorem go_dup (hF : Fb F cc own nL rm) {a : Value} (hd : decode cc pc = .ok (.dup, 1)) (h1 : a.category = 1) (kk : Go F (pc + 1) lv (a :: a :: st) G k n) : Go F pc lv (a :: st) G k n := fun H locs ls hG hL hl => lv_dup hF.1 hF.2.1 hd h1 (kk H locs ls hG hL hl)
theorem go_pop (hF : Fb F cc own nL rm) {a : Value} (hd : decode cc pc = .ok (.pop, 1)) (h1 : a.category = 1) (kk : Go F (pc + 1) lv st G k n) : Go F pc lv (a :: st) G k n := fun H locs ls hG hL hl => lv_pop hF.1 hF.2.1 hd h1 (kk H locs ls hG hL hl)
theorem go_dup_x1 (hF : Fb F cc own nL rm) {a b : Value} (hd : decode cc pc = .ok (.dup_x1, 1)) (h1 : a.category = 1) (h2 : b.category = 1) (kk : Go F (pc + 1) lv (a :: b :: a :: st) G k n) : Go F pc lv (a :: b :: st) G k n := fun H locs ls hG hL hl => lv_dup_x1 hF.1 hF.2.1 hd h1 h2 (kk H locs ls hG hL hl)
theorem go_dup_x2 (hF : Fb F cc own nL rm) {a b d : Value} (hd : decode cc pc = .ok (.dup_x2, 1)) (h1 : a.category = 1) (h2 : b.category = 1) (h3 : d.category = 1) (kk : Go F (pc + 1) lv (a :: b :: d :: a :: st) G k n) : Go F pc lv (a :: b :: d :: st) G k n := fun H locs ls hG hL hl => lv_dup_x2 hF.1 hF.2.1 hd h1 h2 h3 (kk H locs ls hG hL hl)
theorem go_dup2 (hF : Fb F cc own nL rm) {a b : Value} (hd : decode cc pc = .ok (.dup2, 1)) (h1 : a.category = 1) (h2 : b.category = 1) (kk : Go F (pc + 1) lv (a :: b :: a :: b :: st) G k n) : Go F pc lv (a :: b :: st) G k n := fun H locs ls hG hL hl => lv_dup2_11 hF.1 hF.2.1 hd h1 h2 (kk H locs ls hG hL hl)
theorem go_if_eq (hF : Fb F cc own nL rm) {x : Int32} {off : Int} {tgt : Nat} (hd : decode cc pc = .ok (.ifCond .eq off, 3)) (ht : (pc : Int) + off = (tgt : Int)) (kt : x = 0 → Go F tgt lv st G k n) (kf : ¬ (x = 0) → Go F (pc + 3) lv st G k n) : Go F pc lv (.int x :: st) G k n := fun H locs ls hG hL hl => lv_if_eq hF.1 hF.2.1 hd ht (fun h => kt h H locs ls hG hL hl) (fun h => kf h H locs ls hG hL hl)
theorem go_icmp_eq (hF : Fb F cc own nL rm) {x y : Int32} {off : Int} {tgt : Nat} (hd : decode cc pc = .ok (.if_icmp .eq off, 3)) (ht : (pc : Int) + off = (tgt : Int)) (kt : x = y → Go F tgt lv st G k n) (kf : ¬ (x = y) → Go F (pc + 3) lv st G k n) : Go F pc lv (.int y :: .int x :: st) G k n := fun H locs ls hG hL hl => lv_icmp_eq hF.1 hF.2.1 hd ht (fun h => kt h H locs ls hG hL hl) (fun h => kf h H locs ls hG hL hl)
theorem go_if_ne (hF : Fb F cc own nL rm) {x : Int32} {off : Int} {tgt : Nat} (hd : decode cc pc = .ok (.ifCond .ne off, 3)) (ht : (pc : Int) + off = (tgt : Int)) (kt : ¬ x = 0 → Go F tgt lv st G k n) (kf : x = 0 → Go F (pc + 3) lv st G k n) : Go F pc lv (.int x :: st) G k n := fun H locs ls hG hL hl => lv_if_ne hF.1 hF.2.1 hd ht (fun h => kt h H locs ls hG hL hl) (fun h => kf h H locs ls hG hL hl)
theorem go_icmp_ne (hF : Fb F cc own nL rm) {x y : Int32} {off : Int} {tgt : Nat} (hd : decode cc pc = .ok (.if_icmp .ne off, 3)) (ht : (pc : Int) + off = (tgt : Int)) (kt : ¬ x = y → Go F tgt lv st G k n) (kf : x = y → Go F (pc + 3) lv st G k n) : Go F pc lv (.int y :: .int x :: st) G k n := fun H locs ls hG hL hl => lv_icmp_ne hF.1 hF.2.1 hd ht (fun h => kt h H locs ls hG hL hl) (fun h => kf h H locs ls hG hL hl)
theorem go_if_lt (hF : Fb F cc own nL rm) {x : Int32} {off : Int} {tgt : Nat} (hd : decode cc pc = .ok (.ifCond .lt off, 3)) (ht : (pc : Int) + off = (tgt : Int)) (kt : x < 0 → Go F tgt lv st G k n) (kf : ¬ (x < 0) → Go F (pc + 3) lv st G k n) : Go F pc lv (.int x :: st) G k n := fun H locs ls hG hL hl => lv_if_lt hF.1 hF.2.1 hd ht (fun h => kt h H locs ls hG hL hl) (fun h => kf h H locs ls hG hL hl)
theorem go_icmp_lt (hF : Fb F cc own nL rm) {x y : Int32} {off : Int} {tgt : Nat} (hd : decode cc pc = .ok (.if_icmp .lt off, 3)) (ht : (pc : Int) + off = (tgt : Int)) (kt : x < y → Go F tgt lv st G k n) (kf : ¬ (x < y) → Go F (pc + 3) lv st G k n) : Go F pc lv (.int y :: .int x :: st) G k n := fun H locs ls hG hL hl => lv_icmp_lt hF.1 hF.2.1 hd ht (fun h => kt h H locs ls hG hL hl) (fun h => kf h H locs ls hG hL hl)
theorem go_if_ge (hF : Fb F cc own nL rm) {x : Int32} {off : Int} {tgt : Nat} (hd : decode cc pc = .ok (.ifCond .ge off, 3)) (ht : (pc : Int) + off = (tgt : Int)) (kt : 0 ≤ x → Go F tgt lv st G k n) (kf : ¬ (0 ≤ x) → Go F (pc + 3) lv st G k n) : Go F pc lv (.int x :: st) G k n := fun H locs ls hG hL hl => lv_if_ge hF.1 hF.2.1 hd ht (fun h => kt h H locs ls hG hL hl) (fun h => kf h H locs ls hG hL hl)
theorem go_icmp_ge (hF : Fb F cc own nL rm) {x y : Int32} {off : Int} {tgt : Nat} (hd : decode cc pc = .ok (.if_icmp .ge off, 3)) (ht : (pc : Int) + off = (tgt : Int)) (kt : y ≤ x → Go F tgt lv st G k n) (kf : ¬ (y ≤ x) → Go F (pc + 3) lv st G k n) : Go F pc lv (.int y :: .int x :: st) G k n := fun H locs ls hG hL hl => lv_icmp_ge hF.1 hF.2.1 hd ht (fun h => kt h H locs ls hG hL hl) (fun h => kf h H locs ls hG hL hl)
theorem go_if_gt (hF : Fb F cc own nL rm) {x : Int32} {off : Int} {tgt : Nat} (hd : decode cc pc = .ok (.ifCond .gt off, 3)) (ht : (pc : Int) + off = (tgt : Int)) (kt : 0 < x → Go F tgt lv st G k n) (kf : ¬ (0 < x) → Go F (pc + 3) lv st G k n) : Go F pc lv (.int x :: st) G k n := fun H locs ls hG hL hl => lv_if_gt hF.1 hF.2.1 hd ht (fun h => kt h H locs ls hG hL hl) (fun h => kf h H locs ls hG hL hl)
theorem go_icmp_gt (hF : Fb F cc own nL rm) {x y : Int32} {off : Int} {tgt : Nat} (hd : decode cc pc = .ok (.if_icmp .gt off, 3)) (ht : (pc : Int) + off = (tgt : Int)) (kt : y < x → Go F tgt lv st G k n) (kf : ¬ (y < x) → Go F (pc + 3) lv st G k n) : Go F pc lv (.int y :: .int x :: st) G k n := fun H locs ls hG hL hl => lv_icmp_gt hF.1 hF.2.1 hd ht (fun h => kt h H locs ls hG hL hl) (fun h => kf h H locs ls hG hL hl)
theorem go_if_le (hF : Fb F cc own nL rm) {x : Int32} {off : Int} {tgt : Nat} (hd : decode cc pc = .ok (.ifCond .le off, 3)) (ht : (pc : Int) + off = (tgt : Int)) (kt : x ≤ 0 → Go F tgt lv st G k n) (kf : ¬ (x ≤ 0) → Go F (pc + 3) lv st G k n) : Go F pc lv (.int x :: st) G k n := fun H locs ls hG hL hl => lv_if_le hF.1 hF.2.1 hd ht (fun h => kt h H locs ls hG hL hl) (fun h => kf h H locs ls hG hL hl)
theorem go_icmp_le (hF : Fb F cc own nL rm) {x y : Int32} {off : Int} {tgt : Nat} (hd : decode cc pc = .ok (.if_icmp .le off, 3)) (ht : (pc : Int) + off = (tgt : Int)) (kt : x ≤ y → Go F tgt lv st G k n) (kf : ¬ (x ≤ y) → Go F (pc + 3) lv st G k n) : Go F pc lv (.int y :: .int x :: st) G k n := fun H locs ls hG hL hl => lv_icmp_le hF.1 hF.2.1 hd ht (fun h => kt h H locs ls hG hL hl) (fun h => kf h H locs ls hG hL hl)
theorem go_goto (hF : Fb F cc own nL rm) {off : Int} {tgt : Nat} (hd : decode cc pc = .ok (.goto off, 3)) (ht : (pc : Int) + off = (tgt : Int)) (kk : Go F tgt lv st G k n) : Go F pc lv st G k n := fun H locs ls hG hL hl => lv_goto hF.1 hF.2.1 hd ht (kk H locs ls hG hL hl)
theorem go_ifnull (hF : Fb F cc own nL rm) {x : Nat} {off : Int} (hd : decode cc pc = .ok (.ifnull off, 3)) (kk : Go F (pc + 3) lv st G k n) : Go F pc lv (.ref x :: st) G k n := fun H locs ls hG hL hl => lv_ifnull hF.1 hF.2.1 hd (kk H locs ls hG hL hl)
theorem go_ifnullN (hF : Fb F cc own nL rm) {off : Int} {tgt : Nat} (hd : decode cc pc = .ok (.ifnull off, 3)) (ht : (pc : Int) + off = (tgt : Int)) (kk : Go F tgt lv st G k n) : Go F pc lv (.null :: st) G k n := fun H locs ls hG hL hl => lv_ifnullN hF.1 hF.2.1 hd ht (kk H locs ls hG hL hl)
theorem go_ifnonnull (hF : Fb F cc own nL rm) {x : Nat} {off : Int} {tgt : Nat} (hd : decode cc pc = .ok (.ifnonnull off, 3)) (ht : (pc : Int) + off = (tgt : Int)) (kk : Go F tgt lv st G k n) : Go F pc lv (.ref x :: st) G k n := fun H locs ls hG hL hl => lv_ifnonnull hF.1 hF.2.1 hd ht (kk H locs ls hG hL hl)
theorem go_ifnonnullN (hF : Fb F cc own nL rm) {off : Int} (hd : decode cc pc = .ok (.ifnonnull off, 3)) (kk : Go F (pc + 3) lv st G k n) : Go F pc lv (.null :: st) G k n := fun H locs ls hG hL hl => lv_ifnonnullN hF.1 hF.2.1 hd (kk H locs ls hG hL hl)
theorem go_lookup (hF : Fb F cc own nL rm) {dflt : Int} {ps : Array (Int × Int)} {len : Nat} {x : Int32} {off : Int} {tgt : Nat} (hd : decode cc pc = .ok (.lookupswitch dflt ps, len)) (hp : (ps.toList.zip (ps.toList.drop 1)).all (fun (a, next) => a.1 < next.1) = true) (ho : Op.lookupswitch.offset ps.toList dflt x.toInt = off) (ht : (pc : Int) + off = (tgt : Int)) (kk : Go F tgt lv st G k n) : Go F pc lv (.int x :: st) G k n := fun H locs ls hG hL hl => lv_lookup hF.1 hF.2.1 hd hp ho ht (kk H locs ls hG hL hl)
theorem go_tableOut (hF : Fb F cc own nL rm) {dflt lo hi : Int} {offs : Array Int} {len : Nat} {x : Int32} {tgt : Nat} (hd : decode cc pc = .ok (.tableswitch dflt lo hi offs, len)) (h : x.toInt < lo ∨ hi < x.toInt) (ht : (pc : Int) + dflt = (tgt : Int)) (kk : Go F tgt lv st G k n) : Go F pc lv (.int x :: st) G k n := fun H locs ls hG hL hl => lv_tableOut hF.1 hF.2.1 hd h ht (kk H locs ls hG hL hl)
theorem go_tableIn (hF : Fb F cc own nL rm) {dflt lo hi : Int} {offs : Array Int} {len : Nat} {x : Int32} {off : Int} {tgt : Nat} (hd : decode cc pc = .ok (.tableswitch dflt lo hi offs, len)) (h1 : ¬ x.toInt < lo) (h2 : ¬ hi < x.toInt) (ho : offs[(x.toInt - lo).toNat]? = some off) (ht : (pc : Int) + off = (tgt : Int)) (kk : Go F tgt lv st G k n) : Go F pc lv (.int x :: st) G k n := fun H locs ls hG hL hl => lv_tableIn hF.1 hF.2.1 hd h1 h2 ho ht (kk H locs ls hG hL hl)
variable {Q : Option Value → Heap → Prop} {X : String → Heap → Prop} {mc ms : Nat}
theorem go_iret (hF : Fb F cc own nL rm) (hM : Fm F (some .int) Q X mc ms) {v : Int32} (hd : decode cc pc = .ok (.ireturn, 1)) (hk : k ≤ mc) (hn : n ≤ ms) (hq : ∀ H, G H → Q (some (.int v)) H) : Go F pc lv [.int v] G k n := by
  intro H locs ls hG hL hl
  rw [hM.2]
  exact W.widen hk hn (w_mono (fun t => mq_z) (W.iret hF.1 hF.2.1 hM.1 (fun t ht hW => ⟨_, rfl, by rw [ht]; exact hq H hG⟩) hL hd hF.2.2.2.2.2.2.1))
theorem go_zret (hF : Fb F cc own nL rm) (hM : Fm F (some .boolean) Q X mc ms) {v : Int32} (hd : decode cc pc = .ok (.ireturn, 1)) (hb : narrow .boolean (.int v) = .int v) (hk : k ≤ mc) (hn : n ≤ ms) (hq : ∀ H, G H → Q (some (.int v)) H) : Go F pc lv [.int v] G k n := by
  intro H locs ls hG hL hl
  rw [hM.2]
  exact W.widen hk hn (w_mono (fun t => mq_z) (W.zret hF.1 hF.2.1 hM.1 hb (fun t ht hW => ⟨_, rfl, by rw [ht]; exact hq H hG⟩) hL hd hF.2.2.2.2.2.2.1))
theorem go_lret (hF : Fb F cc own nL rm) (hM : Fm F (some .long) Q X mc ms) {v : Int64} (hd : decode cc pc = .ok (.lreturn, 1)) (hk : k ≤ mc) (hn : n ≤ ms) (hq : ∀ H, G H → Q (some (.long v)) H) : Go F pc lv [.long v] G k n := by
  intro H locs ls hG hL hl
  rw [hM.2]
  exact W.widen hk hn (w_mono (fun t => mq_z) (W.lret hF.1 hF.2.1 hM.1 (fun t ht hW => ⟨_, rfl, by rw [ht]; exact hq H hG⟩) hL hd hF.2.2.2.2.2.2.1))
theorem go_vret (hF : Fb F cc own nL rm) (hM : Fm F none Q X mc ms) (hd : decode cc pc = .ok (.return_, 1)) (hk : k ≤ mc) (hn : n ≤ ms) (hq : ∀ H, G H → Q none H) : Go F pc lv [] G k n := by
  intro H locs ls hG hL hl
  rw [hM.2]
  exact W.widen hk hn (w_mono (fun t => mq_z) (W.vret hF.1 hF.2.1 hM.1 (fun t ht hW => ⟨_, rfl, by rw [ht]; exact hq H hG⟩) hL hd hF.2.2.2.2.2.2.1))
end GO
