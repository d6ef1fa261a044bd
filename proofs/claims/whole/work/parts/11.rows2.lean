/-! MORE ROWS: fields by their kinds, counters, receivers -/
section GS2
variable {F : gT} {cc : ByteArray} {own : String} {nL : Nat} {rm : Room} {pc : Nat} {lv : lvT} {st : List Value} {kc ks : Nat} {E : gE} {B : bsT} {N : nwT} {w : wdT}
theorem gs_geti (hF : Fb F cc own nL rm) (hE : va_K E.1 vwCl E.2.1 (gs F)) {κ ι r i idx ci k : Nat} {g : rgT} {fs : List kdT} {u : Nat × Nat} (hd : decode cc pc = .ok (.getfield idx, 3)) (hfl : FL own idx ci k) (ho : N.1 κ ι = true) (hr : (sch κ)[r]? = some g) (hb : g.2.2 = .inl (ci, fs)) (hi : i < g.2.1) (hk : fs[k]? = some (0, u))
    (kk : Go F (pc + 3) lv (.int (wI w κ ι r k i) :: st) (gw E B N w) kc ks) : Go F pc lv (.ref (ad B κ ι r i) :: st) (gw E B N w) kc ks :=
  gs_get hF hE hd hfl ho hr hb hi (by rw [fvs_at B w κ ι r i 0 k fs _ hk, Nat.zero_add]; rfl) kk
theorem gs_getl (hF : Fb F cc own nL rm) (hE : va_K E.1 vwCl E.2.1 (gs F)) {κ ι r i idx ci k : Nat} {g : rgT} {fs : List kdT} {u : Nat × Nat} (hd : decode cc pc = .ok (.getfield idx, 3)) (hfl : FL own idx ci k) (ho : N.1 κ ι = true) (hr : (sch κ)[r]? = some g) (hb : g.2.2 = .inl (ci, fs)) (hi : i < g.2.1) (hk : fs[k]? = some (1, u))
    (kk : Go F (pc + 3) lv (.long (wL w κ ι r k i) :: st) (gw E B N w) kc ks) : Go F pc lv (.ref (ad B κ ι r i) :: st) (gw E B N w) kc ks :=
  gs_get hF hE hd hfl ho hr hb hi (by rw [fvs_at B w κ ι r i 0 k fs _ hk, Nat.zero_add]; rfl) kk
/-- a fixed reference in the same block -/
theorem gs_getr (hF : Fb F cc own nL rm) (hE : va_K E.1 vwCl E.2.1 (gs F)) {κ ι r i idx ci k r' : Nat} {g : rgT} {fs : List kdT} (hd : decode cc pc = .ok (.getfield idx, 3)) (hfl : FL own idx ci k) (ho : N.1 κ ι = true) (hr : (sch κ)[r]? = some g) (hb : g.2.2 = .inl (ci, fs)) (hi : i < g.2.1) (hk : fs[k]? = some (3, r', 0))
    (kk : Go F (pc + 3) lv (.ref (ad B κ ι r' 0) :: st) (gw E B N w) kc ks) : Go F pc lv (.ref (ad B κ ι r i) :: st) (gw E B N w) kc ks :=
  gs_get hF hE hd hfl ho hr hb hi (by rw [fvs_at B w κ ι r i 0 k fs _ hk, Nat.zero_add]; rfl) kk
/-- .. and into the first block of another kind -/
theorem gs_getx (hF : Fb F cc own nL rm) (hE : va_K E.1 vwCl E.2.1 (gs F)) {κ ι r i idx ci k r' κ' : Nat} {g : rgT} {fs : List kdT} (hd : decode cc pc = .ok (.getfield idx, 3)) (hfl : FL own idx ci k) (ho : N.1 κ ι = true) (hr : (sch κ)[r]? = some g) (hb : g.2.2 = .inl (ci, fs)) (hi : i < g.2.1) (hk : fs[k]? = some (3, r', κ' + 2))
    (kk : Go F (pc + 3) lv (.ref (ad B κ' 0 r' 0) :: st) (gw E B N w) kc ks) : Go F pc lv (.ref (ad B κ ι r i) :: st) (gw E B N w) kc ks :=
  gs_get hF hE hd hfl ho hr hb hi (by rw [fvs_at B w κ ι r i 0 k fs _ hk, Nat.zero_add]; rfl) kk
theorem gw_recv {U : State} {H : Heap} (hK : va_K E.1 vwCl E.2.1 U) (hG : gw E B N w H) {κ ι r i ci : Nat} {g : rgT} {fs : List kdT} {q : vw_C} (ho : N.1 κ ι = true) (hr : (sch κ)[r]? = some g) (hb : g.2.2 = .inl (ci, fs)) (hi : i < g.2.1) (hc : vwCl[ci]? = some q) :
    ∃ cell : Cell, H[ad B κ ι r i]? = some cell ∧ cell.vm.isStatics = false ∧ U.vm.findClass q.1 = some cell.cls :=
  va_recv (q0 := 0) hK (va_P1 (gw_va hG ho hr hb hi)) hc rfl
/-- a counter goes up -/
theorem go_iincN (hF : Fb F cc own nL rm) {G : Heap → Prop} {i q : Nat} (hd : decode cc pc = .ok (.iinc i 1, 3)) (hx : lget lv i = some (.int (nI q))) (hb : i < nL) (kk : Go F (pc + 3) (lput lv i (.int (nI (q + 1)))) st G kc ks) : Go F pc lv st G kc ks :=
  go_iinc hF hd hx (by rw [show Int32.ofInt 1 = 1 from by decide]; exact nI_1 q) hb kk
/-- what a branch on compared longs says -/
theorem go_lif_ge (hF : Fb F cc own nL rm) {G : Heap → Prop} {x y : Int64} {off : Int} {tgt : Nat} (hd : decode cc pc = .ok (.lcmp, 1)) (hd' : decode cc (pc + 1) = .ok (.ifCond .ge off, 3)) (ht : ((pc + 1 : Nat) : Int) + off = (tgt : Int)) (kt : y ≤ x → Go F tgt lv st G kc ks) (kf : ¬ y ≤ x → Go F (pc + 4) lv st G kc ks) : Go F pc lv (.long y :: .long x :: st) G kc ks :=
  go_lcmp hF hd (go_if_ge hF hd' ht (fun h => kt ((lg_cmp_ge x y).mp h)) (fun h => kf (fun z => h ((lg_cmp_ge x y).mpr z))))
theorem go_lif_gt (hF : Fb F cc own nL rm) {G : Heap → Prop} {x y : Int64} {off : Int} {tgt : Nat} (hd : decode cc pc = .ok (.lcmp, 1)) (hd' : decode cc (pc + 1) = .ok (.ifCond .gt off, 3)) (ht : ((pc + 1 : Nat) : Int) + off = (tgt : Int)) (kt : y < x → Go F tgt lv st G kc ks) (kf : ¬ y < x → Go F (pc + 4) lv st G kc ks) : Go F pc lv (.long y :: .long x :: st) G kc ks :=
  go_lcmp hF hd (go_if_gt hF hd' ht (fun h => kt ((lg_cmp_gt x y).mp h)) (fun h => kf (fun z => h ((lg_cmp_gt x y).mpr z))))
theorem go_lif_lt (hF : Fb F cc own nL rm) {G : Heap → Prop} {x y : Int64} {off : Int} {tgt : Nat} (hd : decode cc pc = .ok (.lcmp, 1)) (hd' : decode cc (pc + 1) = .ok (.ifCond .lt off, 3)) (ht : ((pc + 1 : Nat) : Int) + off = (tgt : Int)) (kt : x < y → Go F tgt lv st G kc ks) (kf : ¬ x < y → Go F (pc + 4) lv st G kc ks) : Go F pc lv (.long y :: .long x :: st) G kc ks :=
  go_lcmp hF hd (go_if_lt hF hd' ht (fun h => kt ((lg_cmp_lt x y).mp h)) (fun h => kf (fun z => h ((lg_cmp_lt x y).mpr z))))
theorem go_lif_le (hF : Fb F cc own nL rm) {G : Heap → Prop} {x y : Int64} {off : Int} {tgt : Nat} (hd : decode cc pc = .ok (.lcmp, 1)) (hd' : decode cc (pc + 1) = .ok (.ifCond .le off, 3)) (ht : ((pc + 1 : Nat) : Int) + off = (tgt : Int)) (kt : x ≤ y → Go F tgt lv st G kc ks) (kf : ¬ x ≤ y → Go F (pc + 4) lv st G kc ks) : Go F pc lv (.long y :: .long x :: st) G kc ks :=
  go_lcmp hF hd (go_if_le hF hd' ht (fun h => kt ((lg_cmp_le x y).mp h)) (fun h => kf (fun z => h ((lg_cmp_le x y).mpr z))))
theorem go_lif_eq (hF : Fb F cc own nL rm) {G : Heap → Prop} {x y : Int64} {off : Int} {tgt : Nat} (hd : decode cc pc = .ok (.lcmp, 1)) (hd' : decode cc (pc + 1) = .ok (.ifCond .eq off, 3)) (ht : ((pc + 1 : Nat) : Int) + off = (tgt : Int)) (kt : x = y → Go F tgt lv st G kc ks) (kf : ¬ x = y → Go F (pc + 4) lv st G kc ks) : Go F pc lv (.long y :: .long x :: st) G kc ks :=
  go_lcmp hF hd (go_if_eq hF hd' ht (fun h => kt ((lg_cmp_eq x y).mp h)) (fun h => kf (fun z => h ((lg_cmp_eq x y).mpr z))))
theorem go_lif_ne (hF : Fb F cc own nL rm) {G : Heap → Prop} {x y : Int64} {off : Int} {tgt : Nat} (hd : decode cc pc = .ok (.lcmp, 1)) (hd' : decode cc (pc + 1) = .ok (.ifCond .ne off, 3)) (ht : ((pc + 1 : Nat) : Int) + off = (tgt : Int)) (kt : ¬ x = y → Go F tgt lv st G kc ks) (kf : x = y → Go F (pc + 4) lv st G kc ks) : Go F pc lv (.long y :: .long x :: st) G kc ks :=
  go_lcmp hF hd (go_if_ne hF hd' ht (fun h => kt (fun z => h ((lg_cmp_eq x y).mpr z))) (fun h => kf ((lg_cmp_eq x y).mp h)))
end GS2
def rm_EW_init : Room := { frames := 3, cells := 92, slots := 4897, locals := 61 }
def rm_EW_net : Room := { frames := 6, cells := 1, slots := 6, locals := 103 }
def rm_EW_gate : Room := { frames := 7, cells := 4, slots := 24, locals := 170 }
def rm_EW_delay : Room := { frames := 6, cells := 1, slots := 6, locals := 103 }
def rm_EW_spike : Room := { frames := 6, cells := 1, slots := 6, locals := 103 }
def rm_EW_drive : Room := { frames := 8, cells := 2, slots := 12, locals := 149 }
def rm_EW_force : Room := { frames := 8, cells := 2, slots := 12, locals := 149 }
def rm_EW_release : Room := { frames := 8, cells := 2, slots := 12, locals := 149 }
def rm_EW_check : Room := { frames := 7, cells := 3, slots := 18, locals := 124 }
def rm_EW_broken : Room := { frames := 6, cells := 1, slots := 6, locals := 103 }
def rm_EW_run : Room := { frames := 7, cells := 1, slots := 6, locals := 173 }
def rm_EW_now : Room := { frames := 0, cells := 0, slots := 0, locals := 0 }
def rm_EW_at : Room := { frames := 7, cells := 2, slots := 12, locals := 124 }
def rm_EW_value : Room := { frames := 7, cells := 1, slots := 6, locals := 124 }
def rm_EW_change : Room := { frames := 6, cells := 1, slots := 6, locals := 103 }
def rm_EW_counted : Room := { frames := 7, cells := 1, slots := 6, locals := 124 }
def rm_EW_unit : Room := { frames := 1, cells := 0, slots := 0, locals := 21 }
def rm_EW_read : Room := { frames := 6, cells := 2, slots := 10, locals := 103 }
def rm_EW_write : Room := { frames := 6, cells := 1, slots := 6, locals := 103 }
def rm_EW_levels : Room := { frames := 3, cells := 0, slots := 0, locals := 67 }
def rm_EW_save : Room := { frames := 6, cells := 89, slots := 2891, locals := 103 }
def rm_EW_back : Room := { frames := 3, cells := 0, slots := 0, locals := 83 }
def rm_EW_tell : Room := { frames := 7, cells := 2, slots := 12, locals := 124 }
def rm_EW_requireNet : Room := { frames := 6, cells := 1, slots := 6, locals := 103 }
def rm_EW_isLength : Room := { frames := 0, cells := 0, slots := 0, locals := 0 }
def rm_Mo_init : Room := { frames := 1, cells := 6, slots := 21500, locals := 20 }
def rm_Mo_thrown : Room := { frames := 0, cells := 0, slots := 0, locals := 0 }
def rm_Mo_ofNet : Room := { frames := 0, cells := 0, slots := 0, locals := 0 }
def rm_Mo_ofGate : Room := { frames := 0, cells := 0, slots := 0, locals := 0 }
def rm_Mo_setGate : Room := { frames := 0, cells := 0, slots := 0, locals := 0 }
def rm_Mo_setNet : Room := { frames := 0, cells := 0, slots := 0, locals := 0 }
def rm_Mo_seen : Room := { frames := 1, cells := 0, slots := 0, locals := 22 }
def rm_Mo_gives : Room := { frames := 2, cells := 0, slots := 0, locals := 44 }
def rm_Mo_delayTo : Room := { frames := 1, cells := 0, slots := 0, locals := 22 }
def rm_Mo_ask : Room := { frames := 2, cells := 0, slots := 0, locals := 47 }
def rm_Mo_driven : Room := { frames := 1, cells := 0, slots := 0, locals := 22 }
def rm_Mo_settle : Room := { frames := 4, cells := 0, slots := 0, locals := 95 }
def rm_Mo_near : Room := { frames := 0, cells := 0, slots := 0, locals := 0 }
def rm_Mo_spoil : Room := { frames := 3, cells := 0, slots := 0, locals := 72 }
def rm_Mo_net : Room := { frames := 1, cells := 0, slots := 0, locals := 23 }
def rm_Mo_isNet : Room := { frames := 0, cells := 0, slots := 0, locals := 0 }
def rm_Mo_isGate : Room := { frames := 0, cells := 0, slots := 0, locals := 0 }
def rm_Mo_gate : Room := { frames := 5, cells := 0, slots := 0, locals := 125 }
def rm_Mo_delay : Room := { frames := 1, cells := 0, slots := 0, locals := 23 }
def rm_Mo_spike : Room := { frames := 0, cells := 0, slots := 0, locals := 0 }
def rm_Mo_tell : Room := { frames := 0, cells := 0, slots := 0, locals := 0 }
def rm_Mo_hand : Room := { frames := 1, cells := 0, slots := 0, locals := 25 }
def rm_Mo_drive : Room := { frames := 2, cells := 0, slots := 0, locals := 51 }
def rm_Mo_force : Room := { frames := 2, cells := 0, slots := 0, locals := 51 }
def rm_Mo_release : Room := { frames := 2, cells := 0, slots := 0, locals := 51 }
def rm_Mo_check : Room := { frames := 1, cells := 0, slots := 0, locals := 21 }
def rm_Mo_broken : Room := { frames := 0, cells := 0, slots := 0, locals := 0 }
def rm_Mo_nextHand : Room := { frames := 0, cells := 0, slots := 0, locals := 0 }
def rm_Mo_nextGate : Room := { frames := 1, cells := 0, slots := 0, locals := 22 }
def rm_Mo_comeHand : Room := { frames := 5, cells := 0, slots := 0, locals := 125 }
def rm_Mo_comeGate : Room := { frames := 5, cells := 0, slots := 0, locals := 125 }
def rm_Mo_run : Room := { frames := 6, cells := 0, slots := 0, locals := 151 }
def rm_Mo_now : Room := { frames := 0, cells := 0, slots := 0, locals := 0 }
def rm_Mo_at : Room := { frames := 1, cells := 0, slots := 0, locals := 21 }
def rm_Mo_value : Room := { frames := 1, cells := 0, slots := 0, locals := 22 }
def rm_Mo_change : Room := { frames := 0, cells := 0, slots := 0, locals := 0 }
def rm_Mo_counted : Room := { frames := 1, cells := 0, slots := 0, locals := 22 }
def rm_Mo_levels : Room := { frames := 3, cells := 0, slots := 0, locals := 68 }
def rm_Mo_unit : Room := { frames := 0, cells := 0, slots := 0, locals := 0 }
def rm_Mo_byteAt : Room := { frames := 0, cells := 0, slots := 0, locals := 0 }
def rm_Mo_isDigit : Room := { frames := 0, cells := 0, slots := 0, locals := 0 }
def rm_Mo_valueOf : Room := { frames := 0, cells := 0, slots := 0, locals := 0 }
def rm_Mo_read : Room := { frames := 1, cells := 0, slots := 0, locals := 25 }
def rm_Mo_write : Room := { frames := 0, cells := 0, slots := 0, locals := 0 }
def rm_Mo_save : Room := { frames := 0, cells := 0, slots := 0, locals := 0 }
def rm_Mo_back : Room := { frames := 0, cells := 0, slots := 0, locals := 0 }
def rm_Ch_init : Room := { frames := 1, cells := 0, slots := 0, locals := 20 }
def rm_Ch_begin : Room := { frames := 0, cells := 0, slots := 0, locals := 0 }
def rm_Ch_copyFrom : Room := { frames := 0, cells := 0, slots := 0, locals := 0 }
def rm_Ch_isWithin : Room := { frames := 0, cells := 0, slots := 0, locals := 0 }
def rm_Ci_init : Room := { frames := 2, cells := 88, slots := 2881, locals := 40 }
def rm_Ci_copyFrom : Room := { frames := 2, cells := 0, slots := 0, locals := 61 }
def rm_Ci_hasNet : Room := { frames := 0, cells := 0, slots := 0, locals := 0 }
def rm_Ci_isToCome : Room := { frames := 0, cells := 0, slots := 0, locals := 0 }
def rm_Ci_addNet : Room := { frames := 1, cells := 0, slots := 0, locals := 20 }
def rm_Ci_addGate : Room := { frames := 6, cells := 0, slots := 0, locals := 144 }
def rm_Ci_addCheck : Room := { frames := 1, cells := 0, slots := 0, locals := 24 }
def rm_Ci_unsettled : Room := { frames := 2, cells := 0, slots := 0, locals := 45 }
def rm_Ci_advance : Room := { frames := 6, cells := 0, slots := 0, locals := 144 }
def rm_Ci_firstGate : Room := { frames := 1, cells := 0, slots := 0, locals := 21 }
def rm_Ci_isBefore : Room := { frames := 0, cells := 0, slots := 0, locals := 0 }
def rm_Ci_isHandFirst : Room := { frames := 0, cells := 0, slots := 0, locals := 0 }
def rm_Ci_takeHand : Room := { frames := 1, cells := 0, slots := 0, locals := 22 }
def rm_Ci_refresh : Room := { frames := 5, cells := 0, slots := 0, locals := 118 }
def rm_Ci_driven : Room := { frames := 0, cells := 0, slots := 0, locals := 0 }
def rm_Ci_given : Room := { frames := 1, cells := 0, slots := 0, locals := 24 }
def rm_Ci_tryChecks : Room := { frames := 4, cells := 0, slots := 0, locals := 94 }
def rm_Ci_breaks : Room := { frames := 1, cells := 0, slots := 0, locals := 24 }
def rm_Ci_blurRegisters : Room := { frames := 3, cells := 0, slots := 0, locals := 71 }
def rm_Ga_init : Room := { frames := 1, cells := 0, slots := 0, locals := 20 }
def rm_Ga_begin : Room := { frames := 0, cells := 0, slots := 0, locals := 0 }
def rm_Ga_copyFrom : Room := { frames := 0, cells := 0, slots := 0, locals := 0 }
def rm_Ga_takeDelays : Room := { frames := 0, cells := 0, slots := 0, locals := 0 }
def rm_Ga_hears : Room := { frames := 0, cells := 0, slots := 0, locals := 0 }
def rm_Ga_gives : Room := { frames := 0, cells := 0, slots := 0, locals := 0 }
def rm_Ga_delayTo : Room := { frames := 1, cells := 0, slots := 0, locals := 24 }
def rm_Ga_ask : Room := { frames := 2, cells := 0, slots := 0, locals := 45 }
def rm_Ga_takeWaiting : Room := { frames := 0, cells := 0, slots := 0, locals := 0 }
def rm_Ha_init : Room := { frames := 1, cells := 4, slots := 400, locals := 20 }
def rm_Ha_copyFrom : Room := { frames := 1, cells := 0, slots := 0, locals := 40 }
def rm_Ha_append : Room := { frames := 0, cells := 0, slots := 0, locals := 0 }
def rm_Ha_first : Room := { frames := 0, cells := 0, slots := 0, locals := 0 }
def rm_Ha_drop : Room := { frames := 0, cells := 0, slots := 0, locals := 0 }
def rm_Ne_init : Room := { frames := 1, cells := 0, slots := 0, locals := 20 }
def rm_Ne_begin : Room := { frames := 0, cells := 0, slots := 0, locals := 0 }
def rm_Ne_copyFrom : Room := { frames := 0, cells := 0, slots := 0, locals := 0 }
def rm_Ta_init : Room := { frames := 1, cells := 1, slots := 2000, locals := 20 }
def rm_Ta_append : Room := { frames := 0, cells := 0, slots := 0, locals := 0 }
def rm_Ta_byteOrNone : Room := { frames := 0, cells := 0, slots := 0, locals := 0 }
def rm_Ta_skipBlanks : Room := { frames := 1, cells := 0, slots := 0, locals := 21 }
def rm_Ta_skipDigits : Room := { frames := 1, cells := 0, slots := 0, locals := 21 }
def rm_Ta_isBlank : Room := { frames := 0, cells := 0, slots := 0, locals := 0 }
def rm_Ta_isDigit : Room := { frames := 0, cells := 0, slots := 0, locals := 0 }
def rm_Tr_init : Room := { frames := 1, cells := 0, slots := 0, locals := 20 }
def rm_Tr_pass : Room := { frames := 3, cells := 0, slots := 0, locals := 68 }
def rm_Tr_takeTime : Room := { frames := 2, cells := 0, slots := 0, locals := 43 }
def rm_Tr_takeLine : Room := { frames := 1, cells := 0, slots := 0, locals := 25 }
def rm_Tr_valueOf : Room := { frames := 0, cells := 0, slots := 0, locals := 0 }
def rm_Wa_init : Room := { frames := 1, cells := 3, slots := 1800, locals := 20 }
def rm_Wa_copyFrom : Room := { frames := 1, cells := 0, slots := 0, locals := 40 }
def rm_Wa_keep : Room := { frames := 0, cells := 0, slots := 0, locals := 0 }
def rm_Wa_latest : Room := { frames := 0, cells := 0, slots := 0, locals := 0 }
def rm_Wa_byteOfText : Room := { frames := 1, cells := 0, slots := 0, locals := 23 }
def rm_Wa_digitsOf : Room := { frames := 0, cells := 0, slots := 0, locals := 0 }
def rm_Wa_headByte : Room := { frames := 0, cells := 0, slots := 0, locals := 0 }
def rm_Wa_lineByte : Room := { frames := 0, cells := 0, slots := 0, locals := 0 }
def rm_La_net : Room := { frames := 7, cells := 1, slots := 6, locals := 123 }
def rm_La_gate : Room := { frames := 8, cells := 4, slots := 24, locals := 194 }
def rm_La_delay : Room := { frames := 7, cells := 1, slots := 6, locals := 126 }
def rm_La_spike : Room := { frames := 7, cells := 1, slots := 6, locals := 125 }
def rm_La_drive : Room := { frames := 9, cells := 2, slots := 12, locals := 173 }
def rm_La_force : Room := { frames := 9, cells := 2, slots := 12, locals := 173 }
def rm_La_release : Room := { frames := 9, cells := 2, slots := 12, locals := 172 }
def rm_La_check : Room := { frames := 8, cells := 3, slots := 18, locals := 148 }
def rm_La_broken : Room := { frames := 7, cells := 1, slots := 6, locals := 124 }
def rm_La_run : Room := { frames := 8, cells := 1, slots := 6, locals := 195 }
def rm_La_at : Room := { frames := 8, cells := 2, slots := 12, locals := 147 }
def rm_La_value : Room := { frames := 8, cells := 1, slots := 6, locals := 145 }
def rm_La_change : Room := { frames := 7, cells := 1, slots := 6, locals := 126 }
def rm_La_counted : Room := { frames := 8, cells := 1, slots := 6, locals := 145 }
def rm_La_read : Room := { frames := 7, cells := 2, slots := 10, locals := 125 }
def rm_La_write : Room := { frames := 7, cells := 1, slots := 6, locals := 125 }
def rm_La_save : Room := { frames := 7, cells := 89, slots := 2891, locals := 124 }
