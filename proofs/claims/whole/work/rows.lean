section
-- ===== PART A: goes FIRST, ahead of the names: the tables' words, and 'selects' of the private methods out of them =====
/-- a private method of a class that the tables say can be made, by its rows of tables_1 -/
def lw_okq (q : MethodName × Nat) : Prop := (q.1.cls ≠ "java/lang/invoke/MethodHandle" ∧ q.1.cls ≠ "java/lang/invoke/VarHandle") ∧ Cond.instantiable q.1.cls q.2 ∈ tables_1 ∧ Cond.privateMethod q.1 ∈ tables_1 ∧ Cond.instanceMethod q.1 ∈ tables_1
theorem lw_p0 : lw_okq (⟨"EventWaves$Circuit", "given", "(LEventWaves$Gate;)I"⟩, 10) := ⟨⟨by decide +kernel, by decide +kernel⟩, List.mem_of_getElem? (i := 28) (by decide +kernel), List.mem_of_getElem? (i := 287) (by decide +kernel), List.mem_of_getElem? (i := 288) (by decide +kernel)⟩
theorem lw_p1 : lw_okq (⟨"java/lang/Throwable", "fillInStackTrace", "(I)Ljava/lang/Throwable;"⟩, 6) := ⟨⟨by decide +kernel, by decide +kernel⟩, List.mem_of_getElem? (i := 373) (by decide +kernel), List.mem_of_getElem? (i := 371) (by decide +kernel), List.mem_of_getElem? (i := 372) (by decide +kernel)⟩
theorem lw_p2 : lw_okq (⟨"EventWaves", "requireNet", "(I)V"⟩, 4) := ⟨⟨by decide +kernel, by decide +kernel⟩, List.mem_of_getElem? (i := 20) (by decide +kernel), List.mem_of_getElem? (i := 421) (by decide +kernel), List.mem_of_getElem? (i := 422) (by decide +kernel)⟩
theorem lw_p3 : lw_okq (⟨"EventWaves$Circuit", "refresh", "(I)V"⟩, 10) := ⟨⟨by decide +kernel, by decide +kernel⟩, List.mem_of_getElem? (i := 28) (by decide +kernel), List.mem_of_getElem? (i := 470) (by decide +kernel), List.mem_of_getElem? (i := 471) (by decide +kernel)⟩
theorem lw_p4 : lw_okq (⟨"EventWaves$Circuit", "driven", "(I)I"⟩, 10) := ⟨⟨by decide +kernel, by decide +kernel⟩, List.mem_of_getElem? (i := 28) (by decide +kernel), List.mem_of_getElem? (i := 474) (by decide +kernel), List.mem_of_getElem? (i := 475) (by decide +kernel)⟩
theorem lw_p5 : lw_okq (⟨"EventWaves$Circuit", "tryChecks", "(IZ)V"⟩, 10) := ⟨⟨by decide +kernel, by decide +kernel⟩, List.mem_of_getElem? (i := 28) (by decide +kernel), List.mem_of_getElem? (i := 503) (by decide +kernel), List.mem_of_getElem? (i := 504) (by decide +kernel)⟩
theorem lw_p6 : lw_okq (⟨"EventWaves$Circuit", "breaks", "(LEventWaves$Check;IZ)Z"⟩, 10) := ⟨⟨by decide +kernel, by decide +kernel⟩, List.mem_of_getElem? (i := 28) (by decide +kernel), List.mem_of_getElem? (i := 507) (by decide +kernel), List.mem_of_getElem? (i := 508) (by decide +kernel)⟩
theorem lw_p7 : lw_okq (⟨"EventWaves$Circuit", "blurRegisters", "(LEventWaves$Check;)V"⟩, 10) := ⟨⟨by decide +kernel, by decide +kernel⟩, List.mem_of_getElem? (i := 28) (by decide +kernel), List.mem_of_getElem? (i := 516) (by decide +kernel), List.mem_of_getElem? (i := 517) (by decide +kernel)⟩
theorem lw_p8 : lw_okq (⟨"EventWaves", "tell", "(IIJI)I"⟩, 4) := ⟨⟨by decide +kernel, by decide +kernel⟩, List.mem_of_getElem? (i := 20) (by decide +kernel), List.mem_of_getElem? (i := 551) (by decide +kernel), List.mem_of_getElem? (i := 552) (by decide +kernel)⟩
theorem lw_p9 : lw_okq (⟨"EventWaves$Circuit", "firstGate", "()I"⟩, 10) := ⟨⟨by decide +kernel, by decide +kernel⟩, List.mem_of_getElem? (i := 28) (by decide +kernel), List.mem_of_getElem? (i := 622) (by decide +kernel), List.mem_of_getElem? (i := 623) (by decide +kernel)⟩
theorem lw_p10 : lw_okq (⟨"EventWaves$Circuit", "isHandFirst", "(II)Z"⟩, 10) := ⟨⟨by decide +kernel, by decide +kernel⟩, List.mem_of_getElem? (i := 28) (by decide +kernel), List.mem_of_getElem? (i := 629) (by decide +kernel), List.mem_of_getElem? (i := 630) (by decide +kernel)⟩
theorem lw_p11 : lw_okq (⟨"EventWaves$Circuit", "takeHand", "(I)I"⟩, 10) := ⟨⟨by decide +kernel, by decide +kernel⟩, List.mem_of_getElem? (i := 28) (by decide +kernel), List.mem_of_getElem? (i := 634) (by decide +kernel), List.mem_of_getElem? (i := 635) (by decide +kernel)⟩
theorem lw_p12 : lw_okq (⟨"EventWaves$TapeReader", "takeTime", "(I)I"⟩, 4) := ⟨⟨by decide +kernel, by decide +kernel⟩, List.mem_of_getElem? (i := 689) (by decide +kernel), List.mem_of_getElem? (i := 726) (by decide +kernel), List.mem_of_getElem? (i := 727) (by decide +kernel)⟩
theorem lw_p13 : lw_okq (⟨"EventWaves$TapeReader", "takeLine", "(IZ)I"⟩, 4) := ⟨⟨by decide +kernel, by decide +kernel⟩, List.mem_of_getElem? (i := 689) (by decide +kernel), List.mem_of_getElem? (i := 743) (by decide +kernel), List.mem_of_getElem? (i := 744) (by decide +kernel)⟩
theorem lw_p14 : lw_okq (⟨"EventWaves$Waves", "lineByte", "(II)I"⟩, 4) := ⟨⟨by decide +kernel, by decide +kernel⟩, List.mem_of_getElem? (i := 69) (by decide +kernel), List.mem_of_getElem? (i := 774) (by decide +kernel), List.mem_of_getElem? (i := 775) (by decide +kernel)⟩
theorem lw_p15 : lw_okq (⟨"EventWavesModel", "setNet", "(III)V"⟩, 9) := ⟨⟨by decide +kernel, by decide +kernel⟩, List.mem_of_getElem? (i := 788) (by decide +kernel), List.mem_of_getElem? (i := 830) (by decide +kernel), List.mem_of_getElem? (i := 831) (by decide +kernel)⟩
def lw_privs_1 : List (MethodName × Nat) := [(⟨"EventWaves$Circuit", "given", "(LEventWaves$Gate;)I"⟩, 10), (⟨"java/lang/Throwable", "fillInStackTrace", "(I)Ljava/lang/Throwable;"⟩, 6), (⟨"EventWaves", "requireNet", "(I)V"⟩, 4), (⟨"EventWaves$Circuit", "refresh", "(I)V"⟩, 10), (⟨"EventWaves$Circuit", "driven", "(I)I"⟩, 10), (⟨"EventWaves$Circuit", "tryChecks", "(IZ)V"⟩, 10), (⟨"EventWaves$Circuit", "breaks", "(LEventWaves$Check;IZ)Z"⟩, 10), (⟨"EventWaves$Circuit", "blurRegisters", "(LEventWaves$Check;)V"⟩, 10), (⟨"EventWaves", "tell", "(IIJI)I"⟩, 4), (⟨"EventWaves$Circuit", "firstGate", "()I"⟩, 10), (⟨"EventWaves$Circuit", "isHandFirst", "(II)Z"⟩, 10), (⟨"EventWaves$Circuit", "takeHand", "(I)I"⟩, 10), (⟨"EventWaves$TapeReader", "takeTime", "(I)I"⟩, 4), (⟨"EventWaves$TapeReader", "takeLine", "(IZ)I"⟩, 4), (⟨"EventWaves$Waves", "lineByte", "(II)I"⟩, 4), (⟨"EventWavesModel", "setNet", "(III)V"⟩, 9)]
theorem lw_r1 : ∀ q ∈ lw_privs_1, lw_okq q := List.forall_mem_cons.mpr ⟨lw_p0, List.forall_mem_cons.mpr ⟨lw_p1, List.forall_mem_cons.mpr ⟨lw_p2, List.forall_mem_cons.mpr ⟨lw_p3, List.forall_mem_cons.mpr ⟨lw_p4, List.forall_mem_cons.mpr ⟨lw_p5, List.forall_mem_cons.mpr ⟨lw_p6, List.forall_mem_cons.mpr ⟨lw_p7, List.forall_mem_cons.mpr ⟨lw_p8, List.forall_mem_cons.mpr ⟨lw_p9, List.forall_mem_cons.mpr ⟨lw_p10, List.forall_mem_cons.mpr ⟨lw_p11, List.forall_mem_cons.mpr ⟨lw_p12, List.forall_mem_cons.mpr ⟨lw_p13, List.forall_mem_cons.mpr ⟨lw_p14, List.forall_mem_cons.mpr ⟨lw_p15, fun _ h => absurd h List.not_mem_nil⟩⟩⟩⟩⟩⟩⟩⟩⟩⟩⟩⟩⟩⟩⟩⟩
theorem lw_p16 : lw_okq (⟨"EventWavesModel", "isNet", "(I)Z"⟩, 9) := ⟨⟨by decide +kernel, by decide +kernel⟩, List.mem_of_getElem? (i := 788) (by decide +kernel), List.mem_of_getElem? (i := 838) (by decide +kernel), List.mem_of_getElem? (i := 839) (by decide +kernel)⟩
theorem lw_p17 : lw_okq (⟨"EventWavesModel", "setGate", "(III)V"⟩, 9) := ⟨⟨by decide +kernel, by decide +kernel⟩, List.mem_of_getElem? (i := 788) (by decide +kernel), List.mem_of_getElem? (i := 842) (by decide +kernel), List.mem_of_getElem? (i := 843) (by decide +kernel)⟩
theorem lw_p18 : lw_okq (⟨"EventWavesModel", "settle", "(I)V"⟩, 9) := ⟨⟨by decide +kernel, by decide +kernel⟩, List.mem_of_getElem? (i := 788) (by decide +kernel), List.mem_of_getElem? (i := 846) (by decide +kernel), List.mem_of_getElem? (i := 847) (by decide +kernel)⟩
theorem lw_p19 : lw_okq (⟨"EventWavesModel", "ofNet", "(II)I"⟩, 9) := ⟨⟨by decide +kernel, by decide +kernel⟩, List.mem_of_getElem? (i := 788) (by decide +kernel), List.mem_of_getElem? (i := 850) (by decide +kernel), List.mem_of_getElem? (i := 851) (by decide +kernel)⟩
theorem lw_p20 : lw_okq (⟨"EventWavesModel", "driven", "(I)I"⟩, 9) := ⟨⟨by decide +kernel, by decide +kernel⟩, List.mem_of_getElem? (i := 788) (by decide +kernel), List.mem_of_getElem? (i := 854) (by decide +kernel), List.mem_of_getElem? (i := 855) (by decide +kernel)⟩
theorem lw_p21 : lw_okq (⟨"EventWavesModel", "ofGate", "(II)I"⟩, 9) := ⟨⟨by decide +kernel, by decide +kernel⟩, List.mem_of_getElem? (i := 788) (by decide +kernel), List.mem_of_getElem? (i := 858) (by decide +kernel), List.mem_of_getElem? (i := 859) (by decide +kernel)⟩
theorem lw_p22 : lw_okq (⟨"EventWavesModel", "gives", "(I)I"⟩, 9) := ⟨⟨by decide +kernel, by decide +kernel⟩, List.mem_of_getElem? (i := 788) (by decide +kernel), List.mem_of_getElem? (i := 862) (by decide +kernel), List.mem_of_getElem? (i := 863) (by decide +kernel)⟩
theorem lw_p23 : lw_okq (⟨"EventWavesModel", "seen", "(I)I"⟩, 9) := ⟨⟨by decide +kernel, by decide +kernel⟩, List.mem_of_getElem? (i := 788) (by decide +kernel), List.mem_of_getElem? (i := 866) (by decide +kernel), List.mem_of_getElem? (i := 867) (by decide +kernel)⟩
theorem lw_p24 : lw_okq (⟨"EventWavesModel", "ask", "(II)V"⟩, 9) := ⟨⟨by decide +kernel, by decide +kernel⟩, List.mem_of_getElem? (i := 788) (by decide +kernel), List.mem_of_getElem? (i := 870) (by decide +kernel), List.mem_of_getElem? (i := 871) (by decide +kernel)⟩
theorem lw_p25 : lw_okq (⟨"EventWavesModel", "delayTo", "(II)I"⟩, 9) := ⟨⟨by decide +kernel, by decide +kernel⟩, List.mem_of_getElem? (i := 788) (by decide +kernel), List.mem_of_getElem? (i := 874) (by decide +kernel), List.mem_of_getElem? (i := 875) (by decide +kernel)⟩
theorem lw_p26 : lw_okq (⟨"EventWavesModel", "near", "(II)Z"⟩, 9) := ⟨⟨by decide +kernel, by decide +kernel⟩, List.mem_of_getElem? (i := 788) (by decide +kernel), List.mem_of_getElem? (i := 878) (by decide +kernel), List.mem_of_getElem? (i := 879) (by decide +kernel)⟩
theorem lw_p27 : lw_okq (⟨"EventWavesModel", "spoil", "(II)V"⟩, 9) := ⟨⟨by decide +kernel, by decide +kernel⟩, List.mem_of_getElem? (i := 788) (by decide +kernel), List.mem_of_getElem? (i := 882) (by decide +kernel), List.mem_of_getElem? (i := 883) (by decide +kernel)⟩
theorem lw_p28 : lw_okq (⟨"EventWavesModel", "isGate", "(I)Z"⟩, 9) := ⟨⟨by decide +kernel, by decide +kernel⟩, List.mem_of_getElem? (i := 788) (by decide +kernel), List.mem_of_getElem? (i := 890) (by decide +kernel), List.mem_of_getElem? (i := 891) (by decide +kernel)⟩
theorem lw_p29 : lw_okq (⟨"EventWavesModel", "hand", "(IJII)I"⟩, 9) := ⟨⟨by decide +kernel, by decide +kernel⟩, List.mem_of_getElem? (i := 788) (by decide +kernel), List.mem_of_getElem? (i := 902) (by decide +kernel), List.mem_of_getElem? (i := 903) (by decide +kernel)⟩
theorem lw_p30 : lw_okq (⟨"EventWavesModel", "tell", "(IIII)V"⟩, 9) := ⟨⟨by decide +kernel, by decide +kernel⟩, List.mem_of_getElem? (i := 788) (by decide +kernel), List.mem_of_getElem? (i := 907) (by decide +kernel), List.mem_of_getElem? (i := 908) (by decide +kernel)⟩
theorem lw_p31 : lw_okq (⟨"EventWavesModel", "nextHand", "()I"⟩, 9) := ⟨⟨by decide +kernel, by decide +kernel⟩, List.mem_of_getElem? (i := 788) (by decide +kernel), List.mem_of_getElem? (i := 931) (by decide +kernel), List.mem_of_getElem? (i := 932) (by decide +kernel)⟩
def lw_privs_2 : List (MethodName × Nat) := [(⟨"EventWavesModel", "isNet", "(I)Z"⟩, 9), (⟨"EventWavesModel", "setGate", "(III)V"⟩, 9), (⟨"EventWavesModel", "settle", "(I)V"⟩, 9), (⟨"EventWavesModel", "ofNet", "(II)I"⟩, 9), (⟨"EventWavesModel", "driven", "(I)I"⟩, 9), (⟨"EventWavesModel", "ofGate", "(II)I"⟩, 9), (⟨"EventWavesModel", "gives", "(I)I"⟩, 9), (⟨"EventWavesModel", "seen", "(I)I"⟩, 9), (⟨"EventWavesModel", "ask", "(II)V"⟩, 9), (⟨"EventWavesModel", "delayTo", "(II)I"⟩, 9), (⟨"EventWavesModel", "near", "(II)Z"⟩, 9), (⟨"EventWavesModel", "spoil", "(II)V"⟩, 9), (⟨"EventWavesModel", "isGate", "(I)Z"⟩, 9), (⟨"EventWavesModel", "hand", "(IJII)I"⟩, 9), (⟨"EventWavesModel", "tell", "(IIII)V"⟩, 9), (⟨"EventWavesModel", "nextHand", "()I"⟩, 9)]
theorem lw_r2 : ∀ q ∈ lw_privs_2, lw_okq q := List.forall_mem_cons.mpr ⟨lw_p16, List.forall_mem_cons.mpr ⟨lw_p17, List.forall_mem_cons.mpr ⟨lw_p18, List.forall_mem_cons.mpr ⟨lw_p19, List.forall_mem_cons.mpr ⟨lw_p20, List.forall_mem_cons.mpr ⟨lw_p21, List.forall_mem_cons.mpr ⟨lw_p22, List.forall_mem_cons.mpr ⟨lw_p23, List.forall_mem_cons.mpr ⟨lw_p24, List.forall_mem_cons.mpr ⟨lw_p25, List.forall_mem_cons.mpr ⟨lw_p26, List.forall_mem_cons.mpr ⟨lw_p27, List.forall_mem_cons.mpr ⟨lw_p28, List.forall_mem_cons.mpr ⟨lw_p29, List.forall_mem_cons.mpr ⟨lw_p30, List.forall_mem_cons.mpr ⟨lw_p31, fun _ h => absurd h List.not_mem_nil⟩⟩⟩⟩⟩⟩⟩⟩⟩⟩⟩⟩⟩⟩⟩⟩
theorem lw_p32 : lw_okq (⟨"EventWavesModel", "nextGate", "()I"⟩, 9) := ⟨⟨by decide +kernel, by decide +kernel⟩, List.mem_of_getElem? (i := 788) (by decide +kernel), List.mem_of_getElem? (i := 935) (by decide +kernel), List.mem_of_getElem? (i := 936) (by decide +kernel)⟩
theorem lw_p33 : lw_okq (⟨"EventWavesModel", "comeHand", "(I)V"⟩, 9) := ⟨⟨by decide +kernel, by decide +kernel⟩, List.mem_of_getElem? (i := 788) (by decide +kernel), List.mem_of_getElem? (i := 940) (by decide +kernel), List.mem_of_getElem? (i := 941) (by decide +kernel)⟩
theorem lw_p34 : lw_okq (⟨"EventWavesModel", "comeGate", "(I)V"⟩, 9) := ⟨⟨by decide +kernel, by decide +kernel⟩, List.mem_of_getElem? (i := 788) (by decide +kernel), List.mem_of_getElem? (i := 945) (by decide +kernel), List.mem_of_getElem? (i := 946) (by decide +kernel)⟩
theorem lw_p35 : lw_okq (⟨"EventWavesModel", "byteAt", "(I)I"⟩, 9) := ⟨⟨by decide +kernel, by decide +kernel⟩, List.mem_of_getElem? (i := 788) (by decide +kernel), List.mem_of_getElem? (i := 981) (by decide +kernel), List.mem_of_getElem? (i := 982) (by decide +kernel)⟩
def lw_privs_3 : List (MethodName × Nat) := [(⟨"EventWavesModel", "nextGate", "()I"⟩, 9), (⟨"EventWavesModel", "comeHand", "(I)V"⟩, 9), (⟨"EventWavesModel", "comeGate", "(I)V"⟩, 9), (⟨"EventWavesModel", "byteAt", "(I)I"⟩, 9)]
theorem lw_r3 : ∀ q ∈ lw_privs_3, lw_okq q := List.forall_mem_cons.mpr ⟨lw_p32, List.forall_mem_cons.mpr ⟨lw_p33, List.forall_mem_cons.mpr ⟨lw_p34, List.forall_mem_cons.mpr ⟨lw_p35, fun _ h => absurd h List.not_mem_nil⟩⟩⟩⟩
def lw_privs : List (MethodName × Nat) := lw_privs_1 ++ (lw_privs_2 ++ (lw_privs_3))
def lw_tbl : List Cond := k2_sels lw_privs ++ tables_1
theorem lw_privs_ok : ∀ q ∈ lw_privs, lw_okq q := by
  show ∀ q ∈ lw_privs_1 ++ (lw_privs_2 ++ (lw_privs_3)), lw_okq q
  exact List.forall_mem_append.mpr ⟨lw_r1, List.forall_mem_append.mpr ⟨lw_r2, lw_r3⟩⟩
end
section
def R_EW : String := "EventWaves"
def T_EW : u_T := fun k => match k with
  | 0 => ("EventWaves", "live", "LEventWaves$Circuit;", true)
  | 1 => ("EventWaves", "saves", "[LEventWaves$Circuit;", true)
  | 2 => ("EventWaves", "saveCount", "I", false)
  | _ => ("EventWaves", "tape", "LEventWaves$Tape;", true)
def t_EW : Nat → FieldType := fun k => match k with
  | 0 => .object "EventWaves$Circuit"
  | 1 => .array (.object "EventWaves$Circuit")
  | 2 => .int
  | _ => .object "EventWaves$Tape"
theorem nm_EW : ∀ a, a < 4 → ∀ b, b < 4 → a ≠ b → (T_EW a).2.1 ≠ (T_EW b).2.1 := by decide +kernel
theorem ty_EW : ∀ k, k < 4 → parseFieldDescriptor (T_EW k).2.2.1 = some (t_EW k) := by decide +kernel
def R_Ci : String := "EventWaves$Circuit"
def T_Ci : u_T := fun k => match k with
  | 0 => ("EventWaves$Circuit", "time", "J", false)
  | 1 => ("EventWaves$Circuit", "rule", "I", false)
  | 2 => ("EventWaves$Circuit", "netCount", "I", false)
  | 3 => ("EventWaves$Circuit", "nets", "[LEventWaves$Net;", true)
  | 4 => ("EventWaves$Circuit", "gateCount", "I", false)
  | 5 => ("EventWaves$Circuit", "gates", "[LEventWaves$Gate;", true)
  | 6 => ("EventWaves$Circuit", "checkCount", "I", false)
  | 7 => ("EventWaves$Circuit", "checks", "[LEventWaves$Check;", true)
  | 8 => ("EventWaves$Circuit", "hands", "LEventWaves$Hands;", true)
  | _ => ("EventWaves$Circuit", "waves", "LEventWaves$Waves;", true)
def t_Ci : Nat → FieldType := fun k => match k with
  | 0 => .long
  | 1 => .int
  | 2 => .int
  | 3 => .array (.object "EventWaves$Net")
  | 4 => .int
  | 5 => .array (.object "EventWaves$Gate")
  | 6 => .int
  | 7 => .array (.object "EventWaves$Check")
  | 8 => .object "EventWaves$Hands"
  | _ => .object "EventWaves$Waves"
theorem nm_Ci : ∀ a, a < 10 → ∀ b, b < 10 → a ≠ b → (T_Ci a).2.1 ≠ (T_Ci b).2.1 := by decide +kernel
theorem ty_Ci : ∀ k, k < 10 → parseFieldDescriptor (T_Ci k).2.2.1 = some (t_Ci k) := by decide +kernel
def R_Ne : String := "EventWaves$Net"
def T_Ne : u_T := fun k => match k with
  | 0 => ("EventWaves$Net", "hand", "I", false)
  | 1 => ("EventWaves$Net", "forced", "I", false)
  | 2 => ("EventWaves$Net", "shown", "I", false)
  | 3 => ("EventWaves$Net", "changes", "J", false)
  | 4 => ("EventWaves$Net", "changedAt", "J", false)
  | _ => ("EventWaves$Net", "roseAt", "J", false)
def t_Ne : Nat → FieldType := fun k => match k with
  | 0 => .int
  | 1 => .int
  | 2 => .int
  | 3 => .long
  | 4 => .long
  | _ => .long
theorem nm_Ne : ∀ a, a < 6 → ∀ b, b < 6 → a ≠ b → (T_Ne a).2.1 ≠ (T_Ne b).2.1 := by decide +kernel
theorem ty_Ne : ∀ k, k < 6 → parseFieldDescriptor (T_Ne k).2.2.1 = some (t_Ne k) := by decide +kernel
def R_Ga : String := "EventWaves$Gate"
def T_Ga : u_T := fun k => match k with
  | 0 => ("EventWaves$Gate", "kind", "I", false)
  | 1 => ("EventWaves$Gate", "a", "I", false)
  | 2 => ("EventWaves$Gate", "b", "I", false)
  | 3 => ("EventWaves$Gate", "out", "I", false)
  | 4 => ("EventWaves$Gate", "rise", "I", false)
  | 5 => ("EventWaves$Gate", "fall", "I", false)
  | 6 => ("EventWaves$Gate", "has", "I", false)
  | 7 => ("EventWaves$Gate", "waiting", "I", false)
  | 8 => ("EventWaves$Gate", "due", "J", false)
  | 9 => ("EventWaves$Gate", "behind", "I", false)
  | _ => ("EventWaves$Gate", "behindDue", "J", false)
def t_Ga : Nat → FieldType := fun k => match k with
  | 0 => .int
  | 1 => .int
  | 2 => .int
  | 3 => .int
  | 4 => .int
  | 5 => .int
  | 6 => .int
  | 7 => .int
  | 8 => .long
  | 9 => .int
  | _ => .long
theorem nm_Ga : ∀ a, a < 11 → ∀ b, b < 11 → a ≠ b → (T_Ga a).2.1 ≠ (T_Ga b).2.1 := by decide +kernel
theorem ty_Ga : ∀ k, k < 11 → parseFieldDescriptor (T_Ga k).2.2.1 = some (t_Ga k) := by decide +kernel
def R_Ch : String := "EventWaves$Check"
def T_Ch : u_T := fun k => match k with
  | 0 => ("EventWaves$Check", "kind", "I", false)
  | 1 => ("EventWaves$Check", "clock", "I", false)
  | 2 => ("EventWaves$Check", "data", "I", false)
  | 3 => ("EventWaves$Check", "limit", "I", false)
  | _ => ("EventWaves$Check", "breaks", "I", false)
def t_Ch : Nat → FieldType := fun k => match k with
  | 0 => .int
  | 1 => .int
  | 2 => .int
  | 3 => .int
  | _ => .int
theorem nm_Ch : ∀ a, a < 5 → ∀ b, b < 5 → a ≠ b → (T_Ch a).2.1 ≠ (T_Ch b).2.1 := by decide +kernel
theorem ty_Ch : ∀ k, k < 5 → parseFieldDescriptor (T_Ch k).2.2.1 = some (t_Ch k) := by decide +kernel
def R_Ha : String := "EventWaves$Hands"
def T_Ha : u_T := fun k => match k with
  | 0 => ("EventWaves$Hands", "count", "I", false)
  | 1 => ("EventWaves$Hands", "acts", "[I", true)
  | 2 => ("EventWaves$Hands", "nets", "[I", true)
  | 3 => ("EventWaves$Hands", "times", "[J", true)
  | _ => ("EventWaves$Hands", "values", "[I", true)
def t_Ha : Nat → FieldType := fun k => match k with
  | 0 => .int
  | 1 => .array .int
  | 2 => .array .int
  | 3 => .array .long
  | _ => .array .int
theorem nm_Ha : ∀ a, a < 5 → ∀ b, b < 5 → a ≠ b → (T_Ha a).2.1 ≠ (T_Ha b).2.1 := by decide +kernel
theorem ty_Ha : ∀ k, k < 5 → parseFieldDescriptor (T_Ha k).2.2.1 = some (t_Ha k) := by decide +kernel
def R_Wa : String := "EventWaves$Waves"
def T_Wa : u_T := fun k => match k with
  | 0 => ("EventWaves$Waves", "count", "I", false)
  | 1 => ("EventWaves$Waves", "times", "[I", true)
  | 2 => ("EventWaves$Waves", "nets", "[I", true)
  | _ => ("EventWaves$Waves", "values", "[I", true)
def t_Wa : Nat → FieldType := fun k => match k with
  | 0 => .int
  | 1 => .array .int
  | 2 => .array .int
  | _ => .array .int
theorem nm_Wa : ∀ a, a < 4 → ∀ b, b < 4 → a ≠ b → (T_Wa a).2.1 ≠ (T_Wa b).2.1 := by decide +kernel
theorem ty_Wa : ∀ k, k < 4 → parseFieldDescriptor (T_Wa k).2.2.1 = some (t_Wa k) := by decide +kernel
def R_Ta : String := "EventWaves$Tape"
def T_Ta : u_T := fun k => match k with
  | 0 => ("EventWaves$Tape", "length", "I", false)
  | _ => ("EventWaves$Tape", "bytes", "[I", true)
def t_Ta : Nat → FieldType := fun k => match k with
  | 0 => .int
  | _ => .array .int
theorem nm_Ta : ∀ a, a < 2 → ∀ b, b < 2 → a ≠ b → (T_Ta a).2.1 ≠ (T_Ta b).2.1 := by decide +kernel
theorem ty_Ta : ∀ k, k < 2 → parseFieldDescriptor (T_Ta k).2.2.1 = some (t_Ta k) := by decide +kernel
def R_Tr : String := "EventWaves$TapeReader"
def T_Tr : u_T := fun k => match k with
  | 0 => ("EventWaves$TapeReader", "tape", "LEventWaves$Tape;", true)
  | 1 => ("EventWaves$TapeReader", "circuit", "LEventWaves$Circuit;", true)
  | 2 => ("EventWaves$TapeReader", "told", "J", false)
  | _ => ("EventWaves$TapeReader", "found", "I", false)
def t_Tr : Nat → FieldType := fun k => match k with
  | 0 => .object "EventWaves$Tape"
  | 1 => .object "EventWaves$Circuit"
  | 2 => .long
  | _ => .int
theorem nm_Tr : ∀ a, a < 4 → ∀ b, b < 4 → a ≠ b → (T_Tr a).2.1 ≠ (T_Tr b).2.1 := by decide +kernel
theorem ty_Tr : ∀ k, k < 4 → parseFieldDescriptor (T_Tr k).2.2.1 = some (t_Tr k) := by decide +kernel
def R_Mo : String := "EventWavesModel"
def T_Mo : u_T := fun k => match k with
  | 0 => ("EventWavesModel", "thrown", "I", false)
  | 1 => ("EventWavesModel", "s", "[I", true)
  | 2 => ("EventWavesModel", "saved", "[I", true)
  | 3 => ("EventWavesModel", "saves", "I", false)
  | 4 => ("EventWavesModel", "tape", "[I", true)
  | 5 => ("EventWavesModel", "tapeSize", "I", false)
  | 6 => ("EventWavesModel", "readTimes", "[I", true)
  | 7 => ("EventWavesModel", "readNets", "[I", true)
  | _ => ("EventWavesModel", "readValues", "[I", true)
def t_Mo : Nat → FieldType := fun k => match k with
  | 0 => .int
  | 1 => .array .int
  | 2 => .array .int
  | 3 => .int
  | 4 => .array .int
  | 5 => .int
  | 6 => .array .int
  | 7 => .array .int
  | _ => .array .int
theorem nm_Mo : ∀ a, a < 9 → ∀ b, b < 9 → a ≠ b → (T_Mo a).2.1 ≠ (T_Mo b).2.1 := by decide +kernel
theorem ty_Mo : ∀ k, k < 9 → parseFieldDescriptor (T_Mo k).2.2.1 = some (t_Mo k) := by decide +kernel
abbrev vwCl : List vw_C := [(R_EW, T_EW, 4), (R_Ci, T_Ci, 10), (R_Ne, T_Ne, 6), (R_Ga, T_Ga, 11), (R_Ch, T_Ch, 5), (R_Ha, T_Ha, 5), (R_Wa, T_Wa, 4), (R_Ta, T_Ta, 2), (R_Tr, T_Tr, 4), (R_Mo, T_Mo, 9)]
def R_La : String := "EventWavesLaw"
abbrev c_EW_init : ByteArray := prog_1_method_1_code
def y_EW_init : MethodName := ⟨R_EW, "<init>", "()V"⟩
abbrev c_EW_net : ByteArray := prog_1_method_2_code
def y_EW_net : MethodName := ⟨R_EW, "net", "()I"⟩
abbrev c_EW_gate : ByteArray := prog_1_method_3_code
def y_EW_gate : MethodName := ⟨R_EW, "gate", "(IIII)I"⟩
abbrev c_EW_delay : ByteArray := prog_1_method_4_code
def y_EW_delay : MethodName := ⟨R_EW, "delay", "(III)Z"⟩
abbrev c_EW_spike : ByteArray := prog_1_method_5_code
def y_EW_spike : MethodName := ⟨R_EW, "spike", "(I)Z"⟩
abbrev c_EW_drive : ByteArray := prog_1_method_6_code
def y_EW_drive : MethodName := ⟨R_EW, "drive", "(IJI)I"⟩
abbrev c_EW_force : ByteArray := prog_1_method_7_code
def y_EW_force : MethodName := ⟨R_EW, "force", "(IJI)I"⟩
abbrev c_EW_release : ByteArray := prog_1_method_8_code
def y_EW_release : MethodName := ⟨R_EW, "release", "(IJ)I"⟩
abbrev c_EW_check : ByteArray := prog_1_method_9_code
def y_EW_check : MethodName := ⟨R_EW, "check", "(IIII)I"⟩
abbrev c_EW_broken : ByteArray := prog_1_method_10_code
def y_EW_broken : MethodName := ⟨R_EW, "broken", "(I)I"⟩
abbrev c_EW_run : ByteArray := prog_1_method_11_code
def y_EW_run : MethodName := ⟨R_EW, "run", "(J)J"⟩
abbrev c_EW_now : ByteArray := prog_1_method_12_code
def y_EW_now : MethodName := ⟨R_EW, "now", "()J"⟩
abbrev c_EW_at : ByteArray := prog_1_method_13_code
def y_EW_at : MethodName := ⟨R_EW, "at", "(IJ)I"⟩
abbrev c_EW_value : ByteArray := prog_1_method_14_code
def y_EW_value : MethodName := ⟨R_EW, "value", "(I)I"⟩
abbrev c_EW_change : ByteArray := prog_1_method_15_code
def y_EW_change : MethodName := ⟨R_EW, "change", "(II)I"⟩
abbrev c_EW_counted : ByteArray := prog_1_method_16_code
def y_EW_counted : MethodName := ⟨R_EW, "counted", "(I)J"⟩
abbrev c_EW_unit : ByteArray := prog_1_method_17_code
def y_EW_unit : MethodName := ⟨R_EW, "unit", "(I)Z"⟩
abbrev c_EW_read : ByteArray := prog_1_method_18_code
def y_EW_read : MethodName := ⟨R_EW, "read", "()I"⟩
abbrev c_EW_write : ByteArray := prog_1_method_19_code
def y_EW_write : MethodName := ⟨R_EW, "write", "(I)I"⟩
abbrev c_EW_levels : ByteArray := prog_1_method_20_code
def y_EW_levels : MethodName := ⟨R_EW, "levels", "()I"⟩
abbrev c_EW_save : ByteArray := prog_1_method_21_code
def y_EW_save : MethodName := ⟨R_EW, "save", "()I"⟩
abbrev c_EW_back : ByteArray := prog_1_method_22_code
def y_EW_back : MethodName := ⟨R_EW, "back", "(I)Z"⟩
abbrev c_EW_tell : ByteArray := prog_1_method_23_code
def y_EW_tell : MethodName := ⟨R_EW, "tell", "(IIJI)I"⟩
abbrev c_EW_requireNet : ByteArray := prog_1_method_24_code
def y_EW_requireNet : MethodName := ⟨R_EW, "requireNet", "(I)V"⟩
abbrev c_EW_isLength : ByteArray := prog_1_method_25_code
def y_EW_isLength : MethodName := ⟨R_EW, "isLength", "(I)Z"⟩
abbrev c_Mo_init : ByteArray := prog_11_method_1_code
def y_Mo_init : MethodName := ⟨R_Mo, "<init>", "()V"⟩
abbrev c_Mo_thrown : ByteArray := prog_11_method_2_code
def y_Mo_thrown : MethodName := ⟨R_Mo, "thrown", "()I"⟩
abbrev c_Mo_ofNet : ByteArray := prog_11_method_3_code
def y_Mo_ofNet : MethodName := ⟨R_Mo, "ofNet", "(II)I"⟩
abbrev c_Mo_ofGate : ByteArray := prog_11_method_4_code
def y_Mo_ofGate : MethodName := ⟨R_Mo, "ofGate", "(II)I"⟩
abbrev c_Mo_setGate : ByteArray := prog_11_method_5_code
def y_Mo_setGate : MethodName := ⟨R_Mo, "setGate", "(III)V"⟩
abbrev c_Mo_setNet : ByteArray := prog_11_method_6_code
def y_Mo_setNet : MethodName := ⟨R_Mo, "setNet", "(III)V"⟩
abbrev c_Mo_seen : ByteArray := prog_11_method_7_code
def y_Mo_seen : MethodName := ⟨R_Mo, "seen", "(I)I"⟩
abbrev c_Mo_gives : ByteArray := prog_11_method_8_code
def y_Mo_gives : MethodName := ⟨R_Mo, "gives", "(I)I"⟩
abbrev c_Mo_delayTo : ByteArray := prog_11_method_9_code
def y_Mo_delayTo : MethodName := ⟨R_Mo, "delayTo", "(II)I"⟩
abbrev c_Mo_ask : ByteArray := prog_11_method_10_code
def y_Mo_ask : MethodName := ⟨R_Mo, "ask", "(II)V"⟩
abbrev c_Mo_driven : ByteArray := prog_11_method_11_code
def y_Mo_driven : MethodName := ⟨R_Mo, "driven", "(I)I"⟩
abbrev c_Mo_settle : ByteArray := prog_11_method_12_code
def y_Mo_settle : MethodName := ⟨R_Mo, "settle", "(I)V"⟩
abbrev c_Mo_near : ByteArray := prog_11_method_13_code
def y_Mo_near : MethodName := ⟨R_Mo, "near", "(II)Z"⟩
abbrev c_Mo_spoil : ByteArray := prog_11_method_14_code
def y_Mo_spoil : MethodName := ⟨R_Mo, "spoil", "(II)V"⟩
abbrev c_Mo_net : ByteArray := prog_11_method_15_code
def y_Mo_net : MethodName := ⟨R_Mo, "net", "()I"⟩
abbrev c_Mo_isNet : ByteArray := prog_11_method_16_code
def y_Mo_isNet : MethodName := ⟨R_Mo, "isNet", "(I)Z"⟩
abbrev c_Mo_isGate : ByteArray := prog_11_method_17_code
def y_Mo_isGate : MethodName := ⟨R_Mo, "isGate", "(I)Z"⟩
abbrev c_Mo_gate : ByteArray := prog_11_method_18_code
def y_Mo_gate : MethodName := ⟨R_Mo, "gate", "(IIII)I"⟩
abbrev c_Mo_delay : ByteArray := prog_11_method_19_code
def y_Mo_delay : MethodName := ⟨R_Mo, "delay", "(III)Z"⟩
abbrev c_Mo_spike : ByteArray := prog_11_method_20_code
def y_Mo_spike : MethodName := ⟨R_Mo, "spike", "(I)Z"⟩
abbrev c_Mo_tell : ByteArray := prog_11_method_21_code
def y_Mo_tell : MethodName := ⟨R_Mo, "tell", "(IIII)V"⟩
abbrev c_Mo_hand : ByteArray := prog_11_method_22_code
def y_Mo_hand : MethodName := ⟨R_Mo, "hand", "(IJII)I"⟩
abbrev c_Mo_drive : ByteArray := prog_11_method_23_code
def y_Mo_drive : MethodName := ⟨R_Mo, "drive", "(IJI)I"⟩
abbrev c_Mo_force : ByteArray := prog_11_method_24_code
def y_Mo_force : MethodName := ⟨R_Mo, "force", "(IJI)I"⟩
abbrev c_Mo_release : ByteArray := prog_11_method_25_code
def y_Mo_release : MethodName := ⟨R_Mo, "release", "(IJ)I"⟩
abbrev c_Mo_check : ByteArray := prog_11_method_26_code
def y_Mo_check : MethodName := ⟨R_Mo, "check", "(IIII)I"⟩
abbrev c_Mo_broken : ByteArray := prog_11_method_27_code
def y_Mo_broken : MethodName := ⟨R_Mo, "broken", "(I)I"⟩
abbrev c_Mo_nextHand : ByteArray := prog_11_method_28_code
def y_Mo_nextHand : MethodName := ⟨R_Mo, "nextHand", "()I"⟩
abbrev c_Mo_nextGate : ByteArray := prog_11_method_29_code
def y_Mo_nextGate : MethodName := ⟨R_Mo, "nextGate", "()I"⟩
abbrev c_Mo_comeHand : ByteArray := prog_11_method_30_code
def y_Mo_comeHand : MethodName := ⟨R_Mo, "comeHand", "(I)V"⟩
abbrev c_Mo_comeGate : ByteArray := prog_11_method_31_code
def y_Mo_comeGate : MethodName := ⟨R_Mo, "comeGate", "(I)V"⟩
abbrev c_Mo_run : ByteArray := prog_11_method_32_code
def y_Mo_run : MethodName := ⟨R_Mo, "run", "(J)J"⟩
abbrev c_Mo_now : ByteArray := prog_11_method_33_code
def y_Mo_now : MethodName := ⟨R_Mo, "now", "()J"⟩
abbrev c_Mo_at : ByteArray := prog_11_method_34_code
def y_Mo_at : MethodName := ⟨R_Mo, "at", "(IJ)I"⟩
abbrev c_Mo_value : ByteArray := prog_11_method_35_code
def y_Mo_value : MethodName := ⟨R_Mo, "value", "(I)I"⟩
abbrev c_Mo_change : ByteArray := prog_11_method_36_code
def y_Mo_change : MethodName := ⟨R_Mo, "change", "(II)I"⟩
abbrev c_Mo_counted : ByteArray := prog_11_method_37_code
def y_Mo_counted : MethodName := ⟨R_Mo, "counted", "(I)J"⟩
abbrev c_Mo_levels : ByteArray := prog_11_method_38_code
def y_Mo_levels : MethodName := ⟨R_Mo, "levels", "()I"⟩
abbrev c_Mo_unit : ByteArray := prog_11_method_39_code
def y_Mo_unit : MethodName := ⟨R_Mo, "unit", "(I)Z"⟩
abbrev c_Mo_byteAt : ByteArray := prog_11_method_40_code
def y_Mo_byteAt : MethodName := ⟨R_Mo, "byteAt", "(I)I"⟩
abbrev c_Mo_isDigit : ByteArray := prog_11_method_41_code
def y_Mo_isDigit : MethodName := ⟨R_Mo, "isDigit", "(I)Z"⟩
abbrev c_Mo_valueOf : ByteArray := prog_11_method_42_code
def y_Mo_valueOf : MethodName := ⟨R_Mo, "valueOf", "(I)I"⟩
abbrev c_Mo_read : ByteArray := prog_11_method_43_code
def y_Mo_read : MethodName := ⟨R_Mo, "read", "()I"⟩
abbrev c_Mo_write : ByteArray := prog_11_method_44_code
def y_Mo_write : MethodName := ⟨R_Mo, "write", "(I)I"⟩
abbrev c_Mo_save : ByteArray := prog_11_method_45_code
def y_Mo_save : MethodName := ⟨R_Mo, "save", "()I"⟩
abbrev c_Mo_back : ByteArray := prog_11_method_46_code
def y_Mo_back : MethodName := ⟨R_Mo, "back", "(I)Z"⟩
abbrev c_Ch_init : ByteArray := prog_2_method_1_code
def y_Ch_init : MethodName := ⟨R_Ch, "<init>", "()V"⟩
abbrev c_Ch_begin : ByteArray := prog_2_method_2_code
def y_Ch_begin : MethodName := ⟨R_Ch, "begin", "(IIII)V"⟩
abbrev c_Ch_copyFrom : ByteArray := prog_2_method_3_code
def y_Ch_copyFrom : MethodName := ⟨R_Ch, "copyFrom", "(LEventWaves$Check;)V"⟩
abbrev c_Ch_isWithin : ByteArray := prog_2_method_4_code
def y_Ch_isWithin : MethodName := ⟨R_Ch, "isWithin", "(JJ)Z"⟩
abbrev c_Ci_init : ByteArray := prog_3_method_1_code
def y_Ci_init : MethodName := ⟨R_Ci, "<init>", "()V"⟩
abbrev c_Ci_copyFrom : ByteArray := prog_3_method_2_code
def y_Ci_copyFrom : MethodName := ⟨R_Ci, "copyFrom", "(LEventWaves$Circuit;)V"⟩
abbrev c_Ci_hasNet : ByteArray := prog_3_method_3_code
def y_Ci_hasNet : MethodName := ⟨R_Ci, "hasNet", "(I)Z"⟩
abbrev c_Ci_isToCome : ByteArray := prog_3_method_4_code
def y_Ci_isToCome : MethodName := ⟨R_Ci, "isToCome", "(J)Z"⟩
abbrev c_Ci_addNet : ByteArray := prog_3_method_5_code
def y_Ci_addNet : MethodName := ⟨R_Ci, "addNet", "()I"⟩
abbrev c_Ci_addGate : ByteArray := prog_3_method_6_code
def y_Ci_addGate : MethodName := ⟨R_Ci, "addGate", "(IIII)I"⟩
abbrev c_Ci_addCheck : ByteArray := prog_3_method_7_code
def y_Ci_addCheck : MethodName := ⟨R_Ci, "addCheck", "(IIII)I"⟩
abbrev c_Ci_unsettled : ByteArray := prog_3_method_8_code
def y_Ci_unsettled : MethodName := ⟨R_Ci, "unsettled", "()I"⟩
abbrev c_Ci_advance : ByteArray := prog_3_method_9_code
def y_Ci_advance : MethodName := ⟨R_Ci, "advance", "(J)J"⟩
abbrev c_Ci_firstGate : ByteArray := prog_3_method_10_code
def y_Ci_firstGate : MethodName := ⟨R_Ci, "firstGate", "()I"⟩
abbrev c_Ci_isBefore : ByteArray := prog_3_method_11_code
def y_Ci_isBefore : MethodName := ⟨R_Ci, "isBefore", "(LEventWaves$Gate;LEventWaves$Gate;)Z"⟩
abbrev c_Ci_isHandFirst : ByteArray := prog_3_method_12_code
def y_Ci_isHandFirst : MethodName := ⟨R_Ci, "isHandFirst", "(II)Z"⟩
abbrev c_Ci_takeHand : ByteArray := prog_3_method_13_code
def y_Ci_takeHand : MethodName := ⟨R_Ci, "takeHand", "(I)I"⟩
abbrev c_Ci_refresh : ByteArray := prog_3_method_14_code
def y_Ci_refresh : MethodName := ⟨R_Ci, "refresh", "(I)V"⟩
abbrev c_Ci_driven : ByteArray := prog_3_method_15_code
def y_Ci_driven : MethodName := ⟨R_Ci, "driven", "(I)I"⟩
abbrev c_Ci_given : ByteArray := prog_3_method_16_code
def y_Ci_given : MethodName := ⟨R_Ci, "given", "(LEventWaves$Gate;)I"⟩
abbrev c_Ci_tryChecks : ByteArray := prog_3_method_17_code
def y_Ci_tryChecks : MethodName := ⟨R_Ci, "tryChecks", "(IZ)V"⟩
abbrev c_Ci_breaks : ByteArray := prog_3_method_18_code
def y_Ci_breaks : MethodName := ⟨R_Ci, "breaks", "(LEventWaves$Check;IZ)Z"⟩
abbrev c_Ci_blurRegisters : ByteArray := prog_3_method_19_code
def y_Ci_blurRegisters : MethodName := ⟨R_Ci, "blurRegisters", "(LEventWaves$Check;)V"⟩
abbrev c_Ga_init : ByteArray := prog_4_method_1_code
def y_Ga_init : MethodName := ⟨R_Ga, "<init>", "()V"⟩
abbrev c_Ga_begin : ByteArray := prog_4_method_2_code
def y_Ga_begin : MethodName := ⟨R_Ga, "begin", "(IIII)V"⟩
abbrev c_Ga_copyFrom : ByteArray := prog_4_method_3_code
def y_Ga_copyFrom : MethodName := ⟨R_Ga, "copyFrom", "(LEventWaves$Gate;)V"⟩
abbrev c_Ga_takeDelays : ByteArray := prog_4_method_4_code
def y_Ga_takeDelays : MethodName := ⟨R_Ga, "takeDelays", "(II)Z"⟩
abbrev c_Ga_hears : ByteArray := prog_4_method_5_code
def y_Ga_hears : MethodName := ⟨R_Ga, "hears", "(IZ)Z"⟩
abbrev c_Ga_gives : ByteArray := prog_4_method_6_code
def y_Ga_gives : MethodName := ⟨R_Ga, "gives", "(II)I"⟩
abbrev c_Ga_delayTo : ByteArray := prog_4_method_7_code
def y_Ga_delayTo : MethodName := ⟨R_Ga, "delayTo", "(I)I"⟩
abbrev c_Ga_ask : ByteArray := prog_4_method_8_code
def y_Ga_ask : MethodName := ⟨R_Ga, "ask", "(IJI)V"⟩
abbrev c_Ga_takeWaiting : ByteArray := prog_4_method_9_code
def y_Ga_takeWaiting : MethodName := ⟨R_Ga, "takeWaiting", "()V"⟩
abbrev c_Ha_init : ByteArray := prog_5_method_1_code
def y_Ha_init : MethodName := ⟨R_Ha, "<init>", "()V"⟩
abbrev c_Ha_copyFrom : ByteArray := prog_5_method_2_code
def y_Ha_copyFrom : MethodName := ⟨R_Ha, "copyFrom", "(LEventWaves$Hands;)V"⟩
abbrev c_Ha_append : ByteArray := prog_5_method_3_code
def y_Ha_append : MethodName := ⟨R_Ha, "append", "(IIJI)V"⟩
abbrev c_Ha_first : ByteArray := prog_5_method_4_code
def y_Ha_first : MethodName := ⟨R_Ha, "first", "()I"⟩
abbrev c_Ha_drop : ByteArray := prog_5_method_5_code
def y_Ha_drop : MethodName := ⟨R_Ha, "drop", "(I)V"⟩
abbrev c_Ne_init : ByteArray := prog_6_method_1_code
def y_Ne_init : MethodName := ⟨R_Ne, "<init>", "()V"⟩
abbrev c_Ne_begin : ByteArray := prog_6_method_2_code
def y_Ne_begin : MethodName := ⟨R_Ne, "begin", "()V"⟩
abbrev c_Ne_copyFrom : ByteArray := prog_6_method_3_code
def y_Ne_copyFrom : MethodName := ⟨R_Ne, "copyFrom", "(LEventWaves$Net;)V"⟩
abbrev c_Ta_init : ByteArray := prog_7_method_1_code
def y_Ta_init : MethodName := ⟨R_Ta, "<init>", "()V"⟩
abbrev c_Ta_append : ByteArray := prog_7_method_2_code
def y_Ta_append : MethodName := ⟨R_Ta, "append", "(I)Z"⟩
abbrev c_Ta_byteOrNone : ByteArray := prog_7_method_3_code
def y_Ta_byteOrNone : MethodName := ⟨R_Ta, "byteOrNone", "(I)I"⟩
abbrev c_Ta_skipBlanks : ByteArray := prog_7_method_4_code
def y_Ta_skipBlanks : MethodName := ⟨R_Ta, "skipBlanks", "(I)I"⟩
abbrev c_Ta_skipDigits : ByteArray := prog_7_method_5_code
def y_Ta_skipDigits : MethodName := ⟨R_Ta, "skipDigits", "(I)I"⟩
abbrev c_Ta_isBlank : ByteArray := prog_7_method_6_code
def y_Ta_isBlank : MethodName := ⟨R_Ta, "isBlank", "(I)Z"⟩
abbrev c_Ta_isDigit : ByteArray := prog_7_method_7_code
def y_Ta_isDigit : MethodName := ⟨R_Ta, "isDigit", "(I)Z"⟩
abbrev c_Tr_init : ByteArray := prog_8_method_1_code
def y_Tr_init : MethodName := ⟨R_Tr, "<init>", "(LEventWaves$Tape;LEventWaves$Circuit;)V"⟩
abbrev c_Tr_pass : ByteArray := prog_8_method_2_code
def y_Tr_pass : MethodName := ⟨R_Tr, "pass", "(Z)I"⟩
abbrev c_Tr_takeTime : ByteArray := prog_8_method_3_code
def y_Tr_takeTime : MethodName := ⟨R_Tr, "takeTime", "(I)I"⟩
abbrev c_Tr_takeLine : ByteArray := prog_8_method_4_code
def y_Tr_takeLine : MethodName := ⟨R_Tr, "takeLine", "(IZ)I"⟩
abbrev c_Tr_valueOf : ByteArray := prog_8_method_5_code
def y_Tr_valueOf : MethodName := ⟨R_Tr, "valueOf", "(I)I"⟩
abbrev c_Wa_init : ByteArray := prog_9_method_1_code
def y_Wa_init : MethodName := ⟨R_Wa, "<init>", "()V"⟩
abbrev c_Wa_copyFrom : ByteArray := prog_9_method_2_code
def y_Wa_copyFrom : MethodName := ⟨R_Wa, "copyFrom", "(LEventWaves$Waves;)V"⟩
abbrev c_Wa_keep : ByteArray := prog_9_method_3_code
def y_Wa_keep : MethodName := ⟨R_Wa, "keep", "(JII)V"⟩
abbrev c_Wa_latest : ByteArray := prog_9_method_4_code
def y_Wa_latest : MethodName := ⟨R_Wa, "latest", "(IJ)I"⟩
abbrev c_Wa_byteOfText : ByteArray := prog_9_method_5_code
def y_Wa_byteOfText : MethodName := ⟨R_Wa, "byteOfText", "(I)I"⟩
abbrev c_Wa_digitsOf : ByteArray := prog_9_method_6_code
def y_Wa_digitsOf : MethodName := ⟨R_Wa, "digitsOf", "(I)I"⟩
abbrev c_Wa_headByte : ByteArray := prog_9_method_7_code
def y_Wa_headByte : MethodName := ⟨R_Wa, "headByte", "(III)I"⟩
abbrev c_Wa_lineByte : ByteArray := prog_9_method_8_code
def y_Wa_lineByte : MethodName := ⟨R_Wa, "lineByte", "(II)I"⟩
abbrev c_La_net : ByteArray := method_3_code
def y_La_net : MethodName := ⟨R_La, "net", "(LEventWaves;[J)I"⟩
abbrev c_La_gate : ByteArray := method_4_code
def y_La_gate : MethodName := ⟨R_La, "gate", "(LEventWaves;IIII[J)I"⟩
abbrev c_La_delay : ByteArray := method_5_code
def y_La_delay : MethodName := ⟨R_La, "delay", "(LEventWaves;III[J)I"⟩
abbrev c_La_spike : ByteArray := method_6_code
def y_La_spike : MethodName := ⟨R_La, "spike", "(LEventWaves;I[J)I"⟩
abbrev c_La_drive : ByteArray := method_7_code
def y_La_drive : MethodName := ⟨R_La, "drive", "(LEventWaves;IJI[J)I"⟩
abbrev c_La_force : ByteArray := method_8_code
def y_La_force : MethodName := ⟨R_La, "force", "(LEventWaves;IJI[J)I"⟩
abbrev c_La_release : ByteArray := method_9_code
def y_La_release : MethodName := ⟨R_La, "release", "(LEventWaves;IJ[J)I"⟩
abbrev c_La_check : ByteArray := method_10_code
def y_La_check : MethodName := ⟨R_La, "check", "(LEventWaves;IIII[J)I"⟩
abbrev c_La_broken : ByteArray := method_11_code
def y_La_broken : MethodName := ⟨R_La, "broken", "(LEventWaves;I[J)I"⟩
abbrev c_La_run : ByteArray := method_12_code
def y_La_run : MethodName := ⟨R_La, "run", "(LEventWaves;J[J)I"⟩
abbrev c_La_at : ByteArray := method_13_code
def y_La_at : MethodName := ⟨R_La, "at", "(LEventWaves;IJ[J)I"⟩
abbrev c_La_value : ByteArray := method_14_code
def y_La_value : MethodName := ⟨R_La, "value", "(LEventWaves;I[J)I"⟩
abbrev c_La_change : ByteArray := method_15_code
def y_La_change : MethodName := ⟨R_La, "change", "(LEventWaves;II[J)I"⟩
abbrev c_La_counted : ByteArray := method_16_code
def y_La_counted : MethodName := ⟨R_La, "counted", "(LEventWaves;I[J)I"⟩
abbrev c_La_read : ByteArray := method_17_code
def y_La_read : MethodName := ⟨R_La, "read", "(LEventWaves;[J)I"⟩
abbrev c_La_write : ByteArray := method_18_code
def y_La_write : MethodName := ⟨R_La, "write", "(LEventWaves;I[J)I"⟩
abbrev c_La_save : ByteArray := method_19_code
def y_La_save : MethodName := ⟨R_La, "save", "(LEventWaves;[J)I"⟩
abbrev c_La_law : ByteArray := code
def y_La_law : MethodName := ⟨R_La, "law", "([I)Z"⟩
theorem dc_of {c : ByteArray} {t : List (Nat × Instr × Nat)} (h : t.all (fun x => decide (decode c x.1 = .ok x.2)) = true) {i : Nat} {x : Nat × Instr × Nat} (hx : t[i]? = some x) : decode c x.1 = .ok x.2 := of_decide_eq_true (List.all_eq_true.mp h x (List.mem_of_getElem? hx))
end
section
def t0_Ch_init : List (Nat × Instr × Nat) := [(0, .aload_n 0, 1), (1, .invokespecial 3, 3), (4, .return_, 1)]
theorem t0_Ch_init_ok : t0_Ch_init.all (fun x => decide (decode c_Ch_init x.1 = .ok x.2)) = true := by decide +kernel
theorem d_Ch_init_0 : decode c_Ch_init 0 = .ok (.aload_n 0, 1) := dc_of (x := (0, .aload_n 0, 1)) t0_Ch_init_ok (i := 0) rfl
theorem d_Ch_init_1 : decode c_Ch_init 1 = .ok (.invokespecial 3, 3) := dc_of (x := (1, .invokespecial 3, 3)) t0_Ch_init_ok (i := 1) rfl
theorem d_Ch_init_4 : decode c_Ch_init 4 = .ok (.return_, 1) := dc_of (x := (4, .return_, 1)) t0_Ch_init_ok (i := 2) rfl
def t0_Ch_begin : List (Nat × Instr × Nat) := [(0, .aload_n 0, 1), (1, .iload_n 1, 1), (2, .putfield 9, 3), (5, .aload_n 0, 1), (6, .iload_n 2, 1), (7, .putfield 15, 3), (10, .aload_n 0, 1), (11, .iload_n 3, 1), (12, .putfield 18, 3), (15, .aload_n 0, 1), (16, .iload 4, 2), (18, .putfield 21, 3), (21, .aload_n 0, 1), (22, .iconst 0, 1), (23, .putfield 24, 3), (26, .return_, 1)]
theorem t0_Ch_begin_ok : t0_Ch_begin.all (fun x => decide (decode c_Ch_begin x.1 = .ok x.2)) = true := by decide +kernel
theorem d_Ch_begin_0 : decode c_Ch_begin 0 = .ok (.aload_n 0, 1) := dc_of (x := (0, .aload_n 0, 1)) t0_Ch_begin_ok (i := 0) rfl
theorem d_Ch_begin_1 : decode c_Ch_begin 1 = .ok (.iload_n 1, 1) := dc_of (x := (1, .iload_n 1, 1)) t0_Ch_begin_ok (i := 1) rfl
theorem d_Ch_begin_2 : decode c_Ch_begin 2 = .ok (.putfield 9, 3) := dc_of (x := (2, .putfield 9, 3)) t0_Ch_begin_ok (i := 2) rfl
theorem d_Ch_begin_5 : decode c_Ch_begin 5 = .ok (.aload_n 0, 1) := dc_of (x := (5, .aload_n 0, 1)) t0_Ch_begin_ok (i := 3) rfl
theorem d_Ch_begin_6 : decode c_Ch_begin 6 = .ok (.iload_n 2, 1) := dc_of (x := (6, .iload_n 2, 1)) t0_Ch_begin_ok (i := 4) rfl
theorem d_Ch_begin_7 : decode c_Ch_begin 7 = .ok (.putfield 15, 3) := dc_of (x := (7, .putfield 15, 3)) t0_Ch_begin_ok (i := 5) rfl
theorem d_Ch_begin_10 : decode c_Ch_begin 10 = .ok (.aload_n 0, 1) := dc_of (x := (10, .aload_n 0, 1)) t0_Ch_begin_ok (i := 6) rfl
theorem d_Ch_begin_11 : decode c_Ch_begin 11 = .ok (.iload_n 3, 1) := dc_of (x := (11, .iload_n 3, 1)) t0_Ch_begin_ok (i := 7) rfl
theorem d_Ch_begin_12 : decode c_Ch_begin 12 = .ok (.putfield 18, 3) := dc_of (x := (12, .putfield 18, 3)) t0_Ch_begin_ok (i := 8) rfl
theorem d_Ch_begin_15 : decode c_Ch_begin 15 = .ok (.aload_n 0, 1) := dc_of (x := (15, .aload_n 0, 1)) t0_Ch_begin_ok (i := 9) rfl
theorem d_Ch_begin_16 : decode c_Ch_begin 16 = .ok (.iload 4, 2) := dc_of (x := (16, .iload 4, 2)) t0_Ch_begin_ok (i := 10) rfl
theorem d_Ch_begin_18 : decode c_Ch_begin 18 = .ok (.putfield 21, 3) := dc_of (x := (18, .putfield 21, 3)) t0_Ch_begin_ok (i := 11) rfl
theorem d_Ch_begin_21 : decode c_Ch_begin 21 = .ok (.aload_n 0, 1) := dc_of (x := (21, .aload_n 0, 1)) t0_Ch_begin_ok (i := 12) rfl
theorem d_Ch_begin_22 : decode c_Ch_begin 22 = .ok (.iconst 0, 1) := dc_of (x := (22, .iconst 0, 1)) t0_Ch_begin_ok (i := 13) rfl
theorem d_Ch_begin_23 : decode c_Ch_begin 23 = .ok (.putfield 24, 3) := dc_of (x := (23, .putfield 24, 3)) t0_Ch_begin_ok (i := 14) rfl
theorem d_Ch_begin_26 : decode c_Ch_begin 26 = .ok (.return_, 1) := dc_of (x := (26, .return_, 1)) t0_Ch_begin_ok (i := 15) rfl
def t0_Ch_copyFrom : List (Nat × Instr × Nat) := [(0, .aload_n 0, 1), (1, .aload_n 1, 1), (2, .getfield 9, 3), (5, .putfield 9, 3), (8, .aload_n 0, 1), (9, .aload_n 1, 1), (10, .getfield 15, 3), (13, .putfield 15, 3), (16, .aload_n 0, 1), (17, .aload_n 1, 1), (18, .getfield 18, 3), (21, .putfield 18, 3), (24, .aload_n 0, 1), (25, .aload_n 1, 1), (26, .getfield 21, 3), (29, .putfield 21, 3), (32, .aload_n 0, 1), (33, .aload_n 1, 1), (34, .getfield 24, 3), (37, .putfield 24, 3), (40, .return_, 1)]
theorem t0_Ch_copyFrom_ok : t0_Ch_copyFrom.all (fun x => decide (decode c_Ch_copyFrom x.1 = .ok x.2)) = true := by decide +kernel
theorem d_Ch_copyFrom_0 : decode c_Ch_copyFrom 0 = .ok (.aload_n 0, 1) := dc_of (x := (0, .aload_n 0, 1)) t0_Ch_copyFrom_ok (i := 0) rfl
theorem d_Ch_copyFrom_1 : decode c_Ch_copyFrom 1 = .ok (.aload_n 1, 1) := dc_of (x := (1, .aload_n 1, 1)) t0_Ch_copyFrom_ok (i := 1) rfl
theorem d_Ch_copyFrom_2 : decode c_Ch_copyFrom 2 = .ok (.getfield 9, 3) := dc_of (x := (2, .getfield 9, 3)) t0_Ch_copyFrom_ok (i := 2) rfl
theorem d_Ch_copyFrom_5 : decode c_Ch_copyFrom 5 = .ok (.putfield 9, 3) := dc_of (x := (5, .putfield 9, 3)) t0_Ch_copyFrom_ok (i := 3) rfl
theorem d_Ch_copyFrom_8 : decode c_Ch_copyFrom 8 = .ok (.aload_n 0, 1) := dc_of (x := (8, .aload_n 0, 1)) t0_Ch_copyFrom_ok (i := 4) rfl
theorem d_Ch_copyFrom_9 : decode c_Ch_copyFrom 9 = .ok (.aload_n 1, 1) := dc_of (x := (9, .aload_n 1, 1)) t0_Ch_copyFrom_ok (i := 5) rfl
theorem d_Ch_copyFrom_10 : decode c_Ch_copyFrom 10 = .ok (.getfield 15, 3) := dc_of (x := (10, .getfield 15, 3)) t0_Ch_copyFrom_ok (i := 6) rfl
theorem d_Ch_copyFrom_13 : decode c_Ch_copyFrom 13 = .ok (.putfield 15, 3) := dc_of (x := (13, .putfield 15, 3)) t0_Ch_copyFrom_ok (i := 7) rfl
theorem d_Ch_copyFrom_16 : decode c_Ch_copyFrom 16 = .ok (.aload_n 0, 1) := dc_of (x := (16, .aload_n 0, 1)) t0_Ch_copyFrom_ok (i := 8) rfl
theorem d_Ch_copyFrom_17 : decode c_Ch_copyFrom 17 = .ok (.aload_n 1, 1) := dc_of (x := (17, .aload_n 1, 1)) t0_Ch_copyFrom_ok (i := 9) rfl
theorem d_Ch_copyFrom_18 : decode c_Ch_copyFrom 18 = .ok (.getfield 18, 3) := dc_of (x := (18, .getfield 18, 3)) t0_Ch_copyFrom_ok (i := 10) rfl
theorem d_Ch_copyFrom_21 : decode c_Ch_copyFrom 21 = .ok (.putfield 18, 3) := dc_of (x := (21, .putfield 18, 3)) t0_Ch_copyFrom_ok (i := 11) rfl
theorem d_Ch_copyFrom_24 : decode c_Ch_copyFrom 24 = .ok (.aload_n 0, 1) := dc_of (x := (24, .aload_n 0, 1)) t0_Ch_copyFrom_ok (i := 12) rfl
theorem d_Ch_copyFrom_25 : decode c_Ch_copyFrom 25 = .ok (.aload_n 1, 1) := dc_of (x := (25, .aload_n 1, 1)) t0_Ch_copyFrom_ok (i := 13) rfl
theorem d_Ch_copyFrom_26 : decode c_Ch_copyFrom 26 = .ok (.getfield 21, 3) := dc_of (x := (26, .getfield 21, 3)) t0_Ch_copyFrom_ok (i := 14) rfl
theorem d_Ch_copyFrom_29 : decode c_Ch_copyFrom 29 = .ok (.putfield 21, 3) := dc_of (x := (29, .putfield 21, 3)) t0_Ch_copyFrom_ok (i := 15) rfl
theorem d_Ch_copyFrom_32 : decode c_Ch_copyFrom 32 = .ok (.aload_n 0, 1) := dc_of (x := (32, .aload_n 0, 1)) t0_Ch_copyFrom_ok (i := 16) rfl
theorem d_Ch_copyFrom_33 : decode c_Ch_copyFrom 33 = .ok (.aload_n 1, 1) := dc_of (x := (33, .aload_n 1, 1)) t0_Ch_copyFrom_ok (i := 17) rfl
theorem d_Ch_copyFrom_34 : decode c_Ch_copyFrom 34 = .ok (.getfield 24, 3) := dc_of (x := (34, .getfield 24, 3)) t0_Ch_copyFrom_ok (i := 18) rfl
theorem d_Ch_copyFrom_37 : decode c_Ch_copyFrom 37 = .ok (.putfield 24, 3) := dc_of (x := (37, .putfield 24, 3)) t0_Ch_copyFrom_ok (i := 19) rfl
theorem d_Ch_copyFrom_40 : decode c_Ch_copyFrom 40 = .ok (.return_, 1) := dc_of (x := (40, .return_, 1)) t0_Ch_copyFrom_ok (i := 20) rfl
def t0_Ch_isWithin : List (Nat × Instr × Nat) := [(0, .lload_n 1, 1), (1, .ldc2_w 27, 3), (4, .lcmp, 1), (5, .ifCond .eq 19, 3), (8, .lload_n 3, 1), (9, .lload_n 1, 1), (10, .lsub, 1), (11, .aload_n 0, 1), (12, .getfield 21, 3), (15, .i2l, 1), (16, .lcmp, 1), (17, .ifCond .ge 7, 3), (20, .iconst 1, 1), (21, .goto 4, 3), (24, .iconst 0, 1), (25, .ireturn, 1)]
theorem t0_Ch_isWithin_ok : t0_Ch_isWithin.all (fun x => decide (decode c_Ch_isWithin x.1 = .ok x.2)) = true := by decide +kernel
theorem d_Ch_isWithin_0 : decode c_Ch_isWithin 0 = .ok (.lload_n 1, 1) := dc_of (x := (0, .lload_n 1, 1)) t0_Ch_isWithin_ok (i := 0) rfl
theorem d_Ch_isWithin_1 : decode c_Ch_isWithin 1 = .ok (.ldc2_w 27, 3) := dc_of (x := (1, .ldc2_w 27, 3)) t0_Ch_isWithin_ok (i := 1) rfl
theorem d_Ch_isWithin_4 : decode c_Ch_isWithin 4 = .ok (.lcmp, 1) := dc_of (x := (4, .lcmp, 1)) t0_Ch_isWithin_ok (i := 2) rfl
theorem d_Ch_isWithin_5 : decode c_Ch_isWithin 5 = .ok (.ifCond .eq 19, 3) := dc_of (x := (5, .ifCond .eq 19, 3)) t0_Ch_isWithin_ok (i := 3) rfl
theorem d_Ch_isWithin_8 : decode c_Ch_isWithin 8 = .ok (.lload_n 3, 1) := dc_of (x := (8, .lload_n 3, 1)) t0_Ch_isWithin_ok (i := 4) rfl
theorem d_Ch_isWithin_9 : decode c_Ch_isWithin 9 = .ok (.lload_n 1, 1) := dc_of (x := (9, .lload_n 1, 1)) t0_Ch_isWithin_ok (i := 5) rfl
theorem d_Ch_isWithin_10 : decode c_Ch_isWithin 10 = .ok (.lsub, 1) := dc_of (x := (10, .lsub, 1)) t0_Ch_isWithin_ok (i := 6) rfl
theorem d_Ch_isWithin_11 : decode c_Ch_isWithin 11 = .ok (.aload_n 0, 1) := dc_of (x := (11, .aload_n 0, 1)) t0_Ch_isWithin_ok (i := 7) rfl
theorem d_Ch_isWithin_12 : decode c_Ch_isWithin 12 = .ok (.getfield 21, 3) := dc_of (x := (12, .getfield 21, 3)) t0_Ch_isWithin_ok (i := 8) rfl
theorem d_Ch_isWithin_15 : decode c_Ch_isWithin 15 = .ok (.i2l, 1) := dc_of (x := (15, .i2l, 1)) t0_Ch_isWithin_ok (i := 9) rfl
theorem d_Ch_isWithin_16 : decode c_Ch_isWithin 16 = .ok (.lcmp, 1) := dc_of (x := (16, .lcmp, 1)) t0_Ch_isWithin_ok (i := 10) rfl
theorem d_Ch_isWithin_17 : decode c_Ch_isWithin 17 = .ok (.ifCond .ge 7, 3) := dc_of (x := (17, .ifCond .ge 7, 3)) t0_Ch_isWithin_ok (i := 11) rfl
theorem d_Ch_isWithin_20 : decode c_Ch_isWithin 20 = .ok (.iconst 1, 1) := dc_of (x := (20, .iconst 1, 1)) t0_Ch_isWithin_ok (i := 12) rfl
theorem d_Ch_isWithin_21 : decode c_Ch_isWithin 21 = .ok (.goto 4, 3) := dc_of (x := (21, .goto 4, 3)) t0_Ch_isWithin_ok (i := 13) rfl
theorem d_Ch_isWithin_24 : decode c_Ch_isWithin 24 = .ok (.iconst 0, 1) := dc_of (x := (24, .iconst 0, 1)) t0_Ch_isWithin_ok (i := 14) rfl
theorem d_Ch_isWithin_25 : decode c_Ch_isWithin 25 = .ok (.ireturn, 1) := dc_of (x := (25, .ireturn, 1)) t0_Ch_isWithin_ok (i := 15) rfl
def t0_Ga_init : List (Nat × Instr × Nat) := [(0, .aload_n 0, 1), (1, .invokespecial 3, 3), (4, .return_, 1)]
theorem t0_Ga_init_ok : t0_Ga_init.all (fun x => decide (decode c_Ga_init x.1 = .ok x.2)) = true := by decide +kernel
theorem d_Ga_init_0 : decode c_Ga_init 0 = .ok (.aload_n 0, 1) := dc_of (x := (0, .aload_n 0, 1)) t0_Ga_init_ok (i := 0) rfl
theorem d_Ga_init_1 : decode c_Ga_init 1 = .ok (.invokespecial 3, 3) := dc_of (x := (1, .invokespecial 3, 3)) t0_Ga_init_ok (i := 1) rfl
theorem d_Ga_init_4 : decode c_Ga_init 4 = .ok (.return_, 1) := dc_of (x := (4, .return_, 1)) t0_Ga_init_ok (i := 2) rfl
def t0_Ga_begin : List (Nat × Instr × Nat) := [(0, .aload_n 0, 1), (1, .iload_n 1, 1), (2, .putfield 9, 3), (5, .aload_n 0, 1), (6, .iload_n 2, 1), (7, .putfield 15, 3), (10, .aload_n 0, 1), (11, .iload_n 3, 1), (12, .putfield 18, 3), (15, .aload_n 0, 1), (16, .iload 4, 2), (18, .putfield 21, 3), (21, .aload_n 0, 1), (22, .iconst 1, 1), (23, .putfield 24, 3), (26, .aload_n 0, 1), (27, .iconst 1, 1), (28, .putfield 27, 3), (31, .aload_n 0, 1), (32, .iload_n 1, 1), (33, .iconst 5, 1), (34, .if_icmp .ne 7, 3), (37, .iconst 3, 1), (38, .goto 4, 3), (41, .iconst 2, 1), (42, .putfield 30, 3), (45, .aload_n 0, 1), (46, .iconst (-1), 1), (47, .putfield 33, 3), (50, .aload_n 0, 1), (51, .iconst (-1), 1), (52, .putfield 36, 3), (55, .return_, 1)]
theorem t0_Ga_begin_ok : t0_Ga_begin.all (fun x => decide (decode c_Ga_begin x.1 = .ok x.2)) = true := by decide +kernel
theorem d_Ga_begin_0 : decode c_Ga_begin 0 = .ok (.aload_n 0, 1) := dc_of (x := (0, .aload_n 0, 1)) t0_Ga_begin_ok (i := 0) rfl
theorem d_Ga_begin_1 : decode c_Ga_begin 1 = .ok (.iload_n 1, 1) := dc_of (x := (1, .iload_n 1, 1)) t0_Ga_begin_ok (i := 1) rfl
theorem d_Ga_begin_2 : decode c_Ga_begin 2 = .ok (.putfield 9, 3) := dc_of (x := (2, .putfield 9, 3)) t0_Ga_begin_ok (i := 2) rfl
theorem d_Ga_begin_5 : decode c_Ga_begin 5 = .ok (.aload_n 0, 1) := dc_of (x := (5, .aload_n 0, 1)) t0_Ga_begin_ok (i := 3) rfl
theorem d_Ga_begin_6 : decode c_Ga_begin 6 = .ok (.iload_n 2, 1) := dc_of (x := (6, .iload_n 2, 1)) t0_Ga_begin_ok (i := 4) rfl
theorem d_Ga_begin_7 : decode c_Ga_begin 7 = .ok (.putfield 15, 3) := dc_of (x := (7, .putfield 15, 3)) t0_Ga_begin_ok (i := 5) rfl
theorem d_Ga_begin_10 : decode c_Ga_begin 10 = .ok (.aload_n 0, 1) := dc_of (x := (10, .aload_n 0, 1)) t0_Ga_begin_ok (i := 6) rfl
theorem d_Ga_begin_11 : decode c_Ga_begin 11 = .ok (.iload_n 3, 1) := dc_of (x := (11, .iload_n 3, 1)) t0_Ga_begin_ok (i := 7) rfl
theorem d_Ga_begin_12 : decode c_Ga_begin 12 = .ok (.putfield 18, 3) := dc_of (x := (12, .putfield 18, 3)) t0_Ga_begin_ok (i := 8) rfl
theorem d_Ga_begin_15 : decode c_Ga_begin 15 = .ok (.aload_n 0, 1) := dc_of (x := (15, .aload_n 0, 1)) t0_Ga_begin_ok (i := 9) rfl
theorem d_Ga_begin_16 : decode c_Ga_begin 16 = .ok (.iload 4, 2) := dc_of (x := (16, .iload 4, 2)) t0_Ga_begin_ok (i := 10) rfl
theorem d_Ga_begin_18 : decode c_Ga_begin 18 = .ok (.putfield 21, 3) := dc_of (x := (18, .putfield 21, 3)) t0_Ga_begin_ok (i := 11) rfl
theorem d_Ga_begin_21 : decode c_Ga_begin 21 = .ok (.aload_n 0, 1) := dc_of (x := (21, .aload_n 0, 1)) t0_Ga_begin_ok (i := 12) rfl
theorem d_Ga_begin_22 : decode c_Ga_begin 22 = .ok (.iconst 1, 1) := dc_of (x := (22, .iconst 1, 1)) t0_Ga_begin_ok (i := 13) rfl
theorem d_Ga_begin_23 : decode c_Ga_begin 23 = .ok (.putfield 24, 3) := dc_of (x := (23, .putfield 24, 3)) t0_Ga_begin_ok (i := 14) rfl
theorem d_Ga_begin_26 : decode c_Ga_begin 26 = .ok (.aload_n 0, 1) := dc_of (x := (26, .aload_n 0, 1)) t0_Ga_begin_ok (i := 15) rfl
theorem d_Ga_begin_27 : decode c_Ga_begin 27 = .ok (.iconst 1, 1) := dc_of (x := (27, .iconst 1, 1)) t0_Ga_begin_ok (i := 16) rfl
theorem d_Ga_begin_28 : decode c_Ga_begin 28 = .ok (.putfield 27, 3) := dc_of (x := (28, .putfield 27, 3)) t0_Ga_begin_ok (i := 17) rfl
theorem d_Ga_begin_31 : decode c_Ga_begin 31 = .ok (.aload_n 0, 1) := dc_of (x := (31, .aload_n 0, 1)) t0_Ga_begin_ok (i := 18) rfl
theorem d_Ga_begin_32 : decode c_Ga_begin 32 = .ok (.iload_n 1, 1) := dc_of (x := (32, .iload_n 1, 1)) t0_Ga_begin_ok (i := 19) rfl
theorem d_Ga_begin_33 : decode c_Ga_begin 33 = .ok (.iconst 5, 1) := dc_of (x := (33, .iconst 5, 1)) t0_Ga_begin_ok (i := 20) rfl
theorem d_Ga_begin_34 : decode c_Ga_begin 34 = .ok (.if_icmp .ne 7, 3) := dc_of (x := (34, .if_icmp .ne 7, 3)) t0_Ga_begin_ok (i := 21) rfl
theorem d_Ga_begin_37 : decode c_Ga_begin 37 = .ok (.iconst 3, 1) := dc_of (x := (37, .iconst 3, 1)) t0_Ga_begin_ok (i := 22) rfl
theorem d_Ga_begin_38 : decode c_Ga_begin 38 = .ok (.goto 4, 3) := dc_of (x := (38, .goto 4, 3)) t0_Ga_begin_ok (i := 23) rfl
theorem d_Ga_begin_41 : decode c_Ga_begin 41 = .ok (.iconst 2, 1) := dc_of (x := (41, .iconst 2, 1)) t0_Ga_begin_ok (i := 24) rfl
theorem d_Ga_begin_42 : decode c_Ga_begin 42 = .ok (.putfield 30, 3) := dc_of (x := (42, .putfield 30, 3)) t0_Ga_begin_ok (i := 25) rfl
theorem d_Ga_begin_45 : decode c_Ga_begin 45 = .ok (.aload_n 0, 1) := dc_of (x := (45, .aload_n 0, 1)) t0_Ga_begin_ok (i := 26) rfl
theorem d_Ga_begin_46 : decode c_Ga_begin 46 = .ok (.iconst (-1), 1) := dc_of (x := (46, .iconst (-1), 1)) t0_Ga_begin_ok (i := 27) rfl
theorem d_Ga_begin_47 : decode c_Ga_begin 47 = .ok (.putfield 33, 3) := dc_of (x := (47, .putfield 33, 3)) t0_Ga_begin_ok (i := 28) rfl
theorem d_Ga_begin_50 : decode c_Ga_begin 50 = .ok (.aload_n 0, 1) := dc_of (x := (50, .aload_n 0, 1)) t0_Ga_begin_ok (i := 29) rfl
theorem d_Ga_begin_51 : decode c_Ga_begin 51 = .ok (.iconst (-1), 1) := dc_of (x := (51, .iconst (-1), 1)) t0_Ga_begin_ok (i := 30) rfl
theorem d_Ga_begin_52 : decode c_Ga_begin 52 = .ok (.putfield 36, 3) := dc_of (x := (52, .putfield 36, 3)) t0_Ga_begin_ok (i := 31) rfl
theorem d_Ga_begin_55 : decode c_Ga_begin 55 = .ok (.return_, 1) := dc_of (x := (55, .return_, 1)) t0_Ga_begin_ok (i := 32) rfl
def t0_Ga_copyFrom : List (Nat × Instr × Nat) := [(0, .aload_n 0, 1), (1, .aload_n 1, 1), (2, .getfield 9, 3), (5, .putfield 9, 3), (8, .aload_n 0, 1), (9, .aload_n 1, 1), (10, .getfield 15, 3), (13, .putfield 15, 3), (16, .aload_n 0, 1), (17, .aload_n 1, 1), (18, .getfield 18, 3), (21, .putfield 18, 3), (24, .aload_n 0, 1), (25, .aload_n 1, 1), (26, .getfield 21, 3), (29, .putfield 21, 3), (32, .aload_n 0, 1), (33, .aload_n 1, 1), (34, .getfield 24, 3), (37, .putfield 24, 3), (40, .aload_n 0, 1), (41, .aload_n 1, 1), (42, .getfield 27, 3), (45, .putfield 27, 3), (48, .aload_n 0, 1), (49, .aload_n 1, 1), (50, .getfield 30, 3), (53, .putfield 30, 3), (56, .aload_n 0, 1), (57, .aload_n 1, 1), (58, .getfield 33, 3), (61, .putfield 33, 3), (64, .aload_n 0, 1), (65, .aload_n 1, 1), (66, .getfield 39, 3), (69, .putfield 39, 3), (72, .aload_n 0, 1), (73, .aload_n 1, 1), (74, .getfield 36, 3), (77, .putfield 36, 3), (80, .aload_n 0, 1), (81, .aload_n 1, 1), (82, .getfield 43, 3), (85, .putfield 43, 3), (88, .return_, 1)]
theorem t0_Ga_copyFrom_ok : t0_Ga_copyFrom.all (fun x => decide (decode c_Ga_copyFrom x.1 = .ok x.2)) = true := by decide +kernel
theorem d_Ga_copyFrom_0 : decode c_Ga_copyFrom 0 = .ok (.aload_n 0, 1) := dc_of (x := (0, .aload_n 0, 1)) t0_Ga_copyFrom_ok (i := 0) rfl
theorem d_Ga_copyFrom_1 : decode c_Ga_copyFrom 1 = .ok (.aload_n 1, 1) := dc_of (x := (1, .aload_n 1, 1)) t0_Ga_copyFrom_ok (i := 1) rfl
theorem d_Ga_copyFrom_2 : decode c_Ga_copyFrom 2 = .ok (.getfield 9, 3) := dc_of (x := (2, .getfield 9, 3)) t0_Ga_copyFrom_ok (i := 2) rfl
theorem d_Ga_copyFrom_5 : decode c_Ga_copyFrom 5 = .ok (.putfield 9, 3) := dc_of (x := (5, .putfield 9, 3)) t0_Ga_copyFrom_ok (i := 3) rfl
theorem d_Ga_copyFrom_8 : decode c_Ga_copyFrom 8 = .ok (.aload_n 0, 1) := dc_of (x := (8, .aload_n 0, 1)) t0_Ga_copyFrom_ok (i := 4) rfl
theorem d_Ga_copyFrom_9 : decode c_Ga_copyFrom 9 = .ok (.aload_n 1, 1) := dc_of (x := (9, .aload_n 1, 1)) t0_Ga_copyFrom_ok (i := 5) rfl
theorem d_Ga_copyFrom_10 : decode c_Ga_copyFrom 10 = .ok (.getfield 15, 3) := dc_of (x := (10, .getfield 15, 3)) t0_Ga_copyFrom_ok (i := 6) rfl
theorem d_Ga_copyFrom_13 : decode c_Ga_copyFrom 13 = .ok (.putfield 15, 3) := dc_of (x := (13, .putfield 15, 3)) t0_Ga_copyFrom_ok (i := 7) rfl
theorem d_Ga_copyFrom_16 : decode c_Ga_copyFrom 16 = .ok (.aload_n 0, 1) := dc_of (x := (16, .aload_n 0, 1)) t0_Ga_copyFrom_ok (i := 8) rfl
theorem d_Ga_copyFrom_17 : decode c_Ga_copyFrom 17 = .ok (.aload_n 1, 1) := dc_of (x := (17, .aload_n 1, 1)) t0_Ga_copyFrom_ok (i := 9) rfl
theorem d_Ga_copyFrom_18 : decode c_Ga_copyFrom 18 = .ok (.getfield 18, 3) := dc_of (x := (18, .getfield 18, 3)) t0_Ga_copyFrom_ok (i := 10) rfl
theorem d_Ga_copyFrom_21 : decode c_Ga_copyFrom 21 = .ok (.putfield 18, 3) := dc_of (x := (21, .putfield 18, 3)) t0_Ga_copyFrom_ok (i := 11) rfl
theorem d_Ga_copyFrom_24 : decode c_Ga_copyFrom 24 = .ok (.aload_n 0, 1) := dc_of (x := (24, .aload_n 0, 1)) t0_Ga_copyFrom_ok (i := 12) rfl
theorem d_Ga_copyFrom_25 : decode c_Ga_copyFrom 25 = .ok (.aload_n 1, 1) := dc_of (x := (25, .aload_n 1, 1)) t0_Ga_copyFrom_ok (i := 13) rfl
theorem d_Ga_copyFrom_26 : decode c_Ga_copyFrom 26 = .ok (.getfield 21, 3) := dc_of (x := (26, .getfield 21, 3)) t0_Ga_copyFrom_ok (i := 14) rfl
theorem d_Ga_copyFrom_29 : decode c_Ga_copyFrom 29 = .ok (.putfield 21, 3) := dc_of (x := (29, .putfield 21, 3)) t0_Ga_copyFrom_ok (i := 15) rfl
theorem d_Ga_copyFrom_32 : decode c_Ga_copyFrom 32 = .ok (.aload_n 0, 1) := dc_of (x := (32, .aload_n 0, 1)) t0_Ga_copyFrom_ok (i := 16) rfl
theorem d_Ga_copyFrom_33 : decode c_Ga_copyFrom 33 = .ok (.aload_n 1, 1) := dc_of (x := (33, .aload_n 1, 1)) t0_Ga_copyFrom_ok (i := 17) rfl
theorem d_Ga_copyFrom_34 : decode c_Ga_copyFrom 34 = .ok (.getfield 24, 3) := dc_of (x := (34, .getfield 24, 3)) t0_Ga_copyFrom_ok (i := 18) rfl
theorem d_Ga_copyFrom_37 : decode c_Ga_copyFrom 37 = .ok (.putfield 24, 3) := dc_of (x := (37, .putfield 24, 3)) t0_Ga_copyFrom_ok (i := 19) rfl
theorem d_Ga_copyFrom_40 : decode c_Ga_copyFrom 40 = .ok (.aload_n 0, 1) := dc_of (x := (40, .aload_n 0, 1)) t0_Ga_copyFrom_ok (i := 20) rfl
theorem d_Ga_copyFrom_41 : decode c_Ga_copyFrom 41 = .ok (.aload_n 1, 1) := dc_of (x := (41, .aload_n 1, 1)) t0_Ga_copyFrom_ok (i := 21) rfl
theorem d_Ga_copyFrom_42 : decode c_Ga_copyFrom 42 = .ok (.getfield 27, 3) := dc_of (x := (42, .getfield 27, 3)) t0_Ga_copyFrom_ok (i := 22) rfl
theorem d_Ga_copyFrom_45 : decode c_Ga_copyFrom 45 = .ok (.putfield 27, 3) := dc_of (x := (45, .putfield 27, 3)) t0_Ga_copyFrom_ok (i := 23) rfl
theorem d_Ga_copyFrom_48 : decode c_Ga_copyFrom 48 = .ok (.aload_n 0, 1) := dc_of (x := (48, .aload_n 0, 1)) t0_Ga_copyFrom_ok (i := 24) rfl
theorem d_Ga_copyFrom_49 : decode c_Ga_copyFrom 49 = .ok (.aload_n 1, 1) := dc_of (x := (49, .aload_n 1, 1)) t0_Ga_copyFrom_ok (i := 25) rfl
theorem d_Ga_copyFrom_50 : decode c_Ga_copyFrom 50 = .ok (.getfield 30, 3) := dc_of (x := (50, .getfield 30, 3)) t0_Ga_copyFrom_ok (i := 26) rfl
theorem d_Ga_copyFrom_53 : decode c_Ga_copyFrom 53 = .ok (.putfield 30, 3) := dc_of (x := (53, .putfield 30, 3)) t0_Ga_copyFrom_ok (i := 27) rfl
theorem d_Ga_copyFrom_56 : decode c_Ga_copyFrom 56 = .ok (.aload_n 0, 1) := dc_of (x := (56, .aload_n 0, 1)) t0_Ga_copyFrom_ok (i := 28) rfl
theorem d_Ga_copyFrom_57 : decode c_Ga_copyFrom 57 = .ok (.aload_n 1, 1) := dc_of (x := (57, .aload_n 1, 1)) t0_Ga_copyFrom_ok (i := 29) rfl
theorem d_Ga_copyFrom_58 : decode c_Ga_copyFrom 58 = .ok (.getfield 33, 3) := dc_of (x := (58, .getfield 33, 3)) t0_Ga_copyFrom_ok (i := 30) rfl
theorem d_Ga_copyFrom_61 : decode c_Ga_copyFrom 61 = .ok (.putfield 33, 3) := dc_of (x := (61, .putfield 33, 3)) t0_Ga_copyFrom_ok (i := 31) rfl
theorem d_Ga_copyFrom_64 : decode c_Ga_copyFrom 64 = .ok (.aload_n 0, 1) := dc_of (x := (64, .aload_n 0, 1)) t0_Ga_copyFrom_ok (i := 32) rfl
theorem d_Ga_copyFrom_65 : decode c_Ga_copyFrom 65 = .ok (.aload_n 1, 1) := dc_of (x := (65, .aload_n 1, 1)) t0_Ga_copyFrom_ok (i := 33) rfl
theorem d_Ga_copyFrom_66 : decode c_Ga_copyFrom 66 = .ok (.getfield 39, 3) := dc_of (x := (66, .getfield 39, 3)) t0_Ga_copyFrom_ok (i := 34) rfl
theorem d_Ga_copyFrom_69 : decode c_Ga_copyFrom 69 = .ok (.putfield 39, 3) := dc_of (x := (69, .putfield 39, 3)) t0_Ga_copyFrom_ok (i := 35) rfl
theorem d_Ga_copyFrom_72 : decode c_Ga_copyFrom 72 = .ok (.aload_n 0, 1) := dc_of (x := (72, .aload_n 0, 1)) t0_Ga_copyFrom_ok (i := 36) rfl
theorem d_Ga_copyFrom_73 : decode c_Ga_copyFrom 73 = .ok (.aload_n 1, 1) := dc_of (x := (73, .aload_n 1, 1)) t0_Ga_copyFrom_ok (i := 37) rfl
theorem d_Ga_copyFrom_74 : decode c_Ga_copyFrom 74 = .ok (.getfield 36, 3) := dc_of (x := (74, .getfield 36, 3)) t0_Ga_copyFrom_ok (i := 38) rfl
theorem d_Ga_copyFrom_77 : decode c_Ga_copyFrom 77 = .ok (.putfield 36, 3) := dc_of (x := (77, .putfield 36, 3)) t0_Ga_copyFrom_ok (i := 39) rfl
theorem d_Ga_copyFrom_80 : decode c_Ga_copyFrom 80 = .ok (.aload_n 0, 1) := dc_of (x := (80, .aload_n 0, 1)) t0_Ga_copyFrom_ok (i := 40) rfl
theorem d_Ga_copyFrom_81 : decode c_Ga_copyFrom 81 = .ok (.aload_n 1, 1) := dc_of (x := (81, .aload_n 1, 1)) t0_Ga_copyFrom_ok (i := 41) rfl
theorem d_Ga_copyFrom_82 : decode c_Ga_copyFrom 82 = .ok (.getfield 43, 3) := dc_of (x := (82, .getfield 43, 3)) t0_Ga_copyFrom_ok (i := 42) rfl
theorem d_Ga_copyFrom_85 : decode c_Ga_copyFrom 85 = .ok (.putfield 43, 3) := dc_of (x := (85, .putfield 43, 3)) t0_Ga_copyFrom_ok (i := 43) rfl
theorem d_Ga_copyFrom_88 : decode c_Ga_copyFrom 88 = .ok (.return_, 1) := dc_of (x := (88, .return_, 1)) t0_Ga_copyFrom_ok (i := 44) rfl
def t0_Ga_takeDelays : List (Nat × Instr × Nat) := [(0, .aload_n 0, 1), (1, .getfield 24, 3), (4, .iload_n 1, 1), (5, .if_icmp .ne 11, 3), (8, .aload_n 0, 1), (9, .getfield 27, 3), (12, .iload_n 2, 1), (13, .if_icmp .eq 7, 3), (16, .iconst 1, 1), (17, .goto 4, 3), (20, .iconst 0, 1), (21, .istore_n 3, 1), (22, .aload_n 0, 1), (23, .iload_n 1, 1), (24, .putfield 24, 3), (27, .aload_n 0, 1), (28, .iload_n 2, 1), (29, .putfield 27, 3), (32, .iload_n 3, 1), (33, .ireturn, 1)]
theorem t0_Ga_takeDelays_ok : t0_Ga_takeDelays.all (fun x => decide (decode c_Ga_takeDelays x.1 = .ok x.2)) = true := by decide +kernel
theorem d_Ga_takeDelays_0 : decode c_Ga_takeDelays 0 = .ok (.aload_n 0, 1) := dc_of (x := (0, .aload_n 0, 1)) t0_Ga_takeDelays_ok (i := 0) rfl
theorem d_Ga_takeDelays_1 : decode c_Ga_takeDelays 1 = .ok (.getfield 24, 3) := dc_of (x := (1, .getfield 24, 3)) t0_Ga_takeDelays_ok (i := 1) rfl
theorem d_Ga_takeDelays_4 : decode c_Ga_takeDelays 4 = .ok (.iload_n 1, 1) := dc_of (x := (4, .iload_n 1, 1)) t0_Ga_takeDelays_ok (i := 2) rfl
theorem d_Ga_takeDelays_5 : decode c_Ga_takeDelays 5 = .ok (.if_icmp .ne 11, 3) := dc_of (x := (5, .if_icmp .ne 11, 3)) t0_Ga_takeDelays_ok (i := 3) rfl
theorem d_Ga_takeDelays_8 : decode c_Ga_takeDelays 8 = .ok (.aload_n 0, 1) := dc_of (x := (8, .aload_n 0, 1)) t0_Ga_takeDelays_ok (i := 4) rfl
theorem d_Ga_takeDelays_9 : decode c_Ga_takeDelays 9 = .ok (.getfield 27, 3) := dc_of (x := (9, .getfield 27, 3)) t0_Ga_takeDelays_ok (i := 5) rfl
theorem d_Ga_takeDelays_12 : decode c_Ga_takeDelays 12 = .ok (.iload_n 2, 1) := dc_of (x := (12, .iload_n 2, 1)) t0_Ga_takeDelays_ok (i := 6) rfl
theorem d_Ga_takeDelays_13 : decode c_Ga_takeDelays 13 = .ok (.if_icmp .eq 7, 3) := dc_of (x := (13, .if_icmp .eq 7, 3)) t0_Ga_takeDelays_ok (i := 7) rfl
theorem d_Ga_takeDelays_16 : decode c_Ga_takeDelays 16 = .ok (.iconst 1, 1) := dc_of (x := (16, .iconst 1, 1)) t0_Ga_takeDelays_ok (i := 8) rfl
theorem d_Ga_takeDelays_17 : decode c_Ga_takeDelays 17 = .ok (.goto 4, 3) := dc_of (x := (17, .goto 4, 3)) t0_Ga_takeDelays_ok (i := 9) rfl
theorem d_Ga_takeDelays_20 : decode c_Ga_takeDelays 20 = .ok (.iconst 0, 1) := dc_of (x := (20, .iconst 0, 1)) t0_Ga_takeDelays_ok (i := 10) rfl
theorem d_Ga_takeDelays_21 : decode c_Ga_takeDelays 21 = .ok (.istore_n 3, 1) := dc_of (x := (21, .istore_n 3, 1)) t0_Ga_takeDelays_ok (i := 11) rfl
theorem d_Ga_takeDelays_22 : decode c_Ga_takeDelays 22 = .ok (.aload_n 0, 1) := dc_of (x := (22, .aload_n 0, 1)) t0_Ga_takeDelays_ok (i := 12) rfl
theorem d_Ga_takeDelays_23 : decode c_Ga_takeDelays 23 = .ok (.iload_n 1, 1) := dc_of (x := (23, .iload_n 1, 1)) t0_Ga_takeDelays_ok (i := 13) rfl
theorem d_Ga_takeDelays_24 : decode c_Ga_takeDelays 24 = .ok (.putfield 24, 3) := dc_of (x := (24, .putfield 24, 3)) t0_Ga_takeDelays_ok (i := 14) rfl
theorem d_Ga_takeDelays_27 : decode c_Ga_takeDelays 27 = .ok (.aload_n 0, 1) := dc_of (x := (27, .aload_n 0, 1)) t0_Ga_takeDelays_ok (i := 15) rfl
theorem d_Ga_takeDelays_28 : decode c_Ga_takeDelays 28 = .ok (.iload_n 2, 1) := dc_of (x := (28, .iload_n 2, 1)) t0_Ga_takeDelays_ok (i := 16) rfl
theorem d_Ga_takeDelays_29 : decode c_Ga_takeDelays 29 = .ok (.putfield 27, 3) := dc_of (x := (29, .putfield 27, 3)) t0_Ga_takeDelays_ok (i := 17) rfl
theorem d_Ga_takeDelays_32 : decode c_Ga_takeDelays 32 = .ok (.iload_n 3, 1) := dc_of (x := (32, .iload_n 3, 1)) t0_Ga_takeDelays_ok (i := 18) rfl
theorem d_Ga_takeDelays_33 : decode c_Ga_takeDelays 33 = .ok (.ireturn, 1) := dc_of (x := (33, .ireturn, 1)) t0_Ga_takeDelays_ok (i := 19) rfl
def t0_Ga_hears : List (Nat × Instr × Nat) := [(0, .aload_n 0, 1), (1, .getfield 9, 3), (4, .bipush 7, 2), (6, .if_icmp .ne 23, 3), (9, .aload_n 0, 1), (10, .getfield 18, 3), (13, .iload_n 1, 1), (14, .if_icmp .ne 11, 3), (17, .iload_n 2, 1), (18, .ifCond .eq 7, 3), (21, .iconst 1, 1), (22, .goto 28, 3), (25, .iconst 0, 1), (26, .goto 24, 3), (29, .aload_n 0, 1), (30, .getfield 15, 3), (33, .iload_n 1, 1), (34, .if_icmp .eq 11, 3), (37, .aload_n 0, 1), (38, .getfield 18, 3), (41, .iload_n 1, 1), (42, .if_icmp .ne 7, 3), (45, .iconst 1, 1), (46, .goto 4, 3), (49, .iconst 0, 1), (50, .ireturn, 1)]
theorem t0_Ga_hears_ok : t0_Ga_hears.all (fun x => decide (decode c_Ga_hears x.1 = .ok x.2)) = true := by decide +kernel
theorem d_Ga_hears_0 : decode c_Ga_hears 0 = .ok (.aload_n 0, 1) := dc_of (x := (0, .aload_n 0, 1)) t0_Ga_hears_ok (i := 0) rfl
theorem d_Ga_hears_1 : decode c_Ga_hears 1 = .ok (.getfield 9, 3) := dc_of (x := (1, .getfield 9, 3)) t0_Ga_hears_ok (i := 1) rfl
theorem d_Ga_hears_4 : decode c_Ga_hears 4 = .ok (.bipush 7, 2) := dc_of (x := (4, .bipush 7, 2)) t0_Ga_hears_ok (i := 2) rfl
theorem d_Ga_hears_6 : decode c_Ga_hears 6 = .ok (.if_icmp .ne 23, 3) := dc_of (x := (6, .if_icmp .ne 23, 3)) t0_Ga_hears_ok (i := 3) rfl
theorem d_Ga_hears_9 : decode c_Ga_hears 9 = .ok (.aload_n 0, 1) := dc_of (x := (9, .aload_n 0, 1)) t0_Ga_hears_ok (i := 4) rfl
theorem d_Ga_hears_10 : decode c_Ga_hears 10 = .ok (.getfield 18, 3) := dc_of (x := (10, .getfield 18, 3)) t0_Ga_hears_ok (i := 5) rfl
theorem d_Ga_hears_13 : decode c_Ga_hears 13 = .ok (.iload_n 1, 1) := dc_of (x := (13, .iload_n 1, 1)) t0_Ga_hears_ok (i := 6) rfl
theorem d_Ga_hears_14 : decode c_Ga_hears 14 = .ok (.if_icmp .ne 11, 3) := dc_of (x := (14, .if_icmp .ne 11, 3)) t0_Ga_hears_ok (i := 7) rfl
theorem d_Ga_hears_17 : decode c_Ga_hears 17 = .ok (.iload_n 2, 1) := dc_of (x := (17, .iload_n 2, 1)) t0_Ga_hears_ok (i := 8) rfl
theorem d_Ga_hears_18 : decode c_Ga_hears 18 = .ok (.ifCond .eq 7, 3) := dc_of (x := (18, .ifCond .eq 7, 3)) t0_Ga_hears_ok (i := 9) rfl
theorem d_Ga_hears_21 : decode c_Ga_hears 21 = .ok (.iconst 1, 1) := dc_of (x := (21, .iconst 1, 1)) t0_Ga_hears_ok (i := 10) rfl
theorem d_Ga_hears_22 : decode c_Ga_hears 22 = .ok (.goto 28, 3) := dc_of (x := (22, .goto 28, 3)) t0_Ga_hears_ok (i := 11) rfl
theorem d_Ga_hears_25 : decode c_Ga_hears 25 = .ok (.iconst 0, 1) := dc_of (x := (25, .iconst 0, 1)) t0_Ga_hears_ok (i := 12) rfl
theorem d_Ga_hears_26 : decode c_Ga_hears 26 = .ok (.goto 24, 3) := dc_of (x := (26, .goto 24, 3)) t0_Ga_hears_ok (i := 13) rfl
theorem d_Ga_hears_29 : decode c_Ga_hears 29 = .ok (.aload_n 0, 1) := dc_of (x := (29, .aload_n 0, 1)) t0_Ga_hears_ok (i := 14) rfl
theorem d_Ga_hears_30 : decode c_Ga_hears 30 = .ok (.getfield 15, 3) := dc_of (x := (30, .getfield 15, 3)) t0_Ga_hears_ok (i := 15) rfl
theorem d_Ga_hears_33 : decode c_Ga_hears 33 = .ok (.iload_n 1, 1) := dc_of (x := (33, .iload_n 1, 1)) t0_Ga_hears_ok (i := 16) rfl
theorem d_Ga_hears_34 : decode c_Ga_hears 34 = .ok (.if_icmp .eq 11, 3) := dc_of (x := (34, .if_icmp .eq 11, 3)) t0_Ga_hears_ok (i := 17) rfl
theorem d_Ga_hears_37 : decode c_Ga_hears 37 = .ok (.aload_n 0, 1) := dc_of (x := (37, .aload_n 0, 1)) t0_Ga_hears_ok (i := 18) rfl
theorem d_Ga_hears_38 : decode c_Ga_hears 38 = .ok (.getfield 18, 3) := dc_of (x := (38, .getfield 18, 3)) t0_Ga_hears_ok (i := 19) rfl
theorem d_Ga_hears_41 : decode c_Ga_hears 41 = .ok (.iload_n 1, 1) := dc_of (x := (41, .iload_n 1, 1)) t0_Ga_hears_ok (i := 20) rfl
theorem d_Ga_hears_42 : decode c_Ga_hears 42 = .ok (.if_icmp .ne 7, 3) := dc_of (x := (42, .if_icmp .ne 7, 3)) t0_Ga_hears_ok (i := 21) rfl
theorem d_Ga_hears_45 : decode c_Ga_hears 45 = .ok (.iconst 1, 1) := dc_of (x := (45, .iconst 1, 1)) t0_Ga_hears_ok (i := 22) rfl
theorem d_Ga_hears_46 : decode c_Ga_hears 46 = .ok (.goto 4, 3) := dc_of (x := (46, .goto 4, 3)) t0_Ga_hears_ok (i := 23) rfl
theorem d_Ga_hears_49 : decode c_Ga_hears 49 = .ok (.iconst 0, 1) := dc_of (x := (49, .iconst 0, 1)) t0_Ga_hears_ok (i := 24) rfl
theorem d_Ga_hears_50 : decode c_Ga_hears 50 = .ok (.ireturn, 1) := dc_of (x := (50, .ireturn, 1)) t0_Ga_hears_ok (i := 25) rfl
def t0_Ga_gives : List (Nat × Instr × Nat) := [(0, .iload_n 1, 1), (1, .iconst 3, 1), (2, .if_icmp .ne 7, 3), (5, .iconst 2, 1), (6, .goto 4, 3), (9, .iload_n 1, 1), (10, .istore_n 3, 1), (11, .iload_n 2, 1), (12, .iconst 3, 1), (13, .if_icmp .ne 7, 3), (16, .iconst 2, 1), (17, .goto 4, 3), (20, .iload_n 2, 1), (21, .istore 4, 2), (23, .aload_n 0, 1), (24, .getfield 9, 3), (27, .tableswitch 190 1 6 #[37, 50, 80, 110, 137, 158], 37), (64, .iload_n 3, 1), (65, .iconst 2, 1), (66, .if_icmp .ne 7, 3), (69, .iconst 2, 1), (70, .goto 6, 3), (73, .iconst 1, 1), (74, .iload_n 3, 1), (75, .isub, 1), (76, .ireturn, 1), (77, .iload_n 3, 1), (78, .ifCond .eq 8, 3), (81, .iload 4, 2), (83, .ifCond .ne 7, 3), (86, .iconst 0, 1), (87, .goto 19, 3), (90, .iload_n 3, 1), (91, .iconst 1, 1), (92, .if_icmp .ne 13, 3), (95, .iload 4, 2), (97, .iconst 1, 1), (98, .if_icmp .ne 7, 3), (101, .iconst 1, 1), (102, .goto 4, 3), (105, .iconst 2, 1), (106, .ireturn, 1), (107, .iload_n 3, 1), (108, .iconst 1, 1), (109, .if_icmp .eq 9, 3), (112, .iload 4, 2), (114, .iconst 1, 1), (115, .if_icmp .ne 7, 3), (118, .iconst 1, 1), (119, .goto 17, 3), (122, .iload_n 3, 1), (123, .ifCond .ne 12, 3), (126, .iload 4, 2), (128, .ifCond .ne 7, 3), (131, .iconst 0, 1), (132, .goto 4, 3), (135, .iconst 2, 1), (136, .ireturn, 1), (137, .iload_n 3, 1), (138, .iconst 2, 1)]
theorem t0_Ga_gives_ok : t0_Ga_gives.all (fun x => decide (decode c_Ga_gives x.1 = .ok x.2)) = true := by decide +kernel
def t1_Ga_gives : List (Nat × Instr × Nat) := [(139, .if_icmp .eq 9, 3), (142, .iload 4, 2), (144, .iconst 2, 1), (145, .if_icmp .ne 7, 3), (148, .iconst 2, 1), (149, .goto 14, 3), (152, .iload_n 3, 1), (153, .iload 4, 2), (155, .if_icmp .ne 7, 3), (158, .iconst 0, 1), (159, .goto 4, 3), (162, .iconst 1, 1), (163, .ireturn, 1), (164, .iload 4, 2), (166, .iconst 1, 1), (167, .if_icmp .ne 7, 3), (170, .iload_n 3, 1), (171, .goto 13, 3), (174, .iload 4, 2), (176, .ifCond .ne 7, 3), (179, .iconst 3, 1), (180, .goto 4, 3), (183, .iconst 2, 1), (184, .ireturn, 1), (185, .iload 4, 2), (187, .iconst 1, 1), (188, .if_icmp .ne 7, 3), (191, .iload_n 3, 1), (192, .goto 24, 3), (195, .iload 4, 2), (197, .ifCond .eq 11, 3), (200, .aload_n 0, 1), (201, .getfield 30, 3), (204, .iload_n 3, 1), (205, .if_icmp .ne 10, 3), (208, .aload_n 0, 1), (209, .getfield 30, 3), (212, .goto 4, 3), (215, .iconst 2, 1), (216, .ireturn, 1), (217, .iload_n 3, 1), (218, .ireturn, 1)]
theorem t1_Ga_gives_ok : t1_Ga_gives.all (fun x => decide (decode c_Ga_gives x.1 = .ok x.2)) = true := by decide +kernel
theorem d_Ga_gives_0 : decode c_Ga_gives 0 = .ok (.iload_n 1, 1) := dc_of (x := (0, .iload_n 1, 1)) t0_Ga_gives_ok (i := 0) rfl
theorem d_Ga_gives_1 : decode c_Ga_gives 1 = .ok (.iconst 3, 1) := dc_of (x := (1, .iconst 3, 1)) t0_Ga_gives_ok (i := 1) rfl
theorem d_Ga_gives_2 : decode c_Ga_gives 2 = .ok (.if_icmp .ne 7, 3) := dc_of (x := (2, .if_icmp .ne 7, 3)) t0_Ga_gives_ok (i := 2) rfl
theorem d_Ga_gives_5 : decode c_Ga_gives 5 = .ok (.iconst 2, 1) := dc_of (x := (5, .iconst 2, 1)) t0_Ga_gives_ok (i := 3) rfl
theorem d_Ga_gives_6 : decode c_Ga_gives 6 = .ok (.goto 4, 3) := dc_of (x := (6, .goto 4, 3)) t0_Ga_gives_ok (i := 4) rfl
theorem d_Ga_gives_9 : decode c_Ga_gives 9 = .ok (.iload_n 1, 1) := dc_of (x := (9, .iload_n 1, 1)) t0_Ga_gives_ok (i := 5) rfl
theorem d_Ga_gives_10 : decode c_Ga_gives 10 = .ok (.istore_n 3, 1) := dc_of (x := (10, .istore_n 3, 1)) t0_Ga_gives_ok (i := 6) rfl
theorem d_Ga_gives_11 : decode c_Ga_gives 11 = .ok (.iload_n 2, 1) := dc_of (x := (11, .iload_n 2, 1)) t0_Ga_gives_ok (i := 7) rfl
theorem d_Ga_gives_12 : decode c_Ga_gives 12 = .ok (.iconst 3, 1) := dc_of (x := (12, .iconst 3, 1)) t0_Ga_gives_ok (i := 8) rfl
theorem d_Ga_gives_13 : decode c_Ga_gives 13 = .ok (.if_icmp .ne 7, 3) := dc_of (x := (13, .if_icmp .ne 7, 3)) t0_Ga_gives_ok (i := 9) rfl
theorem d_Ga_gives_16 : decode c_Ga_gives 16 = .ok (.iconst 2, 1) := dc_of (x := (16, .iconst 2, 1)) t0_Ga_gives_ok (i := 10) rfl
theorem d_Ga_gives_17 : decode c_Ga_gives 17 = .ok (.goto 4, 3) := dc_of (x := (17, .goto 4, 3)) t0_Ga_gives_ok (i := 11) rfl
theorem d_Ga_gives_20 : decode c_Ga_gives 20 = .ok (.iload_n 2, 1) := dc_of (x := (20, .iload_n 2, 1)) t0_Ga_gives_ok (i := 12) rfl
theorem d_Ga_gives_21 : decode c_Ga_gives 21 = .ok (.istore 4, 2) := dc_of (x := (21, .istore 4, 2)) t0_Ga_gives_ok (i := 13) rfl
theorem d_Ga_gives_23 : decode c_Ga_gives 23 = .ok (.aload_n 0, 1) := dc_of (x := (23, .aload_n 0, 1)) t0_Ga_gives_ok (i := 14) rfl
theorem d_Ga_gives_24 : decode c_Ga_gives 24 = .ok (.getfield 9, 3) := dc_of (x := (24, .getfield 9, 3)) t0_Ga_gives_ok (i := 15) rfl
theorem d_Ga_gives_27 : decode c_Ga_gives 27 = .ok (.tableswitch 190 1 6 #[37, 50, 80, 110, 137, 158], 37) := dc_of (x := (27, .tableswitch 190 1 6 #[37, 50, 80, 110, 137, 158], 37)) t0_Ga_gives_ok (i := 16) rfl
theorem d_Ga_gives_64 : decode c_Ga_gives 64 = .ok (.iload_n 3, 1) := dc_of (x := (64, .iload_n 3, 1)) t0_Ga_gives_ok (i := 17) rfl
theorem d_Ga_gives_65 : decode c_Ga_gives 65 = .ok (.iconst 2, 1) := dc_of (x := (65, .iconst 2, 1)) t0_Ga_gives_ok (i := 18) rfl
theorem d_Ga_gives_66 : decode c_Ga_gives 66 = .ok (.if_icmp .ne 7, 3) := dc_of (x := (66, .if_icmp .ne 7, 3)) t0_Ga_gives_ok (i := 19) rfl
theorem d_Ga_gives_69 : decode c_Ga_gives 69 = .ok (.iconst 2, 1) := dc_of (x := (69, .iconst 2, 1)) t0_Ga_gives_ok (i := 20) rfl
theorem d_Ga_gives_70 : decode c_Ga_gives 70 = .ok (.goto 6, 3) := dc_of (x := (70, .goto 6, 3)) t0_Ga_gives_ok (i := 21) rfl
theorem d_Ga_gives_73 : decode c_Ga_gives 73 = .ok (.iconst 1, 1) := dc_of (x := (73, .iconst 1, 1)) t0_Ga_gives_ok (i := 22) rfl
theorem d_Ga_gives_74 : decode c_Ga_gives 74 = .ok (.iload_n 3, 1) := dc_of (x := (74, .iload_n 3, 1)) t0_Ga_gives_ok (i := 23) rfl
theorem d_Ga_gives_75 : decode c_Ga_gives 75 = .ok (.isub, 1) := dc_of (x := (75, .isub, 1)) t0_Ga_gives_ok (i := 24) rfl
theorem d_Ga_gives_76 : decode c_Ga_gives 76 = .ok (.ireturn, 1) := dc_of (x := (76, .ireturn, 1)) t0_Ga_gives_ok (i := 25) rfl
theorem d_Ga_gives_77 : decode c_Ga_gives 77 = .ok (.iload_n 3, 1) := dc_of (x := (77, .iload_n 3, 1)) t0_Ga_gives_ok (i := 26) rfl
theorem d_Ga_gives_78 : decode c_Ga_gives 78 = .ok (.ifCond .eq 8, 3) := dc_of (x := (78, .ifCond .eq 8, 3)) t0_Ga_gives_ok (i := 27) rfl
theorem d_Ga_gives_81 : decode c_Ga_gives 81 = .ok (.iload 4, 2) := dc_of (x := (81, .iload 4, 2)) t0_Ga_gives_ok (i := 28) rfl
theorem d_Ga_gives_83 : decode c_Ga_gives 83 = .ok (.ifCond .ne 7, 3) := dc_of (x := (83, .ifCond .ne 7, 3)) t0_Ga_gives_ok (i := 29) rfl
theorem d_Ga_gives_86 : decode c_Ga_gives 86 = .ok (.iconst 0, 1) := dc_of (x := (86, .iconst 0, 1)) t0_Ga_gives_ok (i := 30) rfl
theorem d_Ga_gives_87 : decode c_Ga_gives 87 = .ok (.goto 19, 3) := dc_of (x := (87, .goto 19, 3)) t0_Ga_gives_ok (i := 31) rfl
theorem d_Ga_gives_90 : decode c_Ga_gives 90 = .ok (.iload_n 3, 1) := dc_of (x := (90, .iload_n 3, 1)) t0_Ga_gives_ok (i := 32) rfl
theorem d_Ga_gives_91 : decode c_Ga_gives 91 = .ok (.iconst 1, 1) := dc_of (x := (91, .iconst 1, 1)) t0_Ga_gives_ok (i := 33) rfl
theorem d_Ga_gives_92 : decode c_Ga_gives 92 = .ok (.if_icmp .ne 13, 3) := dc_of (x := (92, .if_icmp .ne 13, 3)) t0_Ga_gives_ok (i := 34) rfl
theorem d_Ga_gives_95 : decode c_Ga_gives 95 = .ok (.iload 4, 2) := dc_of (x := (95, .iload 4, 2)) t0_Ga_gives_ok (i := 35) rfl
theorem d_Ga_gives_97 : decode c_Ga_gives 97 = .ok (.iconst 1, 1) := dc_of (x := (97, .iconst 1, 1)) t0_Ga_gives_ok (i := 36) rfl
theorem d_Ga_gives_98 : decode c_Ga_gives 98 = .ok (.if_icmp .ne 7, 3) := dc_of (x := (98, .if_icmp .ne 7, 3)) t0_Ga_gives_ok (i := 37) rfl
theorem d_Ga_gives_101 : decode c_Ga_gives 101 = .ok (.iconst 1, 1) := dc_of (x := (101, .iconst 1, 1)) t0_Ga_gives_ok (i := 38) rfl
theorem d_Ga_gives_102 : decode c_Ga_gives 102 = .ok (.goto 4, 3) := dc_of (x := (102, .goto 4, 3)) t0_Ga_gives_ok (i := 39) rfl
theorem d_Ga_gives_105 : decode c_Ga_gives 105 = .ok (.iconst 2, 1) := dc_of (x := (105, .iconst 2, 1)) t0_Ga_gives_ok (i := 40) rfl
theorem d_Ga_gives_106 : decode c_Ga_gives 106 = .ok (.ireturn, 1) := dc_of (x := (106, .ireturn, 1)) t0_Ga_gives_ok (i := 41) rfl
theorem d_Ga_gives_107 : decode c_Ga_gives 107 = .ok (.iload_n 3, 1) := dc_of (x := (107, .iload_n 3, 1)) t0_Ga_gives_ok (i := 42) rfl
theorem d_Ga_gives_108 : decode c_Ga_gives 108 = .ok (.iconst 1, 1) := dc_of (x := (108, .iconst 1, 1)) t0_Ga_gives_ok (i := 43) rfl
theorem d_Ga_gives_109 : decode c_Ga_gives 109 = .ok (.if_icmp .eq 9, 3) := dc_of (x := (109, .if_icmp .eq 9, 3)) t0_Ga_gives_ok (i := 44) rfl
theorem d_Ga_gives_112 : decode c_Ga_gives 112 = .ok (.iload 4, 2) := dc_of (x := (112, .iload 4, 2)) t0_Ga_gives_ok (i := 45) rfl
theorem d_Ga_gives_114 : decode c_Ga_gives 114 = .ok (.iconst 1, 1) := dc_of (x := (114, .iconst 1, 1)) t0_Ga_gives_ok (i := 46) rfl
theorem d_Ga_gives_115 : decode c_Ga_gives 115 = .ok (.if_icmp .ne 7, 3) := dc_of (x := (115, .if_icmp .ne 7, 3)) t0_Ga_gives_ok (i := 47) rfl
theorem d_Ga_gives_118 : decode c_Ga_gives 118 = .ok (.iconst 1, 1) := dc_of (x := (118, .iconst 1, 1)) t0_Ga_gives_ok (i := 48) rfl
theorem d_Ga_gives_119 : decode c_Ga_gives 119 = .ok (.goto 17, 3) := dc_of (x := (119, .goto 17, 3)) t0_Ga_gives_ok (i := 49) rfl
theorem d_Ga_gives_122 : decode c_Ga_gives 122 = .ok (.iload_n 3, 1) := dc_of (x := (122, .iload_n 3, 1)) t0_Ga_gives_ok (i := 50) rfl
theorem d_Ga_gives_123 : decode c_Ga_gives 123 = .ok (.ifCond .ne 12, 3) := dc_of (x := (123, .ifCond .ne 12, 3)) t0_Ga_gives_ok (i := 51) rfl
theorem d_Ga_gives_126 : decode c_Ga_gives 126 = .ok (.iload 4, 2) := dc_of (x := (126, .iload 4, 2)) t0_Ga_gives_ok (i := 52) rfl
theorem d_Ga_gives_128 : decode c_Ga_gives 128 = .ok (.ifCond .ne 7, 3) := dc_of (x := (128, .ifCond .ne 7, 3)) t0_Ga_gives_ok (i := 53) rfl
theorem d_Ga_gives_131 : decode c_Ga_gives 131 = .ok (.iconst 0, 1) := dc_of (x := (131, .iconst 0, 1)) t0_Ga_gives_ok (i := 54) rfl
theorem d_Ga_gives_132 : decode c_Ga_gives 132 = .ok (.goto 4, 3) := dc_of (x := (132, .goto 4, 3)) t0_Ga_gives_ok (i := 55) rfl
theorem d_Ga_gives_135 : decode c_Ga_gives 135 = .ok (.iconst 2, 1) := dc_of (x := (135, .iconst 2, 1)) t0_Ga_gives_ok (i := 56) rfl
theorem d_Ga_gives_136 : decode c_Ga_gives 136 = .ok (.ireturn, 1) := dc_of (x := (136, .ireturn, 1)) t0_Ga_gives_ok (i := 57) rfl
theorem d_Ga_gives_137 : decode c_Ga_gives 137 = .ok (.iload_n 3, 1) := dc_of (x := (137, .iload_n 3, 1)) t0_Ga_gives_ok (i := 58) rfl
theorem d_Ga_gives_138 : decode c_Ga_gives 138 = .ok (.iconst 2, 1) := dc_of (x := (138, .iconst 2, 1)) t0_Ga_gives_ok (i := 59) rfl
theorem d_Ga_gives_139 : decode c_Ga_gives 139 = .ok (.if_icmp .eq 9, 3) := dc_of (x := (139, .if_icmp .eq 9, 3)) t1_Ga_gives_ok (i := 0) rfl
theorem d_Ga_gives_142 : decode c_Ga_gives 142 = .ok (.iload 4, 2) := dc_of (x := (142, .iload 4, 2)) t1_Ga_gives_ok (i := 1) rfl
theorem d_Ga_gives_144 : decode c_Ga_gives 144 = .ok (.iconst 2, 1) := dc_of (x := (144, .iconst 2, 1)) t1_Ga_gives_ok (i := 2) rfl
theorem d_Ga_gives_145 : decode c_Ga_gives 145 = .ok (.if_icmp .ne 7, 3) := dc_of (x := (145, .if_icmp .ne 7, 3)) t1_Ga_gives_ok (i := 3) rfl
theorem d_Ga_gives_148 : decode c_Ga_gives 148 = .ok (.iconst 2, 1) := dc_of (x := (148, .iconst 2, 1)) t1_Ga_gives_ok (i := 4) rfl
theorem d_Ga_gives_149 : decode c_Ga_gives 149 = .ok (.goto 14, 3) := dc_of (x := (149, .goto 14, 3)) t1_Ga_gives_ok (i := 5) rfl
theorem d_Ga_gives_152 : decode c_Ga_gives 152 = .ok (.iload_n 3, 1) := dc_of (x := (152, .iload_n 3, 1)) t1_Ga_gives_ok (i := 6) rfl
theorem d_Ga_gives_153 : decode c_Ga_gives 153 = .ok (.iload 4, 2) := dc_of (x := (153, .iload 4, 2)) t1_Ga_gives_ok (i := 7) rfl
theorem d_Ga_gives_155 : decode c_Ga_gives 155 = .ok (.if_icmp .ne 7, 3) := dc_of (x := (155, .if_icmp .ne 7, 3)) t1_Ga_gives_ok (i := 8) rfl
theorem d_Ga_gives_158 : decode c_Ga_gives 158 = .ok (.iconst 0, 1) := dc_of (x := (158, .iconst 0, 1)) t1_Ga_gives_ok (i := 9) rfl
theorem d_Ga_gives_159 : decode c_Ga_gives 159 = .ok (.goto 4, 3) := dc_of (x := (159, .goto 4, 3)) t1_Ga_gives_ok (i := 10) rfl
theorem d_Ga_gives_162 : decode c_Ga_gives 162 = .ok (.iconst 1, 1) := dc_of (x := (162, .iconst 1, 1)) t1_Ga_gives_ok (i := 11) rfl
theorem d_Ga_gives_163 : decode c_Ga_gives 163 = .ok (.ireturn, 1) := dc_of (x := (163, .ireturn, 1)) t1_Ga_gives_ok (i := 12) rfl
theorem d_Ga_gives_164 : decode c_Ga_gives 164 = .ok (.iload 4, 2) := dc_of (x := (164, .iload 4, 2)) t1_Ga_gives_ok (i := 13) rfl
theorem d_Ga_gives_166 : decode c_Ga_gives 166 = .ok (.iconst 1, 1) := dc_of (x := (166, .iconst 1, 1)) t1_Ga_gives_ok (i := 14) rfl
theorem d_Ga_gives_167 : decode c_Ga_gives 167 = .ok (.if_icmp .ne 7, 3) := dc_of (x := (167, .if_icmp .ne 7, 3)) t1_Ga_gives_ok (i := 15) rfl
theorem d_Ga_gives_170 : decode c_Ga_gives 170 = .ok (.iload_n 3, 1) := dc_of (x := (170, .iload_n 3, 1)) t1_Ga_gives_ok (i := 16) rfl
theorem d_Ga_gives_171 : decode c_Ga_gives 171 = .ok (.goto 13, 3) := dc_of (x := (171, .goto 13, 3)) t1_Ga_gives_ok (i := 17) rfl
theorem d_Ga_gives_174 : decode c_Ga_gives 174 = .ok (.iload 4, 2) := dc_of (x := (174, .iload 4, 2)) t1_Ga_gives_ok (i := 18) rfl
theorem d_Ga_gives_176 : decode c_Ga_gives 176 = .ok (.ifCond .ne 7, 3) := dc_of (x := (176, .ifCond .ne 7, 3)) t1_Ga_gives_ok (i := 19) rfl
theorem d_Ga_gives_179 : decode c_Ga_gives 179 = .ok (.iconst 3, 1) := dc_of (x := (179, .iconst 3, 1)) t1_Ga_gives_ok (i := 20) rfl
theorem d_Ga_gives_180 : decode c_Ga_gives 180 = .ok (.goto 4, 3) := dc_of (x := (180, .goto 4, 3)) t1_Ga_gives_ok (i := 21) rfl
theorem d_Ga_gives_183 : decode c_Ga_gives 183 = .ok (.iconst 2, 1) := dc_of (x := (183, .iconst 2, 1)) t1_Ga_gives_ok (i := 22) rfl
theorem d_Ga_gives_184 : decode c_Ga_gives 184 = .ok (.ireturn, 1) := dc_of (x := (184, .ireturn, 1)) t1_Ga_gives_ok (i := 23) rfl
theorem d_Ga_gives_185 : decode c_Ga_gives 185 = .ok (.iload 4, 2) := dc_of (x := (185, .iload 4, 2)) t1_Ga_gives_ok (i := 24) rfl
theorem d_Ga_gives_187 : decode c_Ga_gives 187 = .ok (.iconst 1, 1) := dc_of (x := (187, .iconst 1, 1)) t1_Ga_gives_ok (i := 25) rfl
theorem d_Ga_gives_188 : decode c_Ga_gives 188 = .ok (.if_icmp .ne 7, 3) := dc_of (x := (188, .if_icmp .ne 7, 3)) t1_Ga_gives_ok (i := 26) rfl
theorem d_Ga_gives_191 : decode c_Ga_gives 191 = .ok (.iload_n 3, 1) := dc_of (x := (191, .iload_n 3, 1)) t1_Ga_gives_ok (i := 27) rfl
theorem d_Ga_gives_192 : decode c_Ga_gives 192 = .ok (.goto 24, 3) := dc_of (x := (192, .goto 24, 3)) t1_Ga_gives_ok (i := 28) rfl
theorem d_Ga_gives_195 : decode c_Ga_gives 195 = .ok (.iload 4, 2) := dc_of (x := (195, .iload 4, 2)) t1_Ga_gives_ok (i := 29) rfl
theorem d_Ga_gives_197 : decode c_Ga_gives 197 = .ok (.ifCond .eq 11, 3) := dc_of (x := (197, .ifCond .eq 11, 3)) t1_Ga_gives_ok (i := 30) rfl
theorem d_Ga_gives_200 : decode c_Ga_gives 200 = .ok (.aload_n 0, 1) := dc_of (x := (200, .aload_n 0, 1)) t1_Ga_gives_ok (i := 31) rfl
theorem d_Ga_gives_201 : decode c_Ga_gives 201 = .ok (.getfield 30, 3) := dc_of (x := (201, .getfield 30, 3)) t1_Ga_gives_ok (i := 32) rfl
theorem d_Ga_gives_204 : decode c_Ga_gives 204 = .ok (.iload_n 3, 1) := dc_of (x := (204, .iload_n 3, 1)) t1_Ga_gives_ok (i := 33) rfl
theorem d_Ga_gives_205 : decode c_Ga_gives 205 = .ok (.if_icmp .ne 10, 3) := dc_of (x := (205, .if_icmp .ne 10, 3)) t1_Ga_gives_ok (i := 34) rfl
theorem d_Ga_gives_208 : decode c_Ga_gives 208 = .ok (.aload_n 0, 1) := dc_of (x := (208, .aload_n 0, 1)) t1_Ga_gives_ok (i := 35) rfl
theorem d_Ga_gives_209 : decode c_Ga_gives 209 = .ok (.getfield 30, 3) := dc_of (x := (209, .getfield 30, 3)) t1_Ga_gives_ok (i := 36) rfl
theorem d_Ga_gives_212 : decode c_Ga_gives 212 = .ok (.goto 4, 3) := dc_of (x := (212, .goto 4, 3)) t1_Ga_gives_ok (i := 37) rfl
theorem d_Ga_gives_215 : decode c_Ga_gives 215 = .ok (.iconst 2, 1) := dc_of (x := (215, .iconst 2, 1)) t1_Ga_gives_ok (i := 38) rfl
theorem d_Ga_gives_216 : decode c_Ga_gives 216 = .ok (.ireturn, 1) := dc_of (x := (216, .ireturn, 1)) t1_Ga_gives_ok (i := 39) rfl
theorem d_Ga_gives_217 : decode c_Ga_gives 217 = .ok (.iload_n 3, 1) := dc_of (x := (217, .iload_n 3, 1)) t1_Ga_gives_ok (i := 40) rfl
theorem d_Ga_gives_218 : decode c_Ga_gives 218 = .ok (.ireturn, 1) := dc_of (x := (218, .ireturn, 1)) t1_Ga_gives_ok (i := 41) rfl
def t0_Ga_delayTo : List (Nat × Instr × Nat) := [(0, .iload_n 1, 1), (1, .tableswitch 49 0 2 #[27, 32, 37], 27), (28, .aload_n 0, 1), (29, .getfield 27, 3), (32, .ireturn, 1), (33, .aload_n 0, 1), (34, .getfield 24, 3), (37, .ireturn, 1), (38, .aload_n 0, 1), (39, .getfield 24, 3), (42, .aload_n 0, 1), (43, .getfield 27, 3), (46, .invokestatic 46, 3), (49, .ireturn, 1), (50, .aload_n 0, 1), (51, .getfield 24, 3), (54, .aload_n 0, 1), (55, .getfield 27, 3), (58, .invokestatic 52, 3), (61, .ireturn, 1)]
theorem t0_Ga_delayTo_ok : t0_Ga_delayTo.all (fun x => decide (decode c_Ga_delayTo x.1 = .ok x.2)) = true := by decide +kernel
theorem d_Ga_delayTo_0 : decode c_Ga_delayTo 0 = .ok (.iload_n 1, 1) := dc_of (x := (0, .iload_n 1, 1)) t0_Ga_delayTo_ok (i := 0) rfl
theorem d_Ga_delayTo_1 : decode c_Ga_delayTo 1 = .ok (.tableswitch 49 0 2 #[27, 32, 37], 27) := dc_of (x := (1, .tableswitch 49 0 2 #[27, 32, 37], 27)) t0_Ga_delayTo_ok (i := 1) rfl
theorem d_Ga_delayTo_28 : decode c_Ga_delayTo 28 = .ok (.aload_n 0, 1) := dc_of (x := (28, .aload_n 0, 1)) t0_Ga_delayTo_ok (i := 2) rfl
theorem d_Ga_delayTo_29 : decode c_Ga_delayTo 29 = .ok (.getfield 27, 3) := dc_of (x := (29, .getfield 27, 3)) t0_Ga_delayTo_ok (i := 3) rfl
theorem d_Ga_delayTo_32 : decode c_Ga_delayTo 32 = .ok (.ireturn, 1) := dc_of (x := (32, .ireturn, 1)) t0_Ga_delayTo_ok (i := 4) rfl
theorem d_Ga_delayTo_33 : decode c_Ga_delayTo 33 = .ok (.aload_n 0, 1) := dc_of (x := (33, .aload_n 0, 1)) t0_Ga_delayTo_ok (i := 5) rfl
theorem d_Ga_delayTo_34 : decode c_Ga_delayTo 34 = .ok (.getfield 24, 3) := dc_of (x := (34, .getfield 24, 3)) t0_Ga_delayTo_ok (i := 6) rfl
theorem d_Ga_delayTo_37 : decode c_Ga_delayTo 37 = .ok (.ireturn, 1) := dc_of (x := (37, .ireturn, 1)) t0_Ga_delayTo_ok (i := 7) rfl
theorem d_Ga_delayTo_38 : decode c_Ga_delayTo 38 = .ok (.aload_n 0, 1) := dc_of (x := (38, .aload_n 0, 1)) t0_Ga_delayTo_ok (i := 8) rfl
theorem d_Ga_delayTo_39 : decode c_Ga_delayTo 39 = .ok (.getfield 24, 3) := dc_of (x := (39, .getfield 24, 3)) t0_Ga_delayTo_ok (i := 9) rfl
theorem d_Ga_delayTo_42 : decode c_Ga_delayTo 42 = .ok (.aload_n 0, 1) := dc_of (x := (42, .aload_n 0, 1)) t0_Ga_delayTo_ok (i := 10) rfl
theorem d_Ga_delayTo_43 : decode c_Ga_delayTo 43 = .ok (.getfield 27, 3) := dc_of (x := (43, .getfield 27, 3)) t0_Ga_delayTo_ok (i := 11) rfl
theorem d_Ga_delayTo_46 : decode c_Ga_delayTo 46 = .ok (.invokestatic 46, 3) := dc_of (x := (46, .invokestatic 46, 3)) t0_Ga_delayTo_ok (i := 12) rfl
theorem d_Ga_delayTo_49 : decode c_Ga_delayTo 49 = .ok (.ireturn, 1) := dc_of (x := (49, .ireturn, 1)) t0_Ga_delayTo_ok (i := 13) rfl
theorem d_Ga_delayTo_50 : decode c_Ga_delayTo 50 = .ok (.aload_n 0, 1) := dc_of (x := (50, .aload_n 0, 1)) t0_Ga_delayTo_ok (i := 14) rfl
theorem d_Ga_delayTo_51 : decode c_Ga_delayTo 51 = .ok (.getfield 24, 3) := dc_of (x := (51, .getfield 24, 3)) t0_Ga_delayTo_ok (i := 15) rfl
theorem d_Ga_delayTo_54 : decode c_Ga_delayTo 54 = .ok (.aload_n 0, 1) := dc_of (x := (54, .aload_n 0, 1)) t0_Ga_delayTo_ok (i := 16) rfl
theorem d_Ga_delayTo_55 : decode c_Ga_delayTo 55 = .ok (.getfield 27, 3) := dc_of (x := (55, .getfield 27, 3)) t0_Ga_delayTo_ok (i := 17) rfl
theorem d_Ga_delayTo_58 : decode c_Ga_delayTo 58 = .ok (.invokestatic 52, 3) := dc_of (x := (58, .invokestatic 52, 3)) t0_Ga_delayTo_ok (i := 18) rfl
theorem d_Ga_delayTo_61 : decode c_Ga_delayTo 61 = .ok (.ireturn, 1) := dc_of (x := (61, .ireturn, 1)) t0_Ga_delayTo_ok (i := 19) rfl
def t0_Ga_ask : List (Nat × Instr × Nat) := [(0, .iload_n 1, 1), (1, .aload_n 0, 1), (2, .getfield 33, 3), (5, .if_icmp .ne 9, 3), (8, .aload_n 0, 1), (9, .iconst (-1), 1), (10, .putfield 36, 3), (13, .return_, 1), (14, .lload_n 2, 1), (15, .aload_n 0, 1), (16, .iload_n 1, 1), (17, .invokevirtual 55, 3), (20, .i2l, 1), (21, .ladd, 1), (22, .lstore 5, 2), (24, .aload_n 0, 1), (25, .getfield 33, 3), (28, .iconst (-1), 1), (29, .if_icmp .eq 33, 3), (32, .iload 4, 2), (34, .iconst 1, 1), (35, .if_icmp .ne 27, 3), (38, .aload_n 0, 1), (39, .iconst 2, 1), (40, .putfield 33, 3), (43, .aload_n 0, 1), (44, .iload_n 1, 1), (45, .putfield 36, 3), (48, .aload_n 0, 1), (49, .aload_n 0, 1), (50, .getfield 39, 3), (53, .lload 5, 2), (55, .invokestatic 59, 3), (58, .putfield 43, 3), (61, .return_, 1), (62, .aload_n 0, 1), (63, .iload_n 1, 1), (64, .aload_n 0, 1), (65, .getfield 30, 3), (68, .if_icmp .ne 7, 3), (71, .iconst (-1), 1), (72, .goto 4, 3), (75, .iload_n 1, 1), (76, .putfield 33, 3), (79, .aload_n 0, 1), (80, .lload 5, 2), (82, .putfield 39, 3), (85, .aload_n 0, 1), (86, .iconst (-1), 1), (87, .putfield 36, 3), (90, .return_, 1)]
theorem t0_Ga_ask_ok : t0_Ga_ask.all (fun x => decide (decode c_Ga_ask x.1 = .ok x.2)) = true := by decide +kernel
theorem d_Ga_ask_0 : decode c_Ga_ask 0 = .ok (.iload_n 1, 1) := dc_of (x := (0, .iload_n 1, 1)) t0_Ga_ask_ok (i := 0) rfl
theorem d_Ga_ask_1 : decode c_Ga_ask 1 = .ok (.aload_n 0, 1) := dc_of (x := (1, .aload_n 0, 1)) t0_Ga_ask_ok (i := 1) rfl
theorem d_Ga_ask_2 : decode c_Ga_ask 2 = .ok (.getfield 33, 3) := dc_of (x := (2, .getfield 33, 3)) t0_Ga_ask_ok (i := 2) rfl
theorem d_Ga_ask_5 : decode c_Ga_ask 5 = .ok (.if_icmp .ne 9, 3) := dc_of (x := (5, .if_icmp .ne 9, 3)) t0_Ga_ask_ok (i := 3) rfl
theorem d_Ga_ask_8 : decode c_Ga_ask 8 = .ok (.aload_n 0, 1) := dc_of (x := (8, .aload_n 0, 1)) t0_Ga_ask_ok (i := 4) rfl
theorem d_Ga_ask_9 : decode c_Ga_ask 9 = .ok (.iconst (-1), 1) := dc_of (x := (9, .iconst (-1), 1)) t0_Ga_ask_ok (i := 5) rfl
theorem d_Ga_ask_10 : decode c_Ga_ask 10 = .ok (.putfield 36, 3) := dc_of (x := (10, .putfield 36, 3)) t0_Ga_ask_ok (i := 6) rfl
theorem d_Ga_ask_13 : decode c_Ga_ask 13 = .ok (.return_, 1) := dc_of (x := (13, .return_, 1)) t0_Ga_ask_ok (i := 7) rfl
theorem d_Ga_ask_14 : decode c_Ga_ask 14 = .ok (.lload_n 2, 1) := dc_of (x := (14, .lload_n 2, 1)) t0_Ga_ask_ok (i := 8) rfl
theorem d_Ga_ask_15 : decode c_Ga_ask 15 = .ok (.aload_n 0, 1) := dc_of (x := (15, .aload_n 0, 1)) t0_Ga_ask_ok (i := 9) rfl
theorem d_Ga_ask_16 : decode c_Ga_ask 16 = .ok (.iload_n 1, 1) := dc_of (x := (16, .iload_n 1, 1)) t0_Ga_ask_ok (i := 10) rfl
theorem d_Ga_ask_17 : decode c_Ga_ask 17 = .ok (.invokevirtual 55, 3) := dc_of (x := (17, .invokevirtual 55, 3)) t0_Ga_ask_ok (i := 11) rfl
theorem d_Ga_ask_20 : decode c_Ga_ask 20 = .ok (.i2l, 1) := dc_of (x := (20, .i2l, 1)) t0_Ga_ask_ok (i := 12) rfl
theorem d_Ga_ask_21 : decode c_Ga_ask 21 = .ok (.ladd, 1) := dc_of (x := (21, .ladd, 1)) t0_Ga_ask_ok (i := 13) rfl
theorem d_Ga_ask_22 : decode c_Ga_ask 22 = .ok (.lstore 5, 2) := dc_of (x := (22, .lstore 5, 2)) t0_Ga_ask_ok (i := 14) rfl
theorem d_Ga_ask_24 : decode c_Ga_ask 24 = .ok (.aload_n 0, 1) := dc_of (x := (24, .aload_n 0, 1)) t0_Ga_ask_ok (i := 15) rfl
theorem d_Ga_ask_25 : decode c_Ga_ask 25 = .ok (.getfield 33, 3) := dc_of (x := (25, .getfield 33, 3)) t0_Ga_ask_ok (i := 16) rfl
theorem d_Ga_ask_28 : decode c_Ga_ask 28 = .ok (.iconst (-1), 1) := dc_of (x := (28, .iconst (-1), 1)) t0_Ga_ask_ok (i := 17) rfl
theorem d_Ga_ask_29 : decode c_Ga_ask 29 = .ok (.if_icmp .eq 33, 3) := dc_of (x := (29, .if_icmp .eq 33, 3)) t0_Ga_ask_ok (i := 18) rfl
theorem d_Ga_ask_32 : decode c_Ga_ask 32 = .ok (.iload 4, 2) := dc_of (x := (32, .iload 4, 2)) t0_Ga_ask_ok (i := 19) rfl
theorem d_Ga_ask_34 : decode c_Ga_ask 34 = .ok (.iconst 1, 1) := dc_of (x := (34, .iconst 1, 1)) t0_Ga_ask_ok (i := 20) rfl
theorem d_Ga_ask_35 : decode c_Ga_ask 35 = .ok (.if_icmp .ne 27, 3) := dc_of (x := (35, .if_icmp .ne 27, 3)) t0_Ga_ask_ok (i := 21) rfl
theorem d_Ga_ask_38 : decode c_Ga_ask 38 = .ok (.aload_n 0, 1) := dc_of (x := (38, .aload_n 0, 1)) t0_Ga_ask_ok (i := 22) rfl
theorem d_Ga_ask_39 : decode c_Ga_ask 39 = .ok (.iconst 2, 1) := dc_of (x := (39, .iconst 2, 1)) t0_Ga_ask_ok (i := 23) rfl
theorem d_Ga_ask_40 : decode c_Ga_ask 40 = .ok (.putfield 33, 3) := dc_of (x := (40, .putfield 33, 3)) t0_Ga_ask_ok (i := 24) rfl
theorem d_Ga_ask_43 : decode c_Ga_ask 43 = .ok (.aload_n 0, 1) := dc_of (x := (43, .aload_n 0, 1)) t0_Ga_ask_ok (i := 25) rfl
theorem d_Ga_ask_44 : decode c_Ga_ask 44 = .ok (.iload_n 1, 1) := dc_of (x := (44, .iload_n 1, 1)) t0_Ga_ask_ok (i := 26) rfl
theorem d_Ga_ask_45 : decode c_Ga_ask 45 = .ok (.putfield 36, 3) := dc_of (x := (45, .putfield 36, 3)) t0_Ga_ask_ok (i := 27) rfl
theorem d_Ga_ask_48 : decode c_Ga_ask 48 = .ok (.aload_n 0, 1) := dc_of (x := (48, .aload_n 0, 1)) t0_Ga_ask_ok (i := 28) rfl
theorem d_Ga_ask_49 : decode c_Ga_ask 49 = .ok (.aload_n 0, 1) := dc_of (x := (49, .aload_n 0, 1)) t0_Ga_ask_ok (i := 29) rfl
theorem d_Ga_ask_50 : decode c_Ga_ask 50 = .ok (.getfield 39, 3) := dc_of (x := (50, .getfield 39, 3)) t0_Ga_ask_ok (i := 30) rfl
theorem d_Ga_ask_53 : decode c_Ga_ask 53 = .ok (.lload 5, 2) := dc_of (x := (53, .lload 5, 2)) t0_Ga_ask_ok (i := 31) rfl
theorem d_Ga_ask_55 : decode c_Ga_ask 55 = .ok (.invokestatic 59, 3) := dc_of (x := (55, .invokestatic 59, 3)) t0_Ga_ask_ok (i := 32) rfl
theorem d_Ga_ask_58 : decode c_Ga_ask 58 = .ok (.putfield 43, 3) := dc_of (x := (58, .putfield 43, 3)) t0_Ga_ask_ok (i := 33) rfl
theorem d_Ga_ask_61 : decode c_Ga_ask 61 = .ok (.return_, 1) := dc_of (x := (61, .return_, 1)) t0_Ga_ask_ok (i := 34) rfl
theorem d_Ga_ask_62 : decode c_Ga_ask 62 = .ok (.aload_n 0, 1) := dc_of (x := (62, .aload_n 0, 1)) t0_Ga_ask_ok (i := 35) rfl
theorem d_Ga_ask_63 : decode c_Ga_ask 63 = .ok (.iload_n 1, 1) := dc_of (x := (63, .iload_n 1, 1)) t0_Ga_ask_ok (i := 36) rfl
theorem d_Ga_ask_64 : decode c_Ga_ask 64 = .ok (.aload_n 0, 1) := dc_of (x := (64, .aload_n 0, 1)) t0_Ga_ask_ok (i := 37) rfl
theorem d_Ga_ask_65 : decode c_Ga_ask 65 = .ok (.getfield 30, 3) := dc_of (x := (65, .getfield 30, 3)) t0_Ga_ask_ok (i := 38) rfl
theorem d_Ga_ask_68 : decode c_Ga_ask 68 = .ok (.if_icmp .ne 7, 3) := dc_of (x := (68, .if_icmp .ne 7, 3)) t0_Ga_ask_ok (i := 39) rfl
theorem d_Ga_ask_71 : decode c_Ga_ask 71 = .ok (.iconst (-1), 1) := dc_of (x := (71, .iconst (-1), 1)) t0_Ga_ask_ok (i := 40) rfl
theorem d_Ga_ask_72 : decode c_Ga_ask 72 = .ok (.goto 4, 3) := dc_of (x := (72, .goto 4, 3)) t0_Ga_ask_ok (i := 41) rfl
theorem d_Ga_ask_75 : decode c_Ga_ask 75 = .ok (.iload_n 1, 1) := dc_of (x := (75, .iload_n 1, 1)) t0_Ga_ask_ok (i := 42) rfl
theorem d_Ga_ask_76 : decode c_Ga_ask 76 = .ok (.putfield 33, 3) := dc_of (x := (76, .putfield 33, 3)) t0_Ga_ask_ok (i := 43) rfl
theorem d_Ga_ask_79 : decode c_Ga_ask 79 = .ok (.aload_n 0, 1) := dc_of (x := (79, .aload_n 0, 1)) t0_Ga_ask_ok (i := 44) rfl
theorem d_Ga_ask_80 : decode c_Ga_ask 80 = .ok (.lload 5, 2) := dc_of (x := (80, .lload 5, 2)) t0_Ga_ask_ok (i := 45) rfl
theorem d_Ga_ask_82 : decode c_Ga_ask 82 = .ok (.putfield 39, 3) := dc_of (x := (82, .putfield 39, 3)) t0_Ga_ask_ok (i := 46) rfl
theorem d_Ga_ask_85 : decode c_Ga_ask 85 = .ok (.aload_n 0, 1) := dc_of (x := (85, .aload_n 0, 1)) t0_Ga_ask_ok (i := 47) rfl
theorem d_Ga_ask_86 : decode c_Ga_ask 86 = .ok (.iconst (-1), 1) := dc_of (x := (86, .iconst (-1), 1)) t0_Ga_ask_ok (i := 48) rfl
theorem d_Ga_ask_87 : decode c_Ga_ask 87 = .ok (.putfield 36, 3) := dc_of (x := (87, .putfield 36, 3)) t0_Ga_ask_ok (i := 49) rfl
theorem d_Ga_ask_90 : decode c_Ga_ask 90 = .ok (.return_, 1) := dc_of (x := (90, .return_, 1)) t0_Ga_ask_ok (i := 50) rfl
def t0_Ga_takeWaiting : List (Nat × Instr × Nat) := [(0, .aload_n 0, 1), (1, .aload_n 0, 1), (2, .getfield 33, 3), (5, .putfield 30, 3), (8, .aload_n 0, 1), (9, .aload_n 0, 1), (10, .getfield 36, 3), (13, .aload_n 0, 1), (14, .getfield 30, 3), (17, .if_icmp .ne 7, 3), (20, .iconst (-1), 1), (21, .goto 7, 3), (24, .aload_n 0, 1), (25, .getfield 36, 3), (28, .putfield 33, 3), (31, .aload_n 0, 1), (32, .aload_n 0, 1), (33, .getfield 43, 3), (36, .putfield 39, 3), (39, .aload_n 0, 1), (40, .iconst (-1), 1), (41, .putfield 36, 3), (44, .return_, 1)]
theorem t0_Ga_takeWaiting_ok : t0_Ga_takeWaiting.all (fun x => decide (decode c_Ga_takeWaiting x.1 = .ok x.2)) = true := by decide +kernel
theorem d_Ga_takeWaiting_0 : decode c_Ga_takeWaiting 0 = .ok (.aload_n 0, 1) := dc_of (x := (0, .aload_n 0, 1)) t0_Ga_takeWaiting_ok (i := 0) rfl
theorem d_Ga_takeWaiting_1 : decode c_Ga_takeWaiting 1 = .ok (.aload_n 0, 1) := dc_of (x := (1, .aload_n 0, 1)) t0_Ga_takeWaiting_ok (i := 1) rfl
theorem d_Ga_takeWaiting_2 : decode c_Ga_takeWaiting 2 = .ok (.getfield 33, 3) := dc_of (x := (2, .getfield 33, 3)) t0_Ga_takeWaiting_ok (i := 2) rfl
theorem d_Ga_takeWaiting_5 : decode c_Ga_takeWaiting 5 = .ok (.putfield 30, 3) := dc_of (x := (5, .putfield 30, 3)) t0_Ga_takeWaiting_ok (i := 3) rfl
theorem d_Ga_takeWaiting_8 : decode c_Ga_takeWaiting 8 = .ok (.aload_n 0, 1) := dc_of (x := (8, .aload_n 0, 1)) t0_Ga_takeWaiting_ok (i := 4) rfl
theorem d_Ga_takeWaiting_9 : decode c_Ga_takeWaiting 9 = .ok (.aload_n 0, 1) := dc_of (x := (9, .aload_n 0, 1)) t0_Ga_takeWaiting_ok (i := 5) rfl
theorem d_Ga_takeWaiting_10 : decode c_Ga_takeWaiting 10 = .ok (.getfield 36, 3) := dc_of (x := (10, .getfield 36, 3)) t0_Ga_takeWaiting_ok (i := 6) rfl
theorem d_Ga_takeWaiting_13 : decode c_Ga_takeWaiting 13 = .ok (.aload_n 0, 1) := dc_of (x := (13, .aload_n 0, 1)) t0_Ga_takeWaiting_ok (i := 7) rfl
theorem d_Ga_takeWaiting_14 : decode c_Ga_takeWaiting 14 = .ok (.getfield 30, 3) := dc_of (x := (14, .getfield 30, 3)) t0_Ga_takeWaiting_ok (i := 8) rfl
theorem d_Ga_takeWaiting_17 : decode c_Ga_takeWaiting 17 = .ok (.if_icmp .ne 7, 3) := dc_of (x := (17, .if_icmp .ne 7, 3)) t0_Ga_takeWaiting_ok (i := 9) rfl
theorem d_Ga_takeWaiting_20 : decode c_Ga_takeWaiting 20 = .ok (.iconst (-1), 1) := dc_of (x := (20, .iconst (-1), 1)) t0_Ga_takeWaiting_ok (i := 10) rfl
theorem d_Ga_takeWaiting_21 : decode c_Ga_takeWaiting 21 = .ok (.goto 7, 3) := dc_of (x := (21, .goto 7, 3)) t0_Ga_takeWaiting_ok (i := 11) rfl
theorem d_Ga_takeWaiting_24 : decode c_Ga_takeWaiting 24 = .ok (.aload_n 0, 1) := dc_of (x := (24, .aload_n 0, 1)) t0_Ga_takeWaiting_ok (i := 12) rfl
theorem d_Ga_takeWaiting_25 : decode c_Ga_takeWaiting 25 = .ok (.getfield 36, 3) := dc_of (x := (25, .getfield 36, 3)) t0_Ga_takeWaiting_ok (i := 13) rfl
theorem d_Ga_takeWaiting_28 : decode c_Ga_takeWaiting 28 = .ok (.putfield 33, 3) := dc_of (x := (28, .putfield 33, 3)) t0_Ga_takeWaiting_ok (i := 14) rfl
theorem d_Ga_takeWaiting_31 : decode c_Ga_takeWaiting 31 = .ok (.aload_n 0, 1) := dc_of (x := (31, .aload_n 0, 1)) t0_Ga_takeWaiting_ok (i := 15) rfl
theorem d_Ga_takeWaiting_32 : decode c_Ga_takeWaiting 32 = .ok (.aload_n 0, 1) := dc_of (x := (32, .aload_n 0, 1)) t0_Ga_takeWaiting_ok (i := 16) rfl
theorem d_Ga_takeWaiting_33 : decode c_Ga_takeWaiting 33 = .ok (.getfield 43, 3) := dc_of (x := (33, .getfield 43, 3)) t0_Ga_takeWaiting_ok (i := 17) rfl
theorem d_Ga_takeWaiting_36 : decode c_Ga_takeWaiting 36 = .ok (.putfield 39, 3) := dc_of (x := (36, .putfield 39, 3)) t0_Ga_takeWaiting_ok (i := 18) rfl
theorem d_Ga_takeWaiting_39 : decode c_Ga_takeWaiting 39 = .ok (.aload_n 0, 1) := dc_of (x := (39, .aload_n 0, 1)) t0_Ga_takeWaiting_ok (i := 19) rfl
theorem d_Ga_takeWaiting_40 : decode c_Ga_takeWaiting 40 = .ok (.iconst (-1), 1) := dc_of (x := (40, .iconst (-1), 1)) t0_Ga_takeWaiting_ok (i := 20) rfl
theorem d_Ga_takeWaiting_41 : decode c_Ga_takeWaiting 41 = .ok (.putfield 36, 3) := dc_of (x := (41, .putfield 36, 3)) t0_Ga_takeWaiting_ok (i := 21) rfl
theorem d_Ga_takeWaiting_44 : decode c_Ga_takeWaiting 44 = .ok (.return_, 1) := dc_of (x := (44, .return_, 1)) t0_Ga_takeWaiting_ok (i := 22) rfl
def t0_Ha_init : List (Nat × Instr × Nat) := [(0, .aload_n 0, 1), (1, .invokespecial 3, 3), (4, .aload_n 0, 1), (5, .bipush 100, 2), (7, .newarray .int, 2), (9, .putfield 9, 3), (12, .aload_n 0, 1), (13, .bipush 100, 2), (15, .newarray .int, 2), (17, .putfield 15, 3), (20, .aload_n 0, 1), (21, .bipush 100, 2), (23, .newarray .long, 2), (25, .putfield 18, 3), (28, .aload_n 0, 1), (29, .bipush 100, 2), (31, .newarray .int, 2), (33, .putfield 22, 3), (36, .return_, 1)]
theorem t0_Ha_init_ok : t0_Ha_init.all (fun x => decide (decode c_Ha_init x.1 = .ok x.2)) = true := by decide +kernel
theorem d_Ha_init_0 : decode c_Ha_init 0 = .ok (.aload_n 0, 1) := dc_of (x := (0, .aload_n 0, 1)) t0_Ha_init_ok (i := 0) rfl
theorem d_Ha_init_1 : decode c_Ha_init 1 = .ok (.invokespecial 3, 3) := dc_of (x := (1, .invokespecial 3, 3)) t0_Ha_init_ok (i := 1) rfl
theorem d_Ha_init_4 : decode c_Ha_init 4 = .ok (.aload_n 0, 1) := dc_of (x := (4, .aload_n 0, 1)) t0_Ha_init_ok (i := 2) rfl
theorem d_Ha_init_5 : decode c_Ha_init 5 = .ok (.bipush 100, 2) := dc_of (x := (5, .bipush 100, 2)) t0_Ha_init_ok (i := 3) rfl
theorem d_Ha_init_7 : decode c_Ha_init 7 = .ok (.newarray .int, 2) := dc_of (x := (7, .newarray .int, 2)) t0_Ha_init_ok (i := 4) rfl
theorem d_Ha_init_9 : decode c_Ha_init 9 = .ok (.putfield 9, 3) := dc_of (x := (9, .putfield 9, 3)) t0_Ha_init_ok (i := 5) rfl
theorem d_Ha_init_12 : decode c_Ha_init 12 = .ok (.aload_n 0, 1) := dc_of (x := (12, .aload_n 0, 1)) t0_Ha_init_ok (i := 6) rfl
theorem d_Ha_init_13 : decode c_Ha_init 13 = .ok (.bipush 100, 2) := dc_of (x := (13, .bipush 100, 2)) t0_Ha_init_ok (i := 7) rfl
theorem d_Ha_init_15 : decode c_Ha_init 15 = .ok (.newarray .int, 2) := dc_of (x := (15, .newarray .int, 2)) t0_Ha_init_ok (i := 8) rfl
theorem d_Ha_init_17 : decode c_Ha_init 17 = .ok (.putfield 15, 3) := dc_of (x := (17, .putfield 15, 3)) t0_Ha_init_ok (i := 9) rfl
theorem d_Ha_init_20 : decode c_Ha_init 20 = .ok (.aload_n 0, 1) := dc_of (x := (20, .aload_n 0, 1)) t0_Ha_init_ok (i := 10) rfl
theorem d_Ha_init_21 : decode c_Ha_init 21 = .ok (.bipush 100, 2) := dc_of (x := (21, .bipush 100, 2)) t0_Ha_init_ok (i := 11) rfl
theorem d_Ha_init_23 : decode c_Ha_init 23 = .ok (.newarray .long, 2) := dc_of (x := (23, .newarray .long, 2)) t0_Ha_init_ok (i := 12) rfl
theorem d_Ha_init_25 : decode c_Ha_init 25 = .ok (.putfield 18, 3) := dc_of (x := (25, .putfield 18, 3)) t0_Ha_init_ok (i := 13) rfl
theorem d_Ha_init_28 : decode c_Ha_init 28 = .ok (.aload_n 0, 1) := dc_of (x := (28, .aload_n 0, 1)) t0_Ha_init_ok (i := 14) rfl
theorem d_Ha_init_29 : decode c_Ha_init 29 = .ok (.bipush 100, 2) := dc_of (x := (29, .bipush 100, 2)) t0_Ha_init_ok (i := 15) rfl
theorem d_Ha_init_31 : decode c_Ha_init 31 = .ok (.newarray .int, 2) := dc_of (x := (31, .newarray .int, 2)) t0_Ha_init_ok (i := 16) rfl
theorem d_Ha_init_33 : decode c_Ha_init 33 = .ok (.putfield 22, 3) := dc_of (x := (33, .putfield 22, 3)) t0_Ha_init_ok (i := 17) rfl
theorem d_Ha_init_36 : decode c_Ha_init 36 = .ok (.return_, 1) := dc_of (x := (36, .return_, 1)) t0_Ha_init_ok (i := 18) rfl
def t0_Ha_copyFrom : List (Nat × Instr × Nat) := [(0, .aload_n 0, 1), (1, .aload_n 1, 1), (2, .getfield 25, 3), (5, .putfield 25, 3), (8, .aload_n 1, 1), (9, .getfield 9, 3), (12, .iconst 0, 1), (13, .aload_n 0, 1), (14, .getfield 9, 3), (17, .iconst 0, 1), (18, .bipush 100, 2), (20, .invokestatic 29, 3), (23, .aload_n 1, 1), (24, .getfield 15, 3), (27, .iconst 0, 1), (28, .aload_n 0, 1), (29, .getfield 15, 3), (32, .iconst 0, 1), (33, .bipush 100, 2), (35, .invokestatic 29, 3), (38, .aload_n 1, 1), (39, .getfield 18, 3), (42, .iconst 0, 1), (43, .aload_n 0, 1), (44, .getfield 18, 3), (47, .iconst 0, 1), (48, .bipush 100, 2), (50, .invokestatic 29, 3), (53, .aload_n 1, 1), (54, .getfield 22, 3), (57, .iconst 0, 1), (58, .aload_n 0, 1), (59, .getfield 22, 3), (62, .iconst 0, 1), (63, .bipush 100, 2), (65, .invokestatic 29, 3), (68, .return_, 1)]
theorem t0_Ha_copyFrom_ok : t0_Ha_copyFrom.all (fun x => decide (decode c_Ha_copyFrom x.1 = .ok x.2)) = true := by decide +kernel
theorem d_Ha_copyFrom_0 : decode c_Ha_copyFrom 0 = .ok (.aload_n 0, 1) := dc_of (x := (0, .aload_n 0, 1)) t0_Ha_copyFrom_ok (i := 0) rfl
theorem d_Ha_copyFrom_1 : decode c_Ha_copyFrom 1 = .ok (.aload_n 1, 1) := dc_of (x := (1, .aload_n 1, 1)) t0_Ha_copyFrom_ok (i := 1) rfl
theorem d_Ha_copyFrom_2 : decode c_Ha_copyFrom 2 = .ok (.getfield 25, 3) := dc_of (x := (2, .getfield 25, 3)) t0_Ha_copyFrom_ok (i := 2) rfl
theorem d_Ha_copyFrom_5 : decode c_Ha_copyFrom 5 = .ok (.putfield 25, 3) := dc_of (x := (5, .putfield 25, 3)) t0_Ha_copyFrom_ok (i := 3) rfl
theorem d_Ha_copyFrom_8 : decode c_Ha_copyFrom 8 = .ok (.aload_n 1, 1) := dc_of (x := (8, .aload_n 1, 1)) t0_Ha_copyFrom_ok (i := 4) rfl
theorem d_Ha_copyFrom_9 : decode c_Ha_copyFrom 9 = .ok (.getfield 9, 3) := dc_of (x := (9, .getfield 9, 3)) t0_Ha_copyFrom_ok (i := 5) rfl
theorem d_Ha_copyFrom_12 : decode c_Ha_copyFrom 12 = .ok (.iconst 0, 1) := dc_of (x := (12, .iconst 0, 1)) t0_Ha_copyFrom_ok (i := 6) rfl
theorem d_Ha_copyFrom_13 : decode c_Ha_copyFrom 13 = .ok (.aload_n 0, 1) := dc_of (x := (13, .aload_n 0, 1)) t0_Ha_copyFrom_ok (i := 7) rfl
theorem d_Ha_copyFrom_14 : decode c_Ha_copyFrom 14 = .ok (.getfield 9, 3) := dc_of (x := (14, .getfield 9, 3)) t0_Ha_copyFrom_ok (i := 8) rfl
theorem d_Ha_copyFrom_17 : decode c_Ha_copyFrom 17 = .ok (.iconst 0, 1) := dc_of (x := (17, .iconst 0, 1)) t0_Ha_copyFrom_ok (i := 9) rfl
theorem d_Ha_copyFrom_18 : decode c_Ha_copyFrom 18 = .ok (.bipush 100, 2) := dc_of (x := (18, .bipush 100, 2)) t0_Ha_copyFrom_ok (i := 10) rfl
theorem d_Ha_copyFrom_20 : decode c_Ha_copyFrom 20 = .ok (.invokestatic 29, 3) := dc_of (x := (20, .invokestatic 29, 3)) t0_Ha_copyFrom_ok (i := 11) rfl
theorem d_Ha_copyFrom_23 : decode c_Ha_copyFrom 23 = .ok (.aload_n 1, 1) := dc_of (x := (23, .aload_n 1, 1)) t0_Ha_copyFrom_ok (i := 12) rfl
theorem d_Ha_copyFrom_24 : decode c_Ha_copyFrom 24 = .ok (.getfield 15, 3) := dc_of (x := (24, .getfield 15, 3)) t0_Ha_copyFrom_ok (i := 13) rfl
theorem d_Ha_copyFrom_27 : decode c_Ha_copyFrom 27 = .ok (.iconst 0, 1) := dc_of (x := (27, .iconst 0, 1)) t0_Ha_copyFrom_ok (i := 14) rfl
theorem d_Ha_copyFrom_28 : decode c_Ha_copyFrom 28 = .ok (.aload_n 0, 1) := dc_of (x := (28, .aload_n 0, 1)) t0_Ha_copyFrom_ok (i := 15) rfl
theorem d_Ha_copyFrom_29 : decode c_Ha_copyFrom 29 = .ok (.getfield 15, 3) := dc_of (x := (29, .getfield 15, 3)) t0_Ha_copyFrom_ok (i := 16) rfl
theorem d_Ha_copyFrom_32 : decode c_Ha_copyFrom 32 = .ok (.iconst 0, 1) := dc_of (x := (32, .iconst 0, 1)) t0_Ha_copyFrom_ok (i := 17) rfl
theorem d_Ha_copyFrom_33 : decode c_Ha_copyFrom 33 = .ok (.bipush 100, 2) := dc_of (x := (33, .bipush 100, 2)) t0_Ha_copyFrom_ok (i := 18) rfl
theorem d_Ha_copyFrom_35 : decode c_Ha_copyFrom 35 = .ok (.invokestatic 29, 3) := dc_of (x := (35, .invokestatic 29, 3)) t0_Ha_copyFrom_ok (i := 19) rfl
theorem d_Ha_copyFrom_38 : decode c_Ha_copyFrom 38 = .ok (.aload_n 1, 1) := dc_of (x := (38, .aload_n 1, 1)) t0_Ha_copyFrom_ok (i := 20) rfl
theorem d_Ha_copyFrom_39 : decode c_Ha_copyFrom 39 = .ok (.getfield 18, 3) := dc_of (x := (39, .getfield 18, 3)) t0_Ha_copyFrom_ok (i := 21) rfl
theorem d_Ha_copyFrom_42 : decode c_Ha_copyFrom 42 = .ok (.iconst 0, 1) := dc_of (x := (42, .iconst 0, 1)) t0_Ha_copyFrom_ok (i := 22) rfl
theorem d_Ha_copyFrom_43 : decode c_Ha_copyFrom 43 = .ok (.aload_n 0, 1) := dc_of (x := (43, .aload_n 0, 1)) t0_Ha_copyFrom_ok (i := 23) rfl
theorem d_Ha_copyFrom_44 : decode c_Ha_copyFrom 44 = .ok (.getfield 18, 3) := dc_of (x := (44, .getfield 18, 3)) t0_Ha_copyFrom_ok (i := 24) rfl
theorem d_Ha_copyFrom_47 : decode c_Ha_copyFrom 47 = .ok (.iconst 0, 1) := dc_of (x := (47, .iconst 0, 1)) t0_Ha_copyFrom_ok (i := 25) rfl
theorem d_Ha_copyFrom_48 : decode c_Ha_copyFrom 48 = .ok (.bipush 100, 2) := dc_of (x := (48, .bipush 100, 2)) t0_Ha_copyFrom_ok (i := 26) rfl
theorem d_Ha_copyFrom_50 : decode c_Ha_copyFrom 50 = .ok (.invokestatic 29, 3) := dc_of (x := (50, .invokestatic 29, 3)) t0_Ha_copyFrom_ok (i := 27) rfl
theorem d_Ha_copyFrom_53 : decode c_Ha_copyFrom 53 = .ok (.aload_n 1, 1) := dc_of (x := (53, .aload_n 1, 1)) t0_Ha_copyFrom_ok (i := 28) rfl
theorem d_Ha_copyFrom_54 : decode c_Ha_copyFrom 54 = .ok (.getfield 22, 3) := dc_of (x := (54, .getfield 22, 3)) t0_Ha_copyFrom_ok (i := 29) rfl
theorem d_Ha_copyFrom_57 : decode c_Ha_copyFrom 57 = .ok (.iconst 0, 1) := dc_of (x := (57, .iconst 0, 1)) t0_Ha_copyFrom_ok (i := 30) rfl
theorem d_Ha_copyFrom_58 : decode c_Ha_copyFrom 58 = .ok (.aload_n 0, 1) := dc_of (x := (58, .aload_n 0, 1)) t0_Ha_copyFrom_ok (i := 31) rfl
theorem d_Ha_copyFrom_59 : decode c_Ha_copyFrom 59 = .ok (.getfield 22, 3) := dc_of (x := (59, .getfield 22, 3)) t0_Ha_copyFrom_ok (i := 32) rfl
theorem d_Ha_copyFrom_62 : decode c_Ha_copyFrom 62 = .ok (.iconst 0, 1) := dc_of (x := (62, .iconst 0, 1)) t0_Ha_copyFrom_ok (i := 33) rfl
theorem d_Ha_copyFrom_63 : decode c_Ha_copyFrom 63 = .ok (.bipush 100, 2) := dc_of (x := (63, .bipush 100, 2)) t0_Ha_copyFrom_ok (i := 34) rfl
theorem d_Ha_copyFrom_65 : decode c_Ha_copyFrom 65 = .ok (.invokestatic 29, 3) := dc_of (x := (65, .invokestatic 29, 3)) t0_Ha_copyFrom_ok (i := 35) rfl
theorem d_Ha_copyFrom_68 : decode c_Ha_copyFrom 68 = .ok (.return_, 1) := dc_of (x := (68, .return_, 1)) t0_Ha_copyFrom_ok (i := 36) rfl
def t0_Ha_append : List (Nat × Instr × Nat) := [(0, .aload_n 0, 1), (1, .getfield 25, 3), (4, .bipush 100, 2), (6, .if_icmp .lt 4, 3), (9, .return_, 1), (10, .aload_n 0, 1), (11, .getfield 9, 3), (14, .aload_n 0, 1), (15, .getfield 25, 3), (18, .iload_n 1, 1), (19, .iastore, 1), (20, .aload_n 0, 1), (21, .getfield 15, 3), (24, .aload_n 0, 1), (25, .getfield 25, 3), (28, .iload_n 2, 1), (29, .iastore, 1), (30, .aload_n 0, 1), (31, .getfield 18, 3), (34, .aload_n 0, 1), (35, .getfield 25, 3), (38, .lload_n 3, 1), (39, .lastore, 1), (40, .aload_n 0, 1), (41, .getfield 22, 3), (44, .aload_n 0, 1), (45, .getfield 25, 3), (48, .iload 5, 2), (50, .iastore, 1), (51, .aload_n 0, 1), (52, .dup, 1), (53, .getfield 25, 3), (56, .iconst 1, 1), (57, .iadd, 1), (58, .putfield 25, 3), (61, .return_, 1)]
theorem t0_Ha_append_ok : t0_Ha_append.all (fun x => decide (decode c_Ha_append x.1 = .ok x.2)) = true := by decide +kernel
theorem d_Ha_append_0 : decode c_Ha_append 0 = .ok (.aload_n 0, 1) := dc_of (x := (0, .aload_n 0, 1)) t0_Ha_append_ok (i := 0) rfl
theorem d_Ha_append_1 : decode c_Ha_append 1 = .ok (.getfield 25, 3) := dc_of (x := (1, .getfield 25, 3)) t0_Ha_append_ok (i := 1) rfl
theorem d_Ha_append_4 : decode c_Ha_append 4 = .ok (.bipush 100, 2) := dc_of (x := (4, .bipush 100, 2)) t0_Ha_append_ok (i := 2) rfl
theorem d_Ha_append_6 : decode c_Ha_append 6 = .ok (.if_icmp .lt 4, 3) := dc_of (x := (6, .if_icmp .lt 4, 3)) t0_Ha_append_ok (i := 3) rfl
theorem d_Ha_append_9 : decode c_Ha_append 9 = .ok (.return_, 1) := dc_of (x := (9, .return_, 1)) t0_Ha_append_ok (i := 4) rfl
theorem d_Ha_append_10 : decode c_Ha_append 10 = .ok (.aload_n 0, 1) := dc_of (x := (10, .aload_n 0, 1)) t0_Ha_append_ok (i := 5) rfl
theorem d_Ha_append_11 : decode c_Ha_append 11 = .ok (.getfield 9, 3) := dc_of (x := (11, .getfield 9, 3)) t0_Ha_append_ok (i := 6) rfl
theorem d_Ha_append_14 : decode c_Ha_append 14 = .ok (.aload_n 0, 1) := dc_of (x := (14, .aload_n 0, 1)) t0_Ha_append_ok (i := 7) rfl
theorem d_Ha_append_15 : decode c_Ha_append 15 = .ok (.getfield 25, 3) := dc_of (x := (15, .getfield 25, 3)) t0_Ha_append_ok (i := 8) rfl
theorem d_Ha_append_18 : decode c_Ha_append 18 = .ok (.iload_n 1, 1) := dc_of (x := (18, .iload_n 1, 1)) t0_Ha_append_ok (i := 9) rfl
theorem d_Ha_append_19 : decode c_Ha_append 19 = .ok (.iastore, 1) := dc_of (x := (19, .iastore, 1)) t0_Ha_append_ok (i := 10) rfl
theorem d_Ha_append_20 : decode c_Ha_append 20 = .ok (.aload_n 0, 1) := dc_of (x := (20, .aload_n 0, 1)) t0_Ha_append_ok (i := 11) rfl
theorem d_Ha_append_21 : decode c_Ha_append 21 = .ok (.getfield 15, 3) := dc_of (x := (21, .getfield 15, 3)) t0_Ha_append_ok (i := 12) rfl
theorem d_Ha_append_24 : decode c_Ha_append 24 = .ok (.aload_n 0, 1) := dc_of (x := (24, .aload_n 0, 1)) t0_Ha_append_ok (i := 13) rfl
theorem d_Ha_append_25 : decode c_Ha_append 25 = .ok (.getfield 25, 3) := dc_of (x := (25, .getfield 25, 3)) t0_Ha_append_ok (i := 14) rfl
theorem d_Ha_append_28 : decode c_Ha_append 28 = .ok (.iload_n 2, 1) := dc_of (x := (28, .iload_n 2, 1)) t0_Ha_append_ok (i := 15) rfl
theorem d_Ha_append_29 : decode c_Ha_append 29 = .ok (.iastore, 1) := dc_of (x := (29, .iastore, 1)) t0_Ha_append_ok (i := 16) rfl
theorem d_Ha_append_30 : decode c_Ha_append 30 = .ok (.aload_n 0, 1) := dc_of (x := (30, .aload_n 0, 1)) t0_Ha_append_ok (i := 17) rfl
theorem d_Ha_append_31 : decode c_Ha_append 31 = .ok (.getfield 18, 3) := dc_of (x := (31, .getfield 18, 3)) t0_Ha_append_ok (i := 18) rfl
theorem d_Ha_append_34 : decode c_Ha_append 34 = .ok (.aload_n 0, 1) := dc_of (x := (34, .aload_n 0, 1)) t0_Ha_append_ok (i := 19) rfl
theorem d_Ha_append_35 : decode c_Ha_append 35 = .ok (.getfield 25, 3) := dc_of (x := (35, .getfield 25, 3)) t0_Ha_append_ok (i := 20) rfl
theorem d_Ha_append_38 : decode c_Ha_append 38 = .ok (.lload_n 3, 1) := dc_of (x := (38, .lload_n 3, 1)) t0_Ha_append_ok (i := 21) rfl
theorem d_Ha_append_39 : decode c_Ha_append 39 = .ok (.lastore, 1) := dc_of (x := (39, .lastore, 1)) t0_Ha_append_ok (i := 22) rfl
theorem d_Ha_append_40 : decode c_Ha_append 40 = .ok (.aload_n 0, 1) := dc_of (x := (40, .aload_n 0, 1)) t0_Ha_append_ok (i := 23) rfl
theorem d_Ha_append_41 : decode c_Ha_append 41 = .ok (.getfield 22, 3) := dc_of (x := (41, .getfield 22, 3)) t0_Ha_append_ok (i := 24) rfl
theorem d_Ha_append_44 : decode c_Ha_append 44 = .ok (.aload_n 0, 1) := dc_of (x := (44, .aload_n 0, 1)) t0_Ha_append_ok (i := 25) rfl
theorem d_Ha_append_45 : decode c_Ha_append 45 = .ok (.getfield 25, 3) := dc_of (x := (45, .getfield 25, 3)) t0_Ha_append_ok (i := 26) rfl
theorem d_Ha_append_48 : decode c_Ha_append 48 = .ok (.iload 5, 2) := dc_of (x := (48, .iload 5, 2)) t0_Ha_append_ok (i := 27) rfl
theorem d_Ha_append_50 : decode c_Ha_append 50 = .ok (.iastore, 1) := dc_of (x := (50, .iastore, 1)) t0_Ha_append_ok (i := 28) rfl
theorem d_Ha_append_51 : decode c_Ha_append 51 = .ok (.aload_n 0, 1) := dc_of (x := (51, .aload_n 0, 1)) t0_Ha_append_ok (i := 29) rfl
theorem d_Ha_append_52 : decode c_Ha_append 52 = .ok (.dup, 1) := dc_of (x := (52, .dup, 1)) t0_Ha_append_ok (i := 30) rfl
theorem d_Ha_append_53 : decode c_Ha_append 53 = .ok (.getfield 25, 3) := dc_of (x := (53, .getfield 25, 3)) t0_Ha_append_ok (i := 31) rfl
theorem d_Ha_append_56 : decode c_Ha_append 56 = .ok (.iconst 1, 1) := dc_of (x := (56, .iconst 1, 1)) t0_Ha_append_ok (i := 32) rfl
theorem d_Ha_append_57 : decode c_Ha_append 57 = .ok (.iadd, 1) := dc_of (x := (57, .iadd, 1)) t0_Ha_append_ok (i := 33) rfl
theorem d_Ha_append_58 : decode c_Ha_append 58 = .ok (.putfield 25, 3) := dc_of (x := (58, .putfield 25, 3)) t0_Ha_append_ok (i := 34) rfl
theorem d_Ha_append_61 : decode c_Ha_append 61 = .ok (.return_, 1) := dc_of (x := (61, .return_, 1)) t0_Ha_append_ok (i := 35) rfl
def t0_Ha_first : List (Nat × Instr × Nat) := [(0, .aload_n 0, 1), (1, .getfield 25, 3), (4, .ifCond .le 7, 3), (7, .iconst 0, 1), (8, .goto 4, 3), (11, .iconst (-1), 1), (12, .istore_n 1, 1), (13, .iconst 1, 1), (14, .istore_n 2, 1), (15, .iload_n 2, 1), (16, .aload_n 0, 1), (17, .getfield 25, 3), (20, .if_icmp .ge 58, 3), (23, .aload_n 0, 1), (24, .getfield 18, 3), (27, .iload_n 2, 1), (28, .laload, 1), (29, .aload_n 0, 1), (30, .getfield 18, 3), (33, .iload_n 1, 1), (34, .laload, 1), (35, .lcmp, 1), (36, .ifCond .lt 34, 3), (39, .aload_n 0, 1), (40, .getfield 18, 3), (43, .iload_n 2, 1), (44, .laload, 1), (45, .aload_n 0, 1), (46, .getfield 18, 3), (49, .iload_n 1, 1), (50, .laload, 1), (51, .lcmp, 1), (52, .ifCond .ne 20, 3), (55, .aload_n 0, 1), (56, .getfield 15, 3), (59, .iload_n 2, 1), (60, .iaload, 1), (61, .aload_n 0, 1), (62, .getfield 15, 3), (65, .iload_n 1, 1), (66, .iaload, 1), (67, .if_icmp .ge 5, 3), (70, .iload_n 2, 1), (71, .istore_n 1, 1), (72, .iinc 2 1, 3), (75, .goto (-60), 3), (78, .iload_n 1, 1), (79, .ireturn, 1)]
theorem t0_Ha_first_ok : t0_Ha_first.all (fun x => decide (decode c_Ha_first x.1 = .ok x.2)) = true := by decide +kernel
theorem d_Ha_first_0 : decode c_Ha_first 0 = .ok (.aload_n 0, 1) := dc_of (x := (0, .aload_n 0, 1)) t0_Ha_first_ok (i := 0) rfl
theorem d_Ha_first_1 : decode c_Ha_first 1 = .ok (.getfield 25, 3) := dc_of (x := (1, .getfield 25, 3)) t0_Ha_first_ok (i := 1) rfl
theorem d_Ha_first_4 : decode c_Ha_first 4 = .ok (.ifCond .le 7, 3) := dc_of (x := (4, .ifCond .le 7, 3)) t0_Ha_first_ok (i := 2) rfl
theorem d_Ha_first_7 : decode c_Ha_first 7 = .ok (.iconst 0, 1) := dc_of (x := (7, .iconst 0, 1)) t0_Ha_first_ok (i := 3) rfl
theorem d_Ha_first_8 : decode c_Ha_first 8 = .ok (.goto 4, 3) := dc_of (x := (8, .goto 4, 3)) t0_Ha_first_ok (i := 4) rfl
theorem d_Ha_first_11 : decode c_Ha_first 11 = .ok (.iconst (-1), 1) := dc_of (x := (11, .iconst (-1), 1)) t0_Ha_first_ok (i := 5) rfl
theorem d_Ha_first_12 : decode c_Ha_first 12 = .ok (.istore_n 1, 1) := dc_of (x := (12, .istore_n 1, 1)) t0_Ha_first_ok (i := 6) rfl
theorem d_Ha_first_13 : decode c_Ha_first 13 = .ok (.iconst 1, 1) := dc_of (x := (13, .iconst 1, 1)) t0_Ha_first_ok (i := 7) rfl
theorem d_Ha_first_14 : decode c_Ha_first 14 = .ok (.istore_n 2, 1) := dc_of (x := (14, .istore_n 2, 1)) t0_Ha_first_ok (i := 8) rfl
theorem d_Ha_first_15 : decode c_Ha_first 15 = .ok (.iload_n 2, 1) := dc_of (x := (15, .iload_n 2, 1)) t0_Ha_first_ok (i := 9) rfl
theorem d_Ha_first_16 : decode c_Ha_first 16 = .ok (.aload_n 0, 1) := dc_of (x := (16, .aload_n 0, 1)) t0_Ha_first_ok (i := 10) rfl
theorem d_Ha_first_17 : decode c_Ha_first 17 = .ok (.getfield 25, 3) := dc_of (x := (17, .getfield 25, 3)) t0_Ha_first_ok (i := 11) rfl
theorem d_Ha_first_20 : decode c_Ha_first 20 = .ok (.if_icmp .ge 58, 3) := dc_of (x := (20, .if_icmp .ge 58, 3)) t0_Ha_first_ok (i := 12) rfl
theorem d_Ha_first_23 : decode c_Ha_first 23 = .ok (.aload_n 0, 1) := dc_of (x := (23, .aload_n 0, 1)) t0_Ha_first_ok (i := 13) rfl
theorem d_Ha_first_24 : decode c_Ha_first 24 = .ok (.getfield 18, 3) := dc_of (x := (24, .getfield 18, 3)) t0_Ha_first_ok (i := 14) rfl
theorem d_Ha_first_27 : decode c_Ha_first 27 = .ok (.iload_n 2, 1) := dc_of (x := (27, .iload_n 2, 1)) t0_Ha_first_ok (i := 15) rfl
theorem d_Ha_first_28 : decode c_Ha_first 28 = .ok (.laload, 1) := dc_of (x := (28, .laload, 1)) t0_Ha_first_ok (i := 16) rfl
theorem d_Ha_first_29 : decode c_Ha_first 29 = .ok (.aload_n 0, 1) := dc_of (x := (29, .aload_n 0, 1)) t0_Ha_first_ok (i := 17) rfl
theorem d_Ha_first_30 : decode c_Ha_first 30 = .ok (.getfield 18, 3) := dc_of (x := (30, .getfield 18, 3)) t0_Ha_first_ok (i := 18) rfl
theorem d_Ha_first_33 : decode c_Ha_first 33 = .ok (.iload_n 1, 1) := dc_of (x := (33, .iload_n 1, 1)) t0_Ha_first_ok (i := 19) rfl
theorem d_Ha_first_34 : decode c_Ha_first 34 = .ok (.laload, 1) := dc_of (x := (34, .laload, 1)) t0_Ha_first_ok (i := 20) rfl
theorem d_Ha_first_35 : decode c_Ha_first 35 = .ok (.lcmp, 1) := dc_of (x := (35, .lcmp, 1)) t0_Ha_first_ok (i := 21) rfl
theorem d_Ha_first_36 : decode c_Ha_first 36 = .ok (.ifCond .lt 34, 3) := dc_of (x := (36, .ifCond .lt 34, 3)) t0_Ha_first_ok (i := 22) rfl
theorem d_Ha_first_39 : decode c_Ha_first 39 = .ok (.aload_n 0, 1) := dc_of (x := (39, .aload_n 0, 1)) t0_Ha_first_ok (i := 23) rfl
theorem d_Ha_first_40 : decode c_Ha_first 40 = .ok (.getfield 18, 3) := dc_of (x := (40, .getfield 18, 3)) t0_Ha_first_ok (i := 24) rfl
theorem d_Ha_first_43 : decode c_Ha_first 43 = .ok (.iload_n 2, 1) := dc_of (x := (43, .iload_n 2, 1)) t0_Ha_first_ok (i := 25) rfl
theorem d_Ha_first_44 : decode c_Ha_first 44 = .ok (.laload, 1) := dc_of (x := (44, .laload, 1)) t0_Ha_first_ok (i := 26) rfl
theorem d_Ha_first_45 : decode c_Ha_first 45 = .ok (.aload_n 0, 1) := dc_of (x := (45, .aload_n 0, 1)) t0_Ha_first_ok (i := 27) rfl
theorem d_Ha_first_46 : decode c_Ha_first 46 = .ok (.getfield 18, 3) := dc_of (x := (46, .getfield 18, 3)) t0_Ha_first_ok (i := 28) rfl
theorem d_Ha_first_49 : decode c_Ha_first 49 = .ok (.iload_n 1, 1) := dc_of (x := (49, .iload_n 1, 1)) t0_Ha_first_ok (i := 29) rfl
theorem d_Ha_first_50 : decode c_Ha_first 50 = .ok (.laload, 1) := dc_of (x := (50, .laload, 1)) t0_Ha_first_ok (i := 30) rfl
theorem d_Ha_first_51 : decode c_Ha_first 51 = .ok (.lcmp, 1) := dc_of (x := (51, .lcmp, 1)) t0_Ha_first_ok (i := 31) rfl
theorem d_Ha_first_52 : decode c_Ha_first 52 = .ok (.ifCond .ne 20, 3) := dc_of (x := (52, .ifCond .ne 20, 3)) t0_Ha_first_ok (i := 32) rfl
theorem d_Ha_first_55 : decode c_Ha_first 55 = .ok (.aload_n 0, 1) := dc_of (x := (55, .aload_n 0, 1)) t0_Ha_first_ok (i := 33) rfl
theorem d_Ha_first_56 : decode c_Ha_first 56 = .ok (.getfield 15, 3) := dc_of (x := (56, .getfield 15, 3)) t0_Ha_first_ok (i := 34) rfl
theorem d_Ha_first_59 : decode c_Ha_first 59 = .ok (.iload_n 2, 1) := dc_of (x := (59, .iload_n 2, 1)) t0_Ha_first_ok (i := 35) rfl
theorem d_Ha_first_60 : decode c_Ha_first 60 = .ok (.iaload, 1) := dc_of (x := (60, .iaload, 1)) t0_Ha_first_ok (i := 36) rfl
theorem d_Ha_first_61 : decode c_Ha_first 61 = .ok (.aload_n 0, 1) := dc_of (x := (61, .aload_n 0, 1)) t0_Ha_first_ok (i := 37) rfl
theorem d_Ha_first_62 : decode c_Ha_first 62 = .ok (.getfield 15, 3) := dc_of (x := (62, .getfield 15, 3)) t0_Ha_first_ok (i := 38) rfl
theorem d_Ha_first_65 : decode c_Ha_first 65 = .ok (.iload_n 1, 1) := dc_of (x := (65, .iload_n 1, 1)) t0_Ha_first_ok (i := 39) rfl
theorem d_Ha_first_66 : decode c_Ha_first 66 = .ok (.iaload, 1) := dc_of (x := (66, .iaload, 1)) t0_Ha_first_ok (i := 40) rfl
theorem d_Ha_first_67 : decode c_Ha_first 67 = .ok (.if_icmp .ge 5, 3) := dc_of (x := (67, .if_icmp .ge 5, 3)) t0_Ha_first_ok (i := 41) rfl
theorem d_Ha_first_70 : decode c_Ha_first 70 = .ok (.iload_n 2, 1) := dc_of (x := (70, .iload_n 2, 1)) t0_Ha_first_ok (i := 42) rfl
theorem d_Ha_first_71 : decode c_Ha_first 71 = .ok (.istore_n 1, 1) := dc_of (x := (71, .istore_n 1, 1)) t0_Ha_first_ok (i := 43) rfl
theorem d_Ha_first_72 : decode c_Ha_first 72 = .ok (.iinc 2 1, 3) := dc_of (x := (72, .iinc 2 1, 3)) t0_Ha_first_ok (i := 44) rfl
theorem d_Ha_first_75 : decode c_Ha_first 75 = .ok (.goto (-60), 3) := dc_of (x := (75, .goto (-60), 3)) t0_Ha_first_ok (i := 45) rfl
theorem d_Ha_first_78 : decode c_Ha_first 78 = .ok (.iload_n 1, 1) := dc_of (x := (78, .iload_n 1, 1)) t0_Ha_first_ok (i := 46) rfl
theorem d_Ha_first_79 : decode c_Ha_first 79 = .ok (.ireturn, 1) := dc_of (x := (79, .ireturn, 1)) t0_Ha_first_ok (i := 47) rfl
def t0_Ha_drop : List (Nat × Instr × Nat) := [(0, .iload_n 1, 1), (1, .iconst 1, 1), (2, .iadd, 1), (3, .istore_n 2, 1), (4, .iload_n 2, 1), (5, .aload_n 0, 1), (6, .getfield 25, 3), (9, .if_icmp .ge 65, 3), (12, .aload_n 0, 1), (13, .getfield 9, 3), (16, .iload_n 2, 1), (17, .iconst 1, 1), (18, .isub, 1), (19, .aload_n 0, 1), (20, .getfield 9, 3), (23, .iload_n 2, 1), (24, .iaload, 1), (25, .iastore, 1), (26, .aload_n 0, 1), (27, .getfield 15, 3), (30, .iload_n 2, 1), (31, .iconst 1, 1), (32, .isub, 1), (33, .aload_n 0, 1), (34, .getfield 15, 3), (37, .iload_n 2, 1), (38, .iaload, 1), (39, .iastore, 1), (40, .aload_n 0, 1), (41, .getfield 18, 3), (44, .iload_n 2, 1), (45, .iconst 1, 1), (46, .isub, 1), (47, .aload_n 0, 1), (48, .getfield 18, 3), (51, .iload_n 2, 1), (52, .laload, 1), (53, .lastore, 1), (54, .aload_n 0, 1), (55, .getfield 22, 3), (58, .iload_n 2, 1), (59, .iconst 1, 1), (60, .isub, 1), (61, .aload_n 0, 1), (62, .getfield 22, 3), (65, .iload_n 2, 1), (66, .iaload, 1), (67, .iastore, 1), (68, .iinc 2 1, 3), (71, .goto (-67), 3), (74, .aload_n 0, 1), (75, .dup, 1), (76, .getfield 25, 3), (79, .iconst 1, 1), (80, .isub, 1), (81, .putfield 25, 3), (84, .return_, 1)]
theorem t0_Ha_drop_ok : t0_Ha_drop.all (fun x => decide (decode c_Ha_drop x.1 = .ok x.2)) = true := by decide +kernel
theorem d_Ha_drop_0 : decode c_Ha_drop 0 = .ok (.iload_n 1, 1) := dc_of (x := (0, .iload_n 1, 1)) t0_Ha_drop_ok (i := 0) rfl
theorem d_Ha_drop_1 : decode c_Ha_drop 1 = .ok (.iconst 1, 1) := dc_of (x := (1, .iconst 1, 1)) t0_Ha_drop_ok (i := 1) rfl
theorem d_Ha_drop_2 : decode c_Ha_drop 2 = .ok (.iadd, 1) := dc_of (x := (2, .iadd, 1)) t0_Ha_drop_ok (i := 2) rfl
theorem d_Ha_drop_3 : decode c_Ha_drop 3 = .ok (.istore_n 2, 1) := dc_of (x := (3, .istore_n 2, 1)) t0_Ha_drop_ok (i := 3) rfl
theorem d_Ha_drop_4 : decode c_Ha_drop 4 = .ok (.iload_n 2, 1) := dc_of (x := (4, .iload_n 2, 1)) t0_Ha_drop_ok (i := 4) rfl
theorem d_Ha_drop_5 : decode c_Ha_drop 5 = .ok (.aload_n 0, 1) := dc_of (x := (5, .aload_n 0, 1)) t0_Ha_drop_ok (i := 5) rfl
theorem d_Ha_drop_6 : decode c_Ha_drop 6 = .ok (.getfield 25, 3) := dc_of (x := (6, .getfield 25, 3)) t0_Ha_drop_ok (i := 6) rfl
theorem d_Ha_drop_9 : decode c_Ha_drop 9 = .ok (.if_icmp .ge 65, 3) := dc_of (x := (9, .if_icmp .ge 65, 3)) t0_Ha_drop_ok (i := 7) rfl
theorem d_Ha_drop_12 : decode c_Ha_drop 12 = .ok (.aload_n 0, 1) := dc_of (x := (12, .aload_n 0, 1)) t0_Ha_drop_ok (i := 8) rfl
theorem d_Ha_drop_13 : decode c_Ha_drop 13 = .ok (.getfield 9, 3) := dc_of (x := (13, .getfield 9, 3)) t0_Ha_drop_ok (i := 9) rfl
theorem d_Ha_drop_16 : decode c_Ha_drop 16 = .ok (.iload_n 2, 1) := dc_of (x := (16, .iload_n 2, 1)) t0_Ha_drop_ok (i := 10) rfl
theorem d_Ha_drop_17 : decode c_Ha_drop 17 = .ok (.iconst 1, 1) := dc_of (x := (17, .iconst 1, 1)) t0_Ha_drop_ok (i := 11) rfl
theorem d_Ha_drop_18 : decode c_Ha_drop 18 = .ok (.isub, 1) := dc_of (x := (18, .isub, 1)) t0_Ha_drop_ok (i := 12) rfl
theorem d_Ha_drop_19 : decode c_Ha_drop 19 = .ok (.aload_n 0, 1) := dc_of (x := (19, .aload_n 0, 1)) t0_Ha_drop_ok (i := 13) rfl
theorem d_Ha_drop_20 : decode c_Ha_drop 20 = .ok (.getfield 9, 3) := dc_of (x := (20, .getfield 9, 3)) t0_Ha_drop_ok (i := 14) rfl
theorem d_Ha_drop_23 : decode c_Ha_drop 23 = .ok (.iload_n 2, 1) := dc_of (x := (23, .iload_n 2, 1)) t0_Ha_drop_ok (i := 15) rfl
theorem d_Ha_drop_24 : decode c_Ha_drop 24 = .ok (.iaload, 1) := dc_of (x := (24, .iaload, 1)) t0_Ha_drop_ok (i := 16) rfl
theorem d_Ha_drop_25 : decode c_Ha_drop 25 = .ok (.iastore, 1) := dc_of (x := (25, .iastore, 1)) t0_Ha_drop_ok (i := 17) rfl
theorem d_Ha_drop_26 : decode c_Ha_drop 26 = .ok (.aload_n 0, 1) := dc_of (x := (26, .aload_n 0, 1)) t0_Ha_drop_ok (i := 18) rfl
theorem d_Ha_drop_27 : decode c_Ha_drop 27 = .ok (.getfield 15, 3) := dc_of (x := (27, .getfield 15, 3)) t0_Ha_drop_ok (i := 19) rfl
theorem d_Ha_drop_30 : decode c_Ha_drop 30 = .ok (.iload_n 2, 1) := dc_of (x := (30, .iload_n 2, 1)) t0_Ha_drop_ok (i := 20) rfl
theorem d_Ha_drop_31 : decode c_Ha_drop 31 = .ok (.iconst 1, 1) := dc_of (x := (31, .iconst 1, 1)) t0_Ha_drop_ok (i := 21) rfl
theorem d_Ha_drop_32 : decode c_Ha_drop 32 = .ok (.isub, 1) := dc_of (x := (32, .isub, 1)) t0_Ha_drop_ok (i := 22) rfl
theorem d_Ha_drop_33 : decode c_Ha_drop 33 = .ok (.aload_n 0, 1) := dc_of (x := (33, .aload_n 0, 1)) t0_Ha_drop_ok (i := 23) rfl
theorem d_Ha_drop_34 : decode c_Ha_drop 34 = .ok (.getfield 15, 3) := dc_of (x := (34, .getfield 15, 3)) t0_Ha_drop_ok (i := 24) rfl
theorem d_Ha_drop_37 : decode c_Ha_drop 37 = .ok (.iload_n 2, 1) := dc_of (x := (37, .iload_n 2, 1)) t0_Ha_drop_ok (i := 25) rfl
theorem d_Ha_drop_38 : decode c_Ha_drop 38 = .ok (.iaload, 1) := dc_of (x := (38, .iaload, 1)) t0_Ha_drop_ok (i := 26) rfl
theorem d_Ha_drop_39 : decode c_Ha_drop 39 = .ok (.iastore, 1) := dc_of (x := (39, .iastore, 1)) t0_Ha_drop_ok (i := 27) rfl
theorem d_Ha_drop_40 : decode c_Ha_drop 40 = .ok (.aload_n 0, 1) := dc_of (x := (40, .aload_n 0, 1)) t0_Ha_drop_ok (i := 28) rfl
theorem d_Ha_drop_41 : decode c_Ha_drop 41 = .ok (.getfield 18, 3) := dc_of (x := (41, .getfield 18, 3)) t0_Ha_drop_ok (i := 29) rfl
theorem d_Ha_drop_44 : decode c_Ha_drop 44 = .ok (.iload_n 2, 1) := dc_of (x := (44, .iload_n 2, 1)) t0_Ha_drop_ok (i := 30) rfl
theorem d_Ha_drop_45 : decode c_Ha_drop 45 = .ok (.iconst 1, 1) := dc_of (x := (45, .iconst 1, 1)) t0_Ha_drop_ok (i := 31) rfl
theorem d_Ha_drop_46 : decode c_Ha_drop 46 = .ok (.isub, 1) := dc_of (x := (46, .isub, 1)) t0_Ha_drop_ok (i := 32) rfl
theorem d_Ha_drop_47 : decode c_Ha_drop 47 = .ok (.aload_n 0, 1) := dc_of (x := (47, .aload_n 0, 1)) t0_Ha_drop_ok (i := 33) rfl
theorem d_Ha_drop_48 : decode c_Ha_drop 48 = .ok (.getfield 18, 3) := dc_of (x := (48, .getfield 18, 3)) t0_Ha_drop_ok (i := 34) rfl
theorem d_Ha_drop_51 : decode c_Ha_drop 51 = .ok (.iload_n 2, 1) := dc_of (x := (51, .iload_n 2, 1)) t0_Ha_drop_ok (i := 35) rfl
theorem d_Ha_drop_52 : decode c_Ha_drop 52 = .ok (.laload, 1) := dc_of (x := (52, .laload, 1)) t0_Ha_drop_ok (i := 36) rfl
theorem d_Ha_drop_53 : decode c_Ha_drop 53 = .ok (.lastore, 1) := dc_of (x := (53, .lastore, 1)) t0_Ha_drop_ok (i := 37) rfl
theorem d_Ha_drop_54 : decode c_Ha_drop 54 = .ok (.aload_n 0, 1) := dc_of (x := (54, .aload_n 0, 1)) t0_Ha_drop_ok (i := 38) rfl
theorem d_Ha_drop_55 : decode c_Ha_drop 55 = .ok (.getfield 22, 3) := dc_of (x := (55, .getfield 22, 3)) t0_Ha_drop_ok (i := 39) rfl
theorem d_Ha_drop_58 : decode c_Ha_drop 58 = .ok (.iload_n 2, 1) := dc_of (x := (58, .iload_n 2, 1)) t0_Ha_drop_ok (i := 40) rfl
theorem d_Ha_drop_59 : decode c_Ha_drop 59 = .ok (.iconst 1, 1) := dc_of (x := (59, .iconst 1, 1)) t0_Ha_drop_ok (i := 41) rfl
theorem d_Ha_drop_60 : decode c_Ha_drop 60 = .ok (.isub, 1) := dc_of (x := (60, .isub, 1)) t0_Ha_drop_ok (i := 42) rfl
theorem d_Ha_drop_61 : decode c_Ha_drop 61 = .ok (.aload_n 0, 1) := dc_of (x := (61, .aload_n 0, 1)) t0_Ha_drop_ok (i := 43) rfl
theorem d_Ha_drop_62 : decode c_Ha_drop 62 = .ok (.getfield 22, 3) := dc_of (x := (62, .getfield 22, 3)) t0_Ha_drop_ok (i := 44) rfl
theorem d_Ha_drop_65 : decode c_Ha_drop 65 = .ok (.iload_n 2, 1) := dc_of (x := (65, .iload_n 2, 1)) t0_Ha_drop_ok (i := 45) rfl
theorem d_Ha_drop_66 : decode c_Ha_drop 66 = .ok (.iaload, 1) := dc_of (x := (66, .iaload, 1)) t0_Ha_drop_ok (i := 46) rfl
theorem d_Ha_drop_67 : decode c_Ha_drop 67 = .ok (.iastore, 1) := dc_of (x := (67, .iastore, 1)) t0_Ha_drop_ok (i := 47) rfl
theorem d_Ha_drop_68 : decode c_Ha_drop 68 = .ok (.iinc 2 1, 3) := dc_of (x := (68, .iinc 2 1, 3)) t0_Ha_drop_ok (i := 48) rfl
theorem d_Ha_drop_71 : decode c_Ha_drop 71 = .ok (.goto (-67), 3) := dc_of (x := (71, .goto (-67), 3)) t0_Ha_drop_ok (i := 49) rfl
theorem d_Ha_drop_74 : decode c_Ha_drop 74 = .ok (.aload_n 0, 1) := dc_of (x := (74, .aload_n 0, 1)) t0_Ha_drop_ok (i := 50) rfl
theorem d_Ha_drop_75 : decode c_Ha_drop 75 = .ok (.dup, 1) := dc_of (x := (75, .dup, 1)) t0_Ha_drop_ok (i := 51) rfl
theorem d_Ha_drop_76 : decode c_Ha_drop 76 = .ok (.getfield 25, 3) := dc_of (x := (76, .getfield 25, 3)) t0_Ha_drop_ok (i := 52) rfl
theorem d_Ha_drop_79 : decode c_Ha_drop 79 = .ok (.iconst 1, 1) := dc_of (x := (79, .iconst 1, 1)) t0_Ha_drop_ok (i := 53) rfl
theorem d_Ha_drop_80 : decode c_Ha_drop 80 = .ok (.isub, 1) := dc_of (x := (80, .isub, 1)) t0_Ha_drop_ok (i := 54) rfl
theorem d_Ha_drop_81 : decode c_Ha_drop 81 = .ok (.putfield 25, 3) := dc_of (x := (81, .putfield 25, 3)) t0_Ha_drop_ok (i := 55) rfl
theorem d_Ha_drop_84 : decode c_Ha_drop 84 = .ok (.return_, 1) := dc_of (x := (84, .return_, 1)) t0_Ha_drop_ok (i := 56) rfl
def t0_Ne_init : List (Nat × Instr × Nat) := [(0, .aload_n 0, 1), (1, .invokespecial 3, 3), (4, .return_, 1)]
theorem t0_Ne_init_ok : t0_Ne_init.all (fun x => decide (decode c_Ne_init x.1 = .ok x.2)) = true := by decide +kernel
theorem d_Ne_init_0 : decode c_Ne_init 0 = .ok (.aload_n 0, 1) := dc_of (x := (0, .aload_n 0, 1)) t0_Ne_init_ok (i := 0) rfl
theorem d_Ne_init_1 : decode c_Ne_init 1 = .ok (.invokespecial 3, 3) := dc_of (x := (1, .invokespecial 3, 3)) t0_Ne_init_ok (i := 1) rfl
theorem d_Ne_init_4 : decode c_Ne_init 4 = .ok (.return_, 1) := dc_of (x := (4, .return_, 1)) t0_Ne_init_ok (i := 2) rfl
def t0_Ne_begin : List (Nat × Instr × Nat) := [(0, .aload_n 0, 1), (1, .iconst 3, 1), (2, .putfield 9, 3), (5, .aload_n 0, 1), (6, .iconst (-1), 1), (7, .putfield 15, 3), (10, .aload_n 0, 1), (11, .iconst 2, 1), (12, .putfield 18, 3), (15, .aload_n 0, 1), (16, .lconst 0, 1), (17, .putfield 21, 3), (20, .aload_n 0, 1), (21, .ldc2_w 25, 3), (24, .putfield 27, 3), (27, .aload_n 0, 1), (28, .ldc2_w 25, 3), (31, .putfield 30, 3), (34, .return_, 1)]
theorem t0_Ne_begin_ok : t0_Ne_begin.all (fun x => decide (decode c_Ne_begin x.1 = .ok x.2)) = true := by decide +kernel
theorem d_Ne_begin_0 : decode c_Ne_begin 0 = .ok (.aload_n 0, 1) := dc_of (x := (0, .aload_n 0, 1)) t0_Ne_begin_ok (i := 0) rfl
theorem d_Ne_begin_1 : decode c_Ne_begin 1 = .ok (.iconst 3, 1) := dc_of (x := (1, .iconst 3, 1)) t0_Ne_begin_ok (i := 1) rfl
theorem d_Ne_begin_2 : decode c_Ne_begin 2 = .ok (.putfield 9, 3) := dc_of (x := (2, .putfield 9, 3)) t0_Ne_begin_ok (i := 2) rfl
theorem d_Ne_begin_5 : decode c_Ne_begin 5 = .ok (.aload_n 0, 1) := dc_of (x := (5, .aload_n 0, 1)) t0_Ne_begin_ok (i := 3) rfl
theorem d_Ne_begin_6 : decode c_Ne_begin 6 = .ok (.iconst (-1), 1) := dc_of (x := (6, .iconst (-1), 1)) t0_Ne_begin_ok (i := 4) rfl
theorem d_Ne_begin_7 : decode c_Ne_begin 7 = .ok (.putfield 15, 3) := dc_of (x := (7, .putfield 15, 3)) t0_Ne_begin_ok (i := 5) rfl
theorem d_Ne_begin_10 : decode c_Ne_begin 10 = .ok (.aload_n 0, 1) := dc_of (x := (10, .aload_n 0, 1)) t0_Ne_begin_ok (i := 6) rfl
theorem d_Ne_begin_11 : decode c_Ne_begin 11 = .ok (.iconst 2, 1) := dc_of (x := (11, .iconst 2, 1)) t0_Ne_begin_ok (i := 7) rfl
theorem d_Ne_begin_12 : decode c_Ne_begin 12 = .ok (.putfield 18, 3) := dc_of (x := (12, .putfield 18, 3)) t0_Ne_begin_ok (i := 8) rfl
theorem d_Ne_begin_15 : decode c_Ne_begin 15 = .ok (.aload_n 0, 1) := dc_of (x := (15, .aload_n 0, 1)) t0_Ne_begin_ok (i := 9) rfl
theorem d_Ne_begin_16 : decode c_Ne_begin 16 = .ok (.lconst 0, 1) := dc_of (x := (16, .lconst 0, 1)) t0_Ne_begin_ok (i := 10) rfl
theorem d_Ne_begin_17 : decode c_Ne_begin 17 = .ok (.putfield 21, 3) := dc_of (x := (17, .putfield 21, 3)) t0_Ne_begin_ok (i := 11) rfl
theorem d_Ne_begin_20 : decode c_Ne_begin 20 = .ok (.aload_n 0, 1) := dc_of (x := (20, .aload_n 0, 1)) t0_Ne_begin_ok (i := 12) rfl
theorem d_Ne_begin_21 : decode c_Ne_begin 21 = .ok (.ldc2_w 25, 3) := dc_of (x := (21, .ldc2_w 25, 3)) t0_Ne_begin_ok (i := 13) rfl
theorem d_Ne_begin_24 : decode c_Ne_begin 24 = .ok (.putfield 27, 3) := dc_of (x := (24, .putfield 27, 3)) t0_Ne_begin_ok (i := 14) rfl
theorem d_Ne_begin_27 : decode c_Ne_begin 27 = .ok (.aload_n 0, 1) := dc_of (x := (27, .aload_n 0, 1)) t0_Ne_begin_ok (i := 15) rfl
theorem d_Ne_begin_28 : decode c_Ne_begin 28 = .ok (.ldc2_w 25, 3) := dc_of (x := (28, .ldc2_w 25, 3)) t0_Ne_begin_ok (i := 16) rfl
theorem d_Ne_begin_31 : decode c_Ne_begin 31 = .ok (.putfield 30, 3) := dc_of (x := (31, .putfield 30, 3)) t0_Ne_begin_ok (i := 17) rfl
theorem d_Ne_begin_34 : decode c_Ne_begin 34 = .ok (.return_, 1) := dc_of (x := (34, .return_, 1)) t0_Ne_begin_ok (i := 18) rfl
def t0_Ne_copyFrom : List (Nat × Instr × Nat) := [(0, .aload_n 0, 1), (1, .aload_n 1, 1), (2, .getfield 9, 3), (5, .putfield 9, 3), (8, .aload_n 0, 1), (9, .aload_n 1, 1), (10, .getfield 15, 3), (13, .putfield 15, 3), (16, .aload_n 0, 1), (17, .aload_n 1, 1), (18, .getfield 18, 3), (21, .putfield 18, 3), (24, .aload_n 0, 1), (25, .aload_n 1, 1), (26, .getfield 21, 3), (29, .putfield 21, 3), (32, .aload_n 0, 1), (33, .aload_n 1, 1), (34, .getfield 27, 3), (37, .putfield 27, 3), (40, .aload_n 0, 1), (41, .aload_n 1, 1), (42, .getfield 30, 3), (45, .putfield 30, 3), (48, .return_, 1)]
theorem t0_Ne_copyFrom_ok : t0_Ne_copyFrom.all (fun x => decide (decode c_Ne_copyFrom x.1 = .ok x.2)) = true := by decide +kernel
theorem d_Ne_copyFrom_0 : decode c_Ne_copyFrom 0 = .ok (.aload_n 0, 1) := dc_of (x := (0, .aload_n 0, 1)) t0_Ne_copyFrom_ok (i := 0) rfl
theorem d_Ne_copyFrom_1 : decode c_Ne_copyFrom 1 = .ok (.aload_n 1, 1) := dc_of (x := (1, .aload_n 1, 1)) t0_Ne_copyFrom_ok (i := 1) rfl
theorem d_Ne_copyFrom_2 : decode c_Ne_copyFrom 2 = .ok (.getfield 9, 3) := dc_of (x := (2, .getfield 9, 3)) t0_Ne_copyFrom_ok (i := 2) rfl
theorem d_Ne_copyFrom_5 : decode c_Ne_copyFrom 5 = .ok (.putfield 9, 3) := dc_of (x := (5, .putfield 9, 3)) t0_Ne_copyFrom_ok (i := 3) rfl
theorem d_Ne_copyFrom_8 : decode c_Ne_copyFrom 8 = .ok (.aload_n 0, 1) := dc_of (x := (8, .aload_n 0, 1)) t0_Ne_copyFrom_ok (i := 4) rfl
theorem d_Ne_copyFrom_9 : decode c_Ne_copyFrom 9 = .ok (.aload_n 1, 1) := dc_of (x := (9, .aload_n 1, 1)) t0_Ne_copyFrom_ok (i := 5) rfl
theorem d_Ne_copyFrom_10 : decode c_Ne_copyFrom 10 = .ok (.getfield 15, 3) := dc_of (x := (10, .getfield 15, 3)) t0_Ne_copyFrom_ok (i := 6) rfl
theorem d_Ne_copyFrom_13 : decode c_Ne_copyFrom 13 = .ok (.putfield 15, 3) := dc_of (x := (13, .putfield 15, 3)) t0_Ne_copyFrom_ok (i := 7) rfl
theorem d_Ne_copyFrom_16 : decode c_Ne_copyFrom 16 = .ok (.aload_n 0, 1) := dc_of (x := (16, .aload_n 0, 1)) t0_Ne_copyFrom_ok (i := 8) rfl
theorem d_Ne_copyFrom_17 : decode c_Ne_copyFrom 17 = .ok (.aload_n 1, 1) := dc_of (x := (17, .aload_n 1, 1)) t0_Ne_copyFrom_ok (i := 9) rfl
theorem d_Ne_copyFrom_18 : decode c_Ne_copyFrom 18 = .ok (.getfield 18, 3) := dc_of (x := (18, .getfield 18, 3)) t0_Ne_copyFrom_ok (i := 10) rfl
theorem d_Ne_copyFrom_21 : decode c_Ne_copyFrom 21 = .ok (.putfield 18, 3) := dc_of (x := (21, .putfield 18, 3)) t0_Ne_copyFrom_ok (i := 11) rfl
theorem d_Ne_copyFrom_24 : decode c_Ne_copyFrom 24 = .ok (.aload_n 0, 1) := dc_of (x := (24, .aload_n 0, 1)) t0_Ne_copyFrom_ok (i := 12) rfl
theorem d_Ne_copyFrom_25 : decode c_Ne_copyFrom 25 = .ok (.aload_n 1, 1) := dc_of (x := (25, .aload_n 1, 1)) t0_Ne_copyFrom_ok (i := 13) rfl
theorem d_Ne_copyFrom_26 : decode c_Ne_copyFrom 26 = .ok (.getfield 21, 3) := dc_of (x := (26, .getfield 21, 3)) t0_Ne_copyFrom_ok (i := 14) rfl
theorem d_Ne_copyFrom_29 : decode c_Ne_copyFrom 29 = .ok (.putfield 21, 3) := dc_of (x := (29, .putfield 21, 3)) t0_Ne_copyFrom_ok (i := 15) rfl
theorem d_Ne_copyFrom_32 : decode c_Ne_copyFrom 32 = .ok (.aload_n 0, 1) := dc_of (x := (32, .aload_n 0, 1)) t0_Ne_copyFrom_ok (i := 16) rfl
theorem d_Ne_copyFrom_33 : decode c_Ne_copyFrom 33 = .ok (.aload_n 1, 1) := dc_of (x := (33, .aload_n 1, 1)) t0_Ne_copyFrom_ok (i := 17) rfl
theorem d_Ne_copyFrom_34 : decode c_Ne_copyFrom 34 = .ok (.getfield 27, 3) := dc_of (x := (34, .getfield 27, 3)) t0_Ne_copyFrom_ok (i := 18) rfl
theorem d_Ne_copyFrom_37 : decode c_Ne_copyFrom 37 = .ok (.putfield 27, 3) := dc_of (x := (37, .putfield 27, 3)) t0_Ne_copyFrom_ok (i := 19) rfl
theorem d_Ne_copyFrom_40 : decode c_Ne_copyFrom 40 = .ok (.aload_n 0, 1) := dc_of (x := (40, .aload_n 0, 1)) t0_Ne_copyFrom_ok (i := 20) rfl
theorem d_Ne_copyFrom_41 : decode c_Ne_copyFrom 41 = .ok (.aload_n 1, 1) := dc_of (x := (41, .aload_n 1, 1)) t0_Ne_copyFrom_ok (i := 21) rfl
theorem d_Ne_copyFrom_42 : decode c_Ne_copyFrom 42 = .ok (.getfield 30, 3) := dc_of (x := (42, .getfield 30, 3)) t0_Ne_copyFrom_ok (i := 22) rfl
theorem d_Ne_copyFrom_45 : decode c_Ne_copyFrom 45 = .ok (.putfield 30, 3) := dc_of (x := (45, .putfield 30, 3)) t0_Ne_copyFrom_ok (i := 23) rfl
theorem d_Ne_copyFrom_48 : decode c_Ne_copyFrom 48 = .ok (.return_, 1) := dc_of (x := (48, .return_, 1)) t0_Ne_copyFrom_ok (i := 24) rfl
def t0_Ta_init : List (Nat × Instr × Nat) := [(0, .aload_n 0, 1), (1, .invokespecial 3, 3), (4, .aload_n 0, 1), (5, .sipush 2000, 3), (8, .newarray .int, 2), (10, .putfield 9, 3), (13, .return_, 1)]
theorem t0_Ta_init_ok : t0_Ta_init.all (fun x => decide (decode c_Ta_init x.1 = .ok x.2)) = true := by decide +kernel
theorem d_Ta_init_0 : decode c_Ta_init 0 = .ok (.aload_n 0, 1) := dc_of (x := (0, .aload_n 0, 1)) t0_Ta_init_ok (i := 0) rfl
theorem d_Ta_init_1 : decode c_Ta_init 1 = .ok (.invokespecial 3, 3) := dc_of (x := (1, .invokespecial 3, 3)) t0_Ta_init_ok (i := 1) rfl
theorem d_Ta_init_4 : decode c_Ta_init 4 = .ok (.aload_n 0, 1) := dc_of (x := (4, .aload_n 0, 1)) t0_Ta_init_ok (i := 2) rfl
theorem d_Ta_init_5 : decode c_Ta_init 5 = .ok (.sipush 2000, 3) := dc_of (x := (5, .sipush 2000, 3)) t0_Ta_init_ok (i := 3) rfl
theorem d_Ta_init_8 : decode c_Ta_init 8 = .ok (.newarray .int, 2) := dc_of (x := (8, .newarray .int, 2)) t0_Ta_init_ok (i := 4) rfl
theorem d_Ta_init_10 : decode c_Ta_init 10 = .ok (.putfield 9, 3) := dc_of (x := (10, .putfield 9, 3)) t0_Ta_init_ok (i := 5) rfl
theorem d_Ta_init_13 : decode c_Ta_init 13 = .ok (.return_, 1) := dc_of (x := (13, .return_, 1)) t0_Ta_init_ok (i := 6) rfl
def t0_Ta_append : List (Nat × Instr × Nat) := [(0, .aload_n 0, 1), (1, .getfield 15, 3), (4, .sipush 2000, 3), (7, .if_icmp .lt 5, 3), (10, .iconst 0, 1), (11, .ireturn, 1), (12, .aload_n 0, 1), (13, .getfield 9, 3), (16, .aload_n 0, 1), (17, .getfield 15, 3), (20, .iload_n 1, 1), (21, .iastore, 1), (22, .aload_n 0, 1), (23, .dup, 1), (24, .getfield 15, 3), (27, .iconst 1, 1), (28, .iadd, 1), (29, .putfield 15, 3), (32, .iconst 1, 1), (33, .ireturn, 1)]
theorem t0_Ta_append_ok : t0_Ta_append.all (fun x => decide (decode c_Ta_append x.1 = .ok x.2)) = true := by decide +kernel
theorem d_Ta_append_0 : decode c_Ta_append 0 = .ok (.aload_n 0, 1) := dc_of (x := (0, .aload_n 0, 1)) t0_Ta_append_ok (i := 0) rfl
theorem d_Ta_append_1 : decode c_Ta_append 1 = .ok (.getfield 15, 3) := dc_of (x := (1, .getfield 15, 3)) t0_Ta_append_ok (i := 1) rfl
theorem d_Ta_append_4 : decode c_Ta_append 4 = .ok (.sipush 2000, 3) := dc_of (x := (4, .sipush 2000, 3)) t0_Ta_append_ok (i := 2) rfl
theorem d_Ta_append_7 : decode c_Ta_append 7 = .ok (.if_icmp .lt 5, 3) := dc_of (x := (7, .if_icmp .lt 5, 3)) t0_Ta_append_ok (i := 3) rfl
theorem d_Ta_append_10 : decode c_Ta_append 10 = .ok (.iconst 0, 1) := dc_of (x := (10, .iconst 0, 1)) t0_Ta_append_ok (i := 4) rfl
theorem d_Ta_append_11 : decode c_Ta_append 11 = .ok (.ireturn, 1) := dc_of (x := (11, .ireturn, 1)) t0_Ta_append_ok (i := 5) rfl
theorem d_Ta_append_12 : decode c_Ta_append 12 = .ok (.aload_n 0, 1) := dc_of (x := (12, .aload_n 0, 1)) t0_Ta_append_ok (i := 6) rfl
theorem d_Ta_append_13 : decode c_Ta_append 13 = .ok (.getfield 9, 3) := dc_of (x := (13, .getfield 9, 3)) t0_Ta_append_ok (i := 7) rfl
theorem d_Ta_append_16 : decode c_Ta_append 16 = .ok (.aload_n 0, 1) := dc_of (x := (16, .aload_n 0, 1)) t0_Ta_append_ok (i := 8) rfl
theorem d_Ta_append_17 : decode c_Ta_append 17 = .ok (.getfield 15, 3) := dc_of (x := (17, .getfield 15, 3)) t0_Ta_append_ok (i := 9) rfl
theorem d_Ta_append_20 : decode c_Ta_append 20 = .ok (.iload_n 1, 1) := dc_of (x := (20, .iload_n 1, 1)) t0_Ta_append_ok (i := 10) rfl
theorem d_Ta_append_21 : decode c_Ta_append 21 = .ok (.iastore, 1) := dc_of (x := (21, .iastore, 1)) t0_Ta_append_ok (i := 11) rfl
theorem d_Ta_append_22 : decode c_Ta_append 22 = .ok (.aload_n 0, 1) := dc_of (x := (22, .aload_n 0, 1)) t0_Ta_append_ok (i := 12) rfl
theorem d_Ta_append_23 : decode c_Ta_append 23 = .ok (.dup, 1) := dc_of (x := (23, .dup, 1)) t0_Ta_append_ok (i := 13) rfl
theorem d_Ta_append_24 : decode c_Ta_append 24 = .ok (.getfield 15, 3) := dc_of (x := (24, .getfield 15, 3)) t0_Ta_append_ok (i := 14) rfl
theorem d_Ta_append_27 : decode c_Ta_append 27 = .ok (.iconst 1, 1) := dc_of (x := (27, .iconst 1, 1)) t0_Ta_append_ok (i := 15) rfl
theorem d_Ta_append_28 : decode c_Ta_append 28 = .ok (.iadd, 1) := dc_of (x := (28, .iadd, 1)) t0_Ta_append_ok (i := 16) rfl
theorem d_Ta_append_29 : decode c_Ta_append 29 = .ok (.putfield 15, 3) := dc_of (x := (29, .putfield 15, 3)) t0_Ta_append_ok (i := 17) rfl
theorem d_Ta_append_32 : decode c_Ta_append 32 = .ok (.iconst 1, 1) := dc_of (x := (32, .iconst 1, 1)) t0_Ta_append_ok (i := 18) rfl
theorem d_Ta_append_33 : decode c_Ta_append 33 = .ok (.ireturn, 1) := dc_of (x := (33, .ireturn, 1)) t0_Ta_append_ok (i := 19) rfl
def t0_Ta_byteOrNone : List (Nat × Instr × Nat) := [(0, .iload_n 1, 1), (1, .ifCond .lt 20, 3), (4, .iload_n 1, 1), (5, .aload_n 0, 1), (6, .getfield 15, 3), (9, .if_icmp .ge 12, 3), (12, .aload_n 0, 1), (13, .getfield 9, 3), (16, .iload_n 1, 1), (17, .iaload, 1), (18, .goto 4, 3), (21, .iconst (-1), 1), (22, .ireturn, 1)]
theorem t0_Ta_byteOrNone_ok : t0_Ta_byteOrNone.all (fun x => decide (decode c_Ta_byteOrNone x.1 = .ok x.2)) = true := by decide +kernel
theorem d_Ta_byteOrNone_0 : decode c_Ta_byteOrNone 0 = .ok (.iload_n 1, 1) := dc_of (x := (0, .iload_n 1, 1)) t0_Ta_byteOrNone_ok (i := 0) rfl
theorem d_Ta_byteOrNone_1 : decode c_Ta_byteOrNone 1 = .ok (.ifCond .lt 20, 3) := dc_of (x := (1, .ifCond .lt 20, 3)) t0_Ta_byteOrNone_ok (i := 1) rfl
theorem d_Ta_byteOrNone_4 : decode c_Ta_byteOrNone 4 = .ok (.iload_n 1, 1) := dc_of (x := (4, .iload_n 1, 1)) t0_Ta_byteOrNone_ok (i := 2) rfl
theorem d_Ta_byteOrNone_5 : decode c_Ta_byteOrNone 5 = .ok (.aload_n 0, 1) := dc_of (x := (5, .aload_n 0, 1)) t0_Ta_byteOrNone_ok (i := 3) rfl
theorem d_Ta_byteOrNone_6 : decode c_Ta_byteOrNone 6 = .ok (.getfield 15, 3) := dc_of (x := (6, .getfield 15, 3)) t0_Ta_byteOrNone_ok (i := 4) rfl
theorem d_Ta_byteOrNone_9 : decode c_Ta_byteOrNone 9 = .ok (.if_icmp .ge 12, 3) := dc_of (x := (9, .if_icmp .ge 12, 3)) t0_Ta_byteOrNone_ok (i := 5) rfl
theorem d_Ta_byteOrNone_12 : decode c_Ta_byteOrNone 12 = .ok (.aload_n 0, 1) := dc_of (x := (12, .aload_n 0, 1)) t0_Ta_byteOrNone_ok (i := 6) rfl
theorem d_Ta_byteOrNone_13 : decode c_Ta_byteOrNone 13 = .ok (.getfield 9, 3) := dc_of (x := (13, .getfield 9, 3)) t0_Ta_byteOrNone_ok (i := 7) rfl
theorem d_Ta_byteOrNone_16 : decode c_Ta_byteOrNone 16 = .ok (.iload_n 1, 1) := dc_of (x := (16, .iload_n 1, 1)) t0_Ta_byteOrNone_ok (i := 8) rfl
theorem d_Ta_byteOrNone_17 : decode c_Ta_byteOrNone 17 = .ok (.iaload, 1) := dc_of (x := (17, .iaload, 1)) t0_Ta_byteOrNone_ok (i := 9) rfl
theorem d_Ta_byteOrNone_18 : decode c_Ta_byteOrNone 18 = .ok (.goto 4, 3) := dc_of (x := (18, .goto 4, 3)) t0_Ta_byteOrNone_ok (i := 10) rfl
theorem d_Ta_byteOrNone_21 : decode c_Ta_byteOrNone 21 = .ok (.iconst (-1), 1) := dc_of (x := (21, .iconst (-1), 1)) t0_Ta_byteOrNone_ok (i := 11) rfl
theorem d_Ta_byteOrNone_22 : decode c_Ta_byteOrNone 22 = .ok (.ireturn, 1) := dc_of (x := (22, .ireturn, 1)) t0_Ta_byteOrNone_ok (i := 12) rfl
def t0_Ta_skipBlanks : List (Nat × Instr × Nat) := [(0, .iload_n 1, 1), (1, .istore_n 2, 1), (2, .iload_n 2, 1), (3, .aload_n 0, 1), (4, .getfield 15, 3), (7, .if_icmp .ge 20, 3), (10, .aload_n 0, 1), (11, .iload_n 2, 1), (12, .invokevirtual 19, 3), (15, .invokestatic 23, 3), (18, .ifCond .eq 9, 3), (21, .iinc 2 1, 3), (24, .goto (-22), 3), (27, .iload_n 2, 1), (28, .ireturn, 1)]
theorem t0_Ta_skipBlanks_ok : t0_Ta_skipBlanks.all (fun x => decide (decode c_Ta_skipBlanks x.1 = .ok x.2)) = true := by decide +kernel
theorem d_Ta_skipBlanks_0 : decode c_Ta_skipBlanks 0 = .ok (.iload_n 1, 1) := dc_of (x := (0, .iload_n 1, 1)) t0_Ta_skipBlanks_ok (i := 0) rfl
theorem d_Ta_skipBlanks_1 : decode c_Ta_skipBlanks 1 = .ok (.istore_n 2, 1) := dc_of (x := (1, .istore_n 2, 1)) t0_Ta_skipBlanks_ok (i := 1) rfl
theorem d_Ta_skipBlanks_2 : decode c_Ta_skipBlanks 2 = .ok (.iload_n 2, 1) := dc_of (x := (2, .iload_n 2, 1)) t0_Ta_skipBlanks_ok (i := 2) rfl
theorem d_Ta_skipBlanks_3 : decode c_Ta_skipBlanks 3 = .ok (.aload_n 0, 1) := dc_of (x := (3, .aload_n 0, 1)) t0_Ta_skipBlanks_ok (i := 3) rfl
theorem d_Ta_skipBlanks_4 : decode c_Ta_skipBlanks 4 = .ok (.getfield 15, 3) := dc_of (x := (4, .getfield 15, 3)) t0_Ta_skipBlanks_ok (i := 4) rfl
theorem d_Ta_skipBlanks_7 : decode c_Ta_skipBlanks 7 = .ok (.if_icmp .ge 20, 3) := dc_of (x := (7, .if_icmp .ge 20, 3)) t0_Ta_skipBlanks_ok (i := 5) rfl
theorem d_Ta_skipBlanks_10 : decode c_Ta_skipBlanks 10 = .ok (.aload_n 0, 1) := dc_of (x := (10, .aload_n 0, 1)) t0_Ta_skipBlanks_ok (i := 6) rfl
theorem d_Ta_skipBlanks_11 : decode c_Ta_skipBlanks 11 = .ok (.iload_n 2, 1) := dc_of (x := (11, .iload_n 2, 1)) t0_Ta_skipBlanks_ok (i := 7) rfl
theorem d_Ta_skipBlanks_12 : decode c_Ta_skipBlanks 12 = .ok (.invokevirtual 19, 3) := dc_of (x := (12, .invokevirtual 19, 3)) t0_Ta_skipBlanks_ok (i := 8) rfl
theorem d_Ta_skipBlanks_15 : decode c_Ta_skipBlanks 15 = .ok (.invokestatic 23, 3) := dc_of (x := (15, .invokestatic 23, 3)) t0_Ta_skipBlanks_ok (i := 9) rfl
theorem d_Ta_skipBlanks_18 : decode c_Ta_skipBlanks 18 = .ok (.ifCond .eq 9, 3) := dc_of (x := (18, .ifCond .eq 9, 3)) t0_Ta_skipBlanks_ok (i := 10) rfl
theorem d_Ta_skipBlanks_21 : decode c_Ta_skipBlanks 21 = .ok (.iinc 2 1, 3) := dc_of (x := (21, .iinc 2 1, 3)) t0_Ta_skipBlanks_ok (i := 11) rfl
theorem d_Ta_skipBlanks_24 : decode c_Ta_skipBlanks 24 = .ok (.goto (-22), 3) := dc_of (x := (24, .goto (-22), 3)) t0_Ta_skipBlanks_ok (i := 12) rfl
theorem d_Ta_skipBlanks_27 : decode c_Ta_skipBlanks 27 = .ok (.iload_n 2, 1) := dc_of (x := (27, .iload_n 2, 1)) t0_Ta_skipBlanks_ok (i := 13) rfl
theorem d_Ta_skipBlanks_28 : decode c_Ta_skipBlanks 28 = .ok (.ireturn, 1) := dc_of (x := (28, .ireturn, 1)) t0_Ta_skipBlanks_ok (i := 14) rfl
def t0_Ta_skipDigits : List (Nat × Instr × Nat) := [(0, .iload_n 1, 1), (1, .istore_n 2, 1), (2, .iload_n 2, 1), (3, .aload_n 0, 1), (4, .getfield 15, 3), (7, .if_icmp .ge 20, 3), (10, .aload_n 0, 1), (11, .iload_n 2, 1), (12, .invokevirtual 19, 3), (15, .invokestatic 27, 3), (18, .ifCond .eq 9, 3), (21, .iinc 2 1, 3), (24, .goto (-22), 3), (27, .iload_n 2, 1), (28, .ireturn, 1)]
theorem t0_Ta_skipDigits_ok : t0_Ta_skipDigits.all (fun x => decide (decode c_Ta_skipDigits x.1 = .ok x.2)) = true := by decide +kernel
theorem d_Ta_skipDigits_0 : decode c_Ta_skipDigits 0 = .ok (.iload_n 1, 1) := dc_of (x := (0, .iload_n 1, 1)) t0_Ta_skipDigits_ok (i := 0) rfl
theorem d_Ta_skipDigits_1 : decode c_Ta_skipDigits 1 = .ok (.istore_n 2, 1) := dc_of (x := (1, .istore_n 2, 1)) t0_Ta_skipDigits_ok (i := 1) rfl
theorem d_Ta_skipDigits_2 : decode c_Ta_skipDigits 2 = .ok (.iload_n 2, 1) := dc_of (x := (2, .iload_n 2, 1)) t0_Ta_skipDigits_ok (i := 2) rfl
theorem d_Ta_skipDigits_3 : decode c_Ta_skipDigits 3 = .ok (.aload_n 0, 1) := dc_of (x := (3, .aload_n 0, 1)) t0_Ta_skipDigits_ok (i := 3) rfl
theorem d_Ta_skipDigits_4 : decode c_Ta_skipDigits 4 = .ok (.getfield 15, 3) := dc_of (x := (4, .getfield 15, 3)) t0_Ta_skipDigits_ok (i := 4) rfl
theorem d_Ta_skipDigits_7 : decode c_Ta_skipDigits 7 = .ok (.if_icmp .ge 20, 3) := dc_of (x := (7, .if_icmp .ge 20, 3)) t0_Ta_skipDigits_ok (i := 5) rfl
theorem d_Ta_skipDigits_10 : decode c_Ta_skipDigits 10 = .ok (.aload_n 0, 1) := dc_of (x := (10, .aload_n 0, 1)) t0_Ta_skipDigits_ok (i := 6) rfl
theorem d_Ta_skipDigits_11 : decode c_Ta_skipDigits 11 = .ok (.iload_n 2, 1) := dc_of (x := (11, .iload_n 2, 1)) t0_Ta_skipDigits_ok (i := 7) rfl
theorem d_Ta_skipDigits_12 : decode c_Ta_skipDigits 12 = .ok (.invokevirtual 19, 3) := dc_of (x := (12, .invokevirtual 19, 3)) t0_Ta_skipDigits_ok (i := 8) rfl
theorem d_Ta_skipDigits_15 : decode c_Ta_skipDigits 15 = .ok (.invokestatic 27, 3) := dc_of (x := (15, .invokestatic 27, 3)) t0_Ta_skipDigits_ok (i := 9) rfl
theorem d_Ta_skipDigits_18 : decode c_Ta_skipDigits 18 = .ok (.ifCond .eq 9, 3) := dc_of (x := (18, .ifCond .eq 9, 3)) t0_Ta_skipDigits_ok (i := 10) rfl
theorem d_Ta_skipDigits_21 : decode c_Ta_skipDigits 21 = .ok (.iinc 2 1, 3) := dc_of (x := (21, .iinc 2 1, 3)) t0_Ta_skipDigits_ok (i := 11) rfl
theorem d_Ta_skipDigits_24 : decode c_Ta_skipDigits 24 = .ok (.goto (-22), 3) := dc_of (x := (24, .goto (-22), 3)) t0_Ta_skipDigits_ok (i := 12) rfl
theorem d_Ta_skipDigits_27 : decode c_Ta_skipDigits 27 = .ok (.iload_n 2, 1) := dc_of (x := (27, .iload_n 2, 1)) t0_Ta_skipDigits_ok (i := 13) rfl
theorem d_Ta_skipDigits_28 : decode c_Ta_skipDigits 28 = .ok (.ireturn, 1) := dc_of (x := (28, .ireturn, 1)) t0_Ta_skipDigits_ok (i := 14) rfl
def t0_Ta_isBlank : List (Nat × Instr × Nat) := [(0, .iload_n 0, 1), (1, .bipush 9, 2), (3, .if_icmp .eq 21, 3), (6, .iload_n 0, 1), (7, .bipush 10, 2), (9, .if_icmp .eq 15, 3), (12, .iload_n 0, 1), (13, .bipush 13, 2), (15, .if_icmp .eq 9, 3), (18, .iload_n 0, 1), (19, .bipush 32, 2), (21, .if_icmp .ne 7, 3), (24, .iconst 1, 1), (25, .goto 4, 3), (28, .iconst 0, 1), (29, .ireturn, 1)]
theorem t0_Ta_isBlank_ok : t0_Ta_isBlank.all (fun x => decide (decode c_Ta_isBlank x.1 = .ok x.2)) = true := by decide +kernel
theorem d_Ta_isBlank_0 : decode c_Ta_isBlank 0 = .ok (.iload_n 0, 1) := dc_of (x := (0, .iload_n 0, 1)) t0_Ta_isBlank_ok (i := 0) rfl
theorem d_Ta_isBlank_1 : decode c_Ta_isBlank 1 = .ok (.bipush 9, 2) := dc_of (x := (1, .bipush 9, 2)) t0_Ta_isBlank_ok (i := 1) rfl
theorem d_Ta_isBlank_3 : decode c_Ta_isBlank 3 = .ok (.if_icmp .eq 21, 3) := dc_of (x := (3, .if_icmp .eq 21, 3)) t0_Ta_isBlank_ok (i := 2) rfl
theorem d_Ta_isBlank_6 : decode c_Ta_isBlank 6 = .ok (.iload_n 0, 1) := dc_of (x := (6, .iload_n 0, 1)) t0_Ta_isBlank_ok (i := 3) rfl
theorem d_Ta_isBlank_7 : decode c_Ta_isBlank 7 = .ok (.bipush 10, 2) := dc_of (x := (7, .bipush 10, 2)) t0_Ta_isBlank_ok (i := 4) rfl
theorem d_Ta_isBlank_9 : decode c_Ta_isBlank 9 = .ok (.if_icmp .eq 15, 3) := dc_of (x := (9, .if_icmp .eq 15, 3)) t0_Ta_isBlank_ok (i := 5) rfl
theorem d_Ta_isBlank_12 : decode c_Ta_isBlank 12 = .ok (.iload_n 0, 1) := dc_of (x := (12, .iload_n 0, 1)) t0_Ta_isBlank_ok (i := 6) rfl
theorem d_Ta_isBlank_13 : decode c_Ta_isBlank 13 = .ok (.bipush 13, 2) := dc_of (x := (13, .bipush 13, 2)) t0_Ta_isBlank_ok (i := 7) rfl
theorem d_Ta_isBlank_15 : decode c_Ta_isBlank 15 = .ok (.if_icmp .eq 9, 3) := dc_of (x := (15, .if_icmp .eq 9, 3)) t0_Ta_isBlank_ok (i := 8) rfl
theorem d_Ta_isBlank_18 : decode c_Ta_isBlank 18 = .ok (.iload_n 0, 1) := dc_of (x := (18, .iload_n 0, 1)) t0_Ta_isBlank_ok (i := 9) rfl
theorem d_Ta_isBlank_19 : decode c_Ta_isBlank 19 = .ok (.bipush 32, 2) := dc_of (x := (19, .bipush 32, 2)) t0_Ta_isBlank_ok (i := 10) rfl
theorem d_Ta_isBlank_21 : decode c_Ta_isBlank 21 = .ok (.if_icmp .ne 7, 3) := dc_of (x := (21, .if_icmp .ne 7, 3)) t0_Ta_isBlank_ok (i := 11) rfl
theorem d_Ta_isBlank_24 : decode c_Ta_isBlank 24 = .ok (.iconst 1, 1) := dc_of (x := (24, .iconst 1, 1)) t0_Ta_isBlank_ok (i := 12) rfl
theorem d_Ta_isBlank_25 : decode c_Ta_isBlank 25 = .ok (.goto 4, 3) := dc_of (x := (25, .goto 4, 3)) t0_Ta_isBlank_ok (i := 13) rfl
theorem d_Ta_isBlank_28 : decode c_Ta_isBlank 28 = .ok (.iconst 0, 1) := dc_of (x := (28, .iconst 0, 1)) t0_Ta_isBlank_ok (i := 14) rfl
theorem d_Ta_isBlank_29 : decode c_Ta_isBlank 29 = .ok (.ireturn, 1) := dc_of (x := (29, .ireturn, 1)) t0_Ta_isBlank_ok (i := 15) rfl
def t0_Ta_isDigit : List (Nat × Instr × Nat) := [(0, .iload_n 0, 1), (1, .bipush 48, 2), (3, .if_icmp .lt 13, 3), (6, .iload_n 0, 1), (7, .bipush 57, 2), (9, .if_icmp .gt 7, 3), (12, .iconst 1, 1), (13, .goto 4, 3), (16, .iconst 0, 1), (17, .ireturn, 1)]
theorem t0_Ta_isDigit_ok : t0_Ta_isDigit.all (fun x => decide (decode c_Ta_isDigit x.1 = .ok x.2)) = true := by decide +kernel
theorem d_Ta_isDigit_0 : decode c_Ta_isDigit 0 = .ok (.iload_n 0, 1) := dc_of (x := (0, .iload_n 0, 1)) t0_Ta_isDigit_ok (i := 0) rfl
theorem d_Ta_isDigit_1 : decode c_Ta_isDigit 1 = .ok (.bipush 48, 2) := dc_of (x := (1, .bipush 48, 2)) t0_Ta_isDigit_ok (i := 1) rfl
theorem d_Ta_isDigit_3 : decode c_Ta_isDigit 3 = .ok (.if_icmp .lt 13, 3) := dc_of (x := (3, .if_icmp .lt 13, 3)) t0_Ta_isDigit_ok (i := 2) rfl
theorem d_Ta_isDigit_6 : decode c_Ta_isDigit 6 = .ok (.iload_n 0, 1) := dc_of (x := (6, .iload_n 0, 1)) t0_Ta_isDigit_ok (i := 3) rfl
theorem d_Ta_isDigit_7 : decode c_Ta_isDigit 7 = .ok (.bipush 57, 2) := dc_of (x := (7, .bipush 57, 2)) t0_Ta_isDigit_ok (i := 4) rfl
theorem d_Ta_isDigit_9 : decode c_Ta_isDigit 9 = .ok (.if_icmp .gt 7, 3) := dc_of (x := (9, .if_icmp .gt 7, 3)) t0_Ta_isDigit_ok (i := 5) rfl
theorem d_Ta_isDigit_12 : decode c_Ta_isDigit 12 = .ok (.iconst 1, 1) := dc_of (x := (12, .iconst 1, 1)) t0_Ta_isDigit_ok (i := 6) rfl
theorem d_Ta_isDigit_13 : decode c_Ta_isDigit 13 = .ok (.goto 4, 3) := dc_of (x := (13, .goto 4, 3)) t0_Ta_isDigit_ok (i := 7) rfl
theorem d_Ta_isDigit_16 : decode c_Ta_isDigit 16 = .ok (.iconst 0, 1) := dc_of (x := (16, .iconst 0, 1)) t0_Ta_isDigit_ok (i := 8) rfl
theorem d_Ta_isDigit_17 : decode c_Ta_isDigit 17 = .ok (.ireturn, 1) := dc_of (x := (17, .ireturn, 1)) t0_Ta_isDigit_ok (i := 9) rfl
def t0_Tr_init : List (Nat × Instr × Nat) := [(0, .aload_n 0, 1), (1, .invokespecial 3, 3), (4, .aload_n 0, 1), (5, .aload_n 1, 1), (6, .putfield 9, 3), (9, .aload_n 0, 1), (10, .aload_n 2, 1), (11, .putfield 15, 3), (14, .return_, 1)]
theorem t0_Tr_init_ok : t0_Tr_init.all (fun x => decide (decode c_Tr_init x.1 = .ok x.2)) = true := by decide +kernel
theorem d_Tr_init_0 : decode c_Tr_init 0 = .ok (.aload_n 0, 1) := dc_of (x := (0, .aload_n 0, 1)) t0_Tr_init_ok (i := 0) rfl
theorem d_Tr_init_1 : decode c_Tr_init 1 = .ok (.invokespecial 3, 3) := dc_of (x := (1, .invokespecial 3, 3)) t0_Tr_init_ok (i := 1) rfl
theorem d_Tr_init_4 : decode c_Tr_init 4 = .ok (.aload_n 0, 1) := dc_of (x := (4, .aload_n 0, 1)) t0_Tr_init_ok (i := 2) rfl
theorem d_Tr_init_5 : decode c_Tr_init 5 = .ok (.aload_n 1, 1) := dc_of (x := (5, .aload_n 1, 1)) t0_Tr_init_ok (i := 3) rfl
theorem d_Tr_init_6 : decode c_Tr_init 6 = .ok (.putfield 9, 3) := dc_of (x := (6, .putfield 9, 3)) t0_Tr_init_ok (i := 4) rfl
theorem d_Tr_init_9 : decode c_Tr_init 9 = .ok (.aload_n 0, 1) := dc_of (x := (9, .aload_n 0, 1)) t0_Tr_init_ok (i := 5) rfl
theorem d_Tr_init_10 : decode c_Tr_init 10 = .ok (.aload_n 2, 1) := dc_of (x := (10, .aload_n 2, 1)) t0_Tr_init_ok (i := 6) rfl
theorem d_Tr_init_11 : decode c_Tr_init 11 = .ok (.putfield 15, 3) := dc_of (x := (11, .putfield 15, 3)) t0_Tr_init_ok (i := 7) rfl
theorem d_Tr_init_14 : decode c_Tr_init 14 = .ok (.return_, 1) := dc_of (x := (14, .return_, 1)) t0_Tr_init_ok (i := 8) rfl
def t0_Tr_pass : List (Nat × Instr × Nat) := [(0, .aload_n 0, 1), (1, .ldc2_w 19, 3), (4, .putfield 21, 3), (7, .aload_n 0, 1), (8, .iconst 0, 1), (9, .putfield 25, 3), (12, .aload_n 0, 1), (13, .getfield 9, 3), (16, .iconst 0, 1), (17, .invokevirtual 29, 3), (20, .istore_n 2, 1), (21, .iconst 0, 1), (22, .istore_n 3, 1), (23, .iload_n 3, 1), (24, .sipush 2000, 3), (27, .if_icmp .ge 67, 3), (30, .iload_n 2, 1), (31, .aload_n 0, 1), (32, .getfield 9, 3), (35, .getfield 35, 3), (38, .if_icmp .ge 56, 3), (41, .aload_n 0, 1), (42, .getfield 9, 3), (45, .iload_n 2, 1), (46, .invokevirtual 38, 3), (49, .bipush 35, 2), (51, .if_icmp .ne 11, 3), (54, .aload_n 0, 1), (55, .iload_n 2, 1), (56, .invokevirtual 41, 3), (59, .goto 9, 3), (62, .aload_n 0, 1), (63, .iload_n 2, 1), (64, .iload_n 1, 1), (65, .invokevirtual 44, 3), (68, .istore 4, 2), (70, .iload 4, 2), (72, .iconst (-1), 1), (73, .if_icmp .ne 5, 3), (76, .iload_n 2, 1), (77, .ireturn, 1), (78, .aload_n 0, 1), (79, .getfield 9, 3), (82, .iload 4, 2), (84, .invokevirtual 29, 3), (87, .istore_n 2, 1), (88, .iinc 3 1, 3), (91, .goto (-68), 3), (94, .iconst (-1), 1), (95, .ireturn, 1)]
theorem t0_Tr_pass_ok : t0_Tr_pass.all (fun x => decide (decode c_Tr_pass x.1 = .ok x.2)) = true := by decide +kernel
theorem d_Tr_pass_0 : decode c_Tr_pass 0 = .ok (.aload_n 0, 1) := dc_of (x := (0, .aload_n 0, 1)) t0_Tr_pass_ok (i := 0) rfl
theorem d_Tr_pass_1 : decode c_Tr_pass 1 = .ok (.ldc2_w 19, 3) := dc_of (x := (1, .ldc2_w 19, 3)) t0_Tr_pass_ok (i := 1) rfl
theorem d_Tr_pass_4 : decode c_Tr_pass 4 = .ok (.putfield 21, 3) := dc_of (x := (4, .putfield 21, 3)) t0_Tr_pass_ok (i := 2) rfl
theorem d_Tr_pass_7 : decode c_Tr_pass 7 = .ok (.aload_n 0, 1) := dc_of (x := (7, .aload_n 0, 1)) t0_Tr_pass_ok (i := 3) rfl
theorem d_Tr_pass_8 : decode c_Tr_pass 8 = .ok (.iconst 0, 1) := dc_of (x := (8, .iconst 0, 1)) t0_Tr_pass_ok (i := 4) rfl
theorem d_Tr_pass_9 : decode c_Tr_pass 9 = .ok (.putfield 25, 3) := dc_of (x := (9, .putfield 25, 3)) t0_Tr_pass_ok (i := 5) rfl
theorem d_Tr_pass_12 : decode c_Tr_pass 12 = .ok (.aload_n 0, 1) := dc_of (x := (12, .aload_n 0, 1)) t0_Tr_pass_ok (i := 6) rfl
theorem d_Tr_pass_13 : decode c_Tr_pass 13 = .ok (.getfield 9, 3) := dc_of (x := (13, .getfield 9, 3)) t0_Tr_pass_ok (i := 7) rfl
theorem d_Tr_pass_16 : decode c_Tr_pass 16 = .ok (.iconst 0, 1) := dc_of (x := (16, .iconst 0, 1)) t0_Tr_pass_ok (i := 8) rfl
theorem d_Tr_pass_17 : decode c_Tr_pass 17 = .ok (.invokevirtual 29, 3) := dc_of (x := (17, .invokevirtual 29, 3)) t0_Tr_pass_ok (i := 9) rfl
theorem d_Tr_pass_20 : decode c_Tr_pass 20 = .ok (.istore_n 2, 1) := dc_of (x := (20, .istore_n 2, 1)) t0_Tr_pass_ok (i := 10) rfl
theorem d_Tr_pass_21 : decode c_Tr_pass 21 = .ok (.iconst 0, 1) := dc_of (x := (21, .iconst 0, 1)) t0_Tr_pass_ok (i := 11) rfl
theorem d_Tr_pass_22 : decode c_Tr_pass 22 = .ok (.istore_n 3, 1) := dc_of (x := (22, .istore_n 3, 1)) t0_Tr_pass_ok (i := 12) rfl
theorem d_Tr_pass_23 : decode c_Tr_pass 23 = .ok (.iload_n 3, 1) := dc_of (x := (23, .iload_n 3, 1)) t0_Tr_pass_ok (i := 13) rfl
theorem d_Tr_pass_24 : decode c_Tr_pass 24 = .ok (.sipush 2000, 3) := dc_of (x := (24, .sipush 2000, 3)) t0_Tr_pass_ok (i := 14) rfl
theorem d_Tr_pass_27 : decode c_Tr_pass 27 = .ok (.if_icmp .ge 67, 3) := dc_of (x := (27, .if_icmp .ge 67, 3)) t0_Tr_pass_ok (i := 15) rfl
theorem d_Tr_pass_30 : decode c_Tr_pass 30 = .ok (.iload_n 2, 1) := dc_of (x := (30, .iload_n 2, 1)) t0_Tr_pass_ok (i := 16) rfl
theorem d_Tr_pass_31 : decode c_Tr_pass 31 = .ok (.aload_n 0, 1) := dc_of (x := (31, .aload_n 0, 1)) t0_Tr_pass_ok (i := 17) rfl
theorem d_Tr_pass_32 : decode c_Tr_pass 32 = .ok (.getfield 9, 3) := dc_of (x := (32, .getfield 9, 3)) t0_Tr_pass_ok (i := 18) rfl
theorem d_Tr_pass_35 : decode c_Tr_pass 35 = .ok (.getfield 35, 3) := dc_of (x := (35, .getfield 35, 3)) t0_Tr_pass_ok (i := 19) rfl
theorem d_Tr_pass_38 : decode c_Tr_pass 38 = .ok (.if_icmp .ge 56, 3) := dc_of (x := (38, .if_icmp .ge 56, 3)) t0_Tr_pass_ok (i := 20) rfl
theorem d_Tr_pass_41 : decode c_Tr_pass 41 = .ok (.aload_n 0, 1) := dc_of (x := (41, .aload_n 0, 1)) t0_Tr_pass_ok (i := 21) rfl
theorem d_Tr_pass_42 : decode c_Tr_pass 42 = .ok (.getfield 9, 3) := dc_of (x := (42, .getfield 9, 3)) t0_Tr_pass_ok (i := 22) rfl
theorem d_Tr_pass_45 : decode c_Tr_pass 45 = .ok (.iload_n 2, 1) := dc_of (x := (45, .iload_n 2, 1)) t0_Tr_pass_ok (i := 23) rfl
theorem d_Tr_pass_46 : decode c_Tr_pass 46 = .ok (.invokevirtual 38, 3) := dc_of (x := (46, .invokevirtual 38, 3)) t0_Tr_pass_ok (i := 24) rfl
theorem d_Tr_pass_49 : decode c_Tr_pass 49 = .ok (.bipush 35, 2) := dc_of (x := (49, .bipush 35, 2)) t0_Tr_pass_ok (i := 25) rfl
theorem d_Tr_pass_51 : decode c_Tr_pass 51 = .ok (.if_icmp .ne 11, 3) := dc_of (x := (51, .if_icmp .ne 11, 3)) t0_Tr_pass_ok (i := 26) rfl
theorem d_Tr_pass_54 : decode c_Tr_pass 54 = .ok (.aload_n 0, 1) := dc_of (x := (54, .aload_n 0, 1)) t0_Tr_pass_ok (i := 27) rfl
theorem d_Tr_pass_55 : decode c_Tr_pass 55 = .ok (.iload_n 2, 1) := dc_of (x := (55, .iload_n 2, 1)) t0_Tr_pass_ok (i := 28) rfl
theorem d_Tr_pass_56 : decode c_Tr_pass 56 = .ok (.invokevirtual 41, 3) := dc_of (x := (56, .invokevirtual 41, 3)) t0_Tr_pass_ok (i := 29) rfl
theorem d_Tr_pass_59 : decode c_Tr_pass 59 = .ok (.goto 9, 3) := dc_of (x := (59, .goto 9, 3)) t0_Tr_pass_ok (i := 30) rfl
theorem d_Tr_pass_62 : decode c_Tr_pass 62 = .ok (.aload_n 0, 1) := dc_of (x := (62, .aload_n 0, 1)) t0_Tr_pass_ok (i := 31) rfl
theorem d_Tr_pass_63 : decode c_Tr_pass 63 = .ok (.iload_n 2, 1) := dc_of (x := (63, .iload_n 2, 1)) t0_Tr_pass_ok (i := 32) rfl
theorem d_Tr_pass_64 : decode c_Tr_pass 64 = .ok (.iload_n 1, 1) := dc_of (x := (64, .iload_n 1, 1)) t0_Tr_pass_ok (i := 33) rfl
theorem d_Tr_pass_65 : decode c_Tr_pass 65 = .ok (.invokevirtual 44, 3) := dc_of (x := (65, .invokevirtual 44, 3)) t0_Tr_pass_ok (i := 34) rfl
theorem d_Tr_pass_68 : decode c_Tr_pass 68 = .ok (.istore 4, 2) := dc_of (x := (68, .istore 4, 2)) t0_Tr_pass_ok (i := 35) rfl
theorem d_Tr_pass_70 : decode c_Tr_pass 70 = .ok (.iload 4, 2) := dc_of (x := (70, .iload 4, 2)) t0_Tr_pass_ok (i := 36) rfl
theorem d_Tr_pass_72 : decode c_Tr_pass 72 = .ok (.iconst (-1), 1) := dc_of (x := (72, .iconst (-1), 1)) t0_Tr_pass_ok (i := 37) rfl
theorem d_Tr_pass_73 : decode c_Tr_pass 73 = .ok (.if_icmp .ne 5, 3) := dc_of (x := (73, .if_icmp .ne 5, 3)) t0_Tr_pass_ok (i := 38) rfl
theorem d_Tr_pass_76 : decode c_Tr_pass 76 = .ok (.iload_n 2, 1) := dc_of (x := (76, .iload_n 2, 1)) t0_Tr_pass_ok (i := 39) rfl
theorem d_Tr_pass_77 : decode c_Tr_pass 77 = .ok (.ireturn, 1) := dc_of (x := (77, .ireturn, 1)) t0_Tr_pass_ok (i := 40) rfl
theorem d_Tr_pass_78 : decode c_Tr_pass 78 = .ok (.aload_n 0, 1) := dc_of (x := (78, .aload_n 0, 1)) t0_Tr_pass_ok (i := 41) rfl
theorem d_Tr_pass_79 : decode c_Tr_pass 79 = .ok (.getfield 9, 3) := dc_of (x := (79, .getfield 9, 3)) t0_Tr_pass_ok (i := 42) rfl
theorem d_Tr_pass_82 : decode c_Tr_pass 82 = .ok (.iload 4, 2) := dc_of (x := (82, .iload 4, 2)) t0_Tr_pass_ok (i := 43) rfl
theorem d_Tr_pass_84 : decode c_Tr_pass 84 = .ok (.invokevirtual 29, 3) := dc_of (x := (84, .invokevirtual 29, 3)) t0_Tr_pass_ok (i := 44) rfl
theorem d_Tr_pass_87 : decode c_Tr_pass 87 = .ok (.istore_n 2, 1) := dc_of (x := (87, .istore_n 2, 1)) t0_Tr_pass_ok (i := 45) rfl
theorem d_Tr_pass_88 : decode c_Tr_pass 88 = .ok (.iinc 3 1, 3) := dc_of (x := (88, .iinc 3 1, 3)) t0_Tr_pass_ok (i := 46) rfl
theorem d_Tr_pass_91 : decode c_Tr_pass 91 = .ok (.goto (-68), 3) := dc_of (x := (91, .goto (-68), 3)) t0_Tr_pass_ok (i := 47) rfl
theorem d_Tr_pass_94 : decode c_Tr_pass 94 = .ok (.iconst (-1), 1) := dc_of (x := (94, .iconst (-1), 1)) t0_Tr_pass_ok (i := 48) rfl
theorem d_Tr_pass_95 : decode c_Tr_pass 95 = .ok (.ireturn, 1) := dc_of (x := (95, .ireturn, 1)) t0_Tr_pass_ok (i := 49) rfl
def t0_Tr_takeTime : List (Nat × Instr × Nat) := [(0, .aload_n 0, 1), (1, .getfield 9, 3), (4, .iload_n 1, 1), (5, .iconst 1, 1), (6, .iadd, 1), (7, .invokevirtual 48, 3), (10, .istore_n 2, 1), (11, .lconst 0, 1), (12, .lstore_n 3, 1), (13, .iload_n 1, 1), (14, .iconst 1, 1), (15, .iadd, 1), (16, .istore 5, 2), (18, .iload 5, 2), (20, .iload_n 2, 1), (21, .if_icmp .ge 35, 3), (24, .lload_n 3, 1), (25, .ldc2_w 51, 3), (28, .lmul, 1), (29, .aload_n 0, 1), (30, .getfield 9, 3), (33, .iload 5, 2), (35, .invokevirtual 38, 3), (38, .bipush 48, 2), (40, .isub, 1), (41, .i2l, 1), (42, .ladd, 1), (43, .ldc2_w 53, 3), (46, .invokestatic 55, 3), (49, .lstore_n 3, 1), (50, .iinc 5 1, 3), (53, .goto (-35), 3), (56, .iload_n 2, 1), (57, .iload_n 1, 1), (58, .iconst 1, 1), (59, .iadd, 1), (60, .if_icmp .eq 14, 3), (63, .aload_n 0, 1), (64, .getfield 15, 3), (67, .lload_n 3, 1), (68, .invokevirtual 61, 3), (71, .ifCond .ne 5, 3), (74, .iconst (-1), 1), (75, .ireturn, 1), (76, .aload_n 0, 1), (77, .lload_n 3, 1), (78, .putfield 21, 3), (81, .iload_n 2, 1), (82, .ireturn, 1)]
theorem t0_Tr_takeTime_ok : t0_Tr_takeTime.all (fun x => decide (decode c_Tr_takeTime x.1 = .ok x.2)) = true := by decide +kernel
theorem d_Tr_takeTime_0 : decode c_Tr_takeTime 0 = .ok (.aload_n 0, 1) := dc_of (x := (0, .aload_n 0, 1)) t0_Tr_takeTime_ok (i := 0) rfl
theorem d_Tr_takeTime_1 : decode c_Tr_takeTime 1 = .ok (.getfield 9, 3) := dc_of (x := (1, .getfield 9, 3)) t0_Tr_takeTime_ok (i := 1) rfl
theorem d_Tr_takeTime_4 : decode c_Tr_takeTime 4 = .ok (.iload_n 1, 1) := dc_of (x := (4, .iload_n 1, 1)) t0_Tr_takeTime_ok (i := 2) rfl
theorem d_Tr_takeTime_5 : decode c_Tr_takeTime 5 = .ok (.iconst 1, 1) := dc_of (x := (5, .iconst 1, 1)) t0_Tr_takeTime_ok (i := 3) rfl
theorem d_Tr_takeTime_6 : decode c_Tr_takeTime 6 = .ok (.iadd, 1) := dc_of (x := (6, .iadd, 1)) t0_Tr_takeTime_ok (i := 4) rfl
theorem d_Tr_takeTime_7 : decode c_Tr_takeTime 7 = .ok (.invokevirtual 48, 3) := dc_of (x := (7, .invokevirtual 48, 3)) t0_Tr_takeTime_ok (i := 5) rfl
theorem d_Tr_takeTime_10 : decode c_Tr_takeTime 10 = .ok (.istore_n 2, 1) := dc_of (x := (10, .istore_n 2, 1)) t0_Tr_takeTime_ok (i := 6) rfl
theorem d_Tr_takeTime_11 : decode c_Tr_takeTime 11 = .ok (.lconst 0, 1) := dc_of (x := (11, .lconst 0, 1)) t0_Tr_takeTime_ok (i := 7) rfl
theorem d_Tr_takeTime_12 : decode c_Tr_takeTime 12 = .ok (.lstore_n 3, 1) := dc_of (x := (12, .lstore_n 3, 1)) t0_Tr_takeTime_ok (i := 8) rfl
theorem d_Tr_takeTime_13 : decode c_Tr_takeTime 13 = .ok (.iload_n 1, 1) := dc_of (x := (13, .iload_n 1, 1)) t0_Tr_takeTime_ok (i := 9) rfl
theorem d_Tr_takeTime_14 : decode c_Tr_takeTime 14 = .ok (.iconst 1, 1) := dc_of (x := (14, .iconst 1, 1)) t0_Tr_takeTime_ok (i := 10) rfl
theorem d_Tr_takeTime_15 : decode c_Tr_takeTime 15 = .ok (.iadd, 1) := dc_of (x := (15, .iadd, 1)) t0_Tr_takeTime_ok (i := 11) rfl
theorem d_Tr_takeTime_16 : decode c_Tr_takeTime 16 = .ok (.istore 5, 2) := dc_of (x := (16, .istore 5, 2)) t0_Tr_takeTime_ok (i := 12) rfl
theorem d_Tr_takeTime_18 : decode c_Tr_takeTime 18 = .ok (.iload 5, 2) := dc_of (x := (18, .iload 5, 2)) t0_Tr_takeTime_ok (i := 13) rfl
theorem d_Tr_takeTime_20 : decode c_Tr_takeTime 20 = .ok (.iload_n 2, 1) := dc_of (x := (20, .iload_n 2, 1)) t0_Tr_takeTime_ok (i := 14) rfl
theorem d_Tr_takeTime_21 : decode c_Tr_takeTime 21 = .ok (.if_icmp .ge 35, 3) := dc_of (x := (21, .if_icmp .ge 35, 3)) t0_Tr_takeTime_ok (i := 15) rfl
theorem d_Tr_takeTime_24 : decode c_Tr_takeTime 24 = .ok (.lload_n 3, 1) := dc_of (x := (24, .lload_n 3, 1)) t0_Tr_takeTime_ok (i := 16) rfl
theorem d_Tr_takeTime_25 : decode c_Tr_takeTime 25 = .ok (.ldc2_w 51, 3) := dc_of (x := (25, .ldc2_w 51, 3)) t0_Tr_takeTime_ok (i := 17) rfl
theorem d_Tr_takeTime_28 : decode c_Tr_takeTime 28 = .ok (.lmul, 1) := dc_of (x := (28, .lmul, 1)) t0_Tr_takeTime_ok (i := 18) rfl
theorem d_Tr_takeTime_29 : decode c_Tr_takeTime 29 = .ok (.aload_n 0, 1) := dc_of (x := (29, .aload_n 0, 1)) t0_Tr_takeTime_ok (i := 19) rfl
theorem d_Tr_takeTime_30 : decode c_Tr_takeTime 30 = .ok (.getfield 9, 3) := dc_of (x := (30, .getfield 9, 3)) t0_Tr_takeTime_ok (i := 20) rfl
theorem d_Tr_takeTime_33 : decode c_Tr_takeTime 33 = .ok (.iload 5, 2) := dc_of (x := (33, .iload 5, 2)) t0_Tr_takeTime_ok (i := 21) rfl
theorem d_Tr_takeTime_35 : decode c_Tr_takeTime 35 = .ok (.invokevirtual 38, 3) := dc_of (x := (35, .invokevirtual 38, 3)) t0_Tr_takeTime_ok (i := 22) rfl
theorem d_Tr_takeTime_38 : decode c_Tr_takeTime 38 = .ok (.bipush 48, 2) := dc_of (x := (38, .bipush 48, 2)) t0_Tr_takeTime_ok (i := 23) rfl
theorem d_Tr_takeTime_40 : decode c_Tr_takeTime 40 = .ok (.isub, 1) := dc_of (x := (40, .isub, 1)) t0_Tr_takeTime_ok (i := 24) rfl
theorem d_Tr_takeTime_41 : decode c_Tr_takeTime 41 = .ok (.i2l, 1) := dc_of (x := (41, .i2l, 1)) t0_Tr_takeTime_ok (i := 25) rfl
theorem d_Tr_takeTime_42 : decode c_Tr_takeTime 42 = .ok (.ladd, 1) := dc_of (x := (42, .ladd, 1)) t0_Tr_takeTime_ok (i := 26) rfl
theorem d_Tr_takeTime_43 : decode c_Tr_takeTime 43 = .ok (.ldc2_w 53, 3) := dc_of (x := (43, .ldc2_w 53, 3)) t0_Tr_takeTime_ok (i := 27) rfl
theorem d_Tr_takeTime_46 : decode c_Tr_takeTime 46 = .ok (.invokestatic 55, 3) := dc_of (x := (46, .invokestatic 55, 3)) t0_Tr_takeTime_ok (i := 28) rfl
theorem d_Tr_takeTime_49 : decode c_Tr_takeTime 49 = .ok (.lstore_n 3, 1) := dc_of (x := (49, .lstore_n 3, 1)) t0_Tr_takeTime_ok (i := 29) rfl
theorem d_Tr_takeTime_50 : decode c_Tr_takeTime 50 = .ok (.iinc 5 1, 3) := dc_of (x := (50, .iinc 5 1, 3)) t0_Tr_takeTime_ok (i := 30) rfl
theorem d_Tr_takeTime_53 : decode c_Tr_takeTime 53 = .ok (.goto (-35), 3) := dc_of (x := (53, .goto (-35), 3)) t0_Tr_takeTime_ok (i := 31) rfl
theorem d_Tr_takeTime_56 : decode c_Tr_takeTime 56 = .ok (.iload_n 2, 1) := dc_of (x := (56, .iload_n 2, 1)) t0_Tr_takeTime_ok (i := 32) rfl
theorem d_Tr_takeTime_57 : decode c_Tr_takeTime 57 = .ok (.iload_n 1, 1) := dc_of (x := (57, .iload_n 1, 1)) t0_Tr_takeTime_ok (i := 33) rfl
theorem d_Tr_takeTime_58 : decode c_Tr_takeTime 58 = .ok (.iconst 1, 1) := dc_of (x := (58, .iconst 1, 1)) t0_Tr_takeTime_ok (i := 34) rfl
theorem d_Tr_takeTime_59 : decode c_Tr_takeTime 59 = .ok (.iadd, 1) := dc_of (x := (59, .iadd, 1)) t0_Tr_takeTime_ok (i := 35) rfl
theorem d_Tr_takeTime_60 : decode c_Tr_takeTime 60 = .ok (.if_icmp .eq 14, 3) := dc_of (x := (60, .if_icmp .eq 14, 3)) t0_Tr_takeTime_ok (i := 36) rfl
theorem d_Tr_takeTime_63 : decode c_Tr_takeTime 63 = .ok (.aload_n 0, 1) := dc_of (x := (63, .aload_n 0, 1)) t0_Tr_takeTime_ok (i := 37) rfl
theorem d_Tr_takeTime_64 : decode c_Tr_takeTime 64 = .ok (.getfield 15, 3) := dc_of (x := (64, .getfield 15, 3)) t0_Tr_takeTime_ok (i := 38) rfl
theorem d_Tr_takeTime_67 : decode c_Tr_takeTime 67 = .ok (.lload_n 3, 1) := dc_of (x := (67, .lload_n 3, 1)) t0_Tr_takeTime_ok (i := 39) rfl
theorem d_Tr_takeTime_68 : decode c_Tr_takeTime 68 = .ok (.invokevirtual 61, 3) := dc_of (x := (68, .invokevirtual 61, 3)) t0_Tr_takeTime_ok (i := 40) rfl
theorem d_Tr_takeTime_71 : decode c_Tr_takeTime 71 = .ok (.ifCond .ne 5, 3) := dc_of (x := (71, .ifCond .ne 5, 3)) t0_Tr_takeTime_ok (i := 41) rfl
theorem d_Tr_takeTime_74 : decode c_Tr_takeTime 74 = .ok (.iconst (-1), 1) := dc_of (x := (74, .iconst (-1), 1)) t0_Tr_takeTime_ok (i := 42) rfl
theorem d_Tr_takeTime_75 : decode c_Tr_takeTime 75 = .ok (.ireturn, 1) := dc_of (x := (75, .ireturn, 1)) t0_Tr_takeTime_ok (i := 43) rfl
theorem d_Tr_takeTime_76 : decode c_Tr_takeTime 76 = .ok (.aload_n 0, 1) := dc_of (x := (76, .aload_n 0, 1)) t0_Tr_takeTime_ok (i := 44) rfl
theorem d_Tr_takeTime_77 : decode c_Tr_takeTime 77 = .ok (.lload_n 3, 1) := dc_of (x := (77, .lload_n 3, 1)) t0_Tr_takeTime_ok (i := 45) rfl
theorem d_Tr_takeTime_78 : decode c_Tr_takeTime 78 = .ok (.putfield 21, 3) := dc_of (x := (78, .putfield 21, 3)) t0_Tr_takeTime_ok (i := 46) rfl
theorem d_Tr_takeTime_81 : decode c_Tr_takeTime 81 = .ok (.iload_n 2, 1) := dc_of (x := (81, .iload_n 2, 1)) t0_Tr_takeTime_ok (i := 47) rfl
theorem d_Tr_takeTime_82 : decode c_Tr_takeTime 82 = .ok (.ireturn, 1) := dc_of (x := (82, .ireturn, 1)) t0_Tr_takeTime_ok (i := 48) rfl
def t0_Tr_takeLine : List (Nat × Instr × Nat) := [(0, .aload_n 0, 1), (1, .getfield 9, 3), (4, .iload_n 1, 1), (5, .invokevirtual 38, 3), (8, .invokestatic 67, 3), (11, .istore_n 3, 1), (12, .aload_n 0, 1), (13, .getfield 9, 3), (16, .iload_n 1, 1), (17, .iconst 1, 1), (18, .iadd, 1), (19, .invokevirtual 38, 3), (22, .bipush 33, 2), (24, .isub, 1), (25, .istore 4, 2), (27, .iload_n 3, 1), (28, .iconst (-1), 1), (29, .if_icmp .eq 26, 3), (32, .aload_n 0, 1), (33, .getfield 21, 3), (36, .ldc2_w 19, 3), (39, .lcmp, 1), (40, .ifCond .eq 15, 3), (43, .aload_n 0, 1), (44, .getfield 15, 3), (47, .iload 4, 2), (49, .invokevirtual 70, 3), (52, .ifCond .ne 5, 3), (55, .iconst (-1), 1), (56, .ireturn, 1), (57, .iload_n 2, 1), (58, .ifCond .eq 21, 3), (61, .aload_n 0, 1), (62, .getfield 15, 3), (65, .getfield 74, 3), (68, .iconst 0, 1), (69, .iload 4, 2), (71, .aload_n 0, 1), (72, .getfield 21, 3), (75, .iload_n 3, 1), (76, .invokevirtual 78, 3), (79, .aload_n 0, 1), (80, .dup, 1), (81, .getfield 25, 3), (84, .iconst 1, 1), (85, .iadd, 1), (86, .putfield 25, 3), (89, .iload_n 1, 1), (90, .iconst 2, 1), (91, .iadd, 1), (92, .ireturn, 1)]
theorem t0_Tr_takeLine_ok : t0_Tr_takeLine.all (fun x => decide (decode c_Tr_takeLine x.1 = .ok x.2)) = true := by decide +kernel
theorem d_Tr_takeLine_0 : decode c_Tr_takeLine 0 = .ok (.aload_n 0, 1) := dc_of (x := (0, .aload_n 0, 1)) t0_Tr_takeLine_ok (i := 0) rfl
theorem d_Tr_takeLine_1 : decode c_Tr_takeLine 1 = .ok (.getfield 9, 3) := dc_of (x := (1, .getfield 9, 3)) t0_Tr_takeLine_ok (i := 1) rfl
theorem d_Tr_takeLine_4 : decode c_Tr_takeLine 4 = .ok (.iload_n 1, 1) := dc_of (x := (4, .iload_n 1, 1)) t0_Tr_takeLine_ok (i := 2) rfl
theorem d_Tr_takeLine_5 : decode c_Tr_takeLine 5 = .ok (.invokevirtual 38, 3) := dc_of (x := (5, .invokevirtual 38, 3)) t0_Tr_takeLine_ok (i := 3) rfl
theorem d_Tr_takeLine_8 : decode c_Tr_takeLine 8 = .ok (.invokestatic 67, 3) := dc_of (x := (8, .invokestatic 67, 3)) t0_Tr_takeLine_ok (i := 4) rfl
theorem d_Tr_takeLine_11 : decode c_Tr_takeLine 11 = .ok (.istore_n 3, 1) := dc_of (x := (11, .istore_n 3, 1)) t0_Tr_takeLine_ok (i := 5) rfl
theorem d_Tr_takeLine_12 : decode c_Tr_takeLine 12 = .ok (.aload_n 0, 1) := dc_of (x := (12, .aload_n 0, 1)) t0_Tr_takeLine_ok (i := 6) rfl
theorem d_Tr_takeLine_13 : decode c_Tr_takeLine 13 = .ok (.getfield 9, 3) := dc_of (x := (13, .getfield 9, 3)) t0_Tr_takeLine_ok (i := 7) rfl
theorem d_Tr_takeLine_16 : decode c_Tr_takeLine 16 = .ok (.iload_n 1, 1) := dc_of (x := (16, .iload_n 1, 1)) t0_Tr_takeLine_ok (i := 8) rfl
theorem d_Tr_takeLine_17 : decode c_Tr_takeLine 17 = .ok (.iconst 1, 1) := dc_of (x := (17, .iconst 1, 1)) t0_Tr_takeLine_ok (i := 9) rfl
theorem d_Tr_takeLine_18 : decode c_Tr_takeLine 18 = .ok (.iadd, 1) := dc_of (x := (18, .iadd, 1)) t0_Tr_takeLine_ok (i := 10) rfl
theorem d_Tr_takeLine_19 : decode c_Tr_takeLine 19 = .ok (.invokevirtual 38, 3) := dc_of (x := (19, .invokevirtual 38, 3)) t0_Tr_takeLine_ok (i := 11) rfl
theorem d_Tr_takeLine_22 : decode c_Tr_takeLine 22 = .ok (.bipush 33, 2) := dc_of (x := (22, .bipush 33, 2)) t0_Tr_takeLine_ok (i := 12) rfl
theorem d_Tr_takeLine_24 : decode c_Tr_takeLine 24 = .ok (.isub, 1) := dc_of (x := (24, .isub, 1)) t0_Tr_takeLine_ok (i := 13) rfl
theorem d_Tr_takeLine_25 : decode c_Tr_takeLine 25 = .ok (.istore 4, 2) := dc_of (x := (25, .istore 4, 2)) t0_Tr_takeLine_ok (i := 14) rfl
theorem d_Tr_takeLine_27 : decode c_Tr_takeLine 27 = .ok (.iload_n 3, 1) := dc_of (x := (27, .iload_n 3, 1)) t0_Tr_takeLine_ok (i := 15) rfl
theorem d_Tr_takeLine_28 : decode c_Tr_takeLine 28 = .ok (.iconst (-1), 1) := dc_of (x := (28, .iconst (-1), 1)) t0_Tr_takeLine_ok (i := 16) rfl
theorem d_Tr_takeLine_29 : decode c_Tr_takeLine 29 = .ok (.if_icmp .eq 26, 3) := dc_of (x := (29, .if_icmp .eq 26, 3)) t0_Tr_takeLine_ok (i := 17) rfl
theorem d_Tr_takeLine_32 : decode c_Tr_takeLine 32 = .ok (.aload_n 0, 1) := dc_of (x := (32, .aload_n 0, 1)) t0_Tr_takeLine_ok (i := 18) rfl
theorem d_Tr_takeLine_33 : decode c_Tr_takeLine 33 = .ok (.getfield 21, 3) := dc_of (x := (33, .getfield 21, 3)) t0_Tr_takeLine_ok (i := 19) rfl
theorem d_Tr_takeLine_36 : decode c_Tr_takeLine 36 = .ok (.ldc2_w 19, 3) := dc_of (x := (36, .ldc2_w 19, 3)) t0_Tr_takeLine_ok (i := 20) rfl
theorem d_Tr_takeLine_39 : decode c_Tr_takeLine 39 = .ok (.lcmp, 1) := dc_of (x := (39, .lcmp, 1)) t0_Tr_takeLine_ok (i := 21) rfl
theorem d_Tr_takeLine_40 : decode c_Tr_takeLine 40 = .ok (.ifCond .eq 15, 3) := dc_of (x := (40, .ifCond .eq 15, 3)) t0_Tr_takeLine_ok (i := 22) rfl
theorem d_Tr_takeLine_43 : decode c_Tr_takeLine 43 = .ok (.aload_n 0, 1) := dc_of (x := (43, .aload_n 0, 1)) t0_Tr_takeLine_ok (i := 23) rfl
theorem d_Tr_takeLine_44 : decode c_Tr_takeLine 44 = .ok (.getfield 15, 3) := dc_of (x := (44, .getfield 15, 3)) t0_Tr_takeLine_ok (i := 24) rfl
theorem d_Tr_takeLine_47 : decode c_Tr_takeLine 47 = .ok (.iload 4, 2) := dc_of (x := (47, .iload 4, 2)) t0_Tr_takeLine_ok (i := 25) rfl
theorem d_Tr_takeLine_49 : decode c_Tr_takeLine 49 = .ok (.invokevirtual 70, 3) := dc_of (x := (49, .invokevirtual 70, 3)) t0_Tr_takeLine_ok (i := 26) rfl
theorem d_Tr_takeLine_52 : decode c_Tr_takeLine 52 = .ok (.ifCond .ne 5, 3) := dc_of (x := (52, .ifCond .ne 5, 3)) t0_Tr_takeLine_ok (i := 27) rfl
theorem d_Tr_takeLine_55 : decode c_Tr_takeLine 55 = .ok (.iconst (-1), 1) := dc_of (x := (55, .iconst (-1), 1)) t0_Tr_takeLine_ok (i := 28) rfl
theorem d_Tr_takeLine_56 : decode c_Tr_takeLine 56 = .ok (.ireturn, 1) := dc_of (x := (56, .ireturn, 1)) t0_Tr_takeLine_ok (i := 29) rfl
theorem d_Tr_takeLine_57 : decode c_Tr_takeLine 57 = .ok (.iload_n 2, 1) := dc_of (x := (57, .iload_n 2, 1)) t0_Tr_takeLine_ok (i := 30) rfl
theorem d_Tr_takeLine_58 : decode c_Tr_takeLine 58 = .ok (.ifCond .eq 21, 3) := dc_of (x := (58, .ifCond .eq 21, 3)) t0_Tr_takeLine_ok (i := 31) rfl
theorem d_Tr_takeLine_61 : decode c_Tr_takeLine 61 = .ok (.aload_n 0, 1) := dc_of (x := (61, .aload_n 0, 1)) t0_Tr_takeLine_ok (i := 32) rfl
theorem d_Tr_takeLine_62 : decode c_Tr_takeLine 62 = .ok (.getfield 15, 3) := dc_of (x := (62, .getfield 15, 3)) t0_Tr_takeLine_ok (i := 33) rfl
theorem d_Tr_takeLine_65 : decode c_Tr_takeLine 65 = .ok (.getfield 74, 3) := dc_of (x := (65, .getfield 74, 3)) t0_Tr_takeLine_ok (i := 34) rfl
theorem d_Tr_takeLine_68 : decode c_Tr_takeLine 68 = .ok (.iconst 0, 1) := dc_of (x := (68, .iconst 0, 1)) t0_Tr_takeLine_ok (i := 35) rfl
theorem d_Tr_takeLine_69 : decode c_Tr_takeLine 69 = .ok (.iload 4, 2) := dc_of (x := (69, .iload 4, 2)) t0_Tr_takeLine_ok (i := 36) rfl
theorem d_Tr_takeLine_71 : decode c_Tr_takeLine 71 = .ok (.aload_n 0, 1) := dc_of (x := (71, .aload_n 0, 1)) t0_Tr_takeLine_ok (i := 37) rfl
theorem d_Tr_takeLine_72 : decode c_Tr_takeLine 72 = .ok (.getfield 21, 3) := dc_of (x := (72, .getfield 21, 3)) t0_Tr_takeLine_ok (i := 38) rfl
theorem d_Tr_takeLine_75 : decode c_Tr_takeLine 75 = .ok (.iload_n 3, 1) := dc_of (x := (75, .iload_n 3, 1)) t0_Tr_takeLine_ok (i := 39) rfl
theorem d_Tr_takeLine_76 : decode c_Tr_takeLine 76 = .ok (.invokevirtual 78, 3) := dc_of (x := (76, .invokevirtual 78, 3)) t0_Tr_takeLine_ok (i := 40) rfl
theorem d_Tr_takeLine_79 : decode c_Tr_takeLine 79 = .ok (.aload_n 0, 1) := dc_of (x := (79, .aload_n 0, 1)) t0_Tr_takeLine_ok (i := 41) rfl
theorem d_Tr_takeLine_80 : decode c_Tr_takeLine 80 = .ok (.dup, 1) := dc_of (x := (80, .dup, 1)) t0_Tr_takeLine_ok (i := 42) rfl
theorem d_Tr_takeLine_81 : decode c_Tr_takeLine 81 = .ok (.getfield 25, 3) := dc_of (x := (81, .getfield 25, 3)) t0_Tr_takeLine_ok (i := 43) rfl
theorem d_Tr_takeLine_84 : decode c_Tr_takeLine 84 = .ok (.iconst 1, 1) := dc_of (x := (84, .iconst 1, 1)) t0_Tr_takeLine_ok (i := 44) rfl
theorem d_Tr_takeLine_85 : decode c_Tr_takeLine 85 = .ok (.iadd, 1) := dc_of (x := (85, .iadd, 1)) t0_Tr_takeLine_ok (i := 45) rfl
theorem d_Tr_takeLine_86 : decode c_Tr_takeLine 86 = .ok (.putfield 25, 3) := dc_of (x := (86, .putfield 25, 3)) t0_Tr_takeLine_ok (i := 46) rfl
theorem d_Tr_takeLine_89 : decode c_Tr_takeLine 89 = .ok (.iload_n 1, 1) := dc_of (x := (89, .iload_n 1, 1)) t0_Tr_takeLine_ok (i := 47) rfl
theorem d_Tr_takeLine_90 : decode c_Tr_takeLine 90 = .ok (.iconst 2, 1) := dc_of (x := (90, .iconst 2, 1)) t0_Tr_takeLine_ok (i := 48) rfl
theorem d_Tr_takeLine_91 : decode c_Tr_takeLine 91 = .ok (.iadd, 1) := dc_of (x := (91, .iadd, 1)) t0_Tr_takeLine_ok (i := 49) rfl
theorem d_Tr_takeLine_92 : decode c_Tr_takeLine 92 = .ok (.ireturn, 1) := dc_of (x := (92, .ireturn, 1)) t0_Tr_takeLine_ok (i := 50) rfl
def t0_Tr_valueOf : List (Nat × Instr × Nat) := [(0, .iconst 0, 1), (1, .istore_n 1, 1), (2, .iload_n 1, 1), (3, .getstatic 84, 3), (6, .arraylength, 1), (7, .if_icmp .ge 20, 3), (10, .getstatic 84, 3), (13, .iload_n 1, 1), (14, .iaload, 1), (15, .iload_n 0, 1), (16, .if_icmp .ne 5, 3), (19, .iload_n 1, 1), (20, .ireturn, 1), (21, .iinc 1 1, 3), (24, .goto (-22), 3), (27, .iconst (-1), 1), (28, .ireturn, 1)]
theorem t0_Tr_valueOf_ok : t0_Tr_valueOf.all (fun x => decide (decode c_Tr_valueOf x.1 = .ok x.2)) = true := by decide +kernel
theorem d_Tr_valueOf_0 : decode c_Tr_valueOf 0 = .ok (.iconst 0, 1) := dc_of (x := (0, .iconst 0, 1)) t0_Tr_valueOf_ok (i := 0) rfl
theorem d_Tr_valueOf_1 : decode c_Tr_valueOf 1 = .ok (.istore_n 1, 1) := dc_of (x := (1, .istore_n 1, 1)) t0_Tr_valueOf_ok (i := 1) rfl
theorem d_Tr_valueOf_2 : decode c_Tr_valueOf 2 = .ok (.iload_n 1, 1) := dc_of (x := (2, .iload_n 1, 1)) t0_Tr_valueOf_ok (i := 2) rfl
theorem d_Tr_valueOf_3 : decode c_Tr_valueOf 3 = .ok (.getstatic 84, 3) := dc_of (x := (3, .getstatic 84, 3)) t0_Tr_valueOf_ok (i := 3) rfl
theorem d_Tr_valueOf_6 : decode c_Tr_valueOf 6 = .ok (.arraylength, 1) := dc_of (x := (6, .arraylength, 1)) t0_Tr_valueOf_ok (i := 4) rfl
theorem d_Tr_valueOf_7 : decode c_Tr_valueOf 7 = .ok (.if_icmp .ge 20, 3) := dc_of (x := (7, .if_icmp .ge 20, 3)) t0_Tr_valueOf_ok (i := 5) rfl
theorem d_Tr_valueOf_10 : decode c_Tr_valueOf 10 = .ok (.getstatic 84, 3) := dc_of (x := (10, .getstatic 84, 3)) t0_Tr_valueOf_ok (i := 6) rfl
theorem d_Tr_valueOf_13 : decode c_Tr_valueOf 13 = .ok (.iload_n 1, 1) := dc_of (x := (13, .iload_n 1, 1)) t0_Tr_valueOf_ok (i := 7) rfl
theorem d_Tr_valueOf_14 : decode c_Tr_valueOf 14 = .ok (.iaload, 1) := dc_of (x := (14, .iaload, 1)) t0_Tr_valueOf_ok (i := 8) rfl
theorem d_Tr_valueOf_15 : decode c_Tr_valueOf 15 = .ok (.iload_n 0, 1) := dc_of (x := (15, .iload_n 0, 1)) t0_Tr_valueOf_ok (i := 9) rfl
theorem d_Tr_valueOf_16 : decode c_Tr_valueOf 16 = .ok (.if_icmp .ne 5, 3) := dc_of (x := (16, .if_icmp .ne 5, 3)) t0_Tr_valueOf_ok (i := 10) rfl
theorem d_Tr_valueOf_19 : decode c_Tr_valueOf 19 = .ok (.iload_n 1, 1) := dc_of (x := (19, .iload_n 1, 1)) t0_Tr_valueOf_ok (i := 11) rfl
theorem d_Tr_valueOf_20 : decode c_Tr_valueOf 20 = .ok (.ireturn, 1) := dc_of (x := (20, .ireturn, 1)) t0_Tr_valueOf_ok (i := 12) rfl
theorem d_Tr_valueOf_21 : decode c_Tr_valueOf 21 = .ok (.iinc 1 1, 3) := dc_of (x := (21, .iinc 1 1, 3)) t0_Tr_valueOf_ok (i := 13) rfl
theorem d_Tr_valueOf_24 : decode c_Tr_valueOf 24 = .ok (.goto (-22), 3) := dc_of (x := (24, .goto (-22), 3)) t0_Tr_valueOf_ok (i := 14) rfl
theorem d_Tr_valueOf_27 : decode c_Tr_valueOf 27 = .ok (.iconst (-1), 1) := dc_of (x := (27, .iconst (-1), 1)) t0_Tr_valueOf_ok (i := 15) rfl
theorem d_Tr_valueOf_28 : decode c_Tr_valueOf 28 = .ok (.ireturn, 1) := dc_of (x := (28, .ireturn, 1)) t0_Tr_valueOf_ok (i := 16) rfl
def t0_Wa_init : List (Nat × Instr × Nat) := [(0, .aload_n 0, 1), (1, .invokespecial 3, 3), (4, .aload_n 0, 1), (5, .sipush 600, 3), (8, .newarray .int, 2), (10, .putfield 9, 3), (13, .aload_n 0, 1), (14, .sipush 600, 3), (17, .newarray .int, 2), (19, .putfield 15, 3), (22, .aload_n 0, 1), (23, .sipush 600, 3), (26, .newarray .int, 2), (28, .putfield 18, 3), (31, .return_, 1)]
theorem t0_Wa_init_ok : t0_Wa_init.all (fun x => decide (decode c_Wa_init x.1 = .ok x.2)) = true := by decide +kernel
theorem d_Wa_init_0 : decode c_Wa_init 0 = .ok (.aload_n 0, 1) := dc_of (x := (0, .aload_n 0, 1)) t0_Wa_init_ok (i := 0) rfl
theorem d_Wa_init_1 : decode c_Wa_init 1 = .ok (.invokespecial 3, 3) := dc_of (x := (1, .invokespecial 3, 3)) t0_Wa_init_ok (i := 1) rfl
theorem d_Wa_init_4 : decode c_Wa_init 4 = .ok (.aload_n 0, 1) := dc_of (x := (4, .aload_n 0, 1)) t0_Wa_init_ok (i := 2) rfl
theorem d_Wa_init_5 : decode c_Wa_init 5 = .ok (.sipush 600, 3) := dc_of (x := (5, .sipush 600, 3)) t0_Wa_init_ok (i := 3) rfl
theorem d_Wa_init_8 : decode c_Wa_init 8 = .ok (.newarray .int, 2) := dc_of (x := (8, .newarray .int, 2)) t0_Wa_init_ok (i := 4) rfl
theorem d_Wa_init_10 : decode c_Wa_init 10 = .ok (.putfield 9, 3) := dc_of (x := (10, .putfield 9, 3)) t0_Wa_init_ok (i := 5) rfl
theorem d_Wa_init_13 : decode c_Wa_init 13 = .ok (.aload_n 0, 1) := dc_of (x := (13, .aload_n 0, 1)) t0_Wa_init_ok (i := 6) rfl
theorem d_Wa_init_14 : decode c_Wa_init 14 = .ok (.sipush 600, 3) := dc_of (x := (14, .sipush 600, 3)) t0_Wa_init_ok (i := 7) rfl
theorem d_Wa_init_17 : decode c_Wa_init 17 = .ok (.newarray .int, 2) := dc_of (x := (17, .newarray .int, 2)) t0_Wa_init_ok (i := 8) rfl
theorem d_Wa_init_19 : decode c_Wa_init 19 = .ok (.putfield 15, 3) := dc_of (x := (19, .putfield 15, 3)) t0_Wa_init_ok (i := 9) rfl
theorem d_Wa_init_22 : decode c_Wa_init 22 = .ok (.aload_n 0, 1) := dc_of (x := (22, .aload_n 0, 1)) t0_Wa_init_ok (i := 10) rfl
theorem d_Wa_init_23 : decode c_Wa_init 23 = .ok (.sipush 600, 3) := dc_of (x := (23, .sipush 600, 3)) t0_Wa_init_ok (i := 11) rfl
theorem d_Wa_init_26 : decode c_Wa_init 26 = .ok (.newarray .int, 2) := dc_of (x := (26, .newarray .int, 2)) t0_Wa_init_ok (i := 12) rfl
theorem d_Wa_init_28 : decode c_Wa_init 28 = .ok (.putfield 18, 3) := dc_of (x := (28, .putfield 18, 3)) t0_Wa_init_ok (i := 13) rfl
theorem d_Wa_init_31 : decode c_Wa_init 31 = .ok (.return_, 1) := dc_of (x := (31, .return_, 1)) t0_Wa_init_ok (i := 14) rfl
def t0_Wa_copyFrom : List (Nat × Instr × Nat) := [(0, .aload_n 0, 1), (1, .aload_n 1, 1), (2, .getfield 21, 3), (5, .putfield 21, 3), (8, .aload_n 1, 1), (9, .getfield 9, 3), (12, .iconst 0, 1), (13, .aload_n 0, 1), (14, .getfield 9, 3), (17, .iconst 0, 1), (18, .sipush 600, 3), (21, .invokestatic 25, 3), (24, .aload_n 1, 1), (25, .getfield 15, 3), (28, .iconst 0, 1), (29, .aload_n 0, 1), (30, .getfield 15, 3), (33, .iconst 0, 1), (34, .sipush 600, 3), (37, .invokestatic 25, 3), (40, .aload_n 1, 1), (41, .getfield 18, 3), (44, .iconst 0, 1), (45, .aload_n 0, 1), (46, .getfield 18, 3), (49, .iconst 0, 1), (50, .sipush 600, 3), (53, .invokestatic 25, 3), (56, .return_, 1)]
theorem t0_Wa_copyFrom_ok : t0_Wa_copyFrom.all (fun x => decide (decode c_Wa_copyFrom x.1 = .ok x.2)) = true := by decide +kernel
theorem d_Wa_copyFrom_0 : decode c_Wa_copyFrom 0 = .ok (.aload_n 0, 1) := dc_of (x := (0, .aload_n 0, 1)) t0_Wa_copyFrom_ok (i := 0) rfl
theorem d_Wa_copyFrom_1 : decode c_Wa_copyFrom 1 = .ok (.aload_n 1, 1) := dc_of (x := (1, .aload_n 1, 1)) t0_Wa_copyFrom_ok (i := 1) rfl
theorem d_Wa_copyFrom_2 : decode c_Wa_copyFrom 2 = .ok (.getfield 21, 3) := dc_of (x := (2, .getfield 21, 3)) t0_Wa_copyFrom_ok (i := 2) rfl
theorem d_Wa_copyFrom_5 : decode c_Wa_copyFrom 5 = .ok (.putfield 21, 3) := dc_of (x := (5, .putfield 21, 3)) t0_Wa_copyFrom_ok (i := 3) rfl
theorem d_Wa_copyFrom_8 : decode c_Wa_copyFrom 8 = .ok (.aload_n 1, 1) := dc_of (x := (8, .aload_n 1, 1)) t0_Wa_copyFrom_ok (i := 4) rfl
theorem d_Wa_copyFrom_9 : decode c_Wa_copyFrom 9 = .ok (.getfield 9, 3) := dc_of (x := (9, .getfield 9, 3)) t0_Wa_copyFrom_ok (i := 5) rfl
theorem d_Wa_copyFrom_12 : decode c_Wa_copyFrom 12 = .ok (.iconst 0, 1) := dc_of (x := (12, .iconst 0, 1)) t0_Wa_copyFrom_ok (i := 6) rfl
theorem d_Wa_copyFrom_13 : decode c_Wa_copyFrom 13 = .ok (.aload_n 0, 1) := dc_of (x := (13, .aload_n 0, 1)) t0_Wa_copyFrom_ok (i := 7) rfl
theorem d_Wa_copyFrom_14 : decode c_Wa_copyFrom 14 = .ok (.getfield 9, 3) := dc_of (x := (14, .getfield 9, 3)) t0_Wa_copyFrom_ok (i := 8) rfl
theorem d_Wa_copyFrom_17 : decode c_Wa_copyFrom 17 = .ok (.iconst 0, 1) := dc_of (x := (17, .iconst 0, 1)) t0_Wa_copyFrom_ok (i := 9) rfl
theorem d_Wa_copyFrom_18 : decode c_Wa_copyFrom 18 = .ok (.sipush 600, 3) := dc_of (x := (18, .sipush 600, 3)) t0_Wa_copyFrom_ok (i := 10) rfl
theorem d_Wa_copyFrom_21 : decode c_Wa_copyFrom 21 = .ok (.invokestatic 25, 3) := dc_of (x := (21, .invokestatic 25, 3)) t0_Wa_copyFrom_ok (i := 11) rfl
theorem d_Wa_copyFrom_24 : decode c_Wa_copyFrom 24 = .ok (.aload_n 1, 1) := dc_of (x := (24, .aload_n 1, 1)) t0_Wa_copyFrom_ok (i := 12) rfl
theorem d_Wa_copyFrom_25 : decode c_Wa_copyFrom 25 = .ok (.getfield 15, 3) := dc_of (x := (25, .getfield 15, 3)) t0_Wa_copyFrom_ok (i := 13) rfl
theorem d_Wa_copyFrom_28 : decode c_Wa_copyFrom 28 = .ok (.iconst 0, 1) := dc_of (x := (28, .iconst 0, 1)) t0_Wa_copyFrom_ok (i := 14) rfl
theorem d_Wa_copyFrom_29 : decode c_Wa_copyFrom 29 = .ok (.aload_n 0, 1) := dc_of (x := (29, .aload_n 0, 1)) t0_Wa_copyFrom_ok (i := 15) rfl
theorem d_Wa_copyFrom_30 : decode c_Wa_copyFrom 30 = .ok (.getfield 15, 3) := dc_of (x := (30, .getfield 15, 3)) t0_Wa_copyFrom_ok (i := 16) rfl
theorem d_Wa_copyFrom_33 : decode c_Wa_copyFrom 33 = .ok (.iconst 0, 1) := dc_of (x := (33, .iconst 0, 1)) t0_Wa_copyFrom_ok (i := 17) rfl
theorem d_Wa_copyFrom_34 : decode c_Wa_copyFrom 34 = .ok (.sipush 600, 3) := dc_of (x := (34, .sipush 600, 3)) t0_Wa_copyFrom_ok (i := 18) rfl
theorem d_Wa_copyFrom_37 : decode c_Wa_copyFrom 37 = .ok (.invokestatic 25, 3) := dc_of (x := (37, .invokestatic 25, 3)) t0_Wa_copyFrom_ok (i := 19) rfl
theorem d_Wa_copyFrom_40 : decode c_Wa_copyFrom 40 = .ok (.aload_n 1, 1) := dc_of (x := (40, .aload_n 1, 1)) t0_Wa_copyFrom_ok (i := 20) rfl
theorem d_Wa_copyFrom_41 : decode c_Wa_copyFrom 41 = .ok (.getfield 18, 3) := dc_of (x := (41, .getfield 18, 3)) t0_Wa_copyFrom_ok (i := 21) rfl
theorem d_Wa_copyFrom_44 : decode c_Wa_copyFrom 44 = .ok (.iconst 0, 1) := dc_of (x := (44, .iconst 0, 1)) t0_Wa_copyFrom_ok (i := 22) rfl
theorem d_Wa_copyFrom_45 : decode c_Wa_copyFrom 45 = .ok (.aload_n 0, 1) := dc_of (x := (45, .aload_n 0, 1)) t0_Wa_copyFrom_ok (i := 23) rfl
theorem d_Wa_copyFrom_46 : decode c_Wa_copyFrom 46 = .ok (.getfield 18, 3) := dc_of (x := (46, .getfield 18, 3)) t0_Wa_copyFrom_ok (i := 24) rfl
theorem d_Wa_copyFrom_49 : decode c_Wa_copyFrom 49 = .ok (.iconst 0, 1) := dc_of (x := (49, .iconst 0, 1)) t0_Wa_copyFrom_ok (i := 25) rfl
theorem d_Wa_copyFrom_50 : decode c_Wa_copyFrom 50 = .ok (.sipush 600, 3) := dc_of (x := (50, .sipush 600, 3)) t0_Wa_copyFrom_ok (i := 26) rfl
theorem d_Wa_copyFrom_53 : decode c_Wa_copyFrom 53 = .ok (.invokestatic 25, 3) := dc_of (x := (53, .invokestatic 25, 3)) t0_Wa_copyFrom_ok (i := 27) rfl
theorem d_Wa_copyFrom_56 : decode c_Wa_copyFrom 56 = .ok (.return_, 1) := dc_of (x := (56, .return_, 1)) t0_Wa_copyFrom_ok (i := 28) rfl
def t0_Wa_keep : List (Nat × Instr × Nat) := [(0, .aload_n 0, 1), (1, .getfield 21, 3), (4, .sipush 600, 3), (7, .if_icmp .lt 4, 3), (10, .return_, 1), (11, .aload_n 0, 1), (12, .getfield 9, 3), (15, .aload_n 0, 1), (16, .getfield 21, 3), (19, .lload_n 1, 1), (20, .l2i, 1), (21, .iastore, 1), (22, .aload_n 0, 1), (23, .getfield 15, 3), (26, .aload_n 0, 1), (27, .getfield 21, 3), (30, .iload_n 3, 1), (31, .iastore, 1), (32, .aload_n 0, 1), (33, .getfield 18, 3), (36, .aload_n 0, 1), (37, .getfield 21, 3), (40, .iload 4, 2), (42, .iastore, 1), (43, .aload_n 0, 1), (44, .dup, 1), (45, .getfield 21, 3), (48, .iconst 1, 1), (49, .iadd, 1), (50, .putfield 21, 3), (53, .return_, 1)]
theorem t0_Wa_keep_ok : t0_Wa_keep.all (fun x => decide (decode c_Wa_keep x.1 = .ok x.2)) = true := by decide +kernel
theorem d_Wa_keep_0 : decode c_Wa_keep 0 = .ok (.aload_n 0, 1) := dc_of (x := (0, .aload_n 0, 1)) t0_Wa_keep_ok (i := 0) rfl
theorem d_Wa_keep_1 : decode c_Wa_keep 1 = .ok (.getfield 21, 3) := dc_of (x := (1, .getfield 21, 3)) t0_Wa_keep_ok (i := 1) rfl
theorem d_Wa_keep_4 : decode c_Wa_keep 4 = .ok (.sipush 600, 3) := dc_of (x := (4, .sipush 600, 3)) t0_Wa_keep_ok (i := 2) rfl
theorem d_Wa_keep_7 : decode c_Wa_keep 7 = .ok (.if_icmp .lt 4, 3) := dc_of (x := (7, .if_icmp .lt 4, 3)) t0_Wa_keep_ok (i := 3) rfl
theorem d_Wa_keep_10 : decode c_Wa_keep 10 = .ok (.return_, 1) := dc_of (x := (10, .return_, 1)) t0_Wa_keep_ok (i := 4) rfl
theorem d_Wa_keep_11 : decode c_Wa_keep 11 = .ok (.aload_n 0, 1) := dc_of (x := (11, .aload_n 0, 1)) t0_Wa_keep_ok (i := 5) rfl
theorem d_Wa_keep_12 : decode c_Wa_keep 12 = .ok (.getfield 9, 3) := dc_of (x := (12, .getfield 9, 3)) t0_Wa_keep_ok (i := 6) rfl
theorem d_Wa_keep_15 : decode c_Wa_keep 15 = .ok (.aload_n 0, 1) := dc_of (x := (15, .aload_n 0, 1)) t0_Wa_keep_ok (i := 7) rfl
theorem d_Wa_keep_16 : decode c_Wa_keep 16 = .ok (.getfield 21, 3) := dc_of (x := (16, .getfield 21, 3)) t0_Wa_keep_ok (i := 8) rfl
theorem d_Wa_keep_19 : decode c_Wa_keep 19 = .ok (.lload_n 1, 1) := dc_of (x := (19, .lload_n 1, 1)) t0_Wa_keep_ok (i := 9) rfl
theorem d_Wa_keep_20 : decode c_Wa_keep 20 = .ok (.l2i, 1) := dc_of (x := (20, .l2i, 1)) t0_Wa_keep_ok (i := 10) rfl
theorem d_Wa_keep_21 : decode c_Wa_keep 21 = .ok (.iastore, 1) := dc_of (x := (21, .iastore, 1)) t0_Wa_keep_ok (i := 11) rfl
theorem d_Wa_keep_22 : decode c_Wa_keep 22 = .ok (.aload_n 0, 1) := dc_of (x := (22, .aload_n 0, 1)) t0_Wa_keep_ok (i := 12) rfl
theorem d_Wa_keep_23 : decode c_Wa_keep 23 = .ok (.getfield 15, 3) := dc_of (x := (23, .getfield 15, 3)) t0_Wa_keep_ok (i := 13) rfl
theorem d_Wa_keep_26 : decode c_Wa_keep 26 = .ok (.aload_n 0, 1) := dc_of (x := (26, .aload_n 0, 1)) t0_Wa_keep_ok (i := 14) rfl
theorem d_Wa_keep_27 : decode c_Wa_keep 27 = .ok (.getfield 21, 3) := dc_of (x := (27, .getfield 21, 3)) t0_Wa_keep_ok (i := 15) rfl
theorem d_Wa_keep_30 : decode c_Wa_keep 30 = .ok (.iload_n 3, 1) := dc_of (x := (30, .iload_n 3, 1)) t0_Wa_keep_ok (i := 16) rfl
theorem d_Wa_keep_31 : decode c_Wa_keep 31 = .ok (.iastore, 1) := dc_of (x := (31, .iastore, 1)) t0_Wa_keep_ok (i := 17) rfl
theorem d_Wa_keep_32 : decode c_Wa_keep 32 = .ok (.aload_n 0, 1) := dc_of (x := (32, .aload_n 0, 1)) t0_Wa_keep_ok (i := 18) rfl
theorem d_Wa_keep_33 : decode c_Wa_keep 33 = .ok (.getfield 18, 3) := dc_of (x := (33, .getfield 18, 3)) t0_Wa_keep_ok (i := 19) rfl
theorem d_Wa_keep_36 : decode c_Wa_keep 36 = .ok (.aload_n 0, 1) := dc_of (x := (36, .aload_n 0, 1)) t0_Wa_keep_ok (i := 20) rfl
theorem d_Wa_keep_37 : decode c_Wa_keep 37 = .ok (.getfield 21, 3) := dc_of (x := (37, .getfield 21, 3)) t0_Wa_keep_ok (i := 21) rfl
theorem d_Wa_keep_40 : decode c_Wa_keep 40 = .ok (.iload 4, 2) := dc_of (x := (40, .iload 4, 2)) t0_Wa_keep_ok (i := 22) rfl
theorem d_Wa_keep_42 : decode c_Wa_keep 42 = .ok (.iastore, 1) := dc_of (x := (42, .iastore, 1)) t0_Wa_keep_ok (i := 23) rfl
theorem d_Wa_keep_43 : decode c_Wa_keep 43 = .ok (.aload_n 0, 1) := dc_of (x := (43, .aload_n 0, 1)) t0_Wa_keep_ok (i := 24) rfl
theorem d_Wa_keep_44 : decode c_Wa_keep 44 = .ok (.dup, 1) := dc_of (x := (44, .dup, 1)) t0_Wa_keep_ok (i := 25) rfl
theorem d_Wa_keep_45 : decode c_Wa_keep 45 = .ok (.getfield 21, 3) := dc_of (x := (45, .getfield 21, 3)) t0_Wa_keep_ok (i := 26) rfl
theorem d_Wa_keep_48 : decode c_Wa_keep 48 = .ok (.iconst 1, 1) := dc_of (x := (48, .iconst 1, 1)) t0_Wa_keep_ok (i := 27) rfl
theorem d_Wa_keep_49 : decode c_Wa_keep 49 = .ok (.iadd, 1) := dc_of (x := (49, .iadd, 1)) t0_Wa_keep_ok (i := 28) rfl
theorem d_Wa_keep_50 : decode c_Wa_keep 50 = .ok (.putfield 21, 3) := dc_of (x := (50, .putfield 21, 3)) t0_Wa_keep_ok (i := 29) rfl
theorem d_Wa_keep_53 : decode c_Wa_keep 53 = .ok (.return_, 1) := dc_of (x := (53, .return_, 1)) t0_Wa_keep_ok (i := 30) rfl
def t0_Wa_latest : List (Nat × Instr × Nat) := [(0, .aload_n 0, 1), (1, .getfield 21, 3), (4, .iconst 1, 1), (5, .isub, 1), (6, .istore 4, 2), (8, .iload 4, 2), (10, .ifCond .lt 41, 3), (13, .aload_n 0, 1), (14, .getfield 15, 3), (17, .iload 4, 2), (19, .iaload, 1), (20, .iload_n 1, 1), (21, .if_icmp .ne 24, 3), (24, .aload_n 0, 1), (25, .getfield 9, 3), (28, .iload 4, 2), (30, .iaload, 1), (31, .i2l, 1), (32, .lload_n 2, 1), (33, .lcmp, 1), (34, .ifCond .gt 11, 3), (37, .aload_n 0, 1), (38, .getfield 18, 3), (41, .iload 4, 2), (43, .iaload, 1), (44, .ireturn, 1), (45, .iinc 4 (-1), 3), (48, .goto (-40), 3), (51, .iconst 2, 1), (52, .ireturn, 1)]
theorem t0_Wa_latest_ok : t0_Wa_latest.all (fun x => decide (decode c_Wa_latest x.1 = .ok x.2)) = true := by decide +kernel
theorem d_Wa_latest_0 : decode c_Wa_latest 0 = .ok (.aload_n 0, 1) := dc_of (x := (0, .aload_n 0, 1)) t0_Wa_latest_ok (i := 0) rfl
theorem d_Wa_latest_1 : decode c_Wa_latest 1 = .ok (.getfield 21, 3) := dc_of (x := (1, .getfield 21, 3)) t0_Wa_latest_ok (i := 1) rfl
theorem d_Wa_latest_4 : decode c_Wa_latest 4 = .ok (.iconst 1, 1) := dc_of (x := (4, .iconst 1, 1)) t0_Wa_latest_ok (i := 2) rfl
theorem d_Wa_latest_5 : decode c_Wa_latest 5 = .ok (.isub, 1) := dc_of (x := (5, .isub, 1)) t0_Wa_latest_ok (i := 3) rfl
theorem d_Wa_latest_6 : decode c_Wa_latest 6 = .ok (.istore 4, 2) := dc_of (x := (6, .istore 4, 2)) t0_Wa_latest_ok (i := 4) rfl
theorem d_Wa_latest_8 : decode c_Wa_latest 8 = .ok (.iload 4, 2) := dc_of (x := (8, .iload 4, 2)) t0_Wa_latest_ok (i := 5) rfl
theorem d_Wa_latest_10 : decode c_Wa_latest 10 = .ok (.ifCond .lt 41, 3) := dc_of (x := (10, .ifCond .lt 41, 3)) t0_Wa_latest_ok (i := 6) rfl
theorem d_Wa_latest_13 : decode c_Wa_latest 13 = .ok (.aload_n 0, 1) := dc_of (x := (13, .aload_n 0, 1)) t0_Wa_latest_ok (i := 7) rfl
theorem d_Wa_latest_14 : decode c_Wa_latest 14 = .ok (.getfield 15, 3) := dc_of (x := (14, .getfield 15, 3)) t0_Wa_latest_ok (i := 8) rfl
theorem d_Wa_latest_17 : decode c_Wa_latest 17 = .ok (.iload 4, 2) := dc_of (x := (17, .iload 4, 2)) t0_Wa_latest_ok (i := 9) rfl
theorem d_Wa_latest_19 : decode c_Wa_latest 19 = .ok (.iaload, 1) := dc_of (x := (19, .iaload, 1)) t0_Wa_latest_ok (i := 10) rfl
theorem d_Wa_latest_20 : decode c_Wa_latest 20 = .ok (.iload_n 1, 1) := dc_of (x := (20, .iload_n 1, 1)) t0_Wa_latest_ok (i := 11) rfl
theorem d_Wa_latest_21 : decode c_Wa_latest 21 = .ok (.if_icmp .ne 24, 3) := dc_of (x := (21, .if_icmp .ne 24, 3)) t0_Wa_latest_ok (i := 12) rfl
theorem d_Wa_latest_24 : decode c_Wa_latest 24 = .ok (.aload_n 0, 1) := dc_of (x := (24, .aload_n 0, 1)) t0_Wa_latest_ok (i := 13) rfl
theorem d_Wa_latest_25 : decode c_Wa_latest 25 = .ok (.getfield 9, 3) := dc_of (x := (25, .getfield 9, 3)) t0_Wa_latest_ok (i := 14) rfl
theorem d_Wa_latest_28 : decode c_Wa_latest 28 = .ok (.iload 4, 2) := dc_of (x := (28, .iload 4, 2)) t0_Wa_latest_ok (i := 15) rfl
theorem d_Wa_latest_30 : decode c_Wa_latest 30 = .ok (.iaload, 1) := dc_of (x := (30, .iaload, 1)) t0_Wa_latest_ok (i := 16) rfl
theorem d_Wa_latest_31 : decode c_Wa_latest 31 = .ok (.i2l, 1) := dc_of (x := (31, .i2l, 1)) t0_Wa_latest_ok (i := 17) rfl
theorem d_Wa_latest_32 : decode c_Wa_latest 32 = .ok (.lload_n 2, 1) := dc_of (x := (32, .lload_n 2, 1)) t0_Wa_latest_ok (i := 18) rfl
theorem d_Wa_latest_33 : decode c_Wa_latest 33 = .ok (.lcmp, 1) := dc_of (x := (33, .lcmp, 1)) t0_Wa_latest_ok (i := 19) rfl
theorem d_Wa_latest_34 : decode c_Wa_latest 34 = .ok (.ifCond .gt 11, 3) := dc_of (x := (34, .ifCond .gt 11, 3)) t0_Wa_latest_ok (i := 20) rfl
theorem d_Wa_latest_37 : decode c_Wa_latest 37 = .ok (.aload_n 0, 1) := dc_of (x := (37, .aload_n 0, 1)) t0_Wa_latest_ok (i := 21) rfl
theorem d_Wa_latest_38 : decode c_Wa_latest 38 = .ok (.getfield 18, 3) := dc_of (x := (38, .getfield 18, 3)) t0_Wa_latest_ok (i := 22) rfl
theorem d_Wa_latest_41 : decode c_Wa_latest 41 = .ok (.iload 4, 2) := dc_of (x := (41, .iload 4, 2)) t0_Wa_latest_ok (i := 23) rfl
theorem d_Wa_latest_43 : decode c_Wa_latest 43 = .ok (.iaload, 1) := dc_of (x := (43, .iaload, 1)) t0_Wa_latest_ok (i := 24) rfl
theorem d_Wa_latest_44 : decode c_Wa_latest 44 = .ok (.ireturn, 1) := dc_of (x := (44, .ireturn, 1)) t0_Wa_latest_ok (i := 25) rfl
theorem d_Wa_latest_45 : decode c_Wa_latest 45 = .ok (.iinc 4 (-1), 3) := dc_of (x := (45, .iinc 4 (-1), 3)) t0_Wa_latest_ok (i := 26) rfl
theorem d_Wa_latest_48 : decode c_Wa_latest 48 = .ok (.goto (-40), 3) := dc_of (x := (48, .goto (-40), 3)) t0_Wa_latest_ok (i := 27) rfl
theorem d_Wa_latest_51 : decode c_Wa_latest 51 = .ok (.iconst 2, 1) := dc_of (x := (51, .iconst 2, 1)) t0_Wa_latest_ok (i := 28) rfl
theorem d_Wa_latest_52 : decode c_Wa_latest 52 = .ok (.ireturn, 1) := dc_of (x := (52, .ireturn, 1)) t0_Wa_latest_ok (i := 29) rfl
def t0_Wa_byteOfText : List (Nat × Instr × Nat) := [(0, .iload_n 1, 1), (1, .istore_n 2, 1), (2, .iconst 0, 1), (3, .istore_n 3, 1), (4, .iload_n 3, 1), (5, .aload_n 0, 1), (6, .getfield 21, 3), (9, .if_icmp .ge 84, 3), (12, .iload_n 3, 1), (13, .ifCond .eq 20, 3), (16, .aload_n 0, 1), (17, .getfield 9, 3), (20, .iload_n 3, 1), (21, .iaload, 1), (22, .aload_n 0, 1), (23, .getfield 9, 3), (26, .iload_n 3, 1), (27, .iconst 1, 1), (28, .isub, 1), (29, .iaload, 1), (30, .if_icmp .eq 42, 3), (33, .aload_n 0, 1), (34, .getfield 9, 3), (37, .iload_n 3, 1), (38, .iaload, 1), (39, .invokestatic 31, 3), (42, .istore 4, 2), (44, .iload_n 2, 1), (45, .iload 4, 2), (47, .iconst 2, 1), (48, .iadd, 1), (49, .if_icmp .ge 16, 3), (52, .aload_n 0, 1), (53, .getfield 9, 3), (56, .iload_n 3, 1), (57, .iaload, 1), (58, .iload 4, 2), (60, .iload_n 2, 1), (61, .invokestatic 35, 3), (64, .ireturn, 1), (65, .iload_n 2, 1), (66, .iload 4, 2), (68, .iconst 2, 1), (69, .iadd, 1), (70, .isub, 1), (71, .istore_n 2, 1), (72, .iload_n 2, 1), (73, .iconst 3, 1), (74, .if_icmp .ge 10, 3), (77, .aload_n 0, 1), (78, .iload_n 3, 1), (79, .iload_n 2, 1), (80, .invokevirtual 39, 3), (83, .ireturn, 1), (84, .iinc 2 (-3), 3), (87, .iinc 3 1, 3), (90, .goto (-86), 3), (93, .iconst (-1), 1), (94, .ireturn, 1)]
theorem t0_Wa_byteOfText_ok : t0_Wa_byteOfText.all (fun x => decide (decode c_Wa_byteOfText x.1 = .ok x.2)) = true := by decide +kernel
theorem d_Wa_byteOfText_0 : decode c_Wa_byteOfText 0 = .ok (.iload_n 1, 1) := dc_of (x := (0, .iload_n 1, 1)) t0_Wa_byteOfText_ok (i := 0) rfl
theorem d_Wa_byteOfText_1 : decode c_Wa_byteOfText 1 = .ok (.istore_n 2, 1) := dc_of (x := (1, .istore_n 2, 1)) t0_Wa_byteOfText_ok (i := 1) rfl
theorem d_Wa_byteOfText_2 : decode c_Wa_byteOfText 2 = .ok (.iconst 0, 1) := dc_of (x := (2, .iconst 0, 1)) t0_Wa_byteOfText_ok (i := 2) rfl
theorem d_Wa_byteOfText_3 : decode c_Wa_byteOfText 3 = .ok (.istore_n 3, 1) := dc_of (x := (3, .istore_n 3, 1)) t0_Wa_byteOfText_ok (i := 3) rfl
theorem d_Wa_byteOfText_4 : decode c_Wa_byteOfText 4 = .ok (.iload_n 3, 1) := dc_of (x := (4, .iload_n 3, 1)) t0_Wa_byteOfText_ok (i := 4) rfl
theorem d_Wa_byteOfText_5 : decode c_Wa_byteOfText 5 = .ok (.aload_n 0, 1) := dc_of (x := (5, .aload_n 0, 1)) t0_Wa_byteOfText_ok (i := 5) rfl
theorem d_Wa_byteOfText_6 : decode c_Wa_byteOfText 6 = .ok (.getfield 21, 3) := dc_of (x := (6, .getfield 21, 3)) t0_Wa_byteOfText_ok (i := 6) rfl
theorem d_Wa_byteOfText_9 : decode c_Wa_byteOfText 9 = .ok (.if_icmp .ge 84, 3) := dc_of (x := (9, .if_icmp .ge 84, 3)) t0_Wa_byteOfText_ok (i := 7) rfl
theorem d_Wa_byteOfText_12 : decode c_Wa_byteOfText 12 = .ok (.iload_n 3, 1) := dc_of (x := (12, .iload_n 3, 1)) t0_Wa_byteOfText_ok (i := 8) rfl
theorem d_Wa_byteOfText_13 : decode c_Wa_byteOfText 13 = .ok (.ifCond .eq 20, 3) := dc_of (x := (13, .ifCond .eq 20, 3)) t0_Wa_byteOfText_ok (i := 9) rfl
theorem d_Wa_byteOfText_16 : decode c_Wa_byteOfText 16 = .ok (.aload_n 0, 1) := dc_of (x := (16, .aload_n 0, 1)) t0_Wa_byteOfText_ok (i := 10) rfl
theorem d_Wa_byteOfText_17 : decode c_Wa_byteOfText 17 = .ok (.getfield 9, 3) := dc_of (x := (17, .getfield 9, 3)) t0_Wa_byteOfText_ok (i := 11) rfl
theorem d_Wa_byteOfText_20 : decode c_Wa_byteOfText 20 = .ok (.iload_n 3, 1) := dc_of (x := (20, .iload_n 3, 1)) t0_Wa_byteOfText_ok (i := 12) rfl
theorem d_Wa_byteOfText_21 : decode c_Wa_byteOfText 21 = .ok (.iaload, 1) := dc_of (x := (21, .iaload, 1)) t0_Wa_byteOfText_ok (i := 13) rfl
theorem d_Wa_byteOfText_22 : decode c_Wa_byteOfText 22 = .ok (.aload_n 0, 1) := dc_of (x := (22, .aload_n 0, 1)) t0_Wa_byteOfText_ok (i := 14) rfl
theorem d_Wa_byteOfText_23 : decode c_Wa_byteOfText 23 = .ok (.getfield 9, 3) := dc_of (x := (23, .getfield 9, 3)) t0_Wa_byteOfText_ok (i := 15) rfl
theorem d_Wa_byteOfText_26 : decode c_Wa_byteOfText 26 = .ok (.iload_n 3, 1) := dc_of (x := (26, .iload_n 3, 1)) t0_Wa_byteOfText_ok (i := 16) rfl
theorem d_Wa_byteOfText_27 : decode c_Wa_byteOfText 27 = .ok (.iconst 1, 1) := dc_of (x := (27, .iconst 1, 1)) t0_Wa_byteOfText_ok (i := 17) rfl
theorem d_Wa_byteOfText_28 : decode c_Wa_byteOfText 28 = .ok (.isub, 1) := dc_of (x := (28, .isub, 1)) t0_Wa_byteOfText_ok (i := 18) rfl
theorem d_Wa_byteOfText_29 : decode c_Wa_byteOfText 29 = .ok (.iaload, 1) := dc_of (x := (29, .iaload, 1)) t0_Wa_byteOfText_ok (i := 19) rfl
theorem d_Wa_byteOfText_30 : decode c_Wa_byteOfText 30 = .ok (.if_icmp .eq 42, 3) := dc_of (x := (30, .if_icmp .eq 42, 3)) t0_Wa_byteOfText_ok (i := 20) rfl
theorem d_Wa_byteOfText_33 : decode c_Wa_byteOfText 33 = .ok (.aload_n 0, 1) := dc_of (x := (33, .aload_n 0, 1)) t0_Wa_byteOfText_ok (i := 21) rfl
theorem d_Wa_byteOfText_34 : decode c_Wa_byteOfText 34 = .ok (.getfield 9, 3) := dc_of (x := (34, .getfield 9, 3)) t0_Wa_byteOfText_ok (i := 22) rfl
theorem d_Wa_byteOfText_37 : decode c_Wa_byteOfText 37 = .ok (.iload_n 3, 1) := dc_of (x := (37, .iload_n 3, 1)) t0_Wa_byteOfText_ok (i := 23) rfl
theorem d_Wa_byteOfText_38 : decode c_Wa_byteOfText 38 = .ok (.iaload, 1) := dc_of (x := (38, .iaload, 1)) t0_Wa_byteOfText_ok (i := 24) rfl
theorem d_Wa_byteOfText_39 : decode c_Wa_byteOfText 39 = .ok (.invokestatic 31, 3) := dc_of (x := (39, .invokestatic 31, 3)) t0_Wa_byteOfText_ok (i := 25) rfl
theorem d_Wa_byteOfText_42 : decode c_Wa_byteOfText 42 = .ok (.istore 4, 2) := dc_of (x := (42, .istore 4, 2)) t0_Wa_byteOfText_ok (i := 26) rfl
theorem d_Wa_byteOfText_44 : decode c_Wa_byteOfText 44 = .ok (.iload_n 2, 1) := dc_of (x := (44, .iload_n 2, 1)) t0_Wa_byteOfText_ok (i := 27) rfl
theorem d_Wa_byteOfText_45 : decode c_Wa_byteOfText 45 = .ok (.iload 4, 2) := dc_of (x := (45, .iload 4, 2)) t0_Wa_byteOfText_ok (i := 28) rfl
theorem d_Wa_byteOfText_47 : decode c_Wa_byteOfText 47 = .ok (.iconst 2, 1) := dc_of (x := (47, .iconst 2, 1)) t0_Wa_byteOfText_ok (i := 29) rfl
theorem d_Wa_byteOfText_48 : decode c_Wa_byteOfText 48 = .ok (.iadd, 1) := dc_of (x := (48, .iadd, 1)) t0_Wa_byteOfText_ok (i := 30) rfl
theorem d_Wa_byteOfText_49 : decode c_Wa_byteOfText 49 = .ok (.if_icmp .ge 16, 3) := dc_of (x := (49, .if_icmp .ge 16, 3)) t0_Wa_byteOfText_ok (i := 31) rfl
theorem d_Wa_byteOfText_52 : decode c_Wa_byteOfText 52 = .ok (.aload_n 0, 1) := dc_of (x := (52, .aload_n 0, 1)) t0_Wa_byteOfText_ok (i := 32) rfl
theorem d_Wa_byteOfText_53 : decode c_Wa_byteOfText 53 = .ok (.getfield 9, 3) := dc_of (x := (53, .getfield 9, 3)) t0_Wa_byteOfText_ok (i := 33) rfl
theorem d_Wa_byteOfText_56 : decode c_Wa_byteOfText 56 = .ok (.iload_n 3, 1) := dc_of (x := (56, .iload_n 3, 1)) t0_Wa_byteOfText_ok (i := 34) rfl
theorem d_Wa_byteOfText_57 : decode c_Wa_byteOfText 57 = .ok (.iaload, 1) := dc_of (x := (57, .iaload, 1)) t0_Wa_byteOfText_ok (i := 35) rfl
theorem d_Wa_byteOfText_58 : decode c_Wa_byteOfText 58 = .ok (.iload 4, 2) := dc_of (x := (58, .iload 4, 2)) t0_Wa_byteOfText_ok (i := 36) rfl
theorem d_Wa_byteOfText_60 : decode c_Wa_byteOfText 60 = .ok (.iload_n 2, 1) := dc_of (x := (60, .iload_n 2, 1)) t0_Wa_byteOfText_ok (i := 37) rfl
theorem d_Wa_byteOfText_61 : decode c_Wa_byteOfText 61 = .ok (.invokestatic 35, 3) := dc_of (x := (61, .invokestatic 35, 3)) t0_Wa_byteOfText_ok (i := 38) rfl
theorem d_Wa_byteOfText_64 : decode c_Wa_byteOfText 64 = .ok (.ireturn, 1) := dc_of (x := (64, .ireturn, 1)) t0_Wa_byteOfText_ok (i := 39) rfl
theorem d_Wa_byteOfText_65 : decode c_Wa_byteOfText 65 = .ok (.iload_n 2, 1) := dc_of (x := (65, .iload_n 2, 1)) t0_Wa_byteOfText_ok (i := 40) rfl
theorem d_Wa_byteOfText_66 : decode c_Wa_byteOfText 66 = .ok (.iload 4, 2) := dc_of (x := (66, .iload 4, 2)) t0_Wa_byteOfText_ok (i := 41) rfl
theorem d_Wa_byteOfText_68 : decode c_Wa_byteOfText 68 = .ok (.iconst 2, 1) := dc_of (x := (68, .iconst 2, 1)) t0_Wa_byteOfText_ok (i := 42) rfl
theorem d_Wa_byteOfText_69 : decode c_Wa_byteOfText 69 = .ok (.iadd, 1) := dc_of (x := (69, .iadd, 1)) t0_Wa_byteOfText_ok (i := 43) rfl
theorem d_Wa_byteOfText_70 : decode c_Wa_byteOfText 70 = .ok (.isub, 1) := dc_of (x := (70, .isub, 1)) t0_Wa_byteOfText_ok (i := 44) rfl
theorem d_Wa_byteOfText_71 : decode c_Wa_byteOfText 71 = .ok (.istore_n 2, 1) := dc_of (x := (71, .istore_n 2, 1)) t0_Wa_byteOfText_ok (i := 45) rfl
theorem d_Wa_byteOfText_72 : decode c_Wa_byteOfText 72 = .ok (.iload_n 2, 1) := dc_of (x := (72, .iload_n 2, 1)) t0_Wa_byteOfText_ok (i := 46) rfl
theorem d_Wa_byteOfText_73 : decode c_Wa_byteOfText 73 = .ok (.iconst 3, 1) := dc_of (x := (73, .iconst 3, 1)) t0_Wa_byteOfText_ok (i := 47) rfl
theorem d_Wa_byteOfText_74 : decode c_Wa_byteOfText 74 = .ok (.if_icmp .ge 10, 3) := dc_of (x := (74, .if_icmp .ge 10, 3)) t0_Wa_byteOfText_ok (i := 48) rfl
theorem d_Wa_byteOfText_77 : decode c_Wa_byteOfText 77 = .ok (.aload_n 0, 1) := dc_of (x := (77, .aload_n 0, 1)) t0_Wa_byteOfText_ok (i := 49) rfl
theorem d_Wa_byteOfText_78 : decode c_Wa_byteOfText 78 = .ok (.iload_n 3, 1) := dc_of (x := (78, .iload_n 3, 1)) t0_Wa_byteOfText_ok (i := 50) rfl
theorem d_Wa_byteOfText_79 : decode c_Wa_byteOfText 79 = .ok (.iload_n 2, 1) := dc_of (x := (79, .iload_n 2, 1)) t0_Wa_byteOfText_ok (i := 51) rfl
theorem d_Wa_byteOfText_80 : decode c_Wa_byteOfText 80 = .ok (.invokevirtual 39, 3) := dc_of (x := (80, .invokevirtual 39, 3)) t0_Wa_byteOfText_ok (i := 52) rfl
theorem d_Wa_byteOfText_83 : decode c_Wa_byteOfText 83 = .ok (.ireturn, 1) := dc_of (x := (83, .ireturn, 1)) t0_Wa_byteOfText_ok (i := 53) rfl
theorem d_Wa_byteOfText_84 : decode c_Wa_byteOfText 84 = .ok (.iinc 2 (-3), 3) := dc_of (x := (84, .iinc 2 (-3), 3)) t0_Wa_byteOfText_ok (i := 54) rfl
theorem d_Wa_byteOfText_87 : decode c_Wa_byteOfText 87 = .ok (.iinc 3 1, 3) := dc_of (x := (87, .iinc 3 1, 3)) t0_Wa_byteOfText_ok (i := 55) rfl
theorem d_Wa_byteOfText_90 : decode c_Wa_byteOfText 90 = .ok (.goto (-86), 3) := dc_of (x := (90, .goto (-86), 3)) t0_Wa_byteOfText_ok (i := 56) rfl
theorem d_Wa_byteOfText_93 : decode c_Wa_byteOfText 93 = .ok (.iconst (-1), 1) := dc_of (x := (93, .iconst (-1), 1)) t0_Wa_byteOfText_ok (i := 57) rfl
theorem d_Wa_byteOfText_94 : decode c_Wa_byteOfText 94 = .ok (.ireturn, 1) := dc_of (x := (94, .ireturn, 1)) t0_Wa_byteOfText_ok (i := 58) rfl
def t0_Wa_digitsOf : List (Nat × Instr × Nat) := [(0, .iconst 1, 1), (1, .istore_n 1, 1), (2, .iload_n 1, 1), (3, .getstatic 43, 3), (6, .arraylength, 1), (7, .if_icmp .ge 20, 3), (10, .iload_n 0, 1), (11, .getstatic 43, 3), (14, .iload_n 1, 1), (15, .iaload, 1), (16, .if_icmp .ge 5, 3), (19, .iload_n 1, 1), (20, .ireturn, 1), (21, .iinc 1 1, 3), (24, .goto (-22), 3), (27, .getstatic 43, 3), (30, .arraylength, 1), (31, .ireturn, 1)]
theorem t0_Wa_digitsOf_ok : t0_Wa_digitsOf.all (fun x => decide (decode c_Wa_digitsOf x.1 = .ok x.2)) = true := by decide +kernel
theorem d_Wa_digitsOf_0 : decode c_Wa_digitsOf 0 = .ok (.iconst 1, 1) := dc_of (x := (0, .iconst 1, 1)) t0_Wa_digitsOf_ok (i := 0) rfl
theorem d_Wa_digitsOf_1 : decode c_Wa_digitsOf 1 = .ok (.istore_n 1, 1) := dc_of (x := (1, .istore_n 1, 1)) t0_Wa_digitsOf_ok (i := 1) rfl
theorem d_Wa_digitsOf_2 : decode c_Wa_digitsOf 2 = .ok (.iload_n 1, 1) := dc_of (x := (2, .iload_n 1, 1)) t0_Wa_digitsOf_ok (i := 2) rfl
theorem d_Wa_digitsOf_3 : decode c_Wa_digitsOf 3 = .ok (.getstatic 43, 3) := dc_of (x := (3, .getstatic 43, 3)) t0_Wa_digitsOf_ok (i := 3) rfl
theorem d_Wa_digitsOf_6 : decode c_Wa_digitsOf 6 = .ok (.arraylength, 1) := dc_of (x := (6, .arraylength, 1)) t0_Wa_digitsOf_ok (i := 4) rfl
theorem d_Wa_digitsOf_7 : decode c_Wa_digitsOf 7 = .ok (.if_icmp .ge 20, 3) := dc_of (x := (7, .if_icmp .ge 20, 3)) t0_Wa_digitsOf_ok (i := 5) rfl
theorem d_Wa_digitsOf_10 : decode c_Wa_digitsOf 10 = .ok (.iload_n 0, 1) := dc_of (x := (10, .iload_n 0, 1)) t0_Wa_digitsOf_ok (i := 6) rfl
theorem d_Wa_digitsOf_11 : decode c_Wa_digitsOf 11 = .ok (.getstatic 43, 3) := dc_of (x := (11, .getstatic 43, 3)) t0_Wa_digitsOf_ok (i := 7) rfl
theorem d_Wa_digitsOf_14 : decode c_Wa_digitsOf 14 = .ok (.iload_n 1, 1) := dc_of (x := (14, .iload_n 1, 1)) t0_Wa_digitsOf_ok (i := 8) rfl
theorem d_Wa_digitsOf_15 : decode c_Wa_digitsOf 15 = .ok (.iaload, 1) := dc_of (x := (15, .iaload, 1)) t0_Wa_digitsOf_ok (i := 9) rfl
theorem d_Wa_digitsOf_16 : decode c_Wa_digitsOf 16 = .ok (.if_icmp .ge 5, 3) := dc_of (x := (16, .if_icmp .ge 5, 3)) t0_Wa_digitsOf_ok (i := 10) rfl
theorem d_Wa_digitsOf_19 : decode c_Wa_digitsOf 19 = .ok (.iload_n 1, 1) := dc_of (x := (19, .iload_n 1, 1)) t0_Wa_digitsOf_ok (i := 11) rfl
theorem d_Wa_digitsOf_20 : decode c_Wa_digitsOf 20 = .ok (.ireturn, 1) := dc_of (x := (20, .ireturn, 1)) t0_Wa_digitsOf_ok (i := 12) rfl
theorem d_Wa_digitsOf_21 : decode c_Wa_digitsOf 21 = .ok (.iinc 1 1, 3) := dc_of (x := (21, .iinc 1 1, 3)) t0_Wa_digitsOf_ok (i := 13) rfl
theorem d_Wa_digitsOf_24 : decode c_Wa_digitsOf 24 = .ok (.goto (-22), 3) := dc_of (x := (24, .goto (-22), 3)) t0_Wa_digitsOf_ok (i := 14) rfl
theorem d_Wa_digitsOf_27 : decode c_Wa_digitsOf 27 = .ok (.getstatic 43, 3) := dc_of (x := (27, .getstatic 43, 3)) t0_Wa_digitsOf_ok (i := 15) rfl
theorem d_Wa_digitsOf_30 : decode c_Wa_digitsOf 30 = .ok (.arraylength, 1) := dc_of (x := (30, .arraylength, 1)) t0_Wa_digitsOf_ok (i := 16) rfl
theorem d_Wa_digitsOf_31 : decode c_Wa_digitsOf 31 = .ok (.ireturn, 1) := dc_of (x := (31, .ireturn, 1)) t0_Wa_digitsOf_ok (i := 17) rfl
def t0_Wa_headByte : List (Nat × Instr × Nat) := [(0, .iload_n 2, 1), (1, .ifCond .ne 6, 3), (4, .bipush 35, 2), (6, .ireturn, 1), (7, .iload_n 1, 1), (8, .iload_n 2, 1), (9, .isub, 1), (10, .istore_n 3, 1), (11, .iload_n 3, 1), (12, .ifCond .lt 11, 3), (15, .iload_n 3, 1), (16, .getstatic 43, 3), (19, .arraylength, 1), (20, .if_icmp .lt 6, 3), (23, .bipush 10, 2), (25, .ireturn, 1), (26, .bipush 48, 2), (28, .iload_n 0, 1), (29, .getstatic 43, 3), (32, .iload_n 3, 1), (33, .iaload, 1), (34, .idiv, 1), (35, .bipush 10, 2), (37, .irem, 1), (38, .iadd, 1), (39, .ireturn, 1)]
theorem t0_Wa_headByte_ok : t0_Wa_headByte.all (fun x => decide (decode c_Wa_headByte x.1 = .ok x.2)) = true := by decide +kernel
theorem d_Wa_headByte_0 : decode c_Wa_headByte 0 = .ok (.iload_n 2, 1) := dc_of (x := (0, .iload_n 2, 1)) t0_Wa_headByte_ok (i := 0) rfl
theorem d_Wa_headByte_1 : decode c_Wa_headByte 1 = .ok (.ifCond .ne 6, 3) := dc_of (x := (1, .ifCond .ne 6, 3)) t0_Wa_headByte_ok (i := 1) rfl
theorem d_Wa_headByte_4 : decode c_Wa_headByte 4 = .ok (.bipush 35, 2) := dc_of (x := (4, .bipush 35, 2)) t0_Wa_headByte_ok (i := 2) rfl
theorem d_Wa_headByte_6 : decode c_Wa_headByte 6 = .ok (.ireturn, 1) := dc_of (x := (6, .ireturn, 1)) t0_Wa_headByte_ok (i := 3) rfl
theorem d_Wa_headByte_7 : decode c_Wa_headByte 7 = .ok (.iload_n 1, 1) := dc_of (x := (7, .iload_n 1, 1)) t0_Wa_headByte_ok (i := 4) rfl
theorem d_Wa_headByte_8 : decode c_Wa_headByte 8 = .ok (.iload_n 2, 1) := dc_of (x := (8, .iload_n 2, 1)) t0_Wa_headByte_ok (i := 5) rfl
theorem d_Wa_headByte_9 : decode c_Wa_headByte 9 = .ok (.isub, 1) := dc_of (x := (9, .isub, 1)) t0_Wa_headByte_ok (i := 6) rfl
theorem d_Wa_headByte_10 : decode c_Wa_headByte 10 = .ok (.istore_n 3, 1) := dc_of (x := (10, .istore_n 3, 1)) t0_Wa_headByte_ok (i := 7) rfl
theorem d_Wa_headByte_11 : decode c_Wa_headByte 11 = .ok (.iload_n 3, 1) := dc_of (x := (11, .iload_n 3, 1)) t0_Wa_headByte_ok (i := 8) rfl
theorem d_Wa_headByte_12 : decode c_Wa_headByte 12 = .ok (.ifCond .lt 11, 3) := dc_of (x := (12, .ifCond .lt 11, 3)) t0_Wa_headByte_ok (i := 9) rfl
theorem d_Wa_headByte_15 : decode c_Wa_headByte 15 = .ok (.iload_n 3, 1) := dc_of (x := (15, .iload_n 3, 1)) t0_Wa_headByte_ok (i := 10) rfl
theorem d_Wa_headByte_16 : decode c_Wa_headByte 16 = .ok (.getstatic 43, 3) := dc_of (x := (16, .getstatic 43, 3)) t0_Wa_headByte_ok (i := 11) rfl
theorem d_Wa_headByte_19 : decode c_Wa_headByte 19 = .ok (.arraylength, 1) := dc_of (x := (19, .arraylength, 1)) t0_Wa_headByte_ok (i := 12) rfl
theorem d_Wa_headByte_20 : decode c_Wa_headByte 20 = .ok (.if_icmp .lt 6, 3) := dc_of (x := (20, .if_icmp .lt 6, 3)) t0_Wa_headByte_ok (i := 13) rfl
theorem d_Wa_headByte_23 : decode c_Wa_headByte 23 = .ok (.bipush 10, 2) := dc_of (x := (23, .bipush 10, 2)) t0_Wa_headByte_ok (i := 14) rfl
theorem d_Wa_headByte_25 : decode c_Wa_headByte 25 = .ok (.ireturn, 1) := dc_of (x := (25, .ireturn, 1)) t0_Wa_headByte_ok (i := 15) rfl
theorem d_Wa_headByte_26 : decode c_Wa_headByte 26 = .ok (.bipush 48, 2) := dc_of (x := (26, .bipush 48, 2)) t0_Wa_headByte_ok (i := 16) rfl
theorem d_Wa_headByte_28 : decode c_Wa_headByte 28 = .ok (.iload_n 0, 1) := dc_of (x := (28, .iload_n 0, 1)) t0_Wa_headByte_ok (i := 17) rfl
theorem d_Wa_headByte_29 : decode c_Wa_headByte 29 = .ok (.getstatic 43, 3) := dc_of (x := (29, .getstatic 43, 3)) t0_Wa_headByte_ok (i := 18) rfl
theorem d_Wa_headByte_32 : decode c_Wa_headByte 32 = .ok (.iload_n 3, 1) := dc_of (x := (32, .iload_n 3, 1)) t0_Wa_headByte_ok (i := 19) rfl
theorem d_Wa_headByte_33 : decode c_Wa_headByte 33 = .ok (.iaload, 1) := dc_of (x := (33, .iaload, 1)) t0_Wa_headByte_ok (i := 20) rfl
theorem d_Wa_headByte_34 : decode c_Wa_headByte 34 = .ok (.idiv, 1) := dc_of (x := (34, .idiv, 1)) t0_Wa_headByte_ok (i := 21) rfl
theorem d_Wa_headByte_35 : decode c_Wa_headByte 35 = .ok (.bipush 10, 2) := dc_of (x := (35, .bipush 10, 2)) t0_Wa_headByte_ok (i := 22) rfl
theorem d_Wa_headByte_37 : decode c_Wa_headByte 37 = .ok (.irem, 1) := dc_of (x := (37, .irem, 1)) t0_Wa_headByte_ok (i := 23) rfl
theorem d_Wa_headByte_38 : decode c_Wa_headByte 38 = .ok (.iadd, 1) := dc_of (x := (38, .iadd, 1)) t0_Wa_headByte_ok (i := 24) rfl
theorem d_Wa_headByte_39 : decode c_Wa_headByte 39 = .ok (.ireturn, 1) := dc_of (x := (39, .ireturn, 1)) t0_Wa_headByte_ok (i := 25) rfl
def t0_Wa_lineByte : List (Nat × Instr × Nat) := [(0, .iload_n 2, 1), (1, .lookupswitch 48 #[(0, 27), (1, 38)], 27), (28, .getstatic 46, 3), (31, .aload_n 0, 1), (32, .getfield 18, 3), (35, .iload_n 1, 1), (36, .iaload, 1), (37, .iaload, 1), (38, .ireturn, 1), (39, .bipush 33, 2), (41, .aload_n 0, 1), (42, .getfield 15, 3), (45, .iload_n 1, 1), (46, .iaload, 1), (47, .iadd, 1), (48, .ireturn, 1), (49, .bipush 10, 2), (51, .ireturn, 1)]
theorem t0_Wa_lineByte_ok : t0_Wa_lineByte.all (fun x => decide (decode c_Wa_lineByte x.1 = .ok x.2)) = true := by decide +kernel
theorem d_Wa_lineByte_0 : decode c_Wa_lineByte 0 = .ok (.iload_n 2, 1) := dc_of (x := (0, .iload_n 2, 1)) t0_Wa_lineByte_ok (i := 0) rfl
theorem d_Wa_lineByte_1 : decode c_Wa_lineByte 1 = .ok (.lookupswitch 48 #[(0, 27), (1, 38)], 27) := dc_of (x := (1, .lookupswitch 48 #[(0, 27), (1, 38)], 27)) t0_Wa_lineByte_ok (i := 1) rfl
theorem d_Wa_lineByte_28 : decode c_Wa_lineByte 28 = .ok (.getstatic 46, 3) := dc_of (x := (28, .getstatic 46, 3)) t0_Wa_lineByte_ok (i := 2) rfl
theorem d_Wa_lineByte_31 : decode c_Wa_lineByte 31 = .ok (.aload_n 0, 1) := dc_of (x := (31, .aload_n 0, 1)) t0_Wa_lineByte_ok (i := 3) rfl
theorem d_Wa_lineByte_32 : decode c_Wa_lineByte 32 = .ok (.getfield 18, 3) := dc_of (x := (32, .getfield 18, 3)) t0_Wa_lineByte_ok (i := 4) rfl
theorem d_Wa_lineByte_35 : decode c_Wa_lineByte 35 = .ok (.iload_n 1, 1) := dc_of (x := (35, .iload_n 1, 1)) t0_Wa_lineByte_ok (i := 5) rfl
theorem d_Wa_lineByte_36 : decode c_Wa_lineByte 36 = .ok (.iaload, 1) := dc_of (x := (36, .iaload, 1)) t0_Wa_lineByte_ok (i := 6) rfl
theorem d_Wa_lineByte_37 : decode c_Wa_lineByte 37 = .ok (.iaload, 1) := dc_of (x := (37, .iaload, 1)) t0_Wa_lineByte_ok (i := 7) rfl
theorem d_Wa_lineByte_38 : decode c_Wa_lineByte 38 = .ok (.ireturn, 1) := dc_of (x := (38, .ireturn, 1)) t0_Wa_lineByte_ok (i := 8) rfl
theorem d_Wa_lineByte_39 : decode c_Wa_lineByte 39 = .ok (.bipush 33, 2) := dc_of (x := (39, .bipush 33, 2)) t0_Wa_lineByte_ok (i := 9) rfl
theorem d_Wa_lineByte_41 : decode c_Wa_lineByte 41 = .ok (.aload_n 0, 1) := dc_of (x := (41, .aload_n 0, 1)) t0_Wa_lineByte_ok (i := 10) rfl
theorem d_Wa_lineByte_42 : decode c_Wa_lineByte 42 = .ok (.getfield 15, 3) := dc_of (x := (42, .getfield 15, 3)) t0_Wa_lineByte_ok (i := 11) rfl
theorem d_Wa_lineByte_45 : decode c_Wa_lineByte 45 = .ok (.iload_n 1, 1) := dc_of (x := (45, .iload_n 1, 1)) t0_Wa_lineByte_ok (i := 12) rfl
theorem d_Wa_lineByte_46 : decode c_Wa_lineByte 46 = .ok (.iaload, 1) := dc_of (x := (46, .iaload, 1)) t0_Wa_lineByte_ok (i := 13) rfl
theorem d_Wa_lineByte_47 : decode c_Wa_lineByte 47 = .ok (.iadd, 1) := dc_of (x := (47, .iadd, 1)) t0_Wa_lineByte_ok (i := 14) rfl
theorem d_Wa_lineByte_48 : decode c_Wa_lineByte 48 = .ok (.ireturn, 1) := dc_of (x := (48, .ireturn, 1)) t0_Wa_lineByte_ok (i := 15) rfl
theorem d_Wa_lineByte_49 : decode c_Wa_lineByte 49 = .ok (.bipush 10, 2) := dc_of (x := (49, .bipush 10, 2)) t0_Wa_lineByte_ok (i := 16) rfl
theorem d_Wa_lineByte_51 : decode c_Wa_lineByte 51 = .ok (.ireturn, 1) := dc_of (x := (51, .ireturn, 1)) t0_Wa_lineByte_ok (i := 17) rfl
end
section
/-! THE SCHEMA: which blocks there are. kind 0: a circuit (live: number 0, remembered: 1 ..); 1: the EventWaves object; 2: its array of remembered circuits, its tape; 3: the law's array 'out'; 4: the reference and its arrays.
A region: its distance, how many, and what: an object (its class in vwCl, its fields) or an array (its type in atyL, its length, its elements). A field: (0, ..) int, (1, ..) long, (2, ..) a pointer, (3, r, m) a fixed reference. -/
abbrev kdT : Type := Nat × Nat × Nat
abbrev rbT : Type := (Nat × List kdT) ⊕ (Nat × Nat × kdT)
abbrev rgT : Type := Nat × Nat × rbT
def atyL : List FieldType := [.int, .long, .object "EventWaves$Net", .object "EventWaves$Gate", .object "EventWaves$Check", .object "EventWaves$Circuit"]
def sch : Nat → List rgT
  | 0 => [(0, 1, .inl (1, [(1, 0, 0), (0, 0, 0), (0, 0, 0), (3, 1, 0), (0, 0, 0), (3, 2, 0), (0, 0, 0), (3, 3, 0), (3, 4, 0), (3, 9, 0)])),
      (1, 1, .inr (2, 24, 3, 13, 0)), (2, 1, .inr (3, 32, 3, 14, 0)), (3, 1, .inr (4, 20, 3, 15, 0)),
      (4, 1, .inl (5, [(0, 0, 0), (3, 5, 0), (3, 6, 0), (3, 7, 0), (3, 8, 0)])),
      (5, 1, .inr (0, 100, 0, 0, 0)), (6, 1, .inr (0, 100, 0, 0, 0)), (7, 1, .inr (1, 100, 1, 0, 0)), (8, 1, .inr (0, 100, 0, 0, 0)),
      (9, 1, .inl (6, [(0, 0, 0), (3, 10, 0), (3, 11, 0), (3, 12, 0)])),
      (10, 1, .inr (0, 600, 0, 0, 0)), (11, 1, .inr (0, 600, 0, 0, 0)), (12, 1, .inr (0, 600, 0, 0, 0)),
      (13, 24, .inl (2, [(0, 0, 0), (0, 0, 0), (0, 0, 0), (1, 0, 0), (1, 0, 0), (1, 0, 0)])),
      (37, 32, .inl (3, [(0, 0, 0), (0, 0, 0), (0, 0, 0), (0, 0, 0), (0, 0, 0), (0, 0, 0), (0, 0, 0), (0, 0, 0), (1, 0, 0), (0, 0, 0), (1, 0, 0)])),
      (69, 20, .inl (4, [(0, 0, 0), (0, 0, 0), (0, 0, 0), (0, 0, 0), (0, 0, 0)]))]
  | 1 => [(0, 1, .inl (0, [(3, 0, 2), (3, 0, 4), (0, 0, 0), (3, 1, 4)]))]
  | 2 => [(0, 1, .inr (5, 4, 2, 0, 0)), (1, 1, .inl (7, [(0, 0, 0), (3, 2, 0)])), (2, 1, .inr (0, 2000, 0, 0, 0))]
  | 3 => [(0, 1, .inr (1, 1, 1, 0, 0))]
  | 4 => [(0, 1, .inl (9, [(0, 0, 0), (3, 1, 0), (3, 2, 0), (0, 0, 0), (3, 3, 0), (0, 0, 0), (3, 4, 0), (3, 5, 0), (3, 6, 0)])),
      (1, 1, .inr (0, 3300, 0, 0, 0)), (2, 1, .inr (0, 13200, 0, 0, 0)), (3, 1, .inr (0, 2000, 0, 0, 0)), (4, 1, .inr (0, 1000, 0, 0, 0)), (5, 1, .inr (0, 1000, 0, 0, 0)), (6, 1, .inr (0, 1000, 0, 0, 0))]
  | _ => []
def bln : Nat → Nat
  | 0 => 89
  | 1 => 1
  | 2 => 3
  | 3 => 1
  | 4 => 7
  | _ => 0
theorem sch_len (κ r : Nat) (g : rgT) (h : (sch κ)[r]? = some g) : g.1 + g.2.1 ≤ bln κ := by
  have hm := List.mem_of_getElem? h
  match κ, hm with
  | 0, hm => exact (by decide : ∀ g ∈ sch 0, g.1 + g.2.1 ≤ bln 0) g hm
  | 1, hm => exact (by decide : ∀ g ∈ sch 1, g.1 + g.2.1 ≤ bln 1) g hm
  | 2, hm => exact (by decide : ∀ g ∈ sch 2, g.1 + g.2.1 ≤ bln 2) g hm
  | 3, hm => exact (by decide : ∀ g ∈ sch 3, g.1 + g.2.1 ≤ bln 3) g hm
  | 4, hm => exact (by decide : ∀ g ∈ sch 4, g.1 + g.2.1 ≤ bln 4) g hm
  | n + 5, hm => exact absurd hm (by simp [sch])
theorem sch_pw (κ : Nat) : (sch κ).Pairwise (fun g g' => g.1 + g.2.1 ≤ g'.1) := by
  match κ with
  | 0 => decide
  | 1 => decide
  | 2 => decide
  | 3 => decide
  | 4 => decide
  | n + 5 => exact List.Pairwise.nil
theorem sch_apart (κ r r' : Nat) (g g' : rgT) (h : (sch κ)[r]? = some g) (h' : (sch κ)[r']? = some g') (hr : r ≠ r') : g.1 + g.2.1 ≤ g'.1 ∨ g'.1 + g'.2.1 ≤ g.1 := by
  obtain ⟨l1, e1⟩ := List.getElem?_eq_some_iff.mp h
  obtain ⟨l2, e2⟩ := List.getElem?_eq_some_iff.mp h'
  have hp := List.pairwise_iff_getElem.mp (sch_pw κ)
  rcases Nat.lt_or_gt_of_ne hr with hl | hl
  · have := hp r r' l1 l2 hl
    rw [e1, e2] at this
    exact Or.inl this
  · have := hp r' r l2 l1 hl
    rw [e1, e2] at this
    exact Or.inr this
end
section
/-! THE JUDGEMENT Go: the kit's W for one running method, with the method's fixed things in one tuple F, the locals as a list of
places, and ANY predicate on the heap. Rows of the kit become rows of Go; no row here knows the class that is proved. -/
abbrev gT := Program × Launch × Env × Room × State × MethodId × Array Value × List Frame × Method × Code × (State → Prop) × Nat × Nat
abbrev gp (F : gT) : Program := F.1
abbrev gl (F : gT) : Launch := F.2.1
abbrev ge (F : gT) : Env := F.2.2.1
abbrev gR (F : gT) : Room := F.2.2.2.1
abbrev gs (F : gT) : State := F.2.2.2.2.1
abbrev gm (F : gT) : MethodId := F.2.2.2.2.2.1
abbrev ga (F : gT) : Array Value := F.2.2.2.2.2.2.1
abbrev gb (F : gT) : List Frame := F.2.2.2.2.2.2.2.1
abbrev gt (F : gT) : Method := F.2.2.2.2.2.2.2.2.1
abbrev gc (F : gT) : Code := F.2.2.2.2.2.2.2.2.2.1
abbrev gZ (F : gT) : State → Prop := F.2.2.2.2.2.2.2.2.2.2.1
abbrev gLo (F : gT) : Nat := F.2.2.2.2.2.2.2.2.2.2.2.1
abbrev gN (F : gT) : Nat := F.2.2.2.2.2.2.2.2.2.2.2.2
abbrev lvT : Type := List (Nat × Value)
def Go (F : gT) (pc : Nat) (lv : lvT) (st : List Value) (G : Heap → Prop) (k n : Nat) : Prop :=
  ∀ (H : Heap) (locs : List Loc) (ls : Array Slot), G H → (∀ z ∈ locs, gLo F ≤ z.base) → lv_has ls (gN F) lv →
    W (gp F) (gl F) (ge F) (gR F) (gs F) (gm F) (ga F) (gb F) (gt F) (gc F) H locs k n (gZ F) (F0 (gm F) pc ls st)
/-- the words that every method has: those of the tables that a warmer table keeps -/
def gAll : List Cond := lw_tbl.filter goodWord
/-- what is fixed in a running method: machine, bytes, locals, its class, the words, no lock, its room, launch without traces -/
def Fb (F : gT) (cc : ByteArray) (own : String) (nL : Nat) (rm : Room) : Prop :=
  (gp F).tables.exec = Jvm.exec ∧ (gc F).code = cc ∧ (gc F).maxLocals = nL ∧ gN F = nL ∧ (gs F).vm.findClass own = some (gm F).cls ∧
  (∀ w ∈ gAll, w.before (ga F) (gs F) = true) ∧ (gt F).locks = false ∧ gR F = rm ∧ (gl F).stackTraces = false
def gQ (Q : Option Value → Heap → Prop) : Array Value → State → Outcome → State → Prop := fun _ _ o t => ∃ v, o = .returned v ∧ Q v t.heap
/-- how a method ends: it returned v, and 'Q v' holds of the heap; or it threw an object of the class named M, and 'X M' holds; no cell below lo was written -/
def Qx (Q : Option Value → Heap → Prop) (X : String → Heap → Prop) (lo mc ms : Nat) : Array Value → State → Outcome → State → Prop := fun _ u o t =>
  ∃ L : List Loc, u.WarmedH t.vm ∧ u.sameButNew ({ t with vm := u.vm } : State) L mc ms ∧ (∀ z ∈ L, lo ≤ z.base) ∧
    ((∃ v, o = .returned v ∧ Q v t.heap) ∨ ∃ (q : Addr) (M : String) (ce : Cell), o = .threw q ∧ X M t.heap ∧ t.heap[q]? = some ce ∧ ce.vm = .none ∧ u.vm.findClass M = some ce.cls)
def zX (below : List Frame) (Q : Option Value → Heap → Prop) (X : String → Heap → Prop) (lo mc ms : Nat) (a : Array Value) (s : State) : State → Prop := fun t =>
  ∃ o, t.status = .running ∧ Ended t below o ∧ Qx Q X lo mc ms a s o t
/-- .. and of a method that is called by contract: its type, its posts, its cells and slots -/
def Fm (F : gT) (ret : Option FieldType) (Q : Option Value → Heap → Prop) (X : String → Heap → Prop) (mc ms : Nat) : Prop :=
  (gt F).sig.returnType = ret ∧ gZ F = zX (gb F) Q X (gLo F) mc ms (ga F) (gs F)
theorem mq_z {below : List Frame} {Q : Option Value → Heap → Prop} {X : String → Heap → Prop} {lo mc ms : Nat} {a : Array Value} {s t : State} (h : MQ below (gQ Q) a s mc ms (fun q => lo ≤ q) t) : zX below Q X lo mc ms a s t := by
  obtain ⟨o, h1, h2, ⟨v, hv, hq⟩, L, hF, hL⟩ := h
  exact ⟨o, h1, h2, L, hF.2.1, hF.2.2, hL, Or.inl ⟨v, hv, hq⟩⟩
theorem w_mono {p : Program} {l : Launch} {e : Env} {R : Room} {s : State} {m : MethodId} {args : Array Value} {below : List Frame} {meth : Method} {c : Code} {H : Heap} {locs : List Loc} {k n : Nat} {Q1 Q2 : State → Prop} {g : JFrame} (h : ∀ t, Q1 t → Q2 t)
    (w : W p l e R s m args below meth c H locs k n Q1 g) : W p l e R s m args below meth c H locs k n Q2 g := fun T hT Y => by
  obtain ⟨t, a, b⟩ := w T hT Y
  exact ⟨t, a, h t b⟩
def lget : lvT → Nat → Option Value
  | [], _ => none
  | q :: t, i => if q.1 == i then some q.2 else lget t i
theorem lget_mem : ∀ {lv : lvT} {i : Nat} {v : Value}, lget lv i = some v → (i, v) ∈ lv
  | [], _, _, h => by simp [lget] at h
  | (j, x) :: t, i, v, h => by
    by_cases hj : j = i
    · subst hj
      simp [lget] at h
      subst h
      exact List.mem_cons_self
    · have hb : (j == i) = false := by simp [hj]
      simp only [lget, hb] at h
      exact List.mem_cons_of_mem _ (lget_mem h)
theorem lv_get {ls : Array Slot} {n : Nat} {lv : lvT} {i : Nat} {v : Value} (hl : lv_has ls n lv) (h : lget lv i = some v) : ls[i]? = some (.val v) := hl.2.2 (i, v) (lget_mem h)
def lput (lv : lvT) (i : Nat) (v : Value) : lvT := (i, v) :: lv.filter (fun q => !(q.1 == i) && !(q.1 + 1 == i && q.2.category == 2))
def lput2 (lv : lvT) (i : Nat) (v : Value) : lvT := (i, v) :: lv.filter (fun q => !(q.1 == i) && (!(q.1 == i + 1) && !(q.1 + 1 == i && q.2.category == 2)))
def lall (lv : lvT) : lvT → Prop
  | [] => True
  | q :: t => lget lv q.1 = some q.2 ∧ lall lv t
theorem lall_mem {lv : lvT} : ∀ {l : lvT}, lall lv l → ∀ q ∈ l, q ∈ lv
  | [], _, q, hq => nomatch hq
  | x :: t, h, q, hq => by
    rcases List.mem_cons.mp hq with e | h2
    · subst e
      exact lget_mem h.1
    · exact lall_mem h.2 q h2
section GO
variable {F : gT} {cc : ByteArray} {own : String} {nL : Nat} {rm : Room} {pc : Nat} {lv : lvT} {st : List Value} {G : Heap → Prop} {k n : Nat}
theorem go_lv {lv' : lvT} (h : lall lv lv') (kk : Go F pc lv' st G k n) : Go F pc lv st G k n :=
  fun H locs ls hG hL hl => kk H locs ls hG hL ⟨hl.1, hl.2.1, fun q hq => hl.2.2 q (lall_mem h q hq)⟩
theorem go_G {G' : Heap → Prop} (h : ∀ H, G H → G' H) (kk : Go F pc lv st G' k n) : Go F pc lv st G k n := fun H locs ls hG hL hl => kk H locs ls (h H hG) hL hl
theorem go_ex {α : Sort _} {P : α → Heap → Prop} (kk : ∀ x, Go F pc lv st (P x) k n) : Go F pc lv st (fun H => ∃ x, P x H) k n :=
  fun H locs ls hG hL hl => by obtain ⟨x, hx⟩ := hG; exact kk x H locs ls hx hL hl
theorem go_and {P : Prop} (kk : P → Go F pc lv st G k n) : Go F pc lv st (fun H => P ∧ G H) k n := fun H locs ls hG hL hl => kk hG.1 H locs ls hG.2 hL hl
theorem go_fact {P : Prop} (h : ∀ H, G H → P) (kk : P → Go F pc lv st G k n) : Go F pc lv st G k n := fun H locs ls hG hL hl => kk (h H hG) H locs ls hG hL hl
theorem go_or {G1 G2 : Heap → Prop} (k1 : Go F pc lv st G1 k n) (k2 : Go F pc lv st G2 k n) : Go F pc lv st (fun H => G1 H ∨ G2 H) k n :=
  fun H locs ls hG hL hl => hG.elim (fun h => k1 H locs ls h hL hl) (fun h => k2 H locs ls h hL hl)
theorem go_widen {k' n' : Nat} (h1 : k ≤ k') (h2 : n ≤ n') (kk : Go F pc lv st G k' n') : Go F pc lv st G k n := fun H locs ls hG hL hl => W.widen h1 h2 (kk H locs ls hG hL hl)
theorem go_topi {x : Int32} (kk : ∀ y : Int32, y = x → Go F pc lv (.int y :: st) G k n) : Go F pc lv (.int x :: st) G k n := kk x rfl
theorem go_topl {x : Int64} (kk : ∀ y : Int64, y = x → Go F pc lv (.long y :: st) G k n) : Go F pc lv (.long x :: st) G k n := kk x rfl
theorem go_st {st' : List Value} (h : st = st') (kk : Go F pc lv st' G k n) : Go F pc lv st G k n := h ▸ kk
theorem go_iconst (hF : Fb F cc own nL rm) {m : Int} {v : Int32} (hd : decode cc pc = .ok (.iconst m, 1)) (hv : Int32.ofInt m = v) (kk : Go F (pc + 1) lv (.int v :: st) G k n) : Go F pc lv st G k n := fun H locs ls hG hL hl => lv_iconst hF.1 hF.2.1 hd hv (kk H locs ls hG hL hl)
theorem go_bipush (hF : Fb F cc own nL rm) {m : Int} {v : Int32} (hd : decode cc pc = .ok (.bipush m, 2)) (hv : (Int8.ofInt m).toInt32 = v) (kk : Go F (pc + 2) lv (.int v :: st) G k n) : Go F pc lv st G k n := fun H locs ls hG hL hl => lv_bipush hF.1 hF.2.1 hd hv (kk H locs ls hG hL hl)
theorem go_sipush (hF : Fb F cc own nL rm) {m : Int} {v : Int32} (hd : decode cc pc = .ok (.sipush m, 3)) (hv : (Int16.ofInt m).toInt32 = v) (kk : Go F (pc + 3) lv (.int v :: st) G k n) : Go F pc lv st G k n := fun H locs ls hG hL hl => lv_sipush hF.1 hF.2.1 hd hv (kk H locs ls hG hL hl)
theorem go_lconst (hF : Fb F cc own nL rm) {m : Fin 2} {v : Int64} (hd : decode cc pc = .ok (.lconst m, 1)) (hv : Int64.ofNat (m : Nat) = v) (kk : Go F (pc + 1) lv (.long v :: st) G k n) : Go F pc lv st G k n := fun H locs ls hG hL hl => lv_lconst hF.1 hF.2.1 hd hv (kk H locs ls hG hL hl)
theorem go_ldc (hF : Fb F cc own nL rm) {index : Nat} {v : Int32} (hw : Jvm.Cond.constant own index v ∈ gAll) (hd : decode cc pc = .ok (.ldc index, 2)) (kk : Go F (pc + 2) lv (.int v :: st) G k n) : Go F pc lv st G k n := fun H locs ls hG hL hl => lv_ldc hF.1 hF.2.1 hF.2.2.2.2.1 (hF.2.2.2.2.2.1 _ hw) hd (kk H locs ls hG hL hl)
theorem go_ldc2 (hF : Fb F cc own nL rm) {index : Nat} {v : Int64} (hw : Jvm.Cond.constantLong own index v ∈ gAll) (hd : decode cc pc = .ok (.ldc2_w index, 3)) (kk : Go F (pc + 3) lv (.long v :: st) G k n) : Go F pc lv st G k n := fun H locs ls hG hL hl => lv_ldc2 hF.1 hF.2.1 hF.2.2.2.2.1 (hF.2.2.2.2.2.1 _ hw) hd (kk H locs ls hG hL hl)
theorem go_null (hF : Fb F cc own nL rm) (hd : decode cc pc = .ok (.aconst_null, 1)) (kk : Go F (pc + 1) lv (.null :: st) G k n) : Go F pc lv st G k n := fun H locs ls hG hL hl => lv_null hF.1 hF.2.1 hd (kk H locs ls hG hL hl)
theorem go_iload_n (hF : Fb F cc own nL rm) {j : Fin 4} {x : Int32} (hd : decode cc pc = .ok (.iload_n j, 1)) (hv : lget lv (j : Nat) = some (.int x)) (kk : Go F (pc + 1) lv (.int x :: st) G k n) : Go F pc lv st G k n := fun H locs ls hG hL hl => lv_iload_n hF.1 hF.2.1 hd rfl (lv_get hl hv) (kk H locs ls hG hL hl)
theorem go_iload (hF : Fb F cc own nL rm) {i : Nat} {x : Int32} (hd : decode cc pc = .ok (.iload i, 2)) (hv : lget lv i = some (.int x)) (kk : Go F (pc + 2) lv (.int x :: st) G k n) : Go F pc lv st G k n := fun H locs ls hG hL hl => lv_iload hF.1 hF.2.1 hd (lv_get hl hv) (kk H locs ls hG hL hl)
theorem go_lload_n (hF : Fb F cc own nL rm) {j : Fin 4} {x : Int64} (hd : decode cc pc = .ok (.lload_n j, 1)) (hv : lget lv (j : Nat) = some (.long x)) (kk : Go F (pc + 1) lv (.long x :: st) G k n) : Go F pc lv st G k n := fun H locs ls hG hL hl => lv_lload_n hF.1 hF.2.1 hd rfl (lv_get hl hv) (kk H locs ls hG hL hl)
theorem go_lload (hF : Fb F cc own nL rm) {i : Nat} {x : Int64} (hd : decode cc pc = .ok (.lload i, 2)) (hv : lget lv i = some (.long x)) (kk : Go F (pc + 2) lv (.long x :: st) G k n) : Go F pc lv st G k n := fun H locs ls hG hL hl => lv_lload hF.1 hF.2.1 hd (lv_get hl hv) (kk H locs ls hG hL hl)
theorem go_aload_n (hF : Fb F cc own nL rm) {j : Fin 4} {x : Nat} (hd : decode cc pc = .ok (.aload_n j, 1)) (hv : lget lv (j : Nat) = some (.ref x)) (kk : Go F (pc + 1) lv (.ref x :: st) G k n) : Go F pc lv st G k n := fun H locs ls hG hL hl => lv_aload_n hF.1 hF.2.1 hd rfl (lv_get hl hv) (kk H locs ls hG hL hl)
theorem go_aload (hF : Fb F cc own nL rm) {i : Nat} {x : Nat} (hd : decode cc pc = .ok (.aload i, 2)) (hv : lget lv i = some (.ref x)) (kk : Go F (pc + 2) lv (.ref x :: st) G k n) : Go F pc lv st G k n := fun H locs ls hG hL hl => lv_aload hF.1 hF.2.1 hd (lv_get hl hv) (kk H locs ls hG hL hl)
theorem go_aload_nN (hF : Fb F cc own nL rm) {j : Fin 4} (hd : decode cc pc = .ok (.aload_n j, 1)) (hv : lget lv (j : Nat) = some .null) (kk : Go F (pc + 1) lv (.null :: st) G k n) : Go F pc lv st G k n := fun H locs ls hG hL hl => lv_aload_nN hF.1 hF.2.1 hd rfl (lv_get hl hv) (kk H locs ls hG hL hl)
theorem go_aloadN (hF : Fb F cc own nL rm) {i : Nat} (hd : decode cc pc = .ok (.aload i, 2)) (hv : lget lv i = some .null) (kk : Go F (pc + 2) lv (.null :: st) G k n) : Go F pc lv st G k n := fun H locs ls hG hL hl => lv_aloadN hF.1 hF.2.1 hd (lv_get hl hv) (kk H locs ls hG hL hl)
theorem go_istore_n (hF : Fb F cc own nL rm) {j : Fin 4} {x : Int32} (hd : decode cc pc = .ok (.istore_n j, 1)) (hb : (j : Nat) < nL) (kk : Go F (pc + 1) (lput lv j (.int x)) st G k n) : Go F pc lv (.int x :: st) G k n := fun H locs ls hG hL hl => lv_istore_n hF.1 hF.2.1 hd rfl hl (by rw [hF.2.2.2.1]; exact hb) rfl (fun ls' hl' => kk H locs ls' hG hL hl')
theorem go_istore (hF : Fb F cc own nL rm) {i : Nat} {x : Int32} (hd : decode cc pc = .ok (.istore i, 2)) (hb : i < nL) (kk : Go F (pc + 2) (lput lv i (.int x)) st G k n) : Go F pc lv (.int x :: st) G k n := fun H locs ls hG hL hl => lv_istore hF.1 hF.2.1 hd hl (by rw [hF.2.2.2.1]; exact hb) rfl (fun ls' hl' => kk H locs ls' hG hL hl')
theorem go_lstore_n (hF : Fb F cc own nL rm) {j : Fin 4} {x : Int64} (hd : decode cc pc = .ok (.lstore_n j, 1)) (hb : (j : Nat) + 1 < nL) (kk : Go F (pc + 1) (lput2 lv j (.long x)) st G k n) : Go F pc lv (.long x :: st) G k n := fun H locs ls hG hL hl => lv_lstore_n hF.1 hF.2.1 hd rfl hl (by rw [hF.2.2.2.1]; exact hb) rfl (fun ls' hl' => kk H locs ls' hG hL hl')
theorem go_lstore (hF : Fb F cc own nL rm) {i : Nat} {x : Int64} (hd : decode cc pc = .ok (.lstore i, 2)) (hb : i + 1 < nL) (kk : Go F (pc + 2) (lput2 lv i (.long x)) st G k n) : Go F pc lv (.long x :: st) G k n := fun H locs ls hG hL hl => lv_lstore hF.1 hF.2.1 hd hl (by rw [hF.2.2.2.1]; exact hb) rfl (fun ls' hl' => kk H locs ls' hG hL hl')
theorem go_astore_n (hF : Fb F cc own nL rm) {j : Fin 4} {x : Nat} (hd : decode cc pc = .ok (.astore_n j, 1)) (hb : (j : Nat) < nL) (kk : Go F (pc + 1) (lput lv j (.ref x)) st G k n) : Go F pc lv (.ref x :: st) G k n := fun H locs ls hG hL hl => lv_astore_n hF.1 hF.2.1 hd rfl hl (by rw [hF.2.2.2.1]; exact hb) rfl (fun ls' hl' => kk H locs ls' hG hL hl')
theorem go_astore (hF : Fb F cc own nL rm) {i : Nat} {x : Nat} (hd : decode cc pc = .ok (.astore i, 2)) (hb : i < nL) (kk : Go F (pc + 2) (lput lv i (.ref x)) st G k n) : Go F pc lv (.ref x :: st) G k n := fun H locs ls hG hL hl => lv_astore hF.1 hF.2.1 hd hl (by rw [hF.2.2.2.1]; exact hb) rfl (fun ls' hl' => kk H locs ls' hG hL hl')
theorem lget_idx : ∀ {lv : lvT} {i : Nat} {v : Value}, lget lv i = some v → ∃ k : Nat, lv[k]? = some (i, v) := fun h => List.getElem?_of_mem (lget_mem h)
theorem go_iinc (hF : Fb F cc own nL rm) {i : Nat} {m : Int} {x v : Int32} (hd : decode cc pc = .ok (.iinc i m, 3)) (hx : lget lv i = some (.int x)) (hv : x + Int32.ofInt m = v) (hb : i < nL) (kk : Go F (pc + 3) (lput lv i (.int v)) st G k n) : Go F pc lv st G k n := by
  intro H locs ls hG hL hl
  obtain ⟨q, hq⟩ := lget_idx hx
  exact lv_iinc hF.1 hF.2.1 hd hl hq hv (by rw [hF.2.2.2.1]; exact hb) rfl (fun ls' hl' => kk H locs ls' hG hL hl')
theorem go_iadd (hF : Fb F cc own nL rm) {x y : Int32} (hd : decode cc pc = .ok (.iadd, 1)) (kk : Go F (pc + 1) lv (.int (x + y) :: st) G k n) : Go F pc lv (.int y :: .int x :: st) G k n := fun H locs ls hG hL hl => lv_iadd hF.1 hF.2.1 hd (kk H locs ls hG hL hl)
theorem go_isub (hF : Fb F cc own nL rm) {x y : Int32} (hd : decode cc pc = .ok (.isub, 1)) (kk : Go F (pc + 1) lv (.int (x - y) :: st) G k n) : Go F pc lv (.int y :: .int x :: st) G k n := fun H locs ls hG hL hl => lv_isub hF.1 hF.2.1 hd (kk H locs ls hG hL hl)
theorem go_imul (hF : Fb F cc own nL rm) {x y : Int32} (hd : decode cc pc = .ok (.imul, 1)) (kk : Go F (pc + 1) lv (.int (x * y) :: st) G k n) : Go F pc lv (.int y :: .int x :: st) G k n := fun H locs ls hG hL hl => lv_imul hF.1 hF.2.1 hd (kk H locs ls hG hL hl)
theorem go_iand (hF : Fb F cc own nL rm) {x y : Int32} (hd : decode cc pc = .ok (.iand, 1)) (kk : Go F (pc + 1) lv (.int (x &&& y) :: st) G k n) : Go F pc lv (.int y :: .int x :: st) G k n := fun H locs ls hG hL hl => lv_iand hF.1 hF.2.1 hd (kk H locs ls hG hL hl)
theorem go_ior (hF : Fb F cc own nL rm) {x y : Int32} (hd : decode cc pc = .ok (.ior, 1)) (kk : Go F (pc + 1) lv (.int (x ||| y) :: st) G k n) : Go F pc lv (.int y :: .int x :: st) G k n := fun H locs ls hG hL hl => lv_ior hF.1 hF.2.1 hd (kk H locs ls hG hL hl)
theorem go_ixor (hF : Fb F cc own nL rm) {x y : Int32} (hd : decode cc pc = .ok (.ixor, 1)) (kk : Go F (pc + 1) lv (.int (x ^^^ y) :: st) G k n) : Go F pc lv (.int y :: .int x :: st) G k n := fun H locs ls hG hL hl => lv_ixor hF.1 hF.2.1 hd (kk H locs ls hG hL hl)
theorem go_ladd (hF : Fb F cc own nL rm) {x y : Int64} (hd : decode cc pc = .ok (.ladd, 1)) (kk : Go F (pc + 1) lv (.long (x + y) :: st) G k n) : Go F pc lv (.long y :: .long x :: st) G k n := fun H locs ls hG hL hl => lv_ladd hF.1 hF.2.1 hd (kk H locs ls hG hL hl)
theorem go_lsub (hF : Fb F cc own nL rm) {x y : Int64} (hd : decode cc pc = .ok (.lsub, 1)) (kk : Go F (pc + 1) lv (.long (x - y) :: st) G k n) : Go F pc lv (.long y :: .long x :: st) G k n := fun H locs ls hG hL hl => lv_lsub hF.1 hF.2.1 hd (kk H locs ls hG hL hl)
theorem go_lmul (hF : Fb F cc own nL rm) {x y : Int64} (hd : decode cc pc = .ok (.lmul, 1)) (kk : Go F (pc + 1) lv (.long (x * y) :: st) G k n) : Go F pc lv (.long y :: .long x :: st) G k n := fun H locs ls hG hL hl => lv_lmul hF.1 hF.2.1 hd (kk H locs ls hG hL hl)
theorem go_land (hF : Fb F cc own nL rm) {x y : Int64} (hd : decode cc pc = .ok (.land, 1)) (kk : Go F (pc + 1) lv (.long (x &&& y) :: st) G k n) : Go F pc lv (.long y :: .long x :: st) G k n := fun H locs ls hG hL hl => lv_land hF.1 hF.2.1 hd (kk H locs ls hG hL hl)
theorem go_lor (hF : Fb F cc own nL rm) {x y : Int64} (hd : decode cc pc = .ok (.lor, 1)) (kk : Go F (pc + 1) lv (.long (x ||| y) :: st) G k n) : Go F pc lv (.long y :: .long x :: st) G k n := fun H locs ls hG hL hl => lv_lor hF.1 hF.2.1 hd (kk H locs ls hG hL hl)
theorem go_lxor (hF : Fb F cc own nL rm) {x y : Int64} (hd : decode cc pc = .ok (.lxor, 1)) (kk : Go F (pc + 1) lv (.long (x ^^^ y) :: st) G k n) : Go F pc lv (.long y :: .long x :: st) G k n := fun H locs ls hG hL hl => lv_lxor hF.1 hF.2.1 hd (kk H locs ls hG hL hl)
theorem go_idiv (hF : Fb F cc own nL rm) {x y : Int32} (hd : decode cc pc = .ok (.idiv, 1)) (hy : ¬ y = 0) (kk : Go F (pc + 1) lv (.int (x / y) :: st) G k n) : Go F pc lv (.int y :: .int x :: st) G k n := fun H locs ls hG hL hl => lv_idiv hF.1 hF.2.1 hd hy (kk H locs ls hG hL hl)
theorem go_irem (hF : Fb F cc own nL rm) {x y : Int32} (hd : decode cc pc = .ok (.irem, 1)) (hy : ¬ y = 0) (kk : Go F (pc + 1) lv (.int (x - x / y * y) :: st) G k n) : Go F pc lv (.int y :: .int x :: st) G k n := fun H locs ls hG hL hl => lv_irem hF.1 hF.2.1 hd hy (kk H locs ls hG hL hl)
theorem go_ldiv (hF : Fb F cc own nL rm) {x y : Int64} (hd : decode cc pc = .ok (.ldiv, 1)) (hy : ¬ y = 0) (kk : Go F (pc + 1) lv (.long (x / y) :: st) G k n) : Go F pc lv (.long y :: .long x :: st) G k n := fun H locs ls hG hL hl => lv_ldiv hF.1 hF.2.1 hd hy (kk H locs ls hG hL hl)
theorem go_lrem (hF : Fb F cc own nL rm) {x y : Int64} (hd : decode cc pc = .ok (.lrem, 1)) (hy : ¬ y = 0) (kk : Go F (pc + 1) lv (.long (x - x / y * y) :: st) G k n) : Go F pc lv (.long y :: .long x :: st) G k n := fun H locs ls hG hL hl => lv_lrem hF.1 hF.2.1 hd hy (kk H locs ls hG hL hl)
theorem go_ineg (hF : Fb F cc own nL rm) {x : Int32} (hd : decode cc pc = .ok (.ineg, 1)) (kk : Go F (pc + 1) lv (.int (-x) :: st) G k n) : Go F pc lv (.int x :: st) G k n := fun H locs ls hG hL hl => lv_ineg hF.1 hF.2.1 hd (kk H locs ls hG hL hl)
theorem go_lneg (hF : Fb F cc own nL rm) {x : Int64} (hd : decode cc pc = .ok (.lneg, 1)) (kk : Go F (pc + 1) lv (.long (-x) :: st) G k n) : Go F pc lv (.long x :: st) G k n := fun H locs ls hG hL hl => lv_lneg hF.1 hF.2.1 hd (kk H locs ls hG hL hl)
theorem go_i2l (hF : Fb F cc own nL rm) {x : Int32} (hd : decode cc pc = .ok (.i2l, 1)) (kk : Go F (pc + 1) lv (.long x.toInt64 :: st) G k n) : Go F pc lv (.int x :: st) G k n := fun H locs ls hG hL hl => lv_i2l hF.1 hF.2.1 hd rfl (kk H locs ls hG hL hl)
theorem go_l2i (hF : Fb F cc own nL rm) {x : Int64} (hd : decode cc pc = .ok (.l2i, 1)) (kk : Go F (pc + 1) lv (.int x.toInt32 :: st) G k n) : Go F pc lv (.long x :: st) G k n := fun H locs ls hG hL hl => lv_l2i hF.1 hF.2.1 hd rfl (kk H locs ls hG hL hl)
theorem go_lshl (hF : Fb F cc own nL rm) {x : Int64} {y : Int32} (hd : decode cc pc = .ok (.lshl, 1)) (kk : Go F (pc + 1) lv (.long (x <<< (y.toInt64 &&& 63)) :: st) G k n) : Go F pc lv (.int y :: .long x :: st) G k n := fun H locs ls hG hL hl => lv_lshl hF.1 hF.2.1 hd rfl (kk H locs ls hG hL hl)
theorem go_lcmp (hF : Fb F cc own nL rm) {x y : Int64} (hd : decode cc pc = .ok (.lcmp, 1)) (kk : Go F (pc + 1) lv (.int (lg_cmp x y) :: st) G k n) : Go F pc lv (.long y :: .long x :: st) G k n := fun H locs ls hG hL hl => W.lcmp hF.1 hF.2.1 hd (kk H locs ls hG hL hl)
theorem go_dup (hF : Fb F cc own nL rm) {a : Value} (hd : decode cc pc = .ok (.dup, 1)) (h1 : a.category = 1) (kk : Go F (pc + 1) lv (a :: a :: st) G k n) : Go F pc lv (a :: st) G k n := fun H locs ls hG hL hl => lv_dup hF.1 hF.2.1 hd h1 (kk H locs ls hG hL hl)
theorem go_pop (hF : Fb F cc own nL rm) {a : Value} (hd : decode cc pc = .ok (.pop, 1)) (h1 : a.category = 1) (kk : Go F (pc + 1) lv st G k n) : Go F pc lv (a :: st) G k n := fun H locs ls hG hL hl => lv_pop hF.1 hF.2.1 hd h1 (kk H locs ls hG hL hl)
theorem go_dup_x1 (hF : Fb F cc own nL rm) {a b : Value} (hd : decode cc pc = .ok (.dup_x1, 1)) (h1 : a.category = 1) (h2 : b.category = 1) (kk : Go F (pc + 1) lv (a :: b :: a :: st) G k n) : Go F pc lv (a :: b :: st) G k n := fun H locs ls hG hL hl => lv_dup_x1 hF.1 hF.2.1 hd h1 h2 (kk H locs ls hG hL hl)
theorem go_dup_x2 (hF : Fb F cc own nL rm) {a b d : Value} (hd : decode cc pc = .ok (.dup_x2, 1)) (h1 : a.category = 1) (h2 : b.category = 1) (h3 : d.category = 1) (kk : Go F (pc + 1) lv (a :: b :: d :: a :: st) G k n) : Go F pc lv (a :: b :: d :: st) G k n := fun H locs ls hG hL hl => lv_dup_x2 hF.1 hF.2.1 hd h1 h2 h3 (kk H locs ls hG hL hl)
theorem go_dup2 (hF : Fb F cc own nL rm) {a b : Value} (hd : decode cc pc = .ok (.dup2, 1)) (h1 : a.category = 1) (h2 : b.category = 1) (kk : Go F (pc + 1) lv (a :: b :: a :: b :: st) G k n) : Go F pc lv (a :: b :: st) G k n := fun H locs ls hG hL hl => lv_dup2_11 hF.1 hF.2.1 hd h1 h2 (kk H locs ls hG hL hl)
theorem go_if_eq (hF : Fb F cc own nL rm) {x : Int32} {off : Int} {tgt : Nat} (hd : decode cc pc = .ok (.ifCond .eq off, 3)) (ht : (pc : Int) + off = (tgt : Int)) (kt : x = 0 → Go F tgt lv st G k n) (kf : ¬ (x = 0) → Go F (pc + 3) lv st G k n) : Go F pc lv (.int x :: st) G k n := fun H locs ls hG hL hl => lv_if_eq hF.1 hF.2.1 hd ht (fun h => kt h H locs ls hG hL hl) (fun h => kf h H locs ls hG hL hl)
theorem go_icmp_eq (hF : Fb F cc own nL rm) {x y : Int32} {off : Int} {tgt : Nat} (hd : decode cc pc = .ok (.if_icmp .eq off, 3)) (ht : (pc : Int) + off = (tgt : Int)) (kt : x = y → Go F tgt lv st G k n) (kf : ¬ (x = y) → Go F (pc + 3) lv st G k n) : Go F pc lv (.int y :: .int x :: st) G k n := fun H locs ls hG hL hl => lv_icmp_eq hF.1 hF.2.1 hd ht (fun h => kt h H locs ls hG hL hl) (fun h => kf h H locs ls hG hL hl)
theorem go_if_ne (hF : Fb F cc own nL rm) {x : Int32} {off : Int} {tgt : Nat} (hd : decode cc pc = .ok (.ifCond .ne off, 3)) (ht : (pc : Int) + off = (tgt : Int)) (kt : ¬ x = 0 → Go F tgt lv st G k n) (kf : x = 0 → Go F (pc + 3) lv st G k n) : Go F pc lv (.int x :: st) G k n := fun H locs ls hG hL hl => lv_if_ne hF.1 hF.2.1 hd ht (fun h => kt h H locs ls hG hL hl) (fun h => kf h H locs ls hG hL hl)
theorem go_icmp_ne (hF : Fb F cc own nL rm) {x y : Int32} {off : Int} {tgt : Nat} (hd : decode cc pc = .ok (.if_icmp .ne off, 3)) (ht : (pc : Int) + off = (tgt : Int)) (kt : ¬ x = y → Go F tgt lv st G k n) (kf : x = y → Go F (pc + 3) lv st G k n) : Go F pc lv (.int y :: .int x :: st) G k n := fun H locs ls hG hL hl => lv_icmp_ne hF.1 hF.2.1 hd ht (fun h => kt h H locs ls hG hL hl) (fun h => kf h H locs ls hG hL hl)
theorem go_if_lt (hF : Fb F cc own nL rm) {x : Int32} {off : Int} {tgt : Nat} (hd : decode cc pc = .ok (.ifCond .lt off, 3)) (ht : (pc : Int) + off = (tgt : Int)) (kt : x < 0 → Go F tgt lv st G k n) (kf : ¬ (x < 0) → Go F (pc + 3) lv st G k n) : Go F pc lv (.int x :: st) G k n := fun H locs ls hG hL hl => lv_if_lt hF.1 hF.2.1 hd ht (fun h => kt h H locs ls hG hL hl) (fun h => kf h H locs ls hG hL hl)
theorem go_icmp_lt (hF : Fb F cc own nL rm) {x y : Int32} {off : Int} {tgt : Nat} (hd : decode cc pc = .ok (.if_icmp .lt off, 3)) (ht : (pc : Int) + off = (tgt : Int)) (kt : x < y → Go F tgt lv st G k n) (kf : ¬ (x < y) → Go F (pc + 3) lv st G k n) : Go F pc lv (.int y :: .int x :: st) G k n := fun H locs ls hG hL hl => lv_icmp_lt hF.1 hF.2.1 hd ht (fun h => kt h H locs ls hG hL hl) (fun h => kf h H locs ls hG hL hl)
theorem go_if_ge (hF : Fb F cc own nL rm) {x : Int32} {off : Int} {tgt : Nat} (hd : decode cc pc = .ok (.ifCond .ge off, 3)) (ht : (pc : Int) + off = (tgt : Int)) (kt : 0 ≤ x → Go F tgt lv st G k n) (kf : ¬ (0 ≤ x) → Go F (pc + 3) lv st G k n) : Go F pc lv (.int x :: st) G k n := fun H locs ls hG hL hl => lv_if_ge hF.1 hF.2.1 hd ht (fun h => kt h H locs ls hG hL hl) (fun h => kf h H locs ls hG hL hl)
theorem go_icmp_ge (hF : Fb F cc own nL rm) {x y : Int32} {off : Int} {tgt : Nat} (hd : decode cc pc = .ok (.if_icmp .ge off, 3)) (ht : (pc : Int) + off = (tgt : Int)) (kt : y ≤ x → Go F tgt lv st G k n) (kf : ¬ (y ≤ x) → Go F (pc + 3) lv st G k n) : Go F pc lv (.int y :: .int x :: st) G k n := fun H locs ls hG hL hl => lv_icmp_ge hF.1 hF.2.1 hd ht (fun h => kt h H locs ls hG hL hl) (fun h => kf h H locs ls hG hL hl)
theorem go_if_gt (hF : Fb F cc own nL rm) {x : Int32} {off : Int} {tgt : Nat} (hd : decode cc pc = .ok (.ifCond .gt off, 3)) (ht : (pc : Int) + off = (tgt : Int)) (kt : 0 < x → Go F tgt lv st G k n) (kf : ¬ (0 < x) → Go F (pc + 3) lv st G k n) : Go F pc lv (.int x :: st) G k n := fun H locs ls hG hL hl => lv_if_gt hF.1 hF.2.1 hd ht (fun h => kt h H locs ls hG hL hl) (fun h => kf h H locs ls hG hL hl)
theorem go_icmp_gt (hF : Fb F cc own nL rm) {x y : Int32} {off : Int} {tgt : Nat} (hd : decode cc pc = .ok (.if_icmp .gt off, 3)) (ht : (pc : Int) + off = (tgt : Int)) (kt : y < x → Go F tgt lv st G k n) (kf : ¬ (y < x) → Go F (pc + 3) lv st G k n) : Go F pc lv (.int y :: .int x :: st) G k n := fun H locs ls hG hL hl => lv_icmp_gt hF.1 hF.2.1 hd ht (fun h => kt h H locs ls hG hL hl) (fun h => kf h H locs ls hG hL hl)
theorem go_if_le (hF : Fb F cc own nL rm) {x : Int32} {off : Int} {tgt : Nat} (hd : decode cc pc = .ok (.ifCond .le off, 3)) (ht : (pc : Int) + off = (tgt : Int)) (kt : x ≤ 0 → Go F tgt lv st G k n) (kf : ¬ (x ≤ 0) → Go F (pc + 3) lv st G k n) : Go F pc lv (.int x :: st) G k n := fun H locs ls hG hL hl => lv_if_le hF.1 hF.2.1 hd ht (fun h => kt h H locs ls hG hL hl) (fun h => kf h H locs ls hG hL hl)
theorem go_icmp_le (hF : Fb F cc own nL rm) {x y : Int32} {off : Int} {tgt : Nat} (hd : decode cc pc = .ok (.if_icmp .le off, 3)) (ht : (pc : Int) + off = (tgt : Int)) (kt : x ≤ y → Go F tgt lv st G k n) (kf : ¬ (x ≤ y) → Go F (pc + 3) lv st G k n) : Go F pc lv (.int y :: .int x :: st) G k n := fun H locs ls hG hL hl => lv_icmp_le hF.1 hF.2.1 hd ht (fun h => kt h H locs ls hG hL hl) (fun h => kf h H locs ls hG hL hl)
theorem go_goto (hF : Fb F cc own nL rm) {off : Int} {tgt : Nat} (hd : decode cc pc = .ok (.goto off, 3)) (ht : (pc : Int) + off = (tgt : Int)) (kk : Go F tgt lv st G k n) : Go F pc lv st G k n := fun H locs ls hG hL hl => lv_goto hF.1 hF.2.1 hd ht (kk H locs ls hG hL hl)
theorem go_ifnull (hF : Fb F cc own nL rm) {x : Nat} {off : Int} (hd : decode cc pc = .ok (.ifnull off, 3)) (kk : Go F (pc + 3) lv st G k n) : Go F pc lv (.ref x :: st) G k n := fun H locs ls hG hL hl => lv_ifnull hF.1 hF.2.1 hd (kk H locs ls hG hL hl)
theorem go_ifnullN (hF : Fb F cc own nL rm) {off : Int} {tgt : Nat} (hd : decode cc pc = .ok (.ifnull off, 3)) (ht : (pc : Int) + off = (tgt : Int)) (kk : Go F tgt lv st G k n) : Go F pc lv (.null :: st) G k n := fun H locs ls hG hL hl => lv_ifnullN hF.1 hF.2.1 hd ht (kk H locs ls hG hL hl)
theorem go_ifnonnull (hF : Fb F cc own nL rm) {x : Nat} {off : Int} {tgt : Nat} (hd : decode cc pc = .ok (.ifnonnull off, 3)) (ht : (pc : Int) + off = (tgt : Int)) (kk : Go F tgt lv st G k n) : Go F pc lv (.ref x :: st) G k n := fun H locs ls hG hL hl => lv_ifnonnull hF.1 hF.2.1 hd ht (kk H locs ls hG hL hl)
theorem go_ifnonnullN (hF : Fb F cc own nL rm) {off : Int} (hd : decode cc pc = .ok (.ifnonnull off, 3)) (kk : Go F (pc + 3) lv st G k n) : Go F pc lv (.null :: st) G k n := fun H locs ls hG hL hl => lv_ifnonnullN hF.1 hF.2.1 hd (kk H locs ls hG hL hl)
theorem go_lookup (hF : Fb F cc own nL rm) {dflt : Int} {ps : Array (Int × Int)} {len : Nat} {x : Int32} {off : Int} {tgt : Nat} (hd : decode cc pc = .ok (.lookupswitch dflt ps, len)) (hp : (ps.toList.zip (ps.toList.drop 1)).all (fun (a, next) => a.1 < next.1) = true) (ho : Op.lookupswitch.offset ps.toList dflt x.toInt = off) (ht : (pc : Int) + off = (tgt : Int)) (kk : Go F tgt lv st G k n) : Go F pc lv (.int x :: st) G k n := fun H locs ls hG hL hl => lv_lookup hF.1 hF.2.1 hd hp ho ht (kk H locs ls hG hL hl)
theorem go_tableOut (hF : Fb F cc own nL rm) {dflt lo hi : Int} {offs : Array Int} {len : Nat} {x : Int32} {tgt : Nat} (hd : decode cc pc = .ok (.tableswitch dflt lo hi offs, len)) (h : x.toInt < lo ∨ hi < x.toInt) (ht : (pc : Int) + dflt = (tgt : Int)) (kk : Go F tgt lv st G k n) : Go F pc lv (.int x :: st) G k n := fun H locs ls hG hL hl => lv_tableOut hF.1 hF.2.1 hd h ht (kk H locs ls hG hL hl)
theorem go_tableIn (hF : Fb F cc own nL rm) {dflt lo hi : Int} {offs : Array Int} {len : Nat} {x : Int32} {off : Int} {tgt : Nat} (hd : decode cc pc = .ok (.tableswitch dflt lo hi offs, len)) (h1 : ¬ x.toInt < lo) (h2 : ¬ hi < x.toInt) (ho : offs[(x.toInt - lo).toNat]? = some off) (ht : (pc : Int) + off = (tgt : Int)) (kk : Go F tgt lv st G k n) : Go F pc lv (.int x :: st) G k n := fun H locs ls hG hL hl => lv_tableIn hF.1 hF.2.1 hd h1 h2 ho ht (kk H locs ls hG hL hl)
variable {Q : Option Value → Heap → Prop} {X : String → Heap → Prop} {mc ms : Nat}
theorem go_iret (hF : Fb F cc own nL rm) (hM : Fm F (some .int) Q X mc ms) {v : Int32} (hd : decode cc pc = .ok (.ireturn, 1)) (hk : k ≤ mc) (hn : n ≤ ms) (hq : ∀ H, G H → Q (some (.int v)) H) : Go F pc lv [.int v] G k n := by
  intro H locs ls hG hL hl
  rw [hM.2]
  exact W.widen hk hn (w_mono (fun t => mq_z) (W.iret hF.1 hF.2.1 hM.1 (fun t ht hW => ⟨_, rfl, by rw [ht]; exact hq H hG⟩) hL hd hF.2.2.2.2.2.2.1))
theorem go_zret (hF : Fb F cc own nL rm) (hM : Fm F (some .boolean) Q X mc ms) {v : Int32} (hd : decode cc pc = .ok (.ireturn, 1)) (hb : narrow .boolean (.int v) = .int v) (hk : k ≤ mc) (hn : n ≤ ms) (hq : ∀ H, G H → Q (some (.int v)) H) : Go F pc lv [.int v] G k n := by
  intro H locs ls hG hL hl
  rw [hM.2]
  exact W.widen hk hn (w_mono (fun t => mq_z) (W.zret hF.1 hF.2.1 hM.1 hb (fun t ht hW => ⟨_, rfl, by rw [ht]; exact hq H hG⟩) hL hd hF.2.2.2.2.2.2.1))
theorem go_lret (hF : Fb F cc own nL rm) (hM : Fm F (some .long) Q X mc ms) {v : Int64} (hd : decode cc pc = .ok (.lreturn, 1)) (hk : k ≤ mc) (hn : n ≤ ms) (hq : ∀ H, G H → Q (some (.long v)) H) : Go F pc lv [.long v] G k n := by
  intro H locs ls hG hL hl
  rw [hM.2]
  exact W.widen hk hn (w_mono (fun t => mq_z) (W.lret hF.1 hF.2.1 hM.1 (fun t ht hW => ⟨_, rfl, by rw [ht]; exact hq H hG⟩) hL hd hF.2.2.2.2.2.2.1))
theorem go_vret (hF : Fb F cc own nL rm) (hM : Fm F none Q X mc ms) (hd : decode cc pc = .ok (.return_, 1)) (hk : k ≤ mc) (hn : n ≤ ms) (hq : ∀ H, G H → Q none H) : Go F pc lv [] G k n := by
  intro H locs ls hG hL hl
  rw [hM.2]
  exact W.widen hk hn (w_mono (fun t => mq_z) (W.vret hF.1 hF.2.1 hM.1 (fun t ht hW => ⟨_, rfl, by rw [ht]; exact hq H hG⟩) hL hd hF.2.2.2.2.2.2.1))
end GO
end
section
/-! THE WORLD: objects lie in BLOCKS (a kind κ and a number ι), each at an address of its own; a block's REGIONS (r) are objects of one
class or one array, at fixed distances. What they hold (wdT): ints wI, longs wL, pointers wP, by block, region, field (0 for arrays), index.
Where they lie: B (a block's address) and N: which blocks there are, the cells that belong to no block (yet), the heap's size.
'sch κ' (the regions of a block of kind κ), 'bln κ' (its length), atyL (the arrays' element types) and rows on them stand ahead of this part. -/
abbrev wdT : Type := (Nat → Nat → Nat → Nat → Nat → Int32) × (Nat → Nat → Nat → Nat → Nat → Int64) × (Nat → Nat → Nat → Nat → Nat → Option Nat)
abbrev bsT : Type := Nat → Nat → Nat
abbrev nwT : Type := (Nat → Nat → Bool) × (Nat → Option va_E) × Nat
abbrev wI (w : wdT) : Nat → Nat → Nat → Nat → Nat → Int32 := w.1
abbrev wL (w : wdT) : Nat → Nat → Nat → Nat → Nat → Int64 := w.2.1
abbrev wP (w : wdT) : Nat → Nat → Nat → Nat → Nat → Option Nat := w.2.2
def up5 {α : Type} (f : Nat → Nat → Nat → Nat → Nat → α) (a b c d e : Nat) (x : α) : Nat → Nat → Nat → Nat → Nat → α := fun a' b' c' d' e' => if a' = a ∧ b' = b ∧ c' = c ∧ d' = d ∧ e' = e then x else f a' b' c' d' e'
def sI (w : wdT) (a b c d e : Nat) (x : Int32) : wdT := (up5 w.1 a b c d e x, w.2)
def sL (w : wdT) (a b c d e : Nat) (x : Int64) : wdT := (w.1, up5 w.2.1 a b c d e x, w.2.2)
def sP (w : wdT) (a b c d e : Nat) (x : Option Nat) : wdT := (w.1, w.2.1, up5 w.2.2 a b c d e x)
theorem up5_same {α : Type} (f : Nat → Nat → Nat → Nat → Nat → α) (a b c d e : Nat) (x : α) : up5 f a b c d e x a b c d e = x := if_pos ⟨rfl, rfl, rfl, rfl, rfl⟩
theorem up5_ne {α : Type} (f : Nat → Nat → Nat → Nat → Nat → α) {a b c d e a' b' c' d' e' : Nat} (x : α) (h : ¬ (a' = a ∧ b' = b ∧ c' = c ∧ d' = d ∧ e' = e)) : up5 f a b c d e x a' b' c' d' e' = f a' b' c' d' e' := if_neg h
/-- how far from its block's beginning a region lies -/
def rof (κ r : Nat) : Nat := ((sch κ).getD r (0, 0, .inl (0, []))).1
def ad (B : bsT) (κ ι r i : Nat) : Nat := B κ ι + rof κ r + i
/-- where a fixed reference points: the same block (0: the region's first, 1: its own index), or the first block of another kind -/
def tgt (B : bsT) (κ ι i : Nat) (t : Nat × Nat) : Nat := match t.2 with
  | 0 => ad B κ ι t.1 0
  | 1 => ad B κ ι t.1 i
  | κ' + 2 => ad B κ' 0 t.1 0
def fv (B : bsT) (w : wdT) (κ ι r i k : Nat) (c : kdT) : Value := match c.1 with
  | 0 => .int (wI w κ ι r k i)
  | 1 => .long (wL w κ ι r k i)
  | 2 => va_rf (wP w κ ι r k i)
  | _ => .ref (tgt B κ ι i c.2)
def fvs (B : bsT) (w : wdT) (κ ι r i : Nat) : Nat → List kdT → List Value
  | _, [] => []
  | k, c :: t => fv B w κ ι r i k c :: fvs B w κ ι r i (k + 1) t
def avs (B : bsT) (w : wdT) (κ ι r : Nat) (c : kdT) : (Nat → Int32) ⊕ (Nat → Int64) ⊕ (Nat → UInt32) ⊕ (Nat → UInt64) ⊕ (Nat → Option Nat) := match c.1 with
  | 0 => .inl (fun i => wI w κ ι r 0 i)
  | 1 => .inr (.inl (fun i => wL w κ ι r 0 i))
  | 2 => .inr (.inr (.inr (.inr (fun i => wP w κ ι r 0 i))))
  | _ => .inr (.inr (.inr (.inr (fun i => some (ad B κ ι c.2.1 i)))))
abbrev gE : Type := va_G × List (ClassId × FieldType) × Heap
def aty (E : gE) (t : Nat) : ClassId := (E.2.1.getD t (0, .int)).1
def cel (E : gE) (B : bsT) (w : wdT) (κ ι r : Nat) (b : rbT) (i : Nat) : va_E := match b with
  | .inl o => .inr (o.1, fvs B w κ ι r i 0 o.2)
  | .inr a => .inl (aty E a.1, a.2.1, avs B w κ ι r a.2.2)
def wfw (E : gE) (B : bsT) (N : nwT) : Prop :=
  (∀ κ ι, N.1 κ ι = true → E.2.2.size ≤ B κ ι ∧ B κ ι + bln κ ≤ N.2.2) ∧
  (∀ κ ι κ' ι', N.1 κ ι = true → N.1 κ' ι' = true → ¬ (κ = κ' ∧ ι = ι') → B κ ι + bln κ ≤ B κ' ι' ∨ B κ' ι' + bln κ' ≤ B κ ι) ∧
  (∀ a e κ ι, N.2.1 a = some e → N.1 κ ι = true → a < B κ ι ∨ B κ ι + bln κ ≤ a)
def gw (E : gE) (B : bsT) (N : nwT) (w : wdT) (H : Heap) : Prop :=
  (E.2.2.size ≤ H.size ∧ ∀ q : Nat, q < E.2.2.size → H[q]? = E.2.2[q]?) ∧ H.size = N.2.2 ∧
  (∀ (κ ι r : Nat) (g : rgT) (i : Nat), N.1 κ ι = true → (sch κ)[r]? = some g → i < g.2.1 → va_at E.1 vwCl (ad B κ ι r i, cel E B w κ ι r g.2.2 i) H) ∧
  (∀ (a : Nat) (e : va_E), N.2.1 a = some e → E.2.2.size ≤ a ∧ va_at E.1 vwCl (a, e) H) ∧ wfw E B N
theorem rof_of {κ r : Nat} {g : rgT} (h : (sch κ)[r]? = some g) : rof κ r = g.1 := by
  unfold rof
  rw [List.getD_eq_getElem?_getD, h]
  rfl
/-- places in blocks are apart -/
theorem ad_inj {E : gE} {B : bsT} {N : nwT} (hw : wfw E B N) {κ ι r i κ' ι' r' i' : Nat} {g g' : rgT} (ho : N.1 κ ι = true) (ho' : N.1 κ' ι' = true) (hg : (sch κ)[r]? = some g) (hg' : (sch κ')[r']? = some g') (hi : i < g.2.1) (hi' : i' < g'.2.1)
    (e : ad B κ ι r i = ad B κ' ι' r' i') : κ = κ' ∧ ι = ι' ∧ r = r' ∧ i = i' := by
  unfold ad at e
  rw [rof_of hg, rof_of hg'] at e
  have h1 := sch_len κ r g hg
  have h2 := sch_len κ' r' g' hg'
  by_cases hb : κ = κ' ∧ ι = ι'
  · obtain ⟨rfl, rfl⟩ := hb
    by_cases hr : r = r'
    · subst hr
      cases hg.symm.trans hg'
      exact ⟨rfl, rfl, rfl, by omega⟩
    · have h3 := sch_apart κ r r' g g' hg hg' hr
      omega
  · have h4 := hw.2.1 κ ι κ' ι' ho ho' hb
    omega
theorem ad_lo {E : gE} {B : bsT} {N : nwT} (hw : wfw E B N) {κ ι r i : Nat} (ho : N.1 κ ι = true) : E.2.2.size ≤ ad B κ ι r i := by
  have h := (hw.1 κ ι ho).1
  unfold ad
  omega
theorem ad_ov {E : gE} {B : bsT} {N : nwT} (hw : wfw E B N) {κ ι r i : Nat} {g : rgT} {a : Nat} {e : va_E} (ho : N.1 κ ι = true) (hg : (sch κ)[r]? = some g) (hi : i < g.2.1) (ha : N.2.1 a = some e) : ad B κ ι r i ≠ a := by
  have h := hw.2.2 a e κ ι ha ho
  have h1 := sch_len κ r g hg
  unfold ad
  rw [rof_of hg]
  omega
theorem fvs_len (B : bsT) (w : wdT) (κ ι r i : Nat) : ∀ (k : Nat) (fs : List kdT), (fvs B w κ ι r i k fs).length = fs.length
  | _, [] => rfl
  | k, c :: t => by simp [fvs, fvs_len B w κ ι r i (k + 1) t]
theorem fvs_at (B : bsT) (w : wdT) (κ ι r i : Nat) : ∀ (k q : Nat) (fs : List kdT) (c : kdT), fs[q]? = some c → (fvs B w κ ι r i k fs)[q]? = some (fv B w κ ι r i (k + q) c)
  | k, 0, c :: t, c', h => by
    simp at h
    subst h
    simp [fvs]
  | k, q + 1, c :: t, c', h => by
    have h' : t[q]? = some c' := by simpa using h
    have := fvs_at B w κ ι r i (k + 1) q t c' h'
    simp only [fvs, List.getElem?_cons_succ]
    rw [this]
    congr 2
    omega
  | k, q, [], c', h => by simp at h
/-- the fields of an object elsewhere don't hear of it -/
theorem fvs_cong {B : bsT} {w w' : wdT} {κ ι r i : Nat} (h : ∀ (k : Nat) (c : kdT), fv B w' κ ι r i k c = fv B w κ ι r i k c) : ∀ (k : Nat) (fs : List kdT), fvs B w' κ ι r i k fs = fvs B w κ ι r i k fs
  | _, [] => rfl
  | k, c :: t => by simp only [fvs]; rw [h k c, fvs_cong h (k + 1) t]
theorem fvs_set {B : bsT} {w w' : wdT} {κ ι r i : Nat} {v : Value} {q : Nat} (hn : ∀ (k : Nat) (c : kdT), k ≠ q → fv B w' κ ι r i k c = fv B w κ ι r i k c) :
    ∀ (k p : Nat) (fs : List kdT) (c : kdT), fs[p]? = some c → k + p = q → fv B w' κ ι r i q c = v → fvs B w' κ ι r i k fs = (fvs B w κ ι r i k fs).set p v
  | k, 0, c :: t, c', h, e, hv => by
    simp at h
    subst h
    have : k = q := by omega
    subst this
    have ht : ∀ (k' : Nat) (fs : List kdT), k < k' → fvs B w' κ ι r i k' fs = fvs B w κ ι r i k' fs := by
      intro k' fs
      induction fs generalizing k' with
      | nil => intro _; rfl
      | cons a b ih => intro hk; simp only [fvs]; rw [hn k' a (by omega), ih (k' + 1) (by omega)]
    simp only [fvs, List.set_cons_zero]
    rw [hv, ht (k + 1) t (by omega)]
  | k, p + 1, c :: t, c', h, e, hv => by
    have h' : t[p]? = some c' := by simpa using h
    simp only [fvs, List.set_cons_succ]
    rw [hn k c (by omega), fvs_set hn (k + 1) p t c' h' (by omega) hv]
  | k, p, [], c', h, _, _ => by simp at h
/-- two worlds that differ at most in region r of block κ ι, at the indices J -/
def agr (w w' : wdT) (κ ι r : Nat) (J : Nat → Prop) : Prop :=
  ∀ κ' ι' r' k' i' : Nat, ¬ (κ' = κ ∧ ι' = ι ∧ r' = r ∧ J i') → wI w' κ' ι' r' k' i' = wI w κ' ι' r' k' i' ∧ wL w' κ' ι' r' k' i' = wL w κ' ι' r' k' i' ∧ wP w' κ' ι' r' k' i' = wP w κ' ι' r' k' i'
theorem fv_agr {B : bsT} {w w' : wdT} {κ ι r : Nat} {J : Nat → Prop} (h : agr w w' κ ι r J) {κ' ι' r' i' : Nat} (hn : ¬ (κ' = κ ∧ ι' = ι ∧ r' = r ∧ J i')) (k : Nat) (c : kdT) : fv B w' κ' ι' r' i' k c = fv B w κ' ι' r' i' k c := by
  obtain ⟨h1, h2, h3⟩ := h κ' ι' r' k i' hn
  unfold fv
  split
  · rw [h1]
  · rw [h2]
  · rw [h3]
  · rfl
theorem cel_agr {E : gE} {B : bsT} {w w' : wdT} {κ ι r : Nat} {J : Nat → Prop} (h : agr w w' κ ι r J) {κ' ι' r' : Nat} (hn : ¬ (κ' = κ ∧ ι' = ι ∧ r' = r)) (b : rbT) (i' : Nat) : cel E B w' κ' ι' r' b i' = cel E B w κ' ι' r' b i' := by
  have hn' : ∀ i, ¬ (κ' = κ ∧ ι' = ι ∧ r' = r ∧ J i) := fun i q => hn ⟨q.1, q.2.1, q.2.2.1⟩
  cases b with
  | inl o =>
    unfold cel
    simp only
    rw [fvs_cong (fun k c => fv_agr h (hn' i') k c)]
  | inr a =>
    have e : avs B w' κ' ι' r' a.2.2 = avs B w κ' ι' r' a.2.2 := by
      unfold avs
      split
      · exact congrArg Sum.inl (funext fun i => (h κ' ι' r' 0 i (hn' i)).1)
      · exact congrArg (fun f => Sum.inr (Sum.inl f)) (funext fun i => (h κ' ι' r' 0 i (hn' i)).2.1)
      · exact congrArg (fun f => Sum.inr (Sum.inr (Sum.inr (Sum.inr f)))) (funext fun i => (h κ' ι' r' 0 i (hn' i)).2.2)
      · rfl
    unfold cel
    simp only
    rw [e]
theorem cel_agr_obj {E : gE} {B : bsT} {w w' : wdT} {κ ι r : Nat} {J : Nat → Prop} (h : agr w w' κ ι r J) {i' : Nat} (hJ : ¬ J i') (o : Nat × List kdT) : cel E B w' κ ι r (.inl o) i' = cel E B w κ ι r (.inl o) i' := by
  unfold cel
  simp only
  rw [fvs_cong (fun k c => fv_agr h (fun q => hJ q.2.2.2) k c)]
/-- a write into one cell of one block -/
theorem gw_put {E : gE} {B : bsT} {N : nwT} {w w' : wdT} {H H' : Heap} {κ ι r i : Nat} {g : rgT} {J : Nat → Prop} (hg : gw E B N w H) (ho : N.1 κ ι = true) (hr : (sch κ)[r]? = some g) (hi : i < g.2.1) (ha : agr w w' κ ι r J)
    (hJ : ∀ i', i' < g.2.1 → i' ≠ i → cel E B w' κ ι r g.2.2 i' = cel E B w κ ι r g.2.2 i')
    (hz : H'.size = H.size) (hq : ∀ q : Nat, q ≠ ad B κ ι r i → H'[q]? = H[q]?) (hc : va_at E.1 vwCl (ad B κ ι r i, cel E B w' κ ι r g.2.2 i) H') : gw E B N w' H' := by
  obtain ⟨⟨g0, g1⟩, g2, g3, g4, g5⟩ := hg
  refine ⟨⟨by rw [hz]; exact g0, fun q h => ?_⟩, by rw [hz, g2], ?_, ?_, g5⟩
  · rw [hq q (fun e => by have := ad_lo (r := r) (i := i) g5 ho; omega)]
    exact g1 q h
  · intro κ' ι' r' g' i' ho' hr' hi'
    by_cases he : κ' = κ ∧ ι' = ι ∧ r' = r
    · obtain ⟨rfl, rfl, rfl⟩ := he
      cases hr.symm.trans hr'
      by_cases hii : i' = i
      · subst hii
        exact hc
      · rw [hJ i' hi' hii]
        exact (g3 κ' ι' r' g i' ho hr hi').kept (hq _ (fun e => hii (ad_inj g5 ho ho hr hr hi' hi e).2.2.2))
    · rw [cel_agr ha he]
      exact (g3 κ' ι' r' g' i' ho' hr' hi').kept (hq _ (fun e => he (by obtain ⟨e1, e2, e3, -⟩ := ad_inj g5 ho' ho hr' hr hi' hi e; exact ⟨e1, e2, e3⟩)))
  · intro a e' hae
    obtain ⟨q1, q2⟩ := g4 a e' hae
    exact ⟨q1, q2.kept (hq a (fun z => ad_ov g5 ho hr hi hae z.symm))⟩
theorem agr_sI (w : wdT) (κ ι r k i : Nat) (x : Int32) : agr w (sI w κ ι r k i x) κ ι r (fun q => q = i) :=
  fun κ' ι' r' k' i' h => ⟨up5_ne _ _ (fun q => h ⟨q.1, q.2.1, q.2.2.1, q.2.2.2.2⟩), rfl, rfl⟩
theorem agr_sL (w : wdT) (κ ι r k i : Nat) (x : Int64) : agr w (sL w κ ι r k i x) κ ι r (fun q => q = i) :=
  fun κ' ι' r' k' i' h => ⟨rfl, up5_ne _ _ (fun q => h ⟨q.1, q.2.1, q.2.2.1, q.2.2.2.2⟩), rfl⟩
theorem agr_sP (w : wdT) (κ ι r k i : Nat) (x : Option Nat) : agr w (sP w κ ι r k i x) κ ι r (fun q => q = i) :=
  fun κ' ι' r' k' i' h => ⟨rfl, rfl, up5_ne _ _ (fun q => h ⟨q.1, q.2.1, q.2.2.1, q.2.2.2.2⟩)⟩
theorem agr_all {w w' : wdT} {κ ι r : Nat} {J : Nat → Prop} (h : agr w w' κ ι r J) : agr w w' κ ι r (fun _ => True) := fun κ' ι' r' k' i' hn => h κ' ι' r' k' i' (fun q => hn ⟨q.1, q.2.1, q.2.2.1, trivial⟩)
/-- a field of a class of ours, by the pool index in 'own' -/
def FL (own : String) (idx ci k : Nat) : Prop := ∃ (C : String) (T : u_T) (N : Nat), vwCl[ci]? = some (C, T, N) ∧ (∀ x ∈ u_ws C T N, x ∈ gAll) ∧ k < N ∧ Cond.fieldLink own idx (T k).1 (T k).2.1 (T k).2.2.1 ∈ gAll
/-- what a store needs of a class's table: types, names apart -/
def CT (ci : Nat) : Prop := ∃ (C : String) (T : u_T) (N : Nat) (ty : Nat → FieldType), vwCl[ci]? = some (C, T, N) ∧ (∀ x ∈ u_ws C T N, x ∈ gAll) ∧ (∀ k, k < N → parseFieldDescriptor (T k).2.2.1 = some (ty k)) ∧ (∀ a, a < N → ∀ b, b < N → a ≠ b → (T a).2.1 ≠ (T b).2.1)
/-- a field that may be stored: not final, of that type -/
def FS (ci k : Nat) (ty : FieldType) : Prop := ∃ (C : String) (T : u_T) (N : Nat), vwCl[ci]? = some (C, T, N) ∧ (T k).2.2.2 = false ∧ parseFieldDescriptor (T k).2.2.1 = some ty
section GS
variable {F : gT} {cc : ByteArray} {own : String} {nL : Nat} {rm : Room} {pc : Nat} {lv : lvT} {st : List Value} {kc ks : Nat} {E : gE} {B : bsT} {N : nwT} {w : wdT}
/-- the raw row: a field of a cell that the heap holds -/
theorem gh_get (hF : Fb F cc own nL rm) (hE : va_K E.1 vwCl E.2.1 (gs F)) {G : Heap → Prop} {a idx ci k : Nat} {fs : List Value} {v : Value} (hd : decode cc pc = .ok (.getfield idx, 3)) (hfl : FL own idx ci k) (hc : ∀ H, G H → va_at E.1 vwCl (a, .inr (ci, fs)) H) (hv : fs[k]? = some v)
    (kk : Go F (pc + 3) lv (v :: st) G kc ks) : Go F pc lv (.ref a :: st) G kc ks := by
  intro H locs ls hG hL hl
  obtain ⟨C, T, N, e1, e2, e3, e4⟩ := hfl
  have hP : va_P E.1 vwCl [(a, .inr (ci, fs))] H := fun q x hq => by
    have hz : q < 1 := (List.getElem?_eq_some_iff.mp hq).1
    have : q = 0 := by omega
    subst this
    cases hq
    exact hc H hG
  exact va_get (C := C) (T := T) (N := N) hF.1 hF.2.1 hF.2.2.2.2.2.1 e2 hF.2.2.2.2.1 hE hP 0 rfl e1 k e3 (hF.2.2.2.2.2.1 _ e4) (fun _ h => h) hv hd (kk H locs ls hG hL hl)
theorem gs_get (hF : Fb F cc own nL rm) (hE : va_K E.1 vwCl E.2.1 (gs F)) {κ ι r i idx ci k : Nat} {g : rgT} {fs : List kdT} {v : Value} (hd : decode cc pc = .ok (.getfield idx, 3)) (hfl : FL own idx ci k) (ho : N.1 κ ι = true) (hr : (sch κ)[r]? = some g) (hb : g.2.2 = .inl (ci, fs)) (hi : i < g.2.1) (hv : (fvs B w κ ι r i 0 fs)[k]? = some v)
    (kk : Go F (pc + 3) lv (v :: st) (gw E B N w) kc ks) : Go F pc lv (.ref (ad B κ ι r i) :: st) (gw E B N w) kc ks :=
  gh_get hF hE hd hfl (fun H hG => by have h := hG.2.2.1 κ ι r g i ho hr hi; rw [hb] at h; exact h) hv kk
/-- a store into a field of a cell: the raw row -/
theorem gh_put (hF : Fb F cc own nL rm) (hE : va_K E.1 vwCl E.2.1 (gs F)) {G G' : Heap → Prop} {a idx ci k : Nat} {fs : List Value} {v : Value} {ty : FieldType} (hd : decode cc pc = .ok (.putfield idx, 3)) (hfl : FL own idx ci k) (hct : CT ci) (hfs : FS ci k ty) (hn : narrow ty v = v) (hfit : fits ty v = true) (ha : gLo F ≤ a)
    (hc : ∀ H, G H → va_at E.1 vwCl (a, .inr (ci, fs)) H) (hk : k < fs.length) (hG' : ∀ H H', G H → H'.size = H.size → (∀ q : Nat, q ≠ a → H'[q]? = H[q]?) → va_at E.1 vwCl (a, .inr (ci, fs.set k v)) H' → G' H')
    (kk : Go F (pc + 3) lv st G' kc ks) : Go F pc lv (v :: .ref a :: st) G kc ks := by
  intro H locs ls hG hL hl
  obtain ⟨C, T, N, e1, e2, e3, e4⟩ := hfl
  obtain ⟨C', T', N', ty0, f1, -, f3, f4⟩ := hct
  obtain ⟨C'', T'', N'', g1, g2, g3⟩ := hfs
  cases e1.symm.trans f1
  cases e1.symm.trans g1
  have hap := va_apart (own := own) hF.2.2.2.2.2.1 e2 ty0 f3 f4 hE e1
  obtain ⟨r, h1, cell, q1, q2, q3, q4⟩ := hc H hG
  cases h1.symm.trans e1
  obtain ⟨hS, hfc, kC, hkC, hkind⟩ := hE.1 ci _ e1
  obtain ⟨cf, kf, fi, f, hi, hsl⟩ := hS k e3
  have hlay := hF.2.2.2.2.2.1 _ (e2 _ (u_in_lay e3))
  unfold u_lay at hlay
  rw [if_neg (by rw [g2]; decide)] at hlay
  have hst := (u_facts hfc hkC (u_lays hF.2.2.2.2.2.1 e2 e3) hi).1
  have h6 := u_store hfc hkC hkind hlay hi g3 hn hfit
  refine W.putK hF.1 hF.2.1 (f := f) ⟨hF.2.2.2.2.1, hF.2.2.2.2.2.1 _ e4, ⟨_, _, _, hi⟩, hst⟩ (by rw [q2]; exact h6) q1 q3 (by rw [hsl]; exact k2_hasslot (q4 k e3)) rfl rfl hd fun H' c1 c2 c3 => ?_
  rw [hsl] at c1 ⊢
  exact kk H' _ ls (hG' H H' hG c2 c3 ⟨_, e1, t_OB.to (V := updV (vp_V fs) k v) ⟨_, c1, q2, q3, t_set q4 hap e3 v⟩ (fun j _ => vp_updV_set hk v j)⟩) (fun z hz => by
    rcases List.mem_append.mp hz with h | h
    · exact hL z h
    · rw [List.mem_singleton.mp h]; exact ha) hl
theorem gw_va {H : Heap} (hG : gw E B N w H) {κ ι r i ci : Nat} {g : rgT} {fs : List kdT} (ho : N.1 κ ι = true) (hr : (sch κ)[r]? = some g) (hb : g.2.2 = .inl (ci, fs)) (hi : i < g.2.1) : va_at E.1 vwCl (ad B κ ι r i, .inr (ci, fvs B w κ ι r i 0 fs)) H := by
  have h := hG.2.2.1 κ ι r g i ho hr hi
  rw [hb] at h
  exact h
/-- a store into a block's object: any new world that differs there alone -/
theorem gs_put (hF : Fb F cc own nL rm) (hE : va_K E.1 vwCl E.2.1 (gs F)) (hlo : gLo F = E.2.2.size) {w' : wdT} {κ ι r i idx ci k : Nat} {g : rgT} {fs : List kdT} {v : Value} {ty : FieldType} {c : kdT} (hd : decode cc pc = .ok (.putfield idx, 3)) (hfl : FL own idx ci k) (hct : CT ci) (hfs : FS ci k ty) (hn : narrow ty v = v) (hfit : fits ty v = true)
    (ho : N.1 κ ι = true) (hr : (sch κ)[r]? = some g) (hb : g.2.2 = .inl (ci, fs)) (hi : i < g.2.1) (hk : fs[k]? = some c) (ha : agr w w' κ ι r (fun q => q = i)) (hne : ∀ (k' : Nat) (c' : kdT), k' ≠ k → fv B w' κ ι r i k' c' = fv B w κ ι r i k' c') (hv : fv B w' κ ι r i k c = v)
    (kk : Go F (pc + 3) lv st (gw E B N w') kc ks) : Go F pc lv (v :: .ref (ad B κ ι r i) :: st) (gw E B N w) kc ks := by
  refine go_fact (P := wfw E B N) (fun H hG => hG.2.2.2.2) (fun hwf => ?_)
  refine gh_put hF hE hd hfl hct hfs hn hfit (by rw [hlo]; exact ad_lo hwf ho) (fun H hG => gw_va hG ho hr hb hi) (by rw [fvs_len]; exact (List.getElem?_eq_some_iff.mp hk).1) (fun H H' hG hz hq hc => ?_) kk
  refine gw_put hG ho hr hi ha (fun i' hi' hne' => ?_) hz hq ?_
  · rw [hb]
    exact cel_agr_obj ha hne' _
  · rw [hb]
    unfold cel
    simp only
    rw [fvs_set hne 0 k fs c hk (by omega) hv]
    exact hc
theorem gs_puti (hF : Fb F cc own nL rm) (hE : va_K E.1 vwCl E.2.1 (gs F)) (hlo : gLo F = E.2.2.size) {κ ι r i idx ci k : Nat} {g : rgT} {fs : List kdT} {x : Int32} {c : kdT} (hd : decode cc pc = .ok (.putfield idx, 3)) (hfl : FL own idx ci k) (hct : CT ci) (hfs : FS ci k .int)
    (ho : N.1 κ ι = true) (hr : (sch κ)[r]? = some g) (hb : g.2.2 = .inl (ci, fs)) (hi : i < g.2.1) (hk : fs[k]? = some c) (h0 : c.1 = 0)
    (kk : Go F (pc + 3) lv st (gw E B N (sI w κ ι r k i x)) kc ks) : Go F pc lv (.int x :: .ref (ad B κ ι r i) :: st) (gw E B N w) kc ks := by
  refine gs_put hF hE hlo hd hfl hct hfs rfl rfl ho hr hb hi hk (agr_sI w κ ι r k i x) (fun k' c' h => ?_) ?_ kk
  · unfold fv
    split
    · show Value.int (up5 _ _ _ _ _ _ _ _ _ _ _ _) = _
      rw [up5_ne _ _ (fun q => h q.2.2.2.1)]
    · rfl
    · rfl
    · rfl
  · unfold fv
    rw [h0]
    show Value.int (up5 _ _ _ _ _ _ _ _ _ _ _ _) = _
    rw [up5_same]
theorem gs_putl (hF : Fb F cc own nL rm) (hE : va_K E.1 vwCl E.2.1 (gs F)) (hlo : gLo F = E.2.2.size) {κ ι r i idx ci k : Nat} {g : rgT} {fs : List kdT} {x : Int64} {c : kdT} (hd : decode cc pc = .ok (.putfield idx, 3)) (hfl : FL own idx ci k) (hct : CT ci) (hfs : FS ci k .long)
    (ho : N.1 κ ι = true) (hr : (sch κ)[r]? = some g) (hb : g.2.2 = .inl (ci, fs)) (hi : i < g.2.1) (hk : fs[k]? = some c) (h0 : c.1 = 1)
    (kk : Go F (pc + 3) lv st (gw E B N (sL w κ ι r k i x)) kc ks) : Go F pc lv (.long x :: .ref (ad B κ ι r i) :: st) (gw E B N w) kc ks := by
  refine gs_put hF hE hlo hd hfl hct hfs rfl rfl ho hr hb hi hk (agr_sL w κ ι r k i x) (fun k' c' h => ?_) ?_ kk
  · unfold fv
    split
    · rfl
    · show Value.long (up5 _ _ _ _ _ _ _ _ _ _ _ _) = _
      rw [up5_ne _ _ (fun q => h q.2.2.2.1)]
    · rfl
    · rfl
  · unfold fv
    rw [h0]
    show Value.long (up5 _ _ _ _ _ _ _ _ _ _ _ _) = _
    rw [up5_same]
theorem aty_of (hT : E.2.1.map Prod.snd = atyL) {t : Nat} {ty : FieldType} (h : atyL[t]? = some ty) : E.2.1[t]? = some (aty E t, ty) := by
  rw [← hT, List.getElem?_map] at h
  cases he : E.2.1[t]? with
  | none => rw [he] at h; cases h
  | some x =>
    rw [he] at h
    cases h
    unfold aty
    rw [List.getD_eq_getElem?_getD, he]
    rfl
theorem gw_arr {H : Heap} (hG : gw E B N w H) {κ ι r t m : Nat} {c : kdT} {o : Nat} (ho : N.1 κ ι = true) (hr : (sch κ)[r]? = some (o, 1, .inr (t, m, c))) : va_at E.1 vwCl (ad B κ ι r 0, .inl (aty E t, m, avs B w κ ι r c)) H :=
  hG.2.2.1 κ ι r _ 0 ho hr (Nat.zero_lt_one)
theorem va_P1 {D : va_G} {cl : List vw_C} {a : Nat} {e : va_E} {H : Heap} (h : va_at D cl (a, e) H) : va_P D cl [(a, e)] H := fun q x hq => by
  have hz : q < 1 := (List.getElem?_eq_some_iff.mp hq).1
  have : q = 0 := by omega
  subst this
  cases hq
  exact h
theorem gs_iald (hF : Fb F cc own nL rm) (hE : va_K E.1 vwCl E.2.1 (gs F)) (hT : E.2.1.map Prod.snd = atyL) {κ ι r t m o q : Nat} {u : Nat × Nat} {x : Int32} (hd : decode cc pc = .ok (.iaload, 1)) (ho : N.1 κ ι = true) (hr : (sch κ)[r]? = some (o, 1, .inr (t, m, 0, u))) (ht : atyL[t]? = some .int) (hx : x = nI q) (hq : q < m) (hm : m < 2 ^ 31)
    (kk : Go F (pc + 1) lv (.int (wI w κ ι r 0 q) :: st) (gw E B N w) kc ks) : Go F pc lv (.int x :: .ref (ad B κ ι r 0) :: st) (gw E B N w) kc ks := by
  intro H locs ls hG hL hl
  subst hx
  refine va_iald (D := E.1) (cl := vwCl) (f := fun i => wI w κ ι r 0 i) hF.1 hF.2.1 hE (va_P1 (gw_arr hG ho hr)) 0 t rfl (aty_of hT ht) (vp_in_nI hq hm) hd ?_
  show W _ _ _ _ _ _ _ _ _ _ _ _ _ _ _ (F0 _ _ _ (.int (wI w κ ι r 0 (nI q).toNatClampNeg) :: _))
  rw [nI_clamp (by omega)]
  exact kk H locs ls hG hL hl
theorem gs_lald (hF : Fb F cc own nL rm) (hE : va_K E.1 vwCl E.2.1 (gs F)) (hT : E.2.1.map Prod.snd = atyL) {κ ι r t m o q : Nat} {u : Nat × Nat} {x : Int32} (hd : decode cc pc = .ok (.laload, 1)) (ho : N.1 κ ι = true) (hr : (sch κ)[r]? = some (o, 1, .inr (t, m, 1, u))) (ht : atyL[t]? = some .long) (hx : x = nI q) (hq : q < m) (hm : m < 2 ^ 31)
    (kk : Go F (pc + 1) lv (.long (wL w κ ι r 0 q) :: st) (gw E B N w) kc ks) : Go F pc lv (.int x :: .ref (ad B κ ι r 0) :: st) (gw E B N w) kc ks := by
  intro H locs ls hG hL hl
  subst hx
  refine va_lald (D := E.1) (cl := vwCl) (f := fun i => wL w κ ι r 0 i) hF.1 hF.2.1 hE (va_P1 (gw_arr hG ho hr)) 0 t rfl (aty_of hT ht) (vp_in_nI hq hm) hd ?_
  show W _ _ _ _ _ _ _ _ _ _ _ _ _ _ _ (F0 _ _ _ (.long (wL w κ ι r 0 (nI q).toNatClampNeg) :: _))
  rw [nI_clamp (by omega)]
  exact kk H locs ls hG hL hl
/-- an array of fixed references: place q points at index q of region r' -/
theorem gs_aald (hF : Fb F cc own nL rm) (hE : va_K E.1 vwCl E.2.1 (gs F)) (hT : E.2.1.map Prod.snd = atyL) {κ ι r t m o q r' u : Nat} {C : String} {x : Int32} (hd : decode cc pc = .ok (.aaload, 1)) (ho : N.1 κ ι = true) (hr : (sch κ)[r]? = some (o, 1, .inr (t, m, 3, r', u))) (ht : atyL[t]? = some (.object C)) (hx : x = nI q) (hq : q < m) (hm : m < 2 ^ 31)
    (kk : Go F (pc + 1) lv (.ref (ad B κ ι r' q) :: st) (gw E B N w) kc ks) : Go F pc lv (.int x :: .ref (ad B κ ι r 0) :: st) (gw E B N w) kc ks := by
  intro H locs ls hG hL hl
  subst hx
  refine va_aldq (D := E.1) (cl := vwCl) (f := fun i => some (ad B κ ι r' i)) hF.1 hF.2.1 hE (va_P1 (gw_arr hG ho hr)) 0 t rfl (aty_of hT ht) (vp_in_nI hq hm) hd ?_
  show W _ _ _ _ _ _ _ _ _ _ _ _ _ _ _ (F0 _ _ _ (.ref (ad B κ ι r' (nI q).toNatClampNeg) :: _))
  rw [nI_clamp (by omega)]
  exact kk H locs ls hG hL hl
/-- an array of pointers -/
theorem gs_aaldp (hF : Fb F cc own nL rm) (hE : va_K E.1 vwCl E.2.1 (gs F)) (hT : E.2.1.map Prod.snd = atyL) {κ ι r t m o q : Nat} {u : Nat × Nat} {C : String} {x : Int32} (hd : decode cc pc = .ok (.aaload, 1)) (ho : N.1 κ ι = true) (hr : (sch κ)[r]? = some (o, 1, .inr (t, m, 2, u))) (ht : atyL[t]? = some (.object C)) (hx : x = nI q) (hq : q < m) (hm : m < 2 ^ 31)
    (kk : Go F (pc + 1) lv (va_rf (wP w κ ι r 0 q) :: st) (gw E B N w) kc ks) : Go F pc lv (.int x :: .ref (ad B κ ι r 0) :: st) (gw E B N w) kc ks := by
  intro H locs ls hG hL hl
  subst hx
  refine va_aldq (D := E.1) (cl := vwCl) (f := fun i => wP w κ ι r 0 i) hF.1 hF.2.1 hE (va_P1 (gw_arr hG ho hr)) 0 t rfl (aty_of hT ht) (vp_in_nI hq hm) hd ?_
  show W _ _ _ _ _ _ _ _ _ _ _ _ _ _ _ (F0 _ _ _ (va_rf (wP w κ ι r 0 (nI q).toNatClampNeg) :: _))
  rw [nI_clamp (by omega)]
  exact kk H locs ls hG hL hl
theorem vp_cell_size (cA : ClassId) (a : vp_A) : (vp_cell cA a).slots.size = a.1 := by
  obtain ⟨n, f⟩ := a
  rcases f with f | f | f | f | f <;> exact arrV_size _ _ _
theorem vp_cell_arr {U : State} {cA : ClassId} {ty : FieldType} (h : ArrOfT U cA ty) (a : vp_A) : U.isArrayOf (vp_cell cA a) ty := by
  obtain ⟨n, f⟩ := a
  rcases f with f | f | f | f | f <;> exact h _ _
theorem gs_alen (hF : Fb F cc own nL rm) (hE : va_K E.1 vwCl E.2.1 (gs F)) (hT : E.2.1.map Prod.snd = atyL) {κ ι r t m o : Nat} {c : kdT} {ty : FieldType} (hd : decode cc pc = .ok (.arraylength, 1)) (ho : N.1 κ ι = true) (hr : (sch κ)[r]? = some (o, 1, .inr (t, m, c))) (ht : atyL[t]? = some ty)
    (kk : Go F (pc + 1) lv (.int (nI m) :: st) (gw E B N w) kc ks) : Go F pc lv (.ref (ad B κ ι r 0) :: st) (gw E B N w) kc ks := by
  intro H locs ls hG hL hl
  exact W.alen (n := nI m) hF.1 hF.2.1 (gw_arr hG ho hr) (vp_cell_arr (hE.2 t _ (aty_of hT ht)).1 _) (by rw [vp_cell_size]; rfl) rfl rfl hd (kk H locs ls hG hL hl)
theorem gs_iast (hF : Fb F cc own nL rm) (hE : va_K E.1 vwCl E.2.1 (gs F)) (hT : E.2.1.map Prod.snd = atyL) (hlo : gLo F = E.2.2.size) {κ ι r t m o q : Nat} {u : Nat × Nat} {x y : Int32} (hd : decode cc pc = .ok (.iastore, 1)) (ho : N.1 κ ι = true) (hr : (sch κ)[r]? = some (o, 1, .inr (t, m, 0, u))) (ht : atyL[t]? = some .int) (hx : x = nI q) (hq : q < m) (hm : m < 2 ^ 31)
    (kk : Go F (pc + 1) lv st (gw E B N (sI w κ ι r 0 q y)) kc ks) : Go F pc lv (.int y :: .int x :: .ref (ad B κ ι r 0) :: st) (gw E B N w) kc ks := by
  intro H locs ls hG hL hl
  subst hx
  have hwf := hG.2.2.2.2
  have hc := gw_arr hG ho hr
  have hin : ¬ (nI q < 0 ∨ (vp_cell (aty E t) (m, avs B w κ ι r (0, u))).slots.size ≤ (nI q).toNatClampNeg) := by rw [vp_cell_size]; exact vp_in_nI hq hm
  refine W.iast hF.1 hF.2.1 hc (vp_cell_arr (hE.2 t _ (aty_of hT ht)).1 _) (fun q => by cases q) hin rfl rfl hd fun H' e1 z1 o1 => ?_
  refine kk H' _ ls (gw_put (i := 0) hG ho hr Nat.zero_lt_one (agr_all (agr_sI w κ ι r 0 q y)) (fun i' h1 h2 => absurd h1 (by simp; omega)) z1 o1 ?_) (fun z hz => ?_) hl
  · show H'[_]? = some (vp_cell _ _)
    rw [e1, nI_clamp (by omega)]
    show some ((vp_cell (aty E t) (m, .inl (fun i => wI w κ ι r 0 i))).setSlot q (.int y)) = some (vp_cell (aty E t) (m, .inl (fun i => wI (sI w κ ι r 0 q y) κ ι r 0 i)))
    rw [vp_cell_i, vp_cell_i, arrV_store]
    congr 2
    funext j
    by_cases hj : j = q
    · subst hj
      simp [updV, wI, sI, up5]
    · simp [updV, wI, sI, up5, hj]
  · rcases List.mem_append.mp hz with h | h
    · exact hL z h
    · rw [List.mem_singleton.mp h, hlo]
      exact ad_lo hwf ho
theorem gs_last (hF : Fb F cc own nL rm) (hE : va_K E.1 vwCl E.2.1 (gs F)) (hT : E.2.1.map Prod.snd = atyL) (hlo : gLo F = E.2.2.size) {κ ι r t m o q : Nat} {u : Nat × Nat} {x : Int32} {y : Int64} (hd : decode cc pc = .ok (.lastore, 1)) (ho : N.1 κ ι = true) (hr : (sch κ)[r]? = some (o, 1, .inr (t, m, 1, u))) (ht : atyL[t]? = some .long) (hx : x = nI q) (hq : q < m) (hm : m < 2 ^ 31)
    (kk : Go F (pc + 1) lv st (gw E B N (sL w κ ι r 0 q y)) kc ks) : Go F pc lv (.long y :: .int x :: .ref (ad B κ ι r 0) :: st) (gw E B N w) kc ks := by
  intro H locs ls hG hL hl
  subst hx
  have hwf := hG.2.2.2.2
  have hc := gw_arr hG ho hr
  have hin : ¬ (nI q < 0 ∨ (vp_cell (aty E t) (m, avs B w κ ι r (1, u))).slots.size ≤ (nI q).toNatClampNeg) := by rw [vp_cell_size]; exact vp_in_nI hq hm
  refine W.last hF.1 hF.2.1 hc (vp_cell_arr (hE.2 t _ (aty_of hT ht)).1 _) (fun q => by cases q) hin rfl rfl hd fun H' e1 z1 o1 => ?_
  refine kk H' _ ls (gw_put (i := 0) hG ho hr Nat.zero_lt_one (agr_all (agr_sL w κ ι r 0 q y)) (fun i' h1 h2 => absurd h1 (by simp; omega)) z1 o1 ?_) (fun z hz => ?_) hl
  · show H'[_]? = some (vp_cell _ _)
    rw [e1, nI_clamp (by omega)]
    show some ((vp_cell (aty E t) (m, .inr (.inl (fun i => wL w κ ι r 0 i)))).setSlot q (.long y)) = some (vp_cell (aty E t) (m, .inr (.inl (fun i => wL (sL w κ ι r 0 q y) κ ι r 0 i))))
    rw [vp_cell_l, vp_cell_l, arrV_store]
    congr 2
    funext j
    by_cases hj : j = q
    · subst hj
      simp [updV, wL, sL, up5]
    · simp [updV, wL, sL, up5, hj]
  · rcases List.mem_append.mp hz with h | h
    · exact hL z h
    · rw [List.mem_singleton.mp h, hlo]
      exact ad_lo hwf ho
/-! cells of no block: new objects and arrays, and writes into them -/
def ovs (O : Nat → Option va_E) (a : Nat) (e : va_E) : Nat → Option va_E := fun q => if q = a then some e else O q
theorem ovs_same (O : Nat → Option va_E) (a : Nat) (e : va_E) : ovs O a e a = some e := if_pos rfl
theorem ovs_ne (O : Nat → Option va_E) {a q : Nat} (e : va_E) (h : q ≠ a) : ovs O a e q = O q := if_neg h
/-- a cell that belongs to no block is written -/
theorem gw_ovput {H H' : Heap} {a : Nat} {e e' : va_E} (hg : gw E B N w H) (ha : N.2.1 a = some e) (hz : H'.size = H.size) (hq : ∀ q : Nat, q ≠ a → H'[q]? = H[q]?) (hc : va_at E.1 vwCl (a, e') H') : gw E B (N.1, ovs N.2.1 a e', N.2.2) w H' := by
  obtain ⟨⟨g0, g1⟩, g2, g3, g4, g5, g6, g7⟩ := hg
  refine ⟨⟨by rw [hz]; exact g0, fun q h => ?_⟩, by rw [hz, g2], ?_, ?_, g5, g6, ?_⟩
  · rw [hq q (fun z => by have := (g4 a e ha).1; omega)]
    exact g1 q h
  · intro κ ι r g i ho hr hi
    exact (g3 κ ι r g i ho hr hi).kept (hq _ (ad_ov ⟨g5, g6, g7⟩ ho hr hi ha))
  · intro q x hx
    by_cases hqa : q = a
    · subst hqa
      have h9 : ovs N.2.1 q e' q = some x := hx
      rw [ovs_same] at h9
      cases h9
      exact ⟨(g4 q e ha).1, hc⟩
    · have hx' : N.2.1 q = some x := by
        have h9 : ovs N.2.1 a e' q = some x := hx
        rw [ovs_ne _ _ hqa] at h9
        exact h9
      exact ⟨(g4 q x hx').1, (g4 q x hx').2.kept (hq q hqa)⟩
  · intro q x κ ι hx ho
    by_cases hqa : q = a
    · subst hqa
      exact g7 q e κ ι ha ho
    · have h9 : ovs N.2.1 a e' q = some x := hx
      rw [ovs_ne _ _ hqa] at h9
      exact g7 q x κ ι h9 ho
/-- a new cell at the heap's end -/
theorem gw_ovnew {H H' : Heap} {e : va_E} (hg : gw E B N w H) (hz : H'.size = H.size + 1) (hq : ∀ q : Nat, q < H.size → H'[q]? = H[q]?) (hc : va_at E.1 vwCl (N.2.2, e) H') : gw E B (N.1, ovs N.2.1 N.2.2 e, N.2.2 + 1) w H' := by
  obtain ⟨⟨g0, g1⟩, g2, g3, g4, g5, g6, g7⟩ := hg
  refine ⟨⟨by omega, fun q h => ?_⟩, by rw [hz, g2], ?_, ?_, ?_, g6, ?_⟩
  · rw [hq q (by omega)]
    exact g1 q h
  · intro κ ι r g i ho hr hi
    have h := g3 κ ι r g i ho hr hi
    exact h.kept (hq _ h.lt)
  · intro q x hx
    by_cases hqa : q = N.2.2
    · subst hqa
      have h9 : ovs N.2.1 N.2.2 e N.2.2 = some x := hx
      rw [ovs_same] at h9
      cases h9
      exact ⟨by omega, hc⟩
    · have h9 : ovs N.2.1 N.2.2 e q = some x := hx
      rw [ovs_ne _ _ hqa] at h9
      have h := g4 q x h9
      exact ⟨h.1, h.2.kept (hq q h.2.lt)⟩
  · intro κ ι ho
    have := g5 κ ι ho
    exact ⟨this.1, by show _ ≤ N.2.2 + 1; omega⟩
  · intro q x κ ι hx ho
    by_cases hqa : q = N.2.2
    · subst hqa
      exact Or.inr (g5 κ ι ho).2
    · have h9 : ovs N.2.1 N.2.2 e q = some x := hx
      rw [ovs_ne _ _ hqa] at h9
      exact g7 q x κ ι h9 ho
theorem gs_getO (hF : Fb F cc own nL rm) (hE : va_K E.1 vwCl E.2.1 (gs F)) {a idx ci k : Nat} {fs : List Value} {v : Value} (hd : decode cc pc = .ok (.getfield idx, 3)) (hfl : FL own idx ci k) (ha : N.2.1 a = some (.inr (ci, fs))) (hv : fs[k]? = some v)
    (kk : Go F (pc + 3) lv (v :: st) (gw E B N w) kc ks) : Go F pc lv (.ref a :: st) (gw E B N w) kc ks :=
  gh_get hF hE hd hfl (fun H hG => (hG.2.2.2.1 a _ ha).2) hv kk
theorem gs_putO (hF : Fb F cc own nL rm) (hE : va_K E.1 vwCl E.2.1 (gs F)) (hlo : gLo F = E.2.2.size) {a idx ci k : Nat} {fs : List Value} {v : Value} {ty : FieldType} (hd : decode cc pc = .ok (.putfield idx, 3)) (hfl : FL own idx ci k) (hct : CT ci) (hfs : FS ci k ty) (hn : narrow ty v = v) (hfit : fits ty v = true) (ha : N.2.1 a = some (.inr (ci, fs))) (hk : k < fs.length)
    (kk : Go F (pc + 3) lv st (gw E B (N.1, ovs N.2.1 a (.inr (ci, fs.set k v)), N.2.2) w) kc ks) : Go F pc lv (v :: .ref a :: st) (gw E B N w) kc ks := by
  refine go_fact (P := E.2.2.size ≤ a) (fun H hG => (hG.2.2.2.1 a _ ha).1) (fun hla => ?_)
  exact gh_put hF hE hd hfl hct hfs hn hfit (by rw [hlo]; exact hla) (fun H hG => (hG.2.2.2.1 a _ ha).2) hk (fun H H' hG hz hq hc => gw_ovput hG ha hz hq hc) kk
end GS
end
section
/-! WHAT A LAUNCH'S TABLES SAY, at any state of a run: carried through every call. -/
def en (E : gE) (U : State) : Prop := va_K E.1 vwCl E.2.1 U ∧ E.2.1.map Prod.snd = atyL
theorem en_warm {E : gE} {s U : State} (hW : s.WarmedH U.vm) (h : en E s) : en E U := ⟨va_K.moved hW.alike h.1, h.2⟩
theorem en_same {E : gE} {U U' : State} (hv : U'.vm = U.vm) (h : en E U) : en E U' := ⟨va_K.moved (by rw [hv]; exact Vm.Alike.refl _) h.1, h.2⟩
end
section
/-! CONTRACTS AND CALLS in Go's words. 'en E U' (what a launch's tables say, stands ahead) with en_warm, en_same. -/
/-- y, called with As over a heap with G, returns v over a heap with 'Q v', or throws an object of the class named M over one with 'X M' -/
def Con (l : Launch) (E : gE) (y : MethodName) (ws : List Cond) (rm : Room) (As : List Value) (G : Heap → Prop) (Q : Option Value → Heap → Prop) (X : String → Heap → Prop) (mc ms : Nat) : Prop :=
  MetFree l y (headSpec ws rm) (fun a U => a = As.toArray ∧ en E U ∧ G U.heap) (fun _ _ _ _ _ => True) (Qx Q X E.2.2.size mc ms)
theorem con_of {l : Launch} {E : gE} {y : MethodName} {cc : ByteArray} {maxL : Nat} {ret : Option FieldType} {rm : Room} {As : List Value} {G : Heap → Prop} {Q : Option Value → Heap → Prop} {X : String → Heap → Prop} {mc ms : Nat}
    (hy : plainName y.cls = true) (hlt : l.stackTraces = false) (hlen : (lg_sl As).length ≤ maxL)
    (body : ∀ F : gT, Fb F cc y.cls maxL rm → Fm F ret Q X mc ms → (∀ x ∈ (gc F).exceptionTable.toList, False) → (gt F).name = y.name → en E (gs F) → gLo F = E.2.2.size → gl F = l → Go F 0 (lv_args 0 As) [] G 0 0) :
    Con l E y (Cond.code y cc maxL ret :: gAll) rm As G Q X mc ms := by
  refine MetFree.of_bodyS (code := cc) (maxLocals := maxL) (ret := ret) hy ?_ ?_
  · intro args s m h hn
    obtain ⟨meth, c, h1, h2, h3, h4, h5, h6, -, -⟩ := Cond.code_spec hn (atoms_spec (ws := Cond.code y cc maxL ret :: gAll) h _ List.mem_cons_self)
    exact ⟨meth, c, h1, h2, h3, h4, h5, h6⟩
  · intro p e s m args below meth c s₁ B hml hv _
    obtain ⟨rfl, hEn, hG⟩ := hv
    have hts := atoms_spec (ws := Cond.code y cc maxL ret :: gAll) B.pre
    have Y := Stand.of_body B
    have ht : ∀ x ∈ c.exceptionTable.toList, False := by
      obtain ⟨meth9, c9, h1, h2, -, -, -, -, h7, -⟩ := Cond.code_spec B.named (hts _ List.mem_cons_self)
      cases Option.some.inj (h1.symm.trans B.method)
      cases Option.some.inj (h2.symm.trans Y.code)
      intro x hx
      rw [Array.isEmpty_iff.mp h7] at hx
      cases hx
    have h := body (p, l, e, rm, s, m, As.toArray, below, meth, c, zX below Q X E.2.2.size mc ms As.toArray s, E.2.2.size, maxL)
      ⟨B.exec, B.bytes, hml, rfl, findClass_of_methodNamed B.named, fun w hw => hts w (List.mem_cons_of_mem _ hw), B.notSynchronized, rfl, hlt⟩
      ⟨B.returns, rfl⟩ ht (name_of_methodNamed B.named B.method).1 hEn rfl rfl s.heap [] _ hG (fun z hz => nomatch hz) (lv_entry As hlen)
    rw [← lg_entry_eq] at h
    have hh0 : s₁.heap = s.heap := by rw [B.state]; rfl
    obtain ⟨t, a1, o, b1, b2, b3⟩ := h s₁ hh0 Y
    exact ⟨t, o, a1, b1, b2, b3⟩
/-- a method's own words -/
def Mt (y : MethodName) (bytes : ByteArray) (maxL : Nat) (ret : Option FieldType) (np : Nat) : Prop :=
  Cond.code y bytes maxL ret ∈ gAll ∧ Cond.initialized y.cls ∈ gAll ∧ (y.cls ≠ "java/lang/invoke/MethodHandle" ∧ y.cls ≠ "java/lang/invoke/VarHandle") ∧ ∀ sig, parseMethodDescriptor y.desc = some sig → np = sig.parameters.length
theorem gAll_at {s U : State} {a a' : Array Value} {w : Cond} (hw : w ∈ gAll) (h : w.before a s = true) (hW : s.WarmedH U.vm) : w.before a' U = true := word_at hW (good_of_word (List.mem_filter.mp hw).2) h
section CX
variable {p : Program} {l : Launch} {e : Env} {R : Room} {s : State} {m : MethodId} {args : Array Value} {below : List Frame} {meth : Method} {c : Code} {U : State} {locs : List Loc} {k n : Nat}
/-- a call by contract, from where the machine stands with the arguments taken off the stack -/
theorem cx_call {y : MethodName} {ws : List Cond} {rm1 : Room} {P : Array Value → State → Prop} {Q1 : Option Value → Heap → Prop} {X1 : String → Heap → Prop} {lo mc1 ms1 maxL len : Nat} (hM : MetFree l y (headSpec ws rm1) P (fun _ _ _ _ _ => True) (Qx Q1 X1 lo mc1 ms1))
    (Y : Stand p l e R s m args below meth c U locs k n) {g : JFrame} (hg : g.method = m) (hsize : g.locals.size = c.maxLocals) {ig : Instr} (hdg : decode c.code g.pc = .ok (ig, len)) {mk : MethodId} {methY : Method} {cY : Code} {kY : Class} {a : Array Value}
    (hn : U.methodNamed? y = some mk) (hmY : U.vm.method? mk = some methY) (hcY : methY.code = some cY) (hlY : cY.maxLocals = maxL) (hkY : U.vm.classes[mk.cls]? = some kY) (hiY : kY.init = .initialized) (hpre : (allAtoms ws).before a U = true)
    (hfr : rm1.frames + 1 ≤ R.frames) (hlo : 2 * g.monitorRoom + (g.stack.map fun v => v.category).sum + (maxL + 11) + rm1.locals ≤ R.locals) (hce : k + rm1.cells ≤ R.cells) (hsl : n + rm1.slots ≤ R.slots) (hP : P a (U.calling g mk a)) :
    (∃ (v : Option Value) (T' : State) (L : List Loc), Stand p l e R s m args below meth c T' (locs ++ L) (k + mc1) (n + ms1) ∧ (∀ z ∈ L, lo ≤ z.base) ∧ Q1 v T'.heap ∧
      Steps p.tables e below (doInvoke e (U.setTop g) [] mk a).1 (T'.setTop { g with pc := g.pc + len, stack := v.toList ++ g.stack })) ∨
    (∃ (q : Addr) (M : String) (ce : Cell) (T' : State) (L : List Loc), Stand p l e R s m args below meth c T' (locs ++ L) (k + mc1) (n + ms1) ∧ (∀ z ∈ L, lo ≤ z.base) ∧ X1 M T'.heap ∧ T'.heap[q]? = some ce ∧ ce.vm = .none ∧ s.vm.findClass M = some ce.cls ∧
      Steps p.tables e below (doInvoke e (U.setTop g) [] mk a).1 ((T'.setTop g).pushFrame (.throwing q))) := by
  have h : At U g.method c below := by rw [hg]; exact Y.here
  have happ : (headSpec ws rm1).appliesLoose y e.platform (U.calling g mk a) = true :=
    Spec.appliesLoose_calling (g := g) h hdg hn hkY hiY (Y.room_calling (g := g) (R' := rm1) hsize hmY hcY hfr (by rw [hlY]; omega) hce hsl) hpre
  obtain ⟨mid, hmid⟩ := h.above
  have hfrm : (U.setTop g).frames = (.java g :: mid) ++ below := by rw [State.frames_setTop' g h.top, hmid]; rfl
  obtain ⟨o, t, hsteps, -, hend, hq⟩ := Steps.callFree hM p Y.admits Y.cas Y.clock (acts := []) hfrm happ hP trivial
  rw [State.frames_setTop' g h.top, Y.tail] at hend
  obtain ⟨L, hW, hsame, hL, hcase⟩ := hq
  rcases hcase with ⟨v, rfl, hQ⟩ | ⟨q, M, ce, rfl, hX, hce1, hcv, hcl⟩
  · obtain ⟨T', Y', -, -, ht⟩ := Y.outOf hg hdg (mk := mk) (a := a) hend hW hsame
    refine Or.inl ⟨v, T', L, Y', hL, ?_, by rw [← ht]; exact hsteps⟩
    have : t.heap = T'.heap := by rw [ht]; rfl
    rw [← this]
    exact hQ
  · obtain ⟨T', Y', -, -, ht⟩ := Y.outOfThrown hg (mk := mk) (a := a) hend hW hsame
    have hh : t.heap = T'.heap := by rw [ht]; rfl
    refine Or.inr ⟨q, M, ce, T', L, Y', hL, by rw [← hh]; exact hX, by rw [← hh]; exact hce1, hcv, ?_, by rw [← ht]; exact hsteps⟩
    have h9 : U.vm.findClass M = some ce.cls := hcl
    rw [Y.warmed.alike.findClass] at h9
    exact h9
end CX
/-- the frame at pc, with q thrown over it -/
def Gx (F : gT) (pc : Nat) (lv : lvT) (st : List Value) (G : Heap → Prop) (M : String) (k n : Nat) : Prop :=
  ∀ (H : Heap) (locs : List Loc) (ls : Array Slot) (q : Addr) (ce : Cell), G H → (∀ z ∈ locs, gLo F ≤ z.base) → lv_has ls (gN F) lv → H[q]? = some ce → ce.vm = .none → (gs F).vm.findClass M = some ce.cls →
    ∀ T : State, T.heap = H → Stand (gp F) (gl F) (ge F) (gR F) (gs F) (gm F) (ga F) (gb F) (gt F) (gc F) T locs k n → ∃ t, Steps (gp F).tables (ge F) (gb F) ((T.setTop (F0 (gm F) pc ls st)).pushFrame (.throwing q)) t ∧ gZ F t
section GC
variable {F : gT} {cc : ByteArray} {own : String} {nL : Nat} {rm : Room} {pc : Nat} {lv : lvT} {st : List Value} {k n : Nat} {E : gE} {G : Heap → Prop} {Q1 : Option Value → Heap → Prop} {X1 : String → Heap → Prop} {mc1 ms1 idx maxL np : Nat} {y : MethodName} {bytes : ByteArray} {ret : Option FieldType} {rm1 : Room} {b : Nat} {As : List Value}
theorem go_locs {F : gT} {E : gE} {locs L : List Loc} (hlo : gLo F = E.2.2.size) (hL : ∀ z ∈ locs, gLo F ≤ z.base) (hL' : ∀ z ∈ L, E.2.2.size ≤ z.base) : ∀ z ∈ locs ++ L, gLo F ≤ z.base := fun z hz => by
  rcases List.mem_append.mp hz with h | h
  · exact hL z h
  · rw [hlo]; exact hL' z h
theorem all_atoms {s U : State} {a a' : Array Value} {w : Cond} (hw : w ∈ gAll) (hts : ∀ x ∈ gAll, x.before a s = true) (hW : s.WarmedH U.vm) : (allAtoms (w :: gAll)).before a' U = true :=
  atoms_intro fun x hx => by
    rcases List.mem_cons.mp hx with e | h
    · rw [e]; exact gAll_at hw (hts _ hw) hW
    · exact gAll_at h (hts _ h) hW
/-- invokevirtual of a method that returns or throws -/
theorem go_callVX (hF : Fb F cc own nL rm) (hE : en E (gs F)) (hlo : gLo F = E.2.2.size) (hd : decode cc pc = .ok (.invokevirtual idx, 3))
    (hc : Con (gl F) E y (Cond.code y bytes maxL ret :: gAll) rm1 (.ref b :: As) G Q1 X1 mc1 ms1) (hm : Mt y bytes maxL ret np) (hv : Cond.instanceMethod y ∈ gAll ∧ Cond.selects y.cls y y ∈ gAll) (hlk : Cond.methodLink own idx y ∈ gAll)
    (hrm : rm1.cells = mc1 ∧ rm1.slots = ms1 ∧ rm1.frames + 1 ≤ rm.frames ∧ 8 + (maxL + 11) + rm1.locals ≤ rm.locals) (hn : As.length = np) (hst : (st.map fun v => v.category).sum ≤ 8) (hf : k + mc1 ≤ rm.cells ∧ n + ms1 ≤ rm.slots)
    (hrecv : ∀ H, G H → ∃ cell : Cell, H[b]? = some cell ∧ cell.vm.isStatics = false ∧ (gs F).vm.findClass y.cls = some cell.cls)
    (kx : ∀ M, Gx F pc lv st (X1 M) M (k + mc1) (n + ms1))
    {stk : List Value} (hs : stk = As.reverse ++ .ref b :: st)
    (kk : ∀ v, Go F (pc + 3) lv (v.toList ++ st) (Q1 v) (k + mc1) (n + ms1)) : Go F pc lv stk G k n := by
  subst hs
  intro H locs ls hG hL hl T hT Y
  have hcode := hF.2.2.2.2.2.1 _ hm.1
  obtain ⟨mk, methM, hnamed, hmethM, hstM, habM⟩ := Cond.instanceMethod_spec (hF.2.2.2.2.2.1 _ hv.1)
  obtain ⟨methM', cM, hmethM', hcM, -, hlM, -, -, -, hsigM⟩ := Cond.code_spec hnamed hcode
  cases hmethM.symm.trans hmethM'
  obtain ⟨cell, hcell, hobj, hcls⟩ := hrecv H hG
  obtain ⟨c2, r2, m2, q1, q2, q3, q4, kP, hkP, hkPi⟩ := Cond.selects_spec (hF.2.2.2.2.2.1 _ hv.2)
  cases hcls.symm.trans q1
  cases (State.methodFound?_of_named hnamed hm.2.2.1).symm.trans q2
  cases hnamed.symm.trans q3
  have hselP : selectMethod (ge F).platform (gs F).vm cell.cls mk = .method mk := by rw [Launch.admits_selectMethod Y.admits]; exact q4
  have hd' : decode (gc F).code pc = .ok (.invokevirtual idx, 3) := by rw [hF.2.1]; exact hd
  obtain ⟨vm₁, Y₁, hstep₁⟩ := Y.invokevirtual hF.1 hF.2.2.2.2.1 (hF.2.2.2.2.2.1 _ hlk) hnamed hmethM hstM hkP hkPi hm.2.2.1 (a := b) (cell := cell) (by rw [hT]; exact hcell)
    (fun z h => by rw [h] at hobj; cases hobj) hselP hmethM habM hkP hkPi (g := F0 (gm F) pc ls (As.reverse ++ .ref b :: st)) rfl (argsL := As) (rest := st) (hn.trans (hm.2.2.2 _ hsigM)) rfl hd'
  have hal := Y₁.warmed.alike
  have hn₁ := Y₁.named hnamed
  obtain ⟨kY, hkY, -⟩ := className_of_methodNamed hn₁
  have hiY : kY.init = .initialized := Cond.initialized_spec (findClass_of_methodNamed hn₁) hkY (gAll_at (a' := #[]) hm.2.1 (hF.2.2.2.2.2.1 _ hm.2.1) Y₁.warmed)
  obtain ⟨methN, cN, hmN, hcN, -, hlN, -, -, -, -⟩ := Cond.code_spec hn₁ (gAll_at (a' := #[]) hm.1 hcode Y₁.warmed)
  have hR := hF.2.2.2.2.2.2.2.1
  rcases cx_call hc Y₁ (g := F0 (gm F) pc ls st) rfl (hl.1.trans (hF.2.2.2.1.trans hF.2.2.1.symm)) hd' (a := (Value.ref b :: As).toArray) hn₁ hmN hcN hlN hkY hiY (all_atoms hm.1 hF.2.2.2.2.2.1 Y₁.warmed)
      (by rw [hR]; exact hrm.2.2.1) (by rw [hR]; have := hrm.2.2.2; have h8 := hst; show 2 * 0 + (st.map fun v => v.category).sum + _ + _ ≤ _; omega) (by rw [hR, hrm.1]; exact hf.1) (by rw [hR, hrm.2.1]; exact hf.2)
      ⟨rfl, en_same (U' := (T.setVm vm₁).calling (F0 (gm F) pc ls st) mk (Value.ref b :: As).toArray) (U := T.setVm vm₁) rfl (en_warm Y₁.warmed hE), by show G T.heap; rw [hT]; exact hG⟩ with
    ⟨v, T', L, Y', hL', hQ, stp⟩ | ⟨q, M, ce, T', L, Y', hL', hX, hce, hcv, hcl, stp⟩
  · obtain ⟨t2, a1, b1⟩ := kk v T'.heap (locs ++ L) ls hQ (go_locs hlo hL hL') hl T' rfl Y'
    exact ⟨t2, hstep₁ _ fun acts => by rw [doInvoke_state]; exact stp.trans a1, b1⟩
  · obtain ⟨t2, a1, b1⟩ := kx M T'.heap (locs ++ L) ls q ce hX (go_locs hlo hL hL') hl hce hcv hcl T' rfl Y'
    exact ⟨t2, hstep₁ _ fun acts => by rw [doInvoke_state]; exact stp.trans a1, b1⟩
theorem gx_no {M : String} : Gx F pc lv st (fun _ => False) M k n := fun _ _ _ _ _ h => h.elim
theorem go_callSX (hF : Fb F cc own nL rm) (hE : en E (gs F)) (hlo : gLo F = E.2.2.size) (hd : decode cc pc = .ok (.invokestatic idx, 3))
    (hc : Con (gl F) E y (Cond.code y bytes maxL ret :: gAll) rm1 As G Q1 X1 mc1 ms1) (hm : Mt y bytes maxL ret np) (hv : Cond.static y ∈ gAll) (hlk : Cond.methodLink own idx y ∈ gAll)
    (hrm : rm1.cells = mc1 ∧ rm1.slots = ms1 ∧ rm1.frames + 1 ≤ rm.frames ∧ 8 + (maxL + 11) + rm1.locals ≤ rm.locals) (hn : As.length = np) (hst : (st.map fun v => v.category).sum ≤ 8) (hf : k + mc1 ≤ rm.cells ∧ n + ms1 ≤ rm.slots)
    (kx : ∀ M, Gx F pc lv st (X1 M) M (k + mc1) (n + ms1))
    {stk : List Value} (hs : stk = As.reverse ++ st)
    (kk : ∀ v, Go F (pc + 3) lv (v.toList ++ st) (Q1 v) (k + mc1) (n + ms1)) : Go F pc lv stk G k n := by
  subst hs
  intro H locs ls hG hL hl T hT Y
  have hcode := hF.2.2.2.2.2.1 _ hm.1
  obtain ⟨mk, hnamed⟩ := Cond.code_named hcode
  obtain ⟨methM, cM, hmethM, hcM, -, hlM, -, -, -, hsigM⟩ := Cond.code_spec hnamed hcode
  have hstatic : methM.isStatic = true := Cond.static_spec hnamed hmethM (hF.2.2.2.2.2.1 _ hv)
  obtain ⟨kP, hkP, -⟩ := className_of_methodNamed hnamed
  have hinitP : kP.init = .initialized := Cond.initialized_spec (findClass_of_methodNamed hnamed) hkP (hF.2.2.2.2.2.1 _ hm.2.1)
  have hd' : decode (gc F).code pc = .ok (.invokestatic idx, 3) := by rw [hF.2.1]; exact hd
  obtain ⟨vm₁, Y₁, hstep₁⟩ := Y.invokestatic hF.1 hF.2.2.2.2.1 (hF.2.2.2.2.2.1 _ hlk) hnamed hmethM hstatic hkP hinitP hm.2.2.1 (g := F0 (gm F) pc ls (As.reverse ++ st)) rfl (argsL := As) (rest := st) (hn.trans (hm.2.2.2 _ hsigM)) rfl hd'
  have hn₁ := Y₁.named hnamed
  obtain ⟨kY, hkY, -⟩ := className_of_methodNamed hn₁
  have hiY : kY.init = .initialized := Cond.initialized_spec (findClass_of_methodNamed hn₁) hkY (gAll_at (a' := #[]) hm.2.1 (hF.2.2.2.2.2.1 _ hm.2.1) Y₁.warmed)
  obtain ⟨methN, cN, hmN, hcN, -, hlN, -, -, -, -⟩ := Cond.code_spec hn₁ (gAll_at (a' := #[]) hm.1 hcode Y₁.warmed)
  have hR := hF.2.2.2.2.2.2.2.1
  rcases cx_call hc Y₁ (g := F0 (gm F) pc ls st) rfl (hl.1.trans (hF.2.2.2.1.trans hF.2.2.1.symm)) hd' (a := As.toArray) hn₁ hmN hcN hlN hkY hiY (all_atoms hm.1 hF.2.2.2.2.2.1 Y₁.warmed)
      (by rw [hR]; exact hrm.2.2.1) (by rw [hR]; have := hrm.2.2.2; have h8 := hst; show 2 * 0 + (st.map fun v => v.category).sum + _ + _ ≤ _; omega) (by rw [hR, hrm.1]; exact hf.1) (by rw [hR, hrm.2.1]; exact hf.2)
      ⟨rfl, en_same (U' := (T.setVm vm₁).calling (F0 (gm F) pc ls st) mk As.toArray) (U := T.setVm vm₁) rfl (en_warm Y₁.warmed hE), by show G T.heap; rw [hT]; exact hG⟩ with
    ⟨v, T', L, Y', hL', hQ, stp⟩ | ⟨q, M, ce, T', L, Y', hL', hX, hce, hcv, hcl, stp⟩
  · obtain ⟨t2, a1, b1⟩ := kk v T'.heap (locs ++ L) ls hQ (go_locs hlo hL hL') hl T' rfl Y'
    exact ⟨t2, hstep₁ _ fun acts => by rw [doInvoke_state]; exact stp.trans a1, b1⟩
  · obtain ⟨t2, a1, b1⟩ := kx M T'.heap (locs ++ L) ls q ce hX (go_locs hlo hL hL') hl hce hcv hcl T' rfl Y'
    exact ⟨t2, hstep₁ _ fun acts => by rw [doInvoke_state]; exact stp.trans a1, b1⟩
variable {Q : Option Value → Heap → Prop} {X : String → Heap → Prop} {mc ms : Nat} {ret0 : Option FieldType}
/-- thrown on to the caller: this method has no handlers -/
theorem gx_out (hF : Fb F cc own nL rm) (hM : Fm F ret0 Q X mc ms) (htab : ∀ x ∈ (gc F).exceptionTable.toList, False) {M : String} (hX : ∀ H, G H → X M H) (h1 : k ≤ mc) (h2 : n ≤ ms) : Gx F pc lv st G M k n := by
  intro H locs ls q ce hG hL hl hce hcv hcl T hT Y
  rw [hM.2]
  obtain ⟨st1, hrun, hend, hW, hsm⟩ := Y.leaveThrown q (g := F0 (gm F) pc ls st) rfl rfl rfl (fun x hx => (htab x hx).elim) hF.2.2.2.2.2.2.1
  refine ⟨_, st1, .threw q, hrun, hend, locs, hW, hsm.mono h1 h2, hL, Or.inr ⟨q, M, ce, rfl, ?_, ?_, hcv, hcl⟩⟩
  · show X M T.heap
    rw [hT]; exact hX H hG
  · show T.heap[q]? = some ce
    rw [hT]; exact hce
end GC
end
