theorem v_429 : (Cond.instantiable "java/lang/IndexOutOfBoundsException" (6 : Nat)) ∈ gAll := gm_of (i := 465) (by decide +kernel) (by decide +kernel)
theorem v_428 : (Cond.classLink "EventWaves" (60 : Nat) "java/lang/IndexOutOfBoundsException") ∈ gAll := gm_of (i := 464) (by decide +kernel) (by decide +kernel)
theorem v_14 : (Cond.initialized "java/lang/IndexOutOfBoundsException") ∈ gAll := gm_of (i := 50) (by decide +kernel) (by decide +kernel)
theorem v_335 : (Cond.instantiable "java/lang/IllegalStateException" (6 : Nat)) ∈ gAll := gm_of (i := 371) (by decide +kernel) (by decide +kernel)
theorem v_334 : (Cond.classLink "EventWaves" (31 : Nat) "java/lang/IllegalStateException") ∈ gAll := gm_of (i := 370) (by decide +kernel) (by decide +kernel)
theorem v_13 : (Cond.initialized "java/lang/IllegalStateException") ∈ gAll := gm_of (i := 49) (by decide +kernel) (by decide +kernel)
theorem v_446 : (Cond.instantiable "java/lang/IllegalArgumentException" (6 : Nat)) ∈ gAll := gm_of (i := 482) (by decide +kernel) (by decide +kernel)
theorem v_445 : (Cond.classLink "EventWaves" (51 : Nat) "java/lang/IllegalArgumentException") ∈ gAll := gm_of (i := 481) (by decide +kernel) (by decide +kernel)
theorem v_15 : (Cond.initialized "java/lang/IllegalArgumentException") ∈ gAll := gm_of (i := 51) (by decide +kernel) (by decide +kernel)
theorem v_27 : (Cond.classLink "EventWaves" (7 : Nat) "EventWaves$Circuit") ∈ gAll := gm_of (i := 63) (by decide +kernel) (by decide +kernel)
theorem v_238 : (Cond.classLink "EventWaves" (20 : Nat) "EventWaves$Tape") ∈ gAll := gm_of (i := 274) (by decide +kernel) (by decide +kernel)
theorem v_688 : (Cond.classLink "EventWaves" (170 : Nat) "EventWaves$TapeReader") ∈ gAll := gm_of (i := 724) (by decide +kernel) (by decide +kernel)
theorem v_33 : (Cond.classLink "EventWaves$Circuit" (15 : Nat) "EventWaves$Net") ∈ gAll := gm_of (i := 69) (by decide +kernel) (by decide +kernel)
theorem v_35 : (Cond.classLink "EventWaves$Circuit" (21 : Nat) "EventWaves$Gate") ∈ gAll := gm_of (i := 71) (by decide +kernel) (by decide +kernel)
theorem v_37 : (Cond.classLink "EventWaves$Circuit" (27 : Nat) "EventWaves$Check") ∈ gAll := gm_of (i := 73) (by decide +kernel) (by decide +kernel)
theorem v_39 : (Cond.classLink "EventWaves$Circuit" (33 : Nat) "EventWaves$Hands") ∈ gAll := gm_of (i := 75) (by decide +kernel) (by decide +kernel)
theorem v_68 : (Cond.classLink "EventWaves$Circuit" (40 : Nat) "EventWaves$Waves") ∈ gAll := gm_of (i := 104) (by decide +kernel) (by decide +kernel)
theorem v_19 : (Cond.classLink "EventWavesLaw" (8 : Nat) "EventWaves") ∈ gAll := gm_of (i := 55) (by decide +kernel) (by decide +kernel)
theorem v_329 : (Cond.classLink "EventWavesLaw" (13 : Nat) "java/lang/IllegalStateException") ∈ gAll := gm_of (i := 365) (by decide +kernel) (by decide +kernel)
theorem v_414 : (Cond.classLink "EventWavesLaw" (19 : Nat) "java/lang/IndexOutOfBoundsException") ∈ gAll := gm_of (i := 450) (by decide +kernel) (by decide +kernel)
theorem v_415 : (Cond.classLink "EventWavesLaw" (21 : Nat) "java/lang/IllegalArgumentException") ∈ gAll := gm_of (i := 451) (by decide +kernel) (by decide +kernel)
theorem v_787 : (Cond.classLink "EventWavesLaw" (77 : Nat) "EventWavesModel") ∈ gAll := gm_of (i := 823) (by decide +kernel) (by decide +kernel)
theorem v_28 : (Cond.instantiable "EventWaves$Circuit" (10 : Nat)) ∈ gAll := gm_of (i := 64) (by decide +kernel) (by decide +kernel)
theorem v_239 : (Cond.instantiable "EventWaves$Tape" (2 : Nat)) ∈ gAll := gm_of (i := 275) (by decide +kernel) (by decide +kernel)
theorem v_689 : (Cond.instantiable "EventWaves$TapeReader" (4 : Nat)) ∈ gAll := gm_of (i := 725) (by decide +kernel) (by decide +kernel)
theorem v_91 : (Cond.instantiable "EventWaves$Net" (6 : Nat)) ∈ gAll := gm_of (i := 127) (by decide +kernel) (by decide +kernel)
theorem v_123 : (Cond.instantiable "EventWaves$Gate" (11 : Nat)) ∈ gAll := gm_of (i := 159) (by decide +kernel) (by decide +kernel)
theorem v_169 : (Cond.instantiable "EventWaves$Check" (5 : Nat)) ∈ gAll := gm_of (i := 205) (by decide +kernel) (by decide +kernel)
theorem v_40 : (Cond.instantiable "EventWaves$Hands" (5 : Nat)) ∈ gAll := gm_of (i := 76) (by decide +kernel) (by decide +kernel)
theorem v_69 : (Cond.instantiable "EventWaves$Waves" (4 : Nat)) ∈ gAll := gm_of (i := 105) (by decide +kernel) (by decide +kernel)
theorem v_20 : (Cond.instantiable "EventWaves" (4 : Nat)) ∈ gAll := gm_of (i := 56) (by decide +kernel) (by decide +kernel)
theorem v_788 : (Cond.instantiable "EventWavesModel" (9 : Nat)) ∈ gAll := gm_of (i := 824) (by decide +kernel) (by decide +kernel)
theorem v_25 : (Cond.instanceMethod ({ cls := "java/lang/Object", name := "<init>", desc := "()V" } : MethodName)) ∈ gAll := gm_of (i := 61) (by decide +kernel) (by decide +kernel)
theorem v_24 : (Cond.methodLink "EventWaves" (1 : Nat) ({ cls := "java/lang/Object", name := "<init>", desc := "()V" } : MethodName)) ∈ gAll := gm_of (i := 60) (by decide +kernel) (by decide +kernel)
theorem v_173 : (Cond.methodLink "EventWaves$Check" (3 : Nat) ({ cls := "java/lang/Object", name := "<init>", desc := "()V" } : MethodName)) ∈ gAll := gm_of (i := 209) (by decide +kernel) (by decide +kernel)
theorem v_32 : (Cond.methodLink "EventWaves$Circuit" (3 : Nat) ({ cls := "java/lang/Object", name := "<init>", desc := "()V" } : MethodName)) ∈ gAll := gm_of (i := 68) (by decide +kernel) (by decide +kernel)
theorem v_127 : (Cond.methodLink "EventWaves$Gate" (3 : Nat) ({ cls := "java/lang/Object", name := "<init>", desc := "()V" } : MethodName)) ∈ gAll := gm_of (i := 163) (by decide +kernel) (by decide +kernel)
theorem v_44 : (Cond.methodLink "EventWaves$Hands" (3 : Nat) ({ cls := "java/lang/Object", name := "<init>", desc := "()V" } : MethodName)) ∈ gAll := gm_of (i := 80) (by decide +kernel) (by decide +kernel)
theorem v_95 : (Cond.methodLink "EventWaves$Net" (3 : Nat) ({ cls := "java/lang/Object", name := "<init>", desc := "()V" } : MethodName)) ∈ gAll := gm_of (i := 131) (by decide +kernel) (by decide +kernel)
theorem v_243 : (Cond.methodLink "EventWaves$Tape" (3 : Nat) ({ cls := "java/lang/Object", name := "<init>", desc := "()V" } : MethodName)) ∈ gAll := gm_of (i := 279) (by decide +kernel) (by decide +kernel)
theorem v_693 : (Cond.methodLink "EventWaves$TapeReader" (3 : Nat) ({ cls := "java/lang/Object", name := "<init>", desc := "()V" } : MethodName)) ∈ gAll := gm_of (i := 729) (by decide +kernel) (by decide +kernel)
theorem v_73 : (Cond.methodLink "EventWaves$Waves" (3 : Nat) ({ cls := "java/lang/Object", name := "<init>", desc := "()V" } : MethodName)) ∈ gAll := gm_of (i := 109) (by decide +kernel) (by decide +kernel)
theorem v_792 : (Cond.methodLink "EventWavesModel" (1 : Nat) ({ cls := "java/lang/Object", name := "<init>", desc := "()V" } : MethodName)) ∈ gAll := gm_of (i := 828) (by decide +kernel) (by decide +kernel)
theorem v_66 : (Cond.arrayClass FieldType.int) ∈ gAll := gm_of (i := 102) (by decide +kernel) (by decide +kernel)
theorem v_67 : (Cond.arrayClass FieldType.long) ∈ gAll := gm_of (i := 103) (by decide +kernel) (by decide +kernel)
theorem v_328 : (Cond.codeWith ({ cls := "EventWavesLaw", name := "net", desc := "(LEventWaves;[J)I" } : MethodName) method_3_code (3 : Nat) (Option.some FieldType.int) [((0 : Nat), (8 : Nat), (11 : Nat), (13 : Nat))]) ∈ gAll := gm_of (i := 364) (by decide +kernel) (by decide +kernel)
theorem v_0 : (Cond.initialized "EventWavesLaw") ∈ gAll := gm_of (i := 36) (by decide +kernel) (by decide +kernel)
theorem v_327 : (Cond.static ({ cls := "EventWavesLaw", name := "net", desc := "(LEventWaves;[J)I" } : MethodName)) ∈ gAll := gm_of (i := 363) (by decide +kernel) (by decide +kernel)
theorem v_413 : (Cond.codeWith ({ cls := "EventWavesLaw", name := "gate", desc := "(LEventWaves;IIII[J)I" } : MethodName) method_4_code (7 : Nat) (Option.some FieldType.int) [((0 : Nat), (14 : Nat), (17 : Nat), (19 : Nat)), ((0 : Nat), (14 : Nat), (21 : Nat), (13 : Nat)), ((0 : Nat), (14 : Nat), (25 : Nat), (21 : Nat))]) ∈ gAll := gm_of (i := 449) (by decide +kernel) (by decide +kernel)
theorem v_412 : (Cond.static ({ cls := "EventWavesLaw", name := "gate", desc := "(LEventWaves;IIII[J)I" } : MethodName)) ∈ gAll := gm_of (i := 448) (by decide +kernel) (by decide +kernel)
theorem v_521 : (Cond.codeWith ({ cls := "EventWavesLaw", name := "delay", desc := "(LEventWaves;III[J)I" } : MethodName) method_5_code (6 : Nat) (Option.some FieldType.int) [((0 : Nat), (19 : Nat), (22 : Nat), (19 : Nat)), ((0 : Nat), (19 : Nat), (26 : Nat), (21 : Nat))]) ∈ gAll := gm_of (i := 557) (by decide +kernel) (by decide +kernel)
theorem v_520 : (Cond.static ({ cls := "EventWavesLaw", name := "delay", desc := "(LEventWaves;III[J)I" } : MethodName)) ∈ gAll := gm_of (i := 556) (by decide +kernel) (by decide +kernel)
theorem v_537 : (Cond.codeWith ({ cls := "EventWavesLaw", name := "spike", desc := "(LEventWaves;I[J)I" } : MethodName) method_6_code (4 : Nat) (Option.some FieldType.int) [((0 : Nat), (16 : Nat), (19 : Nat), (21 : Nat))]) ∈ gAll := gm_of (i := 573) (by decide +kernel) (by decide +kernel)
theorem v_536 : (Cond.static ({ cls := "EventWavesLaw", name := "spike", desc := "(LEventWaves;I[J)I" } : MethodName)) ∈ gAll := gm_of (i := 572) (by decide +kernel) (by decide +kernel)
theorem v_545 : (Cond.codeWith ({ cls := "EventWavesLaw", name := "drive", desc := "(LEventWaves;IJI[J)I" } : MethodName) method_7_code (7 : Nat) (Option.some FieldType.int) [((0 : Nat), (13 : Nat), (16 : Nat), (19 : Nat)), ((0 : Nat), (13 : Nat), (20 : Nat), (13 : Nat)), ((0 : Nat), (13 : Nat), (24 : Nat), (21 : Nat))]) ∈ gAll := gm_of (i := 581) (by decide +kernel) (by decide +kernel)
theorem v_544 : (Cond.static ({ cls := "EventWavesLaw", name := "drive", desc := "(LEventWaves;IJI[J)I" } : MethodName)) ∈ gAll := gm_of (i := 580) (by decide +kernel) (by decide +kernel)
theorem v_568 : (Cond.codeWith ({ cls := "EventWavesLaw", name := "force", desc := "(LEventWaves;IJI[J)I" } : MethodName) method_8_code (7 : Nat) (Option.some FieldType.int) [((0 : Nat), (13 : Nat), (16 : Nat), (19 : Nat)), ((0 : Nat), (13 : Nat), (20 : Nat), (13 : Nat)), ((0 : Nat), (13 : Nat), (24 : Nat), (21 : Nat))]) ∈ gAll := gm_of (i := 604) (by decide +kernel) (by decide +kernel)
theorem v_567 : (Cond.static ({ cls := "EventWavesLaw", name := "force", desc := "(LEventWaves;IJI[J)I" } : MethodName)) ∈ gAll := gm_of (i := 603) (by decide +kernel) (by decide +kernel)
theorem v_575 : (Cond.codeWith ({ cls := "EventWavesLaw", name := "release", desc := "(LEventWaves;IJ[J)I" } : MethodName) method_9_code (6 : Nat) (Option.some FieldType.int) [((0 : Nat), (11 : Nat), (14 : Nat), (19 : Nat)), ((0 : Nat), (11 : Nat), (18 : Nat), (13 : Nat)), ((0 : Nat), (11 : Nat), (22 : Nat), (21 : Nat))]) ∈ gAll := gm_of (i := 611) (by decide +kernel) (by decide +kernel)
theorem v_574 : (Cond.static ({ cls := "EventWavesLaw", name := "release", desc := "(LEventWaves;IJ[J)I" } : MethodName)) ∈ gAll := gm_of (i := 610) (by decide +kernel) (by decide +kernel)
theorem v_582 : (Cond.codeWith ({ cls := "EventWavesLaw", name := "check", desc := "(LEventWaves;IIII[J)I" } : MethodName) method_10_code (7 : Nat) (Option.some FieldType.int) [((0 : Nat), (14 : Nat), (17 : Nat), (19 : Nat)), ((0 : Nat), (14 : Nat), (21 : Nat), (13 : Nat)), ((0 : Nat), (14 : Nat), (25 : Nat), (21 : Nat))]) ∈ gAll := gm_of (i := 618) (by decide +kernel) (by decide +kernel)
theorem v_581 : (Cond.static ({ cls := "EventWavesLaw", name := "check", desc := "(LEventWaves;IIII[J)I" } : MethodName)) ∈ gAll := gm_of (i := 617) (by decide +kernel) (by decide +kernel)
theorem v_600 : (Cond.codeWith ({ cls := "EventWavesLaw", name := "broken", desc := "(LEventWaves;I[J)I" } : MethodName) method_11_code (4 : Nat) (Option.some FieldType.int) [((0 : Nat), (9 : Nat), (12 : Nat), (19 : Nat))]) ∈ gAll := gm_of (i := 636) (by decide +kernel) (by decide +kernel)
theorem v_599 : (Cond.static ({ cls := "EventWavesLaw", name := "broken", desc := "(LEventWaves;I[J)I" } : MethodName)) ∈ gAll := gm_of (i := 635) (by decide +kernel) (by decide +kernel)
theorem v_608 : (Cond.codeWith ({ cls := "EventWavesLaw", name := "run", desc := "(LEventWaves;J[J)I" } : MethodName) method_12_code (5 : Nat) (Option.some FieldType.int) [((0 : Nat), (8 : Nat), (11 : Nat), (21 : Nat))]) ∈ gAll := gm_of (i := 644) (by decide +kernel) (by decide +kernel)
theorem v_607 : (Cond.static ({ cls := "EventWavesLaw", name := "run", desc := "(LEventWaves;J[J)I" } : MethodName)) ∈ gAll := gm_of (i := 643) (by decide +kernel) (by decide +kernel)
theorem v_648 : (Cond.codeWith ({ cls := "EventWavesLaw", name := "at", desc := "(LEventWaves;IJ[J)I" } : MethodName) method_13_code (6 : Nat) (Option.some FieldType.int) [((0 : Nat), (11 : Nat), (14 : Nat), (19 : Nat)), ((0 : Nat), (11 : Nat), (18 : Nat), (21 : Nat))]) ∈ gAll := gm_of (i := 684) (by decide +kernel) (by decide +kernel)
theorem v_647 : (Cond.static ({ cls := "EventWavesLaw", name := "at", desc := "(LEventWaves;IJ[J)I" } : MethodName)) ∈ gAll := gm_of (i := 683) (by decide +kernel) (by decide +kernel)
theorem v_660 : (Cond.codeWith ({ cls := "EventWavesLaw", name := "value", desc := "(LEventWaves;I[J)I" } : MethodName) method_14_code (4 : Nat) (Option.some FieldType.int) [((0 : Nat), (9 : Nat), (12 : Nat), (19 : Nat))]) ∈ gAll := gm_of (i := 696) (by decide +kernel) (by decide +kernel)
theorem v_659 : (Cond.static ({ cls := "EventWavesLaw", name := "value", desc := "(LEventWaves;I[J)I" } : MethodName)) ∈ gAll := gm_of (i := 695) (by decide +kernel) (by decide +kernel)
theorem v_667 : (Cond.codeWith ({ cls := "EventWavesLaw", name := "change", desc := "(LEventWaves;II[J)I" } : MethodName) method_15_code (5 : Nat) (Option.some FieldType.int) [((0 : Nat), (10 : Nat), (13 : Nat), (19 : Nat))]) ∈ gAll := gm_of (i := 703) (by decide +kernel) (by decide +kernel)
theorem v_666 : (Cond.static ({ cls := "EventWavesLaw", name := "change", desc := "(LEventWaves;II[J)I" } : MethodName)) ∈ gAll := gm_of (i := 702) (by decide +kernel) (by decide +kernel)
theorem v_676 : (Cond.codeWith ({ cls := "EventWavesLaw", name := "counted", desc := "(LEventWaves;I[J)I" } : MethodName) method_16_code (4 : Nat) (Option.some FieldType.int) [((0 : Nat), (8 : Nat), (11 : Nat), (19 : Nat))]) ∈ gAll := gm_of (i := 712) (by decide +kernel) (by decide +kernel)
theorem v_675 : (Cond.static ({ cls := "EventWavesLaw", name := "counted", desc := "(LEventWaves;I[J)I" } : MethodName)) ∈ gAll := gm_of (i := 711) (by decide +kernel) (by decide +kernel)
theorem v_683 : (Cond.codeWith ({ cls := "EventWavesLaw", name := "read", desc := "(LEventWaves;[J)I" } : MethodName) method_17_code (3 : Nat) (Option.some FieldType.int) [((0 : Nat), (8 : Nat), (11 : Nat), (13 : Nat))]) ∈ gAll := gm_of (i := 719) (by decide +kernel) (by decide +kernel)
theorem v_682 : (Cond.static ({ cls := "EventWavesLaw", name := "read", desc := "(LEventWaves;[J)I" } : MethodName)) ∈ gAll := gm_of (i := 718) (by decide +kernel) (by decide +kernel)
theorem v_756 : (Cond.codeWith ({ cls := "EventWavesLaw", name := "write", desc := "(LEventWaves;I[J)I" } : MethodName) method_18_code (4 : Nat) (Option.some FieldType.int) [((0 : Nat), (9 : Nat), (12 : Nat), (19 : Nat))]) ∈ gAll := gm_of (i := 792) (by decide +kernel) (by decide +kernel)
theorem v_755 : (Cond.static ({ cls := "EventWavesLaw", name := "write", desc := "(LEventWaves;I[J)I" } : MethodName)) ∈ gAll := gm_of (i := 791) (by decide +kernel) (by decide +kernel)
theorem v_781 : (Cond.codeWith ({ cls := "EventWavesLaw", name := "save", desc := "(LEventWaves;[J)I" } : MethodName) method_19_code (3 : Nat) (Option.some FieldType.int) [((0 : Nat), (8 : Nat), (11 : Nat), (13 : Nat))]) ∈ gAll := gm_of (i := 817) (by decide +kernel) (by decide +kernel)
theorem v_780 : (Cond.static ({ cls := "EventWavesLaw", name := "save", desc := "(LEventWaves;[J)I" } : MethodName)) ∈ gAll := gm_of (i := 816) (by decide +kernel) (by decide +kernel)
def nmR : List String := ["java/lang/RuntimeException", "java/lang/Exception"]
theorem allOf {ws : List Cond} (h : ws.all (fun w => decide (w ∈ gAll) || (decide (w ∈ nW) || decide (w ∈ thrW))) = true) : ∀ w ∈ ws, w ∈ gAll ∨ w ∈ nW ∨ w ∈ thrW := fun w hw => by
  have h1 := List.all_eq_true.mp h w hw
  simpa using h1
/-- what throwing an exception of class M needs -/
def TH (own M : String) (ik ic : Nat) : Prop := Cond.classLink own ik M ∈ gAll ∧ Cond.instantiable M 6 ∈ gAll ∧ Cond.initialized M ∈ gAll ∧ (∀ w ∈ Bundle.ownAtoms own ic M nmR, w ∈ gAll ∨ w ∈ nW ∨ w ∈ thrW) ∧ Bundle.fit M = true
theorem in_IO : Cond.instantiable xIO 6 ∈ gAll := v_429
theorem th_IO : TH "EventWaves" xIO 60 64 := ⟨v_428, in_IO, v_14, allOf (by decide +kernel), by decide +kernel⟩
theorem cs_IO : Cond.castable xIO xIO ∈ nW := by decide +kernel
theorem in_IS : Cond.instantiable xIS 6 ∈ gAll := v_335
theorem th_IS : TH "EventWaves" xIS 31 35 := ⟨v_334, in_IS, v_13, allOf (by decide +kernel), by decide +kernel⟩
theorem cs_IS : Cond.castable xIS xIS ∈ nW := by decide +kernel
theorem in_IA : Cond.instantiable xIA 6 ∈ gAll := v_446
theorem th_IA : TH "EventWaves" xIA 51 55 := ⟨v_445, in_IA, v_15, allOf (by decide +kernel), by decide +kernel⟩
theorem cs_IA : Cond.castable xIA xIA ∈ nW := by decide +kernel
theorem cl_EW_7 : Cond.classLink R_EW 7 "EventWaves$Circuit" ∈ gAll := v_27
theorem cl_EW_20 : Cond.classLink R_EW 20 "EventWaves$Tape" ∈ gAll := v_238
theorem cl_EW_31 : Cond.classLink R_EW 31 "java/lang/IllegalStateException" ∈ gAll := v_334
theorem cl_EW_51 : Cond.classLink R_EW 51 "java/lang/IllegalArgumentException" ∈ gAll := v_445
theorem cl_EW_60 : Cond.classLink R_EW 60 "java/lang/IndexOutOfBoundsException" ∈ gAll := v_428
theorem cl_EW_170 : Cond.classLink R_EW 170 "EventWaves$TapeReader" ∈ gAll := v_688
theorem cl_Ci_15 : Cond.classLink R_Ci 15 "EventWaves$Net" ∈ gAll := v_33
theorem cl_Ci_21 : Cond.classLink R_Ci 21 "EventWaves$Gate" ∈ gAll := v_35
theorem cl_Ci_27 : Cond.classLink R_Ci 27 "EventWaves$Check" ∈ gAll := v_37
theorem cl_Ci_33 : Cond.classLink R_Ci 33 "EventWaves$Hands" ∈ gAll := v_39
theorem cl_Ci_40 : Cond.classLink R_Ci 40 "EventWaves$Waves" ∈ gAll := v_68
theorem cl_La_8 : Cond.classLink R_La 8 "EventWaves" ∈ gAll := v_19
theorem cl_La_13 : Cond.classLink R_La 13 "java/lang/IllegalStateException" ∈ gAll := v_329
theorem cl_La_19 : Cond.classLink R_La 19 "java/lang/IndexOutOfBoundsException" ∈ gAll := v_414
theorem cl_La_21 : Cond.classLink R_La 21 "java/lang/IllegalArgumentException" ∈ gAll := v_415
theorem cl_La_77 : Cond.classLink R_La 77 "EventWavesModel" ∈ gAll := v_787
theorem nw_EW_7 : NW R_EW 7 1 [.long 0, .int 0, .int 0, .null, .int 0, .null, .int 0, .null, .null, .null] 10 := ⟨R_Ci, T_Ci, t_Ci, rfl, uw_Ci, ty_Ci, cl_EW_7, v_28, w_2, fun j hj => by
  match j, hj with
  | 0, _ => rfl
  | 1, _ => rfl
  | 2, _ => rfl
  | 3, _ => rfl
  | 4, _ => rfl
  | 5, _ => rfl
  | 6, _ => rfl
  | 7, _ => rfl
  | 8, _ => rfl
  | 9, _ => rfl
  | j + 10, h => exact absurd h (by omega)⟩
theorem nw_EW_20 : NW R_EW 20 7 [.int 0, .null] 2 := ⟨R_Ta, T_Ta, t_Ta, rfl, uw_Ta, ty_Ta, cl_EW_20, v_239, w_8, fun j hj => by
  match j, hj with
  | 0, _ => rfl
  | 1, _ => rfl
  | j + 2, h => exact absurd h (by omega)⟩
theorem nw_EW_170 : NW R_EW 170 8 [.null, .null, .long 0, .int 0] 4 := ⟨R_Tr, T_Tr, t_Tr, rfl, uw_Tr, ty_Tr, cl_EW_170, v_689, w_17, fun j hj => by
  match j, hj with
  | 0, _ => rfl
  | 1, _ => rfl
  | 2, _ => rfl
  | 3, _ => rfl
  | j + 4, h => exact absurd h (by omega)⟩
theorem nw_Ci_15 : NW R_Ci 15 2 [.int 0, .int 0, .int 0, .long 0, .long 0, .long 0] 6 := ⟨R_Ne, T_Ne, t_Ne, rfl, uw_Ne, ty_Ne, cl_Ci_15, v_91, w_5, fun j hj => by
  match j, hj with
  | 0, _ => rfl
  | 1, _ => rfl
  | 2, _ => rfl
  | 3, _ => rfl
  | 4, _ => rfl
  | 5, _ => rfl
  | j + 6, h => exact absurd h (by omega)⟩
theorem nw_Ci_21 : NW R_Ci 21 3 [.int 0, .int 0, .int 0, .int 0, .int 0, .int 0, .int 0, .int 0, .long 0, .int 0, .long 0] 11 := ⟨R_Ga, T_Ga, t_Ga, rfl, uw_Ga, ty_Ga, cl_Ci_21, v_123, w_6, fun j hj => by
  match j, hj with
  | 0, _ => rfl
  | 1, _ => rfl
  | 2, _ => rfl
  | 3, _ => rfl
  | 4, _ => rfl
  | 5, _ => rfl
  | 6, _ => rfl
  | 7, _ => rfl
  | 8, _ => rfl
  | 9, _ => rfl
  | 10, _ => rfl
  | j + 11, h => exact absurd h (by omega)⟩
theorem nw_Ci_27 : NW R_Ci 27 4 [.int 0, .int 0, .int 0, .int 0, .int 0] 5 := ⟨R_Ch, T_Ch, t_Ch, rfl, uw_Ch, ty_Ch, cl_Ci_27, v_169, w_7, fun j hj => by
  match j, hj with
  | 0, _ => rfl
  | 1, _ => rfl
  | 2, _ => rfl
  | 3, _ => rfl
  | 4, _ => rfl
  | j + 5, h => exact absurd h (by omega)⟩
theorem nw_Ci_33 : NW R_Ci 33 5 [.int 0, .null, .null, .null, .null] 5 := ⟨R_Ha, T_Ha, t_Ha, rfl, uw_Ha, ty_Ha, cl_Ci_33, v_40, w_3, fun j hj => by
  match j, hj with
  | 0, _ => rfl
  | 1, _ => rfl
  | 2, _ => rfl
  | 3, _ => rfl
  | 4, _ => rfl
  | j + 5, h => exact absurd h (by omega)⟩
theorem nw_Ci_40 : NW R_Ci 40 6 [.int 0, .null, .null, .null] 4 := ⟨R_Wa, T_Wa, t_Wa, rfl, uw_Wa, ty_Wa, cl_Ci_40, v_69, w_4, fun j hj => by
  match j, hj with
  | 0, _ => rfl
  | 1, _ => rfl
  | 2, _ => rfl
  | 3, _ => rfl
  | j + 4, h => exact absurd h (by omega)⟩
theorem nw_La_8 : NW R_La 8 0 [.null, .null, .int 0, .null] 4 := ⟨R_EW, T_EW, t_EW, rfl, uw_EW, ty_EW, cl_La_8, v_20, w_1, fun j hj => by
  match j, hj with
  | 0, _ => rfl
  | 1, _ => rfl
  | 2, _ => rfl
  | 3, _ => rfl
  | j + 4, h => exact absurd h (by omega)⟩
theorem nw_La_77 : NW R_La 77 9 [.int 0, .null, .null, .int 0, .null, .int 0, .null, .null, .null] 9 := ⟨R_Mo, T_Mo, t_Mo, rfl, uw_Mo, ty_Mo, cl_La_77, v_788, w_9, fun j hj => by
  match j, hj with
  | 0, _ => rfl
  | 1, _ => rfl
  | 2, _ => rfl
  | 3, _ => rfl
  | 4, _ => rfl
  | 5, _ => rfl
  | 6, _ => rfl
  | 7, _ => rfl
  | 8, _ => rfl
  | j + 9, h => exact absurd h (by omega)⟩
theorem ff_EW_0 : FF R_EW 0 0 (.object "EventWaves$Circuit") := ⟨R_EW, T_EW, 4, rfl, rfl, rfl, ty_EW 0 (by decide)⟩
theorem ff_EW_1 : FF R_EW 0 1 (.array (.object "EventWaves$Circuit")) := ⟨R_EW, T_EW, 4, rfl, rfl, rfl, ty_EW 1 (by decide)⟩
theorem ff_EW_3 : FF R_EW 0 3 (.object "EventWaves$Tape") := ⟨R_EW, T_EW, 4, rfl, rfl, rfl, ty_EW 3 (by decide)⟩
theorem ff_Ci_3 : FF R_Ci 1 3 (.array (.object "EventWaves$Net")) := ⟨R_Ci, T_Ci, 10, rfl, rfl, rfl, ty_Ci 3 (by decide)⟩
theorem ff_Ci_5 : FF R_Ci 1 5 (.array (.object "EventWaves$Gate")) := ⟨R_Ci, T_Ci, 10, rfl, rfl, rfl, ty_Ci 5 (by decide)⟩
theorem ff_Ci_7 : FF R_Ci 1 7 (.array (.object "EventWaves$Check")) := ⟨R_Ci, T_Ci, 10, rfl, rfl, rfl, ty_Ci 7 (by decide)⟩
theorem ff_Ci_8 : FF R_Ci 1 8 (.object "EventWaves$Hands") := ⟨R_Ci, T_Ci, 10, rfl, rfl, rfl, ty_Ci 8 (by decide)⟩
theorem ff_Ci_9 : FF R_Ci 1 9 (.object "EventWaves$Waves") := ⟨R_Ci, T_Ci, 10, rfl, rfl, rfl, ty_Ci 9 (by decide)⟩
theorem ff_Ha_1 : FF R_Ha 5 1 (.array .int) := ⟨R_Ha, T_Ha, 5, rfl, rfl, rfl, ty_Ha 1 (by decide)⟩
theorem ff_Ha_2 : FF R_Ha 5 2 (.array .int) := ⟨R_Ha, T_Ha, 5, rfl, rfl, rfl, ty_Ha 2 (by decide)⟩
theorem ff_Ha_3 : FF R_Ha 5 3 (.array .long) := ⟨R_Ha, T_Ha, 5, rfl, rfl, rfl, ty_Ha 3 (by decide)⟩
theorem ff_Ha_4 : FF R_Ha 5 4 (.array .int) := ⟨R_Ha, T_Ha, 5, rfl, rfl, rfl, ty_Ha 4 (by decide)⟩
theorem ff_Wa_1 : FF R_Wa 6 1 (.array .int) := ⟨R_Wa, T_Wa, 4, rfl, rfl, rfl, ty_Wa 1 (by decide)⟩
theorem ff_Wa_2 : FF R_Wa 6 2 (.array .int) := ⟨R_Wa, T_Wa, 4, rfl, rfl, rfl, ty_Wa 2 (by decide)⟩
theorem ff_Wa_3 : FF R_Wa 6 3 (.array .int) := ⟨R_Wa, T_Wa, 4, rfl, rfl, rfl, ty_Wa 3 (by decide)⟩
theorem ff_Ta_1 : FF R_Ta 7 1 (.array .int) := ⟨R_Ta, T_Ta, 2, rfl, rfl, rfl, ty_Ta 1 (by decide)⟩
theorem ff_Tr_0 : FF R_Tr 8 0 (.object "EventWaves$Tape") := ⟨R_Tr, T_Tr, 4, rfl, rfl, rfl, ty_Tr 0 (by decide)⟩
theorem ff_Tr_1 : FF R_Tr 8 1 (.object "EventWaves$Circuit") := ⟨R_Tr, T_Tr, 4, rfl, rfl, rfl, ty_Tr 1 (by decide)⟩
theorem ff_Mo_1 : FF R_Mo 9 1 (.array .int) := ⟨R_Mo, T_Mo, 9, rfl, rfl, rfl, ty_Mo 1 (by decide)⟩
theorem ff_Mo_2 : FF R_Mo 9 2 (.array .int) := ⟨R_Mo, T_Mo, 9, rfl, rfl, rfl, ty_Mo 2 (by decide)⟩
theorem ff_Mo_4 : FF R_Mo 9 4 (.array .int) := ⟨R_Mo, T_Mo, 9, rfl, rfl, rfl, ty_Mo 4 (by decide)⟩
theorem ff_Mo_6 : FF R_Mo 9 6 (.array .int) := ⟨R_Mo, T_Mo, 9, rfl, rfl, rfl, ty_Mo 6 (by decide)⟩
theorem ff_Mo_7 : FF R_Mo 9 7 (.array .int) := ⟨R_Mo, T_Mo, 9, rfl, rfl, rfl, ty_Mo 7 (by decide)⟩
theorem ff_Mo_8 : FF R_Mo 9 8 (.array .int) := ⟨R_Mo, T_Mo, 9, rfl, rfl, rfl, ty_Mo 8 (by decide)⟩
theorem ln_EW_22 : Cond.methodLinkNest R_EW 22 y_Ta_init "EventWaves" ∈ nW := by decide +kernel
theorem ln_Ci_35 : Cond.methodLinkNest R_Ci 35 y_Ha_init "EventWaves" ∈ nW := by decide +kernel
theorem ln_Ci_42 : Cond.methodLinkNest R_Ci 42 y_Wa_init "EventWaves" ∈ nW := by decide +kernel
theorem ln_Ci_47 : Cond.methodLinkNest R_Ci 47 y_Ne_init "EventWaves" ∈ nW := by decide +kernel
theorem ln_Ci_48 : Cond.methodLinkNest R_Ci 48 y_Ga_init "EventWaves" ∈ nW := by decide +kernel
theorem ln_Ci_49 : Cond.methodLinkNest R_Ci 49 y_Ch_init "EventWaves" ∈ nW := by decide +kernel
theorem fn_Tr_84 : Cond.fieldLinkNest R_Tr 84 "EventWaves" "VALUE_BYTES" "[I" "EventWaves" ∈ nW := by decide +kernel
theorem fn_Wa_43 : Cond.fieldLinkNest R_Wa 43 "EventWaves" "POWERS" "[I" "EventWaves" ∈ nW := by decide +kernel
theorem fn_Wa_46 : Cond.fieldLinkNest R_Wa 46 "EventWaves" "VALUE_BYTES" "[I" "EventWaves" ∈ nW := by decide +kernel
theorem oi_1 : Cond.instanceMethod Lib.objectInit ∈ gAll := v_25
theorem oi_2 : Cond.code Lib.objectInit { data := #[177] } 1 none ∈ gAll := gm_of (i := 62) (by decide +kernel) (by decide +kernel)
theorem lo_EW : Cond.methodLink R_EW 1 Lib.objectInit ∈ gAll := v_24
theorem lo_Ch : Cond.methodLink R_Ch 3 Lib.objectInit ∈ gAll := v_173
theorem lo_Ci : Cond.methodLink R_Ci 3 Lib.objectInit ∈ gAll := v_32
theorem lo_Ga : Cond.methodLink R_Ga 3 Lib.objectInit ∈ gAll := v_127
theorem lo_Ha : Cond.methodLink R_Ha 3 Lib.objectInit ∈ gAll := v_44
theorem lo_Ne : Cond.methodLink R_Ne 3 Lib.objectInit ∈ gAll := v_95
theorem lo_Ta : Cond.methodLink R_Ta 3 Lib.objectInit ∈ gAll := v_243
theorem lo_Tr : Cond.methodLink R_Tr 3 Lib.objectInit ∈ gAll := v_693
theorem lo_Wa : Cond.methodLink R_Wa 3 Lib.objectInit ∈ gAll := v_73
theorem lo_Mo : Cond.methodLink R_Mo 1 Lib.objectInit ∈ gAll := v_792
theorem ac_int : Cond.arrayClass .int ∈ gAll := v_66
theorem ac_long : Cond.arrayClass .long ∈ gAll := v_67
def hh_La_net : hdT := [(0, 8, 11, 13)]
theorem mw_La_net : MtW y_La_net c_La_net 3 (some .int) hh_La_net 2 := ⟨v_328, v_0, ⟨by decide, by decide⟩, np_of (by decide +kernel)⟩
theorem ms_La_net : Cond.static y_La_net ∈ gAll := v_327
def hh_La_gate : hdT := [(0, 14, 17, 19), (0, 14, 21, 13), (0, 14, 25, 21)]
theorem mw_La_gate : MtW y_La_gate c_La_gate 7 (some .int) hh_La_gate 6 := ⟨v_413, v_0, ⟨by decide, by decide⟩, np_of (by decide +kernel)⟩
theorem ms_La_gate : Cond.static y_La_gate ∈ gAll := v_412
def hh_La_delay : hdT := [(0, 19, 22, 19), (0, 19, 26, 21)]
theorem mw_La_delay : MtW y_La_delay c_La_delay 6 (some .int) hh_La_delay 5 := ⟨v_521, v_0, ⟨by decide, by decide⟩, np_of (by decide +kernel)⟩
theorem ms_La_delay : Cond.static y_La_delay ∈ gAll := v_520
def hh_La_spike : hdT := [(0, 16, 19, 21)]
theorem mw_La_spike : MtW y_La_spike c_La_spike 4 (some .int) hh_La_spike 3 := ⟨v_537, v_0, ⟨by decide, by decide⟩, np_of (by decide +kernel)⟩
theorem ms_La_spike : Cond.static y_La_spike ∈ gAll := v_536
def hh_La_drive : hdT := [(0, 13, 16, 19), (0, 13, 20, 13), (0, 13, 24, 21)]
theorem mw_La_drive : MtW y_La_drive c_La_drive 7 (some .int) hh_La_drive 5 := ⟨v_545, v_0, ⟨by decide, by decide⟩, np_of (by decide +kernel)⟩
theorem ms_La_drive : Cond.static y_La_drive ∈ gAll := v_544
def hh_La_force : hdT := [(0, 13, 16, 19), (0, 13, 20, 13), (0, 13, 24, 21)]
theorem mw_La_force : MtW y_La_force c_La_force 7 (some .int) hh_La_force 5 := ⟨v_568, v_0, ⟨by decide, by decide⟩, np_of (by decide +kernel)⟩
theorem ms_La_force : Cond.static y_La_force ∈ gAll := v_567
def hh_La_release : hdT := [(0, 11, 14, 19), (0, 11, 18, 13), (0, 11, 22, 21)]
theorem mw_La_release : MtW y_La_release c_La_release 6 (some .int) hh_La_release 4 := ⟨v_575, v_0, ⟨by decide, by decide⟩, np_of (by decide +kernel)⟩
theorem ms_La_release : Cond.static y_La_release ∈ gAll := v_574
def hh_La_check : hdT := [(0, 14, 17, 19), (0, 14, 21, 13), (0, 14, 25, 21)]
theorem mw_La_check : MtW y_La_check c_La_check 7 (some .int) hh_La_check 6 := ⟨v_582, v_0, ⟨by decide, by decide⟩, np_of (by decide +kernel)⟩
theorem ms_La_check : Cond.static y_La_check ∈ gAll := v_581
def hh_La_broken : hdT := [(0, 9, 12, 19)]
theorem mw_La_broken : MtW y_La_broken c_La_broken 4 (some .int) hh_La_broken 3 := ⟨v_600, v_0, ⟨by decide, by decide⟩, np_of (by decide +kernel)⟩
theorem ms_La_broken : Cond.static y_La_broken ∈ gAll := v_599
def hh_La_run : hdT := [(0, 8, 11, 21)]
theorem mw_La_run : MtW y_La_run c_La_run 5 (some .int) hh_La_run 3 := ⟨v_608, v_0, ⟨by decide, by decide⟩, np_of (by decide +kernel)⟩
theorem ms_La_run : Cond.static y_La_run ∈ gAll := v_607
def hh_La_at : hdT := [(0, 11, 14, 19), (0, 11, 18, 21)]
theorem mw_La_at : MtW y_La_at c_La_at 6 (some .int) hh_La_at 4 := ⟨v_648, v_0, ⟨by decide, by decide⟩, np_of (by decide +kernel)⟩
theorem ms_La_at : Cond.static y_La_at ∈ gAll := v_647
def hh_La_value : hdT := [(0, 9, 12, 19)]
theorem mw_La_value : MtW y_La_value c_La_value 4 (some .int) hh_La_value 3 := ⟨v_660, v_0, ⟨by decide, by decide⟩, np_of (by decide +kernel)⟩
theorem ms_La_value : Cond.static y_La_value ∈ gAll := v_659
def hh_La_change : hdT := [(0, 10, 13, 19)]
theorem mw_La_change : MtW y_La_change c_La_change 5 (some .int) hh_La_change 4 := ⟨v_667, v_0, ⟨by decide, by decide⟩, np_of (by decide +kernel)⟩
theorem ms_La_change : Cond.static y_La_change ∈ gAll := v_666
def hh_La_counted : hdT := [(0, 8, 11, 19)]
theorem mw_La_counted : MtW y_La_counted c_La_counted 4 (some .int) hh_La_counted 3 := ⟨v_676, v_0, ⟨by decide, by decide⟩, np_of (by decide +kernel)⟩
theorem ms_La_counted : Cond.static y_La_counted ∈ gAll := v_675
def hh_La_read : hdT := [(0, 8, 11, 13)]
theorem mw_La_read : MtW y_La_read c_La_read 3 (some .int) hh_La_read 2 := ⟨v_683, v_0, ⟨by decide, by decide⟩, np_of (by decide +kernel)⟩
theorem ms_La_read : Cond.static y_La_read ∈ gAll := v_682
def hh_La_write : hdT := [(0, 9, 12, 19)]
theorem mw_La_write : MtW y_La_write c_La_write 4 (some .int) hh_La_write 3 := ⟨v_756, v_0, ⟨by decide, by decide⟩, np_of (by decide +kernel)⟩
theorem ms_La_write : Cond.static y_La_write ∈ gAll := v_755
def hh_La_save : hdT := [(0, 8, 11, 13)]
theorem mw_La_save : MtW y_La_save c_La_save 3 (some .int) hh_La_save 2 := ⟨v_781, v_0, ⟨by decide, by decide⟩, np_of (by decide +kernel)⟩
theorem ms_La_save : Cond.static y_La_save ∈ gAll := v_780
section THR
variable {F : gT} {cc : ByteArray} {nL : Nat} {rm : Room} {pc : Nat} {lv : lvT} {st : List Value} {k n : Nat} {E : gE} {B : bsT} {N : nwT} {w : wdT} {Q : Option Value → Heap → Prop} {X : String → Heap → Prop} {mc ms : Nat} {ret0 : Option FieldType}
/-- one cell more, of which nobody speaks -/
abbrev nx1 (N : nwT) : nwT := (N.1, N.2.1, N.2.2 + 1)
theorem gs_throw (hF : Fb F cc "EventWaves" nL rm) (hM : Fm F ret0 Q X mc ms) (htab : ∀ x ∈ (gc F).exceptionTable.toList, False) (hE : en E (gs F)) {M text : String} {ik is ic : Nat} (hT : TH "EventWaves" M ik ic)
    (h0 : decode cc pc = .ok (.new ik, 3)) (h3 : decode cc (pc + 3) = .ok (.dup, 1)) (h4 : decode cc (pc + 4) = .ok (.ldc is, 2)) (h6 : decode cc (pc + 6) = .ok (.invokespecial ic, 3)) (h9 : decode cc (pc + 9) = .ok (.athrow, 1)) (hst : (is, text) ∈ sW)
    (hfr : 5 < rm.frames) (hlc : (st.map fun v => v.category).sum + 82 ≤ rm.locals) (hk : k + 1 ≤ mc ∧ mc ≤ rm.cells) (hn : n + 6 ≤ ms ∧ ms ≤ rm.slots)
    (hX : ∀ H, gw E B (nx1 N) w H → X M H) : Go F pc lv st (gw E B N w) k n :=
  go_throw hF hM htab hE (names := nmR) rfl h0 h3 h4 h6 h9 hT.1 hT.2.1 hT.2.2.1 hst hT.2.2.2.1 hT.2.2.2.2 (by decide +kernel) hfr (by show _ + (13 * (2 + 1) + 42) ≤ _; omega) hk hn (fun H h => h.1) (fun H H' hG hz hq => hX H' (gw_grow hG hz hq))
end THR
