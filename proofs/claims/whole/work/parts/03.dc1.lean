def t0_Ch_init : List (Nat × Instr × Nat) := [(0, .aload_n 0, 1), (1, .invokespecial 3, 3), (4, .return_, 1)]
theorem t0_Ch_init_ok : t0_Ch_init.all (fun x => decide (decode c_Ch_init x.1 = .ok x.2)) = true := by decide +kernel
theorem d_Ch_init_0 : decode c_Ch_init 0 = .ok (.aload_n 0, 1) := dc_of (x := (0, .aload_n 0, 1)) t0_Ch_init_ok (i := 0) rfl
theorem d_Ch_init_1 : decode c_Ch_init 1 = .ok (.invokespecial 3, 3) := dc_of (x := (1, .invokespecial 3, 3)) t0_Ch_init_ok (i := 1) rfl
theorem d_Ch_init_4 : decode c_Ch_init 4 = .ok (.return_, 1) := dc_of (x := (4, .return_, 1)) t0_Ch_init_ok (i := 2) rfl
def t0_Ch_begin : List (Nat × Instr × Nat) := [(0, .aload_n 0, 1), (1, .iload_n 1, 1), (2, .putfield 9, 3), (5, .aload_n 0, 1), (6, .iload_n 2, 1), (7, .putfield 15, 3), (10, .aload_n 0, 1), (11, .iload_n 3, 1), (12, .putfield 18, 3), (15, .aload_n 0, 1), (16, .iload 4, 2), (18, .putfield 21, 3), (21, .aload_n 0, 1), (22, .iconst 0, 1), (23, .putfield 24, 3), (26, .return_, 1)]
theorem t0_Ch_begin_ok : t0_Ch_begin.all (fun x => decide (decode c_Ch_begin x.1 = .ok x.2)) = true := by decide +kernel
theorem d_Ch_begin_0 : decode c_Ch_begin 0 = .ok (.aload_n 0, 1) := dc_of (x := (0, .aload_n 0, 1)) t0_Ch_begin_ok (i := 0) rfl
theorem d_Ch_begin_1 : decode c_Ch_begin 1 = .ok (.iload_n 1, 1) := dc_of (x := (1, .iload_n 1, 1)) t0_Ch_begin_ok (i := 1) rfl
theorem d_Ch_begin_2 : decode c_Ch_begin 2 = .ok (.putfield 9, 3) := dc_of (x := (2, .putfield 9, 3)) t0_Ch_begin_ok (i := 2) rfl
theorem d_Ch_begin_5 : decode c_Ch_begin 5 = .ok (.aload_n 0, 1) := dc_of (x := (5, .aload_n 0, 1)) t0_Ch_begin_ok (i := 3) rfl
theorem d_Ch_begin_6 : decode c_Ch_begin 6 = .ok (.iload_n 2, 1) := dc_of (x := (6, .iload_n 2, 1)) t0_Ch_begin_ok (i := 4) rfl
theorem d_Ch_begin_7 : decode c_Ch_begin 7 = .ok (.putfield 15, 3) := dc_of (x := (7, .putfield 15, 3)) t0_Ch_begin_ok (i := 5) rfl
theorem d_Ch_begin_10 : decode c_Ch_begin 10 = .ok (.aload_n 0, 1) := dc_of (x := (10, .aload_n 0, 1)) t0_Ch_begin_ok (i := 6) rfl
theorem d_Ch_begin_11 : decode c_Ch_begin 11 = .ok (.iload_n 3, 1) := dc_of (x := (11, .iload_n 3, 1)) t0_Ch_begin_ok (i := 7) rfl
theorem d_Ch_begin_12 : decode c_Ch_begin 12 = .ok (.putfield 18, 3) := dc_of (x := (12, .putfield 18, 3)) t0_Ch_begin_ok (i := 8) rfl
theorem d_Ch_begin_15 : decode c_Ch_begin 15 = .ok (.aload_n 0, 1) := dc_of (x := (15, .aload_n 0, 1)) t0_Ch_begin_ok (i := 9) rfl
theorem d_Ch_begin_16 : decode c_Ch_begin 16 = .ok (.iload 4, 2) := dc_of (x := (16, .iload 4, 2)) t0_Ch_begin_ok (i := 10) rfl
theorem d_Ch_begin_18 : decode c_Ch_begin 18 = .ok (.putfield 21, 3) := dc_of (x := (18, .putfield 21, 3)) t0_Ch_begin_ok (i := 11) rfl
theorem d_Ch_begin_21 : decode c_Ch_begin 21 = .ok (.aload_n 0, 1) := dc_of (x := (21, .aload_n 0, 1)) t0_Ch_begin_ok (i := 12) rfl
theorem d_Ch_begin_22 : decode c_Ch_begin 22 = .ok (.iconst 0, 1) := dc_of (x := (22, .iconst 0, 1)) t0_Ch_begin_ok (i := 13) rfl
theorem d_Ch_begin_23 : decode c_Ch_begin 23 = .ok (.putfield 24, 3) := dc_of (x := (23, .putfield 24, 3)) t0_Ch_begin_ok (i := 14) rfl
theorem d_Ch_begin_26 : decode c_Ch_begin 26 = .ok (.return_, 1) := dc_of (x := (26, .return_, 1)) t0_Ch_begin_ok (i := 15) rfl
def t0_Ch_copyFrom : List (Nat × Instr × Nat) := [(0, .aload_n 0, 1), (1, .aload_n 1, 1), (2, .getfield 9, 3), (5, .putfield 9, 3), (8, .aload_n 0, 1), (9, .aload_n 1, 1), (10, .getfield 15, 3), (13, .putfield 15, 3), (16, .aload_n 0, 1), (17, .aload_n 1, 1), (18, .getfield 18, 3), (21, .putfield 18, 3), (24, .aload_n 0, 1), (25, .aload_n 1, 1), (26, .getfield 21, 3), (29, .putfield 21, 3), (32, .aload_n 0, 1), (33, .aload_n 1, 1), (34, .getfield 24, 3), (37, .putfield 24, 3), (40, .return_, 1)]
theorem t0_Ch_copyFrom_ok : t0_Ch_copyFrom.all (fun x => decide (decode c_Ch_copyFrom x.1 = .ok x.2)) = true := by decide +kernel
theorem d_Ch_copyFrom_0 : decode c_Ch_copyFrom 0 = .ok (.aload_n 0, 1) := dc_of (x := (0, .aload_n 0, 1)) t0_Ch_copyFrom_ok (i := 0) rfl
theorem d_Ch_copyFrom_1 : decode c_Ch_copyFrom 1 = .ok (.aload_n 1, 1) := dc_of (x := (1, .aload_n 1, 1)) t0_Ch_copyFrom_ok (i := 1) rfl
theorem d_Ch_copyFrom_2 : decode c_Ch_copyFrom 2 = .ok (.getfield 9, 3) := dc_of (x := (2, .getfield 9, 3)) t0_Ch_copyFrom_ok (i := 2) rfl
theorem d_Ch_copyFrom_5 : decode c_Ch_copyFrom 5 = .ok (.putfield 9, 3) := dc_of (x := (5, .putfield 9, 3)) t0_Ch_copyFrom_ok (i := 3) rfl
theorem d_Ch_copyFrom_8 : decode c_Ch_copyFrom 8 = .ok (.aload_n 0, 1) := dc_of (x := (8, .aload_n 0, 1)) t0_Ch_copyFrom_ok (i := 4) rfl
theorem d_Ch_copyFrom_9 : decode c_Ch_copyFrom 9 = .ok (.aload_n 1, 1) := dc_of (x := (9, .aload_n 1, 1)) t0_Ch_copyFrom_ok (i := 5) rfl
theorem d_Ch_copyFrom_10 : decode c_Ch_copyFrom 10 = .ok (.getfield 15, 3) := dc_of (x := (10, .getfield 15, 3)) t0_Ch_copyFrom_ok (i := 6) rfl
theorem d_Ch_copyFrom_13 : decode c_Ch_copyFrom 13 = .ok (.putfield 15, 3) := dc_of (x := (13, .putfield 15, 3)) t0_Ch_copyFrom_ok (i := 7) rfl
theorem d_Ch_copyFrom_16 : decode c_Ch_copyFrom 16 = .ok (.aload_n 0, 1) := dc_of (x := (16, .aload_n 0, 1)) t0_Ch_copyFrom_ok (i := 8) rfl
theorem d_Ch_copyFrom_17 : decode c_Ch_copyFrom 17 = .ok (.aload_n 1, 1) := dc_of (x := (17, .aload_n 1, 1)) t0_Ch_copyFrom_ok (i := 9) rfl
theorem d_Ch_copyFrom_18 : decode c_Ch_copyFrom 18 = .ok (.getfield 18, 3) := dc_of (x := (18, .getfield 18, 3)) t0_Ch_copyFrom_ok (i := 10) rfl
theorem d_Ch_copyFrom_21 : decode c_Ch_copyFrom 21 = .ok (.putfield 18, 3) := dc_of (x := (21, .putfield 18, 3)) t0_Ch_copyFrom_ok (i := 11) rfl
theorem d_Ch_copyFrom_24 : decode c_Ch_copyFrom 24 = .ok (.aload_n 0, 1) := dc_of (x := (24, .aload_n 0, 1)) t0_Ch_copyFrom_ok (i := 12) rfl
theorem d_Ch_copyFrom_25 : decode c_Ch_copyFrom 25 = .ok (.aload_n 1, 1) := dc_of (x := (25, .aload_n 1, 1)) t0_Ch_copyFrom_ok (i := 13) rfl
theorem d_Ch_copyFrom_26 : decode c_Ch_copyFrom 26 = .ok (.getfield 21, 3) := dc_of (x := (26, .getfield 21, 3)) t0_Ch_copyFrom_ok (i := 14) rfl
theorem d_Ch_copyFrom_29 : decode c_Ch_copyFrom 29 = .ok (.putfield 21, 3) := dc_of (x := (29, .putfield 21, 3)) t0_Ch_copyFrom_ok (i := 15) rfl
theorem d_Ch_copyFrom_32 : decode c_Ch_copyFrom 32 = .ok (.aload_n 0, 1) := dc_of (x := (32, .aload_n 0, 1)) t0_Ch_copyFrom_ok (i := 16) rfl
theorem d_Ch_copyFrom_33 : decode c_Ch_copyFrom 33 = .ok (.aload_n 1, 1) := dc_of (x := (33, .aload_n 1, 1)) t0_Ch_copyFrom_ok (i := 17) rfl
theorem d_Ch_copyFrom_34 : decode c_Ch_copyFrom 34 = .ok (.getfield 24, 3) := dc_of (x := (34, .getfield 24, 3)) t0_Ch_copyFrom_ok (i := 18) rfl
theorem d_Ch_copyFrom_37 : decode c_Ch_copyFrom 37 = .ok (.putfield 24, 3) := dc_of (x := (37, .putfield 24, 3)) t0_Ch_copyFrom_ok (i := 19) rfl
theorem d_Ch_copyFrom_40 : decode c_Ch_copyFrom 40 = .ok (.return_, 1) := dc_of (x := (40, .return_, 1)) t0_Ch_copyFrom_ok (i := 20) rfl
def t0_Ch_isWithin : List (Nat × Instr × Nat) := [(0, .lload_n 1, 1), (1, .ldc2_w 27, 3), (4, .lcmp, 1), (5, .ifCond .eq 19, 3), (8, .lload_n 3, 1), (9, .lload_n 1, 1), (10, .lsub, 1), (11, .aload_n 0, 1), (12, .getfield 21, 3), (15, .i2l, 1), (16, .lcmp, 1), (17, .ifCond .ge 7, 3), (20, .iconst 1, 1), (21, .goto 4, 3), (24, .iconst 0, 1), (25, .ireturn, 1)]
theorem t0_Ch_isWithin_ok : t0_Ch_isWithin.all (fun x => decide (decode c_Ch_isWithin x.1 = .ok x.2)) = true := by decide +kernel
theorem d_Ch_isWithin_0 : decode c_Ch_isWithin 0 = .ok (.lload_n 1, 1) := dc_of (x := (0, .lload_n 1, 1)) t0_Ch_isWithin_ok (i := 0) rfl
theorem d_Ch_isWithin_1 : decode c_Ch_isWithin 1 = .ok (.ldc2_w 27, 3) := dc_of (x := (1, .ldc2_w 27, 3)) t0_Ch_isWithin_ok (i := 1) rfl
theorem d_Ch_isWithin_4 : decode c_Ch_isWithin 4 = .ok (.lcmp, 1) := dc_of (x := (4, .lcmp, 1)) t0_Ch_isWithin_ok (i := 2) rfl
theorem d_Ch_isWithin_5 : decode c_Ch_isWithin 5 = .ok (.ifCond .eq 19, 3) := dc_of (x := (5, .ifCond .eq 19, 3)) t0_Ch_isWithin_ok (i := 3) rfl
theorem d_Ch_isWithin_8 : decode c_Ch_isWithin 8 = .ok (.lload_n 3, 1) := dc_of (x := (8, .lload_n 3, 1)) t0_Ch_isWithin_ok (i := 4) rfl
theorem d_Ch_isWithin_9 : decode c_Ch_isWithin 9 = .ok (.lload_n 1, 1) := dc_of (x := (9, .lload_n 1, 1)) t0_Ch_isWithin_ok (i := 5) rfl
theorem d_Ch_isWithin_10 : decode c_Ch_isWithin 10 = .ok (.lsub, 1) := dc_of (x := (10, .lsub, 1)) t0_Ch_isWithin_ok (i := 6) rfl
theorem d_Ch_isWithin_11 : decode c_Ch_isWithin 11 = .ok (.aload_n 0, 1) := dc_of (x := (11, .aload_n 0, 1)) t0_Ch_isWithin_ok (i := 7) rfl
theorem d_Ch_isWithin_12 : decode c_Ch_isWithin 12 = .ok (.getfield 21, 3) := dc_of (x := (12, .getfield 21, 3)) t0_Ch_isWithin_ok (i := 8) rfl
theorem d_Ch_isWithin_15 : decode c_Ch_isWithin 15 = .ok (.i2l, 1) := dc_of (x := (15, .i2l, 1)) t0_Ch_isWithin_ok (i := 9) rfl
theorem d_Ch_isWithin_16 : decode c_Ch_isWithin 16 = .ok (.lcmp, 1) := dc_of (x := (16, .lcmp, 1)) t0_Ch_isWithin_ok (i := 10) rfl
theorem d_Ch_isWithin_17 : decode c_Ch_isWithin 17 = .ok (.ifCond .ge 7, 3) := dc_of (x := (17, .ifCond .ge 7, 3)) t0_Ch_isWithin_ok (i := 11) rfl
theorem d_Ch_isWithin_20 : decode c_Ch_isWithin 20 = .ok (.iconst 1, 1) := dc_of (x := (20, .iconst 1, 1)) t0_Ch_isWithin_ok (i := 12) rfl
theorem d_Ch_isWithin_21 : decode c_Ch_isWithin 21 = .ok (.goto 4, 3) := dc_of (x := (21, .goto 4, 3)) t0_Ch_isWithin_ok (i := 13) rfl
theorem d_Ch_isWithin_24 : decode c_Ch_isWithin 24 = .ok (.iconst 0, 1) := dc_of (x := (24, .iconst 0, 1)) t0_Ch_isWithin_ok (i := 14) rfl
theorem d_Ch_isWithin_25 : decode c_Ch_isWithin 25 = .ok (.ireturn, 1) := dc_of (x := (25, .ireturn, 1)) t0_Ch_isWithin_ok (i := 15) rfl
def t0_Ga_init : List (Nat × Instr × Nat) := [(0, .aload_n 0, 1), (1, .invokespecial 3, 3), (4, .return_, 1)]
theorem t0_Ga_init_ok : t0_Ga_init.all (fun x => decide (decode c_Ga_init x.1 = .ok x.2)) = true := by decide +kernel
theorem d_Ga_init_0 : decode c_Ga_init 0 = .ok (.aload_n 0, 1) := dc_of (x := (0, .aload_n 0, 1)) t0_Ga_init_ok (i := 0) rfl
theorem d_Ga_init_1 : decode c_Ga_init 1 = .ok (.invokespecial 3, 3) := dc_of (x := (1, .invokespecial 3, 3)) t0_Ga_init_ok (i := 1) rfl
theorem d_Ga_init_4 : decode c_Ga_init 4 = .ok (.return_, 1) := dc_of (x := (4, .return_, 1)) t0_Ga_init_ok (i := 2) rfl
def t0_Ga_begin : List (Nat × Instr × Nat) := [(0, .aload_n 0, 1), (1, .iload_n 1, 1), (2, .putfield 9, 3), (5, .aload_n 0, 1), (6, .iload_n 2, 1), (7, .putfield 15, 3), (10, .aload_n 0, 1), (11, .iload_n 3, 1), (12, .putfield 18, 3), (15, .aload_n 0, 1), (16, .iload 4, 2), (18, .putfield 21, 3), (21, .aload_n 0, 1), (22, .iconst 1, 1), (23, .putfield 24, 3), (26, .aload_n 0, 1), (27, .iconst 1, 1), (28, .putfield 27, 3), (31, .aload_n 0, 1), (32, .iload_n 1, 1), (33, .iconst 5, 1), (34, .if_icmp .ne 7, 3), (37, .iconst 3, 1), (38, .goto 4, 3), (41, .iconst 2, 1), (42, .putfield 30, 3), (45, .aload_n 0, 1), (46, .iconst (-1), 1), (47, .putfield 33, 3), (50, .aload_n 0, 1), (51, .iconst (-1), 1), (52, .putfield 36, 3), (55, .return_, 1)]
theorem t0_Ga_begin_ok : t0_Ga_begin.all (fun x => decide (decode c_Ga_begin x.1 = .ok x.2)) = true := by decide +kernel
theorem d_Ga_begin_0 : decode c_Ga_begin 0 = .ok (.aload_n 0, 1) := dc_of (x := (0, .aload_n 0, 1)) t0_Ga_begin_ok (i := 0) rfl
theorem d_Ga_begin_1 : decode c_Ga_begin 1 = .ok (.iload_n 1, 1) := dc_of (x := (1, .iload_n 1, 1)) t0_Ga_begin_ok (i := 1) rfl
theorem d_Ga_begin_2 : decode c_Ga_begin 2 = .ok (.putfield 9, 3) := dc_of (x := (2, .putfield 9, 3)) t0_Ga_begin_ok (i := 2) rfl
theorem d_Ga_begin_5 : decode c_Ga_begin 5 = .ok (.aload_n 0, 1) := dc_of (x := (5, .aload_n 0, 1)) t0_Ga_begin_ok (i := 3) rfl
theorem d_Ga_begin_6 : decode c_Ga_begin 6 = .ok (.iload_n 2, 1) := dc_of (x := (6, .iload_n 2, 1)) t0_Ga_begin_ok (i := 4) rfl
theorem d_Ga_begin_7 : decode c_Ga_begin 7 = .ok (.putfield 15, 3) := dc_of (x := (7, .putfield 15, 3)) t0_Ga_begin_ok (i := 5) rfl
theorem d_Ga_begin_10 : decode c_Ga_begin 10 = .ok (.aload_n 0, 1) := dc_of (x := (10, .aload_n 0, 1)) t0_Ga_begin_ok (i := 6) rfl
theorem d_Ga_begin_11 : decode c_Ga_begin 11 = .ok (.iload_n 3, 1) := dc_of (x := (11, .iload_n 3, 1)) t0_Ga_begin_ok (i := 7) rfl
theorem d_Ga_begin_12 : decode c_Ga_begin 12 = .ok (.putfield 18, 3) := dc_of (x := (12, .putfield 18, 3)) t0_Ga_begin_ok (i := 8) rfl
theorem d_Ga_begin_15 : decode c_Ga_begin 15 = .ok (.aload_n 0, 1) := dc_of (x := (15, .aload_n 0, 1)) t0_Ga_begin_ok (i := 9) rfl
theorem d_Ga_begin_16 : decode c_Ga_begin 16 = .ok (.iload 4, 2) := dc_of (x := (16, .iload 4, 2)) t0_Ga_begin_ok (i := 10) rfl
theorem d_Ga_begin_18 : decode c_Ga_begin 18 = .ok (.putfield 21, 3) := dc_of (x := (18, .putfield 21, 3)) t0_Ga_begin_ok (i := 11) rfl
theorem d_Ga_begin_21 : decode c_Ga_begin 21 = .ok (.aload_n 0, 1) := dc_of (x := (21, .aload_n 0, 1)) t0_Ga_begin_ok (i := 12) rfl
theorem d_Ga_begin_22 : decode c_Ga_begin 22 = .ok (.iconst 1, 1) := dc_of (x := (22, .iconst 1, 1)) t0_Ga_begin_ok (i := 13) rfl
theorem d_Ga_begin_23 : decode c_Ga_begin 23 = .ok (.putfield 24, 3) := dc_of (x := (23, .putfield 24, 3)) t0_Ga_begin_ok (i := 14) rfl
theorem d_Ga_begin_26 : decode c_Ga_begin 26 = .ok (.aload_n 0, 1) := dc_of (x := (26, .aload_n 0, 1)) t0_Ga_begin_ok (i := 15) rfl
theorem d_Ga_begin_27 : decode c_Ga_begin 27 = .ok (.iconst 1, 1) := dc_of (x := (27, .iconst 1, 1)) t0_Ga_begin_ok (i := 16) rfl
theorem d_Ga_begin_28 : decode c_Ga_begin 28 = .ok (.putfield 27, 3) := dc_of (x := (28, .putfield 27, 3)) t0_Ga_begin_ok (i := 17) rfl
theorem d_Ga_begin_31 : decode c_Ga_begin 31 = .ok (.aload_n 0, 1) := dc_of (x := (31, .aload_n 0, 1)) t0_Ga_begin_ok (i := 18) rfl
theorem d_Ga_begin_32 : decode c_Ga_begin 32 = .ok (.iload_n 1, 1) := dc_of (x := (32, .iload_n 1, 1)) t0_Ga_begin_ok (i := 19) rfl
theorem d_Ga_begin_33 : decode c_Ga_begin 33 = .ok (.iconst 5, 1) := dc_of (x := (33, .iconst 5, 1)) t0_Ga_begin_ok (i := 20) rfl
theorem d_Ga_begin_34 : decode c_Ga_begin 34 = .ok (.if_icmp .ne 7, 3) := dc_of (x := (34, .if_icmp .ne 7, 3)) t0_Ga_begin_ok (i := 21) rfl
theorem d_Ga_begin_37 : decode c_Ga_begin 37 = .ok (.iconst 3, 1) := dc_of (x := (37, .iconst 3, 1)) t0_Ga_begin_ok (i := 22) rfl
theorem d_Ga_begin_38 : decode c_Ga_begin 38 = .ok (.goto 4, 3) := dc_of (x := (38, .goto 4, 3)) t0_Ga_begin_ok (i := 23) rfl
theorem d_Ga_begin_41 : decode c_Ga_begin 41 = .ok (.iconst 2, 1) := dc_of (x := (41, .iconst 2, 1)) t0_Ga_begin_ok (i := 24) rfl
theorem d_Ga_begin_42 : decode c_Ga_begin 42 = .ok (.putfield 30, 3) := dc_of (x := (42, .putfield 30, 3)) t0_Ga_begin_ok (i := 25) rfl
theorem d_Ga_begin_45 : decode c_Ga_begin 45 = .ok (.aload_n 0, 1) := dc_of (x := (45, .aload_n 0, 1)) t0_Ga_begin_ok (i := 26) rfl
theorem d_Ga_begin_46 : decode c_Ga_begin 46 = .ok (.iconst (-1), 1) := dc_of (x := (46, .iconst (-1), 1)) t0_Ga_begin_ok (i := 27) rfl
theorem d_Ga_begin_47 : decode c_Ga_begin 47 = .ok (.putfield 33, 3) := dc_of (x := (47, .putfield 33, 3)) t0_Ga_begin_ok (i := 28) rfl
theorem d_Ga_begin_50 : decode c_Ga_begin 50 = .ok (.aload_n 0, 1) := dc_of (x := (50, .aload_n 0, 1)) t0_Ga_begin_ok (i := 29) rfl
theorem d_Ga_begin_51 : decode c_Ga_begin 51 = .ok (.iconst (-1), 1) := dc_of (x := (51, .iconst (-1), 1)) t0_Ga_begin_ok (i := 30) rfl
theorem d_Ga_begin_52 : decode c_Ga_begin 52 = .ok (.putfield 36, 3) := dc_of (x := (52, .putfield 36, 3)) t0_Ga_begin_ok (i := 31) rfl
theorem d_Ga_begin_55 : decode c_Ga_begin 55 = .ok (.return_, 1) := dc_of (x := (55, .return_, 1)) t0_Ga_begin_ok (i := 32) rfl
def t0_Ga_copyFrom : List (Nat × Instr × Nat) := [(0, .aload_n 0, 1), (1, .aload_n 1, 1), (2, .getfield 9, 3), (5, .putfield 9, 3), (8, .aload_n 0, 1), (9, .aload_n 1, 1), (10, .getfield 15, 3), (13, .putfield 15, 3), (16, .aload_n 0, 1), (17, .aload_n 1, 1), (18, .getfield 18, 3), (21, .putfield 18, 3), (24, .aload_n 0, 1), (25, .aload_n 1, 1), (26, .getfield 21, 3), (29, .putfield 21, 3), (32, .aload_n 0, 1), (33, .aload_n 1, 1), (34, .getfield 24, 3), (37, .putfield 24, 3), (40, .aload_n 0, 1), (41, .aload_n 1, 1), (42, .getfield 27, 3), (45, .putfield 27, 3), (48, .aload_n 0, 1), (49, .aload_n 1, 1), (50, .getfield 30, 3), (53, .putfield 30, 3), (56, .aload_n 0, 1), (57, .aload_n 1, 1), (58, .getfield 33, 3), (61, .putfield 33, 3), (64, .aload_n 0, 1), (65, .aload_n 1, 1), (66, .getfield 39, 3), (69, .putfield 39, 3), (72, .aload_n 0, 1), (73, .aload_n 1, 1), (74, .getfield 36, 3), (77, .putfield 36, 3), (80, .aload_n 0, 1), (81, .aload_n 1, 1), (82, .getfield 43, 3), (85, .putfield 43, 3), (88, .return_, 1)]
theorem t0_Ga_copyFrom_ok : t0_Ga_copyFrom.all (fun x => decide (decode c_Ga_copyFrom x.1 = .ok x.2)) = true := by decide +kernel
theorem d_Ga_copyFrom_0 : decode c_Ga_copyFrom 0 = .ok (.aload_n 0, 1) := dc_of (x := (0, .aload_n 0, 1)) t0_Ga_copyFrom_ok (i := 0) rfl
theorem d_Ga_copyFrom_1 : decode c_Ga_copyFrom 1 = .ok (.aload_n 1, 1) := dc_of (x := (1, .aload_n 1, 1)) t0_Ga_copyFrom_ok (i := 1) rfl
theorem d_Ga_copyFrom_2 : decode c_Ga_copyFrom 2 = .ok (.getfield 9, 3) := dc_of (x := (2, .getfield 9, 3)) t0_Ga_copyFrom_ok (i := 2) rfl
theorem d_Ga_copyFrom_5 : decode c_Ga_copyFrom 5 = .ok (.putfield 9, 3) := dc_of (x := (5, .putfield 9, 3)) t0_Ga_copyFrom_ok (i := 3) rfl
theorem d_Ga_copyFrom_8 : decode c_Ga_copyFrom 8 = .ok (.aload_n 0, 1) := dc_of (x := (8, .aload_n 0, 1)) t0_Ga_copyFrom_ok (i := 4) rfl
theorem d_Ga_copyFrom_9 : decode c_Ga_copyFrom 9 = .ok (.aload_n 1, 1) := dc_of (x := (9, .aload_n 1, 1)) t0_Ga_copyFrom_ok (i := 5) rfl
theorem d_Ga_copyFrom_10 : decode c_Ga_copyFrom 10 = .ok (.getfield 15, 3) := dc_of (x := (10, .getfield 15, 3)) t0_Ga_copyFrom_ok (i := 6) rfl
theorem d_Ga_copyFrom_13 : decode c_Ga_copyFrom 13 = .ok (.putfield 15, 3) := dc_of (x := (13, .putfield 15, 3)) t0_Ga_copyFrom_ok (i := 7) rfl
theorem d_Ga_copyFrom_16 : decode c_Ga_copyFrom 16 = .ok (.aload_n 0, 1) := dc_of (x := (16, .aload_n 0, 1)) t0_Ga_copyFrom_ok (i := 8) rfl
theorem d_Ga_copyFrom_17 : decode c_Ga_copyFrom 17 = .ok (.aload_n 1, 1) := dc_of (x := (17, .aload_n 1, 1)) t0_Ga_copyFrom_ok (i := 9) rfl
theorem d_Ga_copyFrom_18 : decode c_Ga_copyFrom 18 = .ok (.getfield 18, 3) := dc_of (x := (18, .getfield 18, 3)) t0_Ga_copyFrom_ok (i := 10) rfl
theorem d_Ga_copyFrom_21 : decode c_Ga_copyFrom 21 = .ok (.putfield 18, 3) := dc_of (x := (21, .putfield 18, 3)) t0_Ga_copyFrom_ok (i := 11) rfl
theorem d_Ga_copyFrom_24 : decode c_Ga_copyFrom 24 = .ok (.aload_n 0, 1) := dc_of (x := (24, .aload_n 0, 1)) t0_Ga_copyFrom_ok (i := 12) rfl
theorem d_Ga_copyFrom_25 : decode c_Ga_copyFrom 25 = .ok (.aload_n 1, 1) := dc_of (x := (25, .aload_n 1, 1)) t0_Ga_copyFrom_ok (i := 13) rfl
theorem d_Ga_copyFrom_26 : decode c_Ga_copyFrom 26 = .ok (.getfield 21, 3) := dc_of (x := (26, .getfield 21, 3)) t0_Ga_copyFrom_ok (i := 14) rfl
theorem d_Ga_copyFrom_29 : decode c_Ga_copyFrom 29 = .ok (.putfield 21, 3) := dc_of (x := (29, .putfield 21, 3)) t0_Ga_copyFrom_ok (i := 15) rfl
theorem d_Ga_copyFrom_32 : decode c_Ga_copyFrom 32 = .ok (.aload_n 0, 1) := dc_of (x := (32, .aload_n 0, 1)) t0_Ga_copyFrom_ok (i := 16) rfl
theorem d_Ga_copyFrom_33 : decode c_Ga_copyFrom 33 = .ok (.aload_n 1, 1) := dc_of (x := (33, .aload_n 1, 1)) t0_Ga_copyFrom_ok (i := 17) rfl
theorem d_Ga_copyFrom_34 : decode c_Ga_copyFrom 34 = .ok (.getfield 24, 3) := dc_of (x := (34, .getfield 24, 3)) t0_Ga_copyFrom_ok (i := 18) rfl
theorem d_Ga_copyFrom_37 : decode c_Ga_copyFrom 37 = .ok (.putfield 24, 3) := dc_of (x := (37, .putfield 24, 3)) t0_Ga_copyFrom_ok (i := 19) rfl
theorem d_Ga_copyFrom_40 : decode c_Ga_copyFrom 40 = .ok (.aload_n 0, 1) := dc_of (x := (40, .aload_n 0, 1)) t0_Ga_copyFrom_ok (i := 20) rfl
theorem d_Ga_copyFrom_41 : decode c_Ga_copyFrom 41 = .ok (.aload_n 1, 1) := dc_of (x := (41, .aload_n 1, 1)) t0_Ga_copyFrom_ok (i := 21) rfl
theorem d_Ga_copyFrom_42 : decode c_Ga_copyFrom 42 = .ok (.getfield 27, 3) := dc_of (x := (42, .getfield 27, 3)) t0_Ga_copyFrom_ok (i := 22) rfl
theorem d_Ga_copyFrom_45 : decode c_Ga_copyFrom 45 = .ok (.putfield 27, 3) := dc_of (x := (45, .putfield 27, 3)) t0_Ga_copyFrom_ok (i := 23) rfl
theorem d_Ga_copyFrom_48 : decode c_Ga_copyFrom 48 = .ok (.aload_n 0, 1) := dc_of (x := (48, .aload_n 0, 1)) t0_Ga_copyFrom_ok (i := 24) rfl
theorem d_Ga_copyFrom_49 : decode c_Ga_copyFrom 49 = .ok (.aload_n 1, 1) := dc_of (x := (49, .aload_n 1, 1)) t0_Ga_copyFrom_ok (i := 25) rfl
theorem d_Ga_copyFrom_50 : decode c_Ga_copyFrom 50 = .ok (.getfield 30, 3) := dc_of (x := (50, .getfield 30, 3)) t0_Ga_copyFrom_ok (i := 26) rfl
theorem d_Ga_copyFrom_53 : decode c_Ga_copyFrom 53 = .ok (.putfield 30, 3) := dc_of (x := (53, .putfield 30, 3)) t0_Ga_copyFrom_ok (i := 27) rfl
theorem d_Ga_copyFrom_56 : decode c_Ga_copyFrom 56 = .ok (.aload_n 0, 1) := dc_of (x := (56, .aload_n 0, 1)) t0_Ga_copyFrom_ok (i := 28) rfl
theorem d_Ga_copyFrom_57 : decode c_Ga_copyFrom 57 = .ok (.aload_n 1, 1) := dc_of (x := (57, .aload_n 1, 1)) t0_Ga_copyFrom_ok (i := 29) rfl
theorem d_Ga_copyFrom_58 : decode c_Ga_copyFrom 58 = .ok (.getfield 33, 3) := dc_of (x := (58, .getfield 33, 3)) t0_Ga_copyFrom_ok (i := 30) rfl
theorem d_Ga_copyFrom_61 : decode c_Ga_copyFrom 61 = .ok (.putfield 33, 3) := dc_of (x := (61, .putfield 33, 3)) t0_Ga_copyFrom_ok (i := 31) rfl
theorem d_Ga_copyFrom_64 : decode c_Ga_copyFrom 64 = .ok (.aload_n 0, 1) := dc_of (x := (64, .aload_n 0, 1)) t0_Ga_copyFrom_ok (i := 32) rfl
theorem d_Ga_copyFrom_65 : decode c_Ga_copyFrom 65 = .ok (.aload_n 1, 1) := dc_of (x := (65, .aload_n 1, 1)) t0_Ga_copyFrom_ok (i := 33) rfl
theorem d_Ga_copyFrom_66 : decode c_Ga_copyFrom 66 = .ok (.getfield 39, 3) := dc_of (x := (66, .getfield 39, 3)) t0_Ga_copyFrom_ok (i := 34) rfl
theorem d_Ga_copyFrom_69 : decode c_Ga_copyFrom 69 = .ok (.putfield 39, 3) := dc_of (x := (69, .putfield 39, 3)) t0_Ga_copyFrom_ok (i := 35) rfl
theorem d_Ga_copyFrom_72 : decode c_Ga_copyFrom 72 = .ok (.aload_n 0, 1) := dc_of (x := (72, .aload_n 0, 1)) t0_Ga_copyFrom_ok (i := 36) rfl
theorem d_Ga_copyFrom_73 : decode c_Ga_copyFrom 73 = .ok (.aload_n 1, 1) := dc_of (x := (73, .aload_n 1, 1)) t0_Ga_copyFrom_ok (i := 37) rfl
theorem d_Ga_copyFrom_74 : decode c_Ga_copyFrom 74 = .ok (.getfield 36, 3) := dc_of (x := (74, .getfield 36, 3)) t0_Ga_copyFrom_ok (i := 38) rfl
theorem d_Ga_copyFrom_77 : decode c_Ga_copyFrom 77 = .ok (.putfield 36, 3) := dc_of (x := (77, .putfield 36, 3)) t0_Ga_copyFrom_ok (i := 39) rfl
theorem d_Ga_copyFrom_80 : decode c_Ga_copyFrom 80 = .ok (.aload_n 0, 1) := dc_of (x := (80, .aload_n 0, 1)) t0_Ga_copyFrom_ok (i := 40) rfl
theorem d_Ga_copyFrom_81 : decode c_Ga_copyFrom 81 = .ok (.aload_n 1, 1) := dc_of (x := (81, .aload_n 1, 1)) t0_Ga_copyFrom_ok (i := 41) rfl
theorem d_Ga_copyFrom_82 : decode c_Ga_copyFrom 82 = .ok (.getfield 43, 3) := dc_of (x := (82, .getfield 43, 3)) t0_Ga_copyFrom_ok (i := 42) rfl
theorem d_Ga_copyFrom_85 : decode c_Ga_copyFrom 85 = .ok (.putfield 43, 3) := dc_of (x := (85, .putfield 43, 3)) t0_Ga_copyFrom_ok (i := 43) rfl
theorem d_Ga_copyFrom_88 : decode c_Ga_copyFrom 88 = .ok (.return_, 1) := dc_of (x := (88, .return_, 1)) t0_Ga_copyFrom_ok (i := 44) rfl
def t0_Ga_takeDelays : List (Nat × Instr × Nat) := [(0, .aload_n 0, 1), (1, .getfield 24, 3), (4, .iload_n 1, 1), (5, .if_icmp .ne 11, 3), (8, .aload_n 0, 1), (9, .getfield 27, 3), (12, .iload_n 2, 1), (13, .if_icmp .eq 7, 3), (16, .iconst 1, 1), (17, .goto 4, 3), (20, .iconst 0, 1), (21, .istore_n 3, 1), (22, .aload_n 0, 1), (23, .iload_n 1, 1), (24, .putfield 24, 3), (27, .aload_n 0, 1), (28, .iload_n 2, 1), (29, .putfield 27, 3), (32, .iload_n 3, 1), (33, .ireturn, 1)]
theorem t0_Ga_takeDelays_ok : t0_Ga_takeDelays.all (fun x => decide (decode c_Ga_takeDelays x.1 = .ok x.2)) = true := by decide +kernel
theorem d_Ga_takeDelays_0 : decode c_Ga_takeDelays 0 = .ok (.aload_n 0, 1) := dc_of (x := (0, .aload_n 0, 1)) t0_Ga_takeDelays_ok (i := 0) rfl
theorem d_Ga_takeDelays_1 : decode c_Ga_takeDelays 1 = .ok (.getfield 24, 3) := dc_of (x := (1, .getfield 24, 3)) t0_Ga_takeDelays_ok (i := 1) rfl
theorem d_Ga_takeDelays_4 : decode c_Ga_takeDelays 4 = .ok (.iload_n 1, 1) := dc_of (x := (4, .iload_n 1, 1)) t0_Ga_takeDelays_ok (i := 2) rfl
theorem d_Ga_takeDelays_5 : decode c_Ga_takeDelays 5 = .ok (.if_icmp .ne 11, 3) := dc_of (x := (5, .if_icmp .ne 11, 3)) t0_Ga_takeDelays_ok (i := 3) rfl
theorem d_Ga_takeDelays_8 : decode c_Ga_takeDelays 8 = .ok (.aload_n 0, 1) := dc_of (x := (8, .aload_n 0, 1)) t0_Ga_takeDelays_ok (i := 4) rfl
theorem d_Ga_takeDelays_9 : decode c_Ga_takeDelays 9 = .ok (.getfield 27, 3) := dc_of (x := (9, .getfield 27, 3)) t0_Ga_takeDelays_ok (i := 5) rfl
theorem d_Ga_takeDelays_12 : decode c_Ga_takeDelays 12 = .ok (.iload_n 2, 1) := dc_of (x := (12, .iload_n 2, 1)) t0_Ga_takeDelays_ok (i := 6) rfl
theorem d_Ga_takeDelays_13 : decode c_Ga_takeDelays 13 = .ok (.if_icmp .eq 7, 3) := dc_of (x := (13, .if_icmp .eq 7, 3)) t0_Ga_takeDelays_ok (i := 7) rfl
theorem d_Ga_takeDelays_16 : decode c_Ga_takeDelays 16 = .ok (.iconst 1, 1) := dc_of (x := (16, .iconst 1, 1)) t0_Ga_takeDelays_ok (i := 8) rfl
theorem d_Ga_takeDelays_17 : decode c_Ga_takeDelays 17 = .ok (.goto 4, 3) := dc_of (x := (17, .goto 4, 3)) t0_Ga_takeDelays_ok (i := 9) rfl
theorem d_Ga_takeDelays_20 : decode c_Ga_takeDelays 20 = .ok (.iconst 0, 1) := dc_of (x := (20, .iconst 0, 1)) t0_Ga_takeDelays_ok (i := 10) rfl
theorem d_Ga_takeDelays_21 : decode c_Ga_takeDelays 21 = .ok (.istore_n 3, 1) := dc_of (x := (21, .istore_n 3, 1)) t0_Ga_takeDelays_ok (i := 11) rfl
theorem d_Ga_takeDelays_22 : decode c_Ga_takeDelays 22 = .ok (.aload_n 0, 1) := dc_of (x := (22, .aload_n 0, 1)) t0_Ga_takeDelays_ok (i := 12) rfl
theorem d_Ga_takeDelays_23 : decode c_Ga_takeDelays 23 = .ok (.iload_n 1, 1) := dc_of (x := (23, .iload_n 1, 1)) t0_Ga_takeDelays_ok (i := 13) rfl
theorem d_Ga_takeDelays_24 : decode c_Ga_takeDelays 24 = .ok (.putfield 24, 3) := dc_of (x := (24, .putfield 24, 3)) t0_Ga_takeDelays_ok (i := 14) rfl
theorem d_Ga_takeDelays_27 : decode c_Ga_takeDelays 27 = .ok (.aload_n 0, 1) := dc_of (x := (27, .aload_n 0, 1)) t0_Ga_takeDelays_ok (i := 15) rfl
theorem d_Ga_takeDelays_28 : decode c_Ga_takeDelays 28 = .ok (.iload_n 2, 1) := dc_of (x := (28, .iload_n 2, 1)) t0_Ga_takeDelays_ok (i := 16) rfl
theorem d_Ga_takeDelays_29 : decode c_Ga_takeDelays 29 = .ok (.putfield 27, 3) := dc_of (x := (29, .putfield 27, 3)) t0_Ga_takeDelays_ok (i := 17) rfl
theorem d_Ga_takeDelays_32 : decode c_Ga_takeDelays 32 = .ok (.iload_n 3, 1) := dc_of (x := (32, .iload_n 3, 1)) t0_Ga_takeDelays_ok (i := 18) rfl
theorem d_Ga_takeDelays_33 : decode c_Ga_takeDelays 33 = .ok (.ireturn, 1) := dc_of (x := (33, .ireturn, 1)) t0_Ga_takeDelays_ok (i := 19) rfl
def t0_Ga_hears : List (Nat × Instr × Nat) := [(0, .aload_n 0, 1), (1, .getfield 9, 3), (4, .bipush 7, 2), (6, .if_icmp .ne 23, 3), (9, .aload_n 0, 1), (10, .getfield 18, 3), (13, .iload_n 1, 1), (14, .if_icmp .ne 11, 3), (17, .iload_n 2, 1), (18, .ifCond .eq 7, 3), (21, .iconst 1, 1), (22, .goto 28, 3), (25, .iconst 0, 1), (26, .goto 24, 3), (29, .aload_n 0, 1), (30, .getfield 15, 3), (33, .iload_n 1, 1), (34, .if_icmp .eq 11, 3), (37, .aload_n 0, 1), (38, .getfield 18, 3), (41, .iload_n 1, 1), (42, .if_icmp .ne 7, 3), (45, .iconst 1, 1), (46, .goto 4, 3), (49, .iconst 0, 1), (50, .ireturn, 1)]
theorem t0_Ga_hears_ok : t0_Ga_hears.all (fun x => decide (decode c_Ga_hears x.1 = .ok x.2)) = true := by decide +kernel
theorem d_Ga_hears_0 : decode c_Ga_hears 0 = .ok (.aload_n 0, 1) := dc_of (x := (0, .aload_n 0, 1)) t0_Ga_hears_ok (i := 0) rfl
theorem d_Ga_hears_1 : decode c_Ga_hears 1 = .ok (.getfield 9, 3) := dc_of (x := (1, .getfield 9, 3)) t0_Ga_hears_ok (i := 1) rfl
theorem d_Ga_hears_4 : decode c_Ga_hears 4 = .ok (.bipush 7, 2) := dc_of (x := (4, .bipush 7, 2)) t0_Ga_hears_ok (i := 2) rfl
theorem d_Ga_hears_6 : decode c_Ga_hears 6 = .ok (.if_icmp .ne 23, 3) := dc_of (x := (6, .if_icmp .ne 23, 3)) t0_Ga_hears_ok (i := 3) rfl
theorem d_Ga_hears_9 : decode c_Ga_hears 9 = .ok (.aload_n 0, 1) := dc_of (x := (9, .aload_n 0, 1)) t0_Ga_hears_ok (i := 4) rfl
theorem d_Ga_hears_10 : decode c_Ga_hears 10 = .ok (.getfield 18, 3) := dc_of (x := (10, .getfield 18, 3)) t0_Ga_hears_ok (i := 5) rfl
theorem d_Ga_hears_13 : decode c_Ga_hears 13 = .ok (.iload_n 1, 1) := dc_of (x := (13, .iload_n 1, 1)) t0_Ga_hears_ok (i := 6) rfl
theorem d_Ga_hears_14 : decode c_Ga_hears 14 = .ok (.if_icmp .ne 11, 3) := dc_of (x := (14, .if_icmp .ne 11, 3)) t0_Ga_hears_ok (i := 7) rfl
theorem d_Ga_hears_17 : decode c_Ga_hears 17 = .ok (.iload_n 2, 1) := dc_of (x := (17, .iload_n 2, 1)) t0_Ga_hears_ok (i := 8) rfl
theorem d_Ga_hears_18 : decode c_Ga_hears 18 = .ok (.ifCond .eq 7, 3) := dc_of (x := (18, .ifCond .eq 7, 3)) t0_Ga_hears_ok (i := 9) rfl
theorem d_Ga_hears_21 : decode c_Ga_hears 21 = .ok (.iconst 1, 1) := dc_of (x := (21, .iconst 1, 1)) t0_Ga_hears_ok (i := 10) rfl
theorem d_Ga_hears_22 : decode c_Ga_hears 22 = .ok (.goto 28, 3) := dc_of (x := (22, .goto 28, 3)) t0_Ga_hears_ok (i := 11) rfl
theorem d_Ga_hears_25 : decode c_Ga_hears 25 = .ok (.iconst 0, 1) := dc_of (x := (25, .iconst 0, 1)) t0_Ga_hears_ok (i := 12) rfl
theorem d_Ga_hears_26 : decode c_Ga_hears 26 = .ok (.goto 24, 3) := dc_of (x := (26, .goto 24, 3)) t0_Ga_hears_ok (i := 13) rfl
theorem d_Ga_hears_29 : decode c_Ga_hears 29 = .ok (.aload_n 0, 1) := dc_of (x := (29, .aload_n 0, 1)) t0_Ga_hears_ok (i := 14) rfl
theorem d_Ga_hears_30 : decode c_Ga_hears 30 = .ok (.getfield 15, 3) := dc_of (x := (30, .getfield 15, 3)) t0_Ga_hears_ok (i := 15) rfl
theorem d_Ga_hears_33 : decode c_Ga_hears 33 = .ok (.iload_n 1, 1) := dc_of (x := (33, .iload_n 1, 1)) t0_Ga_hears_ok (i := 16) rfl
theorem d_Ga_hears_34 : decode c_Ga_hears 34 = .ok (.if_icmp .eq 11, 3) := dc_of (x := (34, .if_icmp .eq 11, 3)) t0_Ga_hears_ok (i := 17) rfl
theorem d_Ga_hears_37 : decode c_Ga_hears 37 = .ok (.aload_n 0, 1) := dc_of (x := (37, .aload_n 0, 1)) t0_Ga_hears_ok (i := 18) rfl
theorem d_Ga_hears_38 : decode c_Ga_hears 38 = .ok (.getfield 18, 3) := dc_of (x := (38, .getfield 18, 3)) t0_Ga_hears_ok (i := 19) rfl
theorem d_Ga_hears_41 : decode c_Ga_hears 41 = .ok (.iload_n 1, 1) := dc_of (x := (41, .iload_n 1, 1)) t0_Ga_hears_ok (i := 20) rfl
theorem d_Ga_hears_42 : decode c_Ga_hears 42 = .ok (.if_icmp .ne 7, 3) := dc_of (x := (42, .if_icmp .ne 7, 3)) t0_Ga_hears_ok (i := 21) rfl
theorem d_Ga_hears_45 : decode c_Ga_hears 45 = .ok (.iconst 1, 1) := dc_of (x := (45, .iconst 1, 1)) t0_Ga_hears_ok (i := 22) rfl
theorem d_Ga_hears_46 : decode c_Ga_hears 46 = .ok (.goto 4, 3) := dc_of (x := (46, .goto 4, 3)) t0_Ga_hears_ok (i := 23) rfl
theorem d_Ga_hears_49 : decode c_Ga_hears 49 = .ok (.iconst 0, 1) := dc_of (x := (49, .iconst 0, 1)) t0_Ga_hears_ok (i := 24) rfl
theorem d_Ga_hears_50 : decode c_Ga_hears 50 = .ok (.ireturn, 1) := dc_of (x := (50, .ireturn, 1)) t0_Ga_hears_ok (i := 25) rfl
def t0_Ga_gives : List (Nat × Instr × Nat) := [(0, .iload_n 1, 1), (1, .iconst 3, 1), (2, .if_icmp .ne 7, 3), (5, .iconst 2, 1), (6, .goto 4, 3), (9, .iload_n 1, 1), (10, .istore_n 3, 1), (11, .iload_n 2, 1), (12, .iconst 3, 1), (13, .if_icmp .ne 7, 3), (16, .iconst 2, 1), (17, .goto 4, 3), (20, .iload_n 2, 1), (21, .istore 4, 2), (23, .aload_n 0, 1), (24, .getfield 9, 3), (27, .tableswitch 190 1 6 #[37, 50, 80, 110, 137, 158], 37), (64, .iload_n 3, 1), (65, .iconst 2, 1), (66, .if_icmp .ne 7, 3), (69, .iconst 2, 1), (70, .goto 6, 3), (73, .iconst 1, 1), (74, .iload_n 3, 1), (75, .isub, 1), (76, .ireturn, 1), (77, .iload_n 3, 1), (78, .ifCond .eq 8, 3), (81, .iload 4, 2), (83, .ifCond .ne 7, 3), (86, .iconst 0, 1), (87, .goto 19, 3), (90, .iload_n 3, 1), (91, .iconst 1, 1), (92, .if_icmp .ne 13, 3), (95, .iload 4, 2), (97, .iconst 1, 1), (98, .if_icmp .ne 7, 3), (101, .iconst 1, 1), (102, .goto 4, 3), (105, .iconst 2, 1), (106, .ireturn, 1), (107, .iload_n 3, 1), (108, .iconst 1, 1), (109, .if_icmp .eq 9, 3), (112, .iload 4, 2), (114, .iconst 1, 1), (115, .if_icmp .ne 7, 3), (118, .iconst 1, 1), (119, .goto 17, 3), (122, .iload_n 3, 1), (123, .ifCond .ne 12, 3), (126, .iload 4, 2), (128, .ifCond .ne 7, 3), (131, .iconst 0, 1), (132, .goto 4, 3), (135, .iconst 2, 1), (136, .ireturn, 1), (137, .iload_n 3, 1), (138, .iconst 2, 1)]
theorem t0_Ga_gives_ok : t0_Ga_gives.all (fun x => decide (decode c_Ga_gives x.1 = .ok x.2)) = true := by decide +kernel
def t1_Ga_gives : List (Nat × Instr × Nat) := [(139, .if_icmp .eq 9, 3), (142, .iload 4, 2), (144, .iconst 2, 1), (145, .if_icmp .ne 7, 3), (148, .iconst 2, 1), (149, .goto 14, 3), (152, .iload_n 3, 1), (153, .iload 4, 2), (155, .if_icmp .ne 7, 3), (158, .iconst 0, 1), (159, .goto 4, 3), (162, .iconst 1, 1), (163, .ireturn, 1), (164, .iload 4, 2), (166, .iconst 1, 1), (167, .if_icmp .ne 7, 3), (170, .iload_n 3, 1), (171, .goto 13, 3), (174, .iload 4, 2), (176, .ifCond .ne 7, 3), (179, .iconst 3, 1), (180, .goto 4, 3), (183, .iconst 2, 1), (184, .ireturn, 1), (185, .iload 4, 2), (187, .iconst 1, 1), (188, .if_icmp .ne 7, 3), (191, .iload_n 3, 1), (192, .goto 24, 3), (195, .iload 4, 2), (197, .ifCond .eq 11, 3), (200, .aload_n 0, 1), (201, .getfield 30, 3), (204, .iload_n 3, 1), (205, .if_icmp .ne 10, 3), (208, .aload_n 0, 1), (209, .getfield 30, 3), (212, .goto 4, 3), (215, .iconst 2, 1), (216, .ireturn, 1), (217, .iload_n 3, 1), (218, .ireturn, 1)]
theorem t1_Ga_gives_ok : t1_Ga_gives.all (fun x => decide (decode c_Ga_gives x.1 = .ok x.2)) = true := by decide +kernel
theorem d_Ga_gives_0 : decode c_Ga_gives 0 = .ok (.iload_n 1, 1) := dc_of (x := (0, .iload_n 1, 1)) t0_Ga_gives_ok (i := 0) rfl
theorem d_Ga_gives_1 : decode c_Ga_gives 1 = .ok (.iconst 3, 1) := dc_of (x := (1, .iconst 3, 1)) t0_Ga_gives_ok (i := 1) rfl
theorem d_Ga_gives_2 : decode c_Ga_gives 2 = .ok (.if_icmp .ne 7, 3) := dc_of (x := (2, .if_icmp .ne 7, 3)) t0_Ga_gives_ok (i := 2) rfl
theorem d_Ga_gives_5 : decode c_Ga_gives 5 = .ok (.iconst 2, 1) := dc_of (x := (5, .iconst 2, 1)) t0_Ga_gives_ok (i := 3) rfl
theorem d_Ga_gives_6 : decode c_Ga_gives 6 = .ok (.goto 4, 3) := dc_of (x := (6, .goto 4, 3)) t0_Ga_gives_ok (i := 4) rfl
theorem d_Ga_gives_9 : decode c_Ga_gives 9 = .ok (.iload_n 1, 1) := dc_of (x := (9, .iload_n 1, 1)) t0_Ga_gives_ok (i := 5) rfl
theorem d_Ga_gives_10 : decode c_Ga_gives 10 = .ok (.istore_n 3, 1) := dc_of (x := (10, .istore_n 3, 1)) t0_Ga_gives_ok (i := 6) rfl
theorem d_Ga_gives_11 : decode c_Ga_gives 11 = .ok (.iload_n 2, 1) := dc_of (x := (11, .iload_n 2, 1)) t0_Ga_gives_ok (i := 7) rfl
theorem d_Ga_gives_12 : decode c_Ga_gives 12 = .ok (.iconst 3, 1) := dc_of (x := (12, .iconst 3, 1)) t0_Ga_gives_ok (i := 8) rfl
theorem d_Ga_gives_13 : decode c_Ga_gives 13 = .ok (.if_icmp .ne 7, 3) := dc_of (x := (13, .if_icmp .ne 7, 3)) t0_Ga_gives_ok (i := 9) rfl
theorem d_Ga_gives_16 : decode c_Ga_gives 16 = .ok (.iconst 2, 1) := dc_of (x := (16, .iconst 2, 1)) t0_Ga_gives_ok (i := 10) rfl
theorem d_Ga_gives_17 : decode c_Ga_gives 17 = .ok (.goto 4, 3) := dc_of (x := (17, .goto 4, 3)) t0_Ga_gives_ok (i := 11) rfl
theorem d_Ga_gives_20 : decode c_Ga_gives 20 = .ok (.iload_n 2, 1) := dc_of (x := (20, .iload_n 2, 1)) t0_Ga_gives_ok (i := 12) rfl
theorem d_Ga_gives_21 : decode c_Ga_gives 21 = .ok (.istore 4, 2) := dc_of (x := (21, .istore 4, 2)) t0_Ga_gives_ok (i := 13) rfl
theorem d_Ga_gives_23 : decode c_Ga_gives 23 = .ok (.aload_n 0, 1) := dc_of (x := (23, .aload_n 0, 1)) t0_Ga_gives_ok (i := 14) rfl
theorem d_Ga_gives_24 : decode c_Ga_gives 24 = .ok (.getfield 9, 3) := dc_of (x := (24, .getfield 9, 3)) t0_Ga_gives_ok (i := 15) rfl
theorem d_Ga_gives_27 : decode c_Ga_gives 27 = .ok (.tableswitch 190 1 6 #[37, 50, 80, 110, 137, 158], 37) := dc_of (x := (27, .tableswitch 190 1 6 #[37, 50, 80, 110, 137, 158], 37)) t0_Ga_gives_ok (i := 16) rfl
theorem d_Ga_gives_64 : decode c_Ga_gives 64 = .ok (.iload_n 3, 1) := dc_of (x := (64, .iload_n 3, 1)) t0_Ga_gives_ok (i := 17) rfl
theorem d_Ga_gives_65 : decode c_Ga_gives 65 = .ok (.iconst 2, 1) := dc_of (x := (65, .iconst 2, 1)) t0_Ga_gives_ok (i := 18) rfl
theorem d_Ga_gives_66 : decode c_Ga_gives 66 = .ok (.if_icmp .ne 7, 3) := dc_of (x := (66, .if_icmp .ne 7, 3)) t0_Ga_gives_ok (i := 19) rfl
theorem d_Ga_gives_69 : decode c_Ga_gives 69 = .ok (.iconst 2, 1) := dc_of (x := (69, .iconst 2, 1)) t0_Ga_gives_ok (i := 20) rfl
theorem d_Ga_gives_70 : decode c_Ga_gives 70 = .ok (.goto 6, 3) := dc_of (x := (70, .goto 6, 3)) t0_Ga_gives_ok (i := 21) rfl
theorem d_Ga_gives_73 : decode c_Ga_gives 73 = .ok (.iconst 1, 1) := dc_of (x := (73, .iconst 1, 1)) t0_Ga_gives_ok (i := 22) rfl
theorem d_Ga_gives_74 : decode c_Ga_gives 74 = .ok (.iload_n 3, 1) := dc_of (x := (74, .iload_n 3, 1)) t0_Ga_gives_ok (i := 23) rfl
theorem d_Ga_gives_75 : decode c_Ga_gives 75 = .ok (.isub, 1) := dc_of (x := (75, .isub, 1)) t0_Ga_gives_ok (i := 24) rfl
theorem d_Ga_gives_76 : decode c_Ga_gives 76 = .ok (.ireturn, 1) := dc_of (x := (76, .ireturn, 1)) t0_Ga_gives_ok (i := 25) rfl
theorem d_Ga_gives_77 : decode c_Ga_gives 77 = .ok (.iload_n 3, 1) := dc_of (x := (77, .iload_n 3, 1)) t0_Ga_gives_ok (i := 26) rfl
theorem d_Ga_gives_78 : decode c_Ga_gives 78 = .ok (.ifCond .eq 8, 3) := dc_of (x := (78, .ifCond .eq 8, 3)) t0_Ga_gives_ok (i := 27) rfl
theorem d_Ga_gives_81 : decode c_Ga_gives 81 = .ok (.iload 4, 2) := dc_of (x := (81, .iload 4, 2)) t0_Ga_gives_ok (i := 28) rfl
theorem d_Ga_gives_83 : decode c_Ga_gives 83 = .ok (.ifCond .ne 7, 3) := dc_of (x := (83, .ifCond .ne 7, 3)) t0_Ga_gives_ok (i := 29) rfl
theorem d_Ga_gives_86 : decode c_Ga_gives 86 = .ok (.iconst 0, 1) := dc_of (x := (86, .iconst 0, 1)) t0_Ga_gives_ok (i := 30) rfl
theorem d_Ga_gives_87 : decode c_Ga_gives 87 = .ok (.goto 19, 3) := dc_of (x := (87, .goto 19, 3)) t0_Ga_gives_ok (i := 31) rfl
theorem d_Ga_gives_90 : decode c_Ga_gives 90 = .ok (.iload_n 3, 1) := dc_of (x := (90, .iload_n 3, 1)) t0_Ga_gives_ok (i := 32) rfl
theorem d_Ga_gives_91 : decode c_Ga_gives 91 = .ok (.iconst 1, 1) := dc_of (x := (91, .iconst 1, 1)) t0_Ga_gives_ok (i := 33) rfl
theorem d_Ga_gives_92 : decode c_Ga_gives 92 = .ok (.if_icmp .ne 13, 3) := dc_of (x := (92, .if_icmp .ne 13, 3)) t0_Ga_gives_ok (i := 34) rfl
theorem d_Ga_gives_95 : decode c_Ga_gives 95 = .ok (.iload 4, 2) := dc_of (x := (95, .iload 4, 2)) t0_Ga_gives_ok (i := 35) rfl
theorem d_Ga_gives_97 : decode c_Ga_gives 97 = .ok (.iconst 1, 1) := dc_of (x := (97, .iconst 1, 1)) t0_Ga_gives_ok (i := 36) rfl
theorem d_Ga_gives_98 : decode c_Ga_gives 98 = .ok (.if_icmp .ne 7, 3) := dc_of (x := (98, .if_icmp .ne 7, 3)) t0_Ga_gives_ok (i := 37) rfl
theorem d_Ga_gives_101 : decode c_Ga_gives 101 = .ok (.iconst 1, 1) := dc_of (x := (101, .iconst 1, 1)) t0_Ga_gives_ok (i := 38) rfl
theorem d_Ga_gives_102 : decode c_Ga_gives 102 = .ok (.goto 4, 3) := dc_of (x := (102, .goto 4, 3)) t0_Ga_gives_ok (i := 39) rfl
theorem d_Ga_gives_105 : decode c_Ga_gives 105 = .ok (.iconst 2, 1) := dc_of (x := (105, .iconst 2, 1)) t0_Ga_gives_ok (i := 40) rfl
theorem d_Ga_gives_106 : decode c_Ga_gives 106 = .ok (.ireturn, 1) := dc_of (x := (106, .ireturn, 1)) t0_Ga_gives_ok (i := 41) rfl
theorem d_Ga_gives_107 : decode c_Ga_gives 107 = .ok (.iload_n 3, 1) := dc_of (x := (107, .iload_n 3, 1)) t0_Ga_gives_ok (i := 42) rfl
theorem d_Ga_gives_108 : decode c_Ga_gives 108 = .ok (.iconst 1, 1) := dc_of (x := (108, .iconst 1, 1)) t0_Ga_gives_ok (i := 43) rfl
theorem d_Ga_gives_109 : decode c_Ga_gives 109 = .ok (.if_icmp .eq 9, 3) := dc_of (x := (109, .if_icmp .eq 9, 3)) t0_Ga_gives_ok (i := 44) rfl
theorem d_Ga_gives_112 : decode c_Ga_gives 112 = .ok (.iload 4, 2) := dc_of (x := (112, .iload 4, 2)) t0_Ga_gives_ok (i := 45) rfl
theorem d_Ga_gives_114 : decode c_Ga_gives 114 = .ok (.iconst 1, 1) := dc_of (x := (114, .iconst 1, 1)) t0_Ga_gives_ok (i := 46) rfl
theorem d_Ga_gives_115 : decode c_Ga_gives 115 = .ok (.if_icmp .ne 7, 3) := dc_of (x := (115, .if_icmp .ne 7, 3)) t0_Ga_gives_ok (i := 47) rfl
theorem d_Ga_gives_118 : decode c_Ga_gives 118 = .ok (.iconst 1, 1) := dc_of (x := (118, .iconst 1, 1)) t0_Ga_gives_ok (i := 48) rfl
theorem d_Ga_gives_119 : decode c_Ga_gives 119 = .ok (.goto 17, 3) := dc_of (x := (119, .goto 17, 3)) t0_Ga_gives_ok (i := 49) rfl
theorem d_Ga_gives_122 : decode c_Ga_gives 122 = .ok (.iload_n 3, 1) := dc_of (x := (122, .iload_n 3, 1)) t0_Ga_gives_ok (i := 50) rfl
theorem d_Ga_gives_123 : decode c_Ga_gives 123 = .ok (.ifCond .ne 12, 3) := dc_of (x := (123, .ifCond .ne 12, 3)) t0_Ga_gives_ok (i := 51) rfl
theorem d_Ga_gives_126 : decode c_Ga_gives 126 = .ok (.iload 4, 2) := dc_of (x := (126, .iload 4, 2)) t0_Ga_gives_ok (i := 52) rfl
theorem d_Ga_gives_128 : decode c_Ga_gives 128 = .ok (.ifCond .ne 7, 3) := dc_of (x := (128, .ifCond .ne 7, 3)) t0_Ga_gives_ok (i := 53) rfl
theorem d_Ga_gives_131 : decode c_Ga_gives 131 = .ok (.iconst 0, 1) := dc_of (x := (131, .iconst 0, 1)) t0_Ga_gives_ok (i := 54) rfl
theorem d_Ga_gives_132 : decode c_Ga_gives 132 = .ok (.goto 4, 3) := dc_of (x := (132, .goto 4, 3)) t0_Ga_gives_ok (i := 55) rfl
theorem d_Ga_gives_135 : decode c_Ga_gives 135 = .ok (.iconst 2, 1) := dc_of (x := (135, .iconst 2, 1)) t0_Ga_gives_ok (i := 56) rfl
theorem d_Ga_gives_136 : decode c_Ga_gives 136 = .ok (.ireturn, 1) := dc_of (x := (136, .ireturn, 1)) t0_Ga_gives_ok (i := 57) rfl
theorem d_Ga_gives_137 : decode c_Ga_gives 137 = .ok (.iload_n 3, 1) := dc_of (x := (137, .iload_n 3, 1)) t0_Ga_gives_ok (i := 58) rfl
theorem d_Ga_gives_138 : decode c_Ga_gives 138 = .ok (.iconst 2, 1) := dc_of (x := (138, .iconst 2, 1)) t0_Ga_gives_ok (i := 59) rfl
theorem d_Ga_gives_139 : decode c_Ga_gives 139 = .ok (.if_icmp .eq 9, 3) := dc_of (x := (139, .if_icmp .eq 9, 3)) t1_Ga_gives_ok (i := 0) rfl
theorem d_Ga_gives_142 : decode c_Ga_gives 142 = .ok (.iload 4, 2) := dc_of (x := (142, .iload 4, 2)) t1_Ga_gives_ok (i := 1) rfl
theorem d_Ga_gives_144 : decode c_Ga_gives 144 = .ok (.iconst 2, 1) := dc_of (x := (144, .iconst 2, 1)) t1_Ga_gives_ok (i := 2) rfl
theorem d_Ga_gives_145 : decode c_Ga_gives 145 = .ok (.if_icmp .ne 7, 3) := dc_of (x := (145, .if_icmp .ne 7, 3)) t1_Ga_gives_ok (i := 3) rfl
theorem d_Ga_gives_148 : decode c_Ga_gives 148 = .ok (.iconst 2, 1) := dc_of (x := (148, .iconst 2, 1)) t1_Ga_gives_ok (i := 4) rfl
theorem d_Ga_gives_149 : decode c_Ga_gives 149 = .ok (.goto 14, 3) := dc_of (x := (149, .goto 14, 3)) t1_Ga_gives_ok (i := 5) rfl
theorem d_Ga_gives_152 : decode c_Ga_gives 152 = .ok (.iload_n 3, 1) := dc_of (x := (152, .iload_n 3, 1)) t1_Ga_gives_ok (i := 6) rfl
theorem d_Ga_gives_153 : decode c_Ga_gives 153 = .ok (.iload 4, 2) := dc_of (x := (153, .iload 4, 2)) t1_Ga_gives_ok (i := 7) rfl
theorem d_Ga_gives_155 : decode c_Ga_gives 155 = .ok (.if_icmp .ne 7, 3) := dc_of (x := (155, .if_icmp .ne 7, 3)) t1_Ga_gives_ok (i := 8) rfl
theorem d_Ga_gives_158 : decode c_Ga_gives 158 = .ok (.iconst 0, 1) := dc_of (x := (158, .iconst 0, 1)) t1_Ga_gives_ok (i := 9) rfl
theorem d_Ga_gives_159 : decode c_Ga_gives 159 = .ok (.goto 4, 3) := dc_of (x := (159, .goto 4, 3)) t1_Ga_gives_ok (i := 10) rfl
theorem d_Ga_gives_162 : decode c_Ga_gives 162 = .ok (.iconst 1, 1) := dc_of (x := (162, .iconst 1, 1)) t1_Ga_gives_ok (i := 11) rfl
theorem d_Ga_gives_163 : decode c_Ga_gives 163 = .ok (.ireturn, 1) := dc_of (x := (163, .ireturn, 1)) t1_Ga_gives_ok (i := 12) rfl
theorem d_Ga_gives_164 : decode c_Ga_gives 164 = .ok (.iload 4, 2) := dc_of (x := (164, .iload 4, 2)) t1_Ga_gives_ok (i := 13) rfl
theorem d_Ga_gives_166 : decode c_Ga_gives 166 = .ok (.iconst 1, 1) := dc_of (x := (166, .iconst 1, 1)) t1_Ga_gives_ok (i := 14) rfl
theorem d_Ga_gives_167 : decode c_Ga_gives 167 = .ok (.if_icmp .ne 7, 3) := dc_of (x := (167, .if_icmp .ne 7, 3)) t1_Ga_gives_ok (i := 15) rfl
theorem d_Ga_gives_170 : decode c_Ga_gives 170 = .ok (.iload_n 3, 1) := dc_of (x := (170, .iload_n 3, 1)) t1_Ga_gives_ok (i := 16) rfl
theorem d_Ga_gives_171 : decode c_Ga_gives 171 = .ok (.goto 13, 3) := dc_of (x := (171, .goto 13, 3)) t1_Ga_gives_ok (i := 17) rfl
theorem d_Ga_gives_174 : decode c_Ga_gives 174 = .ok (.iload 4, 2) := dc_of (x := (174, .iload 4, 2)) t1_Ga_gives_ok (i := 18) rfl
theorem d_Ga_gives_176 : decode c_Ga_gives 176 = .ok (.ifCond .ne 7, 3) := dc_of (x := (176, .ifCond .ne 7, 3)) t1_Ga_gives_ok (i := 19) rfl
theorem d_Ga_gives_179 : decode c_Ga_gives 179 = .ok (.iconst 3, 1) := dc_of (x := (179, .iconst 3, 1)) t1_Ga_gives_ok (i := 20) rfl
theorem d_Ga_gives_180 : decode c_Ga_gives 180 = .ok (.goto 4, 3) := dc_of (x := (180, .goto 4, 3)) t1_Ga_gives_ok (i := 21) rfl
theorem d_Ga_gives_183 : decode c_Ga_gives 183 = .ok (.iconst 2, 1) := dc_of (x := (183, .iconst 2, 1)) t1_Ga_gives_ok (i := 22) rfl
theorem d_Ga_gives_184 : decode c_Ga_gives 184 = .ok (.ireturn, 1) := dc_of (x := (184, .ireturn, 1)) t1_Ga_gives_ok (i := 23) rfl
theorem d_Ga_gives_185 : decode c_Ga_gives 185 = .ok (.iload 4, 2) := dc_of (x := (185, .iload 4, 2)) t1_Ga_gives_ok (i := 24) rfl
theorem d_Ga_gives_187 : decode c_Ga_gives 187 = .ok (.iconst 1, 1) := dc_of (x := (187, .iconst 1, 1)) t1_Ga_gives_ok (i := 25) rfl
theorem d_Ga_gives_188 : decode c_Ga_gives 188 = .ok (.if_icmp .ne 7, 3) := dc_of (x := (188, .if_icmp .ne 7, 3)) t1_Ga_gives_ok (i := 26) rfl
theorem d_Ga_gives_191 : decode c_Ga_gives 191 = .ok (.iload_n 3, 1) := dc_of (x := (191, .iload_n 3, 1)) t1_Ga_gives_ok (i := 27) rfl
theorem d_Ga_gives_192 : decode c_Ga_gives 192 = .ok (.goto 24, 3) := dc_of (x := (192, .goto 24, 3)) t1_Ga_gives_ok (i := 28) rfl
theorem d_Ga_gives_195 : decode c_Ga_gives 195 = .ok (.iload 4, 2) := dc_of (x := (195, .iload 4, 2)) t1_Ga_gives_ok (i := 29) rfl
theorem d_Ga_gives_197 : decode c_Ga_gives 197 = .ok (.ifCond .eq 11, 3) := dc_of (x := (197, .ifCond .eq 11, 3)) t1_Ga_gives_ok (i := 30) rfl
theorem d_Ga_gives_200 : decode c_Ga_gives 200 = .ok (.aload_n 0, 1) := dc_of (x := (200, .aload_n 0, 1)) t1_Ga_gives_ok (i := 31) rfl
theorem d_Ga_gives_201 : decode c_Ga_gives 201 = .ok (.getfield 30, 3) := dc_of (x := (201, .getfield 30, 3)) t1_Ga_gives_ok (i := 32) rfl
theorem d_Ga_gives_204 : decode c_Ga_gives 204 = .ok (.iload_n 3, 1) := dc_of (x := (204, .iload_n 3, 1)) t1_Ga_gives_ok (i := 33) rfl
theorem d_Ga_gives_205 : decode c_Ga_gives 205 = .ok (.if_icmp .ne 10, 3) := dc_of (x := (205, .if_icmp .ne 10, 3)) t1_Ga_gives_ok (i := 34) rfl
theorem d_Ga_gives_208 : decode c_Ga_gives 208 = .ok (.aload_n 0, 1) := dc_of (x := (208, .aload_n 0, 1)) t1_Ga_gives_ok (i := 35) rfl
theorem d_Ga_gives_209 : decode c_Ga_gives 209 = .ok (.getfield 30, 3) := dc_of (x := (209, .getfield 30, 3)) t1_Ga_gives_ok (i := 36) rfl
theorem d_Ga_gives_212 : decode c_Ga_gives 212 = .ok (.goto 4, 3) := dc_of (x := (212, .goto 4, 3)) t1_Ga_gives_ok (i := 37) rfl
theorem d_Ga_gives_215 : decode c_Ga_gives 215 = .ok (.iconst 2, 1) := dc_of (x := (215, .iconst 2, 1)) t1_Ga_gives_ok (i := 38) rfl
theorem d_Ga_gives_216 : decode c_Ga_gives 216 = .ok (.ireturn, 1) := dc_of (x := (216, .ireturn, 1)) t1_Ga_gives_ok (i := 39) rfl
theorem d_Ga_gives_217 : decode c_Ga_gives 217 = .ok (.iload_n 3, 1) := dc_of (x := (217, .iload_n 3, 1)) t1_Ga_gives_ok (i := 40) rfl
theorem d_Ga_gives_218 : decode c_Ga_gives 218 = .ok (.ireturn, 1) := dc_of (x := (218, .ireturn, 1)) t1_Ga_gives_ok (i := 41) rfl
def t0_Ga_delayTo : List (Nat × Instr × Nat) := [(0, .iload_n 1, 1), (1, .tableswitch 49 0 2 #[27, 32, 37], 27), (28, .aload_n 0, 1), (29, .getfield 27, 3), (32, .ireturn, 1), (33, .aload_n 0, 1), (34, .getfield 24, 3), (37, .ireturn, 1), (38, .aload_n 0, 1), (39, .getfield 24, 3), (42, .aload_n 0, 1), (43, .getfield 27, 3), (46, .invokestatic 46, 3), (49, .ireturn, 1), (50, .aload_n 0, 1), (51, .getfield 24, 3), (54, .aload_n 0, 1), (55, .getfield 27, 3), (58, .invokestatic 52, 3), (61, .ireturn, 1)]
theorem t0_Ga_delayTo_ok : t0_Ga_delayTo.all (fun x => decide (decode c_Ga_delayTo x.1 = .ok x.2)) = true := by decide +kernel
theorem d_Ga_delayTo_0 : decode c_Ga_delayTo 0 = .ok (.iload_n 1, 1) := dc_of (x := (0, .iload_n 1, 1)) t0_Ga_delayTo_ok (i := 0) rfl
theorem d_Ga_delayTo_1 : decode c_Ga_delayTo 1 = .ok (.tableswitch 49 0 2 #[27, 32, 37], 27) := dc_of (x := (1, .tableswitch 49 0 2 #[27, 32, 37], 27)) t0_Ga_delayTo_ok (i := 1) rfl
theorem d_Ga_delayTo_28 : decode c_Ga_delayTo 28 = .ok (.aload_n 0, 1) := dc_of (x := (28, .aload_n 0, 1)) t0_Ga_delayTo_ok (i := 2) rfl
theorem d_Ga_delayTo_29 : decode c_Ga_delayTo 29 = .ok (.getfield 27, 3) := dc_of (x := (29, .getfield 27, 3)) t0_Ga_delayTo_ok (i := 3) rfl
theorem d_Ga_delayTo_32 : decode c_Ga_delayTo 32 = .ok (.ireturn, 1) := dc_of (x := (32, .ireturn, 1)) t0_Ga_delayTo_ok (i := 4) rfl
theorem d_Ga_delayTo_33 : decode c_Ga_delayTo 33 = .ok (.aload_n 0, 1) := dc_of (x := (33, .aload_n 0, 1)) t0_Ga_delayTo_ok (i := 5) rfl
theorem d_Ga_delayTo_34 : decode c_Ga_delayTo 34 = .ok (.getfield 24, 3) := dc_of (x := (34, .getfield 24, 3)) t0_Ga_delayTo_ok (i := 6) rfl
theorem d_Ga_delayTo_37 : decode c_Ga_delayTo 37 = .ok (.ireturn, 1) := dc_of (x := (37, .ireturn, 1)) t0_Ga_delayTo_ok (i := 7) rfl
theorem d_Ga_delayTo_38 : decode c_Ga_delayTo 38 = .ok (.aload_n 0, 1) := dc_of (x := (38, .aload_n 0, 1)) t0_Ga_delayTo_ok (i := 8) rfl
theorem d_Ga_delayTo_39 : decode c_Ga_delayTo 39 = .ok (.getfield 24, 3) := dc_of (x := (39, .getfield 24, 3)) t0_Ga_delayTo_ok (i := 9) rfl
theorem d_Ga_delayTo_42 : decode c_Ga_delayTo 42 = .ok (.aload_n 0, 1) := dc_of (x := (42, .aload_n 0, 1)) t0_Ga_delayTo_ok (i := 10) rfl
theorem d_Ga_delayTo_43 : decode c_Ga_delayTo 43 = .ok (.getfield 27, 3) := dc_of (x := (43, .getfield 27, 3)) t0_Ga_delayTo_ok (i := 11) rfl
theorem d_Ga_delayTo_46 : decode c_Ga_delayTo 46 = .ok (.invokestatic 46, 3) := dc_of (x := (46, .invokestatic 46, 3)) t0_Ga_delayTo_ok (i := 12) rfl
theorem d_Ga_delayTo_49 : decode c_Ga_delayTo 49 = .ok (.ireturn, 1) := dc_of (x := (49, .ireturn, 1)) t0_Ga_delayTo_ok (i := 13) rfl
theorem d_Ga_delayTo_50 : decode c_Ga_delayTo 50 = .ok (.aload_n 0, 1) := dc_of (x := (50, .aload_n 0, 1)) t0_Ga_delayTo_ok (i := 14) rfl
theorem d_Ga_delayTo_51 : decode c_Ga_delayTo 51 = .ok (.getfield 24, 3) := dc_of (x := (51, .getfield 24, 3)) t0_Ga_delayTo_ok (i := 15) rfl
theorem d_Ga_delayTo_54 : decode c_Ga_delayTo 54 = .ok (.aload_n 0, 1) := dc_of (x := (54, .aload_n 0, 1)) t0_Ga_delayTo_ok (i := 16) rfl
theorem d_Ga_delayTo_55 : decode c_Ga_delayTo 55 = .ok (.getfield 27, 3) := dc_of (x := (55, .getfield 27, 3)) t0_Ga_delayTo_ok (i := 17) rfl
theorem d_Ga_delayTo_58 : decode c_Ga_delayTo 58 = .ok (.invokestatic 52, 3) := dc_of (x := (58, .invokestatic 52, 3)) t0_Ga_delayTo_ok (i := 18) rfl
theorem d_Ga_delayTo_61 : decode c_Ga_delayTo 61 = .ok (.ireturn, 1) := dc_of (x := (61, .ireturn, 1)) t0_Ga_delayTo_ok (i := 19) rfl
def t0_Ga_ask : List (Nat × Instr × Nat) := [(0, .iload_n 1, 1), (1, .aload_n 0, 1), (2, .getfield 33, 3), (5, .if_icmp .ne 9, 3), (8, .aload_n 0, 1), (9, .iconst (-1), 1), (10, .putfield 36, 3), (13, .return_, 1), (14, .lload_n 2, 1), (15, .aload_n 0, 1), (16, .iload_n 1, 1), (17, .invokevirtual 55, 3), (20, .i2l, 1), (21, .ladd, 1), (22, .lstore 5, 2), (24, .aload_n 0, 1), (25, .getfield 33, 3), (28, .iconst (-1), 1), (29, .if_icmp .eq 33, 3), (32, .iload 4, 2), (34, .iconst 1, 1), (35, .if_icmp .ne 27, 3), (38, .aload_n 0, 1), (39, .iconst 2, 1), (40, .putfield 33, 3), (43, .aload_n 0, 1), (44, .iload_n 1, 1), (45, .putfield 36, 3), (48, .aload_n 0, 1), (49, .aload_n 0, 1), (50, .getfield 39, 3), (53, .lload 5, 2), (55, .invokestatic 59, 3), (58, .putfield 43, 3), (61, .return_, 1), (62, .aload_n 0, 1), (63, .iload_n 1, 1), (64, .aload_n 0, 1), (65, .getfield 30, 3), (68, .if_icmp .ne 7, 3), (71, .iconst (-1), 1), (72, .goto 4, 3), (75, .iload_n 1, 1), (76, .putfield 33, 3), (79, .aload_n 0, 1), (80, .lload 5, 2), (82, .putfield 39, 3), (85, .aload_n 0, 1), (86, .iconst (-1), 1), (87, .putfield 36, 3), (90, .return_, 1)]
theorem t0_Ga_ask_ok : t0_Ga_ask.all (fun x => decide (decode c_Ga_ask x.1 = .ok x.2)) = true := by decide +kernel
theorem d_Ga_ask_0 : decode c_Ga_ask 0 = .ok (.iload_n 1, 1) := dc_of (x := (0, .iload_n 1, 1)) t0_Ga_ask_ok (i := 0) rfl
theorem d_Ga_ask_1 : decode c_Ga_ask 1 = .ok (.aload_n 0, 1) := dc_of (x := (1, .aload_n 0, 1)) t0_Ga_ask_ok (i := 1) rfl
theorem d_Ga_ask_2 : decode c_Ga_ask 2 = .ok (.getfield 33, 3) := dc_of (x := (2, .getfield 33, 3)) t0_Ga_ask_ok (i := 2) rfl
theorem d_Ga_ask_5 : decode c_Ga_ask 5 = .ok (.if_icmp .ne 9, 3) := dc_of (x := (5, .if_icmp .ne 9, 3)) t0_Ga_ask_ok (i := 3) rfl
theorem d_Ga_ask_8 : decode c_Ga_ask 8 = .ok (.aload_n 0, 1) := dc_of (x := (8, .aload_n 0, 1)) t0_Ga_ask_ok (i := 4) rfl
theorem d_Ga_ask_9 : decode c_Ga_ask 9 = .ok (.iconst (-1), 1) := dc_of (x := (9, .iconst (-1), 1)) t0_Ga_ask_ok (i := 5) rfl
theorem d_Ga_ask_10 : decode c_Ga_ask 10 = .ok (.putfield 36, 3) := dc_of (x := (10, .putfield 36, 3)) t0_Ga_ask_ok (i := 6) rfl
theorem d_Ga_ask_13 : decode c_Ga_ask 13 = .ok (.return_, 1) := dc_of (x := (13, .return_, 1)) t0_Ga_ask_ok (i := 7) rfl
theorem d_Ga_ask_14 : decode c_Ga_ask 14 = .ok (.lload_n 2, 1) := dc_of (x := (14, .lload_n 2, 1)) t0_Ga_ask_ok (i := 8) rfl
theorem d_Ga_ask_15 : decode c_Ga_ask 15 = .ok (.aload_n 0, 1) := dc_of (x := (15, .aload_n 0, 1)) t0_Ga_ask_ok (i := 9) rfl
theorem d_Ga_ask_16 : decode c_Ga_ask 16 = .ok (.iload_n 1, 1) := dc_of (x := (16, .iload_n 1, 1)) t0_Ga_ask_ok (i := 10) rfl
theorem d_Ga_ask_17 : decode c_Ga_ask 17 = .ok (.invokevirtual 55, 3) := dc_of (x := (17, .invokevirtual 55, 3)) t0_Ga_ask_ok (i := 11) rfl
theorem d_Ga_ask_20 : decode c_Ga_ask 20 = .ok (.i2l, 1) := dc_of (x := (20, .i2l, 1)) t0_Ga_ask_ok (i := 12) rfl
theorem d_Ga_ask_21 : decode c_Ga_ask 21 = .ok (.ladd, 1) := dc_of (x := (21, .ladd, 1)) t0_Ga_ask_ok (i := 13) rfl
theorem d_Ga_ask_22 : decode c_Ga_ask 22 = .ok (.lstore 5, 2) := dc_of (x := (22, .lstore 5, 2)) t0_Ga_ask_ok (i := 14) rfl
theorem d_Ga_ask_24 : decode c_Ga_ask 24 = .ok (.aload_n 0, 1) := dc_of (x := (24, .aload_n 0, 1)) t0_Ga_ask_ok (i := 15) rfl
theorem d_Ga_ask_25 : decode c_Ga_ask 25 = .ok (.getfield 33, 3) := dc_of (x := (25, .getfield 33, 3)) t0_Ga_ask_ok (i := 16) rfl
theorem d_Ga_ask_28 : decode c_Ga_ask 28 = .ok (.iconst (-1), 1) := dc_of (x := (28, .iconst (-1), 1)) t0_Ga_ask_ok (i := 17) rfl
theorem d_Ga_ask_29 : decode c_Ga_ask 29 = .ok (.if_icmp .eq 33, 3) := dc_of (x := (29, .if_icmp .eq 33, 3)) t0_Ga_ask_ok (i := 18) rfl
theorem d_Ga_ask_32 : decode c_Ga_ask 32 = .ok (.iload 4, 2) := dc_of (x := (32, .iload 4, 2)) t0_Ga_ask_ok (i := 19) rfl
theorem d_Ga_ask_34 : decode c_Ga_ask 34 = .ok (.iconst 1, 1) := dc_of (x := (34, .iconst 1, 1)) t0_Ga_ask_ok (i := 20) rfl
theorem d_Ga_ask_35 : decode c_Ga_ask 35 = .ok (.if_icmp .ne 27, 3) := dc_of (x := (35, .if_icmp .ne 27, 3)) t0_Ga_ask_ok (i := 21) rfl
theorem d_Ga_ask_38 : decode c_Ga_ask 38 = .ok (.aload_n 0, 1) := dc_of (x := (38, .aload_n 0, 1)) t0_Ga_ask_ok (i := 22) rfl
theorem d_Ga_ask_39 : decode c_Ga_ask 39 = .ok (.iconst 2, 1) := dc_of (x := (39, .iconst 2, 1)) t0_Ga_ask_ok (i := 23) rfl
theorem d_Ga_ask_40 : decode c_Ga_ask 40 = .ok (.putfield 33, 3) := dc_of (x := (40, .putfield 33, 3)) t0_Ga_ask_ok (i := 24) rfl
theorem d_Ga_ask_43 : decode c_Ga_ask 43 = .ok (.aload_n 0, 1) := dc_of (x := (43, .aload_n 0, 1)) t0_Ga_ask_ok (i := 25) rfl
theorem d_Ga_ask_44 : decode c_Ga_ask 44 = .ok (.iload_n 1, 1) := dc_of (x := (44, .iload_n 1, 1)) t0_Ga_ask_ok (i := 26) rfl
theorem d_Ga_ask_45 : decode c_Ga_ask 45 = .ok (.putfield 36, 3) := dc_of (x := (45, .putfield 36, 3)) t0_Ga_ask_ok (i := 27) rfl
theorem d_Ga_ask_48 : decode c_Ga_ask 48 = .ok (.aload_n 0, 1) := dc_of (x := (48, .aload_n 0, 1)) t0_Ga_ask_ok (i := 28) rfl
theorem d_Ga_ask_49 : decode c_Ga_ask 49 = .ok (.aload_n 0, 1) := dc_of (x := (49, .aload_n 0, 1)) t0_Ga_ask_ok (i := 29) rfl
theorem d_Ga_ask_50 : decode c_Ga_ask 50 = .ok (.getfield 39, 3) := dc_of (x := (50, .getfield 39, 3)) t0_Ga_ask_ok (i := 30) rfl
theorem d_Ga_ask_53 : decode c_Ga_ask 53 = .ok (.lload 5, 2) := dc_of (x := (53, .lload 5, 2)) t0_Ga_ask_ok (i := 31) rfl
theorem d_Ga_ask_55 : decode c_Ga_ask 55 = .ok (.invokestatic 59, 3) := dc_of (x := (55, .invokestatic 59, 3)) t0_Ga_ask_ok (i := 32) rfl
theorem d_Ga_ask_58 : decode c_Ga_ask 58 = .ok (.putfield 43, 3) := dc_of (x := (58, .putfield 43, 3)) t0_Ga_ask_ok (i := 33) rfl
theorem d_Ga_ask_61 : decode c_Ga_ask 61 = .ok (.return_, 1) := dc_of (x := (61, .return_, 1)) t0_Ga_ask_ok (i := 34) rfl
theorem d_Ga_ask_62 : decode c_Ga_ask 62 = .ok (.aload_n 0, 1) := dc_of (x := (62, .aload_n 0, 1)) t0_Ga_ask_ok (i := 35) rfl
theorem d_Ga_ask_63 : decode c_Ga_ask 63 = .ok (.iload_n 1, 1) := dc_of (x := (63, .iload_n 1, 1)) t0_Ga_ask_ok (i := 36) rfl
theorem d_Ga_ask_64 : decode c_Ga_ask 64 = .ok (.aload_n 0, 1) := dc_of (x := (64, .aload_n 0, 1)) t0_Ga_ask_ok (i := 37) rfl
theorem d_Ga_ask_65 : decode c_Ga_ask 65 = .ok (.getfield 30, 3) := dc_of (x := (65, .getfield 30, 3)) t0_Ga_ask_ok (i := 38) rfl
theorem d_Ga_ask_68 : decode c_Ga_ask 68 = .ok (.if_icmp .ne 7, 3) := dc_of (x := (68, .if_icmp .ne 7, 3)) t0_Ga_ask_ok (i := 39) rfl
theorem d_Ga_ask_71 : decode c_Ga_ask 71 = .ok (.iconst (-1), 1) := dc_of (x := (71, .iconst (-1), 1)) t0_Ga_ask_ok (i := 40) rfl
theorem d_Ga_ask_72 : decode c_Ga_ask 72 = .ok (.goto 4, 3) := dc_of (x := (72, .goto 4, 3)) t0_Ga_ask_ok (i := 41) rfl
theorem d_Ga_ask_75 : decode c_Ga_ask 75 = .ok (.iload_n 1, 1) := dc_of (x := (75, .iload_n 1, 1)) t0_Ga_ask_ok (i := 42) rfl
theorem d_Ga_ask_76 : decode c_Ga_ask 76 = .ok (.putfield 33, 3) := dc_of (x := (76, .putfield 33, 3)) t0_Ga_ask_ok (i := 43) rfl
theorem d_Ga_ask_79 : decode c_Ga_ask 79 = .ok (.aload_n 0, 1) := dc_of (x := (79, .aload_n 0, 1)) t0_Ga_ask_ok (i := 44) rfl
theorem d_Ga_ask_80 : decode c_Ga_ask 80 = .ok (.lload 5, 2) := dc_of (x := (80, .lload 5, 2)) t0_Ga_ask_ok (i := 45) rfl
theorem d_Ga_ask_82 : decode c_Ga_ask 82 = .ok (.putfield 39, 3) := dc_of (x := (82, .putfield 39, 3)) t0_Ga_ask_ok (i := 46) rfl
theorem d_Ga_ask_85 : decode c_Ga_ask 85 = .ok (.aload_n 0, 1) := dc_of (x := (85, .aload_n 0, 1)) t0_Ga_ask_ok (i := 47) rfl
theorem d_Ga_ask_86 : decode c_Ga_ask 86 = .ok (.iconst (-1), 1) := dc_of (x := (86, .iconst (-1), 1)) t0_Ga_ask_ok (i := 48) rfl
theorem d_Ga_ask_87 : decode c_Ga_ask 87 = .ok (.putfield 36, 3) := dc_of (x := (87, .putfield 36, 3)) t0_Ga_ask_ok (i := 49) rfl
theorem d_Ga_ask_90 : decode c_Ga_ask 90 = .ok (.return_, 1) := dc_of (x := (90, .return_, 1)) t0_Ga_ask_ok (i := 50) rfl
def t0_Ga_takeWaiting : List (Nat × Instr × Nat) := [(0, .aload_n 0, 1), (1, .aload_n 0, 1), (2, .getfield 33, 3), (5, .putfield 30, 3), (8, .aload_n 0, 1), (9, .aload_n 0, 1), (10, .getfield 36, 3), (13, .aload_n 0, 1), (14, .getfield 30, 3), (17, .if_icmp .ne 7, 3), (20, .iconst (-1), 1), (21, .goto 7, 3), (24, .aload_n 0, 1), (25, .getfield 36, 3), (28, .putfield 33, 3), (31, .aload_n 0, 1), (32, .aload_n 0, 1), (33, .getfield 43, 3), (36, .putfield 39, 3), (39, .aload_n 0, 1), (40, .iconst (-1), 1), (41, .putfield 36, 3), (44, .return_, 1)]
theorem t0_Ga_takeWaiting_ok : t0_Ga_takeWaiting.all (fun x => decide (decode c_Ga_takeWaiting x.1 = .ok x.2)) = true := by decide +kernel
theorem d_Ga_takeWaiting_0 : decode c_Ga_takeWaiting 0 = .ok (.aload_n 0, 1) := dc_of (x := (0, .aload_n 0, 1)) t0_Ga_takeWaiting_ok (i := 0) rfl
theorem d_Ga_takeWaiting_1 : decode c_Ga_takeWaiting 1 = .ok (.aload_n 0, 1) := dc_of (x := (1, .aload_n 0, 1)) t0_Ga_takeWaiting_ok (i := 1) rfl
theorem d_Ga_takeWaiting_2 : decode c_Ga_takeWaiting 2 = .ok (.getfield 33, 3) := dc_of (x := (2, .getfield 33, 3)) t0_Ga_takeWaiting_ok (i := 2) rfl
theorem d_Ga_takeWaiting_5 : decode c_Ga_takeWaiting 5 = .ok (.putfield 30, 3) := dc_of (x := (5, .putfield 30, 3)) t0_Ga_takeWaiting_ok (i := 3) rfl
theorem d_Ga_takeWaiting_8 : decode c_Ga_takeWaiting 8 = .ok (.aload_n 0, 1) := dc_of (x := (8, .aload_n 0, 1)) t0_Ga_takeWaiting_ok (i := 4) rfl
theorem d_Ga_takeWaiting_9 : decode c_Ga_takeWaiting 9 = .ok (.aload_n 0, 1) := dc_of (x := (9, .aload_n 0, 1)) t0_Ga_takeWaiting_ok (i := 5) rfl
theorem d_Ga_takeWaiting_10 : decode c_Ga_takeWaiting 10 = .ok (.getfield 36, 3) := dc_of (x := (10, .getfield 36, 3)) t0_Ga_takeWaiting_ok (i := 6) rfl
theorem d_Ga_takeWaiting_13 : decode c_Ga_takeWaiting 13 = .ok (.aload_n 0, 1) := dc_of (x := (13, .aload_n 0, 1)) t0_Ga_takeWaiting_ok (i := 7) rfl
theorem d_Ga_takeWaiting_14 : decode c_Ga_takeWaiting 14 = .ok (.getfield 30, 3) := dc_of (x := (14, .getfield 30, 3)) t0_Ga_takeWaiting_ok (i := 8) rfl
theorem d_Ga_takeWaiting_17 : decode c_Ga_takeWaiting 17 = .ok (.if_icmp .ne 7, 3) := dc_of (x := (17, .if_icmp .ne 7, 3)) t0_Ga_takeWaiting_ok (i := 9) rfl
theorem d_Ga_takeWaiting_20 : decode c_Ga_takeWaiting 20 = .ok (.iconst (-1), 1) := dc_of (x := (20, .iconst (-1), 1)) t0_Ga_takeWaiting_ok (i := 10) rfl
theorem d_Ga_takeWaiting_21 : decode c_Ga_takeWaiting 21 = .ok (.goto 7, 3) := dc_of (x := (21, .goto 7, 3)) t0_Ga_takeWaiting_ok (i := 11) rfl
theorem d_Ga_takeWaiting_24 : decode c_Ga_takeWaiting 24 = .ok (.aload_n 0, 1) := dc_of (x := (24, .aload_n 0, 1)) t0_Ga_takeWaiting_ok (i := 12) rfl
theorem d_Ga_takeWaiting_25 : decode c_Ga_takeWaiting 25 = .ok (.getfield 36, 3) := dc_of (x := (25, .getfield 36, 3)) t0_Ga_takeWaiting_ok (i := 13) rfl
theorem d_Ga_takeWaiting_28 : decode c_Ga_takeWaiting 28 = .ok (.putfield 33, 3) := dc_of (x := (28, .putfield 33, 3)) t0_Ga_takeWaiting_ok (i := 14) rfl
theorem d_Ga_takeWaiting_31 : decode c_Ga_takeWaiting 31 = .ok (.aload_n 0, 1) := dc_of (x := (31, .aload_n 0, 1)) t0_Ga_takeWaiting_ok (i := 15) rfl
theorem d_Ga_takeWaiting_32 : decode c_Ga_takeWaiting 32 = .ok (.aload_n 0, 1) := dc_of (x := (32, .aload_n 0, 1)) t0_Ga_takeWaiting_ok (i := 16) rfl
theorem d_Ga_takeWaiting_33 : decode c_Ga_takeWaiting 33 = .ok (.getfield 43, 3) := dc_of (x := (33, .getfield 43, 3)) t0_Ga_takeWaiting_ok (i := 17) rfl
theorem d_Ga_takeWaiting_36 : decode c_Ga_takeWaiting 36 = .ok (.putfield 39, 3) := dc_of (x := (36, .putfield 39, 3)) t0_Ga_takeWaiting_ok (i := 18) rfl
theorem d_Ga_takeWaiting_39 : decode c_Ga_takeWaiting 39 = .ok (.aload_n 0, 1) := dc_of (x := (39, .aload_n 0, 1)) t0_Ga_takeWaiting_ok (i := 19) rfl
theorem d_Ga_takeWaiting_40 : decode c_Ga_takeWaiting 40 = .ok (.iconst (-1), 1) := dc_of (x := (40, .iconst (-1), 1)) t0_Ga_takeWaiting_ok (i := 20) rfl
theorem d_Ga_takeWaiting_41 : decode c_Ga_takeWaiting 41 = .ok (.putfield 36, 3) := dc_of (x := (41, .putfield 36, 3)) t0_Ga_takeWaiting_ok (i := 21) rfl
theorem d_Ga_takeWaiting_44 : decode c_Ga_takeWaiting 44 = .ok (.return_, 1) := dc_of (x := (44, .return_, 1)) t0_Ga_takeWaiting_ok (i := 22) rfl
def t0_Ha_init : List (Nat × Instr × Nat) := [(0, .aload_n 0, 1), (1, .invokespecial 3, 3), (4, .aload_n 0, 1), (5, .bipush 100, 2), (7, .newarray .int, 2), (9, .putfield 9, 3), (12, .aload_n 0, 1), (13, .bipush 100, 2), (15, .newarray .int, 2), (17, .putfield 15, 3), (20, .aload_n 0, 1), (21, .bipush 100, 2), (23, .newarray .long, 2), (25, .putfield 18, 3), (28, .aload_n 0, 1), (29, .bipush 100, 2), (31, .newarray .int, 2), (33, .putfield 22, 3), (36, .return_, 1)]
theorem t0_Ha_init_ok : t0_Ha_init.all (fun x => decide (decode c_Ha_init x.1 = .ok x.2)) = true := by decide +kernel
theorem d_Ha_init_0 : decode c_Ha_init 0 = .ok (.aload_n 0, 1) := dc_of (x := (0, .aload_n 0, 1)) t0_Ha_init_ok (i := 0) rfl
theorem d_Ha_init_1 : decode c_Ha_init 1 = .ok (.invokespecial 3, 3) := dc_of (x := (1, .invokespecial 3, 3)) t0_Ha_init_ok (i := 1) rfl
theorem d_Ha_init_4 : decode c_Ha_init 4 = .ok (.aload_n 0, 1) := dc_of (x := (4, .aload_n 0, 1)) t0_Ha_init_ok (i := 2) rfl
theorem d_Ha_init_5 : decode c_Ha_init 5 = .ok (.bipush 100, 2) := dc_of (x := (5, .bipush 100, 2)) t0_Ha_init_ok (i := 3) rfl
theorem d_Ha_init_7 : decode c_Ha_init 7 = .ok (.newarray .int, 2) := dc_of (x := (7, .newarray .int, 2)) t0_Ha_init_ok (i := 4) rfl
theorem d_Ha_init_9 : decode c_Ha_init 9 = .ok (.putfield 9, 3) := dc_of (x := (9, .putfield 9, 3)) t0_Ha_init_ok (i := 5) rfl
theorem d_Ha_init_12 : decode c_Ha_init 12 = .ok (.aload_n 0, 1) := dc_of (x := (12, .aload_n 0, 1)) t0_Ha_init_ok (i := 6) rfl
theorem d_Ha_init_13 : decode c_Ha_init 13 = .ok (.bipush 100, 2) := dc_of (x := (13, .bipush 100, 2)) t0_Ha_init_ok (i := 7) rfl
theorem d_Ha_init_15 : decode c_Ha_init 15 = .ok (.newarray .int, 2) := dc_of (x := (15, .newarray .int, 2)) t0_Ha_init_ok (i := 8) rfl
theorem d_Ha_init_17 : decode c_Ha_init 17 = .ok (.putfield 15, 3) := dc_of (x := (17, .putfield 15, 3)) t0_Ha_init_ok (i := 9) rfl
theorem d_Ha_init_20 : decode c_Ha_init 20 = .ok (.aload_n 0, 1) := dc_of (x := (20, .aload_n 0, 1)) t0_Ha_init_ok (i := 10) rfl
theorem d_Ha_init_21 : decode c_Ha_init 21 = .ok (.bipush 100, 2) := dc_of (x := (21, .bipush 100, 2)) t0_Ha_init_ok (i := 11) rfl
theorem d_Ha_init_23 : decode c_Ha_init 23 = .ok (.newarray .long, 2) := dc_of (x := (23, .newarray .long, 2)) t0_Ha_init_ok (i := 12) rfl
theorem d_Ha_init_25 : decode c_Ha_init 25 = .ok (.putfield 18, 3) := dc_of (x := (25, .putfield 18, 3)) t0_Ha_init_ok (i := 13) rfl
theorem d_Ha_init_28 : decode c_Ha_init 28 = .ok (.aload_n 0, 1) := dc_of (x := (28, .aload_n 0, 1)) t0_Ha_init_ok (i := 14) rfl
theorem d_Ha_init_29 : decode c_Ha_init 29 = .ok (.bipush 100, 2) := dc_of (x := (29, .bipush 100, 2)) t0_Ha_init_ok (i := 15) rfl
theorem d_Ha_init_31 : decode c_Ha_init 31 = .ok (.newarray .int, 2) := dc_of (x := (31, .newarray .int, 2)) t0_Ha_init_ok (i := 16) rfl
theorem d_Ha_init_33 : decode c_Ha_init 33 = .ok (.putfield 22, 3) := dc_of (x := (33, .putfield 22, 3)) t0_Ha_init_ok (i := 17) rfl
theorem d_Ha_init_36 : decode c_Ha_init 36 = .ok (.return_, 1) := dc_of (x := (36, .return_, 1)) t0_Ha_init_ok (i := 18) rfl
def t0_Ha_copyFrom : List (Nat × Instr × Nat) := [(0, .aload_n 0, 1), (1, .aload_n 1, 1), (2, .getfield 25, 3), (5, .putfield 25, 3), (8, .aload_n 1, 1), (9, .getfield 9, 3), (12, .iconst 0, 1), (13, .aload_n 0, 1), (14, .getfield 9, 3), (17, .iconst 0, 1), (18, .bipush 100, 2), (20, .invokestatic 29, 3), (23, .aload_n 1, 1), (24, .getfield 15, 3), (27, .iconst 0, 1), (28, .aload_n 0, 1), (29, .getfield 15, 3), (32, .iconst 0, 1), (33, .bipush 100, 2), (35, .invokestatic 29, 3), (38, .aload_n 1, 1), (39, .getfield 18, 3), (42, .iconst 0, 1), (43, .aload_n 0, 1), (44, .getfield 18, 3), (47, .iconst 0, 1), (48, .bipush 100, 2), (50, .invokestatic 29, 3), (53, .aload_n 1, 1), (54, .getfield 22, 3), (57, .iconst 0, 1), (58, .aload_n 0, 1), (59, .getfield 22, 3), (62, .iconst 0, 1), (63, .bipush 100, 2), (65, .invokestatic 29, 3), (68, .return_, 1)]
theorem t0_Ha_copyFrom_ok : t0_Ha_copyFrom.all (fun x => decide (decode c_Ha_copyFrom x.1 = .ok x.2)) = true := by decide +kernel
theorem d_Ha_copyFrom_0 : decode c_Ha_copyFrom 0 = .ok (.aload_n 0, 1) := dc_of (x := (0, .aload_n 0, 1)) t0_Ha_copyFrom_ok (i := 0) rfl
theorem d_Ha_copyFrom_1 : decode c_Ha_copyFrom 1 = .ok (.aload_n 1, 1) := dc_of (x := (1, .aload_n 1, 1)) t0_Ha_copyFrom_ok (i := 1) rfl
theorem d_Ha_copyFrom_2 : decode c_Ha_copyFrom 2 = .ok (.getfield 25, 3) := dc_of (x := (2, .getfield 25, 3)) t0_Ha_copyFrom_ok (i := 2) rfl
theorem d_Ha_copyFrom_5 : decode c_Ha_copyFrom 5 = .ok (.putfield 25, 3) := dc_of (x := (5, .putfield 25, 3)) t0_Ha_copyFrom_ok (i := 3) rfl
theorem d_Ha_copyFrom_8 : decode c_Ha_copyFrom 8 = .ok (.aload_n 1, 1) := dc_of (x := (8, .aload_n 1, 1)) t0_Ha_copyFrom_ok (i := 4) rfl
theorem d_Ha_copyFrom_9 : decode c_Ha_copyFrom 9 = .ok (.getfield 9, 3) := dc_of (x := (9, .getfield 9, 3)) t0_Ha_copyFrom_ok (i := 5) rfl
theorem d_Ha_copyFrom_12 : decode c_Ha_copyFrom 12 = .ok (.iconst 0, 1) := dc_of (x := (12, .iconst 0, 1)) t0_Ha_copyFrom_ok (i := 6) rfl
theorem d_Ha_copyFrom_13 : decode c_Ha_copyFrom 13 = .ok (.aload_n 0, 1) := dc_of (x := (13, .aload_n 0, 1)) t0_Ha_copyFrom_ok (i := 7) rfl
theorem d_Ha_copyFrom_14 : decode c_Ha_copyFrom 14 = .ok (.getfield 9, 3) := dc_of (x := (14, .getfield 9, 3)) t0_Ha_copyFrom_ok (i := 8) rfl
theorem d_Ha_copyFrom_17 : decode c_Ha_copyFrom 17 = .ok (.iconst 0, 1) := dc_of (x := (17, .iconst 0, 1)) t0_Ha_copyFrom_ok (i := 9) rfl
theorem d_Ha_copyFrom_18 : decode c_Ha_copyFrom 18 = .ok (.bipush 100, 2) := dc_of (x := (18, .bipush 100, 2)) t0_Ha_copyFrom_ok (i := 10) rfl
theorem d_Ha_copyFrom_20 : decode c_Ha_copyFrom 20 = .ok (.invokestatic 29, 3) := dc_of (x := (20, .invokestatic 29, 3)) t0_Ha_copyFrom_ok (i := 11) rfl
theorem d_Ha_copyFrom_23 : decode c_Ha_copyFrom 23 = .ok (.aload_n 1, 1) := dc_of (x := (23, .aload_n 1, 1)) t0_Ha_copyFrom_ok (i := 12) rfl
theorem d_Ha_copyFrom_24 : decode c_Ha_copyFrom 24 = .ok (.getfield 15, 3) := dc_of (x := (24, .getfield 15, 3)) t0_Ha_copyFrom_ok (i := 13) rfl
theorem d_Ha_copyFrom_27 : decode c_Ha_copyFrom 27 = .ok (.iconst 0, 1) := dc_of (x := (27, .iconst 0, 1)) t0_Ha_copyFrom_ok (i := 14) rfl
theorem d_Ha_copyFrom_28 : decode c_Ha_copyFrom 28 = .ok (.aload_n 0, 1) := dc_of (x := (28, .aload_n 0, 1)) t0_Ha_copyFrom_ok (i := 15) rfl
theorem d_Ha_copyFrom_29 : decode c_Ha_copyFrom 29 = .ok (.getfield 15, 3) := dc_of (x := (29, .getfield 15, 3)) t0_Ha_copyFrom_ok (i := 16) rfl
theorem d_Ha_copyFrom_32 : decode c_Ha_copyFrom 32 = .ok (.iconst 0, 1) := dc_of (x := (32, .iconst 0, 1)) t0_Ha_copyFrom_ok (i := 17) rfl
theorem d_Ha_copyFrom_33 : decode c_Ha_copyFrom 33 = .ok (.bipush 100, 2) := dc_of (x := (33, .bipush 100, 2)) t0_Ha_copyFrom_ok (i := 18) rfl
theorem d_Ha_copyFrom_35 : decode c_Ha_copyFrom 35 = .ok (.invokestatic 29, 3) := dc_of (x := (35, .invokestatic 29, 3)) t0_Ha_copyFrom_ok (i := 19) rfl
theorem d_Ha_copyFrom_38 : decode c_Ha_copyFrom 38 = .ok (.aload_n 1, 1) := dc_of (x := (38, .aload_n 1, 1)) t0_Ha_copyFrom_ok (i := 20) rfl
theorem d_Ha_copyFrom_39 : decode c_Ha_copyFrom 39 = .ok (.getfield 18, 3) := dc_of (x := (39, .getfield 18, 3)) t0_Ha_copyFrom_ok (i := 21) rfl
theorem d_Ha_copyFrom_42 : decode c_Ha_copyFrom 42 = .ok (.iconst 0, 1) := dc_of (x := (42, .iconst 0, 1)) t0_Ha_copyFrom_ok (i := 22) rfl
theorem d_Ha_copyFrom_43 : decode c_Ha_copyFrom 43 = .ok (.aload_n 0, 1) := dc_of (x := (43, .aload_n 0, 1)) t0_Ha_copyFrom_ok (i := 23) rfl
theorem d_Ha_copyFrom_44 : decode c_Ha_copyFrom 44 = .ok (.getfield 18, 3) := dc_of (x := (44, .getfield 18, 3)) t0_Ha_copyFrom_ok (i := 24) rfl
theorem d_Ha_copyFrom_47 : decode c_Ha_copyFrom 47 = .ok (.iconst 0, 1) := dc_of (x := (47, .iconst 0, 1)) t0_Ha_copyFrom_ok (i := 25) rfl
theorem d_Ha_copyFrom_48 : decode c_Ha_copyFrom 48 = .ok (.bipush 100, 2) := dc_of (x := (48, .bipush 100, 2)) t0_Ha_copyFrom_ok (i := 26) rfl
theorem d_Ha_copyFrom_50 : decode c_Ha_copyFrom 50 = .ok (.invokestatic 29, 3) := dc_of (x := (50, .invokestatic 29, 3)) t0_Ha_copyFrom_ok (i := 27) rfl
theorem d_Ha_copyFrom_53 : decode c_Ha_copyFrom 53 = .ok (.aload_n 1, 1) := dc_of (x := (53, .aload_n 1, 1)) t0_Ha_copyFrom_ok (i := 28) rfl
theorem d_Ha_copyFrom_54 : decode c_Ha_copyFrom 54 = .ok (.getfield 22, 3) := dc_of (x := (54, .getfield 22, 3)) t0_Ha_copyFrom_ok (i := 29) rfl
theorem d_Ha_copyFrom_57 : decode c_Ha_copyFrom 57 = .ok (.iconst 0, 1) := dc_of (x := (57, .iconst 0, 1)) t0_Ha_copyFrom_ok (i := 30) rfl
theorem d_Ha_copyFrom_58 : decode c_Ha_copyFrom 58 = .ok (.aload_n 0, 1) := dc_of (x := (58, .aload_n 0, 1)) t0_Ha_copyFrom_ok (i := 31) rfl
theorem d_Ha_copyFrom_59 : decode c_Ha_copyFrom 59 = .ok (.getfield 22, 3) := dc_of (x := (59, .getfield 22, 3)) t0_Ha_copyFrom_ok (i := 32) rfl
theorem d_Ha_copyFrom_62 : decode c_Ha_copyFrom 62 = .ok (.iconst 0, 1) := dc_of (x := (62, .iconst 0, 1)) t0_Ha_copyFrom_ok (i := 33) rfl
theorem d_Ha_copyFrom_63 : decode c_Ha_copyFrom 63 = .ok (.bipush 100, 2) := dc_of (x := (63, .bipush 100, 2)) t0_Ha_copyFrom_ok (i := 34) rfl
theorem d_Ha_copyFrom_65 : decode c_Ha_copyFrom 65 = .ok (.invokestatic 29, 3) := dc_of (x := (65, .invokestatic 29, 3)) t0_Ha_copyFrom_ok (i := 35) rfl
theorem d_Ha_copyFrom_68 : decode c_Ha_copyFrom 68 = .ok (.return_, 1) := dc_of (x := (68, .return_, 1)) t0_Ha_copyFrom_ok (i := 36) rfl
def t0_Ha_append : List (Nat × Instr × Nat) := [(0, .aload_n 0, 1), (1, .getfield 25, 3), (4, .bipush 100, 2), (6, .if_icmp .lt 4, 3), (9, .return_, 1), (10, .aload_n 0, 1), (11, .getfield 9, 3), (14, .aload_n 0, 1), (15, .getfield 25, 3), (18, .iload_n 1, 1), (19, .iastore, 1), (20, .aload_n 0, 1), (21, .getfield 15, 3), (24, .aload_n 0, 1), (25, .getfield 25, 3), (28, .iload_n 2, 1), (29, .iastore, 1), (30, .aload_n 0, 1), (31, .getfield 18, 3), (34, .aload_n 0, 1), (35, .getfield 25, 3), (38, .lload_n 3, 1), (39, .lastore, 1), (40, .aload_n 0, 1), (41, .getfield 22, 3), (44, .aload_n 0, 1), (45, .getfield 25, 3), (48, .iload 5, 2), (50, .iastore, 1), (51, .aload_n 0, 1), (52, .dup, 1), (53, .getfield 25, 3), (56, .iconst 1, 1), (57, .iadd, 1), (58, .putfield 25, 3), (61, .return_, 1)]
theorem t0_Ha_append_ok : t0_Ha_append.all (fun x => decide (decode c_Ha_append x.1 = .ok x.2)) = true := by decide +kernel
theorem d_Ha_append_0 : decode c_Ha_append 0 = .ok (.aload_n 0, 1) := dc_of (x := (0, .aload_n 0, 1)) t0_Ha_append_ok (i := 0) rfl
theorem d_Ha_append_1 : decode c_Ha_append 1 = .ok (.getfield 25, 3) := dc_of (x := (1, .getfield 25, 3)) t0_Ha_append_ok (i := 1) rfl
theorem d_Ha_append_4 : decode c_Ha_append 4 = .ok (.bipush 100, 2) := dc_of (x := (4, .bipush 100, 2)) t0_Ha_append_ok (i := 2) rfl
theorem d_Ha_append_6 : decode c_Ha_append 6 = .ok (.if_icmp .lt 4, 3) := dc_of (x := (6, .if_icmp .lt 4, 3)) t0_Ha_append_ok (i := 3) rfl
theorem d_Ha_append_9 : decode c_Ha_append 9 = .ok (.return_, 1) := dc_of (x := (9, .return_, 1)) t0_Ha_append_ok (i := 4) rfl
theorem d_Ha_append_10 : decode c_Ha_append 10 = .ok (.aload_n 0, 1) := dc_of (x := (10, .aload_n 0, 1)) t0_Ha_append_ok (i := 5) rfl
theorem d_Ha_append_11 : decode c_Ha_append 11 = .ok (.getfield 9, 3) := dc_of (x := (11, .getfield 9, 3)) t0_Ha_append_ok (i := 6) rfl
theorem d_Ha_append_14 : decode c_Ha_append 14 = .ok (.aload_n 0, 1) := dc_of (x := (14, .aload_n 0, 1)) t0_Ha_append_ok (i := 7) rfl
theorem d_Ha_append_15 : decode c_Ha_append 15 = .ok (.getfield 25, 3) := dc_of (x := (15, .getfield 25, 3)) t0_Ha_append_ok (i := 8) rfl
theorem d_Ha_append_18 : decode c_Ha_append 18 = .ok (.iload_n 1, 1) := dc_of (x := (18, .iload_n 1, 1)) t0_Ha_append_ok (i := 9) rfl
theorem d_Ha_append_19 : decode c_Ha_append 19 = .ok (.iastore, 1) := dc_of (x := (19, .iastore, 1)) t0_Ha_append_ok (i := 10) rfl
theorem d_Ha_append_20 : decode c_Ha_append 20 = .ok (.aload_n 0, 1) := dc_of (x := (20, .aload_n 0, 1)) t0_Ha_append_ok (i := 11) rfl
theorem d_Ha_append_21 : decode c_Ha_append 21 = .ok (.getfield 15, 3) := dc_of (x := (21, .getfield 15, 3)) t0_Ha_append_ok (i := 12) rfl
theorem d_Ha_append_24 : decode c_Ha_append 24 = .ok (.aload_n 0, 1) := dc_of (x := (24, .aload_n 0, 1)) t0_Ha_append_ok (i := 13) rfl
theorem d_Ha_append_25 : decode c_Ha_append 25 = .ok (.getfield 25, 3) := dc_of (x := (25, .getfield 25, 3)) t0_Ha_append_ok (i := 14) rfl
theorem d_Ha_append_28 : decode c_Ha_append 28 = .ok (.iload_n 2, 1) := dc_of (x := (28, .iload_n 2, 1)) t0_Ha_append_ok (i := 15) rfl
theorem d_Ha_append_29 : decode c_Ha_append 29 = .ok (.iastore, 1) := dc_of (x := (29, .iastore, 1)) t0_Ha_append_ok (i := 16) rfl
theorem d_Ha_append_30 : decode c_Ha_append 30 = .ok (.aload_n 0, 1) := dc_of (x := (30, .aload_n 0, 1)) t0_Ha_append_ok (i := 17) rfl
theorem d_Ha_append_31 : decode c_Ha_append 31 = .ok (.getfield 18, 3) := dc_of (x := (31, .getfield 18, 3)) t0_Ha_append_ok (i := 18) rfl
theorem d_Ha_append_34 : decode c_Ha_append 34 = .ok (.aload_n 0, 1) := dc_of (x := (34, .aload_n 0, 1)) t0_Ha_append_ok (i := 19) rfl
theorem d_Ha_append_35 : decode c_Ha_append 35 = .ok (.getfield 25, 3) := dc_of (x := (35, .getfield 25, 3)) t0_Ha_append_ok (i := 20) rfl
theorem d_Ha_append_38 : decode c_Ha_append 38 = .ok (.lload_n 3, 1) := dc_of (x := (38, .lload_n 3, 1)) t0_Ha_append_ok (i := 21) rfl
theorem d_Ha_append_39 : decode c_Ha_append 39 = .ok (.lastore, 1) := dc_of (x := (39, .lastore, 1)) t0_Ha_append_ok (i := 22) rfl
theorem d_Ha_append_40 : decode c_Ha_append 40 = .ok (.aload_n 0, 1) := dc_of (x := (40, .aload_n 0, 1)) t0_Ha_append_ok (i := 23) rfl
theorem d_Ha_append_41 : decode c_Ha_append 41 = .ok (.getfield 22, 3) := dc_of (x := (41, .getfield 22, 3)) t0_Ha_append_ok (i := 24) rfl
theorem d_Ha_append_44 : decode c_Ha_append 44 = .ok (.aload_n 0, 1) := dc_of (x := (44, .aload_n 0, 1)) t0_Ha_append_ok (i := 25) rfl
theorem d_Ha_append_45 : decode c_Ha_append 45 = .ok (.getfield 25, 3) := dc_of (x := (45, .getfield 25, 3)) t0_Ha_append_ok (i := 26) rfl
theorem d_Ha_append_48 : decode c_Ha_append 48 = .ok (.iload 5, 2) := dc_of (x := (48, .iload 5, 2)) t0_Ha_append_ok (i := 27) rfl
theorem d_Ha_append_50 : decode c_Ha_append 50 = .ok (.iastore, 1) := dc_of (x := (50, .iastore, 1)) t0_Ha_append_ok (i := 28) rfl
theorem d_Ha_append_51 : decode c_Ha_append 51 = .ok (.aload_n 0, 1) := dc_of (x := (51, .aload_n 0, 1)) t0_Ha_append_ok (i := 29) rfl
theorem d_Ha_append_52 : decode c_Ha_append 52 = .ok (.dup, 1) := dc_of (x := (52, .dup, 1)) t0_Ha_append_ok (i := 30) rfl
theorem d_Ha_append_53 : decode c_Ha_append 53 = .ok (.getfield 25, 3) := dc_of (x := (53, .getfield 25, 3)) t0_Ha_append_ok (i := 31) rfl
theorem d_Ha_append_56 : decode c_Ha_append 56 = .ok (.iconst 1, 1) := dc_of (x := (56, .iconst 1, 1)) t0_Ha_append_ok (i := 32) rfl
theorem d_Ha_append_57 : decode c_Ha_append 57 = .ok (.iadd, 1) := dc_of (x := (57, .iadd, 1)) t0_Ha_append_ok (i := 33) rfl
theorem d_Ha_append_58 : decode c_Ha_append 58 = .ok (.putfield 25, 3) := dc_of (x := (58, .putfield 25, 3)) t0_Ha_append_ok (i := 34) rfl
theorem d_Ha_append_61 : decode c_Ha_append 61 = .ok (.return_, 1) := dc_of (x := (61, .return_, 1)) t0_Ha_append_ok (i := 35) rfl
def t0_Ha_first : List (Nat × Instr × Nat) := [(0, .aload_n 0, 1), (1, .getfield 25, 3), (4, .ifCond .le 7, 3), (7, .iconst 0, 1), (8, .goto 4, 3), (11, .iconst (-1), 1), (12, .istore_n 1, 1), (13, .iconst 1, 1), (14, .istore_n 2, 1), (15, .iload_n 2, 1), (16, .aload_n 0, 1), (17, .getfield 25, 3), (20, .if_icmp .ge 58, 3), (23, .aload_n 0, 1), (24, .getfield 18, 3), (27, .iload_n 2, 1), (28, .laload, 1), (29, .aload_n 0, 1), (30, .getfield 18, 3), (33, .iload_n 1, 1), (34, .laload, 1), (35, .lcmp, 1), (36, .ifCond .lt 34, 3), (39, .aload_n 0, 1), (40, .getfield 18, 3), (43, .iload_n 2, 1), (44, .laload, 1), (45, .aload_n 0, 1), (46, .getfield 18, 3), (49, .iload_n 1, 1), (50, .laload, 1), (51, .lcmp, 1), (52, .ifCond .ne 20, 3), (55, .aload_n 0, 1), (56, .getfield 15, 3), (59, .iload_n 2, 1), (60, .iaload, 1), (61, .aload_n 0, 1), (62, .getfield 15, 3), (65, .iload_n 1, 1), (66, .iaload, 1), (67, .if_icmp .ge 5, 3), (70, .iload_n 2, 1), (71, .istore_n 1, 1), (72, .iinc 2 1, 3), (75, .goto (-60), 3), (78, .iload_n 1, 1), (79, .ireturn, 1)]
theorem t0_Ha_first_ok : t0_Ha_first.all (fun x => decide (decode c_Ha_first x.1 = .ok x.2)) = true := by decide +kernel
theorem d_Ha_first_0 : decode c_Ha_first 0 = .ok (.aload_n 0, 1) := dc_of (x := (0, .aload_n 0, 1)) t0_Ha_first_ok (i := 0) rfl
theorem d_Ha_first_1 : decode c_Ha_first 1 = .ok (.getfield 25, 3) := dc_of (x := (1, .getfield 25, 3)) t0_Ha_first_ok (i := 1) rfl
theorem d_Ha_first_4 : decode c_Ha_first 4 = .ok (.ifCond .le 7, 3) := dc_of (x := (4, .ifCond .le 7, 3)) t0_Ha_first_ok (i := 2) rfl
theorem d_Ha_first_7 : decode c_Ha_first 7 = .ok (.iconst 0, 1) := dc_of (x := (7, .iconst 0, 1)) t0_Ha_first_ok (i := 3) rfl
theorem d_Ha_first_8 : decode c_Ha_first 8 = .ok (.goto 4, 3) := dc_of (x := (8, .goto 4, 3)) t0_Ha_first_ok (i := 4) rfl
theorem d_Ha_first_11 : decode c_Ha_first 11 = .ok (.iconst (-1), 1) := dc_of (x := (11, .iconst (-1), 1)) t0_Ha_first_ok (i := 5) rfl
theorem d_Ha_first_12 : decode c_Ha_first 12 = .ok (.istore_n 1, 1) := dc_of (x := (12, .istore_n 1, 1)) t0_Ha_first_ok (i := 6) rfl
theorem d_Ha_first_13 : decode c_Ha_first 13 = .ok (.iconst 1, 1) := dc_of (x := (13, .iconst 1, 1)) t0_Ha_first_ok (i := 7) rfl
theorem d_Ha_first_14 : decode c_Ha_first 14 = .ok (.istore_n 2, 1) := dc_of (x := (14, .istore_n 2, 1)) t0_Ha_first_ok (i := 8) rfl
theorem d_Ha_first_15 : decode c_Ha_first 15 = .ok (.iload_n 2, 1) := dc_of (x := (15, .iload_n 2, 1)) t0_Ha_first_ok (i := 9) rfl
theorem d_Ha_first_16 : decode c_Ha_first 16 = .ok (.aload_n 0, 1) := dc_of (x := (16, .aload_n 0, 1)) t0_Ha_first_ok (i := 10) rfl
theorem d_Ha_first_17 : decode c_Ha_first 17 = .ok (.getfield 25, 3) := dc_of (x := (17, .getfield 25, 3)) t0_Ha_first_ok (i := 11) rfl
theorem d_Ha_first_20 : decode c_Ha_first 20 = .ok (.if_icmp .ge 58, 3) := dc_of (x := (20, .if_icmp .ge 58, 3)) t0_Ha_first_ok (i := 12) rfl
theorem d_Ha_first_23 : decode c_Ha_first 23 = .ok (.aload_n 0, 1) := dc_of (x := (23, .aload_n 0, 1)) t0_Ha_first_ok (i := 13) rfl
theorem d_Ha_first_24 : decode c_Ha_first 24 = .ok (.getfield 18, 3) := dc_of (x := (24, .getfield 18, 3)) t0_Ha_first_ok (i := 14) rfl
theorem d_Ha_first_27 : decode c_Ha_first 27 = .ok (.iload_n 2, 1) := dc_of (x := (27, .iload_n 2, 1)) t0_Ha_first_ok (i := 15) rfl
theorem d_Ha_first_28 : decode c_Ha_first 28 = .ok (.laload, 1) := dc_of (x := (28, .laload, 1)) t0_Ha_first_ok (i := 16) rfl
theorem d_Ha_first_29 : decode c_Ha_first 29 = .ok (.aload_n 0, 1) := dc_of (x := (29, .aload_n 0, 1)) t0_Ha_first_ok (i := 17) rfl
theorem d_Ha_first_30 : decode c_Ha_first 30 = .ok (.getfield 18, 3) := dc_of (x := (30, .getfield 18, 3)) t0_Ha_first_ok (i := 18) rfl
theorem d_Ha_first_33 : decode c_Ha_first 33 = .ok (.iload_n 1, 1) := dc_of (x := (33, .iload_n 1, 1)) t0_Ha_first_ok (i := 19) rfl
theorem d_Ha_first_34 : decode c_Ha_first 34 = .ok (.laload, 1) := dc_of (x := (34, .laload, 1)) t0_Ha_first_ok (i := 20) rfl
theorem d_Ha_first_35 : decode c_Ha_first 35 = .ok (.lcmp, 1) := dc_of (x := (35, .lcmp, 1)) t0_Ha_first_ok (i := 21) rfl
theorem d_Ha_first_36 : decode c_Ha_first 36 = .ok (.ifCond .lt 34, 3) := dc_of (x := (36, .ifCond .lt 34, 3)) t0_Ha_first_ok (i := 22) rfl
theorem d_Ha_first_39 : decode c_Ha_first 39 = .ok (.aload_n 0, 1) := dc_of (x := (39, .aload_n 0, 1)) t0_Ha_first_ok (i := 23) rfl
theorem d_Ha_first_40 : decode c_Ha_first 40 = .ok (.getfield 18, 3) := dc_of (x := (40, .getfield 18, 3)) t0_Ha_first_ok (i := 24) rfl
theorem d_Ha_first_43 : decode c_Ha_first 43 = .ok (.iload_n 2, 1) := dc_of (x := (43, .iload_n 2, 1)) t0_Ha_first_ok (i := 25) rfl
theorem d_Ha_first_44 : decode c_Ha_first 44 = .ok (.laload, 1) := dc_of (x := (44, .laload, 1)) t0_Ha_first_ok (i := 26) rfl
theorem d_Ha_first_45 : decode c_Ha_first 45 = .ok (.aload_n 0, 1) := dc_of (x := (45, .aload_n 0, 1)) t0_Ha_first_ok (i := 27) rfl
theorem d_Ha_first_46 : decode c_Ha_first 46 = .ok (.getfield 18, 3) := dc_of (x := (46, .getfield 18, 3)) t0_Ha_first_ok (i := 28) rfl
theorem d_Ha_first_49 : decode c_Ha_first 49 = .ok (.iload_n 1, 1) := dc_of (x := (49, .iload_n 1, 1)) t0_Ha_first_ok (i := 29) rfl
theorem d_Ha_first_50 : decode c_Ha_first 50 = .ok (.laload, 1) := dc_of (x := (50, .laload, 1)) t0_Ha_first_ok (i := 30) rfl
theorem d_Ha_first_51 : decode c_Ha_first 51 = .ok (.lcmp, 1) := dc_of (x := (51, .lcmp, 1)) t0_Ha_first_ok (i := 31) rfl
theorem d_Ha_first_52 : decode c_Ha_first 52 = .ok (.ifCond .ne 20, 3) := dc_of (x := (52, .ifCond .ne 20, 3)) t0_Ha_first_ok (i := 32) rfl
theorem d_Ha_first_55 : decode c_Ha_first 55 = .ok (.aload_n 0, 1) := dc_of (x := (55, .aload_n 0, 1)) t0_Ha_first_ok (i := 33) rfl
theorem d_Ha_first_56 : decode c_Ha_first 56 = .ok (.getfield 15, 3) := dc_of (x := (56, .getfield 15, 3)) t0_Ha_first_ok (i := 34) rfl
theorem d_Ha_first_59 : decode c_Ha_first 59 = .ok (.iload_n 2, 1) := dc_of (x := (59, .iload_n 2, 1)) t0_Ha_first_ok (i := 35) rfl
theorem d_Ha_first_60 : decode c_Ha_first 60 = .ok (.iaload, 1) := dc_of (x := (60, .iaload, 1)) t0_Ha_first_ok (i := 36) rfl
theorem d_Ha_first_61 : decode c_Ha_first 61 = .ok (.aload_n 0, 1) := dc_of (x := (61, .aload_n 0, 1)) t0_Ha_first_ok (i := 37) rfl
theorem d_Ha_first_62 : decode c_Ha_first 62 = .ok (.getfield 15, 3) := dc_of (x := (62, .getfield 15, 3)) t0_Ha_first_ok (i := 38) rfl
theorem d_Ha_first_65 : decode c_Ha_first 65 = .ok (.iload_n 1, 1) := dc_of (x := (65, .iload_n 1, 1)) t0_Ha_first_ok (i := 39) rfl
theorem d_Ha_first_66 : decode c_Ha_first 66 = .ok (.iaload, 1) := dc_of (x := (66, .iaload, 1)) t0_Ha_first_ok (i := 40) rfl
theorem d_Ha_first_67 : decode c_Ha_first 67 = .ok (.if_icmp .ge 5, 3) := dc_of (x := (67, .if_icmp .ge 5, 3)) t0_Ha_first_ok (i := 41) rfl
theorem d_Ha_first_70 : decode c_Ha_first 70 = .ok (.iload_n 2, 1) := dc_of (x := (70, .iload_n 2, 1)) t0_Ha_first_ok (i := 42) rfl
theorem d_Ha_first_71 : decode c_Ha_first 71 = .ok (.istore_n 1, 1) := dc_of (x := (71, .istore_n 1, 1)) t0_Ha_first_ok (i := 43) rfl
theorem d_Ha_first_72 : decode c_Ha_first 72 = .ok (.iinc 2 1, 3) := dc_of (x := (72, .iinc 2 1, 3)) t0_Ha_first_ok (i := 44) rfl
theorem d_Ha_first_75 : decode c_Ha_first 75 = .ok (.goto (-60), 3) := dc_of (x := (75, .goto (-60), 3)) t0_Ha_first_ok (i := 45) rfl
theorem d_Ha_first_78 : decode c_Ha_first 78 = .ok (.iload_n 1, 1) := dc_of (x := (78, .iload_n 1, 1)) t0_Ha_first_ok (i := 46) rfl
theorem d_Ha_first_79 : decode c_Ha_first 79 = .ok (.ireturn, 1) := dc_of (x := (79, .ireturn, 1)) t0_Ha_first_ok (i := 47) rfl
def t0_Ha_drop : List (Nat × Instr × Nat) := [(0, .iload_n 1, 1), (1, .iconst 1, 1), (2, .iadd, 1), (3, .istore_n 2, 1), (4, .iload_n 2, 1), (5, .aload_n 0, 1), (6, .getfield 25, 3), (9, .if_icmp .ge 65, 3), (12, .aload_n 0, 1), (13, .getfield 9, 3), (16, .iload_n 2, 1), (17, .iconst 1, 1), (18, .isub, 1), (19, .aload_n 0, 1), (20, .getfield 9, 3), (23, .iload_n 2, 1), (24, .iaload, 1), (25, .iastore, 1), (26, .aload_n 0, 1), (27, .getfield 15, 3), (30, .iload_n 2, 1), (31, .iconst 1, 1), (32, .isub, 1), (33, .aload_n 0, 1), (34, .getfield 15, 3), (37, .iload_n 2, 1), (38, .iaload, 1), (39, .iastore, 1), (40, .aload_n 0, 1), (41, .getfield 18, 3), (44, .iload_n 2, 1), (45, .iconst 1, 1), (46, .isub, 1), (47, .aload_n 0, 1), (48, .getfield 18, 3), (51, .iload_n 2, 1), (52, .laload, 1), (53, .lastore, 1), (54, .aload_n 0, 1), (55, .getfield 22, 3), (58, .iload_n 2, 1), (59, .iconst 1, 1), (60, .isub, 1), (61, .aload_n 0, 1), (62, .getfield 22, 3), (65, .iload_n 2, 1), (66, .iaload, 1), (67, .iastore, 1), (68, .iinc 2 1, 3), (71, .goto (-67), 3), (74, .aload_n 0, 1), (75, .dup, 1), (76, .getfield 25, 3), (79, .iconst 1, 1), (80, .isub, 1), (81, .putfield 25, 3), (84, .return_, 1)]
theorem t0_Ha_drop_ok : t0_Ha_drop.all (fun x => decide (decode c_Ha_drop x.1 = .ok x.2)) = true := by decide +kernel
theorem d_Ha_drop_0 : decode c_Ha_drop 0 = .ok (.iload_n 1, 1) := dc_of (x := (0, .iload_n 1, 1)) t0_Ha_drop_ok (i := 0) rfl
theorem d_Ha_drop_1 : decode c_Ha_drop 1 = .ok (.iconst 1, 1) := dc_of (x := (1, .iconst 1, 1)) t0_Ha_drop_ok (i := 1) rfl
theorem d_Ha_drop_2 : decode c_Ha_drop 2 = .ok (.iadd, 1) := dc_of (x := (2, .iadd, 1)) t0_Ha_drop_ok (i := 2) rfl
theorem d_Ha_drop_3 : decode c_Ha_drop 3 = .ok (.istore_n 2, 1) := dc_of (x := (3, .istore_n 2, 1)) t0_Ha_drop_ok (i := 3) rfl
theorem d_Ha_drop_4 : decode c_Ha_drop 4 = .ok (.iload_n 2, 1) := dc_of (x := (4, .iload_n 2, 1)) t0_Ha_drop_ok (i := 4) rfl
theorem d_Ha_drop_5 : decode c_Ha_drop 5 = .ok (.aload_n 0, 1) := dc_of (x := (5, .aload_n 0, 1)) t0_Ha_drop_ok (i := 5) rfl
theorem d_Ha_drop_6 : decode c_Ha_drop 6 = .ok (.getfield 25, 3) := dc_of (x := (6, .getfield 25, 3)) t0_Ha_drop_ok (i := 6) rfl
theorem d_Ha_drop_9 : decode c_Ha_drop 9 = .ok (.if_icmp .ge 65, 3) := dc_of (x := (9, .if_icmp .ge 65, 3)) t0_Ha_drop_ok (i := 7) rfl
theorem d_Ha_drop_12 : decode c_Ha_drop 12 = .ok (.aload_n 0, 1) := dc_of (x := (12, .aload_n 0, 1)) t0_Ha_drop_ok (i := 8) rfl
theorem d_Ha_drop_13 : decode c_Ha_drop 13 = .ok (.getfield 9, 3) := dc_of (x := (13, .getfield 9, 3)) t0_Ha_drop_ok (i := 9) rfl
theorem d_Ha_drop_16 : decode c_Ha_drop 16 = .ok (.iload_n 2, 1) := dc_of (x := (16, .iload_n 2, 1)) t0_Ha_drop_ok (i := 10) rfl
theorem d_Ha_drop_17 : decode c_Ha_drop 17 = .ok (.iconst 1, 1) := dc_of (x := (17, .iconst 1, 1)) t0_Ha_drop_ok (i := 11) rfl
theorem d_Ha_drop_18 : decode c_Ha_drop 18 = .ok (.isub, 1) := dc_of (x := (18, .isub, 1)) t0_Ha_drop_ok (i := 12) rfl
theorem d_Ha_drop_19 : decode c_Ha_drop 19 = .ok (.aload_n 0, 1) := dc_of (x := (19, .aload_n 0, 1)) t0_Ha_drop_ok (i := 13) rfl
theorem d_Ha_drop_20 : decode c_Ha_drop 20 = .ok (.getfield 9, 3) := dc_of (x := (20, .getfield 9, 3)) t0_Ha_drop_ok (i := 14) rfl
theorem d_Ha_drop_23 : decode c_Ha_drop 23 = .ok (.iload_n 2, 1) := dc_of (x := (23, .iload_n 2, 1)) t0_Ha_drop_ok (i := 15) rfl
theorem d_Ha_drop_24 : decode c_Ha_drop 24 = .ok (.iaload, 1) := dc_of (x := (24, .iaload, 1)) t0_Ha_drop_ok (i := 16) rfl
theorem d_Ha_drop_25 : decode c_Ha_drop 25 = .ok (.iastore, 1) := dc_of (x := (25, .iastore, 1)) t0_Ha_drop_ok (i := 17) rfl
theorem d_Ha_drop_26 : decode c_Ha_drop 26 = .ok (.aload_n 0, 1) := dc_of (x := (26, .aload_n 0, 1)) t0_Ha_drop_ok (i := 18) rfl
theorem d_Ha_drop_27 : decode c_Ha_drop 27 = .ok (.getfield 15, 3) := dc_of (x := (27, .getfield 15, 3)) t0_Ha_drop_ok (i := 19) rfl
theorem d_Ha_drop_30 : decode c_Ha_drop 30 = .ok (.iload_n 2, 1) := dc_of (x := (30, .iload_n 2, 1)) t0_Ha_drop_ok (i := 20) rfl
theorem d_Ha_drop_31 : decode c_Ha_drop 31 = .ok (.iconst 1, 1) := dc_of (x := (31, .iconst 1, 1)) t0_Ha_drop_ok (i := 21) rfl
theorem d_Ha_drop_32 : decode c_Ha_drop 32 = .ok (.isub, 1) := dc_of (x := (32, .isub, 1)) t0_Ha_drop_ok (i := 22) rfl
theorem d_Ha_drop_33 : decode c_Ha_drop 33 = .ok (.aload_n 0, 1) := dc_of (x := (33, .aload_n 0, 1)) t0_Ha_drop_ok (i := 23) rfl
theorem d_Ha_drop_34 : decode c_Ha_drop 34 = .ok (.getfield 15, 3) := dc_of (x := (34, .getfield 15, 3)) t0_Ha_drop_ok (i := 24) rfl
theorem d_Ha_drop_37 : decode c_Ha_drop 37 = .ok (.iload_n 2, 1) := dc_of (x := (37, .iload_n 2, 1)) t0_Ha_drop_ok (i := 25) rfl
theorem d_Ha_drop_38 : decode c_Ha_drop 38 = .ok (.iaload, 1) := dc_of (x := (38, .iaload, 1)) t0_Ha_drop_ok (i := 26) rfl
theorem d_Ha_drop_39 : decode c_Ha_drop 39 = .ok (.iastore, 1) := dc_of (x := (39, .iastore, 1)) t0_Ha_drop_ok (i := 27) rfl
theorem d_Ha_drop_40 : decode c_Ha_drop 40 = .ok (.aload_n 0, 1) := dc_of (x := (40, .aload_n 0, 1)) t0_Ha_drop_ok (i := 28) rfl
theorem d_Ha_drop_41 : decode c_Ha_drop 41 = .ok (.getfield 18, 3) := dc_of (x := (41, .getfield 18, 3)) t0_Ha_drop_ok (i := 29) rfl
theorem d_Ha_drop_44 : decode c_Ha_drop 44 = .ok (.iload_n 2, 1) := dc_of (x := (44, .iload_n 2, 1)) t0_Ha_drop_ok (i := 30) rfl
theorem d_Ha_drop_45 : decode c_Ha_drop 45 = .ok (.iconst 1, 1) := dc_of (x := (45, .iconst 1, 1)) t0_Ha_drop_ok (i := 31) rfl
theorem d_Ha_drop_46 : decode c_Ha_drop 46 = .ok (.isub, 1) := dc_of (x := (46, .isub, 1)) t0_Ha_drop_ok (i := 32) rfl
theorem d_Ha_drop_47 : decode c_Ha_drop 47 = .ok (.aload_n 0, 1) := dc_of (x := (47, .aload_n 0, 1)) t0_Ha_drop_ok (i := 33) rfl
theorem d_Ha_drop_48 : decode c_Ha_drop 48 = .ok (.getfield 18, 3) := dc_of (x := (48, .getfield 18, 3)) t0_Ha_drop_ok (i := 34) rfl
theorem d_Ha_drop_51 : decode c_Ha_drop 51 = .ok (.iload_n 2, 1) := dc_of (x := (51, .iload_n 2, 1)) t0_Ha_drop_ok (i := 35) rfl
theorem d_Ha_drop_52 : decode c_Ha_drop 52 = .ok (.laload, 1) := dc_of (x := (52, .laload, 1)) t0_Ha_drop_ok (i := 36) rfl
theorem d_Ha_drop_53 : decode c_Ha_drop 53 = .ok (.lastore, 1) := dc_of (x := (53, .lastore, 1)) t0_Ha_drop_ok (i := 37) rfl
theorem d_Ha_drop_54 : decode c_Ha_drop 54 = .ok (.aload_n 0, 1) := dc_of (x := (54, .aload_n 0, 1)) t0_Ha_drop_ok (i := 38) rfl
theorem d_Ha_drop_55 : decode c_Ha_drop 55 = .ok (.getfield 22, 3) := dc_of (x := (55, .getfield 22, 3)) t0_Ha_drop_ok (i := 39) rfl
theorem d_Ha_drop_58 : decode c_Ha_drop 58 = .ok (.iload_n 2, 1) := dc_of (x := (58, .iload_n 2, 1)) t0_Ha_drop_ok (i := 40) rfl
theorem d_Ha_drop_59 : decode c_Ha_drop 59 = .ok (.iconst 1, 1) := dc_of (x := (59, .iconst 1, 1)) t0_Ha_drop_ok (i := 41) rfl
theorem d_Ha_drop_60 : decode c_Ha_drop 60 = .ok (.isub, 1) := dc_of (x := (60, .isub, 1)) t0_Ha_drop_ok (i := 42) rfl
theorem d_Ha_drop_61 : decode c_Ha_drop 61 = .ok (.aload_n 0, 1) := dc_of (x := (61, .aload_n 0, 1)) t0_Ha_drop_ok (i := 43) rfl
theorem d_Ha_drop_62 : decode c_Ha_drop 62 = .ok (.getfield 22, 3) := dc_of (x := (62, .getfield 22, 3)) t0_Ha_drop_ok (i := 44) rfl
theorem d_Ha_drop_65 : decode c_Ha_drop 65 = .ok (.iload_n 2, 1) := dc_of (x := (65, .iload_n 2, 1)) t0_Ha_drop_ok (i := 45) rfl
theorem d_Ha_drop_66 : decode c_Ha_drop 66 = .ok (.iaload, 1) := dc_of (x := (66, .iaload, 1)) t0_Ha_drop_ok (i := 46) rfl
theorem d_Ha_drop_67 : decode c_Ha_drop 67 = .ok (.iastore, 1) := dc_of (x := (67, .iastore, 1)) t0_Ha_drop_ok (i := 47) rfl
theorem d_Ha_drop_68 : decode c_Ha_drop 68 = .ok (.iinc 2 1, 3) := dc_of (x := (68, .iinc 2 1, 3)) t0_Ha_drop_ok (i := 48) rfl
theorem d_Ha_drop_71 : decode c_Ha_drop 71 = .ok (.goto (-67), 3) := dc_of (x := (71, .goto (-67), 3)) t0_Ha_drop_ok (i := 49) rfl
theorem d_Ha_drop_74 : decode c_Ha_drop 74 = .ok (.aload_n 0, 1) := dc_of (x := (74, .aload_n 0, 1)) t0_Ha_drop_ok (i := 50) rfl
theorem d_Ha_drop_75 : decode c_Ha_drop 75 = .ok (.dup, 1) := dc_of (x := (75, .dup, 1)) t0_Ha_drop_ok (i := 51) rfl
theorem d_Ha_drop_76 : decode c_Ha_drop 76 = .ok (.getfield 25, 3) := dc_of (x := (76, .getfield 25, 3)) t0_Ha_drop_ok (i := 52) rfl
theorem d_Ha_drop_79 : decode c_Ha_drop 79 = .ok (.iconst 1, 1) := dc_of (x := (79, .iconst 1, 1)) t0_Ha_drop_ok (i := 53) rfl
theorem d_Ha_drop_80 : decode c_Ha_drop 80 = .ok (.isub, 1) := dc_of (x := (80, .isub, 1)) t0_Ha_drop_ok (i := 54) rfl
theorem d_Ha_drop_81 : decode c_Ha_drop 81 = .ok (.putfield 25, 3) := dc_of (x := (81, .putfield 25, 3)) t0_Ha_drop_ok (i := 55) rfl
theorem d_Ha_drop_84 : decode c_Ha_drop 84 = .ok (.return_, 1) := dc_of (x := (84, .return_, 1)) t0_Ha_drop_ok (i := 56) rfl
def t0_Ne_init : List (Nat × Instr × Nat) := [(0, .aload_n 0, 1), (1, .invokespecial 3, 3), (4, .return_, 1)]
theorem t0_Ne_init_ok : t0_Ne_init.all (fun x => decide (decode c_Ne_init x.1 = .ok x.2)) = true := by decide +kernel
theorem d_Ne_init_0 : decode c_Ne_init 0 = .ok (.aload_n 0, 1) := dc_of (x := (0, .aload_n 0, 1)) t0_Ne_init_ok (i := 0) rfl
theorem d_Ne_init_1 : decode c_Ne_init 1 = .ok (.invokespecial 3, 3) := dc_of (x := (1, .invokespecial 3, 3)) t0_Ne_init_ok (i := 1) rfl
theorem d_Ne_init_4 : decode c_Ne_init 4 = .ok (.return_, 1) := dc_of (x := (4, .return_, 1)) t0_Ne_init_ok (i := 2) rfl
def t0_Ne_begin : List (Nat × Instr × Nat) := [(0, .aload_n 0, 1), (1, .iconst 3, 1), (2, .putfield 9, 3), (5, .aload_n 0, 1), (6, .iconst (-1), 1), (7, .putfield 15, 3), (10, .aload_n 0, 1), (11, .iconst 2, 1), (12, .putfield 18, 3), (15, .aload_n 0, 1), (16, .lconst 0, 1), (17, .putfield 21, 3), (20, .aload_n 0, 1), (21, .ldc2_w 25, 3), (24, .putfield 27, 3), (27, .aload_n 0, 1), (28, .ldc2_w 25, 3), (31, .putfield 30, 3), (34, .return_, 1)]
theorem t0_Ne_begin_ok : t0_Ne_begin.all (fun x => decide (decode c_Ne_begin x.1 = .ok x.2)) = true := by decide +kernel
theorem d_Ne_begin_0 : decode c_Ne_begin 0 = .ok (.aload_n 0, 1) := dc_of (x := (0, .aload_n 0, 1)) t0_Ne_begin_ok (i := 0) rfl
theorem d_Ne_begin_1 : decode c_Ne_begin 1 = .ok (.iconst 3, 1) := dc_of (x := (1, .iconst 3, 1)) t0_Ne_begin_ok (i := 1) rfl
theorem d_Ne_begin_2 : decode c_Ne_begin 2 = .ok (.putfield 9, 3) := dc_of (x := (2, .putfield 9, 3)) t0_Ne_begin_ok (i := 2) rfl
theorem d_Ne_begin_5 : decode c_Ne_begin 5 = .ok (.aload_n 0, 1) := dc_of (x := (5, .aload_n 0, 1)) t0_Ne_begin_ok (i := 3) rfl
theorem d_Ne_begin_6 : decode c_Ne_begin 6 = .ok (.iconst (-1), 1) := dc_of (x := (6, .iconst (-1), 1)) t0_Ne_begin_ok (i := 4) rfl
theorem d_Ne_begin_7 : decode c_Ne_begin 7 = .ok (.putfield 15, 3) := dc_of (x := (7, .putfield 15, 3)) t0_Ne_begin_ok (i := 5) rfl
theorem d_Ne_begin_10 : decode c_Ne_begin 10 = .ok (.aload_n 0, 1) := dc_of (x := (10, .aload_n 0, 1)) t0_Ne_begin_ok (i := 6) rfl
theorem d_Ne_begin_11 : decode c_Ne_begin 11 = .ok (.iconst 2, 1) := dc_of (x := (11, .iconst 2, 1)) t0_Ne_begin_ok (i := 7) rfl
theorem d_Ne_begin_12 : decode c_Ne_begin 12 = .ok (.putfield 18, 3) := dc_of (x := (12, .putfield 18, 3)) t0_Ne_begin_ok (i := 8) rfl
theorem d_Ne_begin_15 : decode c_Ne_begin 15 = .ok (.aload_n 0, 1) := dc_of (x := (15, .aload_n 0, 1)) t0_Ne_begin_ok (i := 9) rfl
theorem d_Ne_begin_16 : decode c_Ne_begin 16 = .ok (.lconst 0, 1) := dc_of (x := (16, .lconst 0, 1)) t0_Ne_begin_ok (i := 10) rfl
theorem d_Ne_begin_17 : decode c_Ne_begin 17 = .ok (.putfield 21, 3) := dc_of (x := (17, .putfield 21, 3)) t0_Ne_begin_ok (i := 11) rfl
theorem d_Ne_begin_20 : decode c_Ne_begin 20 = .ok (.aload_n 0, 1) := dc_of (x := (20, .aload_n 0, 1)) t0_Ne_begin_ok (i := 12) rfl
theorem d_Ne_begin_21 : decode c_Ne_begin 21 = .ok (.ldc2_w 25, 3) := dc_of (x := (21, .ldc2_w 25, 3)) t0_Ne_begin_ok (i := 13) rfl
theorem d_Ne_begin_24 : decode c_Ne_begin 24 = .ok (.putfield 27, 3) := dc_of (x := (24, .putfield 27, 3)) t0_Ne_begin_ok (i := 14) rfl
theorem d_Ne_begin_27 : decode c_Ne_begin 27 = .ok (.aload_n 0, 1) := dc_of (x := (27, .aload_n 0, 1)) t0_Ne_begin_ok (i := 15) rfl
theorem d_Ne_begin_28 : decode c_Ne_begin 28 = .ok (.ldc2_w 25, 3) := dc_of (x := (28, .ldc2_w 25, 3)) t0_Ne_begin_ok (i := 16) rfl
theorem d_Ne_begin_31 : decode c_Ne_begin 31 = .ok (.putfield 30, 3) := dc_of (x := (31, .putfield 30, 3)) t0_Ne_begin_ok (i := 17) rfl
theorem d_Ne_begin_34 : decode c_Ne_begin 34 = .ok (.return_, 1) := dc_of (x := (34, .return_, 1)) t0_Ne_begin_ok (i := 18) rfl
def t0_Ne_copyFrom : List (Nat × Instr × Nat) := [(0, .aload_n 0, 1), (1, .aload_n 1, 1), (2, .getfield 9, 3), (5, .putfield 9, 3), (8, .aload_n 0, 1), (9, .aload_n 1, 1), (10, .getfield 15, 3), (13, .putfield 15, 3), (16, .aload_n 0, 1), (17, .aload_n 1, 1), (18, .getfield 18, 3), (21, .putfield 18, 3), (24, .aload_n 0, 1), (25, .aload_n 1, 1), (26, .getfield 21, 3), (29, .putfield 21, 3), (32, .aload_n 0, 1), (33, .aload_n 1, 1), (34, .getfield 27, 3), (37, .putfield 27, 3), (40, .aload_n 0, 1), (41, .aload_n 1, 1), (42, .getfield 30, 3), (45, .putfield 30, 3), (48, .return_, 1)]
theorem t0_Ne_copyFrom_ok : t0_Ne_copyFrom.all (fun x => decide (decode c_Ne_copyFrom x.1 = .ok x.2)) = true := by decide +kernel
theorem d_Ne_copyFrom_0 : decode c_Ne_copyFrom 0 = .ok (.aload_n 0, 1) := dc_of (x := (0, .aload_n 0, 1)) t0_Ne_copyFrom_ok (i := 0) rfl
theorem d_Ne_copyFrom_1 : decode c_Ne_copyFrom 1 = .ok (.aload_n 1, 1) := dc_of (x := (1, .aload_n 1, 1)) t0_Ne_copyFrom_ok (i := 1) rfl
theorem d_Ne_copyFrom_2 : decode c_Ne_copyFrom 2 = .ok (.getfield 9, 3) := dc_of (x := (2, .getfield 9, 3)) t0_Ne_copyFrom_ok (i := 2) rfl
theorem d_Ne_copyFrom_5 : decode c_Ne_copyFrom 5 = .ok (.putfield 9, 3) := dc_of (x := (5, .putfield 9, 3)) t0_Ne_copyFrom_ok (i := 3) rfl
theorem d_Ne_copyFrom_8 : decode c_Ne_copyFrom 8 = .ok (.aload_n 0, 1) := dc_of (x := (8, .aload_n 0, 1)) t0_Ne_copyFrom_ok (i := 4) rfl
theorem d_Ne_copyFrom_9 : decode c_Ne_copyFrom 9 = .ok (.aload_n 1, 1) := dc_of (x := (9, .aload_n 1, 1)) t0_Ne_copyFrom_ok (i := 5) rfl
theorem d_Ne_copyFrom_10 : decode c_Ne_copyFrom 10 = .ok (.getfield 15, 3) := dc_of (x := (10, .getfield 15, 3)) t0_Ne_copyFrom_ok (i := 6) rfl
theorem d_Ne_copyFrom_13 : decode c_Ne_copyFrom 13 = .ok (.putfield 15, 3) := dc_of (x := (13, .putfield 15, 3)) t0_Ne_copyFrom_ok (i := 7) rfl
theorem d_Ne_copyFrom_16 : decode c_Ne_copyFrom 16 = .ok (.aload_n 0, 1) := dc_of (x := (16, .aload_n 0, 1)) t0_Ne_copyFrom_ok (i := 8) rfl
theorem d_Ne_copyFrom_17 : decode c_Ne_copyFrom 17 = .ok (.aload_n 1, 1) := dc_of (x := (17, .aload_n 1, 1)) t0_Ne_copyFrom_ok (i := 9) rfl
theorem d_Ne_copyFrom_18 : decode c_Ne_copyFrom 18 = .ok (.getfield 18, 3) := dc_of (x := (18, .getfield 18, 3)) t0_Ne_copyFrom_ok (i := 10) rfl
theorem d_Ne_copyFrom_21 : decode c_Ne_copyFrom 21 = .ok (.putfield 18, 3) := dc_of (x := (21, .putfield 18, 3)) t0_Ne_copyFrom_ok (i := 11) rfl
theorem d_Ne_copyFrom_24 : decode c_Ne_copyFrom 24 = .ok (.aload_n 0, 1) := dc_of (x := (24, .aload_n 0, 1)) t0_Ne_copyFrom_ok (i := 12) rfl
theorem d_Ne_copyFrom_25 : decode c_Ne_copyFrom 25 = .ok (.aload_n 1, 1) := dc_of (x := (25, .aload_n 1, 1)) t0_Ne_copyFrom_ok (i := 13) rfl
theorem d_Ne_copyFrom_26 : decode c_Ne_copyFrom 26 = .ok (.getfield 21, 3) := dc_of (x := (26, .getfield 21, 3)) t0_Ne_copyFrom_ok (i := 14) rfl
theorem d_Ne_copyFrom_29 : decode c_Ne_copyFrom 29 = .ok (.putfield 21, 3) := dc_of (x := (29, .putfield 21, 3)) t0_Ne_copyFrom_ok (i := 15) rfl
theorem d_Ne_copyFrom_32 : decode c_Ne_copyFrom 32 = .ok (.aload_n 0, 1) := dc_of (x := (32, .aload_n 0, 1)) t0_Ne_copyFrom_ok (i := 16) rfl
theorem d_Ne_copyFrom_33 : decode c_Ne_copyFrom 33 = .ok (.aload_n 1, 1) := dc_of (x := (33, .aload_n 1, 1)) t0_Ne_copyFrom_ok (i := 17) rfl
theorem d_Ne_copyFrom_34 : decode c_Ne_copyFrom 34 = .ok (.getfield 27, 3) := dc_of (x := (34, .getfield 27, 3)) t0_Ne_copyFrom_ok (i := 18) rfl
theorem d_Ne_copyFrom_37 : decode c_Ne_copyFrom 37 = .ok (.putfield 27, 3) := dc_of (x := (37, .putfield 27, 3)) t0_Ne_copyFrom_ok (i := 19) rfl
theorem d_Ne_copyFrom_40 : decode c_Ne_copyFrom 40 = .ok (.aload_n 0, 1) := dc_of (x := (40, .aload_n 0, 1)) t0_Ne_copyFrom_ok (i := 20) rfl
theorem d_Ne_copyFrom_41 : decode c_Ne_copyFrom 41 = .ok (.aload_n 1, 1) := dc_of (x := (41, .aload_n 1, 1)) t0_Ne_copyFrom_ok (i := 21) rfl
theorem d_Ne_copyFrom_42 : decode c_Ne_copyFrom 42 = .ok (.getfield 30, 3) := dc_of (x := (42, .getfield 30, 3)) t0_Ne_copyFrom_ok (i := 22) rfl
theorem d_Ne_copyFrom_45 : decode c_Ne_copyFrom 45 = .ok (.putfield 30, 3) := dc_of (x := (45, .putfield 30, 3)) t0_Ne_copyFrom_ok (i := 23) rfl
theorem d_Ne_copyFrom_48 : decode c_Ne_copyFrom 48 = .ok (.return_, 1) := dc_of (x := (48, .return_, 1)) t0_Ne_copyFrom_ok (i := 24) rfl
def t0_Ta_init : List (Nat × Instr × Nat) := [(0, .aload_n 0, 1), (1, .invokespecial 3, 3), (4, .aload_n 0, 1), (5, .sipush 2000, 3), (8, .newarray .int, 2), (10, .putfield 9, 3), (13, .return_, 1)]
theorem t0_Ta_init_ok : t0_Ta_init.all (fun x => decide (decode c_Ta_init x.1 = .ok x.2)) = true := by decide +kernel
theorem d_Ta_init_0 : decode c_Ta_init 0 = .ok (.aload_n 0, 1) := dc_of (x := (0, .aload_n 0, 1)) t0_Ta_init_ok (i := 0) rfl
theorem d_Ta_init_1 : decode c_Ta_init 1 = .ok (.invokespecial 3, 3) := dc_of (x := (1, .invokespecial 3, 3)) t0_Ta_init_ok (i := 1) rfl
theorem d_Ta_init_4 : decode c_Ta_init 4 = .ok (.aload_n 0, 1) := dc_of (x := (4, .aload_n 0, 1)) t0_Ta_init_ok (i := 2) rfl
theorem d_Ta_init_5 : decode c_Ta_init 5 = .ok (.sipush 2000, 3) := dc_of (x := (5, .sipush 2000, 3)) t0_Ta_init_ok (i := 3) rfl
theorem d_Ta_init_8 : decode c_Ta_init 8 = .ok (.newarray .int, 2) := dc_of (x := (8, .newarray .int, 2)) t0_Ta_init_ok (i := 4) rfl
theorem d_Ta_init_10 : decode c_Ta_init 10 = .ok (.putfield 9, 3) := dc_of (x := (10, .putfield 9, 3)) t0_Ta_init_ok (i := 5) rfl
theorem d_Ta_init_13 : decode c_Ta_init 13 = .ok (.return_, 1) := dc_of (x := (13, .return_, 1)) t0_Ta_init_ok (i := 6) rfl
def t0_Ta_append : List (Nat × Instr × Nat) := [(0, .aload_n 0, 1), (1, .getfield 15, 3), (4, .sipush 2000, 3), (7, .if_icmp .lt 5, 3), (10, .iconst 0, 1), (11, .ireturn, 1), (12, .aload_n 0, 1), (13, .getfield 9, 3), (16, .aload_n 0, 1), (17, .getfield 15, 3), (20, .iload_n 1, 1), (21, .iastore, 1), (22, .aload_n 0, 1), (23, .dup, 1), (24, .getfield 15, 3), (27, .iconst 1, 1), (28, .iadd, 1), (29, .putfield 15, 3), (32, .iconst 1, 1), (33, .ireturn, 1)]
theorem t0_Ta_append_ok : t0_Ta_append.all (fun x => decide (decode c_Ta_append x.1 = .ok x.2)) = true := by decide +kernel
theorem d_Ta_append_0 : decode c_Ta_append 0 = .ok (.aload_n 0, 1) := dc_of (x := (0, .aload_n 0, 1)) t0_Ta_append_ok (i := 0) rfl
theorem d_Ta_append_1 : decode c_Ta_append 1 = .ok (.getfield 15, 3) := dc_of (x := (1, .getfield 15, 3)) t0_Ta_append_ok (i := 1) rfl
theorem d_Ta_append_4 : decode c_Ta_append 4 = .ok (.sipush 2000, 3) := dc_of (x := (4, .sipush 2000, 3)) t0_Ta_append_ok (i := 2) rfl
theorem d_Ta_append_7 : decode c_Ta_append 7 = .ok (.if_icmp .lt 5, 3) := dc_of (x := (7, .if_icmp .lt 5, 3)) t0_Ta_append_ok (i := 3) rfl
theorem d_Ta_append_10 : decode c_Ta_append 10 = .ok (.iconst 0, 1) := dc_of (x := (10, .iconst 0, 1)) t0_Ta_append_ok (i := 4) rfl
theorem d_Ta_append_11 : decode c_Ta_append 11 = .ok (.ireturn, 1) := dc_of (x := (11, .ireturn, 1)) t0_Ta_append_ok (i := 5) rfl
theorem d_Ta_append_12 : decode c_Ta_append 12 = .ok (.aload_n 0, 1) := dc_of (x := (12, .aload_n 0, 1)) t0_Ta_append_ok (i := 6) rfl
theorem d_Ta_append_13 : decode c_Ta_append 13 = .ok (.getfield 9, 3) := dc_of (x := (13, .getfield 9, 3)) t0_Ta_append_ok (i := 7) rfl
theorem d_Ta_append_16 : decode c_Ta_append 16 = .ok (.aload_n 0, 1) := dc_of (x := (16, .aload_n 0, 1)) t0_Ta_append_ok (i := 8) rfl
theorem d_Ta_append_17 : decode c_Ta_append 17 = .ok (.getfield 15, 3) := dc_of (x := (17, .getfield 15, 3)) t0_Ta_append_ok (i := 9) rfl
theorem d_Ta_append_20 : decode c_Ta_append 20 = .ok (.iload_n 1, 1) := dc_of (x := (20, .iload_n 1, 1)) t0_Ta_append_ok (i := 10) rfl
theorem d_Ta_append_21 : decode c_Ta_append 21 = .ok (.iastore, 1) := dc_of (x := (21, .iastore, 1)) t0_Ta_append_ok (i := 11) rfl
theorem d_Ta_append_22 : decode c_Ta_append 22 = .ok (.aload_n 0, 1) := dc_of (x := (22, .aload_n 0, 1)) t0_Ta_append_ok (i := 12) rfl
theorem d_Ta_append_23 : decode c_Ta_append 23 = .ok (.dup, 1) := dc_of (x := (23, .dup, 1)) t0_Ta_append_ok (i := 13) rfl
theorem d_Ta_append_24 : decode c_Ta_append 24 = .ok (.getfield 15, 3) := dc_of (x := (24, .getfield 15, 3)) t0_Ta_append_ok (i := 14) rfl
theorem d_Ta_append_27 : decode c_Ta_append 27 = .ok (.iconst 1, 1) := dc_of (x := (27, .iconst 1, 1)) t0_Ta_append_ok (i := 15) rfl
theorem d_Ta_append_28 : decode c_Ta_append 28 = .ok (.iadd, 1) := dc_of (x := (28, .iadd, 1)) t0_Ta_append_ok (i := 16) rfl
theorem d_Ta_append_29 : decode c_Ta_append 29 = .ok (.putfield 15, 3) := dc_of (x := (29, .putfield 15, 3)) t0_Ta_append_ok (i := 17) rfl
theorem d_Ta_append_32 : decode c_Ta_append 32 = .ok (.iconst 1, 1) := dc_of (x := (32, .iconst 1, 1)) t0_Ta_append_ok (i := 18) rfl
theorem d_Ta_append_33 : decode c_Ta_append 33 = .ok (.ireturn, 1) := dc_of (x := (33, .ireturn, 1)) t0_Ta_append_ok (i := 19) rfl
def t0_Ta_byteOrNone : List (Nat × Instr × Nat) := [(0, .iload_n 1, 1), (1, .ifCond .lt 20, 3), (4, .iload_n 1, 1), (5, .aload_n 0, 1), (6, .getfield 15, 3), (9, .if_icmp .ge 12, 3), (12, .aload_n 0, 1), (13, .getfield 9, 3), (16, .iload_n 1, 1), (17, .iaload, 1), (18, .goto 4, 3), (21, .iconst (-1), 1), (22, .ireturn, 1)]
theorem t0_Ta_byteOrNone_ok : t0_Ta_byteOrNone.all (fun x => decide (decode c_Ta_byteOrNone x.1 = .ok x.2)) = true := by decide +kernel
theorem d_Ta_byteOrNone_0 : decode c_Ta_byteOrNone 0 = .ok (.iload_n 1, 1) := dc_of (x := (0, .iload_n 1, 1)) t0_Ta_byteOrNone_ok (i := 0) rfl
theorem d_Ta_byteOrNone_1 : decode c_Ta_byteOrNone 1 = .ok (.ifCond .lt 20, 3) := dc_of (x := (1, .ifCond .lt 20, 3)) t0_Ta_byteOrNone_ok (i := 1) rfl
theorem d_Ta_byteOrNone_4 : decode c_Ta_byteOrNone 4 = .ok (.iload_n 1, 1) := dc_of (x := (4, .iload_n 1, 1)) t0_Ta_byteOrNone_ok (i := 2) rfl
theorem d_Ta_byteOrNone_5 : decode c_Ta_byteOrNone 5 = .ok (.aload_n 0, 1) := dc_of (x := (5, .aload_n 0, 1)) t0_Ta_byteOrNone_ok (i := 3) rfl
theorem d_Ta_byteOrNone_6 : decode c_Ta_byteOrNone 6 = .ok (.getfield 15, 3) := dc_of (x := (6, .getfield 15, 3)) t0_Ta_byteOrNone_ok (i := 4) rfl
theorem d_Ta_byteOrNone_9 : decode c_Ta_byteOrNone 9 = .ok (.if_icmp .ge 12, 3) := dc_of (x := (9, .if_icmp .ge 12, 3)) t0_Ta_byteOrNone_ok (i := 5) rfl
theorem d_Ta_byteOrNone_12 : decode c_Ta_byteOrNone 12 = .ok (.aload_n 0, 1) := dc_of (x := (12, .aload_n 0, 1)) t0_Ta_byteOrNone_ok (i := 6) rfl
theorem d_Ta_byteOrNone_13 : decode c_Ta_byteOrNone 13 = .ok (.getfield 9, 3) := dc_of (x := (13, .getfield 9, 3)) t0_Ta_byteOrNone_ok (i := 7) rfl
theorem d_Ta_byteOrNone_16 : decode c_Ta_byteOrNone 16 = .ok (.iload_n 1, 1) := dc_of (x := (16, .iload_n 1, 1)) t0_Ta_byteOrNone_ok (i := 8) rfl
theorem d_Ta_byteOrNone_17 : decode c_Ta_byteOrNone 17 = .ok (.iaload, 1) := dc_of (x := (17, .iaload, 1)) t0_Ta_byteOrNone_ok (i := 9) rfl
theorem d_Ta_byteOrNone_18 : decode c_Ta_byteOrNone 18 = .ok (.goto 4, 3) := dc_of (x := (18, .goto 4, 3)) t0_Ta_byteOrNone_ok (i := 10) rfl
theorem d_Ta_byteOrNone_21 : decode c_Ta_byteOrNone 21 = .ok (.iconst (-1), 1) := dc_of (x := (21, .iconst (-1), 1)) t0_Ta_byteOrNone_ok (i := 11) rfl
theorem d_Ta_byteOrNone_22 : decode c_Ta_byteOrNone 22 = .ok (.ireturn, 1) := dc_of (x := (22, .ireturn, 1)) t0_Ta_byteOrNone_ok (i := 12) rfl
def t0_Ta_skipBlanks : List (Nat × Instr × Nat) := [(0, .iload_n 1, 1), (1, .istore_n 2, 1), (2, .iload_n 2, 1), (3, .aload_n 0, 1), (4, .getfield 15, 3), (7, .if_icmp .ge 20, 3), (10, .aload_n 0, 1), (11, .iload_n 2, 1), (12, .invokevirtual 19, 3), (15, .invokestatic 23, 3), (18, .ifCond .eq 9, 3), (21, .iinc 2 1, 3), (24, .goto (-22), 3), (27, .iload_n 2, 1), (28, .ireturn, 1)]
theorem t0_Ta_skipBlanks_ok : t0_Ta_skipBlanks.all (fun x => decide (decode c_Ta_skipBlanks x.1 = .ok x.2)) = true := by decide +kernel
theorem d_Ta_skipBlanks_0 : decode c_Ta_skipBlanks 0 = .ok (.iload_n 1, 1) := dc_of (x := (0, .iload_n 1, 1)) t0_Ta_skipBlanks_ok (i := 0) rfl
theorem d_Ta_skipBlanks_1 : decode c_Ta_skipBlanks 1 = .ok (.istore_n 2, 1) := dc_of (x := (1, .istore_n 2, 1)) t0_Ta_skipBlanks_ok (i := 1) rfl
theorem d_Ta_skipBlanks_2 : decode c_Ta_skipBlanks 2 = .ok (.iload_n 2, 1) := dc_of (x := (2, .iload_n 2, 1)) t0_Ta_skipBlanks_ok (i := 2) rfl
theorem d_Ta_skipBlanks_3 : decode c_Ta_skipBlanks 3 = .ok (.aload_n 0, 1) := dc_of (x := (3, .aload_n 0, 1)) t0_Ta_skipBlanks_ok (i := 3) rfl
theorem d_Ta_skipBlanks_4 : decode c_Ta_skipBlanks 4 = .ok (.getfield 15, 3) := dc_of (x := (4, .getfield 15, 3)) t0_Ta_skipBlanks_ok (i := 4) rfl
theorem d_Ta_skipBlanks_7 : decode c_Ta_skipBlanks 7 = .ok (.if_icmp .ge 20, 3) := dc_of (x := (7, .if_icmp .ge 20, 3)) t0_Ta_skipBlanks_ok (i := 5) rfl
theorem d_Ta_skipBlanks_10 : decode c_Ta_skipBlanks 10 = .ok (.aload_n 0, 1) := dc_of (x := (10, .aload_n 0, 1)) t0_Ta_skipBlanks_ok (i := 6) rfl
theorem d_Ta_skipBlanks_11 : decode c_Ta_skipBlanks 11 = .ok (.iload_n 2, 1) := dc_of (x := (11, .iload_n 2, 1)) t0_Ta_skipBlanks_ok (i := 7) rfl
theorem d_Ta_skipBlanks_12 : decode c_Ta_skipBlanks 12 = .ok (.invokevirtual 19, 3) := dc_of (x := (12, .invokevirtual 19, 3)) t0_Ta_skipBlanks_ok (i := 8) rfl
theorem d_Ta_skipBlanks_15 : decode c_Ta_skipBlanks 15 = .ok (.invokestatic 23, 3) := dc_of (x := (15, .invokestatic 23, 3)) t0_Ta_skipBlanks_ok (i := 9) rfl
theorem d_Ta_skipBlanks_18 : decode c_Ta_skipBlanks 18 = .ok (.ifCond .eq 9, 3) := dc_of (x := (18, .ifCond .eq 9, 3)) t0_Ta_skipBlanks_ok (i := 10) rfl
theorem d_Ta_skipBlanks_21 : decode c_Ta_skipBlanks 21 = .ok (.iinc 2 1, 3) := dc_of (x := (21, .iinc 2 1, 3)) t0_Ta_skipBlanks_ok (i := 11) rfl
theorem d_Ta_skipBlanks_24 : decode c_Ta_skipBlanks 24 = .ok (.goto (-22), 3) := dc_of (x := (24, .goto (-22), 3)) t0_Ta_skipBlanks_ok (i := 12) rfl
theorem d_Ta_skipBlanks_27 : decode c_Ta_skipBlanks 27 = .ok (.iload_n 2, 1) := dc_of (x := (27, .iload_n 2, 1)) t0_Ta_skipBlanks_ok (i := 13) rfl
theorem d_Ta_skipBlanks_28 : decode c_Ta_skipBlanks 28 = .ok (.ireturn, 1) := dc_of (x := (28, .ireturn, 1)) t0_Ta_skipBlanks_ok (i := 14) rfl
def t0_Ta_skipDigits : List (Nat × Instr × Nat) := [(0, .iload_n 1, 1), (1, .istore_n 2, 1), (2, .iload_n 2, 1), (3, .aload_n 0, 1), (4, .getfield 15, 3), (7, .if_icmp .ge 20, 3), (10, .aload_n 0, 1), (11, .iload_n 2, 1), (12, .invokevirtual 19, 3), (15, .invokestatic 27, 3), (18, .ifCond .eq 9, 3), (21, .iinc 2 1, 3), (24, .goto (-22), 3), (27, .iload_n 2, 1), (28, .ireturn, 1)]
theorem t0_Ta_skipDigits_ok : t0_Ta_skipDigits.all (fun x => decide (decode c_Ta_skipDigits x.1 = .ok x.2)) = true := by decide +kernel
theorem d_Ta_skipDigits_0 : decode c_Ta_skipDigits 0 = .ok (.iload_n 1, 1) := dc_of (x := (0, .iload_n 1, 1)) t0_Ta_skipDigits_ok (i := 0) rfl
theorem d_Ta_skipDigits_1 : decode c_Ta_skipDigits 1 = .ok (.istore_n 2, 1) := dc_of (x := (1, .istore_n 2, 1)) t0_Ta_skipDigits_ok (i := 1) rfl
theorem d_Ta_skipDigits_2 : decode c_Ta_skipDigits 2 = .ok (.iload_n 2, 1) := dc_of (x := (2, .iload_n 2, 1)) t0_Ta_skipDigits_ok (i := 2) rfl
theorem d_Ta_skipDigits_3 : decode c_Ta_skipDigits 3 = .ok (.aload_n 0, 1) := dc_of (x := (3, .aload_n 0, 1)) t0_Ta_skipDigits_ok (i := 3) rfl
theorem d_Ta_skipDigits_4 : decode c_Ta_skipDigits 4 = .ok (.getfield 15, 3) := dc_of (x := (4, .getfield 15, 3)) t0_Ta_skipDigits_ok (i := 4) rfl
theorem d_Ta_skipDigits_7 : decode c_Ta_skipDigits 7 = .ok (.if_icmp .ge 20, 3) := dc_of (x := (7, .if_icmp .ge 20, 3)) t0_Ta_skipDigits_ok (i := 5) rfl
theorem d_Ta_skipDigits_10 : decode c_Ta_skipDigits 10 = .ok (.aload_n 0, 1) := dc_of (x := (10, .aload_n 0, 1)) t0_Ta_skipDigits_ok (i := 6) rfl
theorem d_Ta_skipDigits_11 : decode c_Ta_skipDigits 11 = .ok (.iload_n 2, 1) := dc_of (x := (11, .iload_n 2, 1)) t0_Ta_skipDigits_ok (i := 7) rfl
theorem d_Ta_skipDigits_12 : decode c_Ta_skipDigits 12 = .ok (.invokevirtual 19, 3) := dc_of (x := (12, .invokevirtual 19, 3)) t0_Ta_skipDigits_ok (i := 8) rfl
theorem d_Ta_skipDigits_15 : decode c_Ta_skipDigits 15 = .ok (.invokestatic 27, 3) := dc_of (x := (15, .invokestatic 27, 3)) t0_Ta_skipDigits_ok (i := 9) rfl
theorem d_Ta_skipDigits_18 : decode c_Ta_skipDigits 18 = .ok (.ifCond .eq 9, 3) := dc_of (x := (18, .ifCond .eq 9, 3)) t0_Ta_skipDigits_ok (i := 10) rfl
theorem d_Ta_skipDigits_21 : decode c_Ta_skipDigits 21 = .ok (.iinc 2 1, 3) := dc_of (x := (21, .iinc 2 1, 3)) t0_Ta_skipDigits_ok (i := 11) rfl
theorem d_Ta_skipDigits_24 : decode c_Ta_skipDigits 24 = .ok (.goto (-22), 3) := dc_of (x := (24, .goto (-22), 3)) t0_Ta_skipDigits_ok (i := 12) rfl
theorem d_Ta_skipDigits_27 : decode c_Ta_skipDigits 27 = .ok (.iload_n 2, 1) := dc_of (x := (27, .iload_n 2, 1)) t0_Ta_skipDigits_ok (i := 13) rfl
theorem d_Ta_skipDigits_28 : decode c_Ta_skipDigits 28 = .ok (.ireturn, 1) := dc_of (x := (28, .ireturn, 1)) t0_Ta_skipDigits_ok (i := 14) rfl
def t0_Ta_isBlank : List (Nat × Instr × Nat) := [(0, .iload_n 0, 1), (1, .bipush 9, 2), (3, .if_icmp .eq 21, 3), (6, .iload_n 0, 1), (7, .bipush 10, 2), (9, .if_icmp .eq 15, 3), (12, .iload_n 0, 1), (13, .bipush 13, 2), (15, .if_icmp .eq 9, 3), (18, .iload_n 0, 1), (19, .bipush 32, 2), (21, .if_icmp .ne 7, 3), (24, .iconst 1, 1), (25, .goto 4, 3), (28, .iconst 0, 1), (29, .ireturn, 1)]
theorem t0_Ta_isBlank_ok : t0_Ta_isBlank.all (fun x => decide (decode c_Ta_isBlank x.1 = .ok x.2)) = true := by decide +kernel
theorem d_Ta_isBlank_0 : decode c_Ta_isBlank 0 = .ok (.iload_n 0, 1) := dc_of (x := (0, .iload_n 0, 1)) t0_Ta_isBlank_ok (i := 0) rfl
theorem d_Ta_isBlank_1 : decode c_Ta_isBlank 1 = .ok (.bipush 9, 2) := dc_of (x := (1, .bipush 9, 2)) t0_Ta_isBlank_ok (i := 1) rfl
theorem d_Ta_isBlank_3 : decode c_Ta_isBlank 3 = .ok (.if_icmp .eq 21, 3) := dc_of (x := (3, .if_icmp .eq 21, 3)) t0_Ta_isBlank_ok (i := 2) rfl
theorem d_Ta_isBlank_6 : decode c_Ta_isBlank 6 = .ok (.iload_n 0, 1) := dc_of (x := (6, .iload_n 0, 1)) t0_Ta_isBlank_ok (i := 3) rfl
theorem d_Ta_isBlank_7 : decode c_Ta_isBlank 7 = .ok (.bipush 10, 2) := dc_of (x := (7, .bipush 10, 2)) t0_Ta_isBlank_ok (i := 4) rfl
theorem d_Ta_isBlank_9 : decode c_Ta_isBlank 9 = .ok (.if_icmp .eq 15, 3) := dc_of (x := (9, .if_icmp .eq 15, 3)) t0_Ta_isBlank_ok (i := 5) rfl
theorem d_Ta_isBlank_12 : decode c_Ta_isBlank 12 = .ok (.iload_n 0, 1) := dc_of (x := (12, .iload_n 0, 1)) t0_Ta_isBlank_ok (i := 6) rfl
theorem d_Ta_isBlank_13 : decode c_Ta_isBlank 13 = .ok (.bipush 13, 2) := dc_of (x := (13, .bipush 13, 2)) t0_Ta_isBlank_ok (i := 7) rfl
theorem d_Ta_isBlank_15 : decode c_Ta_isBlank 15 = .ok (.if_icmp .eq 9, 3) := dc_of (x := (15, .if_icmp .eq 9, 3)) t0_Ta_isBlank_ok (i := 8) rfl
theorem d_Ta_isBlank_18 : decode c_Ta_isBlank 18 = .ok (.iload_n 0, 1) := dc_of (x := (18, .iload_n 0, 1)) t0_Ta_isBlank_ok (i := 9) rfl
theorem d_Ta_isBlank_19 : decode c_Ta_isBlank 19 = .ok (.bipush 32, 2) := dc_of (x := (19, .bipush 32, 2)) t0_Ta_isBlank_ok (i := 10) rfl
theorem d_Ta_isBlank_21 : decode c_Ta_isBlank 21 = .ok (.if_icmp .ne 7, 3) := dc_of (x := (21, .if_icmp .ne 7, 3)) t0_Ta_isBlank_ok (i := 11) rfl
theorem d_Ta_isBlank_24 : decode c_Ta_isBlank 24 = .ok (.iconst 1, 1) := dc_of (x := (24, .iconst 1, 1)) t0_Ta_isBlank_ok (i := 12) rfl
theorem d_Ta_isBlank_25 : decode c_Ta_isBlank 25 = .ok (.goto 4, 3) := dc_of (x := (25, .goto 4, 3)) t0_Ta_isBlank_ok (i := 13) rfl
theorem d_Ta_isBlank_28 : decode c_Ta_isBlank 28 = .ok (.iconst 0, 1) := dc_of (x := (28, .iconst 0, 1)) t0_Ta_isBlank_ok (i := 14) rfl
theorem d_Ta_isBlank_29 : decode c_Ta_isBlank 29 = .ok (.ireturn, 1) := dc_of (x := (29, .ireturn, 1)) t0_Ta_isBlank_ok (i := 15) rfl
def t0_Ta_isDigit : List (Nat × Instr × Nat) := [(0, .iload_n 0, 1), (1, .bipush 48, 2), (3, .if_icmp .lt 13, 3), (6, .iload_n 0, 1), (7, .bipush 57, 2), (9, .if_icmp .gt 7, 3), (12, .iconst 1, 1), (13, .goto 4, 3), (16, .iconst 0, 1), (17, .ireturn, 1)]
theorem t0_Ta_isDigit_ok : t0_Ta_isDigit.all (fun x => decide (decode c_Ta_isDigit x.1 = .ok x.2)) = true := by decide +kernel
theorem d_Ta_isDigit_0 : decode c_Ta_isDigit 0 = .ok (.iload_n 0, 1) := dc_of (x := (0, .iload_n 0, 1)) t0_Ta_isDigit_ok (i := 0) rfl
theorem d_Ta_isDigit_1 : decode c_Ta_isDigit 1 = .ok (.bipush 48, 2) := dc_of (x := (1, .bipush 48, 2)) t0_Ta_isDigit_ok (i := 1) rfl
theorem d_Ta_isDigit_3 : decode c_Ta_isDigit 3 = .ok (.if_icmp .lt 13, 3) := dc_of (x := (3, .if_icmp .lt 13, 3)) t0_Ta_isDigit_ok (i := 2) rfl
theorem d_Ta_isDigit_6 : decode c_Ta_isDigit 6 = .ok (.iload_n 0, 1) := dc_of (x := (6, .iload_n 0, 1)) t0_Ta_isDigit_ok (i := 3) rfl
theorem d_Ta_isDigit_7 : decode c_Ta_isDigit 7 = .ok (.bipush 57, 2) := dc_of (x := (7, .bipush 57, 2)) t0_Ta_isDigit_ok (i := 4) rfl
theorem d_Ta_isDigit_9 : decode c_Ta_isDigit 9 = .ok (.if_icmp .gt 7, 3) := dc_of (x := (9, .if_icmp .gt 7, 3)) t0_Ta_isDigit_ok (i := 5) rfl
theorem d_Ta_isDigit_12 : decode c_Ta_isDigit 12 = .ok (.iconst 1, 1) := dc_of (x := (12, .iconst 1, 1)) t0_Ta_isDigit_ok (i := 6) rfl
theorem d_Ta_isDigit_13 : decode c_Ta_isDigit 13 = .ok (.goto 4, 3) := dc_of (x := (13, .goto 4, 3)) t0_Ta_isDigit_ok (i := 7) rfl
theorem d_Ta_isDigit_16 : decode c_Ta_isDigit 16 = .ok (.iconst 0, 1) := dc_of (x := (16, .iconst 0, 1)) t0_Ta_isDigit_ok (i := 8) rfl
theorem d_Ta_isDigit_17 : decode c_Ta_isDigit 17 = .ok (.ireturn, 1) := dc_of (x := (17, .ireturn, 1)) t0_Ta_isDigit_ok (i := 9) rfl
def t0_Tr_init : List (Nat × Instr × Nat) := [(0, .aload_n 0, 1), (1, .invokespecial 3, 3), (4, .aload_n 0, 1), (5, .aload_n 1, 1), (6, .putfield 9, 3), (9, .aload_n 0, 1), (10, .aload_n 2, 1), (11, .putfield 15, 3), (14, .return_, 1)]
theorem t0_Tr_init_ok : t0_Tr_init.all (fun x => decide (decode c_Tr_init x.1 = .ok x.2)) = true := by decide +kernel
theorem d_Tr_init_0 : decode c_Tr_init 0 = .ok (.aload_n 0, 1) := dc_of (x := (0, .aload_n 0, 1)) t0_Tr_init_ok (i := 0) rfl
theorem d_Tr_init_1 : decode c_Tr_init 1 = .ok (.invokespecial 3, 3) := dc_of (x := (1, .invokespecial 3, 3)) t0_Tr_init_ok (i := 1) rfl
theorem d_Tr_init_4 : decode c_Tr_init 4 = .ok (.aload_n 0, 1) := dc_of (x := (4, .aload_n 0, 1)) t0_Tr_init_ok (i := 2) rfl
theorem d_Tr_init_5 : decode c_Tr_init 5 = .ok (.aload_n 1, 1) := dc_of (x := (5, .aload_n 1, 1)) t0_Tr_init_ok (i := 3) rfl
theorem d_Tr_init_6 : decode c_Tr_init 6 = .ok (.putfield 9, 3) := dc_of (x := (6, .putfield 9, 3)) t0_Tr_init_ok (i := 4) rfl
theorem d_Tr_init_9 : decode c_Tr_init 9 = .ok (.aload_n 0, 1) := dc_of (x := (9, .aload_n 0, 1)) t0_Tr_init_ok (i := 5) rfl
theorem d_Tr_init_10 : decode c_Tr_init 10 = .ok (.aload_n 2, 1) := dc_of (x := (10, .aload_n 2, 1)) t0_Tr_init_ok (i := 6) rfl
theorem d_Tr_init_11 : decode c_Tr_init 11 = .ok (.putfield 15, 3) := dc_of (x := (11, .putfield 15, 3)) t0_Tr_init_ok (i := 7) rfl
theorem d_Tr_init_14 : decode c_Tr_init 14 = .ok (.return_, 1) := dc_of (x := (14, .return_, 1)) t0_Tr_init_ok (i := 8) rfl
def t0_Tr_pass : List (Nat × Instr × Nat) := [(0, .aload_n 0, 1), (1, .ldc2_w 19, 3), (4, .putfield 21, 3), (7, .aload_n 0, 1), (8, .iconst 0, 1), (9, .putfield 25, 3), (12, .aload_n 0, 1), (13, .getfield 9, 3), (16, .iconst 0, 1), (17, .invokevirtual 29, 3), (20, .istore_n 2, 1), (21, .iconst 0, 1), (22, .istore_n 3, 1), (23, .iload_n 3, 1), (24, .sipush 2000, 3), (27, .if_icmp .ge 67, 3), (30, .iload_n 2, 1), (31, .aload_n 0, 1), (32, .getfield 9, 3), (35, .getfield 35, 3), (38, .if_icmp .ge 56, 3), (41, .aload_n 0, 1), (42, .getfield 9, 3), (45, .iload_n 2, 1), (46, .invokevirtual 38, 3), (49, .bipush 35, 2), (51, .if_icmp .ne 11, 3), (54, .aload_n 0, 1), (55, .iload_n 2, 1), (56, .invokevirtual 41, 3), (59, .goto 9, 3), (62, .aload_n 0, 1), (63, .iload_n 2, 1), (64, .iload_n 1, 1), (65, .invokevirtual 44, 3), (68, .istore 4, 2), (70, .iload 4, 2), (72, .iconst (-1), 1), (73, .if_icmp .ne 5, 3), (76, .iload_n 2, 1), (77, .ireturn, 1), (78, .aload_n 0, 1), (79, .getfield 9, 3), (82, .iload 4, 2), (84, .invokevirtual 29, 3), (87, .istore_n 2, 1), (88, .iinc 3 1, 3), (91, .goto (-68), 3), (94, .iconst (-1), 1), (95, .ireturn, 1)]
theorem t0_Tr_pass_ok : t0_Tr_pass.all (fun x => decide (decode c_Tr_pass x.1 = .ok x.2)) = true := by decide +kernel
theorem d_Tr_pass_0 : decode c_Tr_pass 0 = .ok (.aload_n 0, 1) := dc_of (x := (0, .aload_n 0, 1)) t0_Tr_pass_ok (i := 0) rfl
theorem d_Tr_pass_1 : decode c_Tr_pass 1 = .ok (.ldc2_w 19, 3) := dc_of (x := (1, .ldc2_w 19, 3)) t0_Tr_pass_ok (i := 1) rfl
theorem d_Tr_pass_4 : decode c_Tr_pass 4 = .ok (.putfield 21, 3) := dc_of (x := (4, .putfield 21, 3)) t0_Tr_pass_ok (i := 2) rfl
theorem d_Tr_pass_7 : decode c_Tr_pass 7 = .ok (.aload_n 0, 1) := dc_of (x := (7, .aload_n 0, 1)) t0_Tr_pass_ok (i := 3) rfl
theorem d_Tr_pass_8 : decode c_Tr_pass 8 = .ok (.iconst 0, 1) := dc_of (x := (8, .iconst 0, 1)) t0_Tr_pass_ok (i := 4) rfl
theorem d_Tr_pass_9 : decode c_Tr_pass 9 = .ok (.putfield 25, 3) := dc_of (x := (9, .putfield 25, 3)) t0_Tr_pass_ok (i := 5) rfl
theorem d_Tr_pass_12 : decode c_Tr_pass 12 = .ok (.aload_n 0, 1) := dc_of (x := (12, .aload_n 0, 1)) t0_Tr_pass_ok (i := 6) rfl
theorem d_Tr_pass_13 : decode c_Tr_pass 13 = .ok (.getfield 9, 3) := dc_of (x := (13, .getfield 9, 3)) t0_Tr_pass_ok (i := 7) rfl
theorem d_Tr_pass_16 : decode c_Tr_pass 16 = .ok (.iconst 0, 1) := dc_of (x := (16, .iconst 0, 1)) t0_Tr_pass_ok (i := 8) rfl
theorem d_Tr_pass_17 : decode c_Tr_pass 17 = .ok (.invokevirtual 29, 3) := dc_of (x := (17, .invokevirtual 29, 3)) t0_Tr_pass_ok (i := 9) rfl
theorem d_Tr_pass_20 : decode c_Tr_pass 20 = .ok (.istore_n 2, 1) := dc_of (x := (20, .istore_n 2, 1)) t0_Tr_pass_ok (i := 10) rfl
theorem d_Tr_pass_21 : decode c_Tr_pass 21 = .ok (.iconst 0, 1) := dc_of (x := (21, .iconst 0, 1)) t0_Tr_pass_ok (i := 11) rfl
theorem d_Tr_pass_22 : decode c_Tr_pass 22 = .ok (.istore_n 3, 1) := dc_of (x := (22, .istore_n 3, 1)) t0_Tr_pass_ok (i := 12) rfl
theorem d_Tr_pass_23 : decode c_Tr_pass 23 = .ok (.iload_n 3, 1) := dc_of (x := (23, .iload_n 3, 1)) t0_Tr_pass_ok (i := 13) rfl
theorem d_Tr_pass_24 : decode c_Tr_pass 24 = .ok (.sipush 2000, 3) := dc_of (x := (24, .sipush 2000, 3)) t0_Tr_pass_ok (i := 14) rfl
theorem d_Tr_pass_27 : decode c_Tr_pass 27 = .ok (.if_icmp .ge 67, 3) := dc_of (x := (27, .if_icmp .ge 67, 3)) t0_Tr_pass_ok (i := 15) rfl
theorem d_Tr_pass_30 : decode c_Tr_pass 30 = .ok (.iload_n 2, 1) := dc_of (x := (30, .iload_n 2, 1)) t0_Tr_pass_ok (i := 16) rfl
theorem d_Tr_pass_31 : decode c_Tr_pass 31 = .ok (.aload_n 0, 1) := dc_of (x := (31, .aload_n 0, 1)) t0_Tr_pass_ok (i := 17) rfl
theorem d_Tr_pass_32 : decode c_Tr_pass 32 = .ok (.getfield 9, 3) := dc_of (x := (32, .getfield 9, 3)) t0_Tr_pass_ok (i := 18) rfl
theorem d_Tr_pass_35 : decode c_Tr_pass 35 = .ok (.getfield 35, 3) := dc_of (x := (35, .getfield 35, 3)) t0_Tr_pass_ok (i := 19) rfl
theorem d_Tr_pass_38 : decode c_Tr_pass 38 = .ok (.if_icmp .ge 56, 3) := dc_of (x := (38, .if_icmp .ge 56, 3)) t0_Tr_pass_ok (i := 20) rfl
theorem d_Tr_pass_41 : decode c_Tr_pass 41 = .ok (.aload_n 0, 1) := dc_of (x := (41, .aload_n 0, 1)) t0_Tr_pass_ok (i := 21) rfl
theorem d_Tr_pass_42 : decode c_Tr_pass 42 = .ok (.getfield 9, 3) := dc_of (x := (42, .getfield 9, 3)) t0_Tr_pass_ok (i := 22) rfl
theorem d_Tr_pass_45 : decode c_Tr_pass 45 = .ok (.iload_n 2, 1) := dc_of (x := (45, .iload_n 2, 1)) t0_Tr_pass_ok (i := 23) rfl
theorem d_Tr_pass_46 : decode c_Tr_pass 46 = .ok (.invokevirtual 38, 3) := dc_of (x := (46, .invokevirtual 38, 3)) t0_Tr_pass_ok (i := 24) rfl
theorem d_Tr_pass_49 : decode c_Tr_pass 49 = .ok (.bipush 35, 2) := dc_of (x := (49, .bipush 35, 2)) t0_Tr_pass_ok (i := 25) rfl
theorem d_Tr_pass_51 : decode c_Tr_pass 51 = .ok (.if_icmp .ne 11, 3) := dc_of (x := (51, .if_icmp .ne 11, 3)) t0_Tr_pass_ok (i := 26) rfl
theorem d_Tr_pass_54 : decode c_Tr_pass 54 = .ok (.aload_n 0, 1) := dc_of (x := (54, .aload_n 0, 1)) t0_Tr_pass_ok (i := 27) rfl
theorem d_Tr_pass_55 : decode c_Tr_pass 55 = .ok (.iload_n 2, 1) := dc_of (x := (55, .iload_n 2, 1)) t0_Tr_pass_ok (i := 28) rfl
theorem d_Tr_pass_56 : decode c_Tr_pass 56 = .ok (.invokevirtual 41, 3) := dc_of (x := (56, .invokevirtual 41, 3)) t0_Tr_pass_ok (i := 29) rfl
theorem d_Tr_pass_59 : decode c_Tr_pass 59 = .ok (.goto 9, 3) := dc_of (x := (59, .goto 9, 3)) t0_Tr_pass_ok (i := 30) rfl
theorem d_Tr_pass_62 : decode c_Tr_pass 62 = .ok (.aload_n 0, 1) := dc_of (x := (62, .aload_n 0, 1)) t0_Tr_pass_ok (i := 31) rfl
theorem d_Tr_pass_63 : decode c_Tr_pass 63 = .ok (.iload_n 2, 1) := dc_of (x := (63, .iload_n 2, 1)) t0_Tr_pass_ok (i := 32) rfl
theorem d_Tr_pass_64 : decode c_Tr_pass 64 = .ok (.iload_n 1, 1) := dc_of (x := (64, .iload_n 1, 1)) t0_Tr_pass_ok (i := 33) rfl
theorem d_Tr_pass_65 : decode c_Tr_pass 65 = .ok (.invokevirtual 44, 3) := dc_of (x := (65, .invokevirtual 44, 3)) t0_Tr_pass_ok (i := 34) rfl
theorem d_Tr_pass_68 : decode c_Tr_pass 68 = .ok (.istore 4, 2) := dc_of (x := (68, .istore 4, 2)) t0_Tr_pass_ok (i := 35) rfl
theorem d_Tr_pass_70 : decode c_Tr_pass 70 = .ok (.iload 4, 2) := dc_of (x := (70, .iload 4, 2)) t0_Tr_pass_ok (i := 36) rfl
theorem d_Tr_pass_72 : decode c_Tr_pass 72 = .ok (.iconst (-1), 1) := dc_of (x := (72, .iconst (-1), 1)) t0_Tr_pass_ok (i := 37) rfl
theorem d_Tr_pass_73 : decode c_Tr_pass 73 = .ok (.if_icmp .ne 5, 3) := dc_of (x := (73, .if_icmp .ne 5, 3)) t0_Tr_pass_ok (i := 38) rfl
theorem d_Tr_pass_76 : decode c_Tr_pass 76 = .ok (.iload_n 2, 1) := dc_of (x := (76, .iload_n 2, 1)) t0_Tr_pass_ok (i := 39) rfl
theorem d_Tr_pass_77 : decode c_Tr_pass 77 = .ok (.ireturn, 1) := dc_of (x := (77, .ireturn, 1)) t0_Tr_pass_ok (i := 40) rfl
theorem d_Tr_pass_78 : decode c_Tr_pass 78 = .ok (.aload_n 0, 1) := dc_of (x := (78, .aload_n 0, 1)) t0_Tr_pass_ok (i := 41) rfl
theorem d_Tr_pass_79 : decode c_Tr_pass 79 = .ok (.getfield 9, 3) := dc_of (x := (79, .getfield 9, 3)) t0_Tr_pass_ok (i := 42) rfl
theorem d_Tr_pass_82 : decode c_Tr_pass 82 = .ok (.iload 4, 2) := dc_of (x := (82, .iload 4, 2)) t0_Tr_pass_ok (i := 43) rfl
theorem d_Tr_pass_84 : decode c_Tr_pass 84 = .ok (.invokevirtual 29, 3) := dc_of (x := (84, .invokevirtual 29, 3)) t0_Tr_pass_ok (i := 44) rfl
theorem d_Tr_pass_87 : decode c_Tr_pass 87 = .ok (.istore_n 2, 1) := dc_of (x := (87, .istore_n 2, 1)) t0_Tr_pass_ok (i := 45) rfl
theorem d_Tr_pass_88 : decode c_Tr_pass 88 = .ok (.iinc 3 1, 3) := dc_of (x := (88, .iinc 3 1, 3)) t0_Tr_pass_ok (i := 46) rfl
theorem d_Tr_pass_91 : decode c_Tr_pass 91 = .ok (.goto (-68), 3) := dc_of (x := (91, .goto (-68), 3)) t0_Tr_pass_ok (i := 47) rfl
theorem d_Tr_pass_94 : decode c_Tr_pass 94 = .ok (.iconst (-1), 1) := dc_of (x := (94, .iconst (-1), 1)) t0_Tr_pass_ok (i := 48) rfl
theorem d_Tr_pass_95 : decode c_Tr_pass 95 = .ok (.ireturn, 1) := dc_of (x := (95, .ireturn, 1)) t0_Tr_pass_ok (i := 49) rfl
def t0_Tr_takeTime : List (Nat × Instr × Nat) := [(0, .aload_n 0, 1), (1, .getfield 9, 3), (4, .iload_n 1, 1), (5, .iconst 1, 1), (6, .iadd, 1), (7, .invokevirtual 48, 3), (10, .istore_n 2, 1), (11, .lconst 0, 1), (12, .lstore_n 3, 1), (13, .iload_n 1, 1), (14, .iconst 1, 1), (15, .iadd, 1), (16, .istore 5, 2), (18, .iload 5, 2), (20, .iload_n 2, 1), (21, .if_icmp .ge 35, 3), (24, .lload_n 3, 1), (25, .ldc2_w 51, 3), (28, .lmul, 1), (29, .aload_n 0, 1), (30, .getfield 9, 3), (33, .iload 5, 2), (35, .invokevirtual 38, 3), (38, .bipush 48, 2), (40, .isub, 1), (41, .i2l, 1), (42, .ladd, 1), (43, .ldc2_w 53, 3), (46, .invokestatic 55, 3), (49, .lstore_n 3, 1), (50, .iinc 5 1, 3), (53, .goto (-35), 3), (56, .iload_n 2, 1), (57, .iload_n 1, 1), (58, .iconst 1, 1), (59, .iadd, 1), (60, .if_icmp .eq 14, 3), (63, .aload_n 0, 1), (64, .getfield 15, 3), (67, .lload_n 3, 1), (68, .invokevirtual 61, 3), (71, .ifCond .ne 5, 3), (74, .iconst (-1), 1), (75, .ireturn, 1), (76, .aload_n 0, 1), (77, .lload_n 3, 1), (78, .putfield 21, 3), (81, .iload_n 2, 1), (82, .ireturn, 1)]
theorem t0_Tr_takeTime_ok : t0_Tr_takeTime.all (fun x => decide (decode c_Tr_takeTime x.1 = .ok x.2)) = true := by decide +kernel
theorem d_Tr_takeTime_0 : decode c_Tr_takeTime 0 = .ok (.aload_n 0, 1) := dc_of (x := (0, .aload_n 0, 1)) t0_Tr_takeTime_ok (i := 0) rfl
theorem d_Tr_takeTime_1 : decode c_Tr_takeTime 1 = .ok (.getfield 9, 3) := dc_of (x := (1, .getfield 9, 3)) t0_Tr_takeTime_ok (i := 1) rfl
theorem d_Tr_takeTime_4 : decode c_Tr_takeTime 4 = .ok (.iload_n 1, 1) := dc_of (x := (4, .iload_n 1, 1)) t0_Tr_takeTime_ok (i := 2) rfl
theorem d_Tr_takeTime_5 : decode c_Tr_takeTime 5 = .ok (.iconst 1, 1) := dc_of (x := (5, .iconst 1, 1)) t0_Tr_takeTime_ok (i := 3) rfl
theorem d_Tr_takeTime_6 : decode c_Tr_takeTime 6 = .ok (.iadd, 1) := dc_of (x := (6, .iadd, 1)) t0_Tr_takeTime_ok (i := 4) rfl
theorem d_Tr_takeTime_7 : decode c_Tr_takeTime 7 = .ok (.invokevirtual 48, 3) := dc_of (x := (7, .invokevirtual 48, 3)) t0_Tr_takeTime_ok (i := 5) rfl
theorem d_Tr_takeTime_10 : decode c_Tr_takeTime 10 = .ok (.istore_n 2, 1) := dc_of (x := (10, .istore_n 2, 1)) t0_Tr_takeTime_ok (i := 6) rfl
theorem d_Tr_takeTime_11 : decode c_Tr_takeTime 11 = .ok (.lconst 0, 1) := dc_of (x := (11, .lconst 0, 1)) t0_Tr_takeTime_ok (i := 7) rfl
theorem d_Tr_takeTime_12 : decode c_Tr_takeTime 12 = .ok (.lstore_n 3, 1) := dc_of (x := (12, .lstore_n 3, 1)) t0_Tr_takeTime_ok (i := 8) rfl
theorem d_Tr_takeTime_13 : decode c_Tr_takeTime 13 = .ok (.iload_n 1, 1) := dc_of (x := (13, .iload_n 1, 1)) t0_Tr_takeTime_ok (i := 9) rfl
theorem d_Tr_takeTime_14 : decode c_Tr_takeTime 14 = .ok (.iconst 1, 1) := dc_of (x := (14, .iconst 1, 1)) t0_Tr_takeTime_ok (i := 10) rfl
theorem d_Tr_takeTime_15 : decode c_Tr_takeTime 15 = .ok (.iadd, 1) := dc_of (x := (15, .iadd, 1)) t0_Tr_takeTime_ok (i := 11) rfl
theorem d_Tr_takeTime_16 : decode c_Tr_takeTime 16 = .ok (.istore 5, 2) := dc_of (x := (16, .istore 5, 2)) t0_Tr_takeTime_ok (i := 12) rfl
theorem d_Tr_takeTime_18 : decode c_Tr_takeTime 18 = .ok (.iload 5, 2) := dc_of (x := (18, .iload 5, 2)) t0_Tr_takeTime_ok (i := 13) rfl
theorem d_Tr_takeTime_20 : decode c_Tr_takeTime 20 = .ok (.iload_n 2, 1) := dc_of (x := (20, .iload_n 2, 1)) t0_Tr_takeTime_ok (i := 14) rfl
theorem d_Tr_takeTime_21 : decode c_Tr_takeTime 21 = .ok (.if_icmp .ge 35, 3) := dc_of (x := (21, .if_icmp .ge 35, 3)) t0_Tr_takeTime_ok (i := 15) rfl
theorem d_Tr_takeTime_24 : decode c_Tr_takeTime 24 = .ok (.lload_n 3, 1) := dc_of (x := (24, .lload_n 3, 1)) t0_Tr_takeTime_ok (i := 16) rfl
theorem d_Tr_takeTime_25 : decode c_Tr_takeTime 25 = .ok (.ldc2_w 51, 3) := dc_of (x := (25, .ldc2_w 51, 3)) t0_Tr_takeTime_ok (i := 17) rfl
theorem d_Tr_takeTime_28 : decode c_Tr_takeTime 28 = .ok (.lmul, 1) := dc_of (x := (28, .lmul, 1)) t0_Tr_takeTime_ok (i := 18) rfl
theorem d_Tr_takeTime_29 : decode c_Tr_takeTime 29 = .ok (.aload_n 0, 1) := dc_of (x := (29, .aload_n 0, 1)) t0_Tr_takeTime_ok (i := 19) rfl
theorem d_Tr_takeTime_30 : decode c_Tr_takeTime 30 = .ok (.getfield 9, 3) := dc_of (x := (30, .getfield 9, 3)) t0_Tr_takeTime_ok (i := 20) rfl
theorem d_Tr_takeTime_33 : decode c_Tr_takeTime 33 = .ok (.iload 5, 2) := dc_of (x := (33, .iload 5, 2)) t0_Tr_takeTime_ok (i := 21) rfl
theorem d_Tr_takeTime_35 : decode c_Tr_takeTime 35 = .ok (.invokevirtual 38, 3) := dc_of (x := (35, .invokevirtual 38, 3)) t0_Tr_takeTime_ok (i := 22) rfl
theorem d_Tr_takeTime_38 : decode c_Tr_takeTime 38 = .ok (.bipush 48, 2) := dc_of (x := (38, .bipush 48, 2)) t0_Tr_takeTime_ok (i := 23) rfl
theorem d_Tr_takeTime_40 : decode c_Tr_takeTime 40 = .ok (.isub, 1) := dc_of (x := (40, .isub, 1)) t0_Tr_takeTime_ok (i := 24) rfl
theorem d_Tr_takeTime_41 : decode c_Tr_takeTime 41 = .ok (.i2l, 1) := dc_of (x := (41, .i2l, 1)) t0_Tr_takeTime_ok (i := 25) rfl
theorem d_Tr_takeTime_42 : decode c_Tr_takeTime 42 = .ok (.ladd, 1) := dc_of (x := (42, .ladd, 1)) t0_Tr_takeTime_ok (i := 26) rfl
theorem d_Tr_takeTime_43 : decode c_Tr_takeTime 43 = .ok (.ldc2_w 53, 3) := dc_of (x := (43, .ldc2_w 53, 3)) t0_Tr_takeTime_ok (i := 27) rfl
theorem d_Tr_takeTime_46 : decode c_Tr_takeTime 46 = .ok (.invokestatic 55, 3) := dc_of (x := (46, .invokestatic 55, 3)) t0_Tr_takeTime_ok (i := 28) rfl
theorem d_Tr_takeTime_49 : decode c_Tr_takeTime 49 = .ok (.lstore_n 3, 1) := dc_of (x := (49, .lstore_n 3, 1)) t0_Tr_takeTime_ok (i := 29) rfl
theorem d_Tr_takeTime_50 : decode c_Tr_takeTime 50 = .ok (.iinc 5 1, 3) := dc_of (x := (50, .iinc 5 1, 3)) t0_Tr_takeTime_ok (i := 30) rfl
theorem d_Tr_takeTime_53 : decode c_Tr_takeTime 53 = .ok (.goto (-35), 3) := dc_of (x := (53, .goto (-35), 3)) t0_Tr_takeTime_ok (i := 31) rfl
theorem d_Tr_takeTime_56 : decode c_Tr_takeTime 56 = .ok (.iload_n 2, 1) := dc_of (x := (56, .iload_n 2, 1)) t0_Tr_takeTime_ok (i := 32) rfl
theorem d_Tr_takeTime_57 : decode c_Tr_takeTime 57 = .ok (.iload_n 1, 1) := dc_of (x := (57, .iload_n 1, 1)) t0_Tr_takeTime_ok (i := 33) rfl
theorem d_Tr_takeTime_58 : decode c_Tr_takeTime 58 = .ok (.iconst 1, 1) := dc_of (x := (58, .iconst 1, 1)) t0_Tr_takeTime_ok (i := 34) rfl
theorem d_Tr_takeTime_59 : decode c_Tr_takeTime 59 = .ok (.iadd, 1) := dc_of (x := (59, .iadd, 1)) t0_Tr_takeTime_ok (i := 35) rfl
theorem d_Tr_takeTime_60 : decode c_Tr_takeTime 60 = .ok (.if_icmp .eq 14, 3) := dc_of (x := (60, .if_icmp .eq 14, 3)) t0_Tr_takeTime_ok (i := 36) rfl
theorem d_Tr_takeTime_63 : decode c_Tr_takeTime 63 = .ok (.aload_n 0, 1) := dc_of (x := (63, .aload_n 0, 1)) t0_Tr_takeTime_ok (i := 37) rfl
theorem d_Tr_takeTime_64 : decode c_Tr_takeTime 64 = .ok (.getfield 15, 3) := dc_of (x := (64, .getfield 15, 3)) t0_Tr_takeTime_ok (i := 38) rfl
theorem d_Tr_takeTime_67 : decode c_Tr_takeTime 67 = .ok (.lload_n 3, 1) := dc_of (x := (67, .lload_n 3, 1)) t0_Tr_takeTime_ok (i := 39) rfl
theorem d_Tr_takeTime_68 : decode c_Tr_takeTime 68 = .ok (.invokevirtual 61, 3) := dc_of (x := (68, .invokevirtual 61, 3)) t0_Tr_takeTime_ok (i := 40) rfl
theorem d_Tr_takeTime_71 : decode c_Tr_takeTime 71 = .ok (.ifCond .ne 5, 3) := dc_of (x := (71, .ifCond .ne 5, 3)) t0_Tr_takeTime_ok (i := 41) rfl
theorem d_Tr_takeTime_74 : decode c_Tr_takeTime 74 = .ok (.iconst (-1), 1) := dc_of (x := (74, .iconst (-1), 1)) t0_Tr_takeTime_ok (i := 42) rfl
theorem d_Tr_takeTime_75 : decode c_Tr_takeTime 75 = .ok (.ireturn, 1) := dc_of (x := (75, .ireturn, 1)) t0_Tr_takeTime_ok (i := 43) rfl
theorem d_Tr_takeTime_76 : decode c_Tr_takeTime 76 = .ok (.aload_n 0, 1) := dc_of (x := (76, .aload_n 0, 1)) t0_Tr_takeTime_ok (i := 44) rfl
theorem d_Tr_takeTime_77 : decode c_Tr_takeTime 77 = .ok (.lload_n 3, 1) := dc_of (x := (77, .lload_n 3, 1)) t0_Tr_takeTime_ok (i := 45) rfl
theorem d_Tr_takeTime_78 : decode c_Tr_takeTime 78 = .ok (.putfield 21, 3) := dc_of (x := (78, .putfield 21, 3)) t0_Tr_takeTime_ok (i := 46) rfl
theorem d_Tr_takeTime_81 : decode c_Tr_takeTime 81 = .ok (.iload_n 2, 1) := dc_of (x := (81, .iload_n 2, 1)) t0_Tr_takeTime_ok (i := 47) rfl
theorem d_Tr_takeTime_82 : decode c_Tr_takeTime 82 = .ok (.ireturn, 1) := dc_of (x := (82, .ireturn, 1)) t0_Tr_takeTime_ok (i := 48) rfl
def t0_Tr_takeLine : List (Nat × Instr × Nat) := [(0, .aload_n 0, 1), (1, .getfield 9, 3), (4, .iload_n 1, 1), (5, .invokevirtual 38, 3), (8, .invokestatic 67, 3), (11, .istore_n 3, 1), (12, .aload_n 0, 1), (13, .getfield 9, 3), (16, .iload_n 1, 1), (17, .iconst 1, 1), (18, .iadd, 1), (19, .invokevirtual 38, 3), (22, .bipush 33, 2), (24, .isub, 1), (25, .istore 4, 2), (27, .iload_n 3, 1), (28, .iconst (-1), 1), (29, .if_icmp .eq 26, 3), (32, .aload_n 0, 1), (33, .getfield 21, 3), (36, .ldc2_w 19, 3), (39, .lcmp, 1), (40, .ifCond .eq 15, 3), (43, .aload_n 0, 1), (44, .getfield 15, 3), (47, .iload 4, 2), (49, .invokevirtual 70, 3), (52, .ifCond .ne 5, 3), (55, .iconst (-1), 1), (56, .ireturn, 1), (57, .iload_n 2, 1), (58, .ifCond .eq 21, 3), (61, .aload_n 0, 1), (62, .getfield 15, 3), (65, .getfield 74, 3), (68, .iconst 0, 1), (69, .iload 4, 2), (71, .aload_n 0, 1), (72, .getfield 21, 3), (75, .iload_n 3, 1), (76, .invokevirtual 78, 3), (79, .aload_n 0, 1), (80, .dup, 1), (81, .getfield 25, 3), (84, .iconst 1, 1), (85, .iadd, 1), (86, .putfield 25, 3), (89, .iload_n 1, 1), (90, .iconst 2, 1), (91, .iadd, 1), (92, .ireturn, 1)]
theorem t0_Tr_takeLine_ok : t0_Tr_takeLine.all (fun x => decide (decode c_Tr_takeLine x.1 = .ok x.2)) = true := by decide +kernel
theorem d_Tr_takeLine_0 : decode c_Tr_takeLine 0 = .ok (.aload_n 0, 1) := dc_of (x := (0, .aload_n 0, 1)) t0_Tr_takeLine_ok (i := 0) rfl
theorem d_Tr_takeLine_1 : decode c_Tr_takeLine 1 = .ok (.getfield 9, 3) := dc_of (x := (1, .getfield 9, 3)) t0_Tr_takeLine_ok (i := 1) rfl
theorem d_Tr_takeLine_4 : decode c_Tr_takeLine 4 = .ok (.iload_n 1, 1) := dc_of (x := (4, .iload_n 1, 1)) t0_Tr_takeLine_ok (i := 2) rfl
theorem d_Tr_takeLine_5 : decode c_Tr_takeLine 5 = .ok (.invokevirtual 38, 3) := dc_of (x := (5, .invokevirtual 38, 3)) t0_Tr_takeLine_ok (i := 3) rfl
theorem d_Tr_takeLine_8 : decode c_Tr_takeLine 8 = .ok (.invokestatic 67, 3) := dc_of (x := (8, .invokestatic 67, 3)) t0_Tr_takeLine_ok (i := 4) rfl
theorem d_Tr_takeLine_11 : decode c_Tr_takeLine 11 = .ok (.istore_n 3, 1) := dc_of (x := (11, .istore_n 3, 1)) t0_Tr_takeLine_ok (i := 5) rfl
theorem d_Tr_takeLine_12 : decode c_Tr_takeLine 12 = .ok (.aload_n 0, 1) := dc_of (x := (12, .aload_n 0, 1)) t0_Tr_takeLine_ok (i := 6) rfl
theorem d_Tr_takeLine_13 : decode c_Tr_takeLine 13 = .ok (.getfield 9, 3) := dc_of (x := (13, .getfield 9, 3)) t0_Tr_takeLine_ok (i := 7) rfl
theorem d_Tr_takeLine_16 : decode c_Tr_takeLine 16 = .ok (.iload_n 1, 1) := dc_of (x := (16, .iload_n 1, 1)) t0_Tr_takeLine_ok (i := 8) rfl
theorem d_Tr_takeLine_17 : decode c_Tr_takeLine 17 = .ok (.iconst 1, 1) := dc_of (x := (17, .iconst 1, 1)) t0_Tr_takeLine_ok (i := 9) rfl
theorem d_Tr_takeLine_18 : decode c_Tr_takeLine 18 = .ok (.iadd, 1) := dc_of (x := (18, .iadd, 1)) t0_Tr_takeLine_ok (i := 10) rfl
theorem d_Tr_takeLine_19 : decode c_Tr_takeLine 19 = .ok (.invokevirtual 38, 3) := dc_of (x := (19, .invokevirtual 38, 3)) t0_Tr_takeLine_ok (i := 11) rfl
theorem d_Tr_takeLine_22 : decode c_Tr_takeLine 22 = .ok (.bipush 33, 2) := dc_of (x := (22, .bipush 33, 2)) t0_Tr_takeLine_ok (i := 12) rfl
theorem d_Tr_takeLine_24 : decode c_Tr_takeLine 24 = .ok (.isub, 1) := dc_of (x := (24, .isub, 1)) t0_Tr_takeLine_ok (i := 13) rfl
theorem d_Tr_takeLine_25 : decode c_Tr_takeLine 25 = .ok (.istore 4, 2) := dc_of (x := (25, .istore 4, 2)) t0_Tr_takeLine_ok (i := 14) rfl
theorem d_Tr_takeLine_27 : decode c_Tr_takeLine 27 = .ok (.iload_n 3, 1) := dc_of (x := (27, .iload_n 3, 1)) t0_Tr_takeLine_ok (i := 15) rfl
theorem d_Tr_takeLine_28 : decode c_Tr_takeLine 28 = .ok (.iconst (-1), 1) := dc_of (x := (28, .iconst (-1), 1)) t0_Tr_takeLine_ok (i := 16) rfl
theorem d_Tr_takeLine_29 : decode c_Tr_takeLine 29 = .ok (.if_icmp .eq 26, 3) := dc_of (x := (29, .if_icmp .eq 26, 3)) t0_Tr_takeLine_ok (i := 17) rfl
theorem d_Tr_takeLine_32 : decode c_Tr_takeLine 32 = .ok (.aload_n 0, 1) := dc_of (x := (32, .aload_n 0, 1)) t0_Tr_takeLine_ok (i := 18) rfl
theorem d_Tr_takeLine_33 : decode c_Tr_takeLine 33 = .ok (.getfield 21, 3) := dc_of (x := (33, .getfield 21, 3)) t0_Tr_takeLine_ok (i := 19) rfl
theorem d_Tr_takeLine_36 : decode c_Tr_takeLine 36 = .ok (.ldc2_w 19, 3) := dc_of (x := (36, .ldc2_w 19, 3)) t0_Tr_takeLine_ok (i := 20) rfl
theorem d_Tr_takeLine_39 : decode c_Tr_takeLine 39 = .ok (.lcmp, 1) := dc_of (x := (39, .lcmp, 1)) t0_Tr_takeLine_ok (i := 21) rfl
theorem d_Tr_takeLine_40 : decode c_Tr_takeLine 40 = .ok (.ifCond .eq 15, 3) := dc_of (x := (40, .ifCond .eq 15, 3)) t0_Tr_takeLine_ok (i := 22) rfl
theorem d_Tr_takeLine_43 : decode c_Tr_takeLine 43 = .ok (.aload_n 0, 1) := dc_of (x := (43, .aload_n 0, 1)) t0_Tr_takeLine_ok (i := 23) rfl
theorem d_Tr_takeLine_44 : decode c_Tr_takeLine 44 = .ok (.getfield 15, 3) := dc_of (x := (44, .getfield 15, 3)) t0_Tr_takeLine_ok (i := 24) rfl
theorem d_Tr_takeLine_47 : decode c_Tr_takeLine 47 = .ok (.iload 4, 2) := dc_of (x := (47, .iload 4, 2)) t0_Tr_takeLine_ok (i := 25) rfl
theorem d_Tr_takeLine_49 : decode c_Tr_takeLine 49 = .ok (.invokevirtual 70, 3) := dc_of (x := (49, .invokevirtual 70, 3)) t0_Tr_takeLine_ok (i := 26) rfl
theorem d_Tr_takeLine_52 : decode c_Tr_takeLine 52 = .ok (.ifCond .ne 5, 3) := dc_of (x := (52, .ifCond .ne 5, 3)) t0_Tr_takeLine_ok (i := 27) rfl
theorem d_Tr_takeLine_55 : decode c_Tr_takeLine 55 = .ok (.iconst (-1), 1) := dc_of (x := (55, .iconst (-1), 1)) t0_Tr_takeLine_ok (i := 28) rfl
theorem d_Tr_takeLine_56 : decode c_Tr_takeLine 56 = .ok (.ireturn, 1) := dc_of (x := (56, .ireturn, 1)) t0_Tr_takeLine_ok (i := 29) rfl
theorem d_Tr_takeLine_57 : decode c_Tr_takeLine 57 = .ok (.iload_n 2, 1) := dc_of (x := (57, .iload_n 2, 1)) t0_Tr_takeLine_ok (i := 30) rfl
theorem d_Tr_takeLine_58 : decode c_Tr_takeLine 58 = .ok (.ifCond .eq 21, 3) := dc_of (x := (58, .ifCond .eq 21, 3)) t0_Tr_takeLine_ok (i := 31) rfl
theorem d_Tr_takeLine_61 : decode c_Tr_takeLine 61 = .ok (.aload_n 0, 1) := dc_of (x := (61, .aload_n 0, 1)) t0_Tr_takeLine_ok (i := 32) rfl
theorem d_Tr_takeLine_62 : decode c_Tr_takeLine 62 = .ok (.getfield 15, 3) := dc_of (x := (62, .getfield 15, 3)) t0_Tr_takeLine_ok (i := 33) rfl
theorem d_Tr_takeLine_65 : decode c_Tr_takeLine 65 = .ok (.getfield 74, 3) := dc_of (x := (65, .getfield 74, 3)) t0_Tr_takeLine_ok (i := 34) rfl
theorem d_Tr_takeLine_68 : decode c_Tr_takeLine 68 = .ok (.iconst 0, 1) := dc_of (x := (68, .iconst 0, 1)) t0_Tr_takeLine_ok (i := 35) rfl
theorem d_Tr_takeLine_69 : decode c_Tr_takeLine 69 = .ok (.iload 4, 2) := dc_of (x := (69, .iload 4, 2)) t0_Tr_takeLine_ok (i := 36) rfl
theorem d_Tr_takeLine_71 : decode c_Tr_takeLine 71 = .ok (.aload_n 0, 1) := dc_of (x := (71, .aload_n 0, 1)) t0_Tr_takeLine_ok (i := 37) rfl
theorem d_Tr_takeLine_72 : decode c_Tr_takeLine 72 = .ok (.getfield 21, 3) := dc_of (x := (72, .getfield 21, 3)) t0_Tr_takeLine_ok (i := 38) rfl
theorem d_Tr_takeLine_75 : decode c_Tr_takeLine 75 = .ok (.iload_n 3, 1) := dc_of (x := (75, .iload_n 3, 1)) t0_Tr_takeLine_ok (i := 39) rfl
theorem d_Tr_takeLine_76 : decode c_Tr_takeLine 76 = .ok (.invokevirtual 78, 3) := dc_of (x := (76, .invokevirtual 78, 3)) t0_Tr_takeLine_ok (i := 40) rfl
theorem d_Tr_takeLine_79 : decode c_Tr_takeLine 79 = .ok (.aload_n 0, 1) := dc_of (x := (79, .aload_n 0, 1)) t0_Tr_takeLine_ok (i := 41) rfl
theorem d_Tr_takeLine_80 : decode c_Tr_takeLine 80 = .ok (.dup, 1) := dc_of (x := (80, .dup, 1)) t0_Tr_takeLine_ok (i := 42) rfl
theorem d_Tr_takeLine_81 : decode c_Tr_takeLine 81 = .ok (.getfield 25, 3) := dc_of (x := (81, .getfield 25, 3)) t0_Tr_takeLine_ok (i := 43) rfl
theorem d_Tr_takeLine_84 : decode c_Tr_takeLine 84 = .ok (.iconst 1, 1) := dc_of (x := (84, .iconst 1, 1)) t0_Tr_takeLine_ok (i := 44) rfl
theorem d_Tr_takeLine_85 : decode c_Tr_takeLine 85 = .ok (.iadd, 1) := dc_of (x := (85, .iadd, 1)) t0_Tr_takeLine_ok (i := 45) rfl
theorem d_Tr_takeLine_86 : decode c_Tr_takeLine 86 = .ok (.putfield 25, 3) := dc_of (x := (86, .putfield 25, 3)) t0_Tr_takeLine_ok (i := 46) rfl
theorem d_Tr_takeLine_89 : decode c_Tr_takeLine 89 = .ok (.iload_n 1, 1) := dc_of (x := (89, .iload_n 1, 1)) t0_Tr_takeLine_ok (i := 47) rfl
theorem d_Tr_takeLine_90 : decode c_Tr_takeLine 90 = .ok (.iconst 2, 1) := dc_of (x := (90, .iconst 2, 1)) t0_Tr_takeLine_ok (i := 48) rfl
theorem d_Tr_takeLine_91 : decode c_Tr_takeLine 91 = .ok (.iadd, 1) := dc_of (x := (91, .iadd, 1)) t0_Tr_takeLine_ok (i := 49) rfl
theorem d_Tr_takeLine_92 : decode c_Tr_takeLine 92 = .ok (.ireturn, 1) := dc_of (x := (92, .ireturn, 1)) t0_Tr_takeLine_ok (i := 50) rfl
def t0_Tr_valueOf : List (Nat × Instr × Nat) := [(0, .iconst 0, 1), (1, .istore_n 1, 1), (2, .iload_n 1, 1), (3, .getstatic 84, 3), (6, .arraylength, 1), (7, .if_icmp .ge 20, 3), (10, .getstatic 84, 3), (13, .iload_n 1, 1), (14, .iaload, 1), (15, .iload_n 0, 1), (16, .if_icmp .ne 5, 3), (19, .iload_n 1, 1), (20, .ireturn, 1), (21, .iinc 1 1, 3), (24, .goto (-22), 3), (27, .iconst (-1), 1), (28, .ireturn, 1)]
theorem t0_Tr_valueOf_ok : t0_Tr_valueOf.all (fun x => decide (decode c_Tr_valueOf x.1 = .ok x.2)) = true := by decide +kernel
theorem d_Tr_valueOf_0 : decode c_Tr_valueOf 0 = .ok (.iconst 0, 1) := dc_of (x := (0, .iconst 0, 1)) t0_Tr_valueOf_ok (i := 0) rfl
theorem d_Tr_valueOf_1 : decode c_Tr_valueOf 1 = .ok (.istore_n 1, 1) := dc_of (x := (1, .istore_n 1, 1)) t0_Tr_valueOf_ok (i := 1) rfl
theorem d_Tr_valueOf_2 : decode c_Tr_valueOf 2 = .ok (.iload_n 1, 1) := dc_of (x := (2, .iload_n 1, 1)) t0_Tr_valueOf_ok (i := 2) rfl
theorem d_Tr_valueOf_3 : decode c_Tr_valueOf 3 = .ok (.getstatic 84, 3) := dc_of (x := (3, .getstatic 84, 3)) t0_Tr_valueOf_ok (i := 3) rfl
theorem d_Tr_valueOf_6 : decode c_Tr_valueOf 6 = .ok (.arraylength, 1) := dc_of (x := (6, .arraylength, 1)) t0_Tr_valueOf_ok (i := 4) rfl
theorem d_Tr_valueOf_7 : decode c_Tr_valueOf 7 = .ok (.if_icmp .ge 20, 3) := dc_of (x := (7, .if_icmp .ge 20, 3)) t0_Tr_valueOf_ok (i := 5) rfl
theorem d_Tr_valueOf_10 : decode c_Tr_valueOf 10 = .ok (.getstatic 84, 3) := dc_of (x := (10, .getstatic 84, 3)) t0_Tr_valueOf_ok (i := 6) rfl
theorem d_Tr_valueOf_13 : decode c_Tr_valueOf 13 = .ok (.iload_n 1, 1) := dc_of (x := (13, .iload_n 1, 1)) t0_Tr_valueOf_ok (i := 7) rfl
theorem d_Tr_valueOf_14 : decode c_Tr_valueOf 14 = .ok (.iaload, 1) := dc_of (x := (14, .iaload, 1)) t0_Tr_valueOf_ok (i := 8) rfl
theorem d_Tr_valueOf_15 : decode c_Tr_valueOf 15 = .ok (.iload_n 0, 1) := dc_of (x := (15, .iload_n 0, 1)) t0_Tr_valueOf_ok (i := 9) rfl
theorem d_Tr_valueOf_16 : decode c_Tr_valueOf 16 = .ok (.if_icmp .ne 5, 3) := dc_of (x := (16, .if_icmp .ne 5, 3)) t0_Tr_valueOf_ok (i := 10) rfl
theorem d_Tr_valueOf_19 : decode c_Tr_valueOf 19 = .ok (.iload_n 1, 1) := dc_of (x := (19, .iload_n 1, 1)) t0_Tr_valueOf_ok (i := 11) rfl
theorem d_Tr_valueOf_20 : decode c_Tr_valueOf 20 = .ok (.ireturn, 1) := dc_of (x := (20, .ireturn, 1)) t0_Tr_valueOf_ok (i := 12) rfl
theorem d_Tr_valueOf_21 : decode c_Tr_valueOf 21 = .ok (.iinc 1 1, 3) := dc_of (x := (21, .iinc 1 1, 3)) t0_Tr_valueOf_ok (i := 13) rfl
theorem d_Tr_valueOf_24 : decode c_Tr_valueOf 24 = .ok (.goto (-22), 3) := dc_of (x := (24, .goto (-22), 3)) t0_Tr_valueOf_ok (i := 14) rfl
theorem d_Tr_valueOf_27 : decode c_Tr_valueOf 27 = .ok (.iconst (-1), 1) := dc_of (x := (27, .iconst (-1), 1)) t0_Tr_valueOf_ok (i := 15) rfl
theorem d_Tr_valueOf_28 : decode c_Tr_valueOf 28 = .ok (.ireturn, 1) := dc_of (x := (28, .ireturn, 1)) t0_Tr_valueOf_ok (i := 16) rfl
def t0_Wa_init : List (Nat × Instr × Nat) := [(0, .aload_n 0, 1), (1, .invokespecial 3, 3), (4, .aload_n 0, 1), (5, .sipush 600, 3), (8, .newarray .int, 2), (10, .putfield 9, 3), (13, .aload_n 0, 1), (14, .sipush 600, 3), (17, .newarray .int, 2), (19, .putfield 15, 3), (22, .aload_n 0, 1), (23, .sipush 600, 3), (26, .newarray .int, 2), (28, .putfield 18, 3), (31, .return_, 1)]
theorem t0_Wa_init_ok : t0_Wa_init.all (fun x => decide (decode c_Wa_init x.1 = .ok x.2)) = true := by decide +kernel
theorem d_Wa_init_0 : decode c_Wa_init 0 = .ok (.aload_n 0, 1) := dc_of (x := (0, .aload_n 0, 1)) t0_Wa_init_ok (i := 0) rfl
theorem d_Wa_init_1 : decode c_Wa_init 1 = .ok (.invokespecial 3, 3) := dc_of (x := (1, .invokespecial 3, 3)) t0_Wa_init_ok (i := 1) rfl
theorem d_Wa_init_4 : decode c_Wa_init 4 = .ok (.aload_n 0, 1) := dc_of (x := (4, .aload_n 0, 1)) t0_Wa_init_ok (i := 2) rfl
theorem d_Wa_init_5 : decode c_Wa_init 5 = .ok (.sipush 600, 3) := dc_of (x := (5, .sipush 600, 3)) t0_Wa_init_ok (i := 3) rfl
theorem d_Wa_init_8 : decode c_Wa_init 8 = .ok (.newarray .int, 2) := dc_of (x := (8, .newarray .int, 2)) t0_Wa_init_ok (i := 4) rfl
theorem d_Wa_init_10 : decode c_Wa_init 10 = .ok (.putfield 9, 3) := dc_of (x := (10, .putfield 9, 3)) t0_Wa_init_ok (i := 5) rfl
theorem d_Wa_init_13 : decode c_Wa_init 13 = .ok (.aload_n 0, 1) := dc_of (x := (13, .aload_n 0, 1)) t0_Wa_init_ok (i := 6) rfl
theorem d_Wa_init_14 : decode c_Wa_init 14 = .ok (.sipush 600, 3) := dc_of (x := (14, .sipush 600, 3)) t0_Wa_init_ok (i := 7) rfl
theorem d_Wa_init_17 : decode c_Wa_init 17 = .ok (.newarray .int, 2) := dc_of (x := (17, .newarray .int, 2)) t0_Wa_init_ok (i := 8) rfl
theorem d_Wa_init_19 : decode c_Wa_init 19 = .ok (.putfield 15, 3) := dc_of (x := (19, .putfield 15, 3)) t0_Wa_init_ok (i := 9) rfl
theorem d_Wa_init_22 : decode c_Wa_init 22 = .ok (.aload_n 0, 1) := dc_of (x := (22, .aload_n 0, 1)) t0_Wa_init_ok (i := 10) rfl
theorem d_Wa_init_23 : decode c_Wa_init 23 = .ok (.sipush 600, 3) := dc_of (x := (23, .sipush 600, 3)) t0_Wa_init_ok (i := 11) rfl
theorem d_Wa_init_26 : decode c_Wa_init 26 = .ok (.newarray .int, 2) := dc_of (x := (26, .newarray .int, 2)) t0_Wa_init_ok (i := 12) rfl
theorem d_Wa_init_28 : decode c_Wa_init 28 = .ok (.putfield 18, 3) := dc_of (x := (28, .putfield 18, 3)) t0_Wa_init_ok (i := 13) rfl
theorem d_Wa_init_31 : decode c_Wa_init 31 = .ok (.return_, 1) := dc_of (x := (31, .return_, 1)) t0_Wa_init_ok (i := 14) rfl
def t0_Wa_copyFrom : List (Nat × Instr × Nat) := [(0, .aload_n 0, 1), (1, .aload_n 1, 1), (2, .getfield 21, 3), (5, .putfield 21, 3), (8, .aload_n 1, 1), (9, .getfield 9, 3), (12, .iconst 0, 1), (13, .aload_n 0, 1), (14, .getfield 9, 3), (17, .iconst 0, 1), (18, .sipush 600, 3), (21, .invokestatic 25, 3), (24, .aload_n 1, 1), (25, .getfield 15, 3), (28, .iconst 0, 1), (29, .aload_n 0, 1), (30, .getfield 15, 3), (33, .iconst 0, 1), (34, .sipush 600, 3), (37, .invokestatic 25, 3), (40, .aload_n 1, 1), (41, .getfield 18, 3), (44, .iconst 0, 1), (45, .aload_n 0, 1), (46, .getfield 18, 3), (49, .iconst 0, 1), (50, .sipush 600, 3), (53, .invokestatic 25, 3), (56, .return_, 1)]
theorem t0_Wa_copyFrom_ok : t0_Wa_copyFrom.all (fun x => decide (decode c_Wa_copyFrom x.1 = .ok x.2)) = true := by decide +kernel
theorem d_Wa_copyFrom_0 : decode c_Wa_copyFrom 0 = .ok (.aload_n 0, 1) := dc_of (x := (0, .aload_n 0, 1)) t0_Wa_copyFrom_ok (i := 0) rfl
theorem d_Wa_copyFrom_1 : decode c_Wa_copyFrom 1 = .ok (.aload_n 1, 1) := dc_of (x := (1, .aload_n 1, 1)) t0_Wa_copyFrom_ok (i := 1) rfl
theorem d_Wa_copyFrom_2 : decode c_Wa_copyFrom 2 = .ok (.getfield 21, 3) := dc_of (x := (2, .getfield 21, 3)) t0_Wa_copyFrom_ok (i := 2) rfl
theorem d_Wa_copyFrom_5 : decode c_Wa_copyFrom 5 = .ok (.putfield 21, 3) := dc_of (x := (5, .putfield 21, 3)) t0_Wa_copyFrom_ok (i := 3) rfl
theorem d_Wa_copyFrom_8 : decode c_Wa_copyFrom 8 = .ok (.aload_n 1, 1) := dc_of (x := (8, .aload_n 1, 1)) t0_Wa_copyFrom_ok (i := 4) rfl
theorem d_Wa_copyFrom_9 : decode c_Wa_copyFrom 9 = .ok (.getfield 9, 3) := dc_of (x := (9, .getfield 9, 3)) t0_Wa_copyFrom_ok (i := 5) rfl
theorem d_Wa_copyFrom_12 : decode c_Wa_copyFrom 12 = .ok (.iconst 0, 1) := dc_of (x := (12, .iconst 0, 1)) t0_Wa_copyFrom_ok (i := 6) rfl
theorem d_Wa_copyFrom_13 : decode c_Wa_copyFrom 13 = .ok (.aload_n 0, 1) := dc_of (x := (13, .aload_n 0, 1)) t0_Wa_copyFrom_ok (i := 7) rfl
theorem d_Wa_copyFrom_14 : decode c_Wa_copyFrom 14 = .ok (.getfield 9, 3) := dc_of (x := (14, .getfield 9, 3)) t0_Wa_copyFrom_ok (i := 8) rfl
theorem d_Wa_copyFrom_17 : decode c_Wa_copyFrom 17 = .ok (.iconst 0, 1) := dc_of (x := (17, .iconst 0, 1)) t0_Wa_copyFrom_ok (i := 9) rfl
theorem d_Wa_copyFrom_18 : decode c_Wa_copyFrom 18 = .ok (.sipush 600, 3) := dc_of (x := (18, .sipush 600, 3)) t0_Wa_copyFrom_ok (i := 10) rfl
theorem d_Wa_copyFrom_21 : decode c_Wa_copyFrom 21 = .ok (.invokestatic 25, 3) := dc_of (x := (21, .invokestatic 25, 3)) t0_Wa_copyFrom_ok (i := 11) rfl
theorem d_Wa_copyFrom_24 : decode c_Wa_copyFrom 24 = .ok (.aload_n 1, 1) := dc_of (x := (24, .aload_n 1, 1)) t0_Wa_copyFrom_ok (i := 12) rfl
theorem d_Wa_copyFrom_25 : decode c_Wa_copyFrom 25 = .ok (.getfield 15, 3) := dc_of (x := (25, .getfield 15, 3)) t0_Wa_copyFrom_ok (i := 13) rfl
theorem d_Wa_copyFrom_28 : decode c_Wa_copyFrom 28 = .ok (.iconst 0, 1) := dc_of (x := (28, .iconst 0, 1)) t0_Wa_copyFrom_ok (i := 14) rfl
theorem d_Wa_copyFrom_29 : decode c_Wa_copyFrom 29 = .ok (.aload_n 0, 1) := dc_of (x := (29, .aload_n 0, 1)) t0_Wa_copyFrom_ok (i := 15) rfl
theorem d_Wa_copyFrom_30 : decode c_Wa_copyFrom 30 = .ok (.getfield 15, 3) := dc_of (x := (30, .getfield 15, 3)) t0_Wa_copyFrom_ok (i := 16) rfl
theorem d_Wa_copyFrom_33 : decode c_Wa_copyFrom 33 = .ok (.iconst 0, 1) := dc_of (x := (33, .iconst 0, 1)) t0_Wa_copyFrom_ok (i := 17) rfl
theorem d_Wa_copyFrom_34 : decode c_Wa_copyFrom 34 = .ok (.sipush 600, 3) := dc_of (x := (34, .sipush 600, 3)) t0_Wa_copyFrom_ok (i := 18) rfl
theorem d_Wa_copyFrom_37 : decode c_Wa_copyFrom 37 = .ok (.invokestatic 25, 3) := dc_of (x := (37, .invokestatic 25, 3)) t0_Wa_copyFrom_ok (i := 19) rfl
theorem d_Wa_copyFrom_40 : decode c_Wa_copyFrom 40 = .ok (.aload_n 1, 1) := dc_of (x := (40, .aload_n 1, 1)) t0_Wa_copyFrom_ok (i := 20) rfl
theorem d_Wa_copyFrom_41 : decode c_Wa_copyFrom 41 = .ok (.getfield 18, 3) := dc_of (x := (41, .getfield 18, 3)) t0_Wa_copyFrom_ok (i := 21) rfl
theorem d_Wa_copyFrom_44 : decode c_Wa_copyFrom 44 = .ok (.iconst 0, 1) := dc_of (x := (44, .iconst 0, 1)) t0_Wa_copyFrom_ok (i := 22) rfl
theorem d_Wa_copyFrom_45 : decode c_Wa_copyFrom 45 = .ok (.aload_n 0, 1) := dc_of (x := (45, .aload_n 0, 1)) t0_Wa_copyFrom_ok (i := 23) rfl
theorem d_Wa_copyFrom_46 : decode c_Wa_copyFrom 46 = .ok (.getfield 18, 3) := dc_of (x := (46, .getfield 18, 3)) t0_Wa_copyFrom_ok (i := 24) rfl
theorem d_Wa_copyFrom_49 : decode c_Wa_copyFrom 49 = .ok (.iconst 0, 1) := dc_of (x := (49, .iconst 0, 1)) t0_Wa_copyFrom_ok (i := 25) rfl
theorem d_Wa_copyFrom_50 : decode c_Wa_copyFrom 50 = .ok (.sipush 600, 3) := dc_of (x := (50, .sipush 600, 3)) t0_Wa_copyFrom_ok (i := 26) rfl
theorem d_Wa_copyFrom_53 : decode c_Wa_copyFrom 53 = .ok (.invokestatic 25, 3) := dc_of (x := (53, .invokestatic 25, 3)) t0_Wa_copyFrom_ok (i := 27) rfl
theorem d_Wa_copyFrom_56 : decode c_Wa_copyFrom 56 = .ok (.return_, 1) := dc_of (x := (56, .return_, 1)) t0_Wa_copyFrom_ok (i := 28) rfl
def t0_Wa_keep : List (Nat × Instr × Nat) := [(0, .aload_n 0, 1), (1, .getfield 21, 3), (4, .sipush 600, 3), (7, .if_icmp .lt 4, 3), (10, .return_, 1), (11, .aload_n 0, 1), (12, .getfield 9, 3), (15, .aload_n 0, 1), (16, .getfield 21, 3), (19, .lload_n 1, 1), (20, .l2i, 1), (21, .iastore, 1), (22, .aload_n 0, 1), (23, .getfield 15, 3), (26, .aload_n 0, 1), (27, .getfield 21, 3), (30, .iload_n 3, 1), (31, .iastore, 1), (32, .aload_n 0, 1), (33, .getfield 18, 3), (36, .aload_n 0, 1), (37, .getfield 21, 3), (40, .iload 4, 2), (42, .iastore, 1), (43, .aload_n 0, 1), (44, .dup, 1), (45, .getfield 21, 3), (48, .iconst 1, 1), (49, .iadd, 1), (50, .putfield 21, 3), (53, .return_, 1)]
theorem t0_Wa_keep_ok : t0_Wa_keep.all (fun x => decide (decode c_Wa_keep x.1 = .ok x.2)) = true := by decide +kernel
theorem d_Wa_keep_0 : decode c_Wa_keep 0 = .ok (.aload_n 0, 1) := dc_of (x := (0, .aload_n 0, 1)) t0_Wa_keep_ok (i := 0) rfl
theorem d_Wa_keep_1 : decode c_Wa_keep 1 = .ok (.getfield 21, 3) := dc_of (x := (1, .getfield 21, 3)) t0_Wa_keep_ok (i := 1) rfl
theorem d_Wa_keep_4 : decode c_Wa_keep 4 = .ok (.sipush 600, 3) := dc_of (x := (4, .sipush 600, 3)) t0_Wa_keep_ok (i := 2) rfl
theorem d_Wa_keep_7 : decode c_Wa_keep 7 = .ok (.if_icmp .lt 4, 3) := dc_of (x := (7, .if_icmp .lt 4, 3)) t0_Wa_keep_ok (i := 3) rfl
theorem d_Wa_keep_10 : decode c_Wa_keep 10 = .ok (.return_, 1) := dc_of (x := (10, .return_, 1)) t0_Wa_keep_ok (i := 4) rfl
theorem d_Wa_keep_11 : decode c_Wa_keep 11 = .ok (.aload_n 0, 1) := dc_of (x := (11, .aload_n 0, 1)) t0_Wa_keep_ok (i := 5) rfl
theorem d_Wa_keep_12 : decode c_Wa_keep 12 = .ok (.getfield 9, 3) := dc_of (x := (12, .getfield 9, 3)) t0_Wa_keep_ok (i := 6) rfl
theorem d_Wa_keep_15 : decode c_Wa_keep 15 = .ok (.aload_n 0, 1) := dc_of (x := (15, .aload_n 0, 1)) t0_Wa_keep_ok (i := 7) rfl
theorem d_Wa_keep_16 : decode c_Wa_keep 16 = .ok (.getfield 21, 3) := dc_of (x := (16, .getfield 21, 3)) t0_Wa_keep_ok (i := 8) rfl
theorem d_Wa_keep_19 : decode c_Wa_keep 19 = .ok (.lload_n 1, 1) := dc_of (x := (19, .lload_n 1, 1)) t0_Wa_keep_ok (i := 9) rfl
theorem d_Wa_keep_20 : decode c_Wa_keep 20 = .ok (.l2i, 1) := dc_of (x := (20, .l2i, 1)) t0_Wa_keep_ok (i := 10) rfl
theorem d_Wa_keep_21 : decode c_Wa_keep 21 = .ok (.iastore, 1) := dc_of (x := (21, .iastore, 1)) t0_Wa_keep_ok (i := 11) rfl
theorem d_Wa_keep_22 : decode c_Wa_keep 22 = .ok (.aload_n 0, 1) := dc_of (x := (22, .aload_n 0, 1)) t0_Wa_keep_ok (i := 12) rfl
theorem d_Wa_keep_23 : decode c_Wa_keep 23 = .ok (.getfield 15, 3) := dc_of (x := (23, .getfield 15, 3)) t0_Wa_keep_ok (i := 13) rfl
theorem d_Wa_keep_26 : decode c_Wa_keep 26 = .ok (.aload_n 0, 1) := dc_of (x := (26, .aload_n 0, 1)) t0_Wa_keep_ok (i := 14) rfl
theorem d_Wa_keep_27 : decode c_Wa_keep 27 = .ok (.getfield 21, 3) := dc_of (x := (27, .getfield 21, 3)) t0_Wa_keep_ok (i := 15) rfl
theorem d_Wa_keep_30 : decode c_Wa_keep 30 = .ok (.iload_n 3, 1) := dc_of (x := (30, .iload_n 3, 1)) t0_Wa_keep_ok (i := 16) rfl
theorem d_Wa_keep_31 : decode c_Wa_keep 31 = .ok (.iastore, 1) := dc_of (x := (31, .iastore, 1)) t0_Wa_keep_ok (i := 17) rfl
theorem d_Wa_keep_32 : decode c_Wa_keep 32 = .ok (.aload_n 0, 1) := dc_of (x := (32, .aload_n 0, 1)) t0_Wa_keep_ok (i := 18) rfl
theorem d_Wa_keep_33 : decode c_Wa_keep 33 = .ok (.getfield 18, 3) := dc_of (x := (33, .getfield 18, 3)) t0_Wa_keep_ok (i := 19) rfl
theorem d_Wa_keep_36 : decode c_Wa_keep 36 = .ok (.aload_n 0, 1) := dc_of (x := (36, .aload_n 0, 1)) t0_Wa_keep_ok (i := 20) rfl
theorem d_Wa_keep_37 : decode c_Wa_keep 37 = .ok (.getfield 21, 3) := dc_of (x := (37, .getfield 21, 3)) t0_Wa_keep_ok (i := 21) rfl
theorem d_Wa_keep_40 : decode c_Wa_keep 40 = .ok (.iload 4, 2) := dc_of (x := (40, .iload 4, 2)) t0_Wa_keep_ok (i := 22) rfl
theorem d_Wa_keep_42 : decode c_Wa_keep 42 = .ok (.iastore, 1) := dc_of (x := (42, .iastore, 1)) t0_Wa_keep_ok (i := 23) rfl
theorem d_Wa_keep_43 : decode c_Wa_keep 43 = .ok (.aload_n 0, 1) := dc_of (x := (43, .aload_n 0, 1)) t0_Wa_keep_ok (i := 24) rfl
theorem d_Wa_keep_44 : decode c_Wa_keep 44 = .ok (.dup, 1) := dc_of (x := (44, .dup, 1)) t0_Wa_keep_ok (i := 25) rfl
theorem d_Wa_keep_45 : decode c_Wa_keep 45 = .ok (.getfield 21, 3) := dc_of (x := (45, .getfield 21, 3)) t0_Wa_keep_ok (i := 26) rfl
theorem d_Wa_keep_48 : decode c_Wa_keep 48 = .ok (.iconst 1, 1) := dc_of (x := (48, .iconst 1, 1)) t0_Wa_keep_ok (i := 27) rfl
theorem d_Wa_keep_49 : decode c_Wa_keep 49 = .ok (.iadd, 1) := dc_of (x := (49, .iadd, 1)) t0_Wa_keep_ok (i := 28) rfl
theorem d_Wa_keep_50 : decode c_Wa_keep 50 = .ok (.putfield 21, 3) := dc_of (x := (50, .putfield 21, 3)) t0_Wa_keep_ok (i := 29) rfl
theorem d_Wa_keep_53 : decode c_Wa_keep 53 = .ok (.return_, 1) := dc_of (x := (53, .return_, 1)) t0_Wa_keep_ok (i := 30) rfl
def t0_Wa_latest : List (Nat × Instr × Nat) := [(0, .aload_n 0, 1), (1, .getfield 21, 3), (4, .iconst 1, 1), (5, .isub, 1), (6, .istore 4, 2), (8, .iload 4, 2), (10, .ifCond .lt 41, 3), (13, .aload_n 0, 1), (14, .getfield 15, 3), (17, .iload 4, 2), (19, .iaload, 1), (20, .iload_n 1, 1), (21, .if_icmp .ne 24, 3), (24, .aload_n 0, 1), (25, .getfield 9, 3), (28, .iload 4, 2), (30, .iaload, 1), (31, .i2l, 1), (32, .lload_n 2, 1), (33, .lcmp, 1), (34, .ifCond .gt 11, 3), (37, .aload_n 0, 1), (38, .getfield 18, 3), (41, .iload 4, 2), (43, .iaload, 1), (44, .ireturn, 1), (45, .iinc 4 (-1), 3), (48, .goto (-40), 3), (51, .iconst 2, 1), (52, .ireturn, 1)]
theorem t0_Wa_latest_ok : t0_Wa_latest.all (fun x => decide (decode c_Wa_latest x.1 = .ok x.2)) = true := by decide +kernel
theorem d_Wa_latest_0 : decode c_Wa_latest 0 = .ok (.aload_n 0, 1) := dc_of (x := (0, .aload_n 0, 1)) t0_Wa_latest_ok (i := 0) rfl
theorem d_Wa_latest_1 : decode c_Wa_latest 1 = .ok (.getfield 21, 3) := dc_of (x := (1, .getfield 21, 3)) t0_Wa_latest_ok (i := 1) rfl
theorem d_Wa_latest_4 : decode c_Wa_latest 4 = .ok (.iconst 1, 1) := dc_of (x := (4, .iconst 1, 1)) t0_Wa_latest_ok (i := 2) rfl
theorem d_Wa_latest_5 : decode c_Wa_latest 5 = .ok (.isub, 1) := dc_of (x := (5, .isub, 1)) t0_Wa_latest_ok (i := 3) rfl
theorem d_Wa_latest_6 : decode c_Wa_latest 6 = .ok (.istore 4, 2) := dc_of (x := (6, .istore 4, 2)) t0_Wa_latest_ok (i := 4) rfl
theorem d_Wa_latest_8 : decode c_Wa_latest 8 = .ok (.iload 4, 2) := dc_of (x := (8, .iload 4, 2)) t0_Wa_latest_ok (i := 5) rfl
theorem d_Wa_latest_10 : decode c_Wa_latest 10 = .ok (.ifCond .lt 41, 3) := dc_of (x := (10, .ifCond .lt 41, 3)) t0_Wa_latest_ok (i := 6) rfl
theorem d_Wa_latest_13 : decode c_Wa_latest 13 = .ok (.aload_n 0, 1) := dc_of (x := (13, .aload_n 0, 1)) t0_Wa_latest_ok (i := 7) rfl
theorem d_Wa_latest_14 : decode c_Wa_latest 14 = .ok (.getfield 15, 3) := dc_of (x := (14, .getfield 15, 3)) t0_Wa_latest_ok (i := 8) rfl
theorem d_Wa_latest_17 : decode c_Wa_latest 17 = .ok (.iload 4, 2) := dc_of (x := (17, .iload 4, 2)) t0_Wa_latest_ok (i := 9) rfl
theorem d_Wa_latest_19 : decode c_Wa_latest 19 = .ok (.iaload, 1) := dc_of (x := (19, .iaload, 1)) t0_Wa_latest_ok (i := 10) rfl
theorem d_Wa_latest_20 : decode c_Wa_latest 20 = .ok (.iload_n 1, 1) := dc_of (x := (20, .iload_n 1, 1)) t0_Wa_latest_ok (i := 11) rfl
theorem d_Wa_latest_21 : decode c_Wa_latest 21 = .ok (.if_icmp .ne 24, 3) := dc_of (x := (21, .if_icmp .ne 24, 3)) t0_Wa_latest_ok (i := 12) rfl
theorem d_Wa_latest_24 : decode c_Wa_latest 24 = .ok (.aload_n 0, 1) := dc_of (x := (24, .aload_n 0, 1)) t0_Wa_latest_ok (i := 13) rfl
theorem d_Wa_latest_25 : decode c_Wa_latest 25 = .ok (.getfield 9, 3) := dc_of (x := (25, .getfield 9, 3)) t0_Wa_latest_ok (i := 14) rfl
theorem d_Wa_latest_28 : decode c_Wa_latest 28 = .ok (.iload 4, 2) := dc_of (x := (28, .iload 4, 2)) t0_Wa_latest_ok (i := 15) rfl
theorem d_Wa_latest_30 : decode c_Wa_latest 30 = .ok (.iaload, 1) := dc_of (x := (30, .iaload, 1)) t0_Wa_latest_ok (i := 16) rfl
theorem d_Wa_latest_31 : decode c_Wa_latest 31 = .ok (.i2l, 1) := dc_of (x := (31, .i2l, 1)) t0_Wa_latest_ok (i := 17) rfl
theorem d_Wa_latest_32 : decode c_Wa_latest 32 = .ok (.lload_n 2, 1) := dc_of (x := (32, .lload_n 2, 1)) t0_Wa_latest_ok (i := 18) rfl
theorem d_Wa_latest_33 : decode c_Wa_latest 33 = .ok (.lcmp, 1) := dc_of (x := (33, .lcmp, 1)) t0_Wa_latest_ok (i := 19) rfl
theorem d_Wa_latest_34 : decode c_Wa_latest 34 = .ok (.ifCond .gt 11, 3) := dc_of (x := (34, .ifCond .gt 11, 3)) t0_Wa_latest_ok (i := 20) rfl
theorem d_Wa_latest_37 : decode c_Wa_latest 37 = .ok (.aload_n 0, 1) := dc_of (x := (37, .aload_n 0, 1)) t0_Wa_latest_ok (i := 21) rfl
theorem d_Wa_latest_38 : decode c_Wa_latest 38 = .ok (.getfield 18, 3) := dc_of (x := (38, .getfield 18, 3)) t0_Wa_latest_ok (i := 22) rfl
theorem d_Wa_latest_41 : decode c_Wa_latest 41 = .ok (.iload 4, 2) := dc_of (x := (41, .iload 4, 2)) t0_Wa_latest_ok (i := 23) rfl
theorem d_Wa_latest_43 : decode c_Wa_latest 43 = .ok (.iaload, 1) := dc_of (x := (43, .iaload, 1)) t0_Wa_latest_ok (i := 24) rfl
theorem d_Wa_latest_44 : decode c_Wa_latest 44 = .ok (.ireturn, 1) := dc_of (x := (44, .ireturn, 1)) t0_Wa_latest_ok (i := 25) rfl
theorem d_Wa_latest_45 : decode c_Wa_latest 45 = .ok (.iinc 4 (-1), 3) := dc_of (x := (45, .iinc 4 (-1), 3)) t0_Wa_latest_ok (i := 26) rfl
theorem d_Wa_latest_48 : decode c_Wa_latest 48 = .ok (.goto (-40), 3) := dc_of (x := (48, .goto (-40), 3)) t0_Wa_latest_ok (i := 27) rfl
theorem d_Wa_latest_51 : decode c_Wa_latest 51 = .ok (.iconst 2, 1) := dc_of (x := (51, .iconst 2, 1)) t0_Wa_latest_ok (i := 28) rfl
theorem d_Wa_latest_52 : decode c_Wa_latest 52 = .ok (.ireturn, 1) := dc_of (x := (52, .ireturn, 1)) t0_Wa_latest_ok (i := 29) rfl
def t0_Wa_byteOfText : List (Nat × Instr × Nat) := [(0, .iload_n 1, 1), (1, .istore_n 2, 1), (2, .iconst 0, 1), (3, .istore_n 3, 1), (4, .iload_n 3, 1), (5, .aload_n 0, 1), (6, .getfield 21, 3), (9, .if_icmp .ge 84, 3), (12, .iload_n 3, 1), (13, .ifCond .eq 20, 3), (16, .aload_n 0, 1), (17, .getfield 9, 3), (20, .iload_n 3, 1), (21, .iaload, 1), (22, .aload_n 0, 1), (23, .getfield 9, 3), (26, .iload_n 3, 1), (27, .iconst 1, 1), (28, .isub, 1), (29, .iaload, 1), (30, .if_icmp .eq 42, 3), (33, .aload_n 0, 1), (34, .getfield 9, 3), (37, .iload_n 3, 1), (38, .iaload, 1), (39, .invokestatic 31, 3), (42, .istore 4, 2), (44, .iload_n 2, 1), (45, .iload 4, 2), (47, .iconst 2, 1), (48, .iadd, 1), (49, .if_icmp .ge 16, 3), (52, .aload_n 0, 1), (53, .getfield 9, 3), (56, .iload_n 3, 1), (57, .iaload, 1), (58, .iload 4, 2), (60, .iload_n 2, 1), (61, .invokestatic 35, 3), (64, .ireturn, 1), (65, .iload_n 2, 1), (66, .iload 4, 2), (68, .iconst 2, 1), (69, .iadd, 1), (70, .isub, 1), (71, .istore_n 2, 1), (72, .iload_n 2, 1), (73, .iconst 3, 1), (74, .if_icmp .ge 10, 3), (77, .aload_n 0, 1), (78, .iload_n 3, 1), (79, .iload_n 2, 1), (80, .invokevirtual 39, 3), (83, .ireturn, 1), (84, .iinc 2 (-3), 3), (87, .iinc 3 1, 3), (90, .goto (-86), 3), (93, .iconst (-1), 1), (94, .ireturn, 1)]
theorem t0_Wa_byteOfText_ok : t0_Wa_byteOfText.all (fun x => decide (decode c_Wa_byteOfText x.1 = .ok x.2)) = true := by decide +kernel
theorem d_Wa_byteOfText_0 : decode c_Wa_byteOfText 0 = .ok (.iload_n 1, 1) := dc_of (x := (0, .iload_n 1, 1)) t0_Wa_byteOfText_ok (i := 0) rfl
theorem d_Wa_byteOfText_1 : decode c_Wa_byteOfText 1 = .ok (.istore_n 2, 1) := dc_of (x := (1, .istore_n 2, 1)) t0_Wa_byteOfText_ok (i := 1) rfl
theorem d_Wa_byteOfText_2 : decode c_Wa_byteOfText 2 = .ok (.iconst 0, 1) := dc_of (x := (2, .iconst 0, 1)) t0_Wa_byteOfText_ok (i := 2) rfl
theorem d_Wa_byteOfText_3 : decode c_Wa_byteOfText 3 = .ok (.istore_n 3, 1) := dc_of (x := (3, .istore_n 3, 1)) t0_Wa_byteOfText_ok (i := 3) rfl
theorem d_Wa_byteOfText_4 : decode c_Wa_byteOfText 4 = .ok (.iload_n 3, 1) := dc_of (x := (4, .iload_n 3, 1)) t0_Wa_byteOfText_ok (i := 4) rfl
theorem d_Wa_byteOfText_5 : decode c_Wa_byteOfText 5 = .ok (.aload_n 0, 1) := dc_of (x := (5, .aload_n 0, 1)) t0_Wa_byteOfText_ok (i := 5) rfl
theorem d_Wa_byteOfText_6 : decode c_Wa_byteOfText 6 = .ok (.getfield 21, 3) := dc_of (x := (6, .getfield 21, 3)) t0_Wa_byteOfText_ok (i := 6) rfl
theorem d_Wa_byteOfText_9 : decode c_Wa_byteOfText 9 = .ok (.if_icmp .ge 84, 3) := dc_of (x := (9, .if_icmp .ge 84, 3)) t0_Wa_byteOfText_ok (i := 7) rfl
theorem d_Wa_byteOfText_12 : decode c_Wa_byteOfText 12 = .ok (.iload_n 3, 1) := dc_of (x := (12, .iload_n 3, 1)) t0_Wa_byteOfText_ok (i := 8) rfl
theorem d_Wa_byteOfText_13 : decode c_Wa_byteOfText 13 = .ok (.ifCond .eq 20, 3) := dc_of (x := (13, .ifCond .eq 20, 3)) t0_Wa_byteOfText_ok (i := 9) rfl
theorem d_Wa_byteOfText_16 : decode c_Wa_byteOfText 16 = .ok (.aload_n 0, 1) := dc_of (x := (16, .aload_n 0, 1)) t0_Wa_byteOfText_ok (i := 10) rfl
theorem d_Wa_byteOfText_17 : decode c_Wa_byteOfText 17 = .ok (.getfield 9, 3) := dc_of (x := (17, .getfield 9, 3)) t0_Wa_byteOfText_ok (i := 11) rfl
theorem d_Wa_byteOfText_20 : decode c_Wa_byteOfText 20 = .ok (.iload_n 3, 1) := dc_of (x := (20, .iload_n 3, 1)) t0_Wa_byteOfText_ok (i := 12) rfl
theorem d_Wa_byteOfText_21 : decode c_Wa_byteOfText 21 = .ok (.iaload, 1) := dc_of (x := (21, .iaload, 1)) t0_Wa_byteOfText_ok (i := 13) rfl
theorem d_Wa_byteOfText_22 : decode c_Wa_byteOfText 22 = .ok (.aload_n 0, 1) := dc_of (x := (22, .aload_n 0, 1)) t0_Wa_byteOfText_ok (i := 14) rfl
theorem d_Wa_byteOfText_23 : decode c_Wa_byteOfText 23 = .ok (.getfield 9, 3) := dc_of (x := (23, .getfield 9, 3)) t0_Wa_byteOfText_ok (i := 15) rfl
theorem d_Wa_byteOfText_26 : decode c_Wa_byteOfText 26 = .ok (.iload_n 3, 1) := dc_of (x := (26, .iload_n 3, 1)) t0_Wa_byteOfText_ok (i := 16) rfl
theorem d_Wa_byteOfText_27 : decode c_Wa_byteOfText 27 = .ok (.iconst 1, 1) := dc_of (x := (27, .iconst 1, 1)) t0_Wa_byteOfText_ok (i := 17) rfl
theorem d_Wa_byteOfText_28 : decode c_Wa_byteOfText 28 = .ok (.isub, 1) := dc_of (x := (28, .isub, 1)) t0_Wa_byteOfText_ok (i := 18) rfl
theorem d_Wa_byteOfText_29 : decode c_Wa_byteOfText 29 = .ok (.iaload, 1) := dc_of (x := (29, .iaload, 1)) t0_Wa_byteOfText_ok (i := 19) rfl
theorem d_Wa_byteOfText_30 : decode c_Wa_byteOfText 30 = .ok (.if_icmp .eq 42, 3) := dc_of (x := (30, .if_icmp .eq 42, 3)) t0_Wa_byteOfText_ok (i := 20) rfl
theorem d_Wa_byteOfText_33 : decode c_Wa_byteOfText 33 = .ok (.aload_n 0, 1) := dc_of (x := (33, .aload_n 0, 1)) t0_Wa_byteOfText_ok (i := 21) rfl
theorem d_Wa_byteOfText_34 : decode c_Wa_byteOfText 34 = .ok (.getfield 9, 3) := dc_of (x := (34, .getfield 9, 3)) t0_Wa_byteOfText_ok (i := 22) rfl
theorem d_Wa_byteOfText_37 : decode c_Wa_byteOfText 37 = .ok (.iload_n 3, 1) := dc_of (x := (37, .iload_n 3, 1)) t0_Wa_byteOfText_ok (i := 23) rfl
theorem d_Wa_byteOfText_38 : decode c_Wa_byteOfText 38 = .ok (.iaload, 1) := dc_of (x := (38, .iaload, 1)) t0_Wa_byteOfText_ok (i := 24) rfl
theorem d_Wa_byteOfText_39 : decode c_Wa_byteOfText 39 = .ok (.invokestatic 31, 3) := dc_of (x := (39, .invokestatic 31, 3)) t0_Wa_byteOfText_ok (i := 25) rfl
theorem d_Wa_byteOfText_42 : decode c_Wa_byteOfText 42 = .ok (.istore 4, 2) := dc_of (x := (42, .istore 4, 2)) t0_Wa_byteOfText_ok (i := 26) rfl
theorem d_Wa_byteOfText_44 : decode c_Wa_byteOfText 44 = .ok (.iload_n 2, 1) := dc_of (x := (44, .iload_n 2, 1)) t0_Wa_byteOfText_ok (i := 27) rfl
theorem d_Wa_byteOfText_45 : decode c_Wa_byteOfText 45 = .ok (.iload 4, 2) := dc_of (x := (45, .iload 4, 2)) t0_Wa_byteOfText_ok (i := 28) rfl
theorem d_Wa_byteOfText_47 : decode c_Wa_byteOfText 47 = .ok (.iconst 2, 1) := dc_of (x := (47, .iconst 2, 1)) t0_Wa_byteOfText_ok (i := 29) rfl
theorem d_Wa_byteOfText_48 : decode c_Wa_byteOfText 48 = .ok (.iadd, 1) := dc_of (x := (48, .iadd, 1)) t0_Wa_byteOfText_ok (i := 30) rfl
theorem d_Wa_byteOfText_49 : decode c_Wa_byteOfText 49 = .ok (.if_icmp .ge 16, 3) := dc_of (x := (49, .if_icmp .ge 16, 3)) t0_Wa_byteOfText_ok (i := 31) rfl
theorem d_Wa_byteOfText_52 : decode c_Wa_byteOfText 52 = .ok (.aload_n 0, 1) := dc_of (x := (52, .aload_n 0, 1)) t0_Wa_byteOfText_ok (i := 32) rfl
theorem d_Wa_byteOfText_53 : decode c_Wa_byteOfText 53 = .ok (.getfield 9, 3) := dc_of (x := (53, .getfield 9, 3)) t0_Wa_byteOfText_ok (i := 33) rfl
theorem d_Wa_byteOfText_56 : decode c_Wa_byteOfText 56 = .ok (.iload_n 3, 1) := dc_of (x := (56, .iload_n 3, 1)) t0_Wa_byteOfText_ok (i := 34) rfl
theorem d_Wa_byteOfText_57 : decode c_Wa_byteOfText 57 = .ok (.iaload, 1) := dc_of (x := (57, .iaload, 1)) t0_Wa_byteOfText_ok (i := 35) rfl
theorem d_Wa_byteOfText_58 : decode c_Wa_byteOfText 58 = .ok (.iload 4, 2) := dc_of (x := (58, .iload 4, 2)) t0_Wa_byteOfText_ok (i := 36) rfl
theorem d_Wa_byteOfText_60 : decode c_Wa_byteOfText 60 = .ok (.iload_n 2, 1) := dc_of (x := (60, .iload_n 2, 1)) t0_Wa_byteOfText_ok (i := 37) rfl
theorem d_Wa_byteOfText_61 : decode c_Wa_byteOfText 61 = .ok (.invokestatic 35, 3) := dc_of (x := (61, .invokestatic 35, 3)) t0_Wa_byteOfText_ok (i := 38) rfl
theorem d_Wa_byteOfText_64 : decode c_Wa_byteOfText 64 = .ok (.ireturn, 1) := dc_of (x := (64, .ireturn, 1)) t0_Wa_byteOfText_ok (i := 39) rfl
theorem d_Wa_byteOfText_65 : decode c_Wa_byteOfText 65 = .ok (.iload_n 2, 1) := dc_of (x := (65, .iload_n 2, 1)) t0_Wa_byteOfText_ok (i := 40) rfl
theorem d_Wa_byteOfText_66 : decode c_Wa_byteOfText 66 = .ok (.iload 4, 2) := dc_of (x := (66, .iload 4, 2)) t0_Wa_byteOfText_ok (i := 41) rfl
theorem d_Wa_byteOfText_68 : decode c_Wa_byteOfText 68 = .ok (.iconst 2, 1) := dc_of (x := (68, .iconst 2, 1)) t0_Wa_byteOfText_ok (i := 42) rfl
theorem d_Wa_byteOfText_69 : decode c_Wa_byteOfText 69 = .ok (.iadd, 1) := dc_of (x := (69, .iadd, 1)) t0_Wa_byteOfText_ok (i := 43) rfl
theorem d_Wa_byteOfText_70 : decode c_Wa_byteOfText 70 = .ok (.isub, 1) := dc_of (x := (70, .isub, 1)) t0_Wa_byteOfText_ok (i := 44) rfl
theorem d_Wa_byteOfText_71 : decode c_Wa_byteOfText 71 = .ok (.istore_n 2, 1) := dc_of (x := (71, .istore_n 2, 1)) t0_Wa_byteOfText_ok (i := 45) rfl
theorem d_Wa_byteOfText_72 : decode c_Wa_byteOfText 72 = .ok (.iload_n 2, 1) := dc_of (x := (72, .iload_n 2, 1)) t0_Wa_byteOfText_ok (i := 46) rfl
theorem d_Wa_byteOfText_73 : decode c_Wa_byteOfText 73 = .ok (.iconst 3, 1) := dc_of (x := (73, .iconst 3, 1)) t0_Wa_byteOfText_ok (i := 47) rfl
theorem d_Wa_byteOfText_74 : decode c_Wa_byteOfText 74 = .ok (.if_icmp .ge 10, 3) := dc_of (x := (74, .if_icmp .ge 10, 3)) t0_Wa_byteOfText_ok (i := 48) rfl
theorem d_Wa_byteOfText_77 : decode c_Wa_byteOfText 77 = .ok (.aload_n 0, 1) := dc_of (x := (77, .aload_n 0, 1)) t0_Wa_byteOfText_ok (i := 49) rfl
theorem d_Wa_byteOfText_78 : decode c_Wa_byteOfText 78 = .ok (.iload_n 3, 1) := dc_of (x := (78, .iload_n 3, 1)) t0_Wa_byteOfText_ok (i := 50) rfl
theorem d_Wa_byteOfText_79 : decode c_Wa_byteOfText 79 = .ok (.iload_n 2, 1) := dc_of (x := (79, .iload_n 2, 1)) t0_Wa_byteOfText_ok (i := 51) rfl
theorem d_Wa_byteOfText_80 : decode c_Wa_byteOfText 80 = .ok (.invokevirtual 39, 3) := dc_of (x := (80, .invokevirtual 39, 3)) t0_Wa_byteOfText_ok (i := 52) rfl
theorem d_Wa_byteOfText_83 : decode c_Wa_byteOfText 83 = .ok (.ireturn, 1) := dc_of (x := (83, .ireturn, 1)) t0_Wa_byteOfText_ok (i := 53) rfl
theorem d_Wa_byteOfText_84 : decode c_Wa_byteOfText 84 = .ok (.iinc 2 (-3), 3) := dc_of (x := (84, .iinc 2 (-3), 3)) t0_Wa_byteOfText_ok (i := 54) rfl
theorem d_Wa_byteOfText_87 : decode c_Wa_byteOfText 87 = .ok (.iinc 3 1, 3) := dc_of (x := (87, .iinc 3 1, 3)) t0_Wa_byteOfText_ok (i := 55) rfl
theorem d_Wa_byteOfText_90 : decode c_Wa_byteOfText 90 = .ok (.goto (-86), 3) := dc_of (x := (90, .goto (-86), 3)) t0_Wa_byteOfText_ok (i := 56) rfl
theorem d_Wa_byteOfText_93 : decode c_Wa_byteOfText 93 = .ok (.iconst (-1), 1) := dc_of (x := (93, .iconst (-1), 1)) t0_Wa_byteOfText_ok (i := 57) rfl
theorem d_Wa_byteOfText_94 : decode c_Wa_byteOfText 94 = .ok (.ireturn, 1) := dc_of (x := (94, .ireturn, 1)) t0_Wa_byteOfText_ok (i := 58) rfl
def t0_Wa_digitsOf : List (Nat × Instr × Nat) := [(0, .iconst 1, 1), (1, .istore_n 1, 1), (2, .iload_n 1, 1), (3, .getstatic 43, 3), (6, .arraylength, 1), (7, .if_icmp .ge 20, 3), (10, .iload_n 0, 1), (11, .getstatic 43, 3), (14, .iload_n 1, 1), (15, .iaload, 1), (16, .if_icmp .ge 5, 3), (19, .iload_n 1, 1), (20, .ireturn, 1), (21, .iinc 1 1, 3), (24, .goto (-22), 3), (27, .getstatic 43, 3), (30, .arraylength, 1), (31, .ireturn, 1)]
theorem t0_Wa_digitsOf_ok : t0_Wa_digitsOf.all (fun x => decide (decode c_Wa_digitsOf x.1 = .ok x.2)) = true := by decide +kernel
theorem d_Wa_digitsOf_0 : decode c_Wa_digitsOf 0 = .ok (.iconst 1, 1) := dc_of (x := (0, .iconst 1, 1)) t0_Wa_digitsOf_ok (i := 0) rfl
theorem d_Wa_digitsOf_1 : decode c_Wa_digitsOf 1 = .ok (.istore_n 1, 1) := dc_of (x := (1, .istore_n 1, 1)) t0_Wa_digitsOf_ok (i := 1) rfl
theorem d_Wa_digitsOf_2 : decode c_Wa_digitsOf 2 = .ok (.iload_n 1, 1) := dc_of (x := (2, .iload_n 1, 1)) t0_Wa_digitsOf_ok (i := 2) rfl
theorem d_Wa_digitsOf_3 : decode c_Wa_digitsOf 3 = .ok (.getstatic 43, 3) := dc_of (x := (3, .getstatic 43, 3)) t0_Wa_digitsOf_ok (i := 3) rfl
theorem d_Wa_digitsOf_6 : decode c_Wa_digitsOf 6 = .ok (.arraylength, 1) := dc_of (x := (6, .arraylength, 1)) t0_Wa_digitsOf_ok (i := 4) rfl
theorem d_Wa_digitsOf_7 : decode c_Wa_digitsOf 7 = .ok (.if_icmp .ge 20, 3) := dc_of (x := (7, .if_icmp .ge 20, 3)) t0_Wa_digitsOf_ok (i := 5) rfl
theorem d_Wa_digitsOf_10 : decode c_Wa_digitsOf 10 = .ok (.iload_n 0, 1) := dc_of (x := (10, .iload_n 0, 1)) t0_Wa_digitsOf_ok (i := 6) rfl
theorem d_Wa_digitsOf_11 : decode c_Wa_digitsOf 11 = .ok (.getstatic 43, 3) := dc_of (x := (11, .getstatic 43, 3)) t0_Wa_digitsOf_ok (i := 7) rfl
theorem d_Wa_digitsOf_14 : decode c_Wa_digitsOf 14 = .ok (.iload_n 1, 1) := dc_of (x := (14, .iload_n 1, 1)) t0_Wa_digitsOf_ok (i := 8) rfl
theorem d_Wa_digitsOf_15 : decode c_Wa_digitsOf 15 = .ok (.iaload, 1) := dc_of (x := (15, .iaload, 1)) t0_Wa_digitsOf_ok (i := 9) rfl
theorem d_Wa_digitsOf_16 : decode c_Wa_digitsOf 16 = .ok (.if_icmp .ge 5, 3) := dc_of (x := (16, .if_icmp .ge 5, 3)) t0_Wa_digitsOf_ok (i := 10) rfl
theorem d_Wa_digitsOf_19 : decode c_Wa_digitsOf 19 = .ok (.iload_n 1, 1) := dc_of (x := (19, .iload_n 1, 1)) t0_Wa_digitsOf_ok (i := 11) rfl
theorem d_Wa_digitsOf_20 : decode c_Wa_digitsOf 20 = .ok (.ireturn, 1) := dc_of (x := (20, .ireturn, 1)) t0_Wa_digitsOf_ok (i := 12) rfl
theorem d_Wa_digitsOf_21 : decode c_Wa_digitsOf 21 = .ok (.iinc 1 1, 3) := dc_of (x := (21, .iinc 1 1, 3)) t0_Wa_digitsOf_ok (i := 13) rfl
theorem d_Wa_digitsOf_24 : decode c_Wa_digitsOf 24 = .ok (.goto (-22), 3) := dc_of (x := (24, .goto (-22), 3)) t0_Wa_digitsOf_ok (i := 14) rfl
theorem d_Wa_digitsOf_27 : decode c_Wa_digitsOf 27 = .ok (.getstatic 43, 3) := dc_of (x := (27, .getstatic 43, 3)) t0_Wa_digitsOf_ok (i := 15) rfl
theorem d_Wa_digitsOf_30 : decode c_Wa_digitsOf 30 = .ok (.arraylength, 1) := dc_of (x := (30, .arraylength, 1)) t0_Wa_digitsOf_ok (i := 16) rfl
theorem d_Wa_digitsOf_31 : decode c_Wa_digitsOf 31 = .ok (.ireturn, 1) := dc_of (x := (31, .ireturn, 1)) t0_Wa_digitsOf_ok (i := 17) rfl
def t0_Wa_headByte : List (Nat × Instr × Nat) := [(0, .iload_n 2, 1), (1, .ifCond .ne 6, 3), (4, .bipush 35, 2), (6, .ireturn, 1), (7, .iload_n 1, 1), (8, .iload_n 2, 1), (9, .isub, 1), (10, .istore_n 3, 1), (11, .iload_n 3, 1), (12, .ifCond .lt 11, 3), (15, .iload_n 3, 1), (16, .getstatic 43, 3), (19, .arraylength, 1), (20, .if_icmp .lt 6, 3), (23, .bipush 10, 2), (25, .ireturn, 1), (26, .bipush 48, 2), (28, .iload_n 0, 1), (29, .getstatic 43, 3), (32, .iload_n 3, 1), (33, .iaload, 1), (34, .idiv, 1), (35, .bipush 10, 2), (37, .irem, 1), (38, .iadd, 1), (39, .ireturn, 1)]
theorem t0_Wa_headByte_ok : t0_Wa_headByte.all (fun x => decide (decode c_Wa_headByte x.1 = .ok x.2)) = true := by decide +kernel
theorem d_Wa_headByte_0 : decode c_Wa_headByte 0 = .ok (.iload_n 2, 1) := dc_of (x := (0, .iload_n 2, 1)) t0_Wa_headByte_ok (i := 0) rfl
theorem d_Wa_headByte_1 : decode c_Wa_headByte 1 = .ok (.ifCond .ne 6, 3) := dc_of (x := (1, .ifCond .ne 6, 3)) t0_Wa_headByte_ok (i := 1) rfl
theorem d_Wa_headByte_4 : decode c_Wa_headByte 4 = .ok (.bipush 35, 2) := dc_of (x := (4, .bipush 35, 2)) t0_Wa_headByte_ok (i := 2) rfl
theorem d_Wa_headByte_6 : decode c_Wa_headByte 6 = .ok (.ireturn, 1) := dc_of (x := (6, .ireturn, 1)) t0_Wa_headByte_ok (i := 3) rfl
theorem d_Wa_headByte_7 : decode c_Wa_headByte 7 = .ok (.iload_n 1, 1) := dc_of (x := (7, .iload_n 1, 1)) t0_Wa_headByte_ok (i := 4) rfl
theorem d_Wa_headByte_8 : decode c_Wa_headByte 8 = .ok (.iload_n 2, 1) := dc_of (x := (8, .iload_n 2, 1)) t0_Wa_headByte_ok (i := 5) rfl
theorem d_Wa_headByte_9 : decode c_Wa_headByte 9 = .ok (.isub, 1) := dc_of (x := (9, .isub, 1)) t0_Wa_headByte_ok (i := 6) rfl
theorem d_Wa_headByte_10 : decode c_Wa_headByte 10 = .ok (.istore_n 3, 1) := dc_of (x := (10, .istore_n 3, 1)) t0_Wa_headByte_ok (i := 7) rfl
theorem d_Wa_headByte_11 : decode c_Wa_headByte 11 = .ok (.iload_n 3, 1) := dc_of (x := (11, .iload_n 3, 1)) t0_Wa_headByte_ok (i := 8) rfl
theorem d_Wa_headByte_12 : decode c_Wa_headByte 12 = .ok (.ifCond .lt 11, 3) := dc_of (x := (12, .ifCond .lt 11, 3)) t0_Wa_headByte_ok (i := 9) rfl
theorem d_Wa_headByte_15 : decode c_Wa_headByte 15 = .ok (.iload_n 3, 1) := dc_of (x := (15, .iload_n 3, 1)) t0_Wa_headByte_ok (i := 10) rfl
theorem d_Wa_headByte_16 : decode c_Wa_headByte 16 = .ok (.getstatic 43, 3) := dc_of (x := (16, .getstatic 43, 3)) t0_Wa_headByte_ok (i := 11) rfl
theorem d_Wa_headByte_19 : decode c_Wa_headByte 19 = .ok (.arraylength, 1) := dc_of (x := (19, .arraylength, 1)) t0_Wa_headByte_ok (i := 12) rfl
theorem d_Wa_headByte_20 : decode c_Wa_headByte 20 = .ok (.if_icmp .lt 6, 3) := dc_of (x := (20, .if_icmp .lt 6, 3)) t0_Wa_headByte_ok (i := 13) rfl
theorem d_Wa_headByte_23 : decode c_Wa_headByte 23 = .ok (.bipush 10, 2) := dc_of (x := (23, .bipush 10, 2)) t0_Wa_headByte_ok (i := 14) rfl
theorem d_Wa_headByte_25 : decode c_Wa_headByte 25 = .ok (.ireturn, 1) := dc_of (x := (25, .ireturn, 1)) t0_Wa_headByte_ok (i := 15) rfl
theorem d_Wa_headByte_26 : decode c_Wa_headByte 26 = .ok (.bipush 48, 2) := dc_of (x := (26, .bipush 48, 2)) t0_Wa_headByte_ok (i := 16) rfl
theorem d_Wa_headByte_28 : decode c_Wa_headByte 28 = .ok (.iload_n 0, 1) := dc_of (x := (28, .iload_n 0, 1)) t0_Wa_headByte_ok (i := 17) rfl
theorem d_Wa_headByte_29 : decode c_Wa_headByte 29 = .ok (.getstatic 43, 3) := dc_of (x := (29, .getstatic 43, 3)) t0_Wa_headByte_ok (i := 18) rfl
theorem d_Wa_headByte_32 : decode c_Wa_headByte 32 = .ok (.iload_n 3, 1) := dc_of (x := (32, .iload_n 3, 1)) t0_Wa_headByte_ok (i := 19) rfl
theorem d_Wa_headByte_33 : decode c_Wa_headByte 33 = .ok (.iaload, 1) := dc_of (x := (33, .iaload, 1)) t0_Wa_headByte_ok (i := 20) rfl
theorem d_Wa_headByte_34 : decode c_Wa_headByte 34 = .ok (.idiv, 1) := dc_of (x := (34, .idiv, 1)) t0_Wa_headByte_ok (i := 21) rfl
theorem d_Wa_headByte_35 : decode c_Wa_headByte 35 = .ok (.bipush 10, 2) := dc_of (x := (35, .bipush 10, 2)) t0_Wa_headByte_ok (i := 22) rfl
theorem d_Wa_headByte_37 : decode c_Wa_headByte 37 = .ok (.irem, 1) := dc_of (x := (37, .irem, 1)) t0_Wa_headByte_ok (i := 23) rfl
theorem d_Wa_headByte_38 : decode c_Wa_headByte 38 = .ok (.iadd, 1) := dc_of (x := (38, .iadd, 1)) t0_Wa_headByte_ok (i := 24) rfl
theorem d_Wa_headByte_39 : decode c_Wa_headByte 39 = .ok (.ireturn, 1) := dc_of (x := (39, .ireturn, 1)) t0_Wa_headByte_ok (i := 25) rfl
def t0_Wa_lineByte : List (Nat × Instr × Nat) := [(0, .iload_n 2, 1), (1, .lookupswitch 48 #[(0, 27), (1, 38)], 27), (28, .getstatic 46, 3), (31, .aload_n 0, 1), (32, .getfield 18, 3), (35, .iload_n 1, 1), (36, .iaload, 1), (37, .iaload, 1), (38, .ireturn, 1), (39, .bipush 33, 2), (41, .aload_n 0, 1), (42, .getfield 15, 3), (45, .iload_n 1, 1), (46, .iaload, 1), (47, .iadd, 1), (48, .ireturn, 1), (49, .bipush 10, 2), (51, .ireturn, 1)]
theorem t0_Wa_lineByte_ok : t0_Wa_lineByte.all (fun x => decide (decode c_Wa_lineByte x.1 = .ok x.2)) = true := by decide +kernel
theorem d_Wa_lineByte_0 : decode c_Wa_lineByte 0 = .ok (.iload_n 2, 1) := dc_of (x := (0, .iload_n 2, 1)) t0_Wa_lineByte_ok (i := 0) rfl
theorem d_Wa_lineByte_1 : decode c_Wa_lineByte 1 = .ok (.lookupswitch 48 #[(0, 27), (1, 38)], 27) := dc_of (x := (1, .lookupswitch 48 #[(0, 27), (1, 38)], 27)) t0_Wa_lineByte_ok (i := 1) rfl
theorem d_Wa_lineByte_28 : decode c_Wa_lineByte 28 = .ok (.getstatic 46, 3) := dc_of (x := (28, .getstatic 46, 3)) t0_Wa_lineByte_ok (i := 2) rfl
theorem d_Wa_lineByte_31 : decode c_Wa_lineByte 31 = .ok (.aload_n 0, 1) := dc_of (x := (31, .aload_n 0, 1)) t0_Wa_lineByte_ok (i := 3) rfl
theorem d_Wa_lineByte_32 : decode c_Wa_lineByte 32 = .ok (.getfield 18, 3) := dc_of (x := (32, .getfield 18, 3)) t0_Wa_lineByte_ok (i := 4) rfl
theorem d_Wa_lineByte_35 : decode c_Wa_lineByte 35 = .ok (.iload_n 1, 1) := dc_of (x := (35, .iload_n 1, 1)) t0_Wa_lineByte_ok (i := 5) rfl
theorem d_Wa_lineByte_36 : decode c_Wa_lineByte 36 = .ok (.iaload, 1) := dc_of (x := (36, .iaload, 1)) t0_Wa_lineByte_ok (i := 6) rfl
theorem d_Wa_lineByte_37 : decode c_Wa_lineByte 37 = .ok (.iaload, 1) := dc_of (x := (37, .iaload, 1)) t0_Wa_lineByte_ok (i := 7) rfl
theorem d_Wa_lineByte_38 : decode c_Wa_lineByte 38 = .ok (.ireturn, 1) := dc_of (x := (38, .ireturn, 1)) t0_Wa_lineByte_ok (i := 8) rfl
theorem d_Wa_lineByte_39 : decode c_Wa_lineByte 39 = .ok (.bipush 33, 2) := dc_of (x := (39, .bipush 33, 2)) t0_Wa_lineByte_ok (i := 9) rfl
theorem d_Wa_lineByte_41 : decode c_Wa_lineByte 41 = .ok (.aload_n 0, 1) := dc_of (x := (41, .aload_n 0, 1)) t0_Wa_lineByte_ok (i := 10) rfl
theorem d_Wa_lineByte_42 : decode c_Wa_lineByte 42 = .ok (.getfield 15, 3) := dc_of (x := (42, .getfield 15, 3)) t0_Wa_lineByte_ok (i := 11) rfl
theorem d_Wa_lineByte_45 : decode c_Wa_lineByte 45 = .ok (.iload_n 1, 1) := dc_of (x := (45, .iload_n 1, 1)) t0_Wa_lineByte_ok (i := 12) rfl
theorem d_Wa_lineByte_46 : decode c_Wa_lineByte 46 = .ok (.iaload, 1) := dc_of (x := (46, .iaload, 1)) t0_Wa_lineByte_ok (i := 13) rfl
theorem d_Wa_lineByte_47 : decode c_Wa_lineByte 47 = .ok (.iadd, 1) := dc_of (x := (47, .iadd, 1)) t0_Wa_lineByte_ok (i := 14) rfl
theorem d_Wa_lineByte_48 : decode c_Wa_lineByte 48 = .ok (.ireturn, 1) := dc_of (x := (48, .ireturn, 1)) t0_Wa_lineByte_ok (i := 15) rfl
theorem d_Wa_lineByte_49 : decode c_Wa_lineByte 49 = .ok (.bipush 10, 2) := dc_of (x := (49, .bipush 10, 2)) t0_Wa_lineByte_ok (i := 16) rfl
theorem d_Wa_lineByte_51 : decode c_Wa_lineByte 51 = .ok (.ireturn, 1) := dc_of (x := (51, .ireturn, 1)) t0_Wa_lineByte_ok (i := 17) rfl
