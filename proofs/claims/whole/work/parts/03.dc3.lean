def t0_Mo_init : List (Nat × Instr × Nat) := [(0, .aload_n 0, 1), (1, .invokespecial 1, 3), (4, .aload_n 0, 1), (5, .sipush 3300, 3), (8, .newarray .int, 2), (10, .putfield 7, 3), (13, .aload_n 0, 1), (14, .sipush 13200, 3), (17, .newarray .int, 2), (19, .putfield 13, 3), (22, .aload_n 0, 1), (23, .sipush 2000, 3), (26, .newarray .int, 2), (28, .putfield 16, 3), (31, .aload_n 0, 1), (32, .sipush 1000, 3), (35, .newarray .int, 2), (37, .putfield 19, 3), (40, .aload_n 0, 1), (41, .sipush 1000, 3), (44, .newarray .int, 2), (46, .putfield 22, 3), (49, .aload_n 0, 1), (50, .sipush 1000, 3), (53, .newarray .int, 2), (55, .putfield 25, 3), (58, .return_, 1)]
theorem t0_Mo_init_ok : t0_Mo_init.all (fun x => decide (decode c_Mo_init x.1 = .ok x.2)) = true := by decide +kernel
theorem d_Mo_init_0 : decode c_Mo_init 0 = .ok (.aload_n 0, 1) := dc_of (x := (0, .aload_n 0, 1)) t0_Mo_init_ok (i := 0) rfl
theorem d_Mo_init_1 : decode c_Mo_init 1 = .ok (.invokespecial 1, 3) := dc_of (x := (1, .invokespecial 1, 3)) t0_Mo_init_ok (i := 1) rfl
theorem d_Mo_init_4 : decode c_Mo_init 4 = .ok (.aload_n 0, 1) := dc_of (x := (4, .aload_n 0, 1)) t0_Mo_init_ok (i := 2) rfl
theorem d_Mo_init_5 : decode c_Mo_init 5 = .ok (.sipush 3300, 3) := dc_of (x := (5, .sipush 3300, 3)) t0_Mo_init_ok (i := 3) rfl
theorem d_Mo_init_8 : decode c_Mo_init 8 = .ok (.newarray .int, 2) := dc_of (x := (8, .newarray .int, 2)) t0_Mo_init_ok (i := 4) rfl
theorem d_Mo_init_10 : decode c_Mo_init 10 = .ok (.putfield 7, 3) := dc_of (x := (10, .putfield 7, 3)) t0_Mo_init_ok (i := 5) rfl
theorem d_Mo_init_13 : decode c_Mo_init 13 = .ok (.aload_n 0, 1) := dc_of (x := (13, .aload_n 0, 1)) t0_Mo_init_ok (i := 6) rfl
theorem d_Mo_init_14 : decode c_Mo_init 14 = .ok (.sipush 13200, 3) := dc_of (x := (14, .sipush 13200, 3)) t0_Mo_init_ok (i := 7) rfl
theorem d_Mo_init_17 : decode c_Mo_init 17 = .ok (.newarray .int, 2) := dc_of (x := (17, .newarray .int, 2)) t0_Mo_init_ok (i := 8) rfl
theorem d_Mo_init_19 : decode c_Mo_init 19 = .ok (.putfield 13, 3) := dc_of (x := (19, .putfield 13, 3)) t0_Mo_init_ok (i := 9) rfl
theorem d_Mo_init_22 : decode c_Mo_init 22 = .ok (.aload_n 0, 1) := dc_of (x := (22, .aload_n 0, 1)) t0_Mo_init_ok (i := 10) rfl
theorem d_Mo_init_23 : decode c_Mo_init 23 = .ok (.sipush 2000, 3) := dc_of (x := (23, .sipush 2000, 3)) t0_Mo_init_ok (i := 11) rfl
theorem d_Mo_init_26 : decode c_Mo_init 26 = .ok (.newarray .int, 2) := dc_of (x := (26, .newarray .int, 2)) t0_Mo_init_ok (i := 12) rfl
theorem d_Mo_init_28 : decode c_Mo_init 28 = .ok (.putfield 16, 3) := dc_of (x := (28, .putfield 16, 3)) t0_Mo_init_ok (i := 13) rfl
theorem d_Mo_init_31 : decode c_Mo_init 31 = .ok (.aload_n 0, 1) := dc_of (x := (31, .aload_n 0, 1)) t0_Mo_init_ok (i := 14) rfl
theorem d_Mo_init_32 : decode c_Mo_init 32 = .ok (.sipush 1000, 3) := dc_of (x := (32, .sipush 1000, 3)) t0_Mo_init_ok (i := 15) rfl
theorem d_Mo_init_35 : decode c_Mo_init 35 = .ok (.newarray .int, 2) := dc_of (x := (35, .newarray .int, 2)) t0_Mo_init_ok (i := 16) rfl
theorem d_Mo_init_37 : decode c_Mo_init 37 = .ok (.putfield 19, 3) := dc_of (x := (37, .putfield 19, 3)) t0_Mo_init_ok (i := 17) rfl
theorem d_Mo_init_40 : decode c_Mo_init 40 = .ok (.aload_n 0, 1) := dc_of (x := (40, .aload_n 0, 1)) t0_Mo_init_ok (i := 18) rfl
theorem d_Mo_init_41 : decode c_Mo_init 41 = .ok (.sipush 1000, 3) := dc_of (x := (41, .sipush 1000, 3)) t0_Mo_init_ok (i := 19) rfl
theorem d_Mo_init_44 : decode c_Mo_init 44 = .ok (.newarray .int, 2) := dc_of (x := (44, .newarray .int, 2)) t0_Mo_init_ok (i := 20) rfl
theorem d_Mo_init_46 : decode c_Mo_init 46 = .ok (.putfield 22, 3) := dc_of (x := (46, .putfield 22, 3)) t0_Mo_init_ok (i := 21) rfl
theorem d_Mo_init_49 : decode c_Mo_init 49 = .ok (.aload_n 0, 1) := dc_of (x := (49, .aload_n 0, 1)) t0_Mo_init_ok (i := 22) rfl
theorem d_Mo_init_50 : decode c_Mo_init 50 = .ok (.sipush 1000, 3) := dc_of (x := (50, .sipush 1000, 3)) t0_Mo_init_ok (i := 23) rfl
theorem d_Mo_init_53 : decode c_Mo_init 53 = .ok (.newarray .int, 2) := dc_of (x := (53, .newarray .int, 2)) t0_Mo_init_ok (i := 24) rfl
theorem d_Mo_init_55 : decode c_Mo_init 55 = .ok (.putfield 25, 3) := dc_of (x := (55, .putfield 25, 3)) t0_Mo_init_ok (i := 25) rfl
theorem d_Mo_init_58 : decode c_Mo_init 58 = .ok (.return_, 1) := dc_of (x := (58, .return_, 1)) t0_Mo_init_ok (i := 26) rfl
def t0_Mo_thrown : List (Nat × Instr × Nat) := [(0, .aload_n 0, 1), (1, .getfield 28, 3), (4, .ireturn, 1)]
theorem t0_Mo_thrown_ok : t0_Mo_thrown.all (fun x => decide (decode c_Mo_thrown x.1 = .ok x.2)) = true := by decide +kernel
theorem d_Mo_thrown_0 : decode c_Mo_thrown 0 = .ok (.aload_n 0, 1) := dc_of (x := (0, .aload_n 0, 1)) t0_Mo_thrown_ok (i := 0) rfl
theorem d_Mo_thrown_1 : decode c_Mo_thrown 1 = .ok (.getfield 28, 3) := dc_of (x := (1, .getfield 28, 3)) t0_Mo_thrown_ok (i := 1) rfl
theorem d_Mo_thrown_4 : decode c_Mo_thrown 4 = .ok (.ireturn, 1) := dc_of (x := (4, .ireturn, 1)) t0_Mo_thrown_ok (i := 2) rfl
def t0_Mo_ofNet : List (Nat × Instr × Nat) := [(0, .aload_n 0, 1), (1, .getfield 7, 3), (4, .bipush 10, 2), (6, .bipush 10, 2), (8, .iload_n 1, 1), (9, .imul, 1), (10, .iadd, 1), (11, .iload_n 2, 1), (12, .iadd, 1), (13, .iaload, 1), (14, .ireturn, 1)]
theorem t0_Mo_ofNet_ok : t0_Mo_ofNet.all (fun x => decide (decode c_Mo_ofNet x.1 = .ok x.2)) = true := by decide +kernel
theorem d_Mo_ofNet_0 : decode c_Mo_ofNet 0 = .ok (.aload_n 0, 1) := dc_of (x := (0, .aload_n 0, 1)) t0_Mo_ofNet_ok (i := 0) rfl
theorem d_Mo_ofNet_1 : decode c_Mo_ofNet 1 = .ok (.getfield 7, 3) := dc_of (x := (1, .getfield 7, 3)) t0_Mo_ofNet_ok (i := 1) rfl
theorem d_Mo_ofNet_4 : decode c_Mo_ofNet 4 = .ok (.bipush 10, 2) := dc_of (x := (4, .bipush 10, 2)) t0_Mo_ofNet_ok (i := 2) rfl
theorem d_Mo_ofNet_6 : decode c_Mo_ofNet 6 = .ok (.bipush 10, 2) := dc_of (x := (6, .bipush 10, 2)) t0_Mo_ofNet_ok (i := 3) rfl
theorem d_Mo_ofNet_8 : decode c_Mo_ofNet 8 = .ok (.iload_n 1, 1) := dc_of (x := (8, .iload_n 1, 1)) t0_Mo_ofNet_ok (i := 4) rfl
theorem d_Mo_ofNet_9 : decode c_Mo_ofNet 9 = .ok (.imul, 1) := dc_of (x := (9, .imul, 1)) t0_Mo_ofNet_ok (i := 5) rfl
theorem d_Mo_ofNet_10 : decode c_Mo_ofNet 10 = .ok (.iadd, 1) := dc_of (x := (10, .iadd, 1)) t0_Mo_ofNet_ok (i := 6) rfl
theorem d_Mo_ofNet_11 : decode c_Mo_ofNet 11 = .ok (.iload_n 2, 1) := dc_of (x := (11, .iload_n 2, 1)) t0_Mo_ofNet_ok (i := 7) rfl
theorem d_Mo_ofNet_12 : decode c_Mo_ofNet 12 = .ok (.iadd, 1) := dc_of (x := (12, .iadd, 1)) t0_Mo_ofNet_ok (i := 8) rfl
theorem d_Mo_ofNet_13 : decode c_Mo_ofNet 13 = .ok (.iaload, 1) := dc_of (x := (13, .iaload, 1)) t0_Mo_ofNet_ok (i := 9) rfl
theorem d_Mo_ofNet_14 : decode c_Mo_ofNet 14 = .ok (.ireturn, 1) := dc_of (x := (14, .ireturn, 1)) t0_Mo_ofNet_ok (i := 10) rfl
def t0_Mo_ofGate : List (Nat × Instr × Nat) := [(0, .aload_n 0, 1), (1, .getfield 7, 3), (4, .sipush 250, 3), (7, .bipush 14, 2), (9, .iload_n 1, 1), (10, .imul, 1), (11, .iadd, 1), (12, .iload_n 2, 1), (13, .iadd, 1), (14, .iaload, 1), (15, .ireturn, 1)]
theorem t0_Mo_ofGate_ok : t0_Mo_ofGate.all (fun x => decide (decode c_Mo_ofGate x.1 = .ok x.2)) = true := by decide +kernel
theorem d_Mo_ofGate_0 : decode c_Mo_ofGate 0 = .ok (.aload_n 0, 1) := dc_of (x := (0, .aload_n 0, 1)) t0_Mo_ofGate_ok (i := 0) rfl
theorem d_Mo_ofGate_1 : decode c_Mo_ofGate 1 = .ok (.getfield 7, 3) := dc_of (x := (1, .getfield 7, 3)) t0_Mo_ofGate_ok (i := 1) rfl
theorem d_Mo_ofGate_4 : decode c_Mo_ofGate 4 = .ok (.sipush 250, 3) := dc_of (x := (4, .sipush 250, 3)) t0_Mo_ofGate_ok (i := 2) rfl
theorem d_Mo_ofGate_7 : decode c_Mo_ofGate 7 = .ok (.bipush 14, 2) := dc_of (x := (7, .bipush 14, 2)) t0_Mo_ofGate_ok (i := 3) rfl
theorem d_Mo_ofGate_9 : decode c_Mo_ofGate 9 = .ok (.iload_n 1, 1) := dc_of (x := (9, .iload_n 1, 1)) t0_Mo_ofGate_ok (i := 4) rfl
theorem d_Mo_ofGate_10 : decode c_Mo_ofGate 10 = .ok (.imul, 1) := dc_of (x := (10, .imul, 1)) t0_Mo_ofGate_ok (i := 5) rfl
theorem d_Mo_ofGate_11 : decode c_Mo_ofGate 11 = .ok (.iadd, 1) := dc_of (x := (11, .iadd, 1)) t0_Mo_ofGate_ok (i := 6) rfl
theorem d_Mo_ofGate_12 : decode c_Mo_ofGate 12 = .ok (.iload_n 2, 1) := dc_of (x := (12, .iload_n 2, 1)) t0_Mo_ofGate_ok (i := 7) rfl
theorem d_Mo_ofGate_13 : decode c_Mo_ofGate 13 = .ok (.iadd, 1) := dc_of (x := (13, .iadd, 1)) t0_Mo_ofGate_ok (i := 8) rfl
theorem d_Mo_ofGate_14 : decode c_Mo_ofGate 14 = .ok (.iaload, 1) := dc_of (x := (14, .iaload, 1)) t0_Mo_ofGate_ok (i := 9) rfl
theorem d_Mo_ofGate_15 : decode c_Mo_ofGate 15 = .ok (.ireturn, 1) := dc_of (x := (15, .ireturn, 1)) t0_Mo_ofGate_ok (i := 10) rfl
def t0_Mo_setGate : List (Nat × Instr × Nat) := [(0, .aload_n 0, 1), (1, .getfield 7, 3), (4, .sipush 250, 3), (7, .bipush 14, 2), (9, .iload_n 1, 1), (10, .imul, 1), (11, .iadd, 1), (12, .iload_n 2, 1), (13, .iadd, 1), (14, .iload_n 3, 1), (15, .iastore, 1), (16, .return_, 1)]
theorem t0_Mo_setGate_ok : t0_Mo_setGate.all (fun x => decide (decode c_Mo_setGate x.1 = .ok x.2)) = true := by decide +kernel
theorem d_Mo_setGate_0 : decode c_Mo_setGate 0 = .ok (.aload_n 0, 1) := dc_of (x := (0, .aload_n 0, 1)) t0_Mo_setGate_ok (i := 0) rfl
theorem d_Mo_setGate_1 : decode c_Mo_setGate 1 = .ok (.getfield 7, 3) := dc_of (x := (1, .getfield 7, 3)) t0_Mo_setGate_ok (i := 1) rfl
theorem d_Mo_setGate_4 : decode c_Mo_setGate 4 = .ok (.sipush 250, 3) := dc_of (x := (4, .sipush 250, 3)) t0_Mo_setGate_ok (i := 2) rfl
theorem d_Mo_setGate_7 : decode c_Mo_setGate 7 = .ok (.bipush 14, 2) := dc_of (x := (7, .bipush 14, 2)) t0_Mo_setGate_ok (i := 3) rfl
theorem d_Mo_setGate_9 : decode c_Mo_setGate 9 = .ok (.iload_n 1, 1) := dc_of (x := (9, .iload_n 1, 1)) t0_Mo_setGate_ok (i := 4) rfl
theorem d_Mo_setGate_10 : decode c_Mo_setGate 10 = .ok (.imul, 1) := dc_of (x := (10, .imul, 1)) t0_Mo_setGate_ok (i := 5) rfl
theorem d_Mo_setGate_11 : decode c_Mo_setGate 11 = .ok (.iadd, 1) := dc_of (x := (11, .iadd, 1)) t0_Mo_setGate_ok (i := 6) rfl
theorem d_Mo_setGate_12 : decode c_Mo_setGate 12 = .ok (.iload_n 2, 1) := dc_of (x := (12, .iload_n 2, 1)) t0_Mo_setGate_ok (i := 7) rfl
theorem d_Mo_setGate_13 : decode c_Mo_setGate 13 = .ok (.iadd, 1) := dc_of (x := (13, .iadd, 1)) t0_Mo_setGate_ok (i := 8) rfl
theorem d_Mo_setGate_14 : decode c_Mo_setGate 14 = .ok (.iload_n 3, 1) := dc_of (x := (14, .iload_n 3, 1)) t0_Mo_setGate_ok (i := 9) rfl
theorem d_Mo_setGate_15 : decode c_Mo_setGate 15 = .ok (.iastore, 1) := dc_of (x := (15, .iastore, 1)) t0_Mo_setGate_ok (i := 10) rfl
theorem d_Mo_setGate_16 : decode c_Mo_setGate 16 = .ok (.return_, 1) := dc_of (x := (16, .return_, 1)) t0_Mo_setGate_ok (i := 11) rfl
def t0_Mo_setNet : List (Nat × Instr × Nat) := [(0, .aload_n 0, 1), (1, .getfield 7, 3), (4, .bipush 10, 2), (6, .bipush 10, 2), (8, .iload_n 1, 1), (9, .imul, 1), (10, .iadd, 1), (11, .iload_n 2, 1), (12, .iadd, 1), (13, .iload_n 3, 1), (14, .iastore, 1), (15, .return_, 1)]
theorem t0_Mo_setNet_ok : t0_Mo_setNet.all (fun x => decide (decode c_Mo_setNet x.1 = .ok x.2)) = true := by decide +kernel
theorem d_Mo_setNet_0 : decode c_Mo_setNet 0 = .ok (.aload_n 0, 1) := dc_of (x := (0, .aload_n 0, 1)) t0_Mo_setNet_ok (i := 0) rfl
theorem d_Mo_setNet_1 : decode c_Mo_setNet 1 = .ok (.getfield 7, 3) := dc_of (x := (1, .getfield 7, 3)) t0_Mo_setNet_ok (i := 1) rfl
theorem d_Mo_setNet_4 : decode c_Mo_setNet 4 = .ok (.bipush 10, 2) := dc_of (x := (4, .bipush 10, 2)) t0_Mo_setNet_ok (i := 2) rfl
theorem d_Mo_setNet_6 : decode c_Mo_setNet 6 = .ok (.bipush 10, 2) := dc_of (x := (6, .bipush 10, 2)) t0_Mo_setNet_ok (i := 3) rfl
theorem d_Mo_setNet_8 : decode c_Mo_setNet 8 = .ok (.iload_n 1, 1) := dc_of (x := (8, .iload_n 1, 1)) t0_Mo_setNet_ok (i := 4) rfl
theorem d_Mo_setNet_9 : decode c_Mo_setNet 9 = .ok (.imul, 1) := dc_of (x := (9, .imul, 1)) t0_Mo_setNet_ok (i := 5) rfl
theorem d_Mo_setNet_10 : decode c_Mo_setNet 10 = .ok (.iadd, 1) := dc_of (x := (10, .iadd, 1)) t0_Mo_setNet_ok (i := 6) rfl
theorem d_Mo_setNet_11 : decode c_Mo_setNet 11 = .ok (.iload_n 2, 1) := dc_of (x := (11, .iload_n 2, 1)) t0_Mo_setNet_ok (i := 7) rfl
theorem d_Mo_setNet_12 : decode c_Mo_setNet 12 = .ok (.iadd, 1) := dc_of (x := (12, .iadd, 1)) t0_Mo_setNet_ok (i := 8) rfl
theorem d_Mo_setNet_13 : decode c_Mo_setNet 13 = .ok (.iload_n 3, 1) := dc_of (x := (13, .iload_n 3, 1)) t0_Mo_setNet_ok (i := 9) rfl
theorem d_Mo_setNet_14 : decode c_Mo_setNet 14 = .ok (.iastore, 1) := dc_of (x := (14, .iastore, 1)) t0_Mo_setNet_ok (i := 10) rfl
theorem d_Mo_setNet_15 : decode c_Mo_setNet 15 = .ok (.return_, 1) := dc_of (x := (15, .return_, 1)) t0_Mo_setNet_ok (i := 11) rfl
def t0_Mo_seen : List (Nat × Instr × Nat) := [(0, .aload_n 0, 1), (1, .iload_n 1, 1), (2, .iconst 0, 1), (3, .invokevirtual 32, 3), (6, .istore_n 2, 1), (7, .iload_n 2, 1), (8, .iconst 3, 1), (9, .if_icmp .ne 7, 3), (12, .iconst 2, 1), (13, .goto 4, 3), (16, .iload_n 2, 1), (17, .ireturn, 1)]
theorem t0_Mo_seen_ok : t0_Mo_seen.all (fun x => decide (decode c_Mo_seen x.1 = .ok x.2)) = true := by decide +kernel
theorem d_Mo_seen_0 : decode c_Mo_seen 0 = .ok (.aload_n 0, 1) := dc_of (x := (0, .aload_n 0, 1)) t0_Mo_seen_ok (i := 0) rfl
theorem d_Mo_seen_1 : decode c_Mo_seen 1 = .ok (.iload_n 1, 1) := dc_of (x := (1, .iload_n 1, 1)) t0_Mo_seen_ok (i := 1) rfl
theorem d_Mo_seen_2 : decode c_Mo_seen 2 = .ok (.iconst 0, 1) := dc_of (x := (2, .iconst 0, 1)) t0_Mo_seen_ok (i := 2) rfl
theorem d_Mo_seen_3 : decode c_Mo_seen 3 = .ok (.invokevirtual 32, 3) := dc_of (x := (3, .invokevirtual 32, 3)) t0_Mo_seen_ok (i := 3) rfl
theorem d_Mo_seen_6 : decode c_Mo_seen 6 = .ok (.istore_n 2, 1) := dc_of (x := (6, .istore_n 2, 1)) t0_Mo_seen_ok (i := 4) rfl
theorem d_Mo_seen_7 : decode c_Mo_seen 7 = .ok (.iload_n 2, 1) := dc_of (x := (7, .iload_n 2, 1)) t0_Mo_seen_ok (i := 5) rfl
theorem d_Mo_seen_8 : decode c_Mo_seen 8 = .ok (.iconst 3, 1) := dc_of (x := (8, .iconst 3, 1)) t0_Mo_seen_ok (i := 6) rfl
theorem d_Mo_seen_9 : decode c_Mo_seen 9 = .ok (.if_icmp .ne 7, 3) := dc_of (x := (9, .if_icmp .ne 7, 3)) t0_Mo_seen_ok (i := 7) rfl
theorem d_Mo_seen_12 : decode c_Mo_seen 12 = .ok (.iconst 2, 1) := dc_of (x := (12, .iconst 2, 1)) t0_Mo_seen_ok (i := 8) rfl
theorem d_Mo_seen_13 : decode c_Mo_seen 13 = .ok (.goto 4, 3) := dc_of (x := (13, .goto 4, 3)) t0_Mo_seen_ok (i := 9) rfl
theorem d_Mo_seen_16 : decode c_Mo_seen 16 = .ok (.iload_n 2, 1) := dc_of (x := (16, .iload_n 2, 1)) t0_Mo_seen_ok (i := 10) rfl
theorem d_Mo_seen_17 : decode c_Mo_seen 17 = .ok (.ireturn, 1) := dc_of (x := (17, .ireturn, 1)) t0_Mo_seen_ok (i := 11) rfl
def t0_Mo_gives : List (Nat × Instr × Nat) := [(0, .aload_n 0, 1), (1, .aload_n 0, 1), (2, .iload_n 1, 1), (3, .iconst 1, 1), (4, .invokevirtual 36, 3), (7, .invokevirtual 39, 3), (10, .istore_n 2, 1), (11, .aload_n 0, 1), (12, .aload_n 0, 1), (13, .iload_n 1, 1), (14, .iconst 2, 1), (15, .invokevirtual 36, 3), (18, .invokevirtual 39, 3), (21, .istore_n 3, 1), (22, .aload_n 0, 1), (23, .iload_n 1, 1), (24, .bipush 6, 2), (26, .invokevirtual 36, 3), (29, .istore 4, 2), (31, .aload_n 0, 1), (32, .iload_n 1, 1), (33, .iconst 0, 1), (34, .invokevirtual 36, 3), (37, .tableswitch 178 1 6 #[39, 52, 80, 108, 133, 152], 39), (76, .iload_n 2, 1), (77, .iconst 2, 1), (78, .if_icmp .ne 7, 3), (81, .iconst 2, 1), (82, .goto 6, 3), (85, .iconst 1, 1), (86, .iload_n 2, 1), (87, .isub, 1), (88, .ireturn, 1), (89, .iload_n 2, 1), (90, .ifCond .eq 7, 3), (93, .iload_n 3, 1), (94, .ifCond .ne 7, 3), (97, .iconst 0, 1), (98, .goto 18, 3), (101, .iload_n 2, 1), (102, .iconst 1, 1), (103, .if_icmp .ne 12, 3), (106, .iload_n 3, 1), (107, .iconst 1, 1), (108, .if_icmp .ne 7, 3), (111, .iconst 1, 1), (112, .goto 4, 3), (115, .iconst 2, 1), (116, .ireturn, 1), (117, .iload_n 2, 1), (118, .iconst 1, 1), (119, .if_icmp .eq 8, 3), (122, .iload_n 3, 1), (123, .iconst 1, 1), (124, .if_icmp .ne 7, 3), (127, .iconst 1, 1), (128, .goto 16, 3), (131, .iload_n 2, 1), (132, .ifCond .ne 11, 3), (135, .iload_n 3, 1)]
theorem t0_Mo_gives_ok : t0_Mo_gives.all (fun x => decide (decode c_Mo_gives x.1 = .ok x.2)) = true := by decide +kernel
def t1_Mo_gives : List (Nat × Instr × Nat) := [(136, .ifCond .ne 7, 3), (139, .iconst 0, 1), (140, .goto 4, 3), (143, .iconst 2, 1), (144, .ireturn, 1), (145, .iload_n 2, 1), (146, .iconst 2, 1), (147, .if_icmp .eq 8, 3), (150, .iload_n 3, 1), (151, .iconst 2, 1), (152, .if_icmp .ne 7, 3), (155, .iconst 2, 1), (156, .goto 13, 3), (159, .iload_n 2, 1), (160, .iload_n 3, 1), (161, .if_icmp .ne 7, 3), (164, .iconst 0, 1), (165, .goto 4, 3), (168, .iconst 1, 1), (169, .ireturn, 1), (170, .iload_n 3, 1), (171, .iconst 1, 1), (172, .if_icmp .ne 7, 3), (175, .iload_n 2, 1), (176, .goto 12, 3), (179, .iload_n 3, 1), (180, .ifCond .ne 7, 3), (183, .iconst 3, 1), (184, .goto 4, 3), (187, .iconst 2, 1), (188, .ireturn, 1), (189, .iload_n 3, 1), (190, .iconst 1, 1), (191, .if_icmp .ne 7, 3), (194, .iload_n 2, 1), (195, .goto 19, 3), (198, .iload_n 3, 1), (199, .ifCond .eq 9, 3), (202, .iload 4, 2), (204, .iload_n 2, 1), (205, .if_icmp .ne 8, 3), (208, .iload 4, 2), (210, .goto 4, 3), (213, .iconst 2, 1), (214, .ireturn, 1), (215, .iload_n 2, 1), (216, .ireturn, 1)]
theorem t1_Mo_gives_ok : t1_Mo_gives.all (fun x => decide (decode c_Mo_gives x.1 = .ok x.2)) = true := by decide +kernel
theorem d_Mo_gives_0 : decode c_Mo_gives 0 = .ok (.aload_n 0, 1) := dc_of (x := (0, .aload_n 0, 1)) t0_Mo_gives_ok (i := 0) rfl
theorem d_Mo_gives_1 : decode c_Mo_gives 1 = .ok (.aload_n 0, 1) := dc_of (x := (1, .aload_n 0, 1)) t0_Mo_gives_ok (i := 1) rfl
theorem d_Mo_gives_2 : decode c_Mo_gives 2 = .ok (.iload_n 1, 1) := dc_of (x := (2, .iload_n 1, 1)) t0_Mo_gives_ok (i := 2) rfl
theorem d_Mo_gives_3 : decode c_Mo_gives 3 = .ok (.iconst 1, 1) := dc_of (x := (3, .iconst 1, 1)) t0_Mo_gives_ok (i := 3) rfl
theorem d_Mo_gives_4 : decode c_Mo_gives 4 = .ok (.invokevirtual 36, 3) := dc_of (x := (4, .invokevirtual 36, 3)) t0_Mo_gives_ok (i := 4) rfl
theorem d_Mo_gives_7 : decode c_Mo_gives 7 = .ok (.invokevirtual 39, 3) := dc_of (x := (7, .invokevirtual 39, 3)) t0_Mo_gives_ok (i := 5) rfl
theorem d_Mo_gives_10 : decode c_Mo_gives 10 = .ok (.istore_n 2, 1) := dc_of (x := (10, .istore_n 2, 1)) t0_Mo_gives_ok (i := 6) rfl
theorem d_Mo_gives_11 : decode c_Mo_gives 11 = .ok (.aload_n 0, 1) := dc_of (x := (11, .aload_n 0, 1)) t0_Mo_gives_ok (i := 7) rfl
theorem d_Mo_gives_12 : decode c_Mo_gives 12 = .ok (.aload_n 0, 1) := dc_of (x := (12, .aload_n 0, 1)) t0_Mo_gives_ok (i := 8) rfl
theorem d_Mo_gives_13 : decode c_Mo_gives 13 = .ok (.iload_n 1, 1) := dc_of (x := (13, .iload_n 1, 1)) t0_Mo_gives_ok (i := 9) rfl
theorem d_Mo_gives_14 : decode c_Mo_gives 14 = .ok (.iconst 2, 1) := dc_of (x := (14, .iconst 2, 1)) t0_Mo_gives_ok (i := 10) rfl
theorem d_Mo_gives_15 : decode c_Mo_gives 15 = .ok (.invokevirtual 36, 3) := dc_of (x := (15, .invokevirtual 36, 3)) t0_Mo_gives_ok (i := 11) rfl
theorem d_Mo_gives_18 : decode c_Mo_gives 18 = .ok (.invokevirtual 39, 3) := dc_of (x := (18, .invokevirtual 39, 3)) t0_Mo_gives_ok (i := 12) rfl
theorem d_Mo_gives_21 : decode c_Mo_gives 21 = .ok (.istore_n 3, 1) := dc_of (x := (21, .istore_n 3, 1)) t0_Mo_gives_ok (i := 13) rfl
theorem d_Mo_gives_22 : decode c_Mo_gives 22 = .ok (.aload_n 0, 1) := dc_of (x := (22, .aload_n 0, 1)) t0_Mo_gives_ok (i := 14) rfl
theorem d_Mo_gives_23 : decode c_Mo_gives 23 = .ok (.iload_n 1, 1) := dc_of (x := (23, .iload_n 1, 1)) t0_Mo_gives_ok (i := 15) rfl
theorem d_Mo_gives_24 : decode c_Mo_gives 24 = .ok (.bipush 6, 2) := dc_of (x := (24, .bipush 6, 2)) t0_Mo_gives_ok (i := 16) rfl
theorem d_Mo_gives_26 : decode c_Mo_gives 26 = .ok (.invokevirtual 36, 3) := dc_of (x := (26, .invokevirtual 36, 3)) t0_Mo_gives_ok (i := 17) rfl
theorem d_Mo_gives_29 : decode c_Mo_gives 29 = .ok (.istore 4, 2) := dc_of (x := (29, .istore 4, 2)) t0_Mo_gives_ok (i := 18) rfl
theorem d_Mo_gives_31 : decode c_Mo_gives 31 = .ok (.aload_n 0, 1) := dc_of (x := (31, .aload_n 0, 1)) t0_Mo_gives_ok (i := 19) rfl
theorem d_Mo_gives_32 : decode c_Mo_gives 32 = .ok (.iload_n 1, 1) := dc_of (x := (32, .iload_n 1, 1)) t0_Mo_gives_ok (i := 20) rfl
theorem d_Mo_gives_33 : decode c_Mo_gives 33 = .ok (.iconst 0, 1) := dc_of (x := (33, .iconst 0, 1)) t0_Mo_gives_ok (i := 21) rfl
theorem d_Mo_gives_34 : decode c_Mo_gives 34 = .ok (.invokevirtual 36, 3) := dc_of (x := (34, .invokevirtual 36, 3)) t0_Mo_gives_ok (i := 22) rfl
theorem d_Mo_gives_37 : decode c_Mo_gives 37 = .ok (.tableswitch 178 1 6 #[39, 52, 80, 108, 133, 152], 39) := dc_of (x := (37, .tableswitch 178 1 6 #[39, 52, 80, 108, 133, 152], 39)) t0_Mo_gives_ok (i := 23) rfl
theorem d_Mo_gives_76 : decode c_Mo_gives 76 = .ok (.iload_n 2, 1) := dc_of (x := (76, .iload_n 2, 1)) t0_Mo_gives_ok (i := 24) rfl
theorem d_Mo_gives_77 : decode c_Mo_gives 77 = .ok (.iconst 2, 1) := dc_of (x := (77, .iconst 2, 1)) t0_Mo_gives_ok (i := 25) rfl
theorem d_Mo_gives_78 : decode c_Mo_gives 78 = .ok (.if_icmp .ne 7, 3) := dc_of (x := (78, .if_icmp .ne 7, 3)) t0_Mo_gives_ok (i := 26) rfl
theorem d_Mo_gives_81 : decode c_Mo_gives 81 = .ok (.iconst 2, 1) := dc_of (x := (81, .iconst 2, 1)) t0_Mo_gives_ok (i := 27) rfl
theorem d_Mo_gives_82 : decode c_Mo_gives 82 = .ok (.goto 6, 3) := dc_of (x := (82, .goto 6, 3)) t0_Mo_gives_ok (i := 28) rfl
theorem d_Mo_gives_85 : decode c_Mo_gives 85 = .ok (.iconst 1, 1) := dc_of (x := (85, .iconst 1, 1)) t0_Mo_gives_ok (i := 29) rfl
theorem d_Mo_gives_86 : decode c_Mo_gives 86 = .ok (.iload_n 2, 1) := dc_of (x := (86, .iload_n 2, 1)) t0_Mo_gives_ok (i := 30) rfl
theorem d_Mo_gives_87 : decode c_Mo_gives 87 = .ok (.isub, 1) := dc_of (x := (87, .isub, 1)) t0_Mo_gives_ok (i := 31) rfl
theorem d_Mo_gives_88 : decode c_Mo_gives 88 = .ok (.ireturn, 1) := dc_of (x := (88, .ireturn, 1)) t0_Mo_gives_ok (i := 32) rfl
theorem d_Mo_gives_89 : decode c_Mo_gives 89 = .ok (.iload_n 2, 1) := dc_of (x := (89, .iload_n 2, 1)) t0_Mo_gives_ok (i := 33) rfl
theorem d_Mo_gives_90 : decode c_Mo_gives 90 = .ok (.ifCond .eq 7, 3) := dc_of (x := (90, .ifCond .eq 7, 3)) t0_Mo_gives_ok (i := 34) rfl
theorem d_Mo_gives_93 : decode c_Mo_gives 93 = .ok (.iload_n 3, 1) := dc_of (x := (93, .iload_n 3, 1)) t0_Mo_gives_ok (i := 35) rfl
theorem d_Mo_gives_94 : decode c_Mo_gives 94 = .ok (.ifCond .ne 7, 3) := dc_of (x := (94, .ifCond .ne 7, 3)) t0_Mo_gives_ok (i := 36) rfl
theorem d_Mo_gives_97 : decode c_Mo_gives 97 = .ok (.iconst 0, 1) := dc_of (x := (97, .iconst 0, 1)) t0_Mo_gives_ok (i := 37) rfl
theorem d_Mo_gives_98 : decode c_Mo_gives 98 = .ok (.goto 18, 3) := dc_of (x := (98, .goto 18, 3)) t0_Mo_gives_ok (i := 38) rfl
theorem d_Mo_gives_101 : decode c_Mo_gives 101 = .ok (.iload_n 2, 1) := dc_of (x := (101, .iload_n 2, 1)) t0_Mo_gives_ok (i := 39) rfl
theorem d_Mo_gives_102 : decode c_Mo_gives 102 = .ok (.iconst 1, 1) := dc_of (x := (102, .iconst 1, 1)) t0_Mo_gives_ok (i := 40) rfl
theorem d_Mo_gives_103 : decode c_Mo_gives 103 = .ok (.if_icmp .ne 12, 3) := dc_of (x := (103, .if_icmp .ne 12, 3)) t0_Mo_gives_ok (i := 41) rfl
theorem d_Mo_gives_106 : decode c_Mo_gives 106 = .ok (.iload_n 3, 1) := dc_of (x := (106, .iload_n 3, 1)) t0_Mo_gives_ok (i := 42) rfl
theorem d_Mo_gives_107 : decode c_Mo_gives 107 = .ok (.iconst 1, 1) := dc_of (x := (107, .iconst 1, 1)) t0_Mo_gives_ok (i := 43) rfl
theorem d_Mo_gives_108 : decode c_Mo_gives 108 = .ok (.if_icmp .ne 7, 3) := dc_of (x := (108, .if_icmp .ne 7, 3)) t0_Mo_gives_ok (i := 44) rfl
theorem d_Mo_gives_111 : decode c_Mo_gives 111 = .ok (.iconst 1, 1) := dc_of (x := (111, .iconst 1, 1)) t0_Mo_gives_ok (i := 45) rfl
theorem d_Mo_gives_112 : decode c_Mo_gives 112 = .ok (.goto 4, 3) := dc_of (x := (112, .goto 4, 3)) t0_Mo_gives_ok (i := 46) rfl
theorem d_Mo_gives_115 : decode c_Mo_gives 115 = .ok (.iconst 2, 1) := dc_of (x := (115, .iconst 2, 1)) t0_Mo_gives_ok (i := 47) rfl
theorem d_Mo_gives_116 : decode c_Mo_gives 116 = .ok (.ireturn, 1) := dc_of (x := (116, .ireturn, 1)) t0_Mo_gives_ok (i := 48) rfl
theorem d_Mo_gives_117 : decode c_Mo_gives 117 = .ok (.iload_n 2, 1) := dc_of (x := (117, .iload_n 2, 1)) t0_Mo_gives_ok (i := 49) rfl
theorem d_Mo_gives_118 : decode c_Mo_gives 118 = .ok (.iconst 1, 1) := dc_of (x := (118, .iconst 1, 1)) t0_Mo_gives_ok (i := 50) rfl
theorem d_Mo_gives_119 : decode c_Mo_gives 119 = .ok (.if_icmp .eq 8, 3) := dc_of (x := (119, .if_icmp .eq 8, 3)) t0_Mo_gives_ok (i := 51) rfl
theorem d_Mo_gives_122 : decode c_Mo_gives 122 = .ok (.iload_n 3, 1) := dc_of (x := (122, .iload_n 3, 1)) t0_Mo_gives_ok (i := 52) rfl
theorem d_Mo_gives_123 : decode c_Mo_gives 123 = .ok (.iconst 1, 1) := dc_of (x := (123, .iconst 1, 1)) t0_Mo_gives_ok (i := 53) rfl
theorem d_Mo_gives_124 : decode c_Mo_gives 124 = .ok (.if_icmp .ne 7, 3) := dc_of (x := (124, .if_icmp .ne 7, 3)) t0_Mo_gives_ok (i := 54) rfl
theorem d_Mo_gives_127 : decode c_Mo_gives 127 = .ok (.iconst 1, 1) := dc_of (x := (127, .iconst 1, 1)) t0_Mo_gives_ok (i := 55) rfl
theorem d_Mo_gives_128 : decode c_Mo_gives 128 = .ok (.goto 16, 3) := dc_of (x := (128, .goto 16, 3)) t0_Mo_gives_ok (i := 56) rfl
theorem d_Mo_gives_131 : decode c_Mo_gives 131 = .ok (.iload_n 2, 1) := dc_of (x := (131, .iload_n 2, 1)) t0_Mo_gives_ok (i := 57) rfl
theorem d_Mo_gives_132 : decode c_Mo_gives 132 = .ok (.ifCond .ne 11, 3) := dc_of (x := (132, .ifCond .ne 11, 3)) t0_Mo_gives_ok (i := 58) rfl
theorem d_Mo_gives_135 : decode c_Mo_gives 135 = .ok (.iload_n 3, 1) := dc_of (x := (135, .iload_n 3, 1)) t0_Mo_gives_ok (i := 59) rfl
theorem d_Mo_gives_136 : decode c_Mo_gives 136 = .ok (.ifCond .ne 7, 3) := dc_of (x := (136, .ifCond .ne 7, 3)) t1_Mo_gives_ok (i := 0) rfl
theorem d_Mo_gives_139 : decode c_Mo_gives 139 = .ok (.iconst 0, 1) := dc_of (x := (139, .iconst 0, 1)) t1_Mo_gives_ok (i := 1) rfl
theorem d_Mo_gives_140 : decode c_Mo_gives 140 = .ok (.goto 4, 3) := dc_of (x := (140, .goto 4, 3)) t1_Mo_gives_ok (i := 2) rfl
theorem d_Mo_gives_143 : decode c_Mo_gives 143 = .ok (.iconst 2, 1) := dc_of (x := (143, .iconst 2, 1)) t1_Mo_gives_ok (i := 3) rfl
theorem d_Mo_gives_144 : decode c_Mo_gives 144 = .ok (.ireturn, 1) := dc_of (x := (144, .ireturn, 1)) t1_Mo_gives_ok (i := 4) rfl
theorem d_Mo_gives_145 : decode c_Mo_gives 145 = .ok (.iload_n 2, 1) := dc_of (x := (145, .iload_n 2, 1)) t1_Mo_gives_ok (i := 5) rfl
theorem d_Mo_gives_146 : decode c_Mo_gives 146 = .ok (.iconst 2, 1) := dc_of (x := (146, .iconst 2, 1)) t1_Mo_gives_ok (i := 6) rfl
theorem d_Mo_gives_147 : decode c_Mo_gives 147 = .ok (.if_icmp .eq 8, 3) := dc_of (x := (147, .if_icmp .eq 8, 3)) t1_Mo_gives_ok (i := 7) rfl
theorem d_Mo_gives_150 : decode c_Mo_gives 150 = .ok (.iload_n 3, 1) := dc_of (x := (150, .iload_n 3, 1)) t1_Mo_gives_ok (i := 8) rfl
theorem d_Mo_gives_151 : decode c_Mo_gives 151 = .ok (.iconst 2, 1) := dc_of (x := (151, .iconst 2, 1)) t1_Mo_gives_ok (i := 9) rfl
theorem d_Mo_gives_152 : decode c_Mo_gives 152 = .ok (.if_icmp .ne 7, 3) := dc_of (x := (152, .if_icmp .ne 7, 3)) t1_Mo_gives_ok (i := 10) rfl
theorem d_Mo_gives_155 : decode c_Mo_gives 155 = .ok (.iconst 2, 1) := dc_of (x := (155, .iconst 2, 1)) t1_Mo_gives_ok (i := 11) rfl
theorem d_Mo_gives_156 : decode c_Mo_gives 156 = .ok (.goto 13, 3) := dc_of (x := (156, .goto 13, 3)) t1_Mo_gives_ok (i := 12) rfl
theorem d_Mo_gives_159 : decode c_Mo_gives 159 = .ok (.iload_n 2, 1) := dc_of (x := (159, .iload_n 2, 1)) t1_Mo_gives_ok (i := 13) rfl
theorem d_Mo_gives_160 : decode c_Mo_gives 160 = .ok (.iload_n 3, 1) := dc_of (x := (160, .iload_n 3, 1)) t1_Mo_gives_ok (i := 14) rfl
theorem d_Mo_gives_161 : decode c_Mo_gives 161 = .ok (.if_icmp .ne 7, 3) := dc_of (x := (161, .if_icmp .ne 7, 3)) t1_Mo_gives_ok (i := 15) rfl
theorem d_Mo_gives_164 : decode c_Mo_gives 164 = .ok (.iconst 0, 1) := dc_of (x := (164, .iconst 0, 1)) t1_Mo_gives_ok (i := 16) rfl
theorem d_Mo_gives_165 : decode c_Mo_gives 165 = .ok (.goto 4, 3) := dc_of (x := (165, .goto 4, 3)) t1_Mo_gives_ok (i := 17) rfl
theorem d_Mo_gives_168 : decode c_Mo_gives 168 = .ok (.iconst 1, 1) := dc_of (x := (168, .iconst 1, 1)) t1_Mo_gives_ok (i := 18) rfl
theorem d_Mo_gives_169 : decode c_Mo_gives 169 = .ok (.ireturn, 1) := dc_of (x := (169, .ireturn, 1)) t1_Mo_gives_ok (i := 19) rfl
theorem d_Mo_gives_170 : decode c_Mo_gives 170 = .ok (.iload_n 3, 1) := dc_of (x := (170, .iload_n 3, 1)) t1_Mo_gives_ok (i := 20) rfl
theorem d_Mo_gives_171 : decode c_Mo_gives 171 = .ok (.iconst 1, 1) := dc_of (x := (171, .iconst 1, 1)) t1_Mo_gives_ok (i := 21) rfl
theorem d_Mo_gives_172 : decode c_Mo_gives 172 = .ok (.if_icmp .ne 7, 3) := dc_of (x := (172, .if_icmp .ne 7, 3)) t1_Mo_gives_ok (i := 22) rfl
theorem d_Mo_gives_175 : decode c_Mo_gives 175 = .ok (.iload_n 2, 1) := dc_of (x := (175, .iload_n 2, 1)) t1_Mo_gives_ok (i := 23) rfl
theorem d_Mo_gives_176 : decode c_Mo_gives 176 = .ok (.goto 12, 3) := dc_of (x := (176, .goto 12, 3)) t1_Mo_gives_ok (i := 24) rfl
theorem d_Mo_gives_179 : decode c_Mo_gives 179 = .ok (.iload_n 3, 1) := dc_of (x := (179, .iload_n 3, 1)) t1_Mo_gives_ok (i := 25) rfl
theorem d_Mo_gives_180 : decode c_Mo_gives 180 = .ok (.ifCond .ne 7, 3) := dc_of (x := (180, .ifCond .ne 7, 3)) t1_Mo_gives_ok (i := 26) rfl
theorem d_Mo_gives_183 : decode c_Mo_gives 183 = .ok (.iconst 3, 1) := dc_of (x := (183, .iconst 3, 1)) t1_Mo_gives_ok (i := 27) rfl
theorem d_Mo_gives_184 : decode c_Mo_gives 184 = .ok (.goto 4, 3) := dc_of (x := (184, .goto 4, 3)) t1_Mo_gives_ok (i := 28) rfl
theorem d_Mo_gives_187 : decode c_Mo_gives 187 = .ok (.iconst 2, 1) := dc_of (x := (187, .iconst 2, 1)) t1_Mo_gives_ok (i := 29) rfl
theorem d_Mo_gives_188 : decode c_Mo_gives 188 = .ok (.ireturn, 1) := dc_of (x := (188, .ireturn, 1)) t1_Mo_gives_ok (i := 30) rfl
theorem d_Mo_gives_189 : decode c_Mo_gives 189 = .ok (.iload_n 3, 1) := dc_of (x := (189, .iload_n 3, 1)) t1_Mo_gives_ok (i := 31) rfl
theorem d_Mo_gives_190 : decode c_Mo_gives 190 = .ok (.iconst 1, 1) := dc_of (x := (190, .iconst 1, 1)) t1_Mo_gives_ok (i := 32) rfl
theorem d_Mo_gives_191 : decode c_Mo_gives 191 = .ok (.if_icmp .ne 7, 3) := dc_of (x := (191, .if_icmp .ne 7, 3)) t1_Mo_gives_ok (i := 33) rfl
theorem d_Mo_gives_194 : decode c_Mo_gives 194 = .ok (.iload_n 2, 1) := dc_of (x := (194, .iload_n 2, 1)) t1_Mo_gives_ok (i := 34) rfl
theorem d_Mo_gives_195 : decode c_Mo_gives 195 = .ok (.goto 19, 3) := dc_of (x := (195, .goto 19, 3)) t1_Mo_gives_ok (i := 35) rfl
theorem d_Mo_gives_198 : decode c_Mo_gives 198 = .ok (.iload_n 3, 1) := dc_of (x := (198, .iload_n 3, 1)) t1_Mo_gives_ok (i := 36) rfl
theorem d_Mo_gives_199 : decode c_Mo_gives 199 = .ok (.ifCond .eq 9, 3) := dc_of (x := (199, .ifCond .eq 9, 3)) t1_Mo_gives_ok (i := 37) rfl
theorem d_Mo_gives_202 : decode c_Mo_gives 202 = .ok (.iload 4, 2) := dc_of (x := (202, .iload 4, 2)) t1_Mo_gives_ok (i := 38) rfl
theorem d_Mo_gives_204 : decode c_Mo_gives 204 = .ok (.iload_n 2, 1) := dc_of (x := (204, .iload_n 2, 1)) t1_Mo_gives_ok (i := 39) rfl
theorem d_Mo_gives_205 : decode c_Mo_gives 205 = .ok (.if_icmp .ne 8, 3) := dc_of (x := (205, .if_icmp .ne 8, 3)) t1_Mo_gives_ok (i := 40) rfl
theorem d_Mo_gives_208 : decode c_Mo_gives 208 = .ok (.iload 4, 2) := dc_of (x := (208, .iload 4, 2)) t1_Mo_gives_ok (i := 41) rfl
theorem d_Mo_gives_210 : decode c_Mo_gives 210 = .ok (.goto 4, 3) := dc_of (x := (210, .goto 4, 3)) t1_Mo_gives_ok (i := 42) rfl
theorem d_Mo_gives_213 : decode c_Mo_gives 213 = .ok (.iconst 2, 1) := dc_of (x := (213, .iconst 2, 1)) t1_Mo_gives_ok (i := 43) rfl
theorem d_Mo_gives_214 : decode c_Mo_gives 214 = .ok (.ireturn, 1) := dc_of (x := (214, .ireturn, 1)) t1_Mo_gives_ok (i := 44) rfl
theorem d_Mo_gives_215 : decode c_Mo_gives 215 = .ok (.iload_n 2, 1) := dc_of (x := (215, .iload_n 2, 1)) t1_Mo_gives_ok (i := 45) rfl
theorem d_Mo_gives_216 : decode c_Mo_gives 216 = .ok (.ireturn, 1) := dc_of (x := (216, .ireturn, 1)) t1_Mo_gives_ok (i := 46) rfl
def t0_Mo_delayTo : List (Nat × Instr × Nat) := [(0, .aload_n 0, 1), (1, .iload_n 1, 1), (2, .iconst 4, 1), (3, .invokevirtual 36, 3), (6, .istore_n 3, 1), (7, .aload_n 0, 1), (8, .iload_n 1, 1), (9, .iconst 5, 1), (10, .invokevirtual 36, 3), (13, .istore 4, 2), (15, .iload_n 3, 1), (16, .iload 4, 2), (18, .if_icmp .ge 7, 3), (21, .iload_n 3, 1), (22, .goto 5, 3), (25, .iload 4, 2), (27, .istore 5, 2), (29, .iload_n 2, 1), (30, .iconst 1, 1), (31, .if_icmp .ne 7, 3), (34, .iload_n 3, 1), (35, .goto 29, 3), (38, .iload_n 2, 1), (39, .ifCond .ne 8, 3), (42, .iload 4, 2), (44, .goto 20, 3), (47, .iload_n 2, 1), (48, .iconst 2, 1), (49, .if_icmp .ne 8, 3), (52, .iload 5, 2), (54, .goto 10, 3), (57, .iload_n 3, 1), (58, .iload 4, 2), (60, .iadd, 1), (61, .iload 5, 2), (63, .isub, 1), (64, .ireturn, 1)]
theorem t0_Mo_delayTo_ok : t0_Mo_delayTo.all (fun x => decide (decode c_Mo_delayTo x.1 = .ok x.2)) = true := by decide +kernel
theorem d_Mo_delayTo_0 : decode c_Mo_delayTo 0 = .ok (.aload_n 0, 1) := dc_of (x := (0, .aload_n 0, 1)) t0_Mo_delayTo_ok (i := 0) rfl
theorem d_Mo_delayTo_1 : decode c_Mo_delayTo 1 = .ok (.iload_n 1, 1) := dc_of (x := (1, .iload_n 1, 1)) t0_Mo_delayTo_ok (i := 1) rfl
theorem d_Mo_delayTo_2 : decode c_Mo_delayTo 2 = .ok (.iconst 4, 1) := dc_of (x := (2, .iconst 4, 1)) t0_Mo_delayTo_ok (i := 2) rfl
theorem d_Mo_delayTo_3 : decode c_Mo_delayTo 3 = .ok (.invokevirtual 36, 3) := dc_of (x := (3, .invokevirtual 36, 3)) t0_Mo_delayTo_ok (i := 3) rfl
theorem d_Mo_delayTo_6 : decode c_Mo_delayTo 6 = .ok (.istore_n 3, 1) := dc_of (x := (6, .istore_n 3, 1)) t0_Mo_delayTo_ok (i := 4) rfl
theorem d_Mo_delayTo_7 : decode c_Mo_delayTo 7 = .ok (.aload_n 0, 1) := dc_of (x := (7, .aload_n 0, 1)) t0_Mo_delayTo_ok (i := 5) rfl
theorem d_Mo_delayTo_8 : decode c_Mo_delayTo 8 = .ok (.iload_n 1, 1) := dc_of (x := (8, .iload_n 1, 1)) t0_Mo_delayTo_ok (i := 6) rfl
theorem d_Mo_delayTo_9 : decode c_Mo_delayTo 9 = .ok (.iconst 5, 1) := dc_of (x := (9, .iconst 5, 1)) t0_Mo_delayTo_ok (i := 7) rfl
theorem d_Mo_delayTo_10 : decode c_Mo_delayTo 10 = .ok (.invokevirtual 36, 3) := dc_of (x := (10, .invokevirtual 36, 3)) t0_Mo_delayTo_ok (i := 8) rfl
theorem d_Mo_delayTo_13 : decode c_Mo_delayTo 13 = .ok (.istore 4, 2) := dc_of (x := (13, .istore 4, 2)) t0_Mo_delayTo_ok (i := 9) rfl
theorem d_Mo_delayTo_15 : decode c_Mo_delayTo 15 = .ok (.iload_n 3, 1) := dc_of (x := (15, .iload_n 3, 1)) t0_Mo_delayTo_ok (i := 10) rfl
theorem d_Mo_delayTo_16 : decode c_Mo_delayTo 16 = .ok (.iload 4, 2) := dc_of (x := (16, .iload 4, 2)) t0_Mo_delayTo_ok (i := 11) rfl
theorem d_Mo_delayTo_18 : decode c_Mo_delayTo 18 = .ok (.if_icmp .ge 7, 3) := dc_of (x := (18, .if_icmp .ge 7, 3)) t0_Mo_delayTo_ok (i := 12) rfl
theorem d_Mo_delayTo_21 : decode c_Mo_delayTo 21 = .ok (.iload_n 3, 1) := dc_of (x := (21, .iload_n 3, 1)) t0_Mo_delayTo_ok (i := 13) rfl
theorem d_Mo_delayTo_22 : decode c_Mo_delayTo 22 = .ok (.goto 5, 3) := dc_of (x := (22, .goto 5, 3)) t0_Mo_delayTo_ok (i := 14) rfl
theorem d_Mo_delayTo_25 : decode c_Mo_delayTo 25 = .ok (.iload 4, 2) := dc_of (x := (25, .iload 4, 2)) t0_Mo_delayTo_ok (i := 15) rfl
theorem d_Mo_delayTo_27 : decode c_Mo_delayTo 27 = .ok (.istore 5, 2) := dc_of (x := (27, .istore 5, 2)) t0_Mo_delayTo_ok (i := 16) rfl
theorem d_Mo_delayTo_29 : decode c_Mo_delayTo 29 = .ok (.iload_n 2, 1) := dc_of (x := (29, .iload_n 2, 1)) t0_Mo_delayTo_ok (i := 17) rfl
theorem d_Mo_delayTo_30 : decode c_Mo_delayTo 30 = .ok (.iconst 1, 1) := dc_of (x := (30, .iconst 1, 1)) t0_Mo_delayTo_ok (i := 18) rfl
theorem d_Mo_delayTo_31 : decode c_Mo_delayTo 31 = .ok (.if_icmp .ne 7, 3) := dc_of (x := (31, .if_icmp .ne 7, 3)) t0_Mo_delayTo_ok (i := 19) rfl
theorem d_Mo_delayTo_34 : decode c_Mo_delayTo 34 = .ok (.iload_n 3, 1) := dc_of (x := (34, .iload_n 3, 1)) t0_Mo_delayTo_ok (i := 20) rfl
theorem d_Mo_delayTo_35 : decode c_Mo_delayTo 35 = .ok (.goto 29, 3) := dc_of (x := (35, .goto 29, 3)) t0_Mo_delayTo_ok (i := 21) rfl
theorem d_Mo_delayTo_38 : decode c_Mo_delayTo 38 = .ok (.iload_n 2, 1) := dc_of (x := (38, .iload_n 2, 1)) t0_Mo_delayTo_ok (i := 22) rfl
theorem d_Mo_delayTo_39 : decode c_Mo_delayTo 39 = .ok (.ifCond .ne 8, 3) := dc_of (x := (39, .ifCond .ne 8, 3)) t0_Mo_delayTo_ok (i := 23) rfl
theorem d_Mo_delayTo_42 : decode c_Mo_delayTo 42 = .ok (.iload 4, 2) := dc_of (x := (42, .iload 4, 2)) t0_Mo_delayTo_ok (i := 24) rfl
theorem d_Mo_delayTo_44 : decode c_Mo_delayTo 44 = .ok (.goto 20, 3) := dc_of (x := (44, .goto 20, 3)) t0_Mo_delayTo_ok (i := 25) rfl
theorem d_Mo_delayTo_47 : decode c_Mo_delayTo 47 = .ok (.iload_n 2, 1) := dc_of (x := (47, .iload_n 2, 1)) t0_Mo_delayTo_ok (i := 26) rfl
theorem d_Mo_delayTo_48 : decode c_Mo_delayTo 48 = .ok (.iconst 2, 1) := dc_of (x := (48, .iconst 2, 1)) t0_Mo_delayTo_ok (i := 27) rfl
theorem d_Mo_delayTo_49 : decode c_Mo_delayTo 49 = .ok (.if_icmp .ne 8, 3) := dc_of (x := (49, .if_icmp .ne 8, 3)) t0_Mo_delayTo_ok (i := 28) rfl
theorem d_Mo_delayTo_52 : decode c_Mo_delayTo 52 = .ok (.iload 5, 2) := dc_of (x := (52, .iload 5, 2)) t0_Mo_delayTo_ok (i := 29) rfl
theorem d_Mo_delayTo_54 : decode c_Mo_delayTo 54 = .ok (.goto 10, 3) := dc_of (x := (54, .goto 10, 3)) t0_Mo_delayTo_ok (i := 30) rfl
theorem d_Mo_delayTo_57 : decode c_Mo_delayTo 57 = .ok (.iload_n 3, 1) := dc_of (x := (57, .iload_n 3, 1)) t0_Mo_delayTo_ok (i := 31) rfl
theorem d_Mo_delayTo_58 : decode c_Mo_delayTo 58 = .ok (.iload 4, 2) := dc_of (x := (58, .iload 4, 2)) t0_Mo_delayTo_ok (i := 32) rfl
theorem d_Mo_delayTo_60 : decode c_Mo_delayTo 60 = .ok (.iadd, 1) := dc_of (x := (60, .iadd, 1)) t0_Mo_delayTo_ok (i := 33) rfl
theorem d_Mo_delayTo_61 : decode c_Mo_delayTo 61 = .ok (.iload 5, 2) := dc_of (x := (61, .iload 5, 2)) t0_Mo_delayTo_ok (i := 34) rfl
theorem d_Mo_delayTo_63 : decode c_Mo_delayTo 63 = .ok (.isub, 1) := dc_of (x := (63, .isub, 1)) t0_Mo_delayTo_ok (i := 35) rfl
theorem d_Mo_delayTo_64 : decode c_Mo_delayTo 64 = .ok (.ireturn, 1) := dc_of (x := (64, .ireturn, 1)) t0_Mo_delayTo_ok (i := 36) rfl
def t0_Mo_ask : List (Nat × Instr × Nat) := [(0, .aload_n 0, 1), (1, .getfield 7, 3), (4, .iconst 0, 1), (5, .iaload, 1), (6, .aload_n 0, 1), (7, .iload_n 1, 1), (8, .iload_n 2, 1), (9, .invokevirtual 43, 3), (12, .iadd, 1), (13, .istore_n 3, 1), (14, .aload_n 0, 1), (15, .iload_n 1, 1), (16, .bipush 7, 2), (18, .invokevirtual 36, 3), (21, .istore 4, 2), (23, .iload 4, 2), (25, .iconst (-1), 1), (26, .if_icmp .eq 18, 3), (29, .iload 4, 2), (31, .iload_n 2, 1), (32, .if_icmp .eq 66, 3), (35, .aload_n 0, 1), (36, .getfield 7, 3), (39, .iconst 1, 1), (40, .iaload, 1), (41, .ifCond .ne 57, 3), (44, .iload_n 2, 1), (45, .aload_n 0, 1), (46, .iload_n 1, 1), (47, .bipush 6, 2), (49, .invokevirtual 36, 3), (52, .if_icmp .eq 7, 3), (55, .iconst 1, 1), (56, .goto 4, 3), (59, .iconst 0, 1), (60, .istore 5, 2), (62, .aload_n 0, 1), (63, .iload_n 1, 1), (64, .bipush 7, 2), (66, .iload 5, 2), (68, .ifCond .eq 7, 3), (71, .iload_n 2, 1), (72, .goto 4, 3), (75, .iconst (-1), 1), (76, .invokevirtual 46, 3), (79, .aload_n 0, 1), (80, .iload_n 1, 1), (81, .bipush 8, 2), (83, .iload_n 3, 1), (84, .invokevirtual 46, 3), (87, .aload_n 0, 1), (88, .iload_n 1, 1), (89, .bipush 9, 2), (91, .iconst (-1), 1), (92, .invokevirtual 46, 3), (95, .goto 64, 3), (98, .iload 4, 2), (100, .iload_n 2, 1), (101, .if_icmp .eq 50, 3), (104, .aload_n 0, 1)]
theorem t0_Mo_ask_ok : t0_Mo_ask.all (fun x => decide (decode c_Mo_ask x.1 = .ok x.2)) = true := by decide +kernel
def t1_Mo_ask : List (Nat × Instr × Nat) := [(105, .iload_n 1, 1), (106, .bipush 8, 2), (108, .invokevirtual 36, 3), (111, .istore 5, 2), (113, .aload_n 0, 1), (114, .iload_n 1, 1), (115, .bipush 7, 2), (117, .iconst 2, 1), (118, .invokevirtual 46, 3), (121, .aload_n 0, 1), (122, .iload_n 1, 1), (123, .bipush 9, 2), (125, .iload_n 2, 1), (126, .invokevirtual 46, 3), (129, .aload_n 0, 1), (130, .iload_n 1, 1), (131, .bipush 10, 2), (133, .iload_n 3, 1), (134, .iload 5, 2), (136, .if_icmp .le 7, 3), (139, .iload_n 3, 1), (140, .goto 5, 3), (143, .iload 5, 2), (145, .invokevirtual 46, 3), (148, .goto 11, 3), (151, .aload_n 0, 1), (152, .iload_n 1, 1), (153, .bipush 9, 2), (155, .iconst (-1), 1), (156, .invokevirtual 46, 3), (159, .return_, 1)]
theorem t1_Mo_ask_ok : t1_Mo_ask.all (fun x => decide (decode c_Mo_ask x.1 = .ok x.2)) = true := by decide +kernel
theorem d_Mo_ask_0 : decode c_Mo_ask 0 = .ok (.aload_n 0, 1) := dc_of (x := (0, .aload_n 0, 1)) t0_Mo_ask_ok (i := 0) rfl
theorem d_Mo_ask_1 : decode c_Mo_ask 1 = .ok (.getfield 7, 3) := dc_of (x := (1, .getfield 7, 3)) t0_Mo_ask_ok (i := 1) rfl
theorem d_Mo_ask_4 : decode c_Mo_ask 4 = .ok (.iconst 0, 1) := dc_of (x := (4, .iconst 0, 1)) t0_Mo_ask_ok (i := 2) rfl
theorem d_Mo_ask_5 : decode c_Mo_ask 5 = .ok (.iaload, 1) := dc_of (x := (5, .iaload, 1)) t0_Mo_ask_ok (i := 3) rfl
theorem d_Mo_ask_6 : decode c_Mo_ask 6 = .ok (.aload_n 0, 1) := dc_of (x := (6, .aload_n 0, 1)) t0_Mo_ask_ok (i := 4) rfl
theorem d_Mo_ask_7 : decode c_Mo_ask 7 = .ok (.iload_n 1, 1) := dc_of (x := (7, .iload_n 1, 1)) t0_Mo_ask_ok (i := 5) rfl
theorem d_Mo_ask_8 : decode c_Mo_ask 8 = .ok (.iload_n 2, 1) := dc_of (x := (8, .iload_n 2, 1)) t0_Mo_ask_ok (i := 6) rfl
theorem d_Mo_ask_9 : decode c_Mo_ask 9 = .ok (.invokevirtual 43, 3) := dc_of (x := (9, .invokevirtual 43, 3)) t0_Mo_ask_ok (i := 7) rfl
theorem d_Mo_ask_12 : decode c_Mo_ask 12 = .ok (.iadd, 1) := dc_of (x := (12, .iadd, 1)) t0_Mo_ask_ok (i := 8) rfl
theorem d_Mo_ask_13 : decode c_Mo_ask 13 = .ok (.istore_n 3, 1) := dc_of (x := (13, .istore_n 3, 1)) t0_Mo_ask_ok (i := 9) rfl
theorem d_Mo_ask_14 : decode c_Mo_ask 14 = .ok (.aload_n 0, 1) := dc_of (x := (14, .aload_n 0, 1)) t0_Mo_ask_ok (i := 10) rfl
theorem d_Mo_ask_15 : decode c_Mo_ask 15 = .ok (.iload_n 1, 1) := dc_of (x := (15, .iload_n 1, 1)) t0_Mo_ask_ok (i := 11) rfl
theorem d_Mo_ask_16 : decode c_Mo_ask 16 = .ok (.bipush 7, 2) := dc_of (x := (16, .bipush 7, 2)) t0_Mo_ask_ok (i := 12) rfl
theorem d_Mo_ask_18 : decode c_Mo_ask 18 = .ok (.invokevirtual 36, 3) := dc_of (x := (18, .invokevirtual 36, 3)) t0_Mo_ask_ok (i := 13) rfl
theorem d_Mo_ask_21 : decode c_Mo_ask 21 = .ok (.istore 4, 2) := dc_of (x := (21, .istore 4, 2)) t0_Mo_ask_ok (i := 14) rfl
theorem d_Mo_ask_23 : decode c_Mo_ask 23 = .ok (.iload 4, 2) := dc_of (x := (23, .iload 4, 2)) t0_Mo_ask_ok (i := 15) rfl
theorem d_Mo_ask_25 : decode c_Mo_ask 25 = .ok (.iconst (-1), 1) := dc_of (x := (25, .iconst (-1), 1)) t0_Mo_ask_ok (i := 16) rfl
theorem d_Mo_ask_26 : decode c_Mo_ask 26 = .ok (.if_icmp .eq 18, 3) := dc_of (x := (26, .if_icmp .eq 18, 3)) t0_Mo_ask_ok (i := 17) rfl
theorem d_Mo_ask_29 : decode c_Mo_ask 29 = .ok (.iload 4, 2) := dc_of (x := (29, .iload 4, 2)) t0_Mo_ask_ok (i := 18) rfl
theorem d_Mo_ask_31 : decode c_Mo_ask 31 = .ok (.iload_n 2, 1) := dc_of (x := (31, .iload_n 2, 1)) t0_Mo_ask_ok (i := 19) rfl
theorem d_Mo_ask_32 : decode c_Mo_ask 32 = .ok (.if_icmp .eq 66, 3) := dc_of (x := (32, .if_icmp .eq 66, 3)) t0_Mo_ask_ok (i := 20) rfl
theorem d_Mo_ask_35 : decode c_Mo_ask 35 = .ok (.aload_n 0, 1) := dc_of (x := (35, .aload_n 0, 1)) t0_Mo_ask_ok (i := 21) rfl
theorem d_Mo_ask_36 : decode c_Mo_ask 36 = .ok (.getfield 7, 3) := dc_of (x := (36, .getfield 7, 3)) t0_Mo_ask_ok (i := 22) rfl
theorem d_Mo_ask_39 : decode c_Mo_ask 39 = .ok (.iconst 1, 1) := dc_of (x := (39, .iconst 1, 1)) t0_Mo_ask_ok (i := 23) rfl
theorem d_Mo_ask_40 : decode c_Mo_ask 40 = .ok (.iaload, 1) := dc_of (x := (40, .iaload, 1)) t0_Mo_ask_ok (i := 24) rfl
theorem d_Mo_ask_41 : decode c_Mo_ask 41 = .ok (.ifCond .ne 57, 3) := dc_of (x := (41, .ifCond .ne 57, 3)) t0_Mo_ask_ok (i := 25) rfl
theorem d_Mo_ask_44 : decode c_Mo_ask 44 = .ok (.iload_n 2, 1) := dc_of (x := (44, .iload_n 2, 1)) t0_Mo_ask_ok (i := 26) rfl
theorem d_Mo_ask_45 : decode c_Mo_ask 45 = .ok (.aload_n 0, 1) := dc_of (x := (45, .aload_n 0, 1)) t0_Mo_ask_ok (i := 27) rfl
theorem d_Mo_ask_46 : decode c_Mo_ask 46 = .ok (.iload_n 1, 1) := dc_of (x := (46, .iload_n 1, 1)) t0_Mo_ask_ok (i := 28) rfl
theorem d_Mo_ask_47 : decode c_Mo_ask 47 = .ok (.bipush 6, 2) := dc_of (x := (47, .bipush 6, 2)) t0_Mo_ask_ok (i := 29) rfl
theorem d_Mo_ask_49 : decode c_Mo_ask 49 = .ok (.invokevirtual 36, 3) := dc_of (x := (49, .invokevirtual 36, 3)) t0_Mo_ask_ok (i := 30) rfl
theorem d_Mo_ask_52 : decode c_Mo_ask 52 = .ok (.if_icmp .eq 7, 3) := dc_of (x := (52, .if_icmp .eq 7, 3)) t0_Mo_ask_ok (i := 31) rfl
theorem d_Mo_ask_55 : decode c_Mo_ask 55 = .ok (.iconst 1, 1) := dc_of (x := (55, .iconst 1, 1)) t0_Mo_ask_ok (i := 32) rfl
theorem d_Mo_ask_56 : decode c_Mo_ask 56 = .ok (.goto 4, 3) := dc_of (x := (56, .goto 4, 3)) t0_Mo_ask_ok (i := 33) rfl
theorem d_Mo_ask_59 : decode c_Mo_ask 59 = .ok (.iconst 0, 1) := dc_of (x := (59, .iconst 0, 1)) t0_Mo_ask_ok (i := 34) rfl
theorem d_Mo_ask_60 : decode c_Mo_ask 60 = .ok (.istore 5, 2) := dc_of (x := (60, .istore 5, 2)) t0_Mo_ask_ok (i := 35) rfl
theorem d_Mo_ask_62 : decode c_Mo_ask 62 = .ok (.aload_n 0, 1) := dc_of (x := (62, .aload_n 0, 1)) t0_Mo_ask_ok (i := 36) rfl
theorem d_Mo_ask_63 : decode c_Mo_ask 63 = .ok (.iload_n 1, 1) := dc_of (x := (63, .iload_n 1, 1)) t0_Mo_ask_ok (i := 37) rfl
theorem d_Mo_ask_64 : decode c_Mo_ask 64 = .ok (.bipush 7, 2) := dc_of (x := (64, .bipush 7, 2)) t0_Mo_ask_ok (i := 38) rfl
theorem d_Mo_ask_66 : decode c_Mo_ask 66 = .ok (.iload 5, 2) := dc_of (x := (66, .iload 5, 2)) t0_Mo_ask_ok (i := 39) rfl
theorem d_Mo_ask_68 : decode c_Mo_ask 68 = .ok (.ifCond .eq 7, 3) := dc_of (x := (68, .ifCond .eq 7, 3)) t0_Mo_ask_ok (i := 40) rfl
theorem d_Mo_ask_71 : decode c_Mo_ask 71 = .ok (.iload_n 2, 1) := dc_of (x := (71, .iload_n 2, 1)) t0_Mo_ask_ok (i := 41) rfl
theorem d_Mo_ask_72 : decode c_Mo_ask 72 = .ok (.goto 4, 3) := dc_of (x := (72, .goto 4, 3)) t0_Mo_ask_ok (i := 42) rfl
theorem d_Mo_ask_75 : decode c_Mo_ask 75 = .ok (.iconst (-1), 1) := dc_of (x := (75, .iconst (-1), 1)) t0_Mo_ask_ok (i := 43) rfl
theorem d_Mo_ask_76 : decode c_Mo_ask 76 = .ok (.invokevirtual 46, 3) := dc_of (x := (76, .invokevirtual 46, 3)) t0_Mo_ask_ok (i := 44) rfl
theorem d_Mo_ask_79 : decode c_Mo_ask 79 = .ok (.aload_n 0, 1) := dc_of (x := (79, .aload_n 0, 1)) t0_Mo_ask_ok (i := 45) rfl
theorem d_Mo_ask_80 : decode c_Mo_ask 80 = .ok (.iload_n 1, 1) := dc_of (x := (80, .iload_n 1, 1)) t0_Mo_ask_ok (i := 46) rfl
theorem d_Mo_ask_81 : decode c_Mo_ask 81 = .ok (.bipush 8, 2) := dc_of (x := (81, .bipush 8, 2)) t0_Mo_ask_ok (i := 47) rfl
theorem d_Mo_ask_83 : decode c_Mo_ask 83 = .ok (.iload_n 3, 1) := dc_of (x := (83, .iload_n 3, 1)) t0_Mo_ask_ok (i := 48) rfl
theorem d_Mo_ask_84 : decode c_Mo_ask 84 = .ok (.invokevirtual 46, 3) := dc_of (x := (84, .invokevirtual 46, 3)) t0_Mo_ask_ok (i := 49) rfl
theorem d_Mo_ask_87 : decode c_Mo_ask 87 = .ok (.aload_n 0, 1) := dc_of (x := (87, .aload_n 0, 1)) t0_Mo_ask_ok (i := 50) rfl
theorem d_Mo_ask_88 : decode c_Mo_ask 88 = .ok (.iload_n 1, 1) := dc_of (x := (88, .iload_n 1, 1)) t0_Mo_ask_ok (i := 51) rfl
theorem d_Mo_ask_89 : decode c_Mo_ask 89 = .ok (.bipush 9, 2) := dc_of (x := (89, .bipush 9, 2)) t0_Mo_ask_ok (i := 52) rfl
theorem d_Mo_ask_91 : decode c_Mo_ask 91 = .ok (.iconst (-1), 1) := dc_of (x := (91, .iconst (-1), 1)) t0_Mo_ask_ok (i := 53) rfl
theorem d_Mo_ask_92 : decode c_Mo_ask 92 = .ok (.invokevirtual 46, 3) := dc_of (x := (92, .invokevirtual 46, 3)) t0_Mo_ask_ok (i := 54) rfl
theorem d_Mo_ask_95 : decode c_Mo_ask 95 = .ok (.goto 64, 3) := dc_of (x := (95, .goto 64, 3)) t0_Mo_ask_ok (i := 55) rfl
theorem d_Mo_ask_98 : decode c_Mo_ask 98 = .ok (.iload 4, 2) := dc_of (x := (98, .iload 4, 2)) t0_Mo_ask_ok (i := 56) rfl
theorem d_Mo_ask_100 : decode c_Mo_ask 100 = .ok (.iload_n 2, 1) := dc_of (x := (100, .iload_n 2, 1)) t0_Mo_ask_ok (i := 57) rfl
theorem d_Mo_ask_101 : decode c_Mo_ask 101 = .ok (.if_icmp .eq 50, 3) := dc_of (x := (101, .if_icmp .eq 50, 3)) t0_Mo_ask_ok (i := 58) rfl
theorem d_Mo_ask_104 : decode c_Mo_ask 104 = .ok (.aload_n 0, 1) := dc_of (x := (104, .aload_n 0, 1)) t0_Mo_ask_ok (i := 59) rfl
theorem d_Mo_ask_105 : decode c_Mo_ask 105 = .ok (.iload_n 1, 1) := dc_of (x := (105, .iload_n 1, 1)) t1_Mo_ask_ok (i := 0) rfl
theorem d_Mo_ask_106 : decode c_Mo_ask 106 = .ok (.bipush 8, 2) := dc_of (x := (106, .bipush 8, 2)) t1_Mo_ask_ok (i := 1) rfl
theorem d_Mo_ask_108 : decode c_Mo_ask 108 = .ok (.invokevirtual 36, 3) := dc_of (x := (108, .invokevirtual 36, 3)) t1_Mo_ask_ok (i := 2) rfl
theorem d_Mo_ask_111 : decode c_Mo_ask 111 = .ok (.istore 5, 2) := dc_of (x := (111, .istore 5, 2)) t1_Mo_ask_ok (i := 3) rfl
theorem d_Mo_ask_113 : decode c_Mo_ask 113 = .ok (.aload_n 0, 1) := dc_of (x := (113, .aload_n 0, 1)) t1_Mo_ask_ok (i := 4) rfl
theorem d_Mo_ask_114 : decode c_Mo_ask 114 = .ok (.iload_n 1, 1) := dc_of (x := (114, .iload_n 1, 1)) t1_Mo_ask_ok (i := 5) rfl
theorem d_Mo_ask_115 : decode c_Mo_ask 115 = .ok (.bipush 7, 2) := dc_of (x := (115, .bipush 7, 2)) t1_Mo_ask_ok (i := 6) rfl
theorem d_Mo_ask_117 : decode c_Mo_ask 117 = .ok (.iconst 2, 1) := dc_of (x := (117, .iconst 2, 1)) t1_Mo_ask_ok (i := 7) rfl
theorem d_Mo_ask_118 : decode c_Mo_ask 118 = .ok (.invokevirtual 46, 3) := dc_of (x := (118, .invokevirtual 46, 3)) t1_Mo_ask_ok (i := 8) rfl
theorem d_Mo_ask_121 : decode c_Mo_ask 121 = .ok (.aload_n 0, 1) := dc_of (x := (121, .aload_n 0, 1)) t1_Mo_ask_ok (i := 9) rfl
theorem d_Mo_ask_122 : decode c_Mo_ask 122 = .ok (.iload_n 1, 1) := dc_of (x := (122, .iload_n 1, 1)) t1_Mo_ask_ok (i := 10) rfl
theorem d_Mo_ask_123 : decode c_Mo_ask 123 = .ok (.bipush 9, 2) := dc_of (x := (123, .bipush 9, 2)) t1_Mo_ask_ok (i := 11) rfl
theorem d_Mo_ask_125 : decode c_Mo_ask 125 = .ok (.iload_n 2, 1) := dc_of (x := (125, .iload_n 2, 1)) t1_Mo_ask_ok (i := 12) rfl
theorem d_Mo_ask_126 : decode c_Mo_ask 126 = .ok (.invokevirtual 46, 3) := dc_of (x := (126, .invokevirtual 46, 3)) t1_Mo_ask_ok (i := 13) rfl
theorem d_Mo_ask_129 : decode c_Mo_ask 129 = .ok (.aload_n 0, 1) := dc_of (x := (129, .aload_n 0, 1)) t1_Mo_ask_ok (i := 14) rfl
theorem d_Mo_ask_130 : decode c_Mo_ask 130 = .ok (.iload_n 1, 1) := dc_of (x := (130, .iload_n 1, 1)) t1_Mo_ask_ok (i := 15) rfl
theorem d_Mo_ask_131 : decode c_Mo_ask 131 = .ok (.bipush 10, 2) := dc_of (x := (131, .bipush 10, 2)) t1_Mo_ask_ok (i := 16) rfl
theorem d_Mo_ask_133 : decode c_Mo_ask 133 = .ok (.iload_n 3, 1) := dc_of (x := (133, .iload_n 3, 1)) t1_Mo_ask_ok (i := 17) rfl
theorem d_Mo_ask_134 : decode c_Mo_ask 134 = .ok (.iload 5, 2) := dc_of (x := (134, .iload 5, 2)) t1_Mo_ask_ok (i := 18) rfl
theorem d_Mo_ask_136 : decode c_Mo_ask 136 = .ok (.if_icmp .le 7, 3) := dc_of (x := (136, .if_icmp .le 7, 3)) t1_Mo_ask_ok (i := 19) rfl
theorem d_Mo_ask_139 : decode c_Mo_ask 139 = .ok (.iload_n 3, 1) := dc_of (x := (139, .iload_n 3, 1)) t1_Mo_ask_ok (i := 20) rfl
theorem d_Mo_ask_140 : decode c_Mo_ask 140 = .ok (.goto 5, 3) := dc_of (x := (140, .goto 5, 3)) t1_Mo_ask_ok (i := 21) rfl
theorem d_Mo_ask_143 : decode c_Mo_ask 143 = .ok (.iload 5, 2) := dc_of (x := (143, .iload 5, 2)) t1_Mo_ask_ok (i := 22) rfl
theorem d_Mo_ask_145 : decode c_Mo_ask 145 = .ok (.invokevirtual 46, 3) := dc_of (x := (145, .invokevirtual 46, 3)) t1_Mo_ask_ok (i := 23) rfl
theorem d_Mo_ask_148 : decode c_Mo_ask 148 = .ok (.goto 11, 3) := dc_of (x := (148, .goto 11, 3)) t1_Mo_ask_ok (i := 24) rfl
theorem d_Mo_ask_151 : decode c_Mo_ask 151 = .ok (.aload_n 0, 1) := dc_of (x := (151, .aload_n 0, 1)) t1_Mo_ask_ok (i := 25) rfl
theorem d_Mo_ask_152 : decode c_Mo_ask 152 = .ok (.iload_n 1, 1) := dc_of (x := (152, .iload_n 1, 1)) t1_Mo_ask_ok (i := 26) rfl
theorem d_Mo_ask_153 : decode c_Mo_ask 153 = .ok (.bipush 9, 2) := dc_of (x := (153, .bipush 9, 2)) t1_Mo_ask_ok (i := 27) rfl
theorem d_Mo_ask_155 : decode c_Mo_ask 155 = .ok (.iconst (-1), 1) := dc_of (x := (155, .iconst (-1), 1)) t1_Mo_ask_ok (i := 28) rfl
theorem d_Mo_ask_156 : decode c_Mo_ask 156 = .ok (.invokevirtual 46, 3) := dc_of (x := (156, .invokevirtual 46, 3)) t1_Mo_ask_ok (i := 29) rfl
theorem d_Mo_ask_159 : decode c_Mo_ask 159 = .ok (.return_, 1) := dc_of (x := (159, .return_, 1)) t1_Mo_ask_ok (i := 30) rfl
def t0_Mo_driven : List (Nat × Instr × Nat) := [(0, .aload_n 0, 1), (1, .iload_n 1, 1), (2, .iconst 2, 1), (3, .invokevirtual 32, 3), (6, .iconst (-1), 1), (7, .if_icmp .eq 10, 3), (10, .aload_n 0, 1), (11, .iload_n 1, 1), (12, .iconst 2, 1), (13, .invokevirtual 32, 3), (16, .ireturn, 1), (17, .aload_n 0, 1), (18, .iload_n 1, 1), (19, .iconst 1, 1), (20, .invokevirtual 32, 3), (23, .istore_n 2, 1), (24, .iconst 0, 1), (25, .istore_n 3, 1), (26, .iload_n 3, 1), (27, .aload_n 0, 1), (28, .getfield 7, 3), (31, .iconst 3, 1), (32, .iaload, 1), (33, .if_icmp .ge 60, 3), (36, .aload_n 0, 1), (37, .iload_n 3, 1), (38, .iconst 3, 1), (39, .invokevirtual 36, 3), (42, .iload_n 1, 1), (43, .if_icmp .ne 13, 3), (46, .aload_n 0, 1), (47, .iload_n 3, 1), (48, .bipush 6, 2), (50, .invokevirtual 36, 3), (53, .goto 4, 3), (56, .iconst 3, 1), (57, .istore 4, 2), (59, .iload 4, 2), (61, .iconst 3, 1), (62, .if_icmp .ne 7, 3), (65, .iload_n 2, 1), (66, .goto 20, 3), (69, .iload_n 2, 1), (70, .iconst 3, 1), (71, .if_icmp .eq 9, 3), (74, .iload_n 2, 1), (75, .iload 4, 2), (77, .if_icmp .ne 8, 3), (80, .iload 4, 2), (82, .goto 4, 3), (85, .iconst 2, 1), (86, .istore_n 2, 1), (87, .iinc 3 1, 3), (90, .goto (-64), 3), (93, .iload_n 2, 1), (94, .ireturn, 1)]
theorem t0_Mo_driven_ok : t0_Mo_driven.all (fun x => decide (decode c_Mo_driven x.1 = .ok x.2)) = true := by decide +kernel
theorem d_Mo_driven_0 : decode c_Mo_driven 0 = .ok (.aload_n 0, 1) := dc_of (x := (0, .aload_n 0, 1)) t0_Mo_driven_ok (i := 0) rfl
theorem d_Mo_driven_1 : decode c_Mo_driven 1 = .ok (.iload_n 1, 1) := dc_of (x := (1, .iload_n 1, 1)) t0_Mo_driven_ok (i := 1) rfl
theorem d_Mo_driven_2 : decode c_Mo_driven 2 = .ok (.iconst 2, 1) := dc_of (x := (2, .iconst 2, 1)) t0_Mo_driven_ok (i := 2) rfl
theorem d_Mo_driven_3 : decode c_Mo_driven 3 = .ok (.invokevirtual 32, 3) := dc_of (x := (3, .invokevirtual 32, 3)) t0_Mo_driven_ok (i := 3) rfl
theorem d_Mo_driven_6 : decode c_Mo_driven 6 = .ok (.iconst (-1), 1) := dc_of (x := (6, .iconst (-1), 1)) t0_Mo_driven_ok (i := 4) rfl
theorem d_Mo_driven_7 : decode c_Mo_driven 7 = .ok (.if_icmp .eq 10, 3) := dc_of (x := (7, .if_icmp .eq 10, 3)) t0_Mo_driven_ok (i := 5) rfl
theorem d_Mo_driven_10 : decode c_Mo_driven 10 = .ok (.aload_n 0, 1) := dc_of (x := (10, .aload_n 0, 1)) t0_Mo_driven_ok (i := 6) rfl
theorem d_Mo_driven_11 : decode c_Mo_driven 11 = .ok (.iload_n 1, 1) := dc_of (x := (11, .iload_n 1, 1)) t0_Mo_driven_ok (i := 7) rfl
theorem d_Mo_driven_12 : decode c_Mo_driven 12 = .ok (.iconst 2, 1) := dc_of (x := (12, .iconst 2, 1)) t0_Mo_driven_ok (i := 8) rfl
theorem d_Mo_driven_13 : decode c_Mo_driven 13 = .ok (.invokevirtual 32, 3) := dc_of (x := (13, .invokevirtual 32, 3)) t0_Mo_driven_ok (i := 9) rfl
theorem d_Mo_driven_16 : decode c_Mo_driven 16 = .ok (.ireturn, 1) := dc_of (x := (16, .ireturn, 1)) t0_Mo_driven_ok (i := 10) rfl
theorem d_Mo_driven_17 : decode c_Mo_driven 17 = .ok (.aload_n 0, 1) := dc_of (x := (17, .aload_n 0, 1)) t0_Mo_driven_ok (i := 11) rfl
theorem d_Mo_driven_18 : decode c_Mo_driven 18 = .ok (.iload_n 1, 1) := dc_of (x := (18, .iload_n 1, 1)) t0_Mo_driven_ok (i := 12) rfl
theorem d_Mo_driven_19 : decode c_Mo_driven 19 = .ok (.iconst 1, 1) := dc_of (x := (19, .iconst 1, 1)) t0_Mo_driven_ok (i := 13) rfl
theorem d_Mo_driven_20 : decode c_Mo_driven 20 = .ok (.invokevirtual 32, 3) := dc_of (x := (20, .invokevirtual 32, 3)) t0_Mo_driven_ok (i := 14) rfl
theorem d_Mo_driven_23 : decode c_Mo_driven 23 = .ok (.istore_n 2, 1) := dc_of (x := (23, .istore_n 2, 1)) t0_Mo_driven_ok (i := 15) rfl
theorem d_Mo_driven_24 : decode c_Mo_driven 24 = .ok (.iconst 0, 1) := dc_of (x := (24, .iconst 0, 1)) t0_Mo_driven_ok (i := 16) rfl
theorem d_Mo_driven_25 : decode c_Mo_driven 25 = .ok (.istore_n 3, 1) := dc_of (x := (25, .istore_n 3, 1)) t0_Mo_driven_ok (i := 17) rfl
theorem d_Mo_driven_26 : decode c_Mo_driven 26 = .ok (.iload_n 3, 1) := dc_of (x := (26, .iload_n 3, 1)) t0_Mo_driven_ok (i := 18) rfl
theorem d_Mo_driven_27 : decode c_Mo_driven 27 = .ok (.aload_n 0, 1) := dc_of (x := (27, .aload_n 0, 1)) t0_Mo_driven_ok (i := 19) rfl
theorem d_Mo_driven_28 : decode c_Mo_driven 28 = .ok (.getfield 7, 3) := dc_of (x := (28, .getfield 7, 3)) t0_Mo_driven_ok (i := 20) rfl
theorem d_Mo_driven_31 : decode c_Mo_driven 31 = .ok (.iconst 3, 1) := dc_of (x := (31, .iconst 3, 1)) t0_Mo_driven_ok (i := 21) rfl
theorem d_Mo_driven_32 : decode c_Mo_driven 32 = .ok (.iaload, 1) := dc_of (x := (32, .iaload, 1)) t0_Mo_driven_ok (i := 22) rfl
theorem d_Mo_driven_33 : decode c_Mo_driven 33 = .ok (.if_icmp .ge 60, 3) := dc_of (x := (33, .if_icmp .ge 60, 3)) t0_Mo_driven_ok (i := 23) rfl
theorem d_Mo_driven_36 : decode c_Mo_driven 36 = .ok (.aload_n 0, 1) := dc_of (x := (36, .aload_n 0, 1)) t0_Mo_driven_ok (i := 24) rfl
theorem d_Mo_driven_37 : decode c_Mo_driven 37 = .ok (.iload_n 3, 1) := dc_of (x := (37, .iload_n 3, 1)) t0_Mo_driven_ok (i := 25) rfl
theorem d_Mo_driven_38 : decode c_Mo_driven 38 = .ok (.iconst 3, 1) := dc_of (x := (38, .iconst 3, 1)) t0_Mo_driven_ok (i := 26) rfl
theorem d_Mo_driven_39 : decode c_Mo_driven 39 = .ok (.invokevirtual 36, 3) := dc_of (x := (39, .invokevirtual 36, 3)) t0_Mo_driven_ok (i := 27) rfl
theorem d_Mo_driven_42 : decode c_Mo_driven 42 = .ok (.iload_n 1, 1) := dc_of (x := (42, .iload_n 1, 1)) t0_Mo_driven_ok (i := 28) rfl
theorem d_Mo_driven_43 : decode c_Mo_driven 43 = .ok (.if_icmp .ne 13, 3) := dc_of (x := (43, .if_icmp .ne 13, 3)) t0_Mo_driven_ok (i := 29) rfl
theorem d_Mo_driven_46 : decode c_Mo_driven 46 = .ok (.aload_n 0, 1) := dc_of (x := (46, .aload_n 0, 1)) t0_Mo_driven_ok (i := 30) rfl
theorem d_Mo_driven_47 : decode c_Mo_driven 47 = .ok (.iload_n 3, 1) := dc_of (x := (47, .iload_n 3, 1)) t0_Mo_driven_ok (i := 31) rfl
theorem d_Mo_driven_48 : decode c_Mo_driven 48 = .ok (.bipush 6, 2) := dc_of (x := (48, .bipush 6, 2)) t0_Mo_driven_ok (i := 32) rfl
theorem d_Mo_driven_50 : decode c_Mo_driven 50 = .ok (.invokevirtual 36, 3) := dc_of (x := (50, .invokevirtual 36, 3)) t0_Mo_driven_ok (i := 33) rfl
theorem d_Mo_driven_53 : decode c_Mo_driven 53 = .ok (.goto 4, 3) := dc_of (x := (53, .goto 4, 3)) t0_Mo_driven_ok (i := 34) rfl
theorem d_Mo_driven_56 : decode c_Mo_driven 56 = .ok (.iconst 3, 1) := dc_of (x := (56, .iconst 3, 1)) t0_Mo_driven_ok (i := 35) rfl
theorem d_Mo_driven_57 : decode c_Mo_driven 57 = .ok (.istore 4, 2) := dc_of (x := (57, .istore 4, 2)) t0_Mo_driven_ok (i := 36) rfl
theorem d_Mo_driven_59 : decode c_Mo_driven 59 = .ok (.iload 4, 2) := dc_of (x := (59, .iload 4, 2)) t0_Mo_driven_ok (i := 37) rfl
theorem d_Mo_driven_61 : decode c_Mo_driven 61 = .ok (.iconst 3, 1) := dc_of (x := (61, .iconst 3, 1)) t0_Mo_driven_ok (i := 38) rfl
theorem d_Mo_driven_62 : decode c_Mo_driven 62 = .ok (.if_icmp .ne 7, 3) := dc_of (x := (62, .if_icmp .ne 7, 3)) t0_Mo_driven_ok (i := 39) rfl
theorem d_Mo_driven_65 : decode c_Mo_driven 65 = .ok (.iload_n 2, 1) := dc_of (x := (65, .iload_n 2, 1)) t0_Mo_driven_ok (i := 40) rfl
theorem d_Mo_driven_66 : decode c_Mo_driven 66 = .ok (.goto 20, 3) := dc_of (x := (66, .goto 20, 3)) t0_Mo_driven_ok (i := 41) rfl
theorem d_Mo_driven_69 : decode c_Mo_driven 69 = .ok (.iload_n 2, 1) := dc_of (x := (69, .iload_n 2, 1)) t0_Mo_driven_ok (i := 42) rfl
theorem d_Mo_driven_70 : decode c_Mo_driven 70 = .ok (.iconst 3, 1) := dc_of (x := (70, .iconst 3, 1)) t0_Mo_driven_ok (i := 43) rfl
theorem d_Mo_driven_71 : decode c_Mo_driven 71 = .ok (.if_icmp .eq 9, 3) := dc_of (x := (71, .if_icmp .eq 9, 3)) t0_Mo_driven_ok (i := 44) rfl
theorem d_Mo_driven_74 : decode c_Mo_driven 74 = .ok (.iload_n 2, 1) := dc_of (x := (74, .iload_n 2, 1)) t0_Mo_driven_ok (i := 45) rfl
theorem d_Mo_driven_75 : decode c_Mo_driven 75 = .ok (.iload 4, 2) := dc_of (x := (75, .iload 4, 2)) t0_Mo_driven_ok (i := 46) rfl
theorem d_Mo_driven_77 : decode c_Mo_driven 77 = .ok (.if_icmp .ne 8, 3) := dc_of (x := (77, .if_icmp .ne 8, 3)) t0_Mo_driven_ok (i := 47) rfl
theorem d_Mo_driven_80 : decode c_Mo_driven 80 = .ok (.iload 4, 2) := dc_of (x := (80, .iload 4, 2)) t0_Mo_driven_ok (i := 48) rfl
theorem d_Mo_driven_82 : decode c_Mo_driven 82 = .ok (.goto 4, 3) := dc_of (x := (82, .goto 4, 3)) t0_Mo_driven_ok (i := 49) rfl
theorem d_Mo_driven_85 : decode c_Mo_driven 85 = .ok (.iconst 2, 1) := dc_of (x := (85, .iconst 2, 1)) t0_Mo_driven_ok (i := 50) rfl
theorem d_Mo_driven_86 : decode c_Mo_driven 86 = .ok (.istore_n 2, 1) := dc_of (x := (86, .istore_n 2, 1)) t0_Mo_driven_ok (i := 51) rfl
theorem d_Mo_driven_87 : decode c_Mo_driven 87 = .ok (.iinc 3 1, 3) := dc_of (x := (87, .iinc 3 1, 3)) t0_Mo_driven_ok (i := 52) rfl
theorem d_Mo_driven_90 : decode c_Mo_driven 90 = .ok (.goto (-64), 3) := dc_of (x := (90, .goto (-64), 3)) t0_Mo_driven_ok (i := 53) rfl
theorem d_Mo_driven_93 : decode c_Mo_driven 93 = .ok (.iload_n 2, 1) := dc_of (x := (93, .iload_n 2, 1)) t0_Mo_driven_ok (i := 54) rfl
theorem d_Mo_driven_94 : decode c_Mo_driven 94 = .ok (.ireturn, 1) := dc_of (x := (94, .ireturn, 1)) t0_Mo_driven_ok (i := 55) rfl
def t0_Mo_settle : List (Nat × Instr × Nat) := [(0, .aload_n 0, 1), (1, .iload_n 1, 1), (2, .iconst 0, 1), (3, .invokevirtual 32, 3), (6, .istore_n 2, 1), (7, .aload_n 0, 1), (8, .iload_n 1, 1), (9, .iconst 3, 1), (10, .invokevirtual 32, 3), (13, .iconst 1, 1), (14, .if_icmp .ne 11, 3), (17, .aload_n 0, 1), (18, .iload_n 1, 1), (19, .invokevirtual 50, 3), (22, .goto 4, 3), (25, .iconst 2, 1), (26, .istore_n 3, 1), (27, .iload_n 3, 1), (28, .iload_n 2, 1), (29, .if_icmp .ne 4, 3), (32, .return_, 1), (33, .aload_n 0, 1), (34, .iload_n 1, 1), (35, .iconst 0, 1), (36, .iload_n 3, 1), (37, .invokevirtual 53, 3), (40, .aload_n 0, 1), (41, .iload_n 1, 1), (42, .iconst 4, 1), (43, .aload_n 0, 1), (44, .iload_n 1, 1), (45, .iconst 4, 1), (46, .invokevirtual 32, 3), (49, .iconst 1, 1), (50, .iadd, 1), (51, .invokevirtual 53, 3), (54, .aload_n 0, 1), (55, .getfield 7, 3), (58, .bipush 6, 2), (60, .iaload, 1), (61, .sipush 600, 3), (64, .if_icmp .ge 62, 3), (67, .sipush 1450, 3), (70, .iconst 3, 1), (71, .aload_n 0, 1), (72, .getfield 7, 3), (75, .bipush 6, 2), (77, .iaload, 1), (78, .imul, 1), (79, .iadd, 1), (80, .istore 4, 2), (82, .aload_n 0, 1), (83, .getfield 7, 3), (86, .iload 4, 2), (88, .aload_n 0, 1), (89, .getfield 7, 3), (92, .iconst 0, 1), (93, .iaload, 1), (94, .iastore, 1), (95, .aload_n 0, 1)]
theorem t0_Mo_settle_ok : t0_Mo_settle.all (fun x => decide (decode c_Mo_settle x.1 = .ok x.2)) = true := by decide +kernel
def t1_Mo_settle : List (Nat × Instr × Nat) := [(96, .getfield 7, 3), (99, .iload 4, 2), (101, .iconst 1, 1), (102, .iadd, 1), (103, .iload_n 1, 1), (104, .iastore, 1), (105, .aload_n 0, 1), (106, .getfield 7, 3), (109, .iload 4, 2), (111, .iconst 2, 1), (112, .iadd, 1), (113, .iload_n 3, 1), (114, .iastore, 1), (115, .aload_n 0, 1), (116, .getfield 7, 3), (119, .bipush 6, 2), (121, .dup2, 1), (122, .iaload, 1), (123, .iconst 1, 1), (124, .iadd, 1), (125, .iastore, 1), (126, .iload_n 2, 1), (127, .ifCond .ne 12, 3), (130, .iload_n 3, 1), (131, .iconst 1, 1), (132, .if_icmp .ne 7, 3), (135, .iconst 1, 1), (136, .goto 4, 3), (139, .iconst 0, 1), (140, .istore 4, 2), (142, .iconst 0, 1), (143, .istore 5, 2), (145, .iload 5, 2), (147, .aload_n 0, 1), (148, .getfield 7, 3), (151, .iconst 3, 1), (152, .iaload, 1), (153, .if_icmp .ge 95, 3), (156, .aload_n 0, 1), (157, .iload 5, 2), (159, .iconst 1, 1), (160, .invokevirtual 36, 3), (163, .iload_n 1, 1), (164, .if_icmp .eq 14, 3), (167, .aload_n 0, 1), (168, .iload 5, 2), (170, .iconst 2, 1), (171, .invokevirtual 36, 3), (174, .iload_n 1, 1), (175, .if_icmp .ne 7, 3), (178, .iconst 1, 1), (179, .goto 4, 3), (182, .iconst 0, 1), (183, .istore 6, 2), (185, .aload_n 0, 1), (186, .iload 5, 2), (188, .iconst 0, 1), (189, .invokevirtual 36, 3), (192, .bipush 7, 2), (194, .if_icmp .ne 27, 3)]
theorem t1_Mo_settle_ok : t1_Mo_settle.all (fun x => decide (decode c_Mo_settle x.1 = .ok x.2)) = true := by decide +kernel
def t2_Mo_settle : List (Nat × Instr × Nat) := [(197, .aload_n 0, 1), (198, .iload 5, 2), (200, .iconst 2, 1), (201, .invokevirtual 36, 3), (204, .iload_n 1, 1), (205, .if_icmp .ne 12, 3), (208, .iload 4, 2), (210, .ifCond .eq 7, 3), (213, .iconst 1, 1), (214, .goto 9, 3), (217, .iconst 0, 1), (218, .goto 5, 3), (221, .iload 6, 2), (223, .istore 7, 2), (225, .iload 7, 2), (227, .ifCond .eq 15, 3), (230, .aload_n 0, 1), (231, .iload 5, 2), (233, .aload_n 0, 1), (234, .iload 5, 2), (236, .invokevirtual 56, 3), (239, .invokevirtual 59, 3), (242, .iinc 5 1, 3), (245, .goto (-100), 3), (248, .iconst 0, 1), (249, .istore 5, 2), (251, .iload 5, 2), (253, .aload_n 0, 1), (254, .getfield 7, 3), (257, .iconst 5, 1), (258, .iaload, 1), (259, .if_icmp .ge 171, 3), (262, .sipush 1300, 3), (265, .iconst 5, 1), (266, .iload 5, 2), (268, .imul, 1), (269, .iadd, 1), (270, .istore 6, 2), (272, .aload_n 0, 1), (273, .getfield 7, 3), (276, .iload 6, 2), (278, .iconst 1, 1), (279, .iadd, 1), (280, .iaload, 1), (281, .istore 7, 2), (283, .aload_n 0, 1), (284, .getfield 7, 3), (287, .iload 6, 2), (289, .iconst 2, 1), (290, .iadd, 1), (291, .iaload, 1), (292, .istore 8, 2), (294, .aload_n 0, 1), (295, .getfield 7, 3), (298, .iload 6, 2), (300, .iaload, 1), (301, .ifCond .ne 41, 3), (304, .iload 7, 2), (306, .iload_n 1, 1), (307, .if_icmp .ne 35, 3)]
theorem t2_Mo_settle_ok : t2_Mo_settle.all (fun x => decide (decode c_Mo_settle x.1 = .ok x.2)) = true := by decide +kernel
def t3_Mo_settle : List (Nat × Instr × Nat) := [(310, .iload 4, 2), (312, .ifCond .eq 30, 3), (315, .aload_n 0, 1), (316, .aload_n 0, 1), (317, .iload 8, 2), (319, .iconst 5, 1), (320, .invokevirtual 32, 3), (323, .aload_n 0, 1), (324, .getfield 7, 3), (327, .iload 6, 2), (329, .iconst 3, 1), (330, .iadd, 1), (331, .iaload, 1), (332, .invokevirtual 63, 3), (335, .ifCond .eq 7, 3), (338, .iconst 1, 1), (339, .goto 4, 3), (342, .iconst 0, 1), (343, .istore 9, 2), (345, .aload_n 0, 1), (346, .getfield 7, 3), (349, .iload 6, 2), (351, .iaload, 1), (352, .iconst 1, 1), (353, .if_icmp .ne 37, 3), (356, .iload 8, 2), (358, .iload_n 1, 1), (359, .if_icmp .ne 31, 3), (362, .aload_n 0, 1), (363, .aload_n 0, 1), (364, .iload 7, 2), (366, .bipush 6, 2), (368, .invokevirtual 32, 3), (371, .aload_n 0, 1), (372, .getfield 7, 3), (375, .iload 6, 2), (377, .iconst 3, 1), (378, .iadd, 1), (379, .iaload, 1), (380, .invokevirtual 63, 3), (383, .ifCond .eq 7, 3), (386, .iconst 1, 1), (387, .goto 4, 3), (390, .iconst 0, 1), (391, .istore 10, 2), (393, .iload 9, 2), (395, .ifCond .ne 8, 3), (398, .iload 10, 2), (400, .ifCond .eq 24, 3), (403, .aload_n 0, 1), (404, .getfield 7, 3), (407, .iload 6, 2), (409, .iconst 4, 1), (410, .iadd, 1), (411, .dup2, 1), (412, .iaload, 1), (413, .iconst 1, 1), (414, .iadd, 1), (415, .iastore, 1), (416, .aload_n 0, 1)]
theorem t3_Mo_settle_ok : t3_Mo_settle.all (fun x => decide (decode c_Mo_settle x.1 = .ok x.2)) = true := by decide +kernel
def t4_Mo_settle : List (Nat × Instr × Nat) := [(417, .iload 7, 2), (419, .iload 8, 2), (421, .invokevirtual 67, 3), (424, .iinc 5 1, 3), (427, .goto (-176), 3), (430, .aload_n 0, 1), (431, .iload_n 1, 1), (432, .iconst 5, 1), (433, .aload_n 0, 1), (434, .getfield 7, 3), (437, .iconst 0, 1), (438, .iaload, 1), (439, .invokevirtual 53, 3), (442, .iload 4, 2), (444, .ifCond .eq 16, 3), (447, .aload_n 0, 1), (448, .iload_n 1, 1), (449, .bipush 6, 2), (451, .aload_n 0, 1), (452, .getfield 7, 3), (455, .iconst 0, 1), (456, .iaload, 1), (457, .invokevirtual 53, 3), (460, .return_, 1)]
theorem t4_Mo_settle_ok : t4_Mo_settle.all (fun x => decide (decode c_Mo_settle x.1 = .ok x.2)) = true := by decide +kernel
theorem d_Mo_settle_0 : decode c_Mo_settle 0 = .ok (.aload_n 0, 1) := dc_of (x := (0, .aload_n 0, 1)) t0_Mo_settle_ok (i := 0) rfl
theorem d_Mo_settle_1 : decode c_Mo_settle 1 = .ok (.iload_n 1, 1) := dc_of (x := (1, .iload_n 1, 1)) t0_Mo_settle_ok (i := 1) rfl
theorem d_Mo_settle_2 : decode c_Mo_settle 2 = .ok (.iconst 0, 1) := dc_of (x := (2, .iconst 0, 1)) t0_Mo_settle_ok (i := 2) rfl
theorem d_Mo_settle_3 : decode c_Mo_settle 3 = .ok (.invokevirtual 32, 3) := dc_of (x := (3, .invokevirtual 32, 3)) t0_Mo_settle_ok (i := 3) rfl
theorem d_Mo_settle_6 : decode c_Mo_settle 6 = .ok (.istore_n 2, 1) := dc_of (x := (6, .istore_n 2, 1)) t0_Mo_settle_ok (i := 4) rfl
theorem d_Mo_settle_7 : decode c_Mo_settle 7 = .ok (.aload_n 0, 1) := dc_of (x := (7, .aload_n 0, 1)) t0_Mo_settle_ok (i := 5) rfl
theorem d_Mo_settle_8 : decode c_Mo_settle 8 = .ok (.iload_n 1, 1) := dc_of (x := (8, .iload_n 1, 1)) t0_Mo_settle_ok (i := 6) rfl
theorem d_Mo_settle_9 : decode c_Mo_settle 9 = .ok (.iconst 3, 1) := dc_of (x := (9, .iconst 3, 1)) t0_Mo_settle_ok (i := 7) rfl
theorem d_Mo_settle_10 : decode c_Mo_settle 10 = .ok (.invokevirtual 32, 3) := dc_of (x := (10, .invokevirtual 32, 3)) t0_Mo_settle_ok (i := 8) rfl
theorem d_Mo_settle_13 : decode c_Mo_settle 13 = .ok (.iconst 1, 1) := dc_of (x := (13, .iconst 1, 1)) t0_Mo_settle_ok (i := 9) rfl
theorem d_Mo_settle_14 : decode c_Mo_settle 14 = .ok (.if_icmp .ne 11, 3) := dc_of (x := (14, .if_icmp .ne 11, 3)) t0_Mo_settle_ok (i := 10) rfl
theorem d_Mo_settle_17 : decode c_Mo_settle 17 = .ok (.aload_n 0, 1) := dc_of (x := (17, .aload_n 0, 1)) t0_Mo_settle_ok (i := 11) rfl
theorem d_Mo_settle_18 : decode c_Mo_settle 18 = .ok (.iload_n 1, 1) := dc_of (x := (18, .iload_n 1, 1)) t0_Mo_settle_ok (i := 12) rfl
theorem d_Mo_settle_19 : decode c_Mo_settle 19 = .ok (.invokevirtual 50, 3) := dc_of (x := (19, .invokevirtual 50, 3)) t0_Mo_settle_ok (i := 13) rfl
theorem d_Mo_settle_22 : decode c_Mo_settle 22 = .ok (.goto 4, 3) := dc_of (x := (22, .goto 4, 3)) t0_Mo_settle_ok (i := 14) rfl
theorem d_Mo_settle_25 : decode c_Mo_settle 25 = .ok (.iconst 2, 1) := dc_of (x := (25, .iconst 2, 1)) t0_Mo_settle_ok (i := 15) rfl
theorem d_Mo_settle_26 : decode c_Mo_settle 26 = .ok (.istore_n 3, 1) := dc_of (x := (26, .istore_n 3, 1)) t0_Mo_settle_ok (i := 16) rfl
theorem d_Mo_settle_27 : decode c_Mo_settle 27 = .ok (.iload_n 3, 1) := dc_of (x := (27, .iload_n 3, 1)) t0_Mo_settle_ok (i := 17) rfl
theorem d_Mo_settle_28 : decode c_Mo_settle 28 = .ok (.iload_n 2, 1) := dc_of (x := (28, .iload_n 2, 1)) t0_Mo_settle_ok (i := 18) rfl
theorem d_Mo_settle_29 : decode c_Mo_settle 29 = .ok (.if_icmp .ne 4, 3) := dc_of (x := (29, .if_icmp .ne 4, 3)) t0_Mo_settle_ok (i := 19) rfl
theorem d_Mo_settle_32 : decode c_Mo_settle 32 = .ok (.return_, 1) := dc_of (x := (32, .return_, 1)) t0_Mo_settle_ok (i := 20) rfl
theorem d_Mo_settle_33 : decode c_Mo_settle 33 = .ok (.aload_n 0, 1) := dc_of (x := (33, .aload_n 0, 1)) t0_Mo_settle_ok (i := 21) rfl
theorem d_Mo_settle_34 : decode c_Mo_settle 34 = .ok (.iload_n 1, 1) := dc_of (x := (34, .iload_n 1, 1)) t0_Mo_settle_ok (i := 22) rfl
theorem d_Mo_settle_35 : decode c_Mo_settle 35 = .ok (.iconst 0, 1) := dc_of (x := (35, .iconst 0, 1)) t0_Mo_settle_ok (i := 23) rfl
theorem d_Mo_settle_36 : decode c_Mo_settle 36 = .ok (.iload_n 3, 1) := dc_of (x := (36, .iload_n 3, 1)) t0_Mo_settle_ok (i := 24) rfl
theorem d_Mo_settle_37 : decode c_Mo_settle 37 = .ok (.invokevirtual 53, 3) := dc_of (x := (37, .invokevirtual 53, 3)) t0_Mo_settle_ok (i := 25) rfl
theorem d_Mo_settle_40 : decode c_Mo_settle 40 = .ok (.aload_n 0, 1) := dc_of (x := (40, .aload_n 0, 1)) t0_Mo_settle_ok (i := 26) rfl
theorem d_Mo_settle_41 : decode c_Mo_settle 41 = .ok (.iload_n 1, 1) := dc_of (x := (41, .iload_n 1, 1)) t0_Mo_settle_ok (i := 27) rfl
theorem d_Mo_settle_42 : decode c_Mo_settle 42 = .ok (.iconst 4, 1) := dc_of (x := (42, .iconst 4, 1)) t0_Mo_settle_ok (i := 28) rfl
theorem d_Mo_settle_43 : decode c_Mo_settle 43 = .ok (.aload_n 0, 1) := dc_of (x := (43, .aload_n 0, 1)) t0_Mo_settle_ok (i := 29) rfl
theorem d_Mo_settle_44 : decode c_Mo_settle 44 = .ok (.iload_n 1, 1) := dc_of (x := (44, .iload_n 1, 1)) t0_Mo_settle_ok (i := 30) rfl
theorem d_Mo_settle_45 : decode c_Mo_settle 45 = .ok (.iconst 4, 1) := dc_of (x := (45, .iconst 4, 1)) t0_Mo_settle_ok (i := 31) rfl
theorem d_Mo_settle_46 : decode c_Mo_settle 46 = .ok (.invokevirtual 32, 3) := dc_of (x := (46, .invokevirtual 32, 3)) t0_Mo_settle_ok (i := 32) rfl
theorem d_Mo_settle_49 : decode c_Mo_settle 49 = .ok (.iconst 1, 1) := dc_of (x := (49, .iconst 1, 1)) t0_Mo_settle_ok (i := 33) rfl
theorem d_Mo_settle_50 : decode c_Mo_settle 50 = .ok (.iadd, 1) := dc_of (x := (50, .iadd, 1)) t0_Mo_settle_ok (i := 34) rfl
theorem d_Mo_settle_51 : decode c_Mo_settle 51 = .ok (.invokevirtual 53, 3) := dc_of (x := (51, .invokevirtual 53, 3)) t0_Mo_settle_ok (i := 35) rfl
theorem d_Mo_settle_54 : decode c_Mo_settle 54 = .ok (.aload_n 0, 1) := dc_of (x := (54, .aload_n 0, 1)) t0_Mo_settle_ok (i := 36) rfl
theorem d_Mo_settle_55 : decode c_Mo_settle 55 = .ok (.getfield 7, 3) := dc_of (x := (55, .getfield 7, 3)) t0_Mo_settle_ok (i := 37) rfl
theorem d_Mo_settle_58 : decode c_Mo_settle 58 = .ok (.bipush 6, 2) := dc_of (x := (58, .bipush 6, 2)) t0_Mo_settle_ok (i := 38) rfl
theorem d_Mo_settle_60 : decode c_Mo_settle 60 = .ok (.iaload, 1) := dc_of (x := (60, .iaload, 1)) t0_Mo_settle_ok (i := 39) rfl
theorem d_Mo_settle_61 : decode c_Mo_settle 61 = .ok (.sipush 600, 3) := dc_of (x := (61, .sipush 600, 3)) t0_Mo_settle_ok (i := 40) rfl
theorem d_Mo_settle_64 : decode c_Mo_settle 64 = .ok (.if_icmp .ge 62, 3) := dc_of (x := (64, .if_icmp .ge 62, 3)) t0_Mo_settle_ok (i := 41) rfl
theorem d_Mo_settle_67 : decode c_Mo_settle 67 = .ok (.sipush 1450, 3) := dc_of (x := (67, .sipush 1450, 3)) t0_Mo_settle_ok (i := 42) rfl
theorem d_Mo_settle_70 : decode c_Mo_settle 70 = .ok (.iconst 3, 1) := dc_of (x := (70, .iconst 3, 1)) t0_Mo_settle_ok (i := 43) rfl
theorem d_Mo_settle_71 : decode c_Mo_settle 71 = .ok (.aload_n 0, 1) := dc_of (x := (71, .aload_n 0, 1)) t0_Mo_settle_ok (i := 44) rfl
theorem d_Mo_settle_72 : decode c_Mo_settle 72 = .ok (.getfield 7, 3) := dc_of (x := (72, .getfield 7, 3)) t0_Mo_settle_ok (i := 45) rfl
theorem d_Mo_settle_75 : decode c_Mo_settle 75 = .ok (.bipush 6, 2) := dc_of (x := (75, .bipush 6, 2)) t0_Mo_settle_ok (i := 46) rfl
theorem d_Mo_settle_77 : decode c_Mo_settle 77 = .ok (.iaload, 1) := dc_of (x := (77, .iaload, 1)) t0_Mo_settle_ok (i := 47) rfl
theorem d_Mo_settle_78 : decode c_Mo_settle 78 = .ok (.imul, 1) := dc_of (x := (78, .imul, 1)) t0_Mo_settle_ok (i := 48) rfl
theorem d_Mo_settle_79 : decode c_Mo_settle 79 = .ok (.iadd, 1) := dc_of (x := (79, .iadd, 1)) t0_Mo_settle_ok (i := 49) rfl
theorem d_Mo_settle_80 : decode c_Mo_settle 80 = .ok (.istore 4, 2) := dc_of (x := (80, .istore 4, 2)) t0_Mo_settle_ok (i := 50) rfl
theorem d_Mo_settle_82 : decode c_Mo_settle 82 = .ok (.aload_n 0, 1) := dc_of (x := (82, .aload_n 0, 1)) t0_Mo_settle_ok (i := 51) rfl
theorem d_Mo_settle_83 : decode c_Mo_settle 83 = .ok (.getfield 7, 3) := dc_of (x := (83, .getfield 7, 3)) t0_Mo_settle_ok (i := 52) rfl
theorem d_Mo_settle_86 : decode c_Mo_settle 86 = .ok (.iload 4, 2) := dc_of (x := (86, .iload 4, 2)) t0_Mo_settle_ok (i := 53) rfl
theorem d_Mo_settle_88 : decode c_Mo_settle 88 = .ok (.aload_n 0, 1) := dc_of (x := (88, .aload_n 0, 1)) t0_Mo_settle_ok (i := 54) rfl
theorem d_Mo_settle_89 : decode c_Mo_settle 89 = .ok (.getfield 7, 3) := dc_of (x := (89, .getfield 7, 3)) t0_Mo_settle_ok (i := 55) rfl
theorem d_Mo_settle_92 : decode c_Mo_settle 92 = .ok (.iconst 0, 1) := dc_of (x := (92, .iconst 0, 1)) t0_Mo_settle_ok (i := 56) rfl
theorem d_Mo_settle_93 : decode c_Mo_settle 93 = .ok (.iaload, 1) := dc_of (x := (93, .iaload, 1)) t0_Mo_settle_ok (i := 57) rfl
theorem d_Mo_settle_94 : decode c_Mo_settle 94 = .ok (.iastore, 1) := dc_of (x := (94, .iastore, 1)) t0_Mo_settle_ok (i := 58) rfl
theorem d_Mo_settle_95 : decode c_Mo_settle 95 = .ok (.aload_n 0, 1) := dc_of (x := (95, .aload_n 0, 1)) t0_Mo_settle_ok (i := 59) rfl
theorem d_Mo_settle_96 : decode c_Mo_settle 96 = .ok (.getfield 7, 3) := dc_of (x := (96, .getfield 7, 3)) t1_Mo_settle_ok (i := 0) rfl
theorem d_Mo_settle_99 : decode c_Mo_settle 99 = .ok (.iload 4, 2) := dc_of (x := (99, .iload 4, 2)) t1_Mo_settle_ok (i := 1) rfl
theorem d_Mo_settle_101 : decode c_Mo_settle 101 = .ok (.iconst 1, 1) := dc_of (x := (101, .iconst 1, 1)) t1_Mo_settle_ok (i := 2) rfl
theorem d_Mo_settle_102 : decode c_Mo_settle 102 = .ok (.iadd, 1) := dc_of (x := (102, .iadd, 1)) t1_Mo_settle_ok (i := 3) rfl
theorem d_Mo_settle_103 : decode c_Mo_settle 103 = .ok (.iload_n 1, 1) := dc_of (x := (103, .iload_n 1, 1)) t1_Mo_settle_ok (i := 4) rfl
theorem d_Mo_settle_104 : decode c_Mo_settle 104 = .ok (.iastore, 1) := dc_of (x := (104, .iastore, 1)) t1_Mo_settle_ok (i := 5) rfl
theorem d_Mo_settle_105 : decode c_Mo_settle 105 = .ok (.aload_n 0, 1) := dc_of (x := (105, .aload_n 0, 1)) t1_Mo_settle_ok (i := 6) rfl
theorem d_Mo_settle_106 : decode c_Mo_settle 106 = .ok (.getfield 7, 3) := dc_of (x := (106, .getfield 7, 3)) t1_Mo_settle_ok (i := 7) rfl
theorem d_Mo_settle_109 : decode c_Mo_settle 109 = .ok (.iload 4, 2) := dc_of (x := (109, .iload 4, 2)) t1_Mo_settle_ok (i := 8) rfl
theorem d_Mo_settle_111 : decode c_Mo_settle 111 = .ok (.iconst 2, 1) := dc_of (x := (111, .iconst 2, 1)) t1_Mo_settle_ok (i := 9) rfl
theorem d_Mo_settle_112 : decode c_Mo_settle 112 = .ok (.iadd, 1) := dc_of (x := (112, .iadd, 1)) t1_Mo_settle_ok (i := 10) rfl
theorem d_Mo_settle_113 : decode c_Mo_settle 113 = .ok (.iload_n 3, 1) := dc_of (x := (113, .iload_n 3, 1)) t1_Mo_settle_ok (i := 11) rfl
theorem d_Mo_settle_114 : decode c_Mo_settle 114 = .ok (.iastore, 1) := dc_of (x := (114, .iastore, 1)) t1_Mo_settle_ok (i := 12) rfl
theorem d_Mo_settle_115 : decode c_Mo_settle 115 = .ok (.aload_n 0, 1) := dc_of (x := (115, .aload_n 0, 1)) t1_Mo_settle_ok (i := 13) rfl
theorem d_Mo_settle_116 : decode c_Mo_settle 116 = .ok (.getfield 7, 3) := dc_of (x := (116, .getfield 7, 3)) t1_Mo_settle_ok (i := 14) rfl
theorem d_Mo_settle_119 : decode c_Mo_settle 119 = .ok (.bipush 6, 2) := dc_of (x := (119, .bipush 6, 2)) t1_Mo_settle_ok (i := 15) rfl
theorem d_Mo_settle_121 : decode c_Mo_settle 121 = .ok (.dup2, 1) := dc_of (x := (121, .dup2, 1)) t1_Mo_settle_ok (i := 16) rfl
theorem d_Mo_settle_122 : decode c_Mo_settle 122 = .ok (.iaload, 1) := dc_of (x := (122, .iaload, 1)) t1_Mo_settle_ok (i := 17) rfl
theorem d_Mo_settle_123 : decode c_Mo_settle 123 = .ok (.iconst 1, 1) := dc_of (x := (123, .iconst 1, 1)) t1_Mo_settle_ok (i := 18) rfl
theorem d_Mo_settle_124 : decode c_Mo_settle 124 = .ok (.iadd, 1) := dc_of (x := (124, .iadd, 1)) t1_Mo_settle_ok (i := 19) rfl
theorem d_Mo_settle_125 : decode c_Mo_settle 125 = .ok (.iastore, 1) := dc_of (x := (125, .iastore, 1)) t1_Mo_settle_ok (i := 20) rfl
theorem d_Mo_settle_126 : decode c_Mo_settle 126 = .ok (.iload_n 2, 1) := dc_of (x := (126, .iload_n 2, 1)) t1_Mo_settle_ok (i := 21) rfl
theorem d_Mo_settle_127 : decode c_Mo_settle 127 = .ok (.ifCond .ne 12, 3) := dc_of (x := (127, .ifCond .ne 12, 3)) t1_Mo_settle_ok (i := 22) rfl
theorem d_Mo_settle_130 : decode c_Mo_settle 130 = .ok (.iload_n 3, 1) := dc_of (x := (130, .iload_n 3, 1)) t1_Mo_settle_ok (i := 23) rfl
theorem d_Mo_settle_131 : decode c_Mo_settle 131 = .ok (.iconst 1, 1) := dc_of (x := (131, .iconst 1, 1)) t1_Mo_settle_ok (i := 24) rfl
theorem d_Mo_settle_132 : decode c_Mo_settle 132 = .ok (.if_icmp .ne 7, 3) := dc_of (x := (132, .if_icmp .ne 7, 3)) t1_Mo_settle_ok (i := 25) rfl
theorem d_Mo_settle_135 : decode c_Mo_settle 135 = .ok (.iconst 1, 1) := dc_of (x := (135, .iconst 1, 1)) t1_Mo_settle_ok (i := 26) rfl
theorem d_Mo_settle_136 : decode c_Mo_settle 136 = .ok (.goto 4, 3) := dc_of (x := (136, .goto 4, 3)) t1_Mo_settle_ok (i := 27) rfl
theorem d_Mo_settle_139 : decode c_Mo_settle 139 = .ok (.iconst 0, 1) := dc_of (x := (139, .iconst 0, 1)) t1_Mo_settle_ok (i := 28) rfl
theorem d_Mo_settle_140 : decode c_Mo_settle 140 = .ok (.istore 4, 2) := dc_of (x := (140, .istore 4, 2)) t1_Mo_settle_ok (i := 29) rfl
theorem d_Mo_settle_142 : decode c_Mo_settle 142 = .ok (.iconst 0, 1) := dc_of (x := (142, .iconst 0, 1)) t1_Mo_settle_ok (i := 30) rfl
theorem d_Mo_settle_143 : decode c_Mo_settle 143 = .ok (.istore 5, 2) := dc_of (x := (143, .istore 5, 2)) t1_Mo_settle_ok (i := 31) rfl
theorem d_Mo_settle_145 : decode c_Mo_settle 145 = .ok (.iload 5, 2) := dc_of (x := (145, .iload 5, 2)) t1_Mo_settle_ok (i := 32) rfl
theorem d_Mo_settle_147 : decode c_Mo_settle 147 = .ok (.aload_n 0, 1) := dc_of (x := (147, .aload_n 0, 1)) t1_Mo_settle_ok (i := 33) rfl
theorem d_Mo_settle_148 : decode c_Mo_settle 148 = .ok (.getfield 7, 3) := dc_of (x := (148, .getfield 7, 3)) t1_Mo_settle_ok (i := 34) rfl
theorem d_Mo_settle_151 : decode c_Mo_settle 151 = .ok (.iconst 3, 1) := dc_of (x := (151, .iconst 3, 1)) t1_Mo_settle_ok (i := 35) rfl
theorem d_Mo_settle_152 : decode c_Mo_settle 152 = .ok (.iaload, 1) := dc_of (x := (152, .iaload, 1)) t1_Mo_settle_ok (i := 36) rfl
theorem d_Mo_settle_153 : decode c_Mo_settle 153 = .ok (.if_icmp .ge 95, 3) := dc_of (x := (153, .if_icmp .ge 95, 3)) t1_Mo_settle_ok (i := 37) rfl
theorem d_Mo_settle_156 : decode c_Mo_settle 156 = .ok (.aload_n 0, 1) := dc_of (x := (156, .aload_n 0, 1)) t1_Mo_settle_ok (i := 38) rfl
theorem d_Mo_settle_157 : decode c_Mo_settle 157 = .ok (.iload 5, 2) := dc_of (x := (157, .iload 5, 2)) t1_Mo_settle_ok (i := 39) rfl
theorem d_Mo_settle_159 : decode c_Mo_settle 159 = .ok (.iconst 1, 1) := dc_of (x := (159, .iconst 1, 1)) t1_Mo_settle_ok (i := 40) rfl
theorem d_Mo_settle_160 : decode c_Mo_settle 160 = .ok (.invokevirtual 36, 3) := dc_of (x := (160, .invokevirtual 36, 3)) t1_Mo_settle_ok (i := 41) rfl
theorem d_Mo_settle_163 : decode c_Mo_settle 163 = .ok (.iload_n 1, 1) := dc_of (x := (163, .iload_n 1, 1)) t1_Mo_settle_ok (i := 42) rfl
theorem d_Mo_settle_164 : decode c_Mo_settle 164 = .ok (.if_icmp .eq 14, 3) := dc_of (x := (164, .if_icmp .eq 14, 3)) t1_Mo_settle_ok (i := 43) rfl
theorem d_Mo_settle_167 : decode c_Mo_settle 167 = .ok (.aload_n 0, 1) := dc_of (x := (167, .aload_n 0, 1)) t1_Mo_settle_ok (i := 44) rfl
theorem d_Mo_settle_168 : decode c_Mo_settle 168 = .ok (.iload 5, 2) := dc_of (x := (168, .iload 5, 2)) t1_Mo_settle_ok (i := 45) rfl
theorem d_Mo_settle_170 : decode c_Mo_settle 170 = .ok (.iconst 2, 1) := dc_of (x := (170, .iconst 2, 1)) t1_Mo_settle_ok (i := 46) rfl
theorem d_Mo_settle_171 : decode c_Mo_settle 171 = .ok (.invokevirtual 36, 3) := dc_of (x := (171, .invokevirtual 36, 3)) t1_Mo_settle_ok (i := 47) rfl
theorem d_Mo_settle_174 : decode c_Mo_settle 174 = .ok (.iload_n 1, 1) := dc_of (x := (174, .iload_n 1, 1)) t1_Mo_settle_ok (i := 48) rfl
theorem d_Mo_settle_175 : decode c_Mo_settle 175 = .ok (.if_icmp .ne 7, 3) := dc_of (x := (175, .if_icmp .ne 7, 3)) t1_Mo_settle_ok (i := 49) rfl
theorem d_Mo_settle_178 : decode c_Mo_settle 178 = .ok (.iconst 1, 1) := dc_of (x := (178, .iconst 1, 1)) t1_Mo_settle_ok (i := 50) rfl
theorem d_Mo_settle_179 : decode c_Mo_settle 179 = .ok (.goto 4, 3) := dc_of (x := (179, .goto 4, 3)) t1_Mo_settle_ok (i := 51) rfl
theorem d_Mo_settle_182 : decode c_Mo_settle 182 = .ok (.iconst 0, 1) := dc_of (x := (182, .iconst 0, 1)) t1_Mo_settle_ok (i := 52) rfl
theorem d_Mo_settle_183 : decode c_Mo_settle 183 = .ok (.istore 6, 2) := dc_of (x := (183, .istore 6, 2)) t1_Mo_settle_ok (i := 53) rfl
theorem d_Mo_settle_185 : decode c_Mo_settle 185 = .ok (.aload_n 0, 1) := dc_of (x := (185, .aload_n 0, 1)) t1_Mo_settle_ok (i := 54) rfl
theorem d_Mo_settle_186 : decode c_Mo_settle 186 = .ok (.iload 5, 2) := dc_of (x := (186, .iload 5, 2)) t1_Mo_settle_ok (i := 55) rfl
theorem d_Mo_settle_188 : decode c_Mo_settle 188 = .ok (.iconst 0, 1) := dc_of (x := (188, .iconst 0, 1)) t1_Mo_settle_ok (i := 56) rfl
theorem d_Mo_settle_189 : decode c_Mo_settle 189 = .ok (.invokevirtual 36, 3) := dc_of (x := (189, .invokevirtual 36, 3)) t1_Mo_settle_ok (i := 57) rfl
theorem d_Mo_settle_192 : decode c_Mo_settle 192 = .ok (.bipush 7, 2) := dc_of (x := (192, .bipush 7, 2)) t1_Mo_settle_ok (i := 58) rfl
theorem d_Mo_settle_194 : decode c_Mo_settle 194 = .ok (.if_icmp .ne 27, 3) := dc_of (x := (194, .if_icmp .ne 27, 3)) t1_Mo_settle_ok (i := 59) rfl
theorem d_Mo_settle_197 : decode c_Mo_settle 197 = .ok (.aload_n 0, 1) := dc_of (x := (197, .aload_n 0, 1)) t2_Mo_settle_ok (i := 0) rfl
theorem d_Mo_settle_198 : decode c_Mo_settle 198 = .ok (.iload 5, 2) := dc_of (x := (198, .iload 5, 2)) t2_Mo_settle_ok (i := 1) rfl
theorem d_Mo_settle_200 : decode c_Mo_settle 200 = .ok (.iconst 2, 1) := dc_of (x := (200, .iconst 2, 1)) t2_Mo_settle_ok (i := 2) rfl
theorem d_Mo_settle_201 : decode c_Mo_settle 201 = .ok (.invokevirtual 36, 3) := dc_of (x := (201, .invokevirtual 36, 3)) t2_Mo_settle_ok (i := 3) rfl
theorem d_Mo_settle_204 : decode c_Mo_settle 204 = .ok (.iload_n 1, 1) := dc_of (x := (204, .iload_n 1, 1)) t2_Mo_settle_ok (i := 4) rfl
theorem d_Mo_settle_205 : decode c_Mo_settle 205 = .ok (.if_icmp .ne 12, 3) := dc_of (x := (205, .if_icmp .ne 12, 3)) t2_Mo_settle_ok (i := 5) rfl
theorem d_Mo_settle_208 : decode c_Mo_settle 208 = .ok (.iload 4, 2) := dc_of (x := (208, .iload 4, 2)) t2_Mo_settle_ok (i := 6) rfl
theorem d_Mo_settle_210 : decode c_Mo_settle 210 = .ok (.ifCond .eq 7, 3) := dc_of (x := (210, .ifCond .eq 7, 3)) t2_Mo_settle_ok (i := 7) rfl
theorem d_Mo_settle_213 : decode c_Mo_settle 213 = .ok (.iconst 1, 1) := dc_of (x := (213, .iconst 1, 1)) t2_Mo_settle_ok (i := 8) rfl
theorem d_Mo_settle_214 : decode c_Mo_settle 214 = .ok (.goto 9, 3) := dc_of (x := (214, .goto 9, 3)) t2_Mo_settle_ok (i := 9) rfl
theorem d_Mo_settle_217 : decode c_Mo_settle 217 = .ok (.iconst 0, 1) := dc_of (x := (217, .iconst 0, 1)) t2_Mo_settle_ok (i := 10) rfl
theorem d_Mo_settle_218 : decode c_Mo_settle 218 = .ok (.goto 5, 3) := dc_of (x := (218, .goto 5, 3)) t2_Mo_settle_ok (i := 11) rfl
theorem d_Mo_settle_221 : decode c_Mo_settle 221 = .ok (.iload 6, 2) := dc_of (x := (221, .iload 6, 2)) t2_Mo_settle_ok (i := 12) rfl
theorem d_Mo_settle_223 : decode c_Mo_settle 223 = .ok (.istore 7, 2) := dc_of (x := (223, .istore 7, 2)) t2_Mo_settle_ok (i := 13) rfl
theorem d_Mo_settle_225 : decode c_Mo_settle 225 = .ok (.iload 7, 2) := dc_of (x := (225, .iload 7, 2)) t2_Mo_settle_ok (i := 14) rfl
theorem d_Mo_settle_227 : decode c_Mo_settle 227 = .ok (.ifCond .eq 15, 3) := dc_of (x := (227, .ifCond .eq 15, 3)) t2_Mo_settle_ok (i := 15) rfl
theorem d_Mo_settle_230 : decode c_Mo_settle 230 = .ok (.aload_n 0, 1) := dc_of (x := (230, .aload_n 0, 1)) t2_Mo_settle_ok (i := 16) rfl
theorem d_Mo_settle_231 : decode c_Mo_settle 231 = .ok (.iload 5, 2) := dc_of (x := (231, .iload 5, 2)) t2_Mo_settle_ok (i := 17) rfl
theorem d_Mo_settle_233 : decode c_Mo_settle 233 = .ok (.aload_n 0, 1) := dc_of (x := (233, .aload_n 0, 1)) t2_Mo_settle_ok (i := 18) rfl
theorem d_Mo_settle_234 : decode c_Mo_settle 234 = .ok (.iload 5, 2) := dc_of (x := (234, .iload 5, 2)) t2_Mo_settle_ok (i := 19) rfl
theorem d_Mo_settle_236 : decode c_Mo_settle 236 = .ok (.invokevirtual 56, 3) := dc_of (x := (236, .invokevirtual 56, 3)) t2_Mo_settle_ok (i := 20) rfl
theorem d_Mo_settle_239 : decode c_Mo_settle 239 = .ok (.invokevirtual 59, 3) := dc_of (x := (239, .invokevirtual 59, 3)) t2_Mo_settle_ok (i := 21) rfl
theorem d_Mo_settle_242 : decode c_Mo_settle 242 = .ok (.iinc 5 1, 3) := dc_of (x := (242, .iinc 5 1, 3)) t2_Mo_settle_ok (i := 22) rfl
theorem d_Mo_settle_245 : decode c_Mo_settle 245 = .ok (.goto (-100), 3) := dc_of (x := (245, .goto (-100), 3)) t2_Mo_settle_ok (i := 23) rfl
theorem d_Mo_settle_248 : decode c_Mo_settle 248 = .ok (.iconst 0, 1) := dc_of (x := (248, .iconst 0, 1)) t2_Mo_settle_ok (i := 24) rfl
theorem d_Mo_settle_249 : decode c_Mo_settle 249 = .ok (.istore 5, 2) := dc_of (x := (249, .istore 5, 2)) t2_Mo_settle_ok (i := 25) rfl
theorem d_Mo_settle_251 : decode c_Mo_settle 251 = .ok (.iload 5, 2) := dc_of (x := (251, .iload 5, 2)) t2_Mo_settle_ok (i := 26) rfl
theorem d_Mo_settle_253 : decode c_Mo_settle 253 = .ok (.aload_n 0, 1) := dc_of (x := (253, .aload_n 0, 1)) t2_Mo_settle_ok (i := 27) rfl
theorem d_Mo_settle_254 : decode c_Mo_settle 254 = .ok (.getfield 7, 3) := dc_of (x := (254, .getfield 7, 3)) t2_Mo_settle_ok (i := 28) rfl
theorem d_Mo_settle_257 : decode c_Mo_settle 257 = .ok (.iconst 5, 1) := dc_of (x := (257, .iconst 5, 1)) t2_Mo_settle_ok (i := 29) rfl
theorem d_Mo_settle_258 : decode c_Mo_settle 258 = .ok (.iaload, 1) := dc_of (x := (258, .iaload, 1)) t2_Mo_settle_ok (i := 30) rfl
theorem d_Mo_settle_259 : decode c_Mo_settle 259 = .ok (.if_icmp .ge 171, 3) := dc_of (x := (259, .if_icmp .ge 171, 3)) t2_Mo_settle_ok (i := 31) rfl
theorem d_Mo_settle_262 : decode c_Mo_settle 262 = .ok (.sipush 1300, 3) := dc_of (x := (262, .sipush 1300, 3)) t2_Mo_settle_ok (i := 32) rfl
theorem d_Mo_settle_265 : decode c_Mo_settle 265 = .ok (.iconst 5, 1) := dc_of (x := (265, .iconst 5, 1)) t2_Mo_settle_ok (i := 33) rfl
theorem d_Mo_settle_266 : decode c_Mo_settle 266 = .ok (.iload 5, 2) := dc_of (x := (266, .iload 5, 2)) t2_Mo_settle_ok (i := 34) rfl
theorem d_Mo_settle_268 : decode c_Mo_settle 268 = .ok (.imul, 1) := dc_of (x := (268, .imul, 1)) t2_Mo_settle_ok (i := 35) rfl
theorem d_Mo_settle_269 : decode c_Mo_settle 269 = .ok (.iadd, 1) := dc_of (x := (269, .iadd, 1)) t2_Mo_settle_ok (i := 36) rfl
theorem d_Mo_settle_270 : decode c_Mo_settle 270 = .ok (.istore 6, 2) := dc_of (x := (270, .istore 6, 2)) t2_Mo_settle_ok (i := 37) rfl
theorem d_Mo_settle_272 : decode c_Mo_settle 272 = .ok (.aload_n 0, 1) := dc_of (x := (272, .aload_n 0, 1)) t2_Mo_settle_ok (i := 38) rfl
theorem d_Mo_settle_273 : decode c_Mo_settle 273 = .ok (.getfield 7, 3) := dc_of (x := (273, .getfield 7, 3)) t2_Mo_settle_ok (i := 39) rfl
theorem d_Mo_settle_276 : decode c_Mo_settle 276 = .ok (.iload 6, 2) := dc_of (x := (276, .iload 6, 2)) t2_Mo_settle_ok (i := 40) rfl
theorem d_Mo_settle_278 : decode c_Mo_settle 278 = .ok (.iconst 1, 1) := dc_of (x := (278, .iconst 1, 1)) t2_Mo_settle_ok (i := 41) rfl
theorem d_Mo_settle_279 : decode c_Mo_settle 279 = .ok (.iadd, 1) := dc_of (x := (279, .iadd, 1)) t2_Mo_settle_ok (i := 42) rfl
theorem d_Mo_settle_280 : decode c_Mo_settle 280 = .ok (.iaload, 1) := dc_of (x := (280, .iaload, 1)) t2_Mo_settle_ok (i := 43) rfl
theorem d_Mo_settle_281 : decode c_Mo_settle 281 = .ok (.istore 7, 2) := dc_of (x := (281, .istore 7, 2)) t2_Mo_settle_ok (i := 44) rfl
theorem d_Mo_settle_283 : decode c_Mo_settle 283 = .ok (.aload_n 0, 1) := dc_of (x := (283, .aload_n 0, 1)) t2_Mo_settle_ok (i := 45) rfl
theorem d_Mo_settle_284 : decode c_Mo_settle 284 = .ok (.getfield 7, 3) := dc_of (x := (284, .getfield 7, 3)) t2_Mo_settle_ok (i := 46) rfl
theorem d_Mo_settle_287 : decode c_Mo_settle 287 = .ok (.iload 6, 2) := dc_of (x := (287, .iload 6, 2)) t2_Mo_settle_ok (i := 47) rfl
theorem d_Mo_settle_289 : decode c_Mo_settle 289 = .ok (.iconst 2, 1) := dc_of (x := (289, .iconst 2, 1)) t2_Mo_settle_ok (i := 48) rfl
theorem d_Mo_settle_290 : decode c_Mo_settle 290 = .ok (.iadd, 1) := dc_of (x := (290, .iadd, 1)) t2_Mo_settle_ok (i := 49) rfl
theorem d_Mo_settle_291 : decode c_Mo_settle 291 = .ok (.iaload, 1) := dc_of (x := (291, .iaload, 1)) t2_Mo_settle_ok (i := 50) rfl
theorem d_Mo_settle_292 : decode c_Mo_settle 292 = .ok (.istore 8, 2) := dc_of (x := (292, .istore 8, 2)) t2_Mo_settle_ok (i := 51) rfl
theorem d_Mo_settle_294 : decode c_Mo_settle 294 = .ok (.aload_n 0, 1) := dc_of (x := (294, .aload_n 0, 1)) t2_Mo_settle_ok (i := 52) rfl
theorem d_Mo_settle_295 : decode c_Mo_settle 295 = .ok (.getfield 7, 3) := dc_of (x := (295, .getfield 7, 3)) t2_Mo_settle_ok (i := 53) rfl
theorem d_Mo_settle_298 : decode c_Mo_settle 298 = .ok (.iload 6, 2) := dc_of (x := (298, .iload 6, 2)) t2_Mo_settle_ok (i := 54) rfl
theorem d_Mo_settle_300 : decode c_Mo_settle 300 = .ok (.iaload, 1) := dc_of (x := (300, .iaload, 1)) t2_Mo_settle_ok (i := 55) rfl
theorem d_Mo_settle_301 : decode c_Mo_settle 301 = .ok (.ifCond .ne 41, 3) := dc_of (x := (301, .ifCond .ne 41, 3)) t2_Mo_settle_ok (i := 56) rfl
theorem d_Mo_settle_304 : decode c_Mo_settle 304 = .ok (.iload 7, 2) := dc_of (x := (304, .iload 7, 2)) t2_Mo_settle_ok (i := 57) rfl
theorem d_Mo_settle_306 : decode c_Mo_settle 306 = .ok (.iload_n 1, 1) := dc_of (x := (306, .iload_n 1, 1)) t2_Mo_settle_ok (i := 58) rfl
theorem d_Mo_settle_307 : decode c_Mo_settle 307 = .ok (.if_icmp .ne 35, 3) := dc_of (x := (307, .if_icmp .ne 35, 3)) t2_Mo_settle_ok (i := 59) rfl
theorem d_Mo_settle_310 : decode c_Mo_settle 310 = .ok (.iload 4, 2) := dc_of (x := (310, .iload 4, 2)) t3_Mo_settle_ok (i := 0) rfl
theorem d_Mo_settle_312 : decode c_Mo_settle 312 = .ok (.ifCond .eq 30, 3) := dc_of (x := (312, .ifCond .eq 30, 3)) t3_Mo_settle_ok (i := 1) rfl
theorem d_Mo_settle_315 : decode c_Mo_settle 315 = .ok (.aload_n 0, 1) := dc_of (x := (315, .aload_n 0, 1)) t3_Mo_settle_ok (i := 2) rfl
theorem d_Mo_settle_316 : decode c_Mo_settle 316 = .ok (.aload_n 0, 1) := dc_of (x := (316, .aload_n 0, 1)) t3_Mo_settle_ok (i := 3) rfl
theorem d_Mo_settle_317 : decode c_Mo_settle 317 = .ok (.iload 8, 2) := dc_of (x := (317, .iload 8, 2)) t3_Mo_settle_ok (i := 4) rfl
theorem d_Mo_settle_319 : decode c_Mo_settle 319 = .ok (.iconst 5, 1) := dc_of (x := (319, .iconst 5, 1)) t3_Mo_settle_ok (i := 5) rfl
theorem d_Mo_settle_320 : decode c_Mo_settle 320 = .ok (.invokevirtual 32, 3) := dc_of (x := (320, .invokevirtual 32, 3)) t3_Mo_settle_ok (i := 6) rfl
theorem d_Mo_settle_323 : decode c_Mo_settle 323 = .ok (.aload_n 0, 1) := dc_of (x := (323, .aload_n 0, 1)) t3_Mo_settle_ok (i := 7) rfl
theorem d_Mo_settle_324 : decode c_Mo_settle 324 = .ok (.getfield 7, 3) := dc_of (x := (324, .getfield 7, 3)) t3_Mo_settle_ok (i := 8) rfl
theorem d_Mo_settle_327 : decode c_Mo_settle 327 = .ok (.iload 6, 2) := dc_of (x := (327, .iload 6, 2)) t3_Mo_settle_ok (i := 9) rfl
theorem d_Mo_settle_329 : decode c_Mo_settle 329 = .ok (.iconst 3, 1) := dc_of (x := (329, .iconst 3, 1)) t3_Mo_settle_ok (i := 10) rfl
theorem d_Mo_settle_330 : decode c_Mo_settle 330 = .ok (.iadd, 1) := dc_of (x := (330, .iadd, 1)) t3_Mo_settle_ok (i := 11) rfl
theorem d_Mo_settle_331 : decode c_Mo_settle 331 = .ok (.iaload, 1) := dc_of (x := (331, .iaload, 1)) t3_Mo_settle_ok (i := 12) rfl
theorem d_Mo_settle_332 : decode c_Mo_settle 332 = .ok (.invokevirtual 63, 3) := dc_of (x := (332, .invokevirtual 63, 3)) t3_Mo_settle_ok (i := 13) rfl
theorem d_Mo_settle_335 : decode c_Mo_settle 335 = .ok (.ifCond .eq 7, 3) := dc_of (x := (335, .ifCond .eq 7, 3)) t3_Mo_settle_ok (i := 14) rfl
theorem d_Mo_settle_338 : decode c_Mo_settle 338 = .ok (.iconst 1, 1) := dc_of (x := (338, .iconst 1, 1)) t3_Mo_settle_ok (i := 15) rfl
theorem d_Mo_settle_339 : decode c_Mo_settle 339 = .ok (.goto 4, 3) := dc_of (x := (339, .goto 4, 3)) t3_Mo_settle_ok (i := 16) rfl
theorem d_Mo_settle_342 : decode c_Mo_settle 342 = .ok (.iconst 0, 1) := dc_of (x := (342, .iconst 0, 1)) t3_Mo_settle_ok (i := 17) rfl
theorem d_Mo_settle_343 : decode c_Mo_settle 343 = .ok (.istore 9, 2) := dc_of (x := (343, .istore 9, 2)) t3_Mo_settle_ok (i := 18) rfl
theorem d_Mo_settle_345 : decode c_Mo_settle 345 = .ok (.aload_n 0, 1) := dc_of (x := (345, .aload_n 0, 1)) t3_Mo_settle_ok (i := 19) rfl
theorem d_Mo_settle_346 : decode c_Mo_settle 346 = .ok (.getfield 7, 3) := dc_of (x := (346, .getfield 7, 3)) t3_Mo_settle_ok (i := 20) rfl
theorem d_Mo_settle_349 : decode c_Mo_settle 349 = .ok (.iload 6, 2) := dc_of (x := (349, .iload 6, 2)) t3_Mo_settle_ok (i := 21) rfl
theorem d_Mo_settle_351 : decode c_Mo_settle 351 = .ok (.iaload, 1) := dc_of (x := (351, .iaload, 1)) t3_Mo_settle_ok (i := 22) rfl
theorem d_Mo_settle_352 : decode c_Mo_settle 352 = .ok (.iconst 1, 1) := dc_of (x := (352, .iconst 1, 1)) t3_Mo_settle_ok (i := 23) rfl
theorem d_Mo_settle_353 : decode c_Mo_settle 353 = .ok (.if_icmp .ne 37, 3) := dc_of (x := (353, .if_icmp .ne 37, 3)) t3_Mo_settle_ok (i := 24) rfl
theorem d_Mo_settle_356 : decode c_Mo_settle 356 = .ok (.iload 8, 2) := dc_of (x := (356, .iload 8, 2)) t3_Mo_settle_ok (i := 25) rfl
theorem d_Mo_settle_358 : decode c_Mo_settle 358 = .ok (.iload_n 1, 1) := dc_of (x := (358, .iload_n 1, 1)) t3_Mo_settle_ok (i := 26) rfl
theorem d_Mo_settle_359 : decode c_Mo_settle 359 = .ok (.if_icmp .ne 31, 3) := dc_of (x := (359, .if_icmp .ne 31, 3)) t3_Mo_settle_ok (i := 27) rfl
theorem d_Mo_settle_362 : decode c_Mo_settle 362 = .ok (.aload_n 0, 1) := dc_of (x := (362, .aload_n 0, 1)) t3_Mo_settle_ok (i := 28) rfl
theorem d_Mo_settle_363 : decode c_Mo_settle 363 = .ok (.aload_n 0, 1) := dc_of (x := (363, .aload_n 0, 1)) t3_Mo_settle_ok (i := 29) rfl
theorem d_Mo_settle_364 : decode c_Mo_settle 364 = .ok (.iload 7, 2) := dc_of (x := (364, .iload 7, 2)) t3_Mo_settle_ok (i := 30) rfl
theorem d_Mo_settle_366 : decode c_Mo_settle 366 = .ok (.bipush 6, 2) := dc_of (x := (366, .bipush 6, 2)) t3_Mo_settle_ok (i := 31) rfl
theorem d_Mo_settle_368 : decode c_Mo_settle 368 = .ok (.invokevirtual 32, 3) := dc_of (x := (368, .invokevirtual 32, 3)) t3_Mo_settle_ok (i := 32) rfl
theorem d_Mo_settle_371 : decode c_Mo_settle 371 = .ok (.aload_n 0, 1) := dc_of (x := (371, .aload_n 0, 1)) t3_Mo_settle_ok (i := 33) rfl
theorem d_Mo_settle_372 : decode c_Mo_settle 372 = .ok (.getfield 7, 3) := dc_of (x := (372, .getfield 7, 3)) t3_Mo_settle_ok (i := 34) rfl
theorem d_Mo_settle_375 : decode c_Mo_settle 375 = .ok (.iload 6, 2) := dc_of (x := (375, .iload 6, 2)) t3_Mo_settle_ok (i := 35) rfl
theorem d_Mo_settle_377 : decode c_Mo_settle 377 = .ok (.iconst 3, 1) := dc_of (x := (377, .iconst 3, 1)) t3_Mo_settle_ok (i := 36) rfl
theorem d_Mo_settle_378 : decode c_Mo_settle 378 = .ok (.iadd, 1) := dc_of (x := (378, .iadd, 1)) t3_Mo_settle_ok (i := 37) rfl
theorem d_Mo_settle_379 : decode c_Mo_settle 379 = .ok (.iaload, 1) := dc_of (x := (379, .iaload, 1)) t3_Mo_settle_ok (i := 38) rfl
theorem d_Mo_settle_380 : decode c_Mo_settle 380 = .ok (.invokevirtual 63, 3) := dc_of (x := (380, .invokevirtual 63, 3)) t3_Mo_settle_ok (i := 39) rfl
theorem d_Mo_settle_383 : decode c_Mo_settle 383 = .ok (.ifCond .eq 7, 3) := dc_of (x := (383, .ifCond .eq 7, 3)) t3_Mo_settle_ok (i := 40) rfl
theorem d_Mo_settle_386 : decode c_Mo_settle 386 = .ok (.iconst 1, 1) := dc_of (x := (386, .iconst 1, 1)) t3_Mo_settle_ok (i := 41) rfl
theorem d_Mo_settle_387 : decode c_Mo_settle 387 = .ok (.goto 4, 3) := dc_of (x := (387, .goto 4, 3)) t3_Mo_settle_ok (i := 42) rfl
theorem d_Mo_settle_390 : decode c_Mo_settle 390 = .ok (.iconst 0, 1) := dc_of (x := (390, .iconst 0, 1)) t3_Mo_settle_ok (i := 43) rfl
theorem d_Mo_settle_391 : decode c_Mo_settle 391 = .ok (.istore 10, 2) := dc_of (x := (391, .istore 10, 2)) t3_Mo_settle_ok (i := 44) rfl
theorem d_Mo_settle_393 : decode c_Mo_settle 393 = .ok (.iload 9, 2) := dc_of (x := (393, .iload 9, 2)) t3_Mo_settle_ok (i := 45) rfl
theorem d_Mo_settle_395 : decode c_Mo_settle 395 = .ok (.ifCond .ne 8, 3) := dc_of (x := (395, .ifCond .ne 8, 3)) t3_Mo_settle_ok (i := 46) rfl
theorem d_Mo_settle_398 : decode c_Mo_settle 398 = .ok (.iload 10, 2) := dc_of (x := (398, .iload 10, 2)) t3_Mo_settle_ok (i := 47) rfl
theorem d_Mo_settle_400 : decode c_Mo_settle 400 = .ok (.ifCond .eq 24, 3) := dc_of (x := (400, .ifCond .eq 24, 3)) t3_Mo_settle_ok (i := 48) rfl
theorem d_Mo_settle_403 : decode c_Mo_settle 403 = .ok (.aload_n 0, 1) := dc_of (x := (403, .aload_n 0, 1)) t3_Mo_settle_ok (i := 49) rfl
theorem d_Mo_settle_404 : decode c_Mo_settle 404 = .ok (.getfield 7, 3) := dc_of (x := (404, .getfield 7, 3)) t3_Mo_settle_ok (i := 50) rfl
theorem d_Mo_settle_407 : decode c_Mo_settle 407 = .ok (.iload 6, 2) := dc_of (x := (407, .iload 6, 2)) t3_Mo_settle_ok (i := 51) rfl
theorem d_Mo_settle_409 : decode c_Mo_settle 409 = .ok (.iconst 4, 1) := dc_of (x := (409, .iconst 4, 1)) t3_Mo_settle_ok (i := 52) rfl
theorem d_Mo_settle_410 : decode c_Mo_settle 410 = .ok (.iadd, 1) := dc_of (x := (410, .iadd, 1)) t3_Mo_settle_ok (i := 53) rfl
theorem d_Mo_settle_411 : decode c_Mo_settle 411 = .ok (.dup2, 1) := dc_of (x := (411, .dup2, 1)) t3_Mo_settle_ok (i := 54) rfl
theorem d_Mo_settle_412 : decode c_Mo_settle 412 = .ok (.iaload, 1) := dc_of (x := (412, .iaload, 1)) t3_Mo_settle_ok (i := 55) rfl
theorem d_Mo_settle_413 : decode c_Mo_settle 413 = .ok (.iconst 1, 1) := dc_of (x := (413, .iconst 1, 1)) t3_Mo_settle_ok (i := 56) rfl
theorem d_Mo_settle_414 : decode c_Mo_settle 414 = .ok (.iadd, 1) := dc_of (x := (414, .iadd, 1)) t3_Mo_settle_ok (i := 57) rfl
theorem d_Mo_settle_415 : decode c_Mo_settle 415 = .ok (.iastore, 1) := dc_of (x := (415, .iastore, 1)) t3_Mo_settle_ok (i := 58) rfl
theorem d_Mo_settle_416 : decode c_Mo_settle 416 = .ok (.aload_n 0, 1) := dc_of (x := (416, .aload_n 0, 1)) t3_Mo_settle_ok (i := 59) rfl
theorem d_Mo_settle_417 : decode c_Mo_settle 417 = .ok (.iload 7, 2) := dc_of (x := (417, .iload 7, 2)) t4_Mo_settle_ok (i := 0) rfl
theorem d_Mo_settle_419 : decode c_Mo_settle 419 = .ok (.iload 8, 2) := dc_of (x := (419, .iload 8, 2)) t4_Mo_settle_ok (i := 1) rfl
theorem d_Mo_settle_421 : decode c_Mo_settle 421 = .ok (.invokevirtual 67, 3) := dc_of (x := (421, .invokevirtual 67, 3)) t4_Mo_settle_ok (i := 2) rfl
theorem d_Mo_settle_424 : decode c_Mo_settle 424 = .ok (.iinc 5 1, 3) := dc_of (x := (424, .iinc 5 1, 3)) t4_Mo_settle_ok (i := 3) rfl
theorem d_Mo_settle_427 : decode c_Mo_settle 427 = .ok (.goto (-176), 3) := dc_of (x := (427, .goto (-176), 3)) t4_Mo_settle_ok (i := 4) rfl
theorem d_Mo_settle_430 : decode c_Mo_settle 430 = .ok (.aload_n 0, 1) := dc_of (x := (430, .aload_n 0, 1)) t4_Mo_settle_ok (i := 5) rfl
theorem d_Mo_settle_431 : decode c_Mo_settle 431 = .ok (.iload_n 1, 1) := dc_of (x := (431, .iload_n 1, 1)) t4_Mo_settle_ok (i := 6) rfl
theorem d_Mo_settle_432 : decode c_Mo_settle 432 = .ok (.iconst 5, 1) := dc_of (x := (432, .iconst 5, 1)) t4_Mo_settle_ok (i := 7) rfl
theorem d_Mo_settle_433 : decode c_Mo_settle 433 = .ok (.aload_n 0, 1) := dc_of (x := (433, .aload_n 0, 1)) t4_Mo_settle_ok (i := 8) rfl
theorem d_Mo_settle_434 : decode c_Mo_settle 434 = .ok (.getfield 7, 3) := dc_of (x := (434, .getfield 7, 3)) t4_Mo_settle_ok (i := 9) rfl
theorem d_Mo_settle_437 : decode c_Mo_settle 437 = .ok (.iconst 0, 1) := dc_of (x := (437, .iconst 0, 1)) t4_Mo_settle_ok (i := 10) rfl
theorem d_Mo_settle_438 : decode c_Mo_settle 438 = .ok (.iaload, 1) := dc_of (x := (438, .iaload, 1)) t4_Mo_settle_ok (i := 11) rfl
theorem d_Mo_settle_439 : decode c_Mo_settle 439 = .ok (.invokevirtual 53, 3) := dc_of (x := (439, .invokevirtual 53, 3)) t4_Mo_settle_ok (i := 12) rfl
theorem d_Mo_settle_442 : decode c_Mo_settle 442 = .ok (.iload 4, 2) := dc_of (x := (442, .iload 4, 2)) t4_Mo_settle_ok (i := 13) rfl
theorem d_Mo_settle_444 : decode c_Mo_settle 444 = .ok (.ifCond .eq 16, 3) := dc_of (x := (444, .ifCond .eq 16, 3)) t4_Mo_settle_ok (i := 14) rfl
theorem d_Mo_settle_447 : decode c_Mo_settle 447 = .ok (.aload_n 0, 1) := dc_of (x := (447, .aload_n 0, 1)) t4_Mo_settle_ok (i := 15) rfl
theorem d_Mo_settle_448 : decode c_Mo_settle 448 = .ok (.iload_n 1, 1) := dc_of (x := (448, .iload_n 1, 1)) t4_Mo_settle_ok (i := 16) rfl
theorem d_Mo_settle_449 : decode c_Mo_settle 449 = .ok (.bipush 6, 2) := dc_of (x := (449, .bipush 6, 2)) t4_Mo_settle_ok (i := 17) rfl
theorem d_Mo_settle_451 : decode c_Mo_settle 451 = .ok (.aload_n 0, 1) := dc_of (x := (451, .aload_n 0, 1)) t4_Mo_settle_ok (i := 18) rfl
theorem d_Mo_settle_452 : decode c_Mo_settle 452 = .ok (.getfield 7, 3) := dc_of (x := (452, .getfield 7, 3)) t4_Mo_settle_ok (i := 19) rfl
theorem d_Mo_settle_455 : decode c_Mo_settle 455 = .ok (.iconst 0, 1) := dc_of (x := (455, .iconst 0, 1)) t4_Mo_settle_ok (i := 20) rfl
theorem d_Mo_settle_456 : decode c_Mo_settle 456 = .ok (.iaload, 1) := dc_of (x := (456, .iaload, 1)) t4_Mo_settle_ok (i := 21) rfl
theorem d_Mo_settle_457 : decode c_Mo_settle 457 = .ok (.invokevirtual 53, 3) := dc_of (x := (457, .invokevirtual 53, 3)) t4_Mo_settle_ok (i := 22) rfl
theorem d_Mo_settle_460 : decode c_Mo_settle 460 = .ok (.return_, 1) := dc_of (x := (460, .return_, 1)) t4_Mo_settle_ok (i := 23) rfl
def t0_Mo_near : List (Nat × Instr × Nat) := [(0, .iload_n 1, 1), (1, .iconst (-1), 1), (2, .if_icmp .eq 19, 3), (5, .aload_n 0, 1), (6, .getfield 7, 3), (9, .iconst 0, 1), (10, .iaload, 1), (11, .iload_n 1, 1), (12, .isub, 1), (13, .iload_n 2, 1), (14, .if_icmp .ge 7, 3), (17, .iconst 1, 1), (18, .goto 4, 3), (21, .iconst 0, 1), (22, .ireturn, 1)]
theorem t0_Mo_near_ok : t0_Mo_near.all (fun x => decide (decode c_Mo_near x.1 = .ok x.2)) = true := by decide +kernel
theorem d_Mo_near_0 : decode c_Mo_near 0 = .ok (.iload_n 1, 1) := dc_of (x := (0, .iload_n 1, 1)) t0_Mo_near_ok (i := 0) rfl
theorem d_Mo_near_1 : decode c_Mo_near 1 = .ok (.iconst (-1), 1) := dc_of (x := (1, .iconst (-1), 1)) t0_Mo_near_ok (i := 1) rfl
theorem d_Mo_near_2 : decode c_Mo_near 2 = .ok (.if_icmp .eq 19, 3) := dc_of (x := (2, .if_icmp .eq 19, 3)) t0_Mo_near_ok (i := 2) rfl
theorem d_Mo_near_5 : decode c_Mo_near 5 = .ok (.aload_n 0, 1) := dc_of (x := (5, .aload_n 0, 1)) t0_Mo_near_ok (i := 3) rfl
theorem d_Mo_near_6 : decode c_Mo_near 6 = .ok (.getfield 7, 3) := dc_of (x := (6, .getfield 7, 3)) t0_Mo_near_ok (i := 4) rfl
theorem d_Mo_near_9 : decode c_Mo_near 9 = .ok (.iconst 0, 1) := dc_of (x := (9, .iconst 0, 1)) t0_Mo_near_ok (i := 5) rfl
theorem d_Mo_near_10 : decode c_Mo_near 10 = .ok (.iaload, 1) := dc_of (x := (10, .iaload, 1)) t0_Mo_near_ok (i := 6) rfl
theorem d_Mo_near_11 : decode c_Mo_near 11 = .ok (.iload_n 1, 1) := dc_of (x := (11, .iload_n 1, 1)) t0_Mo_near_ok (i := 7) rfl
theorem d_Mo_near_12 : decode c_Mo_near 12 = .ok (.isub, 1) := dc_of (x := (12, .isub, 1)) t0_Mo_near_ok (i := 8) rfl
theorem d_Mo_near_13 : decode c_Mo_near 13 = .ok (.iload_n 2, 1) := dc_of (x := (13, .iload_n 2, 1)) t0_Mo_near_ok (i := 9) rfl
theorem d_Mo_near_14 : decode c_Mo_near 14 = .ok (.if_icmp .ge 7, 3) := dc_of (x := (14, .if_icmp .ge 7, 3)) t0_Mo_near_ok (i := 10) rfl
theorem d_Mo_near_17 : decode c_Mo_near 17 = .ok (.iconst 1, 1) := dc_of (x := (17, .iconst 1, 1)) t0_Mo_near_ok (i := 11) rfl
theorem d_Mo_near_18 : decode c_Mo_near 18 = .ok (.goto 4, 3) := dc_of (x := (18, .goto 4, 3)) t0_Mo_near_ok (i := 12) rfl
theorem d_Mo_near_21 : decode c_Mo_near 21 = .ok (.iconst 0, 1) := dc_of (x := (21, .iconst 0, 1)) t0_Mo_near_ok (i := 13) rfl
theorem d_Mo_near_22 : decode c_Mo_near 22 = .ok (.ireturn, 1) := dc_of (x := (22, .ireturn, 1)) t0_Mo_near_ok (i := 14) rfl
def t0_Mo_spoil : List (Nat × Instr × Nat) := [(0, .iconst 0, 1), (1, .istore_n 3, 1), (2, .iload_n 3, 1), (3, .aload_n 0, 1), (4, .getfield 7, 3), (7, .iconst 3, 1), (8, .iaload, 1), (9, .if_icmp .ge 46, 3), (12, .aload_n 0, 1), (13, .iload_n 3, 1), (14, .iconst 0, 1), (15, .invokevirtual 36, 3), (18, .bipush 7, 2), (20, .if_icmp .ne 29, 3), (23, .aload_n 0, 1), (24, .iload_n 3, 1), (25, .iconst 2, 1), (26, .invokevirtual 36, 3), (29, .iload_n 1, 1), (30, .if_icmp .ne 19, 3), (33, .aload_n 0, 1), (34, .iload_n 3, 1), (35, .iconst 1, 1), (36, .invokevirtual 36, 3), (39, .iload_n 2, 1), (40, .if_icmp .ne 9, 3), (43, .aload_n 0, 1), (44, .iload_n 3, 1), (45, .iconst 2, 1), (46, .invokevirtual 59, 3), (49, .iinc 3 1, 3), (52, .goto (-50), 3), (55, .return_, 1)]
theorem t0_Mo_spoil_ok : t0_Mo_spoil.all (fun x => decide (decode c_Mo_spoil x.1 = .ok x.2)) = true := by decide +kernel
theorem d_Mo_spoil_0 : decode c_Mo_spoil 0 = .ok (.iconst 0, 1) := dc_of (x := (0, .iconst 0, 1)) t0_Mo_spoil_ok (i := 0) rfl
theorem d_Mo_spoil_1 : decode c_Mo_spoil 1 = .ok (.istore_n 3, 1) := dc_of (x := (1, .istore_n 3, 1)) t0_Mo_spoil_ok (i := 1) rfl
theorem d_Mo_spoil_2 : decode c_Mo_spoil 2 = .ok (.iload_n 3, 1) := dc_of (x := (2, .iload_n 3, 1)) t0_Mo_spoil_ok (i := 2) rfl
theorem d_Mo_spoil_3 : decode c_Mo_spoil 3 = .ok (.aload_n 0, 1) := dc_of (x := (3, .aload_n 0, 1)) t0_Mo_spoil_ok (i := 3) rfl
theorem d_Mo_spoil_4 : decode c_Mo_spoil 4 = .ok (.getfield 7, 3) := dc_of (x := (4, .getfield 7, 3)) t0_Mo_spoil_ok (i := 4) rfl
theorem d_Mo_spoil_7 : decode c_Mo_spoil 7 = .ok (.iconst 3, 1) := dc_of (x := (7, .iconst 3, 1)) t0_Mo_spoil_ok (i := 5) rfl
theorem d_Mo_spoil_8 : decode c_Mo_spoil 8 = .ok (.iaload, 1) := dc_of (x := (8, .iaload, 1)) t0_Mo_spoil_ok (i := 6) rfl
theorem d_Mo_spoil_9 : decode c_Mo_spoil 9 = .ok (.if_icmp .ge 46, 3) := dc_of (x := (9, .if_icmp .ge 46, 3)) t0_Mo_spoil_ok (i := 7) rfl
theorem d_Mo_spoil_12 : decode c_Mo_spoil 12 = .ok (.aload_n 0, 1) := dc_of (x := (12, .aload_n 0, 1)) t0_Mo_spoil_ok (i := 8) rfl
theorem d_Mo_spoil_13 : decode c_Mo_spoil 13 = .ok (.iload_n 3, 1) := dc_of (x := (13, .iload_n 3, 1)) t0_Mo_spoil_ok (i := 9) rfl
theorem d_Mo_spoil_14 : decode c_Mo_spoil 14 = .ok (.iconst 0, 1) := dc_of (x := (14, .iconst 0, 1)) t0_Mo_spoil_ok (i := 10) rfl
theorem d_Mo_spoil_15 : decode c_Mo_spoil 15 = .ok (.invokevirtual 36, 3) := dc_of (x := (15, .invokevirtual 36, 3)) t0_Mo_spoil_ok (i := 11) rfl
theorem d_Mo_spoil_18 : decode c_Mo_spoil 18 = .ok (.bipush 7, 2) := dc_of (x := (18, .bipush 7, 2)) t0_Mo_spoil_ok (i := 12) rfl
theorem d_Mo_spoil_20 : decode c_Mo_spoil 20 = .ok (.if_icmp .ne 29, 3) := dc_of (x := (20, .if_icmp .ne 29, 3)) t0_Mo_spoil_ok (i := 13) rfl
theorem d_Mo_spoil_23 : decode c_Mo_spoil 23 = .ok (.aload_n 0, 1) := dc_of (x := (23, .aload_n 0, 1)) t0_Mo_spoil_ok (i := 14) rfl
theorem d_Mo_spoil_24 : decode c_Mo_spoil 24 = .ok (.iload_n 3, 1) := dc_of (x := (24, .iload_n 3, 1)) t0_Mo_spoil_ok (i := 15) rfl
theorem d_Mo_spoil_25 : decode c_Mo_spoil 25 = .ok (.iconst 2, 1) := dc_of (x := (25, .iconst 2, 1)) t0_Mo_spoil_ok (i := 16) rfl
theorem d_Mo_spoil_26 : decode c_Mo_spoil 26 = .ok (.invokevirtual 36, 3) := dc_of (x := (26, .invokevirtual 36, 3)) t0_Mo_spoil_ok (i := 17) rfl
theorem d_Mo_spoil_29 : decode c_Mo_spoil 29 = .ok (.iload_n 1, 1) := dc_of (x := (29, .iload_n 1, 1)) t0_Mo_spoil_ok (i := 18) rfl
theorem d_Mo_spoil_30 : decode c_Mo_spoil 30 = .ok (.if_icmp .ne 19, 3) := dc_of (x := (30, .if_icmp .ne 19, 3)) t0_Mo_spoil_ok (i := 19) rfl
theorem d_Mo_spoil_33 : decode c_Mo_spoil 33 = .ok (.aload_n 0, 1) := dc_of (x := (33, .aload_n 0, 1)) t0_Mo_spoil_ok (i := 20) rfl
theorem d_Mo_spoil_34 : decode c_Mo_spoil 34 = .ok (.iload_n 3, 1) := dc_of (x := (34, .iload_n 3, 1)) t0_Mo_spoil_ok (i := 21) rfl
theorem d_Mo_spoil_35 : decode c_Mo_spoil 35 = .ok (.iconst 1, 1) := dc_of (x := (35, .iconst 1, 1)) t0_Mo_spoil_ok (i := 22) rfl
theorem d_Mo_spoil_36 : decode c_Mo_spoil 36 = .ok (.invokevirtual 36, 3) := dc_of (x := (36, .invokevirtual 36, 3)) t0_Mo_spoil_ok (i := 23) rfl
theorem d_Mo_spoil_39 : decode c_Mo_spoil 39 = .ok (.iload_n 2, 1) := dc_of (x := (39, .iload_n 2, 1)) t0_Mo_spoil_ok (i := 24) rfl
theorem d_Mo_spoil_40 : decode c_Mo_spoil 40 = .ok (.if_icmp .ne 9, 3) := dc_of (x := (40, .if_icmp .ne 9, 3)) t0_Mo_spoil_ok (i := 25) rfl
theorem d_Mo_spoil_43 : decode c_Mo_spoil 43 = .ok (.aload_n 0, 1) := dc_of (x := (43, .aload_n 0, 1)) t0_Mo_spoil_ok (i := 26) rfl
theorem d_Mo_spoil_44 : decode c_Mo_spoil 44 = .ok (.iload_n 3, 1) := dc_of (x := (44, .iload_n 3, 1)) t0_Mo_spoil_ok (i := 27) rfl
theorem d_Mo_spoil_45 : decode c_Mo_spoil 45 = .ok (.iconst 2, 1) := dc_of (x := (45, .iconst 2, 1)) t0_Mo_spoil_ok (i := 28) rfl
theorem d_Mo_spoil_46 : decode c_Mo_spoil 46 = .ok (.invokevirtual 59, 3) := dc_of (x := (46, .invokevirtual 59, 3)) t0_Mo_spoil_ok (i := 29) rfl
theorem d_Mo_spoil_49 : decode c_Mo_spoil 49 = .ok (.iinc 3 1, 3) := dc_of (x := (49, .iinc 3 1, 3)) t0_Mo_spoil_ok (i := 30) rfl
theorem d_Mo_spoil_52 : decode c_Mo_spoil 52 = .ok (.goto (-50), 3) := dc_of (x := (52, .goto (-50), 3)) t0_Mo_spoil_ok (i := 31) rfl
theorem d_Mo_spoil_55 : decode c_Mo_spoil 55 = .ok (.return_, 1) := dc_of (x := (55, .return_, 1)) t0_Mo_spoil_ok (i := 32) rfl
def t0_Mo_net : List (Nat × Instr × Nat) := [(0, .aload_n 0, 1), (1, .aload_n 0, 1), (2, .getfield 7, 3), (5, .iconst 2, 1), (6, .iaload, 1), (7, .bipush 24, 2), (9, .if_icmp .ne 7, 3), (12, .iconst 1, 1), (13, .goto 4, 3), (16, .iconst 0, 1), (17, .putfield 28, 3), (20, .aload_n 0, 1), (21, .getfield 28, 3), (24, .ifCond .le 5, 3), (27, .iconst 0, 1), (28, .ireturn, 1), (29, .aload_n 0, 1), (30, .getfield 7, 3), (33, .iconst 2, 1), (34, .iaload, 1), (35, .istore_n 1, 1), (36, .aload_n 0, 1), (37, .getfield 7, 3), (40, .iconst 2, 1), (41, .dup2, 1), (42, .iaload, 1), (43, .iconst 1, 1), (44, .iadd, 1), (45, .iastore, 1), (46, .aload_n 0, 1), (47, .iload_n 1, 1), (48, .iconst 0, 1), (49, .iconst 2, 1), (50, .invokevirtual 53, 3), (53, .aload_n 0, 1), (54, .iload_n 1, 1), (55, .iconst 1, 1), (56, .iconst 3, 1), (57, .invokevirtual 53, 3), (60, .aload_n 0, 1), (61, .iload_n 1, 1), (62, .iconst 2, 1), (63, .iconst (-1), 1), (64, .invokevirtual 53, 3), (67, .aload_n 0, 1), (68, .iload_n 1, 1), (69, .iconst 3, 1), (70, .iconst 0, 1), (71, .invokevirtual 53, 3), (74, .aload_n 0, 1), (75, .iload_n 1, 1), (76, .iconst 4, 1), (77, .iconst 0, 1), (78, .invokevirtual 53, 3), (81, .aload_n 0, 1), (82, .iload_n 1, 1), (83, .iconst 5, 1), (84, .iconst (-1), 1), (85, .invokevirtual 53, 3), (88, .aload_n 0, 1)]
theorem t0_Mo_net_ok : t0_Mo_net.all (fun x => decide (decode c_Mo_net x.1 = .ok x.2)) = true := by decide +kernel
def t1_Mo_net : List (Nat × Instr × Nat) := [(89, .iload_n 1, 1), (90, .bipush 6, 2), (92, .iconst (-1), 1), (93, .invokevirtual 53, 3), (96, .iload_n 1, 1), (97, .ireturn, 1)]
theorem t1_Mo_net_ok : t1_Mo_net.all (fun x => decide (decode c_Mo_net x.1 = .ok x.2)) = true := by decide +kernel
theorem d_Mo_net_0 : decode c_Mo_net 0 = .ok (.aload_n 0, 1) := dc_of (x := (0, .aload_n 0, 1)) t0_Mo_net_ok (i := 0) rfl
theorem d_Mo_net_1 : decode c_Mo_net 1 = .ok (.aload_n 0, 1) := dc_of (x := (1, .aload_n 0, 1)) t0_Mo_net_ok (i := 1) rfl
theorem d_Mo_net_2 : decode c_Mo_net 2 = .ok (.getfield 7, 3) := dc_of (x := (2, .getfield 7, 3)) t0_Mo_net_ok (i := 2) rfl
theorem d_Mo_net_5 : decode c_Mo_net 5 = .ok (.iconst 2, 1) := dc_of (x := (5, .iconst 2, 1)) t0_Mo_net_ok (i := 3) rfl
theorem d_Mo_net_6 : decode c_Mo_net 6 = .ok (.iaload, 1) := dc_of (x := (6, .iaload, 1)) t0_Mo_net_ok (i := 4) rfl
theorem d_Mo_net_7 : decode c_Mo_net 7 = .ok (.bipush 24, 2) := dc_of (x := (7, .bipush 24, 2)) t0_Mo_net_ok (i := 5) rfl
theorem d_Mo_net_9 : decode c_Mo_net 9 = .ok (.if_icmp .ne 7, 3) := dc_of (x := (9, .if_icmp .ne 7, 3)) t0_Mo_net_ok (i := 6) rfl
theorem d_Mo_net_12 : decode c_Mo_net 12 = .ok (.iconst 1, 1) := dc_of (x := (12, .iconst 1, 1)) t0_Mo_net_ok (i := 7) rfl
theorem d_Mo_net_13 : decode c_Mo_net 13 = .ok (.goto 4, 3) := dc_of (x := (13, .goto 4, 3)) t0_Mo_net_ok (i := 8) rfl
theorem d_Mo_net_16 : decode c_Mo_net 16 = .ok (.iconst 0, 1) := dc_of (x := (16, .iconst 0, 1)) t0_Mo_net_ok (i := 9) rfl
theorem d_Mo_net_17 : decode c_Mo_net 17 = .ok (.putfield 28, 3) := dc_of (x := (17, .putfield 28, 3)) t0_Mo_net_ok (i := 10) rfl
theorem d_Mo_net_20 : decode c_Mo_net 20 = .ok (.aload_n 0, 1) := dc_of (x := (20, .aload_n 0, 1)) t0_Mo_net_ok (i := 11) rfl
theorem d_Mo_net_21 : decode c_Mo_net 21 = .ok (.getfield 28, 3) := dc_of (x := (21, .getfield 28, 3)) t0_Mo_net_ok (i := 12) rfl
theorem d_Mo_net_24 : decode c_Mo_net 24 = .ok (.ifCond .le 5, 3) := dc_of (x := (24, .ifCond .le 5, 3)) t0_Mo_net_ok (i := 13) rfl
theorem d_Mo_net_27 : decode c_Mo_net 27 = .ok (.iconst 0, 1) := dc_of (x := (27, .iconst 0, 1)) t0_Mo_net_ok (i := 14) rfl
theorem d_Mo_net_28 : decode c_Mo_net 28 = .ok (.ireturn, 1) := dc_of (x := (28, .ireturn, 1)) t0_Mo_net_ok (i := 15) rfl
theorem d_Mo_net_29 : decode c_Mo_net 29 = .ok (.aload_n 0, 1) := dc_of (x := (29, .aload_n 0, 1)) t0_Mo_net_ok (i := 16) rfl
theorem d_Mo_net_30 : decode c_Mo_net 30 = .ok (.getfield 7, 3) := dc_of (x := (30, .getfield 7, 3)) t0_Mo_net_ok (i := 17) rfl
theorem d_Mo_net_33 : decode c_Mo_net 33 = .ok (.iconst 2, 1) := dc_of (x := (33, .iconst 2, 1)) t0_Mo_net_ok (i := 18) rfl
theorem d_Mo_net_34 : decode c_Mo_net 34 = .ok (.iaload, 1) := dc_of (x := (34, .iaload, 1)) t0_Mo_net_ok (i := 19) rfl
theorem d_Mo_net_35 : decode c_Mo_net 35 = .ok (.istore_n 1, 1) := dc_of (x := (35, .istore_n 1, 1)) t0_Mo_net_ok (i := 20) rfl
theorem d_Mo_net_36 : decode c_Mo_net 36 = .ok (.aload_n 0, 1) := dc_of (x := (36, .aload_n 0, 1)) t0_Mo_net_ok (i := 21) rfl
theorem d_Mo_net_37 : decode c_Mo_net 37 = .ok (.getfield 7, 3) := dc_of (x := (37, .getfield 7, 3)) t0_Mo_net_ok (i := 22) rfl
theorem d_Mo_net_40 : decode c_Mo_net 40 = .ok (.iconst 2, 1) := dc_of (x := (40, .iconst 2, 1)) t0_Mo_net_ok (i := 23) rfl
theorem d_Mo_net_41 : decode c_Mo_net 41 = .ok (.dup2, 1) := dc_of (x := (41, .dup2, 1)) t0_Mo_net_ok (i := 24) rfl
theorem d_Mo_net_42 : decode c_Mo_net 42 = .ok (.iaload, 1) := dc_of (x := (42, .iaload, 1)) t0_Mo_net_ok (i := 25) rfl
theorem d_Mo_net_43 : decode c_Mo_net 43 = .ok (.iconst 1, 1) := dc_of (x := (43, .iconst 1, 1)) t0_Mo_net_ok (i := 26) rfl
theorem d_Mo_net_44 : decode c_Mo_net 44 = .ok (.iadd, 1) := dc_of (x := (44, .iadd, 1)) t0_Mo_net_ok (i := 27) rfl
theorem d_Mo_net_45 : decode c_Mo_net 45 = .ok (.iastore, 1) := dc_of (x := (45, .iastore, 1)) t0_Mo_net_ok (i := 28) rfl
theorem d_Mo_net_46 : decode c_Mo_net 46 = .ok (.aload_n 0, 1) := dc_of (x := (46, .aload_n 0, 1)) t0_Mo_net_ok (i := 29) rfl
theorem d_Mo_net_47 : decode c_Mo_net 47 = .ok (.iload_n 1, 1) := dc_of (x := (47, .iload_n 1, 1)) t0_Mo_net_ok (i := 30) rfl
theorem d_Mo_net_48 : decode c_Mo_net 48 = .ok (.iconst 0, 1) := dc_of (x := (48, .iconst 0, 1)) t0_Mo_net_ok (i := 31) rfl
theorem d_Mo_net_49 : decode c_Mo_net 49 = .ok (.iconst 2, 1) := dc_of (x := (49, .iconst 2, 1)) t0_Mo_net_ok (i := 32) rfl
theorem d_Mo_net_50 : decode c_Mo_net 50 = .ok (.invokevirtual 53, 3) := dc_of (x := (50, .invokevirtual 53, 3)) t0_Mo_net_ok (i := 33) rfl
theorem d_Mo_net_53 : decode c_Mo_net 53 = .ok (.aload_n 0, 1) := dc_of (x := (53, .aload_n 0, 1)) t0_Mo_net_ok (i := 34) rfl
theorem d_Mo_net_54 : decode c_Mo_net 54 = .ok (.iload_n 1, 1) := dc_of (x := (54, .iload_n 1, 1)) t0_Mo_net_ok (i := 35) rfl
theorem d_Mo_net_55 : decode c_Mo_net 55 = .ok (.iconst 1, 1) := dc_of (x := (55, .iconst 1, 1)) t0_Mo_net_ok (i := 36) rfl
theorem d_Mo_net_56 : decode c_Mo_net 56 = .ok (.iconst 3, 1) := dc_of (x := (56, .iconst 3, 1)) t0_Mo_net_ok (i := 37) rfl
theorem d_Mo_net_57 : decode c_Mo_net 57 = .ok (.invokevirtual 53, 3) := dc_of (x := (57, .invokevirtual 53, 3)) t0_Mo_net_ok (i := 38) rfl
theorem d_Mo_net_60 : decode c_Mo_net 60 = .ok (.aload_n 0, 1) := dc_of (x := (60, .aload_n 0, 1)) t0_Mo_net_ok (i := 39) rfl
theorem d_Mo_net_61 : decode c_Mo_net 61 = .ok (.iload_n 1, 1) := dc_of (x := (61, .iload_n 1, 1)) t0_Mo_net_ok (i := 40) rfl
theorem d_Mo_net_62 : decode c_Mo_net 62 = .ok (.iconst 2, 1) := dc_of (x := (62, .iconst 2, 1)) t0_Mo_net_ok (i := 41) rfl
theorem d_Mo_net_63 : decode c_Mo_net 63 = .ok (.iconst (-1), 1) := dc_of (x := (63, .iconst (-1), 1)) t0_Mo_net_ok (i := 42) rfl
theorem d_Mo_net_64 : decode c_Mo_net 64 = .ok (.invokevirtual 53, 3) := dc_of (x := (64, .invokevirtual 53, 3)) t0_Mo_net_ok (i := 43) rfl
theorem d_Mo_net_67 : decode c_Mo_net 67 = .ok (.aload_n 0, 1) := dc_of (x := (67, .aload_n 0, 1)) t0_Mo_net_ok (i := 44) rfl
theorem d_Mo_net_68 : decode c_Mo_net 68 = .ok (.iload_n 1, 1) := dc_of (x := (68, .iload_n 1, 1)) t0_Mo_net_ok (i := 45) rfl
theorem d_Mo_net_69 : decode c_Mo_net 69 = .ok (.iconst 3, 1) := dc_of (x := (69, .iconst 3, 1)) t0_Mo_net_ok (i := 46) rfl
theorem d_Mo_net_70 : decode c_Mo_net 70 = .ok (.iconst 0, 1) := dc_of (x := (70, .iconst 0, 1)) t0_Mo_net_ok (i := 47) rfl
theorem d_Mo_net_71 : decode c_Mo_net 71 = .ok (.invokevirtual 53, 3) := dc_of (x := (71, .invokevirtual 53, 3)) t0_Mo_net_ok (i := 48) rfl
theorem d_Mo_net_74 : decode c_Mo_net 74 = .ok (.aload_n 0, 1) := dc_of (x := (74, .aload_n 0, 1)) t0_Mo_net_ok (i := 49) rfl
theorem d_Mo_net_75 : decode c_Mo_net 75 = .ok (.iload_n 1, 1) := dc_of (x := (75, .iload_n 1, 1)) t0_Mo_net_ok (i := 50) rfl
theorem d_Mo_net_76 : decode c_Mo_net 76 = .ok (.iconst 4, 1) := dc_of (x := (76, .iconst 4, 1)) t0_Mo_net_ok (i := 51) rfl
theorem d_Mo_net_77 : decode c_Mo_net 77 = .ok (.iconst 0, 1) := dc_of (x := (77, .iconst 0, 1)) t0_Mo_net_ok (i := 52) rfl
theorem d_Mo_net_78 : decode c_Mo_net 78 = .ok (.invokevirtual 53, 3) := dc_of (x := (78, .invokevirtual 53, 3)) t0_Mo_net_ok (i := 53) rfl
theorem d_Mo_net_81 : decode c_Mo_net 81 = .ok (.aload_n 0, 1) := dc_of (x := (81, .aload_n 0, 1)) t0_Mo_net_ok (i := 54) rfl
theorem d_Mo_net_82 : decode c_Mo_net 82 = .ok (.iload_n 1, 1) := dc_of (x := (82, .iload_n 1, 1)) t0_Mo_net_ok (i := 55) rfl
theorem d_Mo_net_83 : decode c_Mo_net 83 = .ok (.iconst 5, 1) := dc_of (x := (83, .iconst 5, 1)) t0_Mo_net_ok (i := 56) rfl
theorem d_Mo_net_84 : decode c_Mo_net 84 = .ok (.iconst (-1), 1) := dc_of (x := (84, .iconst (-1), 1)) t0_Mo_net_ok (i := 57) rfl
theorem d_Mo_net_85 : decode c_Mo_net 85 = .ok (.invokevirtual 53, 3) := dc_of (x := (85, .invokevirtual 53, 3)) t0_Mo_net_ok (i := 58) rfl
theorem d_Mo_net_88 : decode c_Mo_net 88 = .ok (.aload_n 0, 1) := dc_of (x := (88, .aload_n 0, 1)) t0_Mo_net_ok (i := 59) rfl
theorem d_Mo_net_89 : decode c_Mo_net 89 = .ok (.iload_n 1, 1) := dc_of (x := (89, .iload_n 1, 1)) t1_Mo_net_ok (i := 0) rfl
theorem d_Mo_net_90 : decode c_Mo_net 90 = .ok (.bipush 6, 2) := dc_of (x := (90, .bipush 6, 2)) t1_Mo_net_ok (i := 1) rfl
theorem d_Mo_net_92 : decode c_Mo_net 92 = .ok (.iconst (-1), 1) := dc_of (x := (92, .iconst (-1), 1)) t1_Mo_net_ok (i := 2) rfl
theorem d_Mo_net_93 : decode c_Mo_net 93 = .ok (.invokevirtual 53, 3) := dc_of (x := (93, .invokevirtual 53, 3)) t1_Mo_net_ok (i := 3) rfl
theorem d_Mo_net_96 : decode c_Mo_net 96 = .ok (.iload_n 1, 1) := dc_of (x := (96, .iload_n 1, 1)) t1_Mo_net_ok (i := 4) rfl
theorem d_Mo_net_97 : decode c_Mo_net 97 = .ok (.ireturn, 1) := dc_of (x := (97, .ireturn, 1)) t1_Mo_net_ok (i := 5) rfl
def t0_Mo_isNet : List (Nat × Instr × Nat) := [(0, .iload_n 1, 1), (1, .ifCond .lt 17, 3), (4, .iload_n 1, 1), (5, .aload_n 0, 1), (6, .getfield 7, 3), (9, .iconst 2, 1), (10, .iaload, 1), (11, .if_icmp .ge 7, 3), (14, .iconst 1, 1), (15, .goto 4, 3), (18, .iconst 0, 1), (19, .ireturn, 1)]
theorem t0_Mo_isNet_ok : t0_Mo_isNet.all (fun x => decide (decode c_Mo_isNet x.1 = .ok x.2)) = true := by decide +kernel
theorem d_Mo_isNet_0 : decode c_Mo_isNet 0 = .ok (.iload_n 1, 1) := dc_of (x := (0, .iload_n 1, 1)) t0_Mo_isNet_ok (i := 0) rfl
theorem d_Mo_isNet_1 : decode c_Mo_isNet 1 = .ok (.ifCond .lt 17, 3) := dc_of (x := (1, .ifCond .lt 17, 3)) t0_Mo_isNet_ok (i := 1) rfl
theorem d_Mo_isNet_4 : decode c_Mo_isNet 4 = .ok (.iload_n 1, 1) := dc_of (x := (4, .iload_n 1, 1)) t0_Mo_isNet_ok (i := 2) rfl
theorem d_Mo_isNet_5 : decode c_Mo_isNet 5 = .ok (.aload_n 0, 1) := dc_of (x := (5, .aload_n 0, 1)) t0_Mo_isNet_ok (i := 3) rfl
theorem d_Mo_isNet_6 : decode c_Mo_isNet 6 = .ok (.getfield 7, 3) := dc_of (x := (6, .getfield 7, 3)) t0_Mo_isNet_ok (i := 4) rfl
theorem d_Mo_isNet_9 : decode c_Mo_isNet 9 = .ok (.iconst 2, 1) := dc_of (x := (9, .iconst 2, 1)) t0_Mo_isNet_ok (i := 5) rfl
theorem d_Mo_isNet_10 : decode c_Mo_isNet 10 = .ok (.iaload, 1) := dc_of (x := (10, .iaload, 1)) t0_Mo_isNet_ok (i := 6) rfl
theorem d_Mo_isNet_11 : decode c_Mo_isNet 11 = .ok (.if_icmp .ge 7, 3) := dc_of (x := (11, .if_icmp .ge 7, 3)) t0_Mo_isNet_ok (i := 7) rfl
theorem d_Mo_isNet_14 : decode c_Mo_isNet 14 = .ok (.iconst 1, 1) := dc_of (x := (14, .iconst 1, 1)) t0_Mo_isNet_ok (i := 8) rfl
theorem d_Mo_isNet_15 : decode c_Mo_isNet 15 = .ok (.goto 4, 3) := dc_of (x := (15, .goto 4, 3)) t0_Mo_isNet_ok (i := 9) rfl
theorem d_Mo_isNet_18 : decode c_Mo_isNet 18 = .ok (.iconst 0, 1) := dc_of (x := (18, .iconst 0, 1)) t0_Mo_isNet_ok (i := 10) rfl
theorem d_Mo_isNet_19 : decode c_Mo_isNet 19 = .ok (.ireturn, 1) := dc_of (x := (19, .ireturn, 1)) t0_Mo_isNet_ok (i := 11) rfl
def t0_Mo_isGate : List (Nat × Instr × Nat) := [(0, .iload_n 1, 1), (1, .ifCond .lt 17, 3), (4, .iload_n 1, 1), (5, .aload_n 0, 1), (6, .getfield 7, 3), (9, .iconst 3, 1), (10, .iaload, 1), (11, .if_icmp .ge 7, 3), (14, .iconst 1, 1), (15, .goto 4, 3), (18, .iconst 0, 1), (19, .ireturn, 1)]
theorem t0_Mo_isGate_ok : t0_Mo_isGate.all (fun x => decide (decode c_Mo_isGate x.1 = .ok x.2)) = true := by decide +kernel
theorem d_Mo_isGate_0 : decode c_Mo_isGate 0 = .ok (.iload_n 1, 1) := dc_of (x := (0, .iload_n 1, 1)) t0_Mo_isGate_ok (i := 0) rfl
theorem d_Mo_isGate_1 : decode c_Mo_isGate 1 = .ok (.ifCond .lt 17, 3) := dc_of (x := (1, .ifCond .lt 17, 3)) t0_Mo_isGate_ok (i := 1) rfl
theorem d_Mo_isGate_4 : decode c_Mo_isGate 4 = .ok (.iload_n 1, 1) := dc_of (x := (4, .iload_n 1, 1)) t0_Mo_isGate_ok (i := 2) rfl
theorem d_Mo_isGate_5 : decode c_Mo_isGate 5 = .ok (.aload_n 0, 1) := dc_of (x := (5, .aload_n 0, 1)) t0_Mo_isGate_ok (i := 3) rfl
theorem d_Mo_isGate_6 : decode c_Mo_isGate 6 = .ok (.getfield 7, 3) := dc_of (x := (6, .getfield 7, 3)) t0_Mo_isGate_ok (i := 4) rfl
theorem d_Mo_isGate_9 : decode c_Mo_isGate 9 = .ok (.iconst 3, 1) := dc_of (x := (9, .iconst 3, 1)) t0_Mo_isGate_ok (i := 5) rfl
theorem d_Mo_isGate_10 : decode c_Mo_isGate 10 = .ok (.iaload, 1) := dc_of (x := (10, .iaload, 1)) t0_Mo_isGate_ok (i := 6) rfl
theorem d_Mo_isGate_11 : decode c_Mo_isGate 11 = .ok (.if_icmp .ge 7, 3) := dc_of (x := (11, .if_icmp .ge 7, 3)) t0_Mo_isGate_ok (i := 7) rfl
theorem d_Mo_isGate_14 : decode c_Mo_isGate 14 = .ok (.iconst 1, 1) := dc_of (x := (14, .iconst 1, 1)) t0_Mo_isGate_ok (i := 8) rfl
theorem d_Mo_isGate_15 : decode c_Mo_isGate 15 = .ok (.goto 4, 3) := dc_of (x := (15, .goto 4, 3)) t0_Mo_isGate_ok (i := 9) rfl
theorem d_Mo_isGate_18 : decode c_Mo_isGate 18 = .ok (.iconst 0, 1) := dc_of (x := (18, .iconst 0, 1)) t0_Mo_isGate_ok (i := 10) rfl
theorem d_Mo_isGate_19 : decode c_Mo_isGate 19 = .ok (.ireturn, 1) := dc_of (x := (19, .ireturn, 1)) t0_Mo_isGate_ok (i := 11) rfl
def t0_Mo_gate : List (Nat × Instr × Nat) := [(0, .aload_n 0, 1), (1, .aload_n 0, 1), (2, .iload_n 2, 1), (3, .invokevirtual 70, 3), (6, .ifCond .eq 20, 3), (9, .aload_n 0, 1), (10, .iload_n 3, 1), (11, .invokevirtual 70, 3), (14, .ifCond .eq 12, 3), (17, .aload_n 0, 1), (18, .iload 4, 2), (20, .invokevirtual 70, 3), (23, .ifCond .ne 7, 3), (26, .iconst 1, 1), (27, .goto 33, 3), (30, .aload_n 0, 1), (31, .getfield 7, 3), (34, .iconst 3, 1), (35, .iaload, 1), (36, .bipush 32, 2), (38, .if_icmp .ne 7, 3), (41, .iconst 2, 1), (42, .goto 18, 3), (45, .iload_n 1, 1), (46, .ifCond .lt 9, 3), (49, .iload_n 1, 1), (50, .bipush 7, 2), (52, .if_icmp .le 7, 3), (55, .iconst 3, 1), (56, .goto 4, 3), (59, .iconst 0, 1), (60, .putfield 28, 3), (63, .aload_n 0, 1), (64, .getfield 28, 3), (67, .ifCond .le 5, 3), (70, .iconst 0, 1), (71, .ireturn, 1), (72, .aload_n 0, 1), (73, .getfield 7, 3), (76, .iconst 3, 1), (77, .iaload, 1), (78, .istore 5, 2), (80, .aload_n 0, 1), (81, .getfield 7, 3), (84, .iconst 3, 1), (85, .dup2, 1), (86, .iaload, 1), (87, .iconst 1, 1), (88, .iadd, 1), (89, .iastore, 1), (90, .aload_n 0, 1), (91, .iload 5, 2), (93, .iconst 0, 1), (94, .iload_n 1, 1), (95, .invokevirtual 46, 3), (98, .aload_n 0, 1), (99, .iload 5, 2), (101, .iconst 1, 1), (102, .iload_n 2, 1), (103, .invokevirtual 46, 3)]
theorem t0_Mo_gate_ok : t0_Mo_gate.all (fun x => decide (decode c_Mo_gate x.1 = .ok x.2)) = true := by decide +kernel
def t1_Mo_gate : List (Nat × Instr × Nat) := [(106, .aload_n 0, 1), (107, .iload 5, 2), (109, .iconst 2, 1), (110, .iload_n 3, 1), (111, .invokevirtual 46, 3), (114, .aload_n 0, 1), (115, .iload 5, 2), (117, .iconst 3, 1), (118, .iload 4, 2), (120, .invokevirtual 46, 3), (123, .aload_n 0, 1), (124, .iload 5, 2), (126, .iconst 4, 1), (127, .iconst 1, 1), (128, .invokevirtual 46, 3), (131, .aload_n 0, 1), (132, .iload 5, 2), (134, .iconst 5, 1), (135, .iconst 1, 1), (136, .invokevirtual 46, 3), (139, .aload_n 0, 1), (140, .iload 5, 2), (142, .bipush 6, 2), (144, .iload_n 1, 1), (145, .iconst 5, 1), (146, .if_icmp .ne 7, 3), (149, .iconst 3, 1), (150, .goto 4, 3), (153, .iconst 2, 1), (154, .invokevirtual 46, 3), (157, .aload_n 0, 1), (158, .iload 5, 2), (160, .bipush 7, 2), (162, .iconst (-1), 1), (163, .invokevirtual 46, 3), (166, .aload_n 0, 1), (167, .iload 5, 2), (169, .bipush 8, 2), (171, .iconst 0, 1), (172, .invokevirtual 46, 3), (175, .aload_n 0, 1), (176, .iload 5, 2), (178, .bipush 9, 2), (180, .iconst (-1), 1), (181, .invokevirtual 46, 3), (184, .aload_n 0, 1), (185, .iload 5, 2), (187, .bipush 10, 2), (189, .iconst 0, 1), (190, .invokevirtual 46, 3), (193, .aload_n 0, 1), (194, .iload 4, 2), (196, .iconst 3, 1), (197, .iconst 1, 1), (198, .invokevirtual 53, 3), (201, .aload_n 0, 1), (202, .iload 4, 2), (204, .invokevirtual 74, 3), (207, .iload_n 1, 1), (208, .bipush 7, 2)]
theorem t1_Mo_gate_ok : t1_Mo_gate.all (fun x => decide (decode c_Mo_gate x.1 = .ok x.2)) = true := by decide +kernel
def t2_Mo_gate : List (Nat × Instr × Nat) := [(210, .if_icmp .eq 15, 3), (213, .aload_n 0, 1), (214, .iload 5, 2), (216, .aload_n 0, 1), (217, .iload 5, 2), (219, .invokevirtual 56, 3), (222, .invokevirtual 59, 3), (225, .iload 5, 2), (227, .ireturn, 1)]
theorem t2_Mo_gate_ok : t2_Mo_gate.all (fun x => decide (decode c_Mo_gate x.1 = .ok x.2)) = true := by decide +kernel
theorem d_Mo_gate_0 : decode c_Mo_gate 0 = .ok (.aload_n 0, 1) := dc_of (x := (0, .aload_n 0, 1)) t0_Mo_gate_ok (i := 0) rfl
theorem d_Mo_gate_1 : decode c_Mo_gate 1 = .ok (.aload_n 0, 1) := dc_of (x := (1, .aload_n 0, 1)) t0_Mo_gate_ok (i := 1) rfl
theorem d_Mo_gate_2 : decode c_Mo_gate 2 = .ok (.iload_n 2, 1) := dc_of (x := (2, .iload_n 2, 1)) t0_Mo_gate_ok (i := 2) rfl
theorem d_Mo_gate_3 : decode c_Mo_gate 3 = .ok (.invokevirtual 70, 3) := dc_of (x := (3, .invokevirtual 70, 3)) t0_Mo_gate_ok (i := 3) rfl
theorem d_Mo_gate_6 : decode c_Mo_gate 6 = .ok (.ifCond .eq 20, 3) := dc_of (x := (6, .ifCond .eq 20, 3)) t0_Mo_gate_ok (i := 4) rfl
theorem d_Mo_gate_9 : decode c_Mo_gate 9 = .ok (.aload_n 0, 1) := dc_of (x := (9, .aload_n 0, 1)) t0_Mo_gate_ok (i := 5) rfl
theorem d_Mo_gate_10 : decode c_Mo_gate 10 = .ok (.iload_n 3, 1) := dc_of (x := (10, .iload_n 3, 1)) t0_Mo_gate_ok (i := 6) rfl
theorem d_Mo_gate_11 : decode c_Mo_gate 11 = .ok (.invokevirtual 70, 3) := dc_of (x := (11, .invokevirtual 70, 3)) t0_Mo_gate_ok (i := 7) rfl
theorem d_Mo_gate_14 : decode c_Mo_gate 14 = .ok (.ifCond .eq 12, 3) := dc_of (x := (14, .ifCond .eq 12, 3)) t0_Mo_gate_ok (i := 8) rfl
theorem d_Mo_gate_17 : decode c_Mo_gate 17 = .ok (.aload_n 0, 1) := dc_of (x := (17, .aload_n 0, 1)) t0_Mo_gate_ok (i := 9) rfl
theorem d_Mo_gate_18 : decode c_Mo_gate 18 = .ok (.iload 4, 2) := dc_of (x := (18, .iload 4, 2)) t0_Mo_gate_ok (i := 10) rfl
theorem d_Mo_gate_20 : decode c_Mo_gate 20 = .ok (.invokevirtual 70, 3) := dc_of (x := (20, .invokevirtual 70, 3)) t0_Mo_gate_ok (i := 11) rfl
theorem d_Mo_gate_23 : decode c_Mo_gate 23 = .ok (.ifCond .ne 7, 3) := dc_of (x := (23, .ifCond .ne 7, 3)) t0_Mo_gate_ok (i := 12) rfl
theorem d_Mo_gate_26 : decode c_Mo_gate 26 = .ok (.iconst 1, 1) := dc_of (x := (26, .iconst 1, 1)) t0_Mo_gate_ok (i := 13) rfl
theorem d_Mo_gate_27 : decode c_Mo_gate 27 = .ok (.goto 33, 3) := dc_of (x := (27, .goto 33, 3)) t0_Mo_gate_ok (i := 14) rfl
theorem d_Mo_gate_30 : decode c_Mo_gate 30 = .ok (.aload_n 0, 1) := dc_of (x := (30, .aload_n 0, 1)) t0_Mo_gate_ok (i := 15) rfl
theorem d_Mo_gate_31 : decode c_Mo_gate 31 = .ok (.getfield 7, 3) := dc_of (x := (31, .getfield 7, 3)) t0_Mo_gate_ok (i := 16) rfl
theorem d_Mo_gate_34 : decode c_Mo_gate 34 = .ok (.iconst 3, 1) := dc_of (x := (34, .iconst 3, 1)) t0_Mo_gate_ok (i := 17) rfl
theorem d_Mo_gate_35 : decode c_Mo_gate 35 = .ok (.iaload, 1) := dc_of (x := (35, .iaload, 1)) t0_Mo_gate_ok (i := 18) rfl
theorem d_Mo_gate_36 : decode c_Mo_gate 36 = .ok (.bipush 32, 2) := dc_of (x := (36, .bipush 32, 2)) t0_Mo_gate_ok (i := 19) rfl
theorem d_Mo_gate_38 : decode c_Mo_gate 38 = .ok (.if_icmp .ne 7, 3) := dc_of (x := (38, .if_icmp .ne 7, 3)) t0_Mo_gate_ok (i := 20) rfl
theorem d_Mo_gate_41 : decode c_Mo_gate 41 = .ok (.iconst 2, 1) := dc_of (x := (41, .iconst 2, 1)) t0_Mo_gate_ok (i := 21) rfl
theorem d_Mo_gate_42 : decode c_Mo_gate 42 = .ok (.goto 18, 3) := dc_of (x := (42, .goto 18, 3)) t0_Mo_gate_ok (i := 22) rfl
theorem d_Mo_gate_45 : decode c_Mo_gate 45 = .ok (.iload_n 1, 1) := dc_of (x := (45, .iload_n 1, 1)) t0_Mo_gate_ok (i := 23) rfl
theorem d_Mo_gate_46 : decode c_Mo_gate 46 = .ok (.ifCond .lt 9, 3) := dc_of (x := (46, .ifCond .lt 9, 3)) t0_Mo_gate_ok (i := 24) rfl
theorem d_Mo_gate_49 : decode c_Mo_gate 49 = .ok (.iload_n 1, 1) := dc_of (x := (49, .iload_n 1, 1)) t0_Mo_gate_ok (i := 25) rfl
theorem d_Mo_gate_50 : decode c_Mo_gate 50 = .ok (.bipush 7, 2) := dc_of (x := (50, .bipush 7, 2)) t0_Mo_gate_ok (i := 26) rfl
theorem d_Mo_gate_52 : decode c_Mo_gate 52 = .ok (.if_icmp .le 7, 3) := dc_of (x := (52, .if_icmp .le 7, 3)) t0_Mo_gate_ok (i := 27) rfl
theorem d_Mo_gate_55 : decode c_Mo_gate 55 = .ok (.iconst 3, 1) := dc_of (x := (55, .iconst 3, 1)) t0_Mo_gate_ok (i := 28) rfl
theorem d_Mo_gate_56 : decode c_Mo_gate 56 = .ok (.goto 4, 3) := dc_of (x := (56, .goto 4, 3)) t0_Mo_gate_ok (i := 29) rfl
theorem d_Mo_gate_59 : decode c_Mo_gate 59 = .ok (.iconst 0, 1) := dc_of (x := (59, .iconst 0, 1)) t0_Mo_gate_ok (i := 30) rfl
theorem d_Mo_gate_60 : decode c_Mo_gate 60 = .ok (.putfield 28, 3) := dc_of (x := (60, .putfield 28, 3)) t0_Mo_gate_ok (i := 31) rfl
theorem d_Mo_gate_63 : decode c_Mo_gate 63 = .ok (.aload_n 0, 1) := dc_of (x := (63, .aload_n 0, 1)) t0_Mo_gate_ok (i := 32) rfl
theorem d_Mo_gate_64 : decode c_Mo_gate 64 = .ok (.getfield 28, 3) := dc_of (x := (64, .getfield 28, 3)) t0_Mo_gate_ok (i := 33) rfl
theorem d_Mo_gate_67 : decode c_Mo_gate 67 = .ok (.ifCond .le 5, 3) := dc_of (x := (67, .ifCond .le 5, 3)) t0_Mo_gate_ok (i := 34) rfl
theorem d_Mo_gate_70 : decode c_Mo_gate 70 = .ok (.iconst 0, 1) := dc_of (x := (70, .iconst 0, 1)) t0_Mo_gate_ok (i := 35) rfl
theorem d_Mo_gate_71 : decode c_Mo_gate 71 = .ok (.ireturn, 1) := dc_of (x := (71, .ireturn, 1)) t0_Mo_gate_ok (i := 36) rfl
theorem d_Mo_gate_72 : decode c_Mo_gate 72 = .ok (.aload_n 0, 1) := dc_of (x := (72, .aload_n 0, 1)) t0_Mo_gate_ok (i := 37) rfl
theorem d_Mo_gate_73 : decode c_Mo_gate 73 = .ok (.getfield 7, 3) := dc_of (x := (73, .getfield 7, 3)) t0_Mo_gate_ok (i := 38) rfl
theorem d_Mo_gate_76 : decode c_Mo_gate 76 = .ok (.iconst 3, 1) := dc_of (x := (76, .iconst 3, 1)) t0_Mo_gate_ok (i := 39) rfl
theorem d_Mo_gate_77 : decode c_Mo_gate 77 = .ok (.iaload, 1) := dc_of (x := (77, .iaload, 1)) t0_Mo_gate_ok (i := 40) rfl
theorem d_Mo_gate_78 : decode c_Mo_gate 78 = .ok (.istore 5, 2) := dc_of (x := (78, .istore 5, 2)) t0_Mo_gate_ok (i := 41) rfl
theorem d_Mo_gate_80 : decode c_Mo_gate 80 = .ok (.aload_n 0, 1) := dc_of (x := (80, .aload_n 0, 1)) t0_Mo_gate_ok (i := 42) rfl
theorem d_Mo_gate_81 : decode c_Mo_gate 81 = .ok (.getfield 7, 3) := dc_of (x := (81, .getfield 7, 3)) t0_Mo_gate_ok (i := 43) rfl
theorem d_Mo_gate_84 : decode c_Mo_gate 84 = .ok (.iconst 3, 1) := dc_of (x := (84, .iconst 3, 1)) t0_Mo_gate_ok (i := 44) rfl
theorem d_Mo_gate_85 : decode c_Mo_gate 85 = .ok (.dup2, 1) := dc_of (x := (85, .dup2, 1)) t0_Mo_gate_ok (i := 45) rfl
theorem d_Mo_gate_86 : decode c_Mo_gate 86 = .ok (.iaload, 1) := dc_of (x := (86, .iaload, 1)) t0_Mo_gate_ok (i := 46) rfl
theorem d_Mo_gate_87 : decode c_Mo_gate 87 = .ok (.iconst 1, 1) := dc_of (x := (87, .iconst 1, 1)) t0_Mo_gate_ok (i := 47) rfl
theorem d_Mo_gate_88 : decode c_Mo_gate 88 = .ok (.iadd, 1) := dc_of (x := (88, .iadd, 1)) t0_Mo_gate_ok (i := 48) rfl
theorem d_Mo_gate_89 : decode c_Mo_gate 89 = .ok (.iastore, 1) := dc_of (x := (89, .iastore, 1)) t0_Mo_gate_ok (i := 49) rfl
theorem d_Mo_gate_90 : decode c_Mo_gate 90 = .ok (.aload_n 0, 1) := dc_of (x := (90, .aload_n 0, 1)) t0_Mo_gate_ok (i := 50) rfl
theorem d_Mo_gate_91 : decode c_Mo_gate 91 = .ok (.iload 5, 2) := dc_of (x := (91, .iload 5, 2)) t0_Mo_gate_ok (i := 51) rfl
theorem d_Mo_gate_93 : decode c_Mo_gate 93 = .ok (.iconst 0, 1) := dc_of (x := (93, .iconst 0, 1)) t0_Mo_gate_ok (i := 52) rfl
theorem d_Mo_gate_94 : decode c_Mo_gate 94 = .ok (.iload_n 1, 1) := dc_of (x := (94, .iload_n 1, 1)) t0_Mo_gate_ok (i := 53) rfl
theorem d_Mo_gate_95 : decode c_Mo_gate 95 = .ok (.invokevirtual 46, 3) := dc_of (x := (95, .invokevirtual 46, 3)) t0_Mo_gate_ok (i := 54) rfl
theorem d_Mo_gate_98 : decode c_Mo_gate 98 = .ok (.aload_n 0, 1) := dc_of (x := (98, .aload_n 0, 1)) t0_Mo_gate_ok (i := 55) rfl
theorem d_Mo_gate_99 : decode c_Mo_gate 99 = .ok (.iload 5, 2) := dc_of (x := (99, .iload 5, 2)) t0_Mo_gate_ok (i := 56) rfl
theorem d_Mo_gate_101 : decode c_Mo_gate 101 = .ok (.iconst 1, 1) := dc_of (x := (101, .iconst 1, 1)) t0_Mo_gate_ok (i := 57) rfl
theorem d_Mo_gate_102 : decode c_Mo_gate 102 = .ok (.iload_n 2, 1) := dc_of (x := (102, .iload_n 2, 1)) t0_Mo_gate_ok (i := 58) rfl
theorem d_Mo_gate_103 : decode c_Mo_gate 103 = .ok (.invokevirtual 46, 3) := dc_of (x := (103, .invokevirtual 46, 3)) t0_Mo_gate_ok (i := 59) rfl
theorem d_Mo_gate_106 : decode c_Mo_gate 106 = .ok (.aload_n 0, 1) := dc_of (x := (106, .aload_n 0, 1)) t1_Mo_gate_ok (i := 0) rfl
theorem d_Mo_gate_107 : decode c_Mo_gate 107 = .ok (.iload 5, 2) := dc_of (x := (107, .iload 5, 2)) t1_Mo_gate_ok (i := 1) rfl
theorem d_Mo_gate_109 : decode c_Mo_gate 109 = .ok (.iconst 2, 1) := dc_of (x := (109, .iconst 2, 1)) t1_Mo_gate_ok (i := 2) rfl
theorem d_Mo_gate_110 : decode c_Mo_gate 110 = .ok (.iload_n 3, 1) := dc_of (x := (110, .iload_n 3, 1)) t1_Mo_gate_ok (i := 3) rfl
theorem d_Mo_gate_111 : decode c_Mo_gate 111 = .ok (.invokevirtual 46, 3) := dc_of (x := (111, .invokevirtual 46, 3)) t1_Mo_gate_ok (i := 4) rfl
theorem d_Mo_gate_114 : decode c_Mo_gate 114 = .ok (.aload_n 0, 1) := dc_of (x := (114, .aload_n 0, 1)) t1_Mo_gate_ok (i := 5) rfl
theorem d_Mo_gate_115 : decode c_Mo_gate 115 = .ok (.iload 5, 2) := dc_of (x := (115, .iload 5, 2)) t1_Mo_gate_ok (i := 6) rfl
theorem d_Mo_gate_117 : decode c_Mo_gate 117 = .ok (.iconst 3, 1) := dc_of (x := (117, .iconst 3, 1)) t1_Mo_gate_ok (i := 7) rfl
theorem d_Mo_gate_118 : decode c_Mo_gate 118 = .ok (.iload 4, 2) := dc_of (x := (118, .iload 4, 2)) t1_Mo_gate_ok (i := 8) rfl
theorem d_Mo_gate_120 : decode c_Mo_gate 120 = .ok (.invokevirtual 46, 3) := dc_of (x := (120, .invokevirtual 46, 3)) t1_Mo_gate_ok (i := 9) rfl
theorem d_Mo_gate_123 : decode c_Mo_gate 123 = .ok (.aload_n 0, 1) := dc_of (x := (123, .aload_n 0, 1)) t1_Mo_gate_ok (i := 10) rfl
theorem d_Mo_gate_124 : decode c_Mo_gate 124 = .ok (.iload 5, 2) := dc_of (x := (124, .iload 5, 2)) t1_Mo_gate_ok (i := 11) rfl
theorem d_Mo_gate_126 : decode c_Mo_gate 126 = .ok (.iconst 4, 1) := dc_of (x := (126, .iconst 4, 1)) t1_Mo_gate_ok (i := 12) rfl
theorem d_Mo_gate_127 : decode c_Mo_gate 127 = .ok (.iconst 1, 1) := dc_of (x := (127, .iconst 1, 1)) t1_Mo_gate_ok (i := 13) rfl
theorem d_Mo_gate_128 : decode c_Mo_gate 128 = .ok (.invokevirtual 46, 3) := dc_of (x := (128, .invokevirtual 46, 3)) t1_Mo_gate_ok (i := 14) rfl
theorem d_Mo_gate_131 : decode c_Mo_gate 131 = .ok (.aload_n 0, 1) := dc_of (x := (131, .aload_n 0, 1)) t1_Mo_gate_ok (i := 15) rfl
theorem d_Mo_gate_132 : decode c_Mo_gate 132 = .ok (.iload 5, 2) := dc_of (x := (132, .iload 5, 2)) t1_Mo_gate_ok (i := 16) rfl
theorem d_Mo_gate_134 : decode c_Mo_gate 134 = .ok (.iconst 5, 1) := dc_of (x := (134, .iconst 5, 1)) t1_Mo_gate_ok (i := 17) rfl
theorem d_Mo_gate_135 : decode c_Mo_gate 135 = .ok (.iconst 1, 1) := dc_of (x := (135, .iconst 1, 1)) t1_Mo_gate_ok (i := 18) rfl
theorem d_Mo_gate_136 : decode c_Mo_gate 136 = .ok (.invokevirtual 46, 3) := dc_of (x := (136, .invokevirtual 46, 3)) t1_Mo_gate_ok (i := 19) rfl
theorem d_Mo_gate_139 : decode c_Mo_gate 139 = .ok (.aload_n 0, 1) := dc_of (x := (139, .aload_n 0, 1)) t1_Mo_gate_ok (i := 20) rfl
theorem d_Mo_gate_140 : decode c_Mo_gate 140 = .ok (.iload 5, 2) := dc_of (x := (140, .iload 5, 2)) t1_Mo_gate_ok (i := 21) rfl
theorem d_Mo_gate_142 : decode c_Mo_gate 142 = .ok (.bipush 6, 2) := dc_of (x := (142, .bipush 6, 2)) t1_Mo_gate_ok (i := 22) rfl
theorem d_Mo_gate_144 : decode c_Mo_gate 144 = .ok (.iload_n 1, 1) := dc_of (x := (144, .iload_n 1, 1)) t1_Mo_gate_ok (i := 23) rfl
theorem d_Mo_gate_145 : decode c_Mo_gate 145 = .ok (.iconst 5, 1) := dc_of (x := (145, .iconst 5, 1)) t1_Mo_gate_ok (i := 24) rfl
theorem d_Mo_gate_146 : decode c_Mo_gate 146 = .ok (.if_icmp .ne 7, 3) := dc_of (x := (146, .if_icmp .ne 7, 3)) t1_Mo_gate_ok (i := 25) rfl
theorem d_Mo_gate_149 : decode c_Mo_gate 149 = .ok (.iconst 3, 1) := dc_of (x := (149, .iconst 3, 1)) t1_Mo_gate_ok (i := 26) rfl
theorem d_Mo_gate_150 : decode c_Mo_gate 150 = .ok (.goto 4, 3) := dc_of (x := (150, .goto 4, 3)) t1_Mo_gate_ok (i := 27) rfl
theorem d_Mo_gate_153 : decode c_Mo_gate 153 = .ok (.iconst 2, 1) := dc_of (x := (153, .iconst 2, 1)) t1_Mo_gate_ok (i := 28) rfl
theorem d_Mo_gate_154 : decode c_Mo_gate 154 = .ok (.invokevirtual 46, 3) := dc_of (x := (154, .invokevirtual 46, 3)) t1_Mo_gate_ok (i := 29) rfl
theorem d_Mo_gate_157 : decode c_Mo_gate 157 = .ok (.aload_n 0, 1) := dc_of (x := (157, .aload_n 0, 1)) t1_Mo_gate_ok (i := 30) rfl
theorem d_Mo_gate_158 : decode c_Mo_gate 158 = .ok (.iload 5, 2) := dc_of (x := (158, .iload 5, 2)) t1_Mo_gate_ok (i := 31) rfl
theorem d_Mo_gate_160 : decode c_Mo_gate 160 = .ok (.bipush 7, 2) := dc_of (x := (160, .bipush 7, 2)) t1_Mo_gate_ok (i := 32) rfl
theorem d_Mo_gate_162 : decode c_Mo_gate 162 = .ok (.iconst (-1), 1) := dc_of (x := (162, .iconst (-1), 1)) t1_Mo_gate_ok (i := 33) rfl
theorem d_Mo_gate_163 : decode c_Mo_gate 163 = .ok (.invokevirtual 46, 3) := dc_of (x := (163, .invokevirtual 46, 3)) t1_Mo_gate_ok (i := 34) rfl
theorem d_Mo_gate_166 : decode c_Mo_gate 166 = .ok (.aload_n 0, 1) := dc_of (x := (166, .aload_n 0, 1)) t1_Mo_gate_ok (i := 35) rfl
theorem d_Mo_gate_167 : decode c_Mo_gate 167 = .ok (.iload 5, 2) := dc_of (x := (167, .iload 5, 2)) t1_Mo_gate_ok (i := 36) rfl
theorem d_Mo_gate_169 : decode c_Mo_gate 169 = .ok (.bipush 8, 2) := dc_of (x := (169, .bipush 8, 2)) t1_Mo_gate_ok (i := 37) rfl
theorem d_Mo_gate_171 : decode c_Mo_gate 171 = .ok (.iconst 0, 1) := dc_of (x := (171, .iconst 0, 1)) t1_Mo_gate_ok (i := 38) rfl
theorem d_Mo_gate_172 : decode c_Mo_gate 172 = .ok (.invokevirtual 46, 3) := dc_of (x := (172, .invokevirtual 46, 3)) t1_Mo_gate_ok (i := 39) rfl
theorem d_Mo_gate_175 : decode c_Mo_gate 175 = .ok (.aload_n 0, 1) := dc_of (x := (175, .aload_n 0, 1)) t1_Mo_gate_ok (i := 40) rfl
theorem d_Mo_gate_176 : decode c_Mo_gate 176 = .ok (.iload 5, 2) := dc_of (x := (176, .iload 5, 2)) t1_Mo_gate_ok (i := 41) rfl
theorem d_Mo_gate_178 : decode c_Mo_gate 178 = .ok (.bipush 9, 2) := dc_of (x := (178, .bipush 9, 2)) t1_Mo_gate_ok (i := 42) rfl
theorem d_Mo_gate_180 : decode c_Mo_gate 180 = .ok (.iconst (-1), 1) := dc_of (x := (180, .iconst (-1), 1)) t1_Mo_gate_ok (i := 43) rfl
theorem d_Mo_gate_181 : decode c_Mo_gate 181 = .ok (.invokevirtual 46, 3) := dc_of (x := (181, .invokevirtual 46, 3)) t1_Mo_gate_ok (i := 44) rfl
theorem d_Mo_gate_184 : decode c_Mo_gate 184 = .ok (.aload_n 0, 1) := dc_of (x := (184, .aload_n 0, 1)) t1_Mo_gate_ok (i := 45) rfl
theorem d_Mo_gate_185 : decode c_Mo_gate 185 = .ok (.iload 5, 2) := dc_of (x := (185, .iload 5, 2)) t1_Mo_gate_ok (i := 46) rfl
theorem d_Mo_gate_187 : decode c_Mo_gate 187 = .ok (.bipush 10, 2) := dc_of (x := (187, .bipush 10, 2)) t1_Mo_gate_ok (i := 47) rfl
theorem d_Mo_gate_189 : decode c_Mo_gate 189 = .ok (.iconst 0, 1) := dc_of (x := (189, .iconst 0, 1)) t1_Mo_gate_ok (i := 48) rfl
theorem d_Mo_gate_190 : decode c_Mo_gate 190 = .ok (.invokevirtual 46, 3) := dc_of (x := (190, .invokevirtual 46, 3)) t1_Mo_gate_ok (i := 49) rfl
theorem d_Mo_gate_193 : decode c_Mo_gate 193 = .ok (.aload_n 0, 1) := dc_of (x := (193, .aload_n 0, 1)) t1_Mo_gate_ok (i := 50) rfl
theorem d_Mo_gate_194 : decode c_Mo_gate 194 = .ok (.iload 4, 2) := dc_of (x := (194, .iload 4, 2)) t1_Mo_gate_ok (i := 51) rfl
theorem d_Mo_gate_196 : decode c_Mo_gate 196 = .ok (.iconst 3, 1) := dc_of (x := (196, .iconst 3, 1)) t1_Mo_gate_ok (i := 52) rfl
theorem d_Mo_gate_197 : decode c_Mo_gate 197 = .ok (.iconst 1, 1) := dc_of (x := (197, .iconst 1, 1)) t1_Mo_gate_ok (i := 53) rfl
theorem d_Mo_gate_198 : decode c_Mo_gate 198 = .ok (.invokevirtual 53, 3) := dc_of (x := (198, .invokevirtual 53, 3)) t1_Mo_gate_ok (i := 54) rfl
theorem d_Mo_gate_201 : decode c_Mo_gate 201 = .ok (.aload_n 0, 1) := dc_of (x := (201, .aload_n 0, 1)) t1_Mo_gate_ok (i := 55) rfl
theorem d_Mo_gate_202 : decode c_Mo_gate 202 = .ok (.iload 4, 2) := dc_of (x := (202, .iload 4, 2)) t1_Mo_gate_ok (i := 56) rfl
theorem d_Mo_gate_204 : decode c_Mo_gate 204 = .ok (.invokevirtual 74, 3) := dc_of (x := (204, .invokevirtual 74, 3)) t1_Mo_gate_ok (i := 57) rfl
theorem d_Mo_gate_207 : decode c_Mo_gate 207 = .ok (.iload_n 1, 1) := dc_of (x := (207, .iload_n 1, 1)) t1_Mo_gate_ok (i := 58) rfl
theorem d_Mo_gate_208 : decode c_Mo_gate 208 = .ok (.bipush 7, 2) := dc_of (x := (208, .bipush 7, 2)) t1_Mo_gate_ok (i := 59) rfl
theorem d_Mo_gate_210 : decode c_Mo_gate 210 = .ok (.if_icmp .eq 15, 3) := dc_of (x := (210, .if_icmp .eq 15, 3)) t2_Mo_gate_ok (i := 0) rfl
theorem d_Mo_gate_213 : decode c_Mo_gate 213 = .ok (.aload_n 0, 1) := dc_of (x := (213, .aload_n 0, 1)) t2_Mo_gate_ok (i := 1) rfl
theorem d_Mo_gate_214 : decode c_Mo_gate 214 = .ok (.iload 5, 2) := dc_of (x := (214, .iload 5, 2)) t2_Mo_gate_ok (i := 2) rfl
theorem d_Mo_gate_216 : decode c_Mo_gate 216 = .ok (.aload_n 0, 1) := dc_of (x := (216, .aload_n 0, 1)) t2_Mo_gate_ok (i := 3) rfl
theorem d_Mo_gate_217 : decode c_Mo_gate 217 = .ok (.iload 5, 2) := dc_of (x := (217, .iload 5, 2)) t2_Mo_gate_ok (i := 4) rfl
theorem d_Mo_gate_219 : decode c_Mo_gate 219 = .ok (.invokevirtual 56, 3) := dc_of (x := (219, .invokevirtual 56, 3)) t2_Mo_gate_ok (i := 5) rfl
theorem d_Mo_gate_222 : decode c_Mo_gate 222 = .ok (.invokevirtual 59, 3) := dc_of (x := (222, .invokevirtual 59, 3)) t2_Mo_gate_ok (i := 6) rfl
theorem d_Mo_gate_225 : decode c_Mo_gate 225 = .ok (.iload 5, 2) := dc_of (x := (225, .iload 5, 2)) t2_Mo_gate_ok (i := 7) rfl
theorem d_Mo_gate_227 : decode c_Mo_gate 227 = .ok (.ireturn, 1) := dc_of (x := (227, .ireturn, 1)) t2_Mo_gate_ok (i := 8) rfl
def t0_Mo_delay : List (Nat × Instr × Nat) := [(0, .aload_n 0, 1), (1, .aload_n 0, 1), (2, .iload_n 1, 1), (3, .invokevirtual 78, 3), (6, .ifCond .ne 7, 3), (9, .iconst 1, 1), (10, .goto 30, 3), (13, .iload_n 2, 1), (14, .ifCond .lt 21, 3), (17, .iload_n 2, 1), (18, .sipush 1000, 3), (21, .if_icmp .gt 14, 3), (24, .iload_n 3, 1), (25, .ifCond .lt 10, 3), (28, .iload_n 3, 1), (29, .sipush 1000, 3), (32, .if_icmp .le 7, 3), (35, .iconst 2, 1), (36, .goto 4, 3), (39, .iconst 0, 1), (40, .putfield 28, 3), (43, .aload_n 0, 1), (44, .getfield 28, 3), (47, .ifCond .le 5, 3), (50, .iconst 0, 1), (51, .ireturn, 1), (52, .aload_n 0, 1), (53, .iload_n 1, 1), (54, .iconst 4, 1), (55, .invokevirtual 36, 3), (58, .iload_n 2, 1), (59, .if_icmp .ne 13, 3), (62, .aload_n 0, 1), (63, .iload_n 1, 1), (64, .iconst 5, 1), (65, .invokevirtual 36, 3), (68, .iload_n 3, 1), (69, .if_icmp .eq 7, 3), (72, .iconst 1, 1), (73, .goto 4, 3), (76, .iconst 0, 1), (77, .istore 4, 2), (79, .aload_n 0, 1), (80, .iload_n 1, 1), (81, .iconst 4, 1), (82, .iload_n 2, 1), (83, .invokevirtual 46, 3), (86, .aload_n 0, 1), (87, .iload_n 1, 1), (88, .iconst 5, 1), (89, .iload_n 3, 1), (90, .invokevirtual 46, 3), (93, .iload 4, 2), (95, .ireturn, 1)]
theorem t0_Mo_delay_ok : t0_Mo_delay.all (fun x => decide (decode c_Mo_delay x.1 = .ok x.2)) = true := by decide +kernel
theorem d_Mo_delay_0 : decode c_Mo_delay 0 = .ok (.aload_n 0, 1) := dc_of (x := (0, .aload_n 0, 1)) t0_Mo_delay_ok (i := 0) rfl
theorem d_Mo_delay_1 : decode c_Mo_delay 1 = .ok (.aload_n 0, 1) := dc_of (x := (1, .aload_n 0, 1)) t0_Mo_delay_ok (i := 1) rfl
theorem d_Mo_delay_2 : decode c_Mo_delay 2 = .ok (.iload_n 1, 1) := dc_of (x := (2, .iload_n 1, 1)) t0_Mo_delay_ok (i := 2) rfl
theorem d_Mo_delay_3 : decode c_Mo_delay 3 = .ok (.invokevirtual 78, 3) := dc_of (x := (3, .invokevirtual 78, 3)) t0_Mo_delay_ok (i := 3) rfl
theorem d_Mo_delay_6 : decode c_Mo_delay 6 = .ok (.ifCond .ne 7, 3) := dc_of (x := (6, .ifCond .ne 7, 3)) t0_Mo_delay_ok (i := 4) rfl
theorem d_Mo_delay_9 : decode c_Mo_delay 9 = .ok (.iconst 1, 1) := dc_of (x := (9, .iconst 1, 1)) t0_Mo_delay_ok (i := 5) rfl
theorem d_Mo_delay_10 : decode c_Mo_delay 10 = .ok (.goto 30, 3) := dc_of (x := (10, .goto 30, 3)) t0_Mo_delay_ok (i := 6) rfl
theorem d_Mo_delay_13 : decode c_Mo_delay 13 = .ok (.iload_n 2, 1) := dc_of (x := (13, .iload_n 2, 1)) t0_Mo_delay_ok (i := 7) rfl
theorem d_Mo_delay_14 : decode c_Mo_delay 14 = .ok (.ifCond .lt 21, 3) := dc_of (x := (14, .ifCond .lt 21, 3)) t0_Mo_delay_ok (i := 8) rfl
theorem d_Mo_delay_17 : decode c_Mo_delay 17 = .ok (.iload_n 2, 1) := dc_of (x := (17, .iload_n 2, 1)) t0_Mo_delay_ok (i := 9) rfl
theorem d_Mo_delay_18 : decode c_Mo_delay 18 = .ok (.sipush 1000, 3) := dc_of (x := (18, .sipush 1000, 3)) t0_Mo_delay_ok (i := 10) rfl
theorem d_Mo_delay_21 : decode c_Mo_delay 21 = .ok (.if_icmp .gt 14, 3) := dc_of (x := (21, .if_icmp .gt 14, 3)) t0_Mo_delay_ok (i := 11) rfl
theorem d_Mo_delay_24 : decode c_Mo_delay 24 = .ok (.iload_n 3, 1) := dc_of (x := (24, .iload_n 3, 1)) t0_Mo_delay_ok (i := 12) rfl
theorem d_Mo_delay_25 : decode c_Mo_delay 25 = .ok (.ifCond .lt 10, 3) := dc_of (x := (25, .ifCond .lt 10, 3)) t0_Mo_delay_ok (i := 13) rfl
theorem d_Mo_delay_28 : decode c_Mo_delay 28 = .ok (.iload_n 3, 1) := dc_of (x := (28, .iload_n 3, 1)) t0_Mo_delay_ok (i := 14) rfl
theorem d_Mo_delay_29 : decode c_Mo_delay 29 = .ok (.sipush 1000, 3) := dc_of (x := (29, .sipush 1000, 3)) t0_Mo_delay_ok (i := 15) rfl
theorem d_Mo_delay_32 : decode c_Mo_delay 32 = .ok (.if_icmp .le 7, 3) := dc_of (x := (32, .if_icmp .le 7, 3)) t0_Mo_delay_ok (i := 16) rfl
theorem d_Mo_delay_35 : decode c_Mo_delay 35 = .ok (.iconst 2, 1) := dc_of (x := (35, .iconst 2, 1)) t0_Mo_delay_ok (i := 17) rfl
theorem d_Mo_delay_36 : decode c_Mo_delay 36 = .ok (.goto 4, 3) := dc_of (x := (36, .goto 4, 3)) t0_Mo_delay_ok (i := 18) rfl
theorem d_Mo_delay_39 : decode c_Mo_delay 39 = .ok (.iconst 0, 1) := dc_of (x := (39, .iconst 0, 1)) t0_Mo_delay_ok (i := 19) rfl
theorem d_Mo_delay_40 : decode c_Mo_delay 40 = .ok (.putfield 28, 3) := dc_of (x := (40, .putfield 28, 3)) t0_Mo_delay_ok (i := 20) rfl
theorem d_Mo_delay_43 : decode c_Mo_delay 43 = .ok (.aload_n 0, 1) := dc_of (x := (43, .aload_n 0, 1)) t0_Mo_delay_ok (i := 21) rfl
theorem d_Mo_delay_44 : decode c_Mo_delay 44 = .ok (.getfield 28, 3) := dc_of (x := (44, .getfield 28, 3)) t0_Mo_delay_ok (i := 22) rfl
theorem d_Mo_delay_47 : decode c_Mo_delay 47 = .ok (.ifCond .le 5, 3) := dc_of (x := (47, .ifCond .le 5, 3)) t0_Mo_delay_ok (i := 23) rfl
theorem d_Mo_delay_50 : decode c_Mo_delay 50 = .ok (.iconst 0, 1) := dc_of (x := (50, .iconst 0, 1)) t0_Mo_delay_ok (i := 24) rfl
theorem d_Mo_delay_51 : decode c_Mo_delay 51 = .ok (.ireturn, 1) := dc_of (x := (51, .ireturn, 1)) t0_Mo_delay_ok (i := 25) rfl
theorem d_Mo_delay_52 : decode c_Mo_delay 52 = .ok (.aload_n 0, 1) := dc_of (x := (52, .aload_n 0, 1)) t0_Mo_delay_ok (i := 26) rfl
theorem d_Mo_delay_53 : decode c_Mo_delay 53 = .ok (.iload_n 1, 1) := dc_of (x := (53, .iload_n 1, 1)) t0_Mo_delay_ok (i := 27) rfl
theorem d_Mo_delay_54 : decode c_Mo_delay 54 = .ok (.iconst 4, 1) := dc_of (x := (54, .iconst 4, 1)) t0_Mo_delay_ok (i := 28) rfl
theorem d_Mo_delay_55 : decode c_Mo_delay 55 = .ok (.invokevirtual 36, 3) := dc_of (x := (55, .invokevirtual 36, 3)) t0_Mo_delay_ok (i := 29) rfl
theorem d_Mo_delay_58 : decode c_Mo_delay 58 = .ok (.iload_n 2, 1) := dc_of (x := (58, .iload_n 2, 1)) t0_Mo_delay_ok (i := 30) rfl
theorem d_Mo_delay_59 : decode c_Mo_delay 59 = .ok (.if_icmp .ne 13, 3) := dc_of (x := (59, .if_icmp .ne 13, 3)) t0_Mo_delay_ok (i := 31) rfl
theorem d_Mo_delay_62 : decode c_Mo_delay 62 = .ok (.aload_n 0, 1) := dc_of (x := (62, .aload_n 0, 1)) t0_Mo_delay_ok (i := 32) rfl
theorem d_Mo_delay_63 : decode c_Mo_delay 63 = .ok (.iload_n 1, 1) := dc_of (x := (63, .iload_n 1, 1)) t0_Mo_delay_ok (i := 33) rfl
theorem d_Mo_delay_64 : decode c_Mo_delay 64 = .ok (.iconst 5, 1) := dc_of (x := (64, .iconst 5, 1)) t0_Mo_delay_ok (i := 34) rfl
theorem d_Mo_delay_65 : decode c_Mo_delay 65 = .ok (.invokevirtual 36, 3) := dc_of (x := (65, .invokevirtual 36, 3)) t0_Mo_delay_ok (i := 35) rfl
theorem d_Mo_delay_68 : decode c_Mo_delay 68 = .ok (.iload_n 3, 1) := dc_of (x := (68, .iload_n 3, 1)) t0_Mo_delay_ok (i := 36) rfl
theorem d_Mo_delay_69 : decode c_Mo_delay 69 = .ok (.if_icmp .eq 7, 3) := dc_of (x := (69, .if_icmp .eq 7, 3)) t0_Mo_delay_ok (i := 37) rfl
theorem d_Mo_delay_72 : decode c_Mo_delay 72 = .ok (.iconst 1, 1) := dc_of (x := (72, .iconst 1, 1)) t0_Mo_delay_ok (i := 38) rfl
theorem d_Mo_delay_73 : decode c_Mo_delay 73 = .ok (.goto 4, 3) := dc_of (x := (73, .goto 4, 3)) t0_Mo_delay_ok (i := 39) rfl
theorem d_Mo_delay_76 : decode c_Mo_delay 76 = .ok (.iconst 0, 1) := dc_of (x := (76, .iconst 0, 1)) t0_Mo_delay_ok (i := 40) rfl
theorem d_Mo_delay_77 : decode c_Mo_delay 77 = .ok (.istore 4, 2) := dc_of (x := (77, .istore 4, 2)) t0_Mo_delay_ok (i := 41) rfl
theorem d_Mo_delay_79 : decode c_Mo_delay 79 = .ok (.aload_n 0, 1) := dc_of (x := (79, .aload_n 0, 1)) t0_Mo_delay_ok (i := 42) rfl
theorem d_Mo_delay_80 : decode c_Mo_delay 80 = .ok (.iload_n 1, 1) := dc_of (x := (80, .iload_n 1, 1)) t0_Mo_delay_ok (i := 43) rfl
theorem d_Mo_delay_81 : decode c_Mo_delay 81 = .ok (.iconst 4, 1) := dc_of (x := (81, .iconst 4, 1)) t0_Mo_delay_ok (i := 44) rfl
theorem d_Mo_delay_82 : decode c_Mo_delay 82 = .ok (.iload_n 2, 1) := dc_of (x := (82, .iload_n 2, 1)) t0_Mo_delay_ok (i := 45) rfl
theorem d_Mo_delay_83 : decode c_Mo_delay 83 = .ok (.invokevirtual 46, 3) := dc_of (x := (83, .invokevirtual 46, 3)) t0_Mo_delay_ok (i := 46) rfl
theorem d_Mo_delay_86 : decode c_Mo_delay 86 = .ok (.aload_n 0, 1) := dc_of (x := (86, .aload_n 0, 1)) t0_Mo_delay_ok (i := 47) rfl
theorem d_Mo_delay_87 : decode c_Mo_delay 87 = .ok (.iload_n 1, 1) := dc_of (x := (87, .iload_n 1, 1)) t0_Mo_delay_ok (i := 48) rfl
theorem d_Mo_delay_88 : decode c_Mo_delay 88 = .ok (.iconst 5, 1) := dc_of (x := (88, .iconst 5, 1)) t0_Mo_delay_ok (i := 49) rfl
theorem d_Mo_delay_89 : decode c_Mo_delay 89 = .ok (.iload_n 3, 1) := dc_of (x := (89, .iload_n 3, 1)) t0_Mo_delay_ok (i := 50) rfl
theorem d_Mo_delay_90 : decode c_Mo_delay 90 = .ok (.invokevirtual 46, 3) := dc_of (x := (90, .invokevirtual 46, 3)) t0_Mo_delay_ok (i := 51) rfl
theorem d_Mo_delay_93 : decode c_Mo_delay 93 = .ok (.iload 4, 2) := dc_of (x := (93, .iload 4, 2)) t0_Mo_delay_ok (i := 52) rfl
theorem d_Mo_delay_95 : decode c_Mo_delay 95 = .ok (.ireturn, 1) := dc_of (x := (95, .ireturn, 1)) t0_Mo_delay_ok (i := 53) rfl
def t0_Mo_spike : List (Nat × Instr × Nat) := [(0, .aload_n 0, 1), (1, .iload_n 1, 1), (2, .ifCond .eq 8, 3), (5, .iload_n 1, 1), (6, .iconst 1, 1), (7, .if_icmp .ne 7, 3), (10, .iconst 0, 1), (11, .goto 4, 3), (14, .iconst 1, 1), (15, .putfield 28, 3), (18, .aload_n 0, 1), (19, .getfield 28, 3), (22, .ifCond .ne 17, 3), (25, .aload_n 0, 1), (26, .getfield 7, 3), (29, .iconst 1, 1), (30, .iaload, 1), (31, .iload_n 1, 1), (32, .if_icmp .eq 7, 3), (35, .iconst 1, 1), (36, .goto 4, 3), (39, .iconst 0, 1), (40, .istore_n 2, 1), (41, .aload_n 0, 1), (42, .getfield 7, 3), (45, .iconst 1, 1), (46, .aload_n 0, 1), (47, .getfield 28, 3), (50, .ifCond .le 12, 3), (53, .aload_n 0, 1), (54, .getfield 7, 3), (57, .iconst 1, 1), (58, .iaload, 1), (59, .goto 4, 3), (62, .iload_n 1, 1), (63, .iastore, 1), (64, .iload_n 2, 1), (65, .ireturn, 1)]
theorem t0_Mo_spike_ok : t0_Mo_spike.all (fun x => decide (decode c_Mo_spike x.1 = .ok x.2)) = true := by decide +kernel
theorem d_Mo_spike_0 : decode c_Mo_spike 0 = .ok (.aload_n 0, 1) := dc_of (x := (0, .aload_n 0, 1)) t0_Mo_spike_ok (i := 0) rfl
theorem d_Mo_spike_1 : decode c_Mo_spike 1 = .ok (.iload_n 1, 1) := dc_of (x := (1, .iload_n 1, 1)) t0_Mo_spike_ok (i := 1) rfl
theorem d_Mo_spike_2 : decode c_Mo_spike 2 = .ok (.ifCond .eq 8, 3) := dc_of (x := (2, .ifCond .eq 8, 3)) t0_Mo_spike_ok (i := 2) rfl
theorem d_Mo_spike_5 : decode c_Mo_spike 5 = .ok (.iload_n 1, 1) := dc_of (x := (5, .iload_n 1, 1)) t0_Mo_spike_ok (i := 3) rfl
theorem d_Mo_spike_6 : decode c_Mo_spike 6 = .ok (.iconst 1, 1) := dc_of (x := (6, .iconst 1, 1)) t0_Mo_spike_ok (i := 4) rfl
theorem d_Mo_spike_7 : decode c_Mo_spike 7 = .ok (.if_icmp .ne 7, 3) := dc_of (x := (7, .if_icmp .ne 7, 3)) t0_Mo_spike_ok (i := 5) rfl
theorem d_Mo_spike_10 : decode c_Mo_spike 10 = .ok (.iconst 0, 1) := dc_of (x := (10, .iconst 0, 1)) t0_Mo_spike_ok (i := 6) rfl
theorem d_Mo_spike_11 : decode c_Mo_spike 11 = .ok (.goto 4, 3) := dc_of (x := (11, .goto 4, 3)) t0_Mo_spike_ok (i := 7) rfl
theorem d_Mo_spike_14 : decode c_Mo_spike 14 = .ok (.iconst 1, 1) := dc_of (x := (14, .iconst 1, 1)) t0_Mo_spike_ok (i := 8) rfl
theorem d_Mo_spike_15 : decode c_Mo_spike 15 = .ok (.putfield 28, 3) := dc_of (x := (15, .putfield 28, 3)) t0_Mo_spike_ok (i := 9) rfl
theorem d_Mo_spike_18 : decode c_Mo_spike 18 = .ok (.aload_n 0, 1) := dc_of (x := (18, .aload_n 0, 1)) t0_Mo_spike_ok (i := 10) rfl
theorem d_Mo_spike_19 : decode c_Mo_spike 19 = .ok (.getfield 28, 3) := dc_of (x := (19, .getfield 28, 3)) t0_Mo_spike_ok (i := 11) rfl
theorem d_Mo_spike_22 : decode c_Mo_spike 22 = .ok (.ifCond .ne 17, 3) := dc_of (x := (22, .ifCond .ne 17, 3)) t0_Mo_spike_ok (i := 12) rfl
theorem d_Mo_spike_25 : decode c_Mo_spike 25 = .ok (.aload_n 0, 1) := dc_of (x := (25, .aload_n 0, 1)) t0_Mo_spike_ok (i := 13) rfl
theorem d_Mo_spike_26 : decode c_Mo_spike 26 = .ok (.getfield 7, 3) := dc_of (x := (26, .getfield 7, 3)) t0_Mo_spike_ok (i := 14) rfl
theorem d_Mo_spike_29 : decode c_Mo_spike 29 = .ok (.iconst 1, 1) := dc_of (x := (29, .iconst 1, 1)) t0_Mo_spike_ok (i := 15) rfl
theorem d_Mo_spike_30 : decode c_Mo_spike 30 = .ok (.iaload, 1) := dc_of (x := (30, .iaload, 1)) t0_Mo_spike_ok (i := 16) rfl
theorem d_Mo_spike_31 : decode c_Mo_spike 31 = .ok (.iload_n 1, 1) := dc_of (x := (31, .iload_n 1, 1)) t0_Mo_spike_ok (i := 17) rfl
theorem d_Mo_spike_32 : decode c_Mo_spike 32 = .ok (.if_icmp .eq 7, 3) := dc_of (x := (32, .if_icmp .eq 7, 3)) t0_Mo_spike_ok (i := 18) rfl
theorem d_Mo_spike_35 : decode c_Mo_spike 35 = .ok (.iconst 1, 1) := dc_of (x := (35, .iconst 1, 1)) t0_Mo_spike_ok (i := 19) rfl
theorem d_Mo_spike_36 : decode c_Mo_spike 36 = .ok (.goto 4, 3) := dc_of (x := (36, .goto 4, 3)) t0_Mo_spike_ok (i := 20) rfl
theorem d_Mo_spike_39 : decode c_Mo_spike 39 = .ok (.iconst 0, 1) := dc_of (x := (39, .iconst 0, 1)) t0_Mo_spike_ok (i := 21) rfl
theorem d_Mo_spike_40 : decode c_Mo_spike 40 = .ok (.istore_n 2, 1) := dc_of (x := (40, .istore_n 2, 1)) t0_Mo_spike_ok (i := 22) rfl
theorem d_Mo_spike_41 : decode c_Mo_spike 41 = .ok (.aload_n 0, 1) := dc_of (x := (41, .aload_n 0, 1)) t0_Mo_spike_ok (i := 23) rfl
theorem d_Mo_spike_42 : decode c_Mo_spike 42 = .ok (.getfield 7, 3) := dc_of (x := (42, .getfield 7, 3)) t0_Mo_spike_ok (i := 24) rfl
theorem d_Mo_spike_45 : decode c_Mo_spike 45 = .ok (.iconst 1, 1) := dc_of (x := (45, .iconst 1, 1)) t0_Mo_spike_ok (i := 25) rfl
theorem d_Mo_spike_46 : decode c_Mo_spike 46 = .ok (.aload_n 0, 1) := dc_of (x := (46, .aload_n 0, 1)) t0_Mo_spike_ok (i := 26) rfl
theorem d_Mo_spike_47 : decode c_Mo_spike 47 = .ok (.getfield 28, 3) := dc_of (x := (47, .getfield 28, 3)) t0_Mo_spike_ok (i := 27) rfl
theorem d_Mo_spike_50 : decode c_Mo_spike 50 = .ok (.ifCond .le 12, 3) := dc_of (x := (50, .ifCond .le 12, 3)) t0_Mo_spike_ok (i := 28) rfl
theorem d_Mo_spike_53 : decode c_Mo_spike 53 = .ok (.aload_n 0, 1) := dc_of (x := (53, .aload_n 0, 1)) t0_Mo_spike_ok (i := 29) rfl
theorem d_Mo_spike_54 : decode c_Mo_spike 54 = .ok (.getfield 7, 3) := dc_of (x := (54, .getfield 7, 3)) t0_Mo_spike_ok (i := 30) rfl
theorem d_Mo_spike_57 : decode c_Mo_spike 57 = .ok (.iconst 1, 1) := dc_of (x := (57, .iconst 1, 1)) t0_Mo_spike_ok (i := 31) rfl
theorem d_Mo_spike_58 : decode c_Mo_spike 58 = .ok (.iaload, 1) := dc_of (x := (58, .iaload, 1)) t0_Mo_spike_ok (i := 32) rfl
theorem d_Mo_spike_59 : decode c_Mo_spike 59 = .ok (.goto 4, 3) := dc_of (x := (59, .goto 4, 3)) t0_Mo_spike_ok (i := 33) rfl
theorem d_Mo_spike_62 : decode c_Mo_spike 62 = .ok (.iload_n 1, 1) := dc_of (x := (62, .iload_n 1, 1)) t0_Mo_spike_ok (i := 34) rfl
theorem d_Mo_spike_63 : decode c_Mo_spike 63 = .ok (.iastore, 1) := dc_of (x := (63, .iastore, 1)) t0_Mo_spike_ok (i := 35) rfl
theorem d_Mo_spike_64 : decode c_Mo_spike 64 = .ok (.iload_n 2, 1) := dc_of (x := (64, .iload_n 2, 1)) t0_Mo_spike_ok (i := 36) rfl
theorem d_Mo_spike_65 : decode c_Mo_spike 65 = .ok (.ireturn, 1) := dc_of (x := (65, .ireturn, 1)) t0_Mo_spike_ok (i := 37) rfl
def t0_Mo_tell : List (Nat × Instr × Nat) := [(0, .sipush 700, 3), (3, .iconst 5, 1), (4, .aload_n 0, 1), (5, .getfield 7, 3), (8, .iconst 4, 1), (9, .iaload, 1), (10, .imul, 1), (11, .iadd, 1), (12, .istore 5, 2), (14, .aload_n 0, 1), (15, .getfield 7, 3), (18, .iconst 4, 1), (19, .dup2, 1), (20, .iaload, 1), (21, .iconst 1, 1), (22, .iadd, 1), (23, .iastore, 1), (24, .aload_n 0, 1), (25, .getfield 7, 3), (28, .iload 5, 2), (30, .iload_n 2, 1), (31, .iastore, 1), (32, .aload_n 0, 1), (33, .getfield 7, 3), (36, .iload 5, 2), (38, .iconst 1, 1), (39, .iadd, 1), (40, .iload_n 1, 1), (41, .iastore, 1), (42, .aload_n 0, 1), (43, .getfield 7, 3), (46, .iload 5, 2), (48, .iconst 2, 1), (49, .iadd, 1), (50, .iload_n 3, 1), (51, .iastore, 1), (52, .aload_n 0, 1), (53, .getfield 7, 3), (56, .iload 5, 2), (58, .iconst 3, 1), (59, .iadd, 1), (60, .iload 4, 2), (62, .iastore, 1), (63, .aload_n 0, 1), (64, .getfield 7, 3), (67, .iload 5, 2), (69, .iconst 4, 1), (70, .iadd, 1), (71, .aload_n 0, 1), (72, .getfield 7, 3), (75, .bipush 7, 2), (77, .iaload, 1), (78, .iastore, 1), (79, .aload_n 0, 1), (80, .getfield 7, 3), (83, .bipush 7, 2), (85, .dup2, 1), (86, .iaload, 1), (87, .iconst 1, 1), (88, .iadd, 1)]
theorem t0_Mo_tell_ok : t0_Mo_tell.all (fun x => decide (decode c_Mo_tell x.1 = .ok x.2)) = true := by decide +kernel
def t1_Mo_tell : List (Nat × Instr × Nat) := [(89, .iastore, 1), (90, .return_, 1)]
theorem t1_Mo_tell_ok : t1_Mo_tell.all (fun x => decide (decode c_Mo_tell x.1 = .ok x.2)) = true := by decide +kernel
theorem d_Mo_tell_0 : decode c_Mo_tell 0 = .ok (.sipush 700, 3) := dc_of (x := (0, .sipush 700, 3)) t0_Mo_tell_ok (i := 0) rfl
theorem d_Mo_tell_3 : decode c_Mo_tell 3 = .ok (.iconst 5, 1) := dc_of (x := (3, .iconst 5, 1)) t0_Mo_tell_ok (i := 1) rfl
theorem d_Mo_tell_4 : decode c_Mo_tell 4 = .ok (.aload_n 0, 1) := dc_of (x := (4, .aload_n 0, 1)) t0_Mo_tell_ok (i := 2) rfl
theorem d_Mo_tell_5 : decode c_Mo_tell 5 = .ok (.getfield 7, 3) := dc_of (x := (5, .getfield 7, 3)) t0_Mo_tell_ok (i := 3) rfl
theorem d_Mo_tell_8 : decode c_Mo_tell 8 = .ok (.iconst 4, 1) := dc_of (x := (8, .iconst 4, 1)) t0_Mo_tell_ok (i := 4) rfl
theorem d_Mo_tell_9 : decode c_Mo_tell 9 = .ok (.iaload, 1) := dc_of (x := (9, .iaload, 1)) t0_Mo_tell_ok (i := 5) rfl
theorem d_Mo_tell_10 : decode c_Mo_tell 10 = .ok (.imul, 1) := dc_of (x := (10, .imul, 1)) t0_Mo_tell_ok (i := 6) rfl
theorem d_Mo_tell_11 : decode c_Mo_tell 11 = .ok (.iadd, 1) := dc_of (x := (11, .iadd, 1)) t0_Mo_tell_ok (i := 7) rfl
theorem d_Mo_tell_12 : decode c_Mo_tell 12 = .ok (.istore 5, 2) := dc_of (x := (12, .istore 5, 2)) t0_Mo_tell_ok (i := 8) rfl
theorem d_Mo_tell_14 : decode c_Mo_tell 14 = .ok (.aload_n 0, 1) := dc_of (x := (14, .aload_n 0, 1)) t0_Mo_tell_ok (i := 9) rfl
theorem d_Mo_tell_15 : decode c_Mo_tell 15 = .ok (.getfield 7, 3) := dc_of (x := (15, .getfield 7, 3)) t0_Mo_tell_ok (i := 10) rfl
theorem d_Mo_tell_18 : decode c_Mo_tell 18 = .ok (.iconst 4, 1) := dc_of (x := (18, .iconst 4, 1)) t0_Mo_tell_ok (i := 11) rfl
theorem d_Mo_tell_19 : decode c_Mo_tell 19 = .ok (.dup2, 1) := dc_of (x := (19, .dup2, 1)) t0_Mo_tell_ok (i := 12) rfl
theorem d_Mo_tell_20 : decode c_Mo_tell 20 = .ok (.iaload, 1) := dc_of (x := (20, .iaload, 1)) t0_Mo_tell_ok (i := 13) rfl
theorem d_Mo_tell_21 : decode c_Mo_tell 21 = .ok (.iconst 1, 1) := dc_of (x := (21, .iconst 1, 1)) t0_Mo_tell_ok (i := 14) rfl
theorem d_Mo_tell_22 : decode c_Mo_tell 22 = .ok (.iadd, 1) := dc_of (x := (22, .iadd, 1)) t0_Mo_tell_ok (i := 15) rfl
theorem d_Mo_tell_23 : decode c_Mo_tell 23 = .ok (.iastore, 1) := dc_of (x := (23, .iastore, 1)) t0_Mo_tell_ok (i := 16) rfl
theorem d_Mo_tell_24 : decode c_Mo_tell 24 = .ok (.aload_n 0, 1) := dc_of (x := (24, .aload_n 0, 1)) t0_Mo_tell_ok (i := 17) rfl
theorem d_Mo_tell_25 : decode c_Mo_tell 25 = .ok (.getfield 7, 3) := dc_of (x := (25, .getfield 7, 3)) t0_Mo_tell_ok (i := 18) rfl
theorem d_Mo_tell_28 : decode c_Mo_tell 28 = .ok (.iload 5, 2) := dc_of (x := (28, .iload 5, 2)) t0_Mo_tell_ok (i := 19) rfl
theorem d_Mo_tell_30 : decode c_Mo_tell 30 = .ok (.iload_n 2, 1) := dc_of (x := (30, .iload_n 2, 1)) t0_Mo_tell_ok (i := 20) rfl
theorem d_Mo_tell_31 : decode c_Mo_tell 31 = .ok (.iastore, 1) := dc_of (x := (31, .iastore, 1)) t0_Mo_tell_ok (i := 21) rfl
theorem d_Mo_tell_32 : decode c_Mo_tell 32 = .ok (.aload_n 0, 1) := dc_of (x := (32, .aload_n 0, 1)) t0_Mo_tell_ok (i := 22) rfl
theorem d_Mo_tell_33 : decode c_Mo_tell 33 = .ok (.getfield 7, 3) := dc_of (x := (33, .getfield 7, 3)) t0_Mo_tell_ok (i := 23) rfl
theorem d_Mo_tell_36 : decode c_Mo_tell 36 = .ok (.iload 5, 2) := dc_of (x := (36, .iload 5, 2)) t0_Mo_tell_ok (i := 24) rfl
theorem d_Mo_tell_38 : decode c_Mo_tell 38 = .ok (.iconst 1, 1) := dc_of (x := (38, .iconst 1, 1)) t0_Mo_tell_ok (i := 25) rfl
theorem d_Mo_tell_39 : decode c_Mo_tell 39 = .ok (.iadd, 1) := dc_of (x := (39, .iadd, 1)) t0_Mo_tell_ok (i := 26) rfl
theorem d_Mo_tell_40 : decode c_Mo_tell 40 = .ok (.iload_n 1, 1) := dc_of (x := (40, .iload_n 1, 1)) t0_Mo_tell_ok (i := 27) rfl
theorem d_Mo_tell_41 : decode c_Mo_tell 41 = .ok (.iastore, 1) := dc_of (x := (41, .iastore, 1)) t0_Mo_tell_ok (i := 28) rfl
theorem d_Mo_tell_42 : decode c_Mo_tell 42 = .ok (.aload_n 0, 1) := dc_of (x := (42, .aload_n 0, 1)) t0_Mo_tell_ok (i := 29) rfl
theorem d_Mo_tell_43 : decode c_Mo_tell 43 = .ok (.getfield 7, 3) := dc_of (x := (43, .getfield 7, 3)) t0_Mo_tell_ok (i := 30) rfl
theorem d_Mo_tell_46 : decode c_Mo_tell 46 = .ok (.iload 5, 2) := dc_of (x := (46, .iload 5, 2)) t0_Mo_tell_ok (i := 31) rfl
theorem d_Mo_tell_48 : decode c_Mo_tell 48 = .ok (.iconst 2, 1) := dc_of (x := (48, .iconst 2, 1)) t0_Mo_tell_ok (i := 32) rfl
theorem d_Mo_tell_49 : decode c_Mo_tell 49 = .ok (.iadd, 1) := dc_of (x := (49, .iadd, 1)) t0_Mo_tell_ok (i := 33) rfl
theorem d_Mo_tell_50 : decode c_Mo_tell 50 = .ok (.iload_n 3, 1) := dc_of (x := (50, .iload_n 3, 1)) t0_Mo_tell_ok (i := 34) rfl
theorem d_Mo_tell_51 : decode c_Mo_tell 51 = .ok (.iastore, 1) := dc_of (x := (51, .iastore, 1)) t0_Mo_tell_ok (i := 35) rfl
theorem d_Mo_tell_52 : decode c_Mo_tell 52 = .ok (.aload_n 0, 1) := dc_of (x := (52, .aload_n 0, 1)) t0_Mo_tell_ok (i := 36) rfl
theorem d_Mo_tell_53 : decode c_Mo_tell 53 = .ok (.getfield 7, 3) := dc_of (x := (53, .getfield 7, 3)) t0_Mo_tell_ok (i := 37) rfl
theorem d_Mo_tell_56 : decode c_Mo_tell 56 = .ok (.iload 5, 2) := dc_of (x := (56, .iload 5, 2)) t0_Mo_tell_ok (i := 38) rfl
theorem d_Mo_tell_58 : decode c_Mo_tell 58 = .ok (.iconst 3, 1) := dc_of (x := (58, .iconst 3, 1)) t0_Mo_tell_ok (i := 39) rfl
theorem d_Mo_tell_59 : decode c_Mo_tell 59 = .ok (.iadd, 1) := dc_of (x := (59, .iadd, 1)) t0_Mo_tell_ok (i := 40) rfl
theorem d_Mo_tell_60 : decode c_Mo_tell 60 = .ok (.iload 4, 2) := dc_of (x := (60, .iload 4, 2)) t0_Mo_tell_ok (i := 41) rfl
theorem d_Mo_tell_62 : decode c_Mo_tell 62 = .ok (.iastore, 1) := dc_of (x := (62, .iastore, 1)) t0_Mo_tell_ok (i := 42) rfl
theorem d_Mo_tell_63 : decode c_Mo_tell 63 = .ok (.aload_n 0, 1) := dc_of (x := (63, .aload_n 0, 1)) t0_Mo_tell_ok (i := 43) rfl
theorem d_Mo_tell_64 : decode c_Mo_tell 64 = .ok (.getfield 7, 3) := dc_of (x := (64, .getfield 7, 3)) t0_Mo_tell_ok (i := 44) rfl
theorem d_Mo_tell_67 : decode c_Mo_tell 67 = .ok (.iload 5, 2) := dc_of (x := (67, .iload 5, 2)) t0_Mo_tell_ok (i := 45) rfl
theorem d_Mo_tell_69 : decode c_Mo_tell 69 = .ok (.iconst 4, 1) := dc_of (x := (69, .iconst 4, 1)) t0_Mo_tell_ok (i := 46) rfl
theorem d_Mo_tell_70 : decode c_Mo_tell 70 = .ok (.iadd, 1) := dc_of (x := (70, .iadd, 1)) t0_Mo_tell_ok (i := 47) rfl
theorem d_Mo_tell_71 : decode c_Mo_tell 71 = .ok (.aload_n 0, 1) := dc_of (x := (71, .aload_n 0, 1)) t0_Mo_tell_ok (i := 48) rfl
theorem d_Mo_tell_72 : decode c_Mo_tell 72 = .ok (.getfield 7, 3) := dc_of (x := (72, .getfield 7, 3)) t0_Mo_tell_ok (i := 49) rfl
theorem d_Mo_tell_75 : decode c_Mo_tell 75 = .ok (.bipush 7, 2) := dc_of (x := (75, .bipush 7, 2)) t0_Mo_tell_ok (i := 50) rfl
theorem d_Mo_tell_77 : decode c_Mo_tell 77 = .ok (.iaload, 1) := dc_of (x := (77, .iaload, 1)) t0_Mo_tell_ok (i := 51) rfl
theorem d_Mo_tell_78 : decode c_Mo_tell 78 = .ok (.iastore, 1) := dc_of (x := (78, .iastore, 1)) t0_Mo_tell_ok (i := 52) rfl
theorem d_Mo_tell_79 : decode c_Mo_tell 79 = .ok (.aload_n 0, 1) := dc_of (x := (79, .aload_n 0, 1)) t0_Mo_tell_ok (i := 53) rfl
theorem d_Mo_tell_80 : decode c_Mo_tell 80 = .ok (.getfield 7, 3) := dc_of (x := (80, .getfield 7, 3)) t0_Mo_tell_ok (i := 54) rfl
theorem d_Mo_tell_83 : decode c_Mo_tell 83 = .ok (.bipush 7, 2) := dc_of (x := (83, .bipush 7, 2)) t0_Mo_tell_ok (i := 55) rfl
theorem d_Mo_tell_85 : decode c_Mo_tell 85 = .ok (.dup2, 1) := dc_of (x := (85, .dup2, 1)) t0_Mo_tell_ok (i := 56) rfl
theorem d_Mo_tell_86 : decode c_Mo_tell 86 = .ok (.iaload, 1) := dc_of (x := (86, .iaload, 1)) t0_Mo_tell_ok (i := 57) rfl
theorem d_Mo_tell_87 : decode c_Mo_tell 87 = .ok (.iconst 1, 1) := dc_of (x := (87, .iconst 1, 1)) t0_Mo_tell_ok (i := 58) rfl
theorem d_Mo_tell_88 : decode c_Mo_tell 88 = .ok (.iadd, 1) := dc_of (x := (88, .iadd, 1)) t0_Mo_tell_ok (i := 59) rfl
theorem d_Mo_tell_89 : decode c_Mo_tell 89 = .ok (.iastore, 1) := dc_of (x := (89, .iastore, 1)) t1_Mo_tell_ok (i := 0) rfl
theorem d_Mo_tell_90 : decode c_Mo_tell 90 = .ok (.return_, 1) := dc_of (x := (90, .return_, 1)) t1_Mo_tell_ok (i := 1) rfl
def t0_Mo_hand : List (Nat × Instr × Nat) := [(0, .iload 5, 2), (2, .ifCond .lt 33, 3), (5, .iload 5, 2), (7, .iconst 3, 1), (8, .if_icmp .gt 27, 3), (11, .lload_n 2, 1), (12, .aload_n 0, 1), (13, .getfield 7, 3), (16, .iconst 0, 1), (17, .iaload, 1), (18, .i2l, 1), (19, .lcmp, 1), (20, .ifCond .lt 15, 3), (23, .lload_n 2, 1), (24, .ldc2_w 81, 3), (27, .lcmp, 1), (28, .ifCond .gt 7, 3), (31, .iconst 1, 1), (32, .goto 4, 3), (35, .iconst 0, 1), (36, .istore 6, 2), (38, .aload_n 0, 1), (39, .aload_n 0, 1), (40, .iload_n 1, 1), (41, .invokevirtual 70, 3), (44, .ifCond .ne 7, 3), (47, .iconst 1, 1), (48, .goto 28, 3), (51, .aload_n 0, 1), (52, .getfield 7, 3), (55, .iconst 4, 1), (56, .iaload, 1), (57, .bipush 100, 2), (59, .if_icmp .ne 7, 3), (62, .iconst 2, 1), (63, .goto 13, 3), (66, .iload 6, 2), (68, .ifCond .ne 7, 3), (71, .iconst 3, 1), (72, .goto 4, 3), (75, .iconst 0, 1), (76, .putfield 28, 3), (79, .aload_n 0, 1), (80, .getfield 28, 3), (83, .ifCond .le 5, 3), (86, .iconst 0, 1), (87, .ireturn, 1), (88, .aload_n 0, 1), (89, .iload_n 1, 1), (90, .lload_n 2, 1), (91, .l2i, 1), (92, .iload 4, 2), (94, .iload 5, 2), (96, .invokevirtual 83, 3), (99, .aload_n 0, 1), (100, .getfield 7, 3), (103, .iconst 4, 1), (104, .iaload, 1), (105, .ireturn, 1)]
theorem t0_Mo_hand_ok : t0_Mo_hand.all (fun x => decide (decode c_Mo_hand x.1 = .ok x.2)) = true := by decide +kernel
theorem d_Mo_hand_0 : decode c_Mo_hand 0 = .ok (.iload 5, 2) := dc_of (x := (0, .iload 5, 2)) t0_Mo_hand_ok (i := 0) rfl
theorem d_Mo_hand_2 : decode c_Mo_hand 2 = .ok (.ifCond .lt 33, 3) := dc_of (x := (2, .ifCond .lt 33, 3)) t0_Mo_hand_ok (i := 1) rfl
theorem d_Mo_hand_5 : decode c_Mo_hand 5 = .ok (.iload 5, 2) := dc_of (x := (5, .iload 5, 2)) t0_Mo_hand_ok (i := 2) rfl
theorem d_Mo_hand_7 : decode c_Mo_hand 7 = .ok (.iconst 3, 1) := dc_of (x := (7, .iconst 3, 1)) t0_Mo_hand_ok (i := 3) rfl
theorem d_Mo_hand_8 : decode c_Mo_hand 8 = .ok (.if_icmp .gt 27, 3) := dc_of (x := (8, .if_icmp .gt 27, 3)) t0_Mo_hand_ok (i := 4) rfl
theorem d_Mo_hand_11 : decode c_Mo_hand 11 = .ok (.lload_n 2, 1) := dc_of (x := (11, .lload_n 2, 1)) t0_Mo_hand_ok (i := 5) rfl
theorem d_Mo_hand_12 : decode c_Mo_hand 12 = .ok (.aload_n 0, 1) := dc_of (x := (12, .aload_n 0, 1)) t0_Mo_hand_ok (i := 6) rfl
theorem d_Mo_hand_13 : decode c_Mo_hand 13 = .ok (.getfield 7, 3) := dc_of (x := (13, .getfield 7, 3)) t0_Mo_hand_ok (i := 7) rfl
theorem d_Mo_hand_16 : decode c_Mo_hand 16 = .ok (.iconst 0, 1) := dc_of (x := (16, .iconst 0, 1)) t0_Mo_hand_ok (i := 8) rfl
theorem d_Mo_hand_17 : decode c_Mo_hand 17 = .ok (.iaload, 1) := dc_of (x := (17, .iaload, 1)) t0_Mo_hand_ok (i := 9) rfl
theorem d_Mo_hand_18 : decode c_Mo_hand 18 = .ok (.i2l, 1) := dc_of (x := (18, .i2l, 1)) t0_Mo_hand_ok (i := 10) rfl
theorem d_Mo_hand_19 : decode c_Mo_hand 19 = .ok (.lcmp, 1) := dc_of (x := (19, .lcmp, 1)) t0_Mo_hand_ok (i := 11) rfl
theorem d_Mo_hand_20 : decode c_Mo_hand 20 = .ok (.ifCond .lt 15, 3) := dc_of (x := (20, .ifCond .lt 15, 3)) t0_Mo_hand_ok (i := 12) rfl
theorem d_Mo_hand_23 : decode c_Mo_hand 23 = .ok (.lload_n 2, 1) := dc_of (x := (23, .lload_n 2, 1)) t0_Mo_hand_ok (i := 13) rfl
theorem d_Mo_hand_24 : decode c_Mo_hand 24 = .ok (.ldc2_w 81, 3) := dc_of (x := (24, .ldc2_w 81, 3)) t0_Mo_hand_ok (i := 14) rfl
theorem d_Mo_hand_27 : decode c_Mo_hand 27 = .ok (.lcmp, 1) := dc_of (x := (27, .lcmp, 1)) t0_Mo_hand_ok (i := 15) rfl
theorem d_Mo_hand_28 : decode c_Mo_hand 28 = .ok (.ifCond .gt 7, 3) := dc_of (x := (28, .ifCond .gt 7, 3)) t0_Mo_hand_ok (i := 16) rfl
theorem d_Mo_hand_31 : decode c_Mo_hand 31 = .ok (.iconst 1, 1) := dc_of (x := (31, .iconst 1, 1)) t0_Mo_hand_ok (i := 17) rfl
theorem d_Mo_hand_32 : decode c_Mo_hand 32 = .ok (.goto 4, 3) := dc_of (x := (32, .goto 4, 3)) t0_Mo_hand_ok (i := 18) rfl
theorem d_Mo_hand_35 : decode c_Mo_hand 35 = .ok (.iconst 0, 1) := dc_of (x := (35, .iconst 0, 1)) t0_Mo_hand_ok (i := 19) rfl
theorem d_Mo_hand_36 : decode c_Mo_hand 36 = .ok (.istore 6, 2) := dc_of (x := (36, .istore 6, 2)) t0_Mo_hand_ok (i := 20) rfl
theorem d_Mo_hand_38 : decode c_Mo_hand 38 = .ok (.aload_n 0, 1) := dc_of (x := (38, .aload_n 0, 1)) t0_Mo_hand_ok (i := 21) rfl
theorem d_Mo_hand_39 : decode c_Mo_hand 39 = .ok (.aload_n 0, 1) := dc_of (x := (39, .aload_n 0, 1)) t0_Mo_hand_ok (i := 22) rfl
theorem d_Mo_hand_40 : decode c_Mo_hand 40 = .ok (.iload_n 1, 1) := dc_of (x := (40, .iload_n 1, 1)) t0_Mo_hand_ok (i := 23) rfl
theorem d_Mo_hand_41 : decode c_Mo_hand 41 = .ok (.invokevirtual 70, 3) := dc_of (x := (41, .invokevirtual 70, 3)) t0_Mo_hand_ok (i := 24) rfl
theorem d_Mo_hand_44 : decode c_Mo_hand 44 = .ok (.ifCond .ne 7, 3) := dc_of (x := (44, .ifCond .ne 7, 3)) t0_Mo_hand_ok (i := 25) rfl
theorem d_Mo_hand_47 : decode c_Mo_hand 47 = .ok (.iconst 1, 1) := dc_of (x := (47, .iconst 1, 1)) t0_Mo_hand_ok (i := 26) rfl
theorem d_Mo_hand_48 : decode c_Mo_hand 48 = .ok (.goto 28, 3) := dc_of (x := (48, .goto 28, 3)) t0_Mo_hand_ok (i := 27) rfl
theorem d_Mo_hand_51 : decode c_Mo_hand 51 = .ok (.aload_n 0, 1) := dc_of (x := (51, .aload_n 0, 1)) t0_Mo_hand_ok (i := 28) rfl
theorem d_Mo_hand_52 : decode c_Mo_hand 52 = .ok (.getfield 7, 3) := dc_of (x := (52, .getfield 7, 3)) t0_Mo_hand_ok (i := 29) rfl
theorem d_Mo_hand_55 : decode c_Mo_hand 55 = .ok (.iconst 4, 1) := dc_of (x := (55, .iconst 4, 1)) t0_Mo_hand_ok (i := 30) rfl
theorem d_Mo_hand_56 : decode c_Mo_hand 56 = .ok (.iaload, 1) := dc_of (x := (56, .iaload, 1)) t0_Mo_hand_ok (i := 31) rfl
theorem d_Mo_hand_57 : decode c_Mo_hand 57 = .ok (.bipush 100, 2) := dc_of (x := (57, .bipush 100, 2)) t0_Mo_hand_ok (i := 32) rfl
theorem d_Mo_hand_59 : decode c_Mo_hand 59 = .ok (.if_icmp .ne 7, 3) := dc_of (x := (59, .if_icmp .ne 7, 3)) t0_Mo_hand_ok (i := 33) rfl
theorem d_Mo_hand_62 : decode c_Mo_hand 62 = .ok (.iconst 2, 1) := dc_of (x := (62, .iconst 2, 1)) t0_Mo_hand_ok (i := 34) rfl
theorem d_Mo_hand_63 : decode c_Mo_hand 63 = .ok (.goto 13, 3) := dc_of (x := (63, .goto 13, 3)) t0_Mo_hand_ok (i := 35) rfl
theorem d_Mo_hand_66 : decode c_Mo_hand 66 = .ok (.iload 6, 2) := dc_of (x := (66, .iload 6, 2)) t0_Mo_hand_ok (i := 36) rfl
theorem d_Mo_hand_68 : decode c_Mo_hand 68 = .ok (.ifCond .ne 7, 3) := dc_of (x := (68, .ifCond .ne 7, 3)) t0_Mo_hand_ok (i := 37) rfl
theorem d_Mo_hand_71 : decode c_Mo_hand 71 = .ok (.iconst 3, 1) := dc_of (x := (71, .iconst 3, 1)) t0_Mo_hand_ok (i := 38) rfl
theorem d_Mo_hand_72 : decode c_Mo_hand 72 = .ok (.goto 4, 3) := dc_of (x := (72, .goto 4, 3)) t0_Mo_hand_ok (i := 39) rfl
theorem d_Mo_hand_75 : decode c_Mo_hand 75 = .ok (.iconst 0, 1) := dc_of (x := (75, .iconst 0, 1)) t0_Mo_hand_ok (i := 40) rfl
theorem d_Mo_hand_76 : decode c_Mo_hand 76 = .ok (.putfield 28, 3) := dc_of (x := (76, .putfield 28, 3)) t0_Mo_hand_ok (i := 41) rfl
theorem d_Mo_hand_79 : decode c_Mo_hand 79 = .ok (.aload_n 0, 1) := dc_of (x := (79, .aload_n 0, 1)) t0_Mo_hand_ok (i := 42) rfl
theorem d_Mo_hand_80 : decode c_Mo_hand 80 = .ok (.getfield 28, 3) := dc_of (x := (80, .getfield 28, 3)) t0_Mo_hand_ok (i := 43) rfl
theorem d_Mo_hand_83 : decode c_Mo_hand 83 = .ok (.ifCond .le 5, 3) := dc_of (x := (83, .ifCond .le 5, 3)) t0_Mo_hand_ok (i := 44) rfl
theorem d_Mo_hand_86 : decode c_Mo_hand 86 = .ok (.iconst 0, 1) := dc_of (x := (86, .iconst 0, 1)) t0_Mo_hand_ok (i := 45) rfl
theorem d_Mo_hand_87 : decode c_Mo_hand 87 = .ok (.ireturn, 1) := dc_of (x := (87, .ireturn, 1)) t0_Mo_hand_ok (i := 46) rfl
theorem d_Mo_hand_88 : decode c_Mo_hand 88 = .ok (.aload_n 0, 1) := dc_of (x := (88, .aload_n 0, 1)) t0_Mo_hand_ok (i := 47) rfl
theorem d_Mo_hand_89 : decode c_Mo_hand 89 = .ok (.iload_n 1, 1) := dc_of (x := (89, .iload_n 1, 1)) t0_Mo_hand_ok (i := 48) rfl
theorem d_Mo_hand_90 : decode c_Mo_hand 90 = .ok (.lload_n 2, 1) := dc_of (x := (90, .lload_n 2, 1)) t0_Mo_hand_ok (i := 49) rfl
theorem d_Mo_hand_91 : decode c_Mo_hand 91 = .ok (.l2i, 1) := dc_of (x := (91, .l2i, 1)) t0_Mo_hand_ok (i := 50) rfl
theorem d_Mo_hand_92 : decode c_Mo_hand 92 = .ok (.iload 4, 2) := dc_of (x := (92, .iload 4, 2)) t0_Mo_hand_ok (i := 51) rfl
theorem d_Mo_hand_94 : decode c_Mo_hand 94 = .ok (.iload 5, 2) := dc_of (x := (94, .iload 5, 2)) t0_Mo_hand_ok (i := 52) rfl
theorem d_Mo_hand_96 : decode c_Mo_hand 96 = .ok (.invokevirtual 83, 3) := dc_of (x := (96, .invokevirtual 83, 3)) t0_Mo_hand_ok (i := 53) rfl
theorem d_Mo_hand_99 : decode c_Mo_hand 99 = .ok (.aload_n 0, 1) := dc_of (x := (99, .aload_n 0, 1)) t0_Mo_hand_ok (i := 54) rfl
theorem d_Mo_hand_100 : decode c_Mo_hand 100 = .ok (.getfield 7, 3) := dc_of (x := (100, .getfield 7, 3)) t0_Mo_hand_ok (i := 55) rfl
theorem d_Mo_hand_103 : decode c_Mo_hand 103 = .ok (.iconst 4, 1) := dc_of (x := (103, .iconst 4, 1)) t0_Mo_hand_ok (i := 56) rfl
theorem d_Mo_hand_104 : decode c_Mo_hand 104 = .ok (.iaload, 1) := dc_of (x := (104, .iaload, 1)) t0_Mo_hand_ok (i := 57) rfl
theorem d_Mo_hand_105 : decode c_Mo_hand 105 = .ok (.ireturn, 1) := dc_of (x := (105, .ireturn, 1)) t0_Mo_hand_ok (i := 58) rfl
def t0_Mo_drive : List (Nat × Instr × Nat) := [(0, .aload_n 0, 1), (1, .iload_n 1, 1), (2, .lload_n 2, 1), (3, .iconst 0, 1), (4, .iload 4, 2), (6, .invokevirtual 87, 3), (9, .ireturn, 1)]
theorem t0_Mo_drive_ok : t0_Mo_drive.all (fun x => decide (decode c_Mo_drive x.1 = .ok x.2)) = true := by decide +kernel
theorem d_Mo_drive_0 : decode c_Mo_drive 0 = .ok (.aload_n 0, 1) := dc_of (x := (0, .aload_n 0, 1)) t0_Mo_drive_ok (i := 0) rfl
theorem d_Mo_drive_1 : decode c_Mo_drive 1 = .ok (.iload_n 1, 1) := dc_of (x := (1, .iload_n 1, 1)) t0_Mo_drive_ok (i := 1) rfl
theorem d_Mo_drive_2 : decode c_Mo_drive 2 = .ok (.lload_n 2, 1) := dc_of (x := (2, .lload_n 2, 1)) t0_Mo_drive_ok (i := 2) rfl
theorem d_Mo_drive_3 : decode c_Mo_drive 3 = .ok (.iconst 0, 1) := dc_of (x := (3, .iconst 0, 1)) t0_Mo_drive_ok (i := 3) rfl
theorem d_Mo_drive_4 : decode c_Mo_drive 4 = .ok (.iload 4, 2) := dc_of (x := (4, .iload 4, 2)) t0_Mo_drive_ok (i := 4) rfl
theorem d_Mo_drive_6 : decode c_Mo_drive 6 = .ok (.invokevirtual 87, 3) := dc_of (x := (6, .invokevirtual 87, 3)) t0_Mo_drive_ok (i := 5) rfl
theorem d_Mo_drive_9 : decode c_Mo_drive 9 = .ok (.ireturn, 1) := dc_of (x := (9, .ireturn, 1)) t0_Mo_drive_ok (i := 6) rfl
def t0_Mo_force : List (Nat × Instr × Nat) := [(0, .aload_n 0, 1), (1, .iload_n 1, 1), (2, .lload_n 2, 1), (3, .iconst 1, 1), (4, .iload 4, 2), (6, .invokevirtual 87, 3), (9, .ireturn, 1)]
theorem t0_Mo_force_ok : t0_Mo_force.all (fun x => decide (decode c_Mo_force x.1 = .ok x.2)) = true := by decide +kernel
theorem d_Mo_force_0 : decode c_Mo_force 0 = .ok (.aload_n 0, 1) := dc_of (x := (0, .aload_n 0, 1)) t0_Mo_force_ok (i := 0) rfl
theorem d_Mo_force_1 : decode c_Mo_force 1 = .ok (.iload_n 1, 1) := dc_of (x := (1, .iload_n 1, 1)) t0_Mo_force_ok (i := 1) rfl
theorem d_Mo_force_2 : decode c_Mo_force 2 = .ok (.lload_n 2, 1) := dc_of (x := (2, .lload_n 2, 1)) t0_Mo_force_ok (i := 2) rfl
theorem d_Mo_force_3 : decode c_Mo_force 3 = .ok (.iconst 1, 1) := dc_of (x := (3, .iconst 1, 1)) t0_Mo_force_ok (i := 3) rfl
theorem d_Mo_force_4 : decode c_Mo_force 4 = .ok (.iload 4, 2) := dc_of (x := (4, .iload 4, 2)) t0_Mo_force_ok (i := 4) rfl
theorem d_Mo_force_6 : decode c_Mo_force 6 = .ok (.invokevirtual 87, 3) := dc_of (x := (6, .invokevirtual 87, 3)) t0_Mo_force_ok (i := 5) rfl
theorem d_Mo_force_9 : decode c_Mo_force 9 = .ok (.ireturn, 1) := dc_of (x := (9, .ireturn, 1)) t0_Mo_force_ok (i := 6) rfl
def t0_Mo_release : List (Nat × Instr × Nat) := [(0, .aload_n 0, 1), (1, .iload_n 1, 1), (2, .lload_n 2, 1), (3, .iconst 2, 1), (4, .iconst 0, 1), (5, .invokevirtual 87, 3), (8, .ireturn, 1)]
theorem t0_Mo_release_ok : t0_Mo_release.all (fun x => decide (decode c_Mo_release x.1 = .ok x.2)) = true := by decide +kernel
theorem d_Mo_release_0 : decode c_Mo_release 0 = .ok (.aload_n 0, 1) := dc_of (x := (0, .aload_n 0, 1)) t0_Mo_release_ok (i := 0) rfl
theorem d_Mo_release_1 : decode c_Mo_release 1 = .ok (.iload_n 1, 1) := dc_of (x := (1, .iload_n 1, 1)) t0_Mo_release_ok (i := 1) rfl
theorem d_Mo_release_2 : decode c_Mo_release 2 = .ok (.lload_n 2, 1) := dc_of (x := (2, .lload_n 2, 1)) t0_Mo_release_ok (i := 2) rfl
theorem d_Mo_release_3 : decode c_Mo_release 3 = .ok (.iconst 2, 1) := dc_of (x := (3, .iconst 2, 1)) t0_Mo_release_ok (i := 3) rfl
theorem d_Mo_release_4 : decode c_Mo_release 4 = .ok (.iconst 0, 1) := dc_of (x := (4, .iconst 0, 1)) t0_Mo_release_ok (i := 4) rfl
theorem d_Mo_release_5 : decode c_Mo_release 5 = .ok (.invokevirtual 87, 3) := dc_of (x := (5, .invokevirtual 87, 3)) t0_Mo_release_ok (i := 5) rfl
theorem d_Mo_release_8 : decode c_Mo_release 8 = .ok (.ireturn, 1) := dc_of (x := (8, .ireturn, 1)) t0_Mo_release_ok (i := 6) rfl
def t0_Mo_check : List (Nat × Instr × Nat) := [(0, .iload_n 1, 1), (1, .ifCond .eq 8, 3), (4, .iload_n 1, 1), (5, .iconst 1, 1), (6, .if_icmp .ne 20, 3), (9, .iload 4, 2), (11, .ifCond .lt 15, 3), (14, .iload 4, 2), (16, .sipush 1000, 3), (19, .if_icmp .gt 7, 3), (22, .iconst 1, 1), (23, .goto 4, 3), (26, .iconst 0, 1), (27, .istore 5, 2), (29, .aload_n 0, 1), (30, .aload_n 0, 1), (31, .iload_n 2, 1), (32, .invokevirtual 70, 3), (35, .ifCond .eq 11, 3), (38, .aload_n 0, 1), (39, .iload_n 3, 1), (40, .invokevirtual 70, 3), (43, .ifCond .ne 7, 3), (46, .iconst 1, 1), (47, .goto 28, 3), (50, .aload_n 0, 1), (51, .getfield 7, 3), (54, .iconst 5, 1), (55, .iaload, 1), (56, .bipush 20, 2), (58, .if_icmp .ne 7, 3), (61, .iconst 2, 1), (62, .goto 13, 3), (65, .iload 5, 2), (67, .ifCond .ne 7, 3), (70, .iconst 3, 1), (71, .goto 4, 3), (74, .iconst 0, 1), (75, .putfield 28, 3), (78, .aload_n 0, 1), (79, .getfield 28, 3), (82, .ifCond .le 5, 3), (85, .iconst 0, 1), (86, .ireturn, 1), (87, .sipush 1300, 3), (90, .iconst 5, 1), (91, .aload_n 0, 1), (92, .getfield 7, 3), (95, .iconst 5, 1), (96, .iaload, 1), (97, .imul, 1), (98, .iadd, 1), (99, .istore 6, 2), (101, .aload_n 0, 1), (102, .getfield 7, 3), (105, .iload 6, 2), (107, .iload_n 1, 1), (108, .iastore, 1), (109, .aload_n 0, 1), (110, .getfield 7, 3)]
theorem t0_Mo_check_ok : t0_Mo_check.all (fun x => decide (decode c_Mo_check x.1 = .ok x.2)) = true := by decide +kernel
def t1_Mo_check : List (Nat × Instr × Nat) := [(113, .iload 6, 2), (115, .iconst 1, 1), (116, .iadd, 1), (117, .iload_n 2, 1), (118, .iastore, 1), (119, .aload_n 0, 1), (120, .getfield 7, 3), (123, .iload 6, 2), (125, .iconst 2, 1), (126, .iadd, 1), (127, .iload_n 3, 1), (128, .iastore, 1), (129, .aload_n 0, 1), (130, .getfield 7, 3), (133, .iload 6, 2), (135, .iconst 3, 1), (136, .iadd, 1), (137, .iload 4, 2), (139, .iastore, 1), (140, .aload_n 0, 1), (141, .getfield 7, 3), (144, .iload 6, 2), (146, .iconst 4, 1), (147, .iadd, 1), (148, .iconst 0, 1), (149, .iastore, 1), (150, .aload_n 0, 1), (151, .getfield 7, 3), (154, .iconst 5, 1), (155, .dup2, 1), (156, .iaload, 1), (157, .iconst 1, 1), (158, .iadd, 1), (159, .iastore, 1), (160, .aload_n 0, 1), (161, .getfield 7, 3), (164, .iconst 5, 1), (165, .iaload, 1), (166, .iconst 1, 1), (167, .isub, 1), (168, .ireturn, 1)]
theorem t1_Mo_check_ok : t1_Mo_check.all (fun x => decide (decode c_Mo_check x.1 = .ok x.2)) = true := by decide +kernel
theorem d_Mo_check_0 : decode c_Mo_check 0 = .ok (.iload_n 1, 1) := dc_of (x := (0, .iload_n 1, 1)) t0_Mo_check_ok (i := 0) rfl
theorem d_Mo_check_1 : decode c_Mo_check 1 = .ok (.ifCond .eq 8, 3) := dc_of (x := (1, .ifCond .eq 8, 3)) t0_Mo_check_ok (i := 1) rfl
theorem d_Mo_check_4 : decode c_Mo_check 4 = .ok (.iload_n 1, 1) := dc_of (x := (4, .iload_n 1, 1)) t0_Mo_check_ok (i := 2) rfl
theorem d_Mo_check_5 : decode c_Mo_check 5 = .ok (.iconst 1, 1) := dc_of (x := (5, .iconst 1, 1)) t0_Mo_check_ok (i := 3) rfl
theorem d_Mo_check_6 : decode c_Mo_check 6 = .ok (.if_icmp .ne 20, 3) := dc_of (x := (6, .if_icmp .ne 20, 3)) t0_Mo_check_ok (i := 4) rfl
theorem d_Mo_check_9 : decode c_Mo_check 9 = .ok (.iload 4, 2) := dc_of (x := (9, .iload 4, 2)) t0_Mo_check_ok (i := 5) rfl
theorem d_Mo_check_11 : decode c_Mo_check 11 = .ok (.ifCond .lt 15, 3) := dc_of (x := (11, .ifCond .lt 15, 3)) t0_Mo_check_ok (i := 6) rfl
theorem d_Mo_check_14 : decode c_Mo_check 14 = .ok (.iload 4, 2) := dc_of (x := (14, .iload 4, 2)) t0_Mo_check_ok (i := 7) rfl
theorem d_Mo_check_16 : decode c_Mo_check 16 = .ok (.sipush 1000, 3) := dc_of (x := (16, .sipush 1000, 3)) t0_Mo_check_ok (i := 8) rfl
theorem d_Mo_check_19 : decode c_Mo_check 19 = .ok (.if_icmp .gt 7, 3) := dc_of (x := (19, .if_icmp .gt 7, 3)) t0_Mo_check_ok (i := 9) rfl
theorem d_Mo_check_22 : decode c_Mo_check 22 = .ok (.iconst 1, 1) := dc_of (x := (22, .iconst 1, 1)) t0_Mo_check_ok (i := 10) rfl
theorem d_Mo_check_23 : decode c_Mo_check 23 = .ok (.goto 4, 3) := dc_of (x := (23, .goto 4, 3)) t0_Mo_check_ok (i := 11) rfl
theorem d_Mo_check_26 : decode c_Mo_check 26 = .ok (.iconst 0, 1) := dc_of (x := (26, .iconst 0, 1)) t0_Mo_check_ok (i := 12) rfl
theorem d_Mo_check_27 : decode c_Mo_check 27 = .ok (.istore 5, 2) := dc_of (x := (27, .istore 5, 2)) t0_Mo_check_ok (i := 13) rfl
theorem d_Mo_check_29 : decode c_Mo_check 29 = .ok (.aload_n 0, 1) := dc_of (x := (29, .aload_n 0, 1)) t0_Mo_check_ok (i := 14) rfl
theorem d_Mo_check_30 : decode c_Mo_check 30 = .ok (.aload_n 0, 1) := dc_of (x := (30, .aload_n 0, 1)) t0_Mo_check_ok (i := 15) rfl
theorem d_Mo_check_31 : decode c_Mo_check 31 = .ok (.iload_n 2, 1) := dc_of (x := (31, .iload_n 2, 1)) t0_Mo_check_ok (i := 16) rfl
theorem d_Mo_check_32 : decode c_Mo_check 32 = .ok (.invokevirtual 70, 3) := dc_of (x := (32, .invokevirtual 70, 3)) t0_Mo_check_ok (i := 17) rfl
theorem d_Mo_check_35 : decode c_Mo_check 35 = .ok (.ifCond .eq 11, 3) := dc_of (x := (35, .ifCond .eq 11, 3)) t0_Mo_check_ok (i := 18) rfl
theorem d_Mo_check_38 : decode c_Mo_check 38 = .ok (.aload_n 0, 1) := dc_of (x := (38, .aload_n 0, 1)) t0_Mo_check_ok (i := 19) rfl
theorem d_Mo_check_39 : decode c_Mo_check 39 = .ok (.iload_n 3, 1) := dc_of (x := (39, .iload_n 3, 1)) t0_Mo_check_ok (i := 20) rfl
theorem d_Mo_check_40 : decode c_Mo_check 40 = .ok (.invokevirtual 70, 3) := dc_of (x := (40, .invokevirtual 70, 3)) t0_Mo_check_ok (i := 21) rfl
theorem d_Mo_check_43 : decode c_Mo_check 43 = .ok (.ifCond .ne 7, 3) := dc_of (x := (43, .ifCond .ne 7, 3)) t0_Mo_check_ok (i := 22) rfl
theorem d_Mo_check_46 : decode c_Mo_check 46 = .ok (.iconst 1, 1) := dc_of (x := (46, .iconst 1, 1)) t0_Mo_check_ok (i := 23) rfl
theorem d_Mo_check_47 : decode c_Mo_check 47 = .ok (.goto 28, 3) := dc_of (x := (47, .goto 28, 3)) t0_Mo_check_ok (i := 24) rfl
theorem d_Mo_check_50 : decode c_Mo_check 50 = .ok (.aload_n 0, 1) := dc_of (x := (50, .aload_n 0, 1)) t0_Mo_check_ok (i := 25) rfl
theorem d_Mo_check_51 : decode c_Mo_check 51 = .ok (.getfield 7, 3) := dc_of (x := (51, .getfield 7, 3)) t0_Mo_check_ok (i := 26) rfl
theorem d_Mo_check_54 : decode c_Mo_check 54 = .ok (.iconst 5, 1) := dc_of (x := (54, .iconst 5, 1)) t0_Mo_check_ok (i := 27) rfl
theorem d_Mo_check_55 : decode c_Mo_check 55 = .ok (.iaload, 1) := dc_of (x := (55, .iaload, 1)) t0_Mo_check_ok (i := 28) rfl
theorem d_Mo_check_56 : decode c_Mo_check 56 = .ok (.bipush 20, 2) := dc_of (x := (56, .bipush 20, 2)) t0_Mo_check_ok (i := 29) rfl
theorem d_Mo_check_58 : decode c_Mo_check 58 = .ok (.if_icmp .ne 7, 3) := dc_of (x := (58, .if_icmp .ne 7, 3)) t0_Mo_check_ok (i := 30) rfl
theorem d_Mo_check_61 : decode c_Mo_check 61 = .ok (.iconst 2, 1) := dc_of (x := (61, .iconst 2, 1)) t0_Mo_check_ok (i := 31) rfl
theorem d_Mo_check_62 : decode c_Mo_check 62 = .ok (.goto 13, 3) := dc_of (x := (62, .goto 13, 3)) t0_Mo_check_ok (i := 32) rfl
theorem d_Mo_check_65 : decode c_Mo_check 65 = .ok (.iload 5, 2) := dc_of (x := (65, .iload 5, 2)) t0_Mo_check_ok (i := 33) rfl
theorem d_Mo_check_67 : decode c_Mo_check 67 = .ok (.ifCond .ne 7, 3) := dc_of (x := (67, .ifCond .ne 7, 3)) t0_Mo_check_ok (i := 34) rfl
theorem d_Mo_check_70 : decode c_Mo_check 70 = .ok (.iconst 3, 1) := dc_of (x := (70, .iconst 3, 1)) t0_Mo_check_ok (i := 35) rfl
theorem d_Mo_check_71 : decode c_Mo_check 71 = .ok (.goto 4, 3) := dc_of (x := (71, .goto 4, 3)) t0_Mo_check_ok (i := 36) rfl
theorem d_Mo_check_74 : decode c_Mo_check 74 = .ok (.iconst 0, 1) := dc_of (x := (74, .iconst 0, 1)) t0_Mo_check_ok (i := 37) rfl
theorem d_Mo_check_75 : decode c_Mo_check 75 = .ok (.putfield 28, 3) := dc_of (x := (75, .putfield 28, 3)) t0_Mo_check_ok (i := 38) rfl
theorem d_Mo_check_78 : decode c_Mo_check 78 = .ok (.aload_n 0, 1) := dc_of (x := (78, .aload_n 0, 1)) t0_Mo_check_ok (i := 39) rfl
theorem d_Mo_check_79 : decode c_Mo_check 79 = .ok (.getfield 28, 3) := dc_of (x := (79, .getfield 28, 3)) t0_Mo_check_ok (i := 40) rfl
theorem d_Mo_check_82 : decode c_Mo_check 82 = .ok (.ifCond .le 5, 3) := dc_of (x := (82, .ifCond .le 5, 3)) t0_Mo_check_ok (i := 41) rfl
theorem d_Mo_check_85 : decode c_Mo_check 85 = .ok (.iconst 0, 1) := dc_of (x := (85, .iconst 0, 1)) t0_Mo_check_ok (i := 42) rfl
theorem d_Mo_check_86 : decode c_Mo_check 86 = .ok (.ireturn, 1) := dc_of (x := (86, .ireturn, 1)) t0_Mo_check_ok (i := 43) rfl
theorem d_Mo_check_87 : decode c_Mo_check 87 = .ok (.sipush 1300, 3) := dc_of (x := (87, .sipush 1300, 3)) t0_Mo_check_ok (i := 44) rfl
theorem d_Mo_check_90 : decode c_Mo_check 90 = .ok (.iconst 5, 1) := dc_of (x := (90, .iconst 5, 1)) t0_Mo_check_ok (i := 45) rfl
theorem d_Mo_check_91 : decode c_Mo_check 91 = .ok (.aload_n 0, 1) := dc_of (x := (91, .aload_n 0, 1)) t0_Mo_check_ok (i := 46) rfl
theorem d_Mo_check_92 : decode c_Mo_check 92 = .ok (.getfield 7, 3) := dc_of (x := (92, .getfield 7, 3)) t0_Mo_check_ok (i := 47) rfl
theorem d_Mo_check_95 : decode c_Mo_check 95 = .ok (.iconst 5, 1) := dc_of (x := (95, .iconst 5, 1)) t0_Mo_check_ok (i := 48) rfl
theorem d_Mo_check_96 : decode c_Mo_check 96 = .ok (.iaload, 1) := dc_of (x := (96, .iaload, 1)) t0_Mo_check_ok (i := 49) rfl
theorem d_Mo_check_97 : decode c_Mo_check 97 = .ok (.imul, 1) := dc_of (x := (97, .imul, 1)) t0_Mo_check_ok (i := 50) rfl
theorem d_Mo_check_98 : decode c_Mo_check 98 = .ok (.iadd, 1) := dc_of (x := (98, .iadd, 1)) t0_Mo_check_ok (i := 51) rfl
theorem d_Mo_check_99 : decode c_Mo_check 99 = .ok (.istore 6, 2) := dc_of (x := (99, .istore 6, 2)) t0_Mo_check_ok (i := 52) rfl
theorem d_Mo_check_101 : decode c_Mo_check 101 = .ok (.aload_n 0, 1) := dc_of (x := (101, .aload_n 0, 1)) t0_Mo_check_ok (i := 53) rfl
theorem d_Mo_check_102 : decode c_Mo_check 102 = .ok (.getfield 7, 3) := dc_of (x := (102, .getfield 7, 3)) t0_Mo_check_ok (i := 54) rfl
theorem d_Mo_check_105 : decode c_Mo_check 105 = .ok (.iload 6, 2) := dc_of (x := (105, .iload 6, 2)) t0_Mo_check_ok (i := 55) rfl
theorem d_Mo_check_107 : decode c_Mo_check 107 = .ok (.iload_n 1, 1) := dc_of (x := (107, .iload_n 1, 1)) t0_Mo_check_ok (i := 56) rfl
theorem d_Mo_check_108 : decode c_Mo_check 108 = .ok (.iastore, 1) := dc_of (x := (108, .iastore, 1)) t0_Mo_check_ok (i := 57) rfl
theorem d_Mo_check_109 : decode c_Mo_check 109 = .ok (.aload_n 0, 1) := dc_of (x := (109, .aload_n 0, 1)) t0_Mo_check_ok (i := 58) rfl
theorem d_Mo_check_110 : decode c_Mo_check 110 = .ok (.getfield 7, 3) := dc_of (x := (110, .getfield 7, 3)) t0_Mo_check_ok (i := 59) rfl
theorem d_Mo_check_113 : decode c_Mo_check 113 = .ok (.iload 6, 2) := dc_of (x := (113, .iload 6, 2)) t1_Mo_check_ok (i := 0) rfl
theorem d_Mo_check_115 : decode c_Mo_check 115 = .ok (.iconst 1, 1) := dc_of (x := (115, .iconst 1, 1)) t1_Mo_check_ok (i := 1) rfl
theorem d_Mo_check_116 : decode c_Mo_check 116 = .ok (.iadd, 1) := dc_of (x := (116, .iadd, 1)) t1_Mo_check_ok (i := 2) rfl
theorem d_Mo_check_117 : decode c_Mo_check 117 = .ok (.iload_n 2, 1) := dc_of (x := (117, .iload_n 2, 1)) t1_Mo_check_ok (i := 3) rfl
theorem d_Mo_check_118 : decode c_Mo_check 118 = .ok (.iastore, 1) := dc_of (x := (118, .iastore, 1)) t1_Mo_check_ok (i := 4) rfl
theorem d_Mo_check_119 : decode c_Mo_check 119 = .ok (.aload_n 0, 1) := dc_of (x := (119, .aload_n 0, 1)) t1_Mo_check_ok (i := 5) rfl
theorem d_Mo_check_120 : decode c_Mo_check 120 = .ok (.getfield 7, 3) := dc_of (x := (120, .getfield 7, 3)) t1_Mo_check_ok (i := 6) rfl
theorem d_Mo_check_123 : decode c_Mo_check 123 = .ok (.iload 6, 2) := dc_of (x := (123, .iload 6, 2)) t1_Mo_check_ok (i := 7) rfl
theorem d_Mo_check_125 : decode c_Mo_check 125 = .ok (.iconst 2, 1) := dc_of (x := (125, .iconst 2, 1)) t1_Mo_check_ok (i := 8) rfl
theorem d_Mo_check_126 : decode c_Mo_check 126 = .ok (.iadd, 1) := dc_of (x := (126, .iadd, 1)) t1_Mo_check_ok (i := 9) rfl
theorem d_Mo_check_127 : decode c_Mo_check 127 = .ok (.iload_n 3, 1) := dc_of (x := (127, .iload_n 3, 1)) t1_Mo_check_ok (i := 10) rfl
theorem d_Mo_check_128 : decode c_Mo_check 128 = .ok (.iastore, 1) := dc_of (x := (128, .iastore, 1)) t1_Mo_check_ok (i := 11) rfl
theorem d_Mo_check_129 : decode c_Mo_check 129 = .ok (.aload_n 0, 1) := dc_of (x := (129, .aload_n 0, 1)) t1_Mo_check_ok (i := 12) rfl
theorem d_Mo_check_130 : decode c_Mo_check 130 = .ok (.getfield 7, 3) := dc_of (x := (130, .getfield 7, 3)) t1_Mo_check_ok (i := 13) rfl
theorem d_Mo_check_133 : decode c_Mo_check 133 = .ok (.iload 6, 2) := dc_of (x := (133, .iload 6, 2)) t1_Mo_check_ok (i := 14) rfl
theorem d_Mo_check_135 : decode c_Mo_check 135 = .ok (.iconst 3, 1) := dc_of (x := (135, .iconst 3, 1)) t1_Mo_check_ok (i := 15) rfl
theorem d_Mo_check_136 : decode c_Mo_check 136 = .ok (.iadd, 1) := dc_of (x := (136, .iadd, 1)) t1_Mo_check_ok (i := 16) rfl
theorem d_Mo_check_137 : decode c_Mo_check 137 = .ok (.iload 4, 2) := dc_of (x := (137, .iload 4, 2)) t1_Mo_check_ok (i := 17) rfl
theorem d_Mo_check_139 : decode c_Mo_check 139 = .ok (.iastore, 1) := dc_of (x := (139, .iastore, 1)) t1_Mo_check_ok (i := 18) rfl
theorem d_Mo_check_140 : decode c_Mo_check 140 = .ok (.aload_n 0, 1) := dc_of (x := (140, .aload_n 0, 1)) t1_Mo_check_ok (i := 19) rfl
theorem d_Mo_check_141 : decode c_Mo_check 141 = .ok (.getfield 7, 3) := dc_of (x := (141, .getfield 7, 3)) t1_Mo_check_ok (i := 20) rfl
theorem d_Mo_check_144 : decode c_Mo_check 144 = .ok (.iload 6, 2) := dc_of (x := (144, .iload 6, 2)) t1_Mo_check_ok (i := 21) rfl
theorem d_Mo_check_146 : decode c_Mo_check 146 = .ok (.iconst 4, 1) := dc_of (x := (146, .iconst 4, 1)) t1_Mo_check_ok (i := 22) rfl
theorem d_Mo_check_147 : decode c_Mo_check 147 = .ok (.iadd, 1) := dc_of (x := (147, .iadd, 1)) t1_Mo_check_ok (i := 23) rfl
theorem d_Mo_check_148 : decode c_Mo_check 148 = .ok (.iconst 0, 1) := dc_of (x := (148, .iconst 0, 1)) t1_Mo_check_ok (i := 24) rfl
theorem d_Mo_check_149 : decode c_Mo_check 149 = .ok (.iastore, 1) := dc_of (x := (149, .iastore, 1)) t1_Mo_check_ok (i := 25) rfl
theorem d_Mo_check_150 : decode c_Mo_check 150 = .ok (.aload_n 0, 1) := dc_of (x := (150, .aload_n 0, 1)) t1_Mo_check_ok (i := 26) rfl
theorem d_Mo_check_151 : decode c_Mo_check 151 = .ok (.getfield 7, 3) := dc_of (x := (151, .getfield 7, 3)) t1_Mo_check_ok (i := 27) rfl
theorem d_Mo_check_154 : decode c_Mo_check 154 = .ok (.iconst 5, 1) := dc_of (x := (154, .iconst 5, 1)) t1_Mo_check_ok (i := 28) rfl
theorem d_Mo_check_155 : decode c_Mo_check 155 = .ok (.dup2, 1) := dc_of (x := (155, .dup2, 1)) t1_Mo_check_ok (i := 29) rfl
theorem d_Mo_check_156 : decode c_Mo_check 156 = .ok (.iaload, 1) := dc_of (x := (156, .iaload, 1)) t1_Mo_check_ok (i := 30) rfl
theorem d_Mo_check_157 : decode c_Mo_check 157 = .ok (.iconst 1, 1) := dc_of (x := (157, .iconst 1, 1)) t1_Mo_check_ok (i := 31) rfl
theorem d_Mo_check_158 : decode c_Mo_check 158 = .ok (.iadd, 1) := dc_of (x := (158, .iadd, 1)) t1_Mo_check_ok (i := 32) rfl
theorem d_Mo_check_159 : decode c_Mo_check 159 = .ok (.iastore, 1) := dc_of (x := (159, .iastore, 1)) t1_Mo_check_ok (i := 33) rfl
theorem d_Mo_check_160 : decode c_Mo_check 160 = .ok (.aload_n 0, 1) := dc_of (x := (160, .aload_n 0, 1)) t1_Mo_check_ok (i := 34) rfl
theorem d_Mo_check_161 : decode c_Mo_check 161 = .ok (.getfield 7, 3) := dc_of (x := (161, .getfield 7, 3)) t1_Mo_check_ok (i := 35) rfl
theorem d_Mo_check_164 : decode c_Mo_check 164 = .ok (.iconst 5, 1) := dc_of (x := (164, .iconst 5, 1)) t1_Mo_check_ok (i := 36) rfl
theorem d_Mo_check_165 : decode c_Mo_check 165 = .ok (.iaload, 1) := dc_of (x := (165, .iaload, 1)) t1_Mo_check_ok (i := 37) rfl
theorem d_Mo_check_166 : decode c_Mo_check 166 = .ok (.iconst 1, 1) := dc_of (x := (166, .iconst 1, 1)) t1_Mo_check_ok (i := 38) rfl
theorem d_Mo_check_167 : decode c_Mo_check 167 = .ok (.isub, 1) := dc_of (x := (167, .isub, 1)) t1_Mo_check_ok (i := 39) rfl
theorem d_Mo_check_168 : decode c_Mo_check 168 = .ok (.ireturn, 1) := dc_of (x := (168, .ireturn, 1)) t1_Mo_check_ok (i := 40) rfl
def t0_Mo_broken : List (Nat × Instr × Nat) := [(0, .aload_n 0, 1), (1, .iload_n 1, 1), (2, .ifCond .lt 17, 3), (5, .iload_n 1, 1), (6, .aload_n 0, 1), (7, .getfield 7, 3), (10, .iconst 5, 1), (11, .iaload, 1), (12, .if_icmp .ge 7, 3), (15, .iconst 0, 1), (16, .goto 4, 3), (19, .iconst 1, 1), (20, .putfield 28, 3), (23, .aload_n 0, 1), (24, .getfield 28, 3), (27, .ifCond .le 7, 3), (30, .iconst 0, 1), (31, .goto 17, 3), (34, .aload_n 0, 1), (35, .getfield 7, 3), (38, .sipush 1300, 3), (41, .iconst 5, 1), (42, .iload_n 1, 1), (43, .imul, 1), (44, .iadd, 1), (45, .iconst 4, 1), (46, .iadd, 1), (47, .iaload, 1), (48, .ireturn, 1)]
theorem t0_Mo_broken_ok : t0_Mo_broken.all (fun x => decide (decode c_Mo_broken x.1 = .ok x.2)) = true := by decide +kernel
theorem d_Mo_broken_0 : decode c_Mo_broken 0 = .ok (.aload_n 0, 1) := dc_of (x := (0, .aload_n 0, 1)) t0_Mo_broken_ok (i := 0) rfl
theorem d_Mo_broken_1 : decode c_Mo_broken 1 = .ok (.iload_n 1, 1) := dc_of (x := (1, .iload_n 1, 1)) t0_Mo_broken_ok (i := 1) rfl
theorem d_Mo_broken_2 : decode c_Mo_broken 2 = .ok (.ifCond .lt 17, 3) := dc_of (x := (2, .ifCond .lt 17, 3)) t0_Mo_broken_ok (i := 2) rfl
theorem d_Mo_broken_5 : decode c_Mo_broken 5 = .ok (.iload_n 1, 1) := dc_of (x := (5, .iload_n 1, 1)) t0_Mo_broken_ok (i := 3) rfl
theorem d_Mo_broken_6 : decode c_Mo_broken 6 = .ok (.aload_n 0, 1) := dc_of (x := (6, .aload_n 0, 1)) t0_Mo_broken_ok (i := 4) rfl
theorem d_Mo_broken_7 : decode c_Mo_broken 7 = .ok (.getfield 7, 3) := dc_of (x := (7, .getfield 7, 3)) t0_Mo_broken_ok (i := 5) rfl
theorem d_Mo_broken_10 : decode c_Mo_broken 10 = .ok (.iconst 5, 1) := dc_of (x := (10, .iconst 5, 1)) t0_Mo_broken_ok (i := 6) rfl
theorem d_Mo_broken_11 : decode c_Mo_broken 11 = .ok (.iaload, 1) := dc_of (x := (11, .iaload, 1)) t0_Mo_broken_ok (i := 7) rfl
theorem d_Mo_broken_12 : decode c_Mo_broken 12 = .ok (.if_icmp .ge 7, 3) := dc_of (x := (12, .if_icmp .ge 7, 3)) t0_Mo_broken_ok (i := 8) rfl
theorem d_Mo_broken_15 : decode c_Mo_broken 15 = .ok (.iconst 0, 1) := dc_of (x := (15, .iconst 0, 1)) t0_Mo_broken_ok (i := 9) rfl
theorem d_Mo_broken_16 : decode c_Mo_broken 16 = .ok (.goto 4, 3) := dc_of (x := (16, .goto 4, 3)) t0_Mo_broken_ok (i := 10) rfl
theorem d_Mo_broken_19 : decode c_Mo_broken 19 = .ok (.iconst 1, 1) := dc_of (x := (19, .iconst 1, 1)) t0_Mo_broken_ok (i := 11) rfl
theorem d_Mo_broken_20 : decode c_Mo_broken 20 = .ok (.putfield 28, 3) := dc_of (x := (20, .putfield 28, 3)) t0_Mo_broken_ok (i := 12) rfl
theorem d_Mo_broken_23 : decode c_Mo_broken 23 = .ok (.aload_n 0, 1) := dc_of (x := (23, .aload_n 0, 1)) t0_Mo_broken_ok (i := 13) rfl
theorem d_Mo_broken_24 : decode c_Mo_broken 24 = .ok (.getfield 28, 3) := dc_of (x := (24, .getfield 28, 3)) t0_Mo_broken_ok (i := 14) rfl
theorem d_Mo_broken_27 : decode c_Mo_broken 27 = .ok (.ifCond .le 7, 3) := dc_of (x := (27, .ifCond .le 7, 3)) t0_Mo_broken_ok (i := 15) rfl
theorem d_Mo_broken_30 : decode c_Mo_broken 30 = .ok (.iconst 0, 1) := dc_of (x := (30, .iconst 0, 1)) t0_Mo_broken_ok (i := 16) rfl
theorem d_Mo_broken_31 : decode c_Mo_broken 31 = .ok (.goto 17, 3) := dc_of (x := (31, .goto 17, 3)) t0_Mo_broken_ok (i := 17) rfl
theorem d_Mo_broken_34 : decode c_Mo_broken 34 = .ok (.aload_n 0, 1) := dc_of (x := (34, .aload_n 0, 1)) t0_Mo_broken_ok (i := 18) rfl
theorem d_Mo_broken_35 : decode c_Mo_broken 35 = .ok (.getfield 7, 3) := dc_of (x := (35, .getfield 7, 3)) t0_Mo_broken_ok (i := 19) rfl
theorem d_Mo_broken_38 : decode c_Mo_broken 38 = .ok (.sipush 1300, 3) := dc_of (x := (38, .sipush 1300, 3)) t0_Mo_broken_ok (i := 20) rfl
theorem d_Mo_broken_41 : decode c_Mo_broken 41 = .ok (.iconst 5, 1) := dc_of (x := (41, .iconst 5, 1)) t0_Mo_broken_ok (i := 21) rfl
theorem d_Mo_broken_42 : decode c_Mo_broken 42 = .ok (.iload_n 1, 1) := dc_of (x := (42, .iload_n 1, 1)) t0_Mo_broken_ok (i := 22) rfl
theorem d_Mo_broken_43 : decode c_Mo_broken 43 = .ok (.imul, 1) := dc_of (x := (43, .imul, 1)) t0_Mo_broken_ok (i := 23) rfl
theorem d_Mo_broken_44 : decode c_Mo_broken 44 = .ok (.iadd, 1) := dc_of (x := (44, .iadd, 1)) t0_Mo_broken_ok (i := 24) rfl
theorem d_Mo_broken_45 : decode c_Mo_broken 45 = .ok (.iconst 4, 1) := dc_of (x := (45, .iconst 4, 1)) t0_Mo_broken_ok (i := 25) rfl
theorem d_Mo_broken_46 : decode c_Mo_broken 46 = .ok (.iadd, 1) := dc_of (x := (46, .iadd, 1)) t0_Mo_broken_ok (i := 26) rfl
theorem d_Mo_broken_47 : decode c_Mo_broken 47 = .ok (.iaload, 1) := dc_of (x := (47, .iaload, 1)) t0_Mo_broken_ok (i := 27) rfl
theorem d_Mo_broken_48 : decode c_Mo_broken 48 = .ok (.ireturn, 1) := dc_of (x := (48, .ireturn, 1)) t0_Mo_broken_ok (i := 28) rfl
def t0_Mo_nextHand : List (Nat × Instr × Nat) := [(0, .iconst (-1), 1), (1, .istore_n 1, 1), (2, .iconst 0, 1), (3, .istore_n 2, 1), (4, .iload_n 2, 1), (5, .aload_n 0, 1), (6, .getfield 7, 3), (9, .iconst 4, 1), (10, .iaload, 1), (11, .if_icmp .ge 140, 3), (14, .sipush 700, 3), (17, .iconst 5, 1), (18, .iload_n 2, 1), (19, .imul, 1), (20, .iadd, 1), (21, .istore_n 3, 1), (22, .sipush 700, 3), (25, .iconst 5, 1), (26, .iload_n 1, 1), (27, .imul, 1), (28, .iadd, 1), (29, .istore 4, 2), (31, .iload_n 1, 1), (32, .ifCond .lt 95, 3), (35, .aload_n 0, 1), (36, .getfield 7, 3), (39, .iload_n 3, 1), (40, .iaload, 1), (41, .aload_n 0, 1), (42, .getfield 7, 3), (45, .iload 4, 2), (47, .iaload, 1), (48, .if_icmp .lt 79, 3), (51, .aload_n 0, 1), (52, .getfield 7, 3), (55, .iload_n 3, 1), (56, .iaload, 1), (57, .aload_n 0, 1), (58, .getfield 7, 3), (61, .iload 4, 2), (63, .iaload, 1), (64, .if_icmp .ne 67, 3), (67, .aload_n 0, 1), (68, .getfield 7, 3), (71, .iload_n 3, 1), (72, .iconst 1, 1), (73, .iadd, 1), (74, .iaload, 1), (75, .aload_n 0, 1), (76, .getfield 7, 3), (79, .iload 4, 2), (81, .iconst 1, 1), (82, .iadd, 1), (83, .iaload, 1), (84, .if_icmp .lt 43, 3), (87, .aload_n 0, 1), (88, .getfield 7, 3), (91, .iload_n 3, 1), (92, .iconst 1, 1), (93, .iadd, 1)]
theorem t0_Mo_nextHand_ok : t0_Mo_nextHand.all (fun x => decide (decode c_Mo_nextHand x.1 = .ok x.2)) = true := by decide +kernel
def t1_Mo_nextHand : List (Nat × Instr × Nat) := [(94, .iaload, 1), (95, .aload_n 0, 1), (96, .getfield 7, 3), (99, .iload 4, 2), (101, .iconst 1, 1), (102, .iadd, 1), (103, .iaload, 1), (104, .if_icmp .ne 27, 3), (107, .aload_n 0, 1), (108, .getfield 7, 3), (111, .iload_n 3, 1), (112, .iconst 4, 1), (113, .iadd, 1), (114, .iaload, 1), (115, .aload_n 0, 1), (116, .getfield 7, 3), (119, .iload 4, 2), (121, .iconst 4, 1), (122, .iadd, 1), (123, .iaload, 1), (124, .if_icmp .ge 7, 3), (127, .iconst 1, 1), (128, .goto 4, 3), (131, .iconst 0, 1), (132, .istore 5, 2), (134, .iload 5, 2), (136, .ifCond .eq 7, 3), (139, .iload_n 2, 1), (140, .goto 4, 3), (143, .iload_n 1, 1), (144, .istore_n 1, 1), (145, .iinc 2 1, 3), (148, .goto (-144), 3), (151, .iload_n 1, 1), (152, .ireturn, 1)]
theorem t1_Mo_nextHand_ok : t1_Mo_nextHand.all (fun x => decide (decode c_Mo_nextHand x.1 = .ok x.2)) = true := by decide +kernel
theorem d_Mo_nextHand_0 : decode c_Mo_nextHand 0 = .ok (.iconst (-1), 1) := dc_of (x := (0, .iconst (-1), 1)) t0_Mo_nextHand_ok (i := 0) rfl
theorem d_Mo_nextHand_1 : decode c_Mo_nextHand 1 = .ok (.istore_n 1, 1) := dc_of (x := (1, .istore_n 1, 1)) t0_Mo_nextHand_ok (i := 1) rfl
theorem d_Mo_nextHand_2 : decode c_Mo_nextHand 2 = .ok (.iconst 0, 1) := dc_of (x := (2, .iconst 0, 1)) t0_Mo_nextHand_ok (i := 2) rfl
theorem d_Mo_nextHand_3 : decode c_Mo_nextHand 3 = .ok (.istore_n 2, 1) := dc_of (x := (3, .istore_n 2, 1)) t0_Mo_nextHand_ok (i := 3) rfl
theorem d_Mo_nextHand_4 : decode c_Mo_nextHand 4 = .ok (.iload_n 2, 1) := dc_of (x := (4, .iload_n 2, 1)) t0_Mo_nextHand_ok (i := 4) rfl
theorem d_Mo_nextHand_5 : decode c_Mo_nextHand 5 = .ok (.aload_n 0, 1) := dc_of (x := (5, .aload_n 0, 1)) t0_Mo_nextHand_ok (i := 5) rfl
theorem d_Mo_nextHand_6 : decode c_Mo_nextHand 6 = .ok (.getfield 7, 3) := dc_of (x := (6, .getfield 7, 3)) t0_Mo_nextHand_ok (i := 6) rfl
theorem d_Mo_nextHand_9 : decode c_Mo_nextHand 9 = .ok (.iconst 4, 1) := dc_of (x := (9, .iconst 4, 1)) t0_Mo_nextHand_ok (i := 7) rfl
theorem d_Mo_nextHand_10 : decode c_Mo_nextHand 10 = .ok (.iaload, 1) := dc_of (x := (10, .iaload, 1)) t0_Mo_nextHand_ok (i := 8) rfl
theorem d_Mo_nextHand_11 : decode c_Mo_nextHand 11 = .ok (.if_icmp .ge 140, 3) := dc_of (x := (11, .if_icmp .ge 140, 3)) t0_Mo_nextHand_ok (i := 9) rfl
theorem d_Mo_nextHand_14 : decode c_Mo_nextHand 14 = .ok (.sipush 700, 3) := dc_of (x := (14, .sipush 700, 3)) t0_Mo_nextHand_ok (i := 10) rfl
theorem d_Mo_nextHand_17 : decode c_Mo_nextHand 17 = .ok (.iconst 5, 1) := dc_of (x := (17, .iconst 5, 1)) t0_Mo_nextHand_ok (i := 11) rfl
theorem d_Mo_nextHand_18 : decode c_Mo_nextHand 18 = .ok (.iload_n 2, 1) := dc_of (x := (18, .iload_n 2, 1)) t0_Mo_nextHand_ok (i := 12) rfl
theorem d_Mo_nextHand_19 : decode c_Mo_nextHand 19 = .ok (.imul, 1) := dc_of (x := (19, .imul, 1)) t0_Mo_nextHand_ok (i := 13) rfl
theorem d_Mo_nextHand_20 : decode c_Mo_nextHand 20 = .ok (.iadd, 1) := dc_of (x := (20, .iadd, 1)) t0_Mo_nextHand_ok (i := 14) rfl
theorem d_Mo_nextHand_21 : decode c_Mo_nextHand 21 = .ok (.istore_n 3, 1) := dc_of (x := (21, .istore_n 3, 1)) t0_Mo_nextHand_ok (i := 15) rfl
theorem d_Mo_nextHand_22 : decode c_Mo_nextHand 22 = .ok (.sipush 700, 3) := dc_of (x := (22, .sipush 700, 3)) t0_Mo_nextHand_ok (i := 16) rfl
theorem d_Mo_nextHand_25 : decode c_Mo_nextHand 25 = .ok (.iconst 5, 1) := dc_of (x := (25, .iconst 5, 1)) t0_Mo_nextHand_ok (i := 17) rfl
theorem d_Mo_nextHand_26 : decode c_Mo_nextHand 26 = .ok (.iload_n 1, 1) := dc_of (x := (26, .iload_n 1, 1)) t0_Mo_nextHand_ok (i := 18) rfl
theorem d_Mo_nextHand_27 : decode c_Mo_nextHand 27 = .ok (.imul, 1) := dc_of (x := (27, .imul, 1)) t0_Mo_nextHand_ok (i := 19) rfl
theorem d_Mo_nextHand_28 : decode c_Mo_nextHand 28 = .ok (.iadd, 1) := dc_of (x := (28, .iadd, 1)) t0_Mo_nextHand_ok (i := 20) rfl
theorem d_Mo_nextHand_29 : decode c_Mo_nextHand 29 = .ok (.istore 4, 2) := dc_of (x := (29, .istore 4, 2)) t0_Mo_nextHand_ok (i := 21) rfl
theorem d_Mo_nextHand_31 : decode c_Mo_nextHand 31 = .ok (.iload_n 1, 1) := dc_of (x := (31, .iload_n 1, 1)) t0_Mo_nextHand_ok (i := 22) rfl
theorem d_Mo_nextHand_32 : decode c_Mo_nextHand 32 = .ok (.ifCond .lt 95, 3) := dc_of (x := (32, .ifCond .lt 95, 3)) t0_Mo_nextHand_ok (i := 23) rfl
theorem d_Mo_nextHand_35 : decode c_Mo_nextHand 35 = .ok (.aload_n 0, 1) := dc_of (x := (35, .aload_n 0, 1)) t0_Mo_nextHand_ok (i := 24) rfl
theorem d_Mo_nextHand_36 : decode c_Mo_nextHand 36 = .ok (.getfield 7, 3) := dc_of (x := (36, .getfield 7, 3)) t0_Mo_nextHand_ok (i := 25) rfl
theorem d_Mo_nextHand_39 : decode c_Mo_nextHand 39 = .ok (.iload_n 3, 1) := dc_of (x := (39, .iload_n 3, 1)) t0_Mo_nextHand_ok (i := 26) rfl
theorem d_Mo_nextHand_40 : decode c_Mo_nextHand 40 = .ok (.iaload, 1) := dc_of (x := (40, .iaload, 1)) t0_Mo_nextHand_ok (i := 27) rfl
theorem d_Mo_nextHand_41 : decode c_Mo_nextHand 41 = .ok (.aload_n 0, 1) := dc_of (x := (41, .aload_n 0, 1)) t0_Mo_nextHand_ok (i := 28) rfl
theorem d_Mo_nextHand_42 : decode c_Mo_nextHand 42 = .ok (.getfield 7, 3) := dc_of (x := (42, .getfield 7, 3)) t0_Mo_nextHand_ok (i := 29) rfl
theorem d_Mo_nextHand_45 : decode c_Mo_nextHand 45 = .ok (.iload 4, 2) := dc_of (x := (45, .iload 4, 2)) t0_Mo_nextHand_ok (i := 30) rfl
theorem d_Mo_nextHand_47 : decode c_Mo_nextHand 47 = .ok (.iaload, 1) := dc_of (x := (47, .iaload, 1)) t0_Mo_nextHand_ok (i := 31) rfl
theorem d_Mo_nextHand_48 : decode c_Mo_nextHand 48 = .ok (.if_icmp .lt 79, 3) := dc_of (x := (48, .if_icmp .lt 79, 3)) t0_Mo_nextHand_ok (i := 32) rfl
theorem d_Mo_nextHand_51 : decode c_Mo_nextHand 51 = .ok (.aload_n 0, 1) := dc_of (x := (51, .aload_n 0, 1)) t0_Mo_nextHand_ok (i := 33) rfl
theorem d_Mo_nextHand_52 : decode c_Mo_nextHand 52 = .ok (.getfield 7, 3) := dc_of (x := (52, .getfield 7, 3)) t0_Mo_nextHand_ok (i := 34) rfl
theorem d_Mo_nextHand_55 : decode c_Mo_nextHand 55 = .ok (.iload_n 3, 1) := dc_of (x := (55, .iload_n 3, 1)) t0_Mo_nextHand_ok (i := 35) rfl
theorem d_Mo_nextHand_56 : decode c_Mo_nextHand 56 = .ok (.iaload, 1) := dc_of (x := (56, .iaload, 1)) t0_Mo_nextHand_ok (i := 36) rfl
theorem d_Mo_nextHand_57 : decode c_Mo_nextHand 57 = .ok (.aload_n 0, 1) := dc_of (x := (57, .aload_n 0, 1)) t0_Mo_nextHand_ok (i := 37) rfl
theorem d_Mo_nextHand_58 : decode c_Mo_nextHand 58 = .ok (.getfield 7, 3) := dc_of (x := (58, .getfield 7, 3)) t0_Mo_nextHand_ok (i := 38) rfl
theorem d_Mo_nextHand_61 : decode c_Mo_nextHand 61 = .ok (.iload 4, 2) := dc_of (x := (61, .iload 4, 2)) t0_Mo_nextHand_ok (i := 39) rfl
theorem d_Mo_nextHand_63 : decode c_Mo_nextHand 63 = .ok (.iaload, 1) := dc_of (x := (63, .iaload, 1)) t0_Mo_nextHand_ok (i := 40) rfl
theorem d_Mo_nextHand_64 : decode c_Mo_nextHand 64 = .ok (.if_icmp .ne 67, 3) := dc_of (x := (64, .if_icmp .ne 67, 3)) t0_Mo_nextHand_ok (i := 41) rfl
theorem d_Mo_nextHand_67 : decode c_Mo_nextHand 67 = .ok (.aload_n 0, 1) := dc_of (x := (67, .aload_n 0, 1)) t0_Mo_nextHand_ok (i := 42) rfl
theorem d_Mo_nextHand_68 : decode c_Mo_nextHand 68 = .ok (.getfield 7, 3) := dc_of (x := (68, .getfield 7, 3)) t0_Mo_nextHand_ok (i := 43) rfl
theorem d_Mo_nextHand_71 : decode c_Mo_nextHand 71 = .ok (.iload_n 3, 1) := dc_of (x := (71, .iload_n 3, 1)) t0_Mo_nextHand_ok (i := 44) rfl
theorem d_Mo_nextHand_72 : decode c_Mo_nextHand 72 = .ok (.iconst 1, 1) := dc_of (x := (72, .iconst 1, 1)) t0_Mo_nextHand_ok (i := 45) rfl
theorem d_Mo_nextHand_73 : decode c_Mo_nextHand 73 = .ok (.iadd, 1) := dc_of (x := (73, .iadd, 1)) t0_Mo_nextHand_ok (i := 46) rfl
theorem d_Mo_nextHand_74 : decode c_Mo_nextHand 74 = .ok (.iaload, 1) := dc_of (x := (74, .iaload, 1)) t0_Mo_nextHand_ok (i := 47) rfl
theorem d_Mo_nextHand_75 : decode c_Mo_nextHand 75 = .ok (.aload_n 0, 1) := dc_of (x := (75, .aload_n 0, 1)) t0_Mo_nextHand_ok (i := 48) rfl
theorem d_Mo_nextHand_76 : decode c_Mo_nextHand 76 = .ok (.getfield 7, 3) := dc_of (x := (76, .getfield 7, 3)) t0_Mo_nextHand_ok (i := 49) rfl
theorem d_Mo_nextHand_79 : decode c_Mo_nextHand 79 = .ok (.iload 4, 2) := dc_of (x := (79, .iload 4, 2)) t0_Mo_nextHand_ok (i := 50) rfl
theorem d_Mo_nextHand_81 : decode c_Mo_nextHand 81 = .ok (.iconst 1, 1) := dc_of (x := (81, .iconst 1, 1)) t0_Mo_nextHand_ok (i := 51) rfl
theorem d_Mo_nextHand_82 : decode c_Mo_nextHand 82 = .ok (.iadd, 1) := dc_of (x := (82, .iadd, 1)) t0_Mo_nextHand_ok (i := 52) rfl
theorem d_Mo_nextHand_83 : decode c_Mo_nextHand 83 = .ok (.iaload, 1) := dc_of (x := (83, .iaload, 1)) t0_Mo_nextHand_ok (i := 53) rfl
theorem d_Mo_nextHand_84 : decode c_Mo_nextHand 84 = .ok (.if_icmp .lt 43, 3) := dc_of (x := (84, .if_icmp .lt 43, 3)) t0_Mo_nextHand_ok (i := 54) rfl
theorem d_Mo_nextHand_87 : decode c_Mo_nextHand 87 = .ok (.aload_n 0, 1) := dc_of (x := (87, .aload_n 0, 1)) t0_Mo_nextHand_ok (i := 55) rfl
theorem d_Mo_nextHand_88 : decode c_Mo_nextHand 88 = .ok (.getfield 7, 3) := dc_of (x := (88, .getfield 7, 3)) t0_Mo_nextHand_ok (i := 56) rfl
theorem d_Mo_nextHand_91 : decode c_Mo_nextHand 91 = .ok (.iload_n 3, 1) := dc_of (x := (91, .iload_n 3, 1)) t0_Mo_nextHand_ok (i := 57) rfl
theorem d_Mo_nextHand_92 : decode c_Mo_nextHand 92 = .ok (.iconst 1, 1) := dc_of (x := (92, .iconst 1, 1)) t0_Mo_nextHand_ok (i := 58) rfl
theorem d_Mo_nextHand_93 : decode c_Mo_nextHand 93 = .ok (.iadd, 1) := dc_of (x := (93, .iadd, 1)) t0_Mo_nextHand_ok (i := 59) rfl
theorem d_Mo_nextHand_94 : decode c_Mo_nextHand 94 = .ok (.iaload, 1) := dc_of (x := (94, .iaload, 1)) t1_Mo_nextHand_ok (i := 0) rfl
theorem d_Mo_nextHand_95 : decode c_Mo_nextHand 95 = .ok (.aload_n 0, 1) := dc_of (x := (95, .aload_n 0, 1)) t1_Mo_nextHand_ok (i := 1) rfl
theorem d_Mo_nextHand_96 : decode c_Mo_nextHand 96 = .ok (.getfield 7, 3) := dc_of (x := (96, .getfield 7, 3)) t1_Mo_nextHand_ok (i := 2) rfl
theorem d_Mo_nextHand_99 : decode c_Mo_nextHand 99 = .ok (.iload 4, 2) := dc_of (x := (99, .iload 4, 2)) t1_Mo_nextHand_ok (i := 3) rfl
theorem d_Mo_nextHand_101 : decode c_Mo_nextHand 101 = .ok (.iconst 1, 1) := dc_of (x := (101, .iconst 1, 1)) t1_Mo_nextHand_ok (i := 4) rfl
theorem d_Mo_nextHand_102 : decode c_Mo_nextHand 102 = .ok (.iadd, 1) := dc_of (x := (102, .iadd, 1)) t1_Mo_nextHand_ok (i := 5) rfl
theorem d_Mo_nextHand_103 : decode c_Mo_nextHand 103 = .ok (.iaload, 1) := dc_of (x := (103, .iaload, 1)) t1_Mo_nextHand_ok (i := 6) rfl
theorem d_Mo_nextHand_104 : decode c_Mo_nextHand 104 = .ok (.if_icmp .ne 27, 3) := dc_of (x := (104, .if_icmp .ne 27, 3)) t1_Mo_nextHand_ok (i := 7) rfl
theorem d_Mo_nextHand_107 : decode c_Mo_nextHand 107 = .ok (.aload_n 0, 1) := dc_of (x := (107, .aload_n 0, 1)) t1_Mo_nextHand_ok (i := 8) rfl
theorem d_Mo_nextHand_108 : decode c_Mo_nextHand 108 = .ok (.getfield 7, 3) := dc_of (x := (108, .getfield 7, 3)) t1_Mo_nextHand_ok (i := 9) rfl
theorem d_Mo_nextHand_111 : decode c_Mo_nextHand 111 = .ok (.iload_n 3, 1) := dc_of (x := (111, .iload_n 3, 1)) t1_Mo_nextHand_ok (i := 10) rfl
theorem d_Mo_nextHand_112 : decode c_Mo_nextHand 112 = .ok (.iconst 4, 1) := dc_of (x := (112, .iconst 4, 1)) t1_Mo_nextHand_ok (i := 11) rfl
theorem d_Mo_nextHand_113 : decode c_Mo_nextHand 113 = .ok (.iadd, 1) := dc_of (x := (113, .iadd, 1)) t1_Mo_nextHand_ok (i := 12) rfl
theorem d_Mo_nextHand_114 : decode c_Mo_nextHand 114 = .ok (.iaload, 1) := dc_of (x := (114, .iaload, 1)) t1_Mo_nextHand_ok (i := 13) rfl
theorem d_Mo_nextHand_115 : decode c_Mo_nextHand 115 = .ok (.aload_n 0, 1) := dc_of (x := (115, .aload_n 0, 1)) t1_Mo_nextHand_ok (i := 14) rfl
theorem d_Mo_nextHand_116 : decode c_Mo_nextHand 116 = .ok (.getfield 7, 3) := dc_of (x := (116, .getfield 7, 3)) t1_Mo_nextHand_ok (i := 15) rfl
theorem d_Mo_nextHand_119 : decode c_Mo_nextHand 119 = .ok (.iload 4, 2) := dc_of (x := (119, .iload 4, 2)) t1_Mo_nextHand_ok (i := 16) rfl
theorem d_Mo_nextHand_121 : decode c_Mo_nextHand 121 = .ok (.iconst 4, 1) := dc_of (x := (121, .iconst 4, 1)) t1_Mo_nextHand_ok (i := 17) rfl
theorem d_Mo_nextHand_122 : decode c_Mo_nextHand 122 = .ok (.iadd, 1) := dc_of (x := (122, .iadd, 1)) t1_Mo_nextHand_ok (i := 18) rfl
theorem d_Mo_nextHand_123 : decode c_Mo_nextHand 123 = .ok (.iaload, 1) := dc_of (x := (123, .iaload, 1)) t1_Mo_nextHand_ok (i := 19) rfl
theorem d_Mo_nextHand_124 : decode c_Mo_nextHand 124 = .ok (.if_icmp .ge 7, 3) := dc_of (x := (124, .if_icmp .ge 7, 3)) t1_Mo_nextHand_ok (i := 20) rfl
theorem d_Mo_nextHand_127 : decode c_Mo_nextHand 127 = .ok (.iconst 1, 1) := dc_of (x := (127, .iconst 1, 1)) t1_Mo_nextHand_ok (i := 21) rfl
theorem d_Mo_nextHand_128 : decode c_Mo_nextHand 128 = .ok (.goto 4, 3) := dc_of (x := (128, .goto 4, 3)) t1_Mo_nextHand_ok (i := 22) rfl
theorem d_Mo_nextHand_131 : decode c_Mo_nextHand 131 = .ok (.iconst 0, 1) := dc_of (x := (131, .iconst 0, 1)) t1_Mo_nextHand_ok (i := 23) rfl
theorem d_Mo_nextHand_132 : decode c_Mo_nextHand 132 = .ok (.istore 5, 2) := dc_of (x := (132, .istore 5, 2)) t1_Mo_nextHand_ok (i := 24) rfl
theorem d_Mo_nextHand_134 : decode c_Mo_nextHand 134 = .ok (.iload 5, 2) := dc_of (x := (134, .iload 5, 2)) t1_Mo_nextHand_ok (i := 25) rfl
theorem d_Mo_nextHand_136 : decode c_Mo_nextHand 136 = .ok (.ifCond .eq 7, 3) := dc_of (x := (136, .ifCond .eq 7, 3)) t1_Mo_nextHand_ok (i := 26) rfl
theorem d_Mo_nextHand_139 : decode c_Mo_nextHand 139 = .ok (.iload_n 2, 1) := dc_of (x := (139, .iload_n 2, 1)) t1_Mo_nextHand_ok (i := 27) rfl
theorem d_Mo_nextHand_140 : decode c_Mo_nextHand 140 = .ok (.goto 4, 3) := dc_of (x := (140, .goto 4, 3)) t1_Mo_nextHand_ok (i := 28) rfl
theorem d_Mo_nextHand_143 : decode c_Mo_nextHand 143 = .ok (.iload_n 1, 1) := dc_of (x := (143, .iload_n 1, 1)) t1_Mo_nextHand_ok (i := 29) rfl
theorem d_Mo_nextHand_144 : decode c_Mo_nextHand 144 = .ok (.istore_n 1, 1) := dc_of (x := (144, .istore_n 1, 1)) t1_Mo_nextHand_ok (i := 30) rfl
theorem d_Mo_nextHand_145 : decode c_Mo_nextHand 145 = .ok (.iinc 2 1, 3) := dc_of (x := (145, .iinc 2 1, 3)) t1_Mo_nextHand_ok (i := 31) rfl
theorem d_Mo_nextHand_148 : decode c_Mo_nextHand 148 = .ok (.goto (-144), 3) := dc_of (x := (148, .goto (-144), 3)) t1_Mo_nextHand_ok (i := 32) rfl
theorem d_Mo_nextHand_151 : decode c_Mo_nextHand 151 = .ok (.iload_n 1, 1) := dc_of (x := (151, .iload_n 1, 1)) t1_Mo_nextHand_ok (i := 33) rfl
theorem d_Mo_nextHand_152 : decode c_Mo_nextHand 152 = .ok (.ireturn, 1) := dc_of (x := (152, .ireturn, 1)) t1_Mo_nextHand_ok (i := 34) rfl
def t0_Mo_nextGate : List (Nat × Instr × Nat) := [(0, .iconst (-1), 1), (1, .istore_n 1, 1), (2, .iconst 0, 1), (3, .istore_n 2, 1), (4, .iload_n 2, 1), (5, .aload_n 0, 1), (6, .getfield 7, 3), (9, .iconst 3, 1), (10, .iaload, 1), (11, .if_icmp .ge 89, 3), (14, .aload_n 0, 1), (15, .iload_n 2, 1), (16, .bipush 7, 2), (18, .invokevirtual 36, 3), (21, .iconst (-1), 1), (22, .if_icmp .eq 72, 3), (25, .iload_n 1, 1), (26, .ifCond .lt 52, 3), (29, .aload_n 0, 1), (30, .iload_n 2, 1), (31, .bipush 8, 2), (33, .invokevirtual 36, 3), (36, .aload_n 0, 1), (37, .iload_n 1, 1), (38, .bipush 8, 2), (40, .invokevirtual 36, 3), (43, .if_icmp .lt 35, 3), (46, .aload_n 0, 1), (47, .iload_n 2, 1), (48, .bipush 8, 2), (50, .invokevirtual 36, 3), (53, .aload_n 0, 1), (54, .iload_n 1, 1), (55, .bipush 8, 2), (57, .invokevirtual 36, 3), (60, .if_icmp .ne 22, 3), (63, .aload_n 0, 1), (64, .iload_n 2, 1), (65, .iconst 3, 1), (66, .invokevirtual 36, 3), (69, .aload_n 0, 1), (70, .iload_n 1, 1), (71, .iconst 3, 1), (72, .invokevirtual 36, 3), (75, .if_icmp .ge 7, 3), (78, .iconst 1, 1), (79, .goto 4, 3), (82, .iconst 0, 1), (83, .istore_n 3, 1), (84, .iload_n 3, 1), (85, .ifCond .eq 7, 3), (88, .iload_n 2, 1), (89, .goto 4, 3), (92, .iload_n 1, 1), (93, .istore_n 1, 1), (94, .iinc 2 1, 3), (97, .goto (-93), 3), (100, .iload_n 1, 1), (101, .ireturn, 1)]
theorem t0_Mo_nextGate_ok : t0_Mo_nextGate.all (fun x => decide (decode c_Mo_nextGate x.1 = .ok x.2)) = true := by decide +kernel
theorem d_Mo_nextGate_0 : decode c_Mo_nextGate 0 = .ok (.iconst (-1), 1) := dc_of (x := (0, .iconst (-1), 1)) t0_Mo_nextGate_ok (i := 0) rfl
theorem d_Mo_nextGate_1 : decode c_Mo_nextGate 1 = .ok (.istore_n 1, 1) := dc_of (x := (1, .istore_n 1, 1)) t0_Mo_nextGate_ok (i := 1) rfl
theorem d_Mo_nextGate_2 : decode c_Mo_nextGate 2 = .ok (.iconst 0, 1) := dc_of (x := (2, .iconst 0, 1)) t0_Mo_nextGate_ok (i := 2) rfl
theorem d_Mo_nextGate_3 : decode c_Mo_nextGate 3 = .ok (.istore_n 2, 1) := dc_of (x := (3, .istore_n 2, 1)) t0_Mo_nextGate_ok (i := 3) rfl
theorem d_Mo_nextGate_4 : decode c_Mo_nextGate 4 = .ok (.iload_n 2, 1) := dc_of (x := (4, .iload_n 2, 1)) t0_Mo_nextGate_ok (i := 4) rfl
theorem d_Mo_nextGate_5 : decode c_Mo_nextGate 5 = .ok (.aload_n 0, 1) := dc_of (x := (5, .aload_n 0, 1)) t0_Mo_nextGate_ok (i := 5) rfl
theorem d_Mo_nextGate_6 : decode c_Mo_nextGate 6 = .ok (.getfield 7, 3) := dc_of (x := (6, .getfield 7, 3)) t0_Mo_nextGate_ok (i := 6) rfl
theorem d_Mo_nextGate_9 : decode c_Mo_nextGate 9 = .ok (.iconst 3, 1) := dc_of (x := (9, .iconst 3, 1)) t0_Mo_nextGate_ok (i := 7) rfl
theorem d_Mo_nextGate_10 : decode c_Mo_nextGate 10 = .ok (.iaload, 1) := dc_of (x := (10, .iaload, 1)) t0_Mo_nextGate_ok (i := 8) rfl
theorem d_Mo_nextGate_11 : decode c_Mo_nextGate 11 = .ok (.if_icmp .ge 89, 3) := dc_of (x := (11, .if_icmp .ge 89, 3)) t0_Mo_nextGate_ok (i := 9) rfl
theorem d_Mo_nextGate_14 : decode c_Mo_nextGate 14 = .ok (.aload_n 0, 1) := dc_of (x := (14, .aload_n 0, 1)) t0_Mo_nextGate_ok (i := 10) rfl
theorem d_Mo_nextGate_15 : decode c_Mo_nextGate 15 = .ok (.iload_n 2, 1) := dc_of (x := (15, .iload_n 2, 1)) t0_Mo_nextGate_ok (i := 11) rfl
theorem d_Mo_nextGate_16 : decode c_Mo_nextGate 16 = .ok (.bipush 7, 2) := dc_of (x := (16, .bipush 7, 2)) t0_Mo_nextGate_ok (i := 12) rfl
theorem d_Mo_nextGate_18 : decode c_Mo_nextGate 18 = .ok (.invokevirtual 36, 3) := dc_of (x := (18, .invokevirtual 36, 3)) t0_Mo_nextGate_ok (i := 13) rfl
theorem d_Mo_nextGate_21 : decode c_Mo_nextGate 21 = .ok (.iconst (-1), 1) := dc_of (x := (21, .iconst (-1), 1)) t0_Mo_nextGate_ok (i := 14) rfl
theorem d_Mo_nextGate_22 : decode c_Mo_nextGate 22 = .ok (.if_icmp .eq 72, 3) := dc_of (x := (22, .if_icmp .eq 72, 3)) t0_Mo_nextGate_ok (i := 15) rfl
theorem d_Mo_nextGate_25 : decode c_Mo_nextGate 25 = .ok (.iload_n 1, 1) := dc_of (x := (25, .iload_n 1, 1)) t0_Mo_nextGate_ok (i := 16) rfl
theorem d_Mo_nextGate_26 : decode c_Mo_nextGate 26 = .ok (.ifCond .lt 52, 3) := dc_of (x := (26, .ifCond .lt 52, 3)) t0_Mo_nextGate_ok (i := 17) rfl
theorem d_Mo_nextGate_29 : decode c_Mo_nextGate 29 = .ok (.aload_n 0, 1) := dc_of (x := (29, .aload_n 0, 1)) t0_Mo_nextGate_ok (i := 18) rfl
theorem d_Mo_nextGate_30 : decode c_Mo_nextGate 30 = .ok (.iload_n 2, 1) := dc_of (x := (30, .iload_n 2, 1)) t0_Mo_nextGate_ok (i := 19) rfl
theorem d_Mo_nextGate_31 : decode c_Mo_nextGate 31 = .ok (.bipush 8, 2) := dc_of (x := (31, .bipush 8, 2)) t0_Mo_nextGate_ok (i := 20) rfl
theorem d_Mo_nextGate_33 : decode c_Mo_nextGate 33 = .ok (.invokevirtual 36, 3) := dc_of (x := (33, .invokevirtual 36, 3)) t0_Mo_nextGate_ok (i := 21) rfl
theorem d_Mo_nextGate_36 : decode c_Mo_nextGate 36 = .ok (.aload_n 0, 1) := dc_of (x := (36, .aload_n 0, 1)) t0_Mo_nextGate_ok (i := 22) rfl
theorem d_Mo_nextGate_37 : decode c_Mo_nextGate 37 = .ok (.iload_n 1, 1) := dc_of (x := (37, .iload_n 1, 1)) t0_Mo_nextGate_ok (i := 23) rfl
theorem d_Mo_nextGate_38 : decode c_Mo_nextGate 38 = .ok (.bipush 8, 2) := dc_of (x := (38, .bipush 8, 2)) t0_Mo_nextGate_ok (i := 24) rfl
theorem d_Mo_nextGate_40 : decode c_Mo_nextGate 40 = .ok (.invokevirtual 36, 3) := dc_of (x := (40, .invokevirtual 36, 3)) t0_Mo_nextGate_ok (i := 25) rfl
theorem d_Mo_nextGate_43 : decode c_Mo_nextGate 43 = .ok (.if_icmp .lt 35, 3) := dc_of (x := (43, .if_icmp .lt 35, 3)) t0_Mo_nextGate_ok (i := 26) rfl
theorem d_Mo_nextGate_46 : decode c_Mo_nextGate 46 = .ok (.aload_n 0, 1) := dc_of (x := (46, .aload_n 0, 1)) t0_Mo_nextGate_ok (i := 27) rfl
theorem d_Mo_nextGate_47 : decode c_Mo_nextGate 47 = .ok (.iload_n 2, 1) := dc_of (x := (47, .iload_n 2, 1)) t0_Mo_nextGate_ok (i := 28) rfl
theorem d_Mo_nextGate_48 : decode c_Mo_nextGate 48 = .ok (.bipush 8, 2) := dc_of (x := (48, .bipush 8, 2)) t0_Mo_nextGate_ok (i := 29) rfl
theorem d_Mo_nextGate_50 : decode c_Mo_nextGate 50 = .ok (.invokevirtual 36, 3) := dc_of (x := (50, .invokevirtual 36, 3)) t0_Mo_nextGate_ok (i := 30) rfl
theorem d_Mo_nextGate_53 : decode c_Mo_nextGate 53 = .ok (.aload_n 0, 1) := dc_of (x := (53, .aload_n 0, 1)) t0_Mo_nextGate_ok (i := 31) rfl
theorem d_Mo_nextGate_54 : decode c_Mo_nextGate 54 = .ok (.iload_n 1, 1) := dc_of (x := (54, .iload_n 1, 1)) t0_Mo_nextGate_ok (i := 32) rfl
theorem d_Mo_nextGate_55 : decode c_Mo_nextGate 55 = .ok (.bipush 8, 2) := dc_of (x := (55, .bipush 8, 2)) t0_Mo_nextGate_ok (i := 33) rfl
theorem d_Mo_nextGate_57 : decode c_Mo_nextGate 57 = .ok (.invokevirtual 36, 3) := dc_of (x := (57, .invokevirtual 36, 3)) t0_Mo_nextGate_ok (i := 34) rfl
theorem d_Mo_nextGate_60 : decode c_Mo_nextGate 60 = .ok (.if_icmp .ne 22, 3) := dc_of (x := (60, .if_icmp .ne 22, 3)) t0_Mo_nextGate_ok (i := 35) rfl
theorem d_Mo_nextGate_63 : decode c_Mo_nextGate 63 = .ok (.aload_n 0, 1) := dc_of (x := (63, .aload_n 0, 1)) t0_Mo_nextGate_ok (i := 36) rfl
theorem d_Mo_nextGate_64 : decode c_Mo_nextGate 64 = .ok (.iload_n 2, 1) := dc_of (x := (64, .iload_n 2, 1)) t0_Mo_nextGate_ok (i := 37) rfl
theorem d_Mo_nextGate_65 : decode c_Mo_nextGate 65 = .ok (.iconst 3, 1) := dc_of (x := (65, .iconst 3, 1)) t0_Mo_nextGate_ok (i := 38) rfl
theorem d_Mo_nextGate_66 : decode c_Mo_nextGate 66 = .ok (.invokevirtual 36, 3) := dc_of (x := (66, .invokevirtual 36, 3)) t0_Mo_nextGate_ok (i := 39) rfl
theorem d_Mo_nextGate_69 : decode c_Mo_nextGate 69 = .ok (.aload_n 0, 1) := dc_of (x := (69, .aload_n 0, 1)) t0_Mo_nextGate_ok (i := 40) rfl
theorem d_Mo_nextGate_70 : decode c_Mo_nextGate 70 = .ok (.iload_n 1, 1) := dc_of (x := (70, .iload_n 1, 1)) t0_Mo_nextGate_ok (i := 41) rfl
theorem d_Mo_nextGate_71 : decode c_Mo_nextGate 71 = .ok (.iconst 3, 1) := dc_of (x := (71, .iconst 3, 1)) t0_Mo_nextGate_ok (i := 42) rfl
theorem d_Mo_nextGate_72 : decode c_Mo_nextGate 72 = .ok (.invokevirtual 36, 3) := dc_of (x := (72, .invokevirtual 36, 3)) t0_Mo_nextGate_ok (i := 43) rfl
theorem d_Mo_nextGate_75 : decode c_Mo_nextGate 75 = .ok (.if_icmp .ge 7, 3) := dc_of (x := (75, .if_icmp .ge 7, 3)) t0_Mo_nextGate_ok (i := 44) rfl
theorem d_Mo_nextGate_78 : decode c_Mo_nextGate 78 = .ok (.iconst 1, 1) := dc_of (x := (78, .iconst 1, 1)) t0_Mo_nextGate_ok (i := 45) rfl
theorem d_Mo_nextGate_79 : decode c_Mo_nextGate 79 = .ok (.goto 4, 3) := dc_of (x := (79, .goto 4, 3)) t0_Mo_nextGate_ok (i := 46) rfl
theorem d_Mo_nextGate_82 : decode c_Mo_nextGate 82 = .ok (.iconst 0, 1) := dc_of (x := (82, .iconst 0, 1)) t0_Mo_nextGate_ok (i := 47) rfl
theorem d_Mo_nextGate_83 : decode c_Mo_nextGate 83 = .ok (.istore_n 3, 1) := dc_of (x := (83, .istore_n 3, 1)) t0_Mo_nextGate_ok (i := 48) rfl
theorem d_Mo_nextGate_84 : decode c_Mo_nextGate 84 = .ok (.iload_n 3, 1) := dc_of (x := (84, .iload_n 3, 1)) t0_Mo_nextGate_ok (i := 49) rfl
theorem d_Mo_nextGate_85 : decode c_Mo_nextGate 85 = .ok (.ifCond .eq 7, 3) := dc_of (x := (85, .ifCond .eq 7, 3)) t0_Mo_nextGate_ok (i := 50) rfl
theorem d_Mo_nextGate_88 : decode c_Mo_nextGate 88 = .ok (.iload_n 2, 1) := dc_of (x := (88, .iload_n 2, 1)) t0_Mo_nextGate_ok (i := 51) rfl
theorem d_Mo_nextGate_89 : decode c_Mo_nextGate 89 = .ok (.goto 4, 3) := dc_of (x := (89, .goto 4, 3)) t0_Mo_nextGate_ok (i := 52) rfl
theorem d_Mo_nextGate_92 : decode c_Mo_nextGate 92 = .ok (.iload_n 1, 1) := dc_of (x := (92, .iload_n 1, 1)) t0_Mo_nextGate_ok (i := 53) rfl
theorem d_Mo_nextGate_93 : decode c_Mo_nextGate 93 = .ok (.istore_n 1, 1) := dc_of (x := (93, .istore_n 1, 1)) t0_Mo_nextGate_ok (i := 54) rfl
theorem d_Mo_nextGate_94 : decode c_Mo_nextGate 94 = .ok (.iinc 2 1, 3) := dc_of (x := (94, .iinc 2 1, 3)) t0_Mo_nextGate_ok (i := 55) rfl
theorem d_Mo_nextGate_97 : decode c_Mo_nextGate 97 = .ok (.goto (-93), 3) := dc_of (x := (97, .goto (-93), 3)) t0_Mo_nextGate_ok (i := 56) rfl
theorem d_Mo_nextGate_100 : decode c_Mo_nextGate 100 = .ok (.iload_n 1, 1) := dc_of (x := (100, .iload_n 1, 1)) t0_Mo_nextGate_ok (i := 57) rfl
theorem d_Mo_nextGate_101 : decode c_Mo_nextGate 101 = .ok (.ireturn, 1) := dc_of (x := (101, .ireturn, 1)) t0_Mo_nextGate_ok (i := 58) rfl
def t0_Mo_comeHand : List (Nat × Instr × Nat) := [(0, .sipush 700, 3), (3, .iconst 5, 1), (4, .iload_n 1, 1), (5, .imul, 1), (6, .iadd, 1), (7, .istore_n 2, 1), (8, .aload_n 0, 1), (9, .getfield 7, 3), (12, .iload_n 2, 1), (13, .iconst 1, 1), (14, .iadd, 1), (15, .iaload, 1), (16, .istore_n 3, 1), (17, .aload_n 0, 1), (18, .getfield 7, 3), (21, .iload_n 2, 1), (22, .iconst 2, 1), (23, .iadd, 1), (24, .iaload, 1), (25, .istore 4, 2), (27, .aload_n 0, 1), (28, .getfield 7, 3), (31, .iload_n 2, 1), (32, .iconst 3, 1), (33, .iadd, 1), (34, .iaload, 1), (35, .istore 5, 2), (37, .aload_n 0, 1), (38, .getfield 7, 3), (41, .iconst 4, 1), (42, .dup2, 1), (43, .iaload, 1), (44, .iconst 1, 1), (45, .isub, 1), (46, .iastore, 1), (47, .iload_n 2, 1), (48, .istore 6, 2), (50, .iload 6, 2), (52, .sipush 700, 3), (55, .iconst 5, 1), (56, .aload_n 0, 1), (57, .getfield 7, 3), (60, .iconst 4, 1), (61, .iaload, 1), (62, .imul, 1), (63, .iadd, 1), (64, .if_icmp .ge 25, 3), (67, .aload_n 0, 1), (68, .getfield 7, 3), (71, .iload 6, 2), (73, .aload_n 0, 1), (74, .getfield 7, 3), (77, .iload 6, 2), (79, .iconst 5, 1), (80, .iadd, 1), (81, .iaload, 1), (82, .iastore, 1), (83, .iinc 6 1, 3), (86, .goto (-36), 3), (89, .aload_n 0, 1)]
theorem t0_Mo_comeHand_ok : t0_Mo_comeHand.all (fun x => decide (decode c_Mo_comeHand x.1 = .ok x.2)) = true := by decide +kernel
def t1_Mo_comeHand : List (Nat × Instr × Nat) := [(90, .iload_n 3, 1), (91, .iload 4, 2), (93, .ifCond .ne 7, 3), (96, .iconst 1, 1), (97, .goto 4, 3), (100, .iconst 2, 1), (101, .iload 4, 2), (103, .iconst 2, 1), (104, .if_icmp .ne 7, 3), (107, .iconst (-1), 1), (108, .goto 5, 3), (111, .iload 5, 2), (113, .invokevirtual 53, 3), (116, .aload_n 0, 1), (117, .iload_n 3, 1), (118, .iconst 3, 1), (119, .iconst 1, 1), (120, .invokevirtual 53, 3), (123, .aload_n 0, 1), (124, .iload_n 3, 1), (125, .invokevirtual 74, 3), (128, .return_, 1)]
theorem t1_Mo_comeHand_ok : t1_Mo_comeHand.all (fun x => decide (decode c_Mo_comeHand x.1 = .ok x.2)) = true := by decide +kernel
theorem d_Mo_comeHand_0 : decode c_Mo_comeHand 0 = .ok (.sipush 700, 3) := dc_of (x := (0, .sipush 700, 3)) t0_Mo_comeHand_ok (i := 0) rfl
theorem d_Mo_comeHand_3 : decode c_Mo_comeHand 3 = .ok (.iconst 5, 1) := dc_of (x := (3, .iconst 5, 1)) t0_Mo_comeHand_ok (i := 1) rfl
theorem d_Mo_comeHand_4 : decode c_Mo_comeHand 4 = .ok (.iload_n 1, 1) := dc_of (x := (4, .iload_n 1, 1)) t0_Mo_comeHand_ok (i := 2) rfl
theorem d_Mo_comeHand_5 : decode c_Mo_comeHand 5 = .ok (.imul, 1) := dc_of (x := (5, .imul, 1)) t0_Mo_comeHand_ok (i := 3) rfl
theorem d_Mo_comeHand_6 : decode c_Mo_comeHand 6 = .ok (.iadd, 1) := dc_of (x := (6, .iadd, 1)) t0_Mo_comeHand_ok (i := 4) rfl
theorem d_Mo_comeHand_7 : decode c_Mo_comeHand 7 = .ok (.istore_n 2, 1) := dc_of (x := (7, .istore_n 2, 1)) t0_Mo_comeHand_ok (i := 5) rfl
theorem d_Mo_comeHand_8 : decode c_Mo_comeHand 8 = .ok (.aload_n 0, 1) := dc_of (x := (8, .aload_n 0, 1)) t0_Mo_comeHand_ok (i := 6) rfl
theorem d_Mo_comeHand_9 : decode c_Mo_comeHand 9 = .ok (.getfield 7, 3) := dc_of (x := (9, .getfield 7, 3)) t0_Mo_comeHand_ok (i := 7) rfl
theorem d_Mo_comeHand_12 : decode c_Mo_comeHand 12 = .ok (.iload_n 2, 1) := dc_of (x := (12, .iload_n 2, 1)) t0_Mo_comeHand_ok (i := 8) rfl
theorem d_Mo_comeHand_13 : decode c_Mo_comeHand 13 = .ok (.iconst 1, 1) := dc_of (x := (13, .iconst 1, 1)) t0_Mo_comeHand_ok (i := 9) rfl
theorem d_Mo_comeHand_14 : decode c_Mo_comeHand 14 = .ok (.iadd, 1) := dc_of (x := (14, .iadd, 1)) t0_Mo_comeHand_ok (i := 10) rfl
theorem d_Mo_comeHand_15 : decode c_Mo_comeHand 15 = .ok (.iaload, 1) := dc_of (x := (15, .iaload, 1)) t0_Mo_comeHand_ok (i := 11) rfl
theorem d_Mo_comeHand_16 : decode c_Mo_comeHand 16 = .ok (.istore_n 3, 1) := dc_of (x := (16, .istore_n 3, 1)) t0_Mo_comeHand_ok (i := 12) rfl
theorem d_Mo_comeHand_17 : decode c_Mo_comeHand 17 = .ok (.aload_n 0, 1) := dc_of (x := (17, .aload_n 0, 1)) t0_Mo_comeHand_ok (i := 13) rfl
theorem d_Mo_comeHand_18 : decode c_Mo_comeHand 18 = .ok (.getfield 7, 3) := dc_of (x := (18, .getfield 7, 3)) t0_Mo_comeHand_ok (i := 14) rfl
theorem d_Mo_comeHand_21 : decode c_Mo_comeHand 21 = .ok (.iload_n 2, 1) := dc_of (x := (21, .iload_n 2, 1)) t0_Mo_comeHand_ok (i := 15) rfl
theorem d_Mo_comeHand_22 : decode c_Mo_comeHand 22 = .ok (.iconst 2, 1) := dc_of (x := (22, .iconst 2, 1)) t0_Mo_comeHand_ok (i := 16) rfl
theorem d_Mo_comeHand_23 : decode c_Mo_comeHand 23 = .ok (.iadd, 1) := dc_of (x := (23, .iadd, 1)) t0_Mo_comeHand_ok (i := 17) rfl
theorem d_Mo_comeHand_24 : decode c_Mo_comeHand 24 = .ok (.iaload, 1) := dc_of (x := (24, .iaload, 1)) t0_Mo_comeHand_ok (i := 18) rfl
theorem d_Mo_comeHand_25 : decode c_Mo_comeHand 25 = .ok (.istore 4, 2) := dc_of (x := (25, .istore 4, 2)) t0_Mo_comeHand_ok (i := 19) rfl
theorem d_Mo_comeHand_27 : decode c_Mo_comeHand 27 = .ok (.aload_n 0, 1) := dc_of (x := (27, .aload_n 0, 1)) t0_Mo_comeHand_ok (i := 20) rfl
theorem d_Mo_comeHand_28 : decode c_Mo_comeHand 28 = .ok (.getfield 7, 3) := dc_of (x := (28, .getfield 7, 3)) t0_Mo_comeHand_ok (i := 21) rfl
theorem d_Mo_comeHand_31 : decode c_Mo_comeHand 31 = .ok (.iload_n 2, 1) := dc_of (x := (31, .iload_n 2, 1)) t0_Mo_comeHand_ok (i := 22) rfl
theorem d_Mo_comeHand_32 : decode c_Mo_comeHand 32 = .ok (.iconst 3, 1) := dc_of (x := (32, .iconst 3, 1)) t0_Mo_comeHand_ok (i := 23) rfl
theorem d_Mo_comeHand_33 : decode c_Mo_comeHand 33 = .ok (.iadd, 1) := dc_of (x := (33, .iadd, 1)) t0_Mo_comeHand_ok (i := 24) rfl
theorem d_Mo_comeHand_34 : decode c_Mo_comeHand 34 = .ok (.iaload, 1) := dc_of (x := (34, .iaload, 1)) t0_Mo_comeHand_ok (i := 25) rfl
theorem d_Mo_comeHand_35 : decode c_Mo_comeHand 35 = .ok (.istore 5, 2) := dc_of (x := (35, .istore 5, 2)) t0_Mo_comeHand_ok (i := 26) rfl
theorem d_Mo_comeHand_37 : decode c_Mo_comeHand 37 = .ok (.aload_n 0, 1) := dc_of (x := (37, .aload_n 0, 1)) t0_Mo_comeHand_ok (i := 27) rfl
theorem d_Mo_comeHand_38 : decode c_Mo_comeHand 38 = .ok (.getfield 7, 3) := dc_of (x := (38, .getfield 7, 3)) t0_Mo_comeHand_ok (i := 28) rfl
theorem d_Mo_comeHand_41 : decode c_Mo_comeHand 41 = .ok (.iconst 4, 1) := dc_of (x := (41, .iconst 4, 1)) t0_Mo_comeHand_ok (i := 29) rfl
theorem d_Mo_comeHand_42 : decode c_Mo_comeHand 42 = .ok (.dup2, 1) := dc_of (x := (42, .dup2, 1)) t0_Mo_comeHand_ok (i := 30) rfl
theorem d_Mo_comeHand_43 : decode c_Mo_comeHand 43 = .ok (.iaload, 1) := dc_of (x := (43, .iaload, 1)) t0_Mo_comeHand_ok (i := 31) rfl
theorem d_Mo_comeHand_44 : decode c_Mo_comeHand 44 = .ok (.iconst 1, 1) := dc_of (x := (44, .iconst 1, 1)) t0_Mo_comeHand_ok (i := 32) rfl
theorem d_Mo_comeHand_45 : decode c_Mo_comeHand 45 = .ok (.isub, 1) := dc_of (x := (45, .isub, 1)) t0_Mo_comeHand_ok (i := 33) rfl
theorem d_Mo_comeHand_46 : decode c_Mo_comeHand 46 = .ok (.iastore, 1) := dc_of (x := (46, .iastore, 1)) t0_Mo_comeHand_ok (i := 34) rfl
theorem d_Mo_comeHand_47 : decode c_Mo_comeHand 47 = .ok (.iload_n 2, 1) := dc_of (x := (47, .iload_n 2, 1)) t0_Mo_comeHand_ok (i := 35) rfl
theorem d_Mo_comeHand_48 : decode c_Mo_comeHand 48 = .ok (.istore 6, 2) := dc_of (x := (48, .istore 6, 2)) t0_Mo_comeHand_ok (i := 36) rfl
theorem d_Mo_comeHand_50 : decode c_Mo_comeHand 50 = .ok (.iload 6, 2) := dc_of (x := (50, .iload 6, 2)) t0_Mo_comeHand_ok (i := 37) rfl
theorem d_Mo_comeHand_52 : decode c_Mo_comeHand 52 = .ok (.sipush 700, 3) := dc_of (x := (52, .sipush 700, 3)) t0_Mo_comeHand_ok (i := 38) rfl
theorem d_Mo_comeHand_55 : decode c_Mo_comeHand 55 = .ok (.iconst 5, 1) := dc_of (x := (55, .iconst 5, 1)) t0_Mo_comeHand_ok (i := 39) rfl
theorem d_Mo_comeHand_56 : decode c_Mo_comeHand 56 = .ok (.aload_n 0, 1) := dc_of (x := (56, .aload_n 0, 1)) t0_Mo_comeHand_ok (i := 40) rfl
theorem d_Mo_comeHand_57 : decode c_Mo_comeHand 57 = .ok (.getfield 7, 3) := dc_of (x := (57, .getfield 7, 3)) t0_Mo_comeHand_ok (i := 41) rfl
theorem d_Mo_comeHand_60 : decode c_Mo_comeHand 60 = .ok (.iconst 4, 1) := dc_of (x := (60, .iconst 4, 1)) t0_Mo_comeHand_ok (i := 42) rfl
theorem d_Mo_comeHand_61 : decode c_Mo_comeHand 61 = .ok (.iaload, 1) := dc_of (x := (61, .iaload, 1)) t0_Mo_comeHand_ok (i := 43) rfl
theorem d_Mo_comeHand_62 : decode c_Mo_comeHand 62 = .ok (.imul, 1) := dc_of (x := (62, .imul, 1)) t0_Mo_comeHand_ok (i := 44) rfl
theorem d_Mo_comeHand_63 : decode c_Mo_comeHand 63 = .ok (.iadd, 1) := dc_of (x := (63, .iadd, 1)) t0_Mo_comeHand_ok (i := 45) rfl
theorem d_Mo_comeHand_64 : decode c_Mo_comeHand 64 = .ok (.if_icmp .ge 25, 3) := dc_of (x := (64, .if_icmp .ge 25, 3)) t0_Mo_comeHand_ok (i := 46) rfl
theorem d_Mo_comeHand_67 : decode c_Mo_comeHand 67 = .ok (.aload_n 0, 1) := dc_of (x := (67, .aload_n 0, 1)) t0_Mo_comeHand_ok (i := 47) rfl
theorem d_Mo_comeHand_68 : decode c_Mo_comeHand 68 = .ok (.getfield 7, 3) := dc_of (x := (68, .getfield 7, 3)) t0_Mo_comeHand_ok (i := 48) rfl
theorem d_Mo_comeHand_71 : decode c_Mo_comeHand 71 = .ok (.iload 6, 2) := dc_of (x := (71, .iload 6, 2)) t0_Mo_comeHand_ok (i := 49) rfl
theorem d_Mo_comeHand_73 : decode c_Mo_comeHand 73 = .ok (.aload_n 0, 1) := dc_of (x := (73, .aload_n 0, 1)) t0_Mo_comeHand_ok (i := 50) rfl
theorem d_Mo_comeHand_74 : decode c_Mo_comeHand 74 = .ok (.getfield 7, 3) := dc_of (x := (74, .getfield 7, 3)) t0_Mo_comeHand_ok (i := 51) rfl
theorem d_Mo_comeHand_77 : decode c_Mo_comeHand 77 = .ok (.iload 6, 2) := dc_of (x := (77, .iload 6, 2)) t0_Mo_comeHand_ok (i := 52) rfl
theorem d_Mo_comeHand_79 : decode c_Mo_comeHand 79 = .ok (.iconst 5, 1) := dc_of (x := (79, .iconst 5, 1)) t0_Mo_comeHand_ok (i := 53) rfl
theorem d_Mo_comeHand_80 : decode c_Mo_comeHand 80 = .ok (.iadd, 1) := dc_of (x := (80, .iadd, 1)) t0_Mo_comeHand_ok (i := 54) rfl
theorem d_Mo_comeHand_81 : decode c_Mo_comeHand 81 = .ok (.iaload, 1) := dc_of (x := (81, .iaload, 1)) t0_Mo_comeHand_ok (i := 55) rfl
theorem d_Mo_comeHand_82 : decode c_Mo_comeHand 82 = .ok (.iastore, 1) := dc_of (x := (82, .iastore, 1)) t0_Mo_comeHand_ok (i := 56) rfl
theorem d_Mo_comeHand_83 : decode c_Mo_comeHand 83 = .ok (.iinc 6 1, 3) := dc_of (x := (83, .iinc 6 1, 3)) t0_Mo_comeHand_ok (i := 57) rfl
theorem d_Mo_comeHand_86 : decode c_Mo_comeHand 86 = .ok (.goto (-36), 3) := dc_of (x := (86, .goto (-36), 3)) t0_Mo_comeHand_ok (i := 58) rfl
theorem d_Mo_comeHand_89 : decode c_Mo_comeHand 89 = .ok (.aload_n 0, 1) := dc_of (x := (89, .aload_n 0, 1)) t0_Mo_comeHand_ok (i := 59) rfl
theorem d_Mo_comeHand_90 : decode c_Mo_comeHand 90 = .ok (.iload_n 3, 1) := dc_of (x := (90, .iload_n 3, 1)) t1_Mo_comeHand_ok (i := 0) rfl
theorem d_Mo_comeHand_91 : decode c_Mo_comeHand 91 = .ok (.iload 4, 2) := dc_of (x := (91, .iload 4, 2)) t1_Mo_comeHand_ok (i := 1) rfl
theorem d_Mo_comeHand_93 : decode c_Mo_comeHand 93 = .ok (.ifCond .ne 7, 3) := dc_of (x := (93, .ifCond .ne 7, 3)) t1_Mo_comeHand_ok (i := 2) rfl
theorem d_Mo_comeHand_96 : decode c_Mo_comeHand 96 = .ok (.iconst 1, 1) := dc_of (x := (96, .iconst 1, 1)) t1_Mo_comeHand_ok (i := 3) rfl
theorem d_Mo_comeHand_97 : decode c_Mo_comeHand 97 = .ok (.goto 4, 3) := dc_of (x := (97, .goto 4, 3)) t1_Mo_comeHand_ok (i := 4) rfl
theorem d_Mo_comeHand_100 : decode c_Mo_comeHand 100 = .ok (.iconst 2, 1) := dc_of (x := (100, .iconst 2, 1)) t1_Mo_comeHand_ok (i := 5) rfl
theorem d_Mo_comeHand_101 : decode c_Mo_comeHand 101 = .ok (.iload 4, 2) := dc_of (x := (101, .iload 4, 2)) t1_Mo_comeHand_ok (i := 6) rfl
theorem d_Mo_comeHand_103 : decode c_Mo_comeHand 103 = .ok (.iconst 2, 1) := dc_of (x := (103, .iconst 2, 1)) t1_Mo_comeHand_ok (i := 7) rfl
theorem d_Mo_comeHand_104 : decode c_Mo_comeHand 104 = .ok (.if_icmp .ne 7, 3) := dc_of (x := (104, .if_icmp .ne 7, 3)) t1_Mo_comeHand_ok (i := 8) rfl
theorem d_Mo_comeHand_107 : decode c_Mo_comeHand 107 = .ok (.iconst (-1), 1) := dc_of (x := (107, .iconst (-1), 1)) t1_Mo_comeHand_ok (i := 9) rfl
theorem d_Mo_comeHand_108 : decode c_Mo_comeHand 108 = .ok (.goto 5, 3) := dc_of (x := (108, .goto 5, 3)) t1_Mo_comeHand_ok (i := 10) rfl
theorem d_Mo_comeHand_111 : decode c_Mo_comeHand 111 = .ok (.iload 5, 2) := dc_of (x := (111, .iload 5, 2)) t1_Mo_comeHand_ok (i := 11) rfl
theorem d_Mo_comeHand_113 : decode c_Mo_comeHand 113 = .ok (.invokevirtual 53, 3) := dc_of (x := (113, .invokevirtual 53, 3)) t1_Mo_comeHand_ok (i := 12) rfl
theorem d_Mo_comeHand_116 : decode c_Mo_comeHand 116 = .ok (.aload_n 0, 1) := dc_of (x := (116, .aload_n 0, 1)) t1_Mo_comeHand_ok (i := 13) rfl
theorem d_Mo_comeHand_117 : decode c_Mo_comeHand 117 = .ok (.iload_n 3, 1) := dc_of (x := (117, .iload_n 3, 1)) t1_Mo_comeHand_ok (i := 14) rfl
theorem d_Mo_comeHand_118 : decode c_Mo_comeHand 118 = .ok (.iconst 3, 1) := dc_of (x := (118, .iconst 3, 1)) t1_Mo_comeHand_ok (i := 15) rfl
theorem d_Mo_comeHand_119 : decode c_Mo_comeHand 119 = .ok (.iconst 1, 1) := dc_of (x := (119, .iconst 1, 1)) t1_Mo_comeHand_ok (i := 16) rfl
theorem d_Mo_comeHand_120 : decode c_Mo_comeHand 120 = .ok (.invokevirtual 53, 3) := dc_of (x := (120, .invokevirtual 53, 3)) t1_Mo_comeHand_ok (i := 17) rfl
theorem d_Mo_comeHand_123 : decode c_Mo_comeHand 123 = .ok (.aload_n 0, 1) := dc_of (x := (123, .aload_n 0, 1)) t1_Mo_comeHand_ok (i := 18) rfl
theorem d_Mo_comeHand_124 : decode c_Mo_comeHand 124 = .ok (.iload_n 3, 1) := dc_of (x := (124, .iload_n 3, 1)) t1_Mo_comeHand_ok (i := 19) rfl
theorem d_Mo_comeHand_125 : decode c_Mo_comeHand 125 = .ok (.invokevirtual 74, 3) := dc_of (x := (125, .invokevirtual 74, 3)) t1_Mo_comeHand_ok (i := 20) rfl
theorem d_Mo_comeHand_128 : decode c_Mo_comeHand 128 = .ok (.return_, 1) := dc_of (x := (128, .return_, 1)) t1_Mo_comeHand_ok (i := 21) rfl
def t0_Mo_comeGate : List (Nat × Instr × Nat) := [(0, .aload_n 0, 1), (1, .iload_n 1, 1), (2, .bipush 6, 2), (4, .aload_n 0, 1), (5, .iload_n 1, 1), (6, .bipush 7, 2), (8, .invokevirtual 36, 3), (11, .invokevirtual 46, 3), (14, .aload_n 0, 1), (15, .iload_n 1, 1), (16, .bipush 9, 2), (18, .invokevirtual 36, 3), (21, .iconst (-1), 1), (22, .if_icmp .eq 24, 3), (25, .aload_n 0, 1), (26, .iload_n 1, 1), (27, .bipush 9, 2), (29, .invokevirtual 36, 3), (32, .aload_n 0, 1), (33, .iload_n 1, 1), (34, .bipush 6, 2), (36, .invokevirtual 36, 3), (39, .if_icmp .eq 7, 3), (42, .iconst 1, 1), (43, .goto 4, 3), (46, .iconst 0, 1), (47, .istore_n 2, 1), (48, .aload_n 0, 1), (49, .iload_n 1, 1), (50, .bipush 7, 2), (52, .iload_n 2, 1), (53, .ifCond .eq 13, 3), (56, .aload_n 0, 1), (57, .iload_n 1, 1), (58, .bipush 9, 2), (60, .invokevirtual 36, 3), (63, .goto 4, 3), (66, .iconst (-1), 1), (67, .invokevirtual 46, 3), (70, .aload_n 0, 1), (71, .iload_n 1, 1), (72, .bipush 8, 2), (74, .aload_n 0, 1), (75, .iload_n 1, 1), (76, .bipush 10, 2), (78, .invokevirtual 36, 3), (81, .invokevirtual 46, 3), (84, .aload_n 0, 1), (85, .iload_n 1, 1), (86, .bipush 9, 2), (88, .iconst (-1), 1), (89, .invokevirtual 46, 3), (92, .aload_n 0, 1), (93, .aload_n 0, 1), (94, .iload_n 1, 1), (95, .iconst 3, 1), (96, .invokevirtual 36, 3), (99, .invokevirtual 74, 3), (102, .return_, 1)]
theorem t0_Mo_comeGate_ok : t0_Mo_comeGate.all (fun x => decide (decode c_Mo_comeGate x.1 = .ok x.2)) = true := by decide +kernel
theorem d_Mo_comeGate_0 : decode c_Mo_comeGate 0 = .ok (.aload_n 0, 1) := dc_of (x := (0, .aload_n 0, 1)) t0_Mo_comeGate_ok (i := 0) rfl
theorem d_Mo_comeGate_1 : decode c_Mo_comeGate 1 = .ok (.iload_n 1, 1) := dc_of (x := (1, .iload_n 1, 1)) t0_Mo_comeGate_ok (i := 1) rfl
theorem d_Mo_comeGate_2 : decode c_Mo_comeGate 2 = .ok (.bipush 6, 2) := dc_of (x := (2, .bipush 6, 2)) t0_Mo_comeGate_ok (i := 2) rfl
theorem d_Mo_comeGate_4 : decode c_Mo_comeGate 4 = .ok (.aload_n 0, 1) := dc_of (x := (4, .aload_n 0, 1)) t0_Mo_comeGate_ok (i := 3) rfl
theorem d_Mo_comeGate_5 : decode c_Mo_comeGate 5 = .ok (.iload_n 1, 1) := dc_of (x := (5, .iload_n 1, 1)) t0_Mo_comeGate_ok (i := 4) rfl
theorem d_Mo_comeGate_6 : decode c_Mo_comeGate 6 = .ok (.bipush 7, 2) := dc_of (x := (6, .bipush 7, 2)) t0_Mo_comeGate_ok (i := 5) rfl
theorem d_Mo_comeGate_8 : decode c_Mo_comeGate 8 = .ok (.invokevirtual 36, 3) := dc_of (x := (8, .invokevirtual 36, 3)) t0_Mo_comeGate_ok (i := 6) rfl
theorem d_Mo_comeGate_11 : decode c_Mo_comeGate 11 = .ok (.invokevirtual 46, 3) := dc_of (x := (11, .invokevirtual 46, 3)) t0_Mo_comeGate_ok (i := 7) rfl
theorem d_Mo_comeGate_14 : decode c_Mo_comeGate 14 = .ok (.aload_n 0, 1) := dc_of (x := (14, .aload_n 0, 1)) t0_Mo_comeGate_ok (i := 8) rfl
theorem d_Mo_comeGate_15 : decode c_Mo_comeGate 15 = .ok (.iload_n 1, 1) := dc_of (x := (15, .iload_n 1, 1)) t0_Mo_comeGate_ok (i := 9) rfl
theorem d_Mo_comeGate_16 : decode c_Mo_comeGate 16 = .ok (.bipush 9, 2) := dc_of (x := (16, .bipush 9, 2)) t0_Mo_comeGate_ok (i := 10) rfl
theorem d_Mo_comeGate_18 : decode c_Mo_comeGate 18 = .ok (.invokevirtual 36, 3) := dc_of (x := (18, .invokevirtual 36, 3)) t0_Mo_comeGate_ok (i := 11) rfl
theorem d_Mo_comeGate_21 : decode c_Mo_comeGate 21 = .ok (.iconst (-1), 1) := dc_of (x := (21, .iconst (-1), 1)) t0_Mo_comeGate_ok (i := 12) rfl
theorem d_Mo_comeGate_22 : decode c_Mo_comeGate 22 = .ok (.if_icmp .eq 24, 3) := dc_of (x := (22, .if_icmp .eq 24, 3)) t0_Mo_comeGate_ok (i := 13) rfl
theorem d_Mo_comeGate_25 : decode c_Mo_comeGate 25 = .ok (.aload_n 0, 1) := dc_of (x := (25, .aload_n 0, 1)) t0_Mo_comeGate_ok (i := 14) rfl
theorem d_Mo_comeGate_26 : decode c_Mo_comeGate 26 = .ok (.iload_n 1, 1) := dc_of (x := (26, .iload_n 1, 1)) t0_Mo_comeGate_ok (i := 15) rfl
theorem d_Mo_comeGate_27 : decode c_Mo_comeGate 27 = .ok (.bipush 9, 2) := dc_of (x := (27, .bipush 9, 2)) t0_Mo_comeGate_ok (i := 16) rfl
theorem d_Mo_comeGate_29 : decode c_Mo_comeGate 29 = .ok (.invokevirtual 36, 3) := dc_of (x := (29, .invokevirtual 36, 3)) t0_Mo_comeGate_ok (i := 17) rfl
theorem d_Mo_comeGate_32 : decode c_Mo_comeGate 32 = .ok (.aload_n 0, 1) := dc_of (x := (32, .aload_n 0, 1)) t0_Mo_comeGate_ok (i := 18) rfl
theorem d_Mo_comeGate_33 : decode c_Mo_comeGate 33 = .ok (.iload_n 1, 1) := dc_of (x := (33, .iload_n 1, 1)) t0_Mo_comeGate_ok (i := 19) rfl
theorem d_Mo_comeGate_34 : decode c_Mo_comeGate 34 = .ok (.bipush 6, 2) := dc_of (x := (34, .bipush 6, 2)) t0_Mo_comeGate_ok (i := 20) rfl
theorem d_Mo_comeGate_36 : decode c_Mo_comeGate 36 = .ok (.invokevirtual 36, 3) := dc_of (x := (36, .invokevirtual 36, 3)) t0_Mo_comeGate_ok (i := 21) rfl
theorem d_Mo_comeGate_39 : decode c_Mo_comeGate 39 = .ok (.if_icmp .eq 7, 3) := dc_of (x := (39, .if_icmp .eq 7, 3)) t0_Mo_comeGate_ok (i := 22) rfl
theorem d_Mo_comeGate_42 : decode c_Mo_comeGate 42 = .ok (.iconst 1, 1) := dc_of (x := (42, .iconst 1, 1)) t0_Mo_comeGate_ok (i := 23) rfl
theorem d_Mo_comeGate_43 : decode c_Mo_comeGate 43 = .ok (.goto 4, 3) := dc_of (x := (43, .goto 4, 3)) t0_Mo_comeGate_ok (i := 24) rfl
theorem d_Mo_comeGate_46 : decode c_Mo_comeGate 46 = .ok (.iconst 0, 1) := dc_of (x := (46, .iconst 0, 1)) t0_Mo_comeGate_ok (i := 25) rfl
theorem d_Mo_comeGate_47 : decode c_Mo_comeGate 47 = .ok (.istore_n 2, 1) := dc_of (x := (47, .istore_n 2, 1)) t0_Mo_comeGate_ok (i := 26) rfl
theorem d_Mo_comeGate_48 : decode c_Mo_comeGate 48 = .ok (.aload_n 0, 1) := dc_of (x := (48, .aload_n 0, 1)) t0_Mo_comeGate_ok (i := 27) rfl
theorem d_Mo_comeGate_49 : decode c_Mo_comeGate 49 = .ok (.iload_n 1, 1) := dc_of (x := (49, .iload_n 1, 1)) t0_Mo_comeGate_ok (i := 28) rfl
theorem d_Mo_comeGate_50 : decode c_Mo_comeGate 50 = .ok (.bipush 7, 2) := dc_of (x := (50, .bipush 7, 2)) t0_Mo_comeGate_ok (i := 29) rfl
theorem d_Mo_comeGate_52 : decode c_Mo_comeGate 52 = .ok (.iload_n 2, 1) := dc_of (x := (52, .iload_n 2, 1)) t0_Mo_comeGate_ok (i := 30) rfl
theorem d_Mo_comeGate_53 : decode c_Mo_comeGate 53 = .ok (.ifCond .eq 13, 3) := dc_of (x := (53, .ifCond .eq 13, 3)) t0_Mo_comeGate_ok (i := 31) rfl
theorem d_Mo_comeGate_56 : decode c_Mo_comeGate 56 = .ok (.aload_n 0, 1) := dc_of (x := (56, .aload_n 0, 1)) t0_Mo_comeGate_ok (i := 32) rfl
theorem d_Mo_comeGate_57 : decode c_Mo_comeGate 57 = .ok (.iload_n 1, 1) := dc_of (x := (57, .iload_n 1, 1)) t0_Mo_comeGate_ok (i := 33) rfl
theorem d_Mo_comeGate_58 : decode c_Mo_comeGate 58 = .ok (.bipush 9, 2) := dc_of (x := (58, .bipush 9, 2)) t0_Mo_comeGate_ok (i := 34) rfl
theorem d_Mo_comeGate_60 : decode c_Mo_comeGate 60 = .ok (.invokevirtual 36, 3) := dc_of (x := (60, .invokevirtual 36, 3)) t0_Mo_comeGate_ok (i := 35) rfl
theorem d_Mo_comeGate_63 : decode c_Mo_comeGate 63 = .ok (.goto 4, 3) := dc_of (x := (63, .goto 4, 3)) t0_Mo_comeGate_ok (i := 36) rfl
theorem d_Mo_comeGate_66 : decode c_Mo_comeGate 66 = .ok (.iconst (-1), 1) := dc_of (x := (66, .iconst (-1), 1)) t0_Mo_comeGate_ok (i := 37) rfl
theorem d_Mo_comeGate_67 : decode c_Mo_comeGate 67 = .ok (.invokevirtual 46, 3) := dc_of (x := (67, .invokevirtual 46, 3)) t0_Mo_comeGate_ok (i := 38) rfl
theorem d_Mo_comeGate_70 : decode c_Mo_comeGate 70 = .ok (.aload_n 0, 1) := dc_of (x := (70, .aload_n 0, 1)) t0_Mo_comeGate_ok (i := 39) rfl
theorem d_Mo_comeGate_71 : decode c_Mo_comeGate 71 = .ok (.iload_n 1, 1) := dc_of (x := (71, .iload_n 1, 1)) t0_Mo_comeGate_ok (i := 40) rfl
theorem d_Mo_comeGate_72 : decode c_Mo_comeGate 72 = .ok (.bipush 8, 2) := dc_of (x := (72, .bipush 8, 2)) t0_Mo_comeGate_ok (i := 41) rfl
theorem d_Mo_comeGate_74 : decode c_Mo_comeGate 74 = .ok (.aload_n 0, 1) := dc_of (x := (74, .aload_n 0, 1)) t0_Mo_comeGate_ok (i := 42) rfl
theorem d_Mo_comeGate_75 : decode c_Mo_comeGate 75 = .ok (.iload_n 1, 1) := dc_of (x := (75, .iload_n 1, 1)) t0_Mo_comeGate_ok (i := 43) rfl
theorem d_Mo_comeGate_76 : decode c_Mo_comeGate 76 = .ok (.bipush 10, 2) := dc_of (x := (76, .bipush 10, 2)) t0_Mo_comeGate_ok (i := 44) rfl
theorem d_Mo_comeGate_78 : decode c_Mo_comeGate 78 = .ok (.invokevirtual 36, 3) := dc_of (x := (78, .invokevirtual 36, 3)) t0_Mo_comeGate_ok (i := 45) rfl
theorem d_Mo_comeGate_81 : decode c_Mo_comeGate 81 = .ok (.invokevirtual 46, 3) := dc_of (x := (81, .invokevirtual 46, 3)) t0_Mo_comeGate_ok (i := 46) rfl
theorem d_Mo_comeGate_84 : decode c_Mo_comeGate 84 = .ok (.aload_n 0, 1) := dc_of (x := (84, .aload_n 0, 1)) t0_Mo_comeGate_ok (i := 47) rfl
theorem d_Mo_comeGate_85 : decode c_Mo_comeGate 85 = .ok (.iload_n 1, 1) := dc_of (x := (85, .iload_n 1, 1)) t0_Mo_comeGate_ok (i := 48) rfl
theorem d_Mo_comeGate_86 : decode c_Mo_comeGate 86 = .ok (.bipush 9, 2) := dc_of (x := (86, .bipush 9, 2)) t0_Mo_comeGate_ok (i := 49) rfl
theorem d_Mo_comeGate_88 : decode c_Mo_comeGate 88 = .ok (.iconst (-1), 1) := dc_of (x := (88, .iconst (-1), 1)) t0_Mo_comeGate_ok (i := 50) rfl
theorem d_Mo_comeGate_89 : decode c_Mo_comeGate 89 = .ok (.invokevirtual 46, 3) := dc_of (x := (89, .invokevirtual 46, 3)) t0_Mo_comeGate_ok (i := 51) rfl
theorem d_Mo_comeGate_92 : decode c_Mo_comeGate 92 = .ok (.aload_n 0, 1) := dc_of (x := (92, .aload_n 0, 1)) t0_Mo_comeGate_ok (i := 52) rfl
theorem d_Mo_comeGate_93 : decode c_Mo_comeGate 93 = .ok (.aload_n 0, 1) := dc_of (x := (93, .aload_n 0, 1)) t0_Mo_comeGate_ok (i := 53) rfl
theorem d_Mo_comeGate_94 : decode c_Mo_comeGate 94 = .ok (.iload_n 1, 1) := dc_of (x := (94, .iload_n 1, 1)) t0_Mo_comeGate_ok (i := 54) rfl
theorem d_Mo_comeGate_95 : decode c_Mo_comeGate 95 = .ok (.iconst 3, 1) := dc_of (x := (95, .iconst 3, 1)) t0_Mo_comeGate_ok (i := 55) rfl
theorem d_Mo_comeGate_96 : decode c_Mo_comeGate 96 = .ok (.invokevirtual 36, 3) := dc_of (x := (96, .invokevirtual 36, 3)) t0_Mo_comeGate_ok (i := 56) rfl
theorem d_Mo_comeGate_99 : decode c_Mo_comeGate 99 = .ok (.invokevirtual 74, 3) := dc_of (x := (99, .invokevirtual 74, 3)) t0_Mo_comeGate_ok (i := 57) rfl
theorem d_Mo_comeGate_102 : decode c_Mo_comeGate 102 = .ok (.return_, 1) := dc_of (x := (102, .return_, 1)) t0_Mo_comeGate_ok (i := 58) rfl
def t0_Mo_run : List (Nat × Instr × Nat) := [(0, .aload_n 0, 1), (1, .lload_n 1, 1), (2, .aload_n 0, 1), (3, .getfield 7, 3), (6, .iconst 0, 1), (7, .iaload, 1), (8, .i2l, 1), (9, .lcmp, 1), (10, .ifCond .lt 11, 3), (13, .lload_n 1, 1), (14, .ldc2_w 81, 3), (17, .lcmp, 1), (18, .ifCond .le 7, 3), (21, .iconst 1, 1), (22, .goto 4, 3), (25, .iconst 0, 1), (26, .putfield 28, 3), (29, .aload_n 0, 1), (30, .getfield 28, 3), (33, .ifCond .le 5, 3), (36, .lconst 0, 1), (37, .lreturn, 1), (38, .iconst 0, 1), (39, .istore_n 3, 1), (40, .iconst 0, 1), (41, .istore 4, 2), (43, .iconst (-1), 1), (44, .istore 5, 2), (46, .iload_n 3, 1), (47, .sipush 150, 3), (50, .if_icmp .ge 217, 3), (53, .aload_n 0, 1), (54, .invokevirtual 91, 3), (57, .istore 6, 2), (59, .aload_n 0, 1), (60, .invokevirtual 95, 3), (63, .istore 7, 2), (65, .iload 6, 2), (67, .ifCond .ge 8, 3), (70, .ldc 98, 2), (72, .goto 16, 3), (75, .aload_n 0, 1), (76, .getfield 7, 3), (79, .sipush 700, 3), (82, .iconst 5, 1), (83, .iload 6, 2), (85, .imul, 1), (86, .iadd, 1), (87, .iaload, 1), (88, .istore 8, 2), (90, .iload 7, 2), (92, .ifCond .ge 8, 3), (95, .ldc 98, 2), (97, .goto 11, 3), (100, .aload_n 0, 1), (101, .iload 7, 2), (103, .bipush 8, 2), (105, .invokevirtual 36, 3), (108, .istore 9, 2), (110, .iload 8, 2)]
theorem t0_Mo_run_ok : t0_Mo_run.all (fun x => decide (decode c_Mo_run x.1 = .ok x.2)) = true := by decide +kernel
def t1_Mo_run : List (Nat × Instr × Nat) := [(112, .iload 9, 2), (114, .if_icmp .ge 8, 3), (117, .iload 8, 2), (119, .goto 5, 3), (122, .iload 9, 2), (124, .istore 10, 2), (126, .iload 10, 2), (128, .i2l, 1), (129, .lload_n 1, 1), (130, .lcmp, 1), (131, .ifCond .le 14, 3), (134, .aload_n 0, 1), (135, .getfield 7, 3), (138, .iconst 0, 1), (139, .lload_n 1, 1), (140, .l2i, 1), (141, .iastore, 1), (142, .iload_n 3, 1), (143, .i2l, 1), (144, .lreturn, 1), (145, .iload 8, 2), (147, .iload 9, 2), (149, .if_icmp .lt 35, 3), (152, .iload 8, 2), (154, .iload 9, 2), (156, .if_icmp .ne 32, 3), (159, .aload_n 0, 1), (160, .getfield 7, 3), (163, .sipush 700, 3), (166, .iconst 5, 1), (167, .iload 6, 2), (169, .imul, 1), (170, .iadd, 1), (171, .iconst 1, 1), (172, .iadd, 1), (173, .iaload, 1), (174, .aload_n 0, 1), (175, .iload 7, 2), (177, .iconst 3, 1), (178, .invokevirtual 36, 3), (181, .if_icmp .gt 7, 3), (184, .iconst 1, 1), (185, .goto 4, 3), (188, .iconst 0, 1), (189, .istore 11, 2), (191, .iload 10, 2), (193, .iload 5, 2), (195, .if_icmp .ne 8, 3), (198, .iload 4, 2), (200, .goto 4, 3), (203, .iconst 0, 1), (204, .istore 4, 2), (206, .iload 10, 2), (208, .istore 5, 2), (210, .aload_n 0, 1), (211, .getfield 7, 3), (214, .iconst 0, 1), (215, .iload 10, 2), (217, .iastore, 1), (218, .iload 11, 2)]
theorem t1_Mo_run_ok : t1_Mo_run.all (fun x => decide (decode c_Mo_run x.1 = .ok x.2)) = true := by decide +kernel
def t2_Mo_run : List (Nat × Instr × Nat) := [(220, .ifCond .eq 12, 3), (223, .aload_n 0, 1), (224, .iload 6, 2), (226, .invokevirtual 99, 3), (229, .goto 32, 3), (232, .iload 4, 2), (234, .bipush 60, 2), (236, .if_icmp .ne 16, 3), (239, .ldc2_w 102, 3), (242, .aload_n 0, 1), (243, .iload 7, 2), (245, .iconst 3, 1), (246, .invokevirtual 36, 3), (249, .i2l, 1), (250, .lsub, 1), (251, .lreturn, 1), (252, .iinc 4 1, 3), (255, .aload_n 0, 1), (256, .iload 7, 2), (258, .invokevirtual 104, 3), (261, .iinc 3 1, 3), (264, .goto (-218), 3), (267, .iload_n 3, 1), (268, .i2l, 1), (269, .lreturn, 1)]
theorem t2_Mo_run_ok : t2_Mo_run.all (fun x => decide (decode c_Mo_run x.1 = .ok x.2)) = true := by decide +kernel
theorem d_Mo_run_0 : decode c_Mo_run 0 = .ok (.aload_n 0, 1) := dc_of (x := (0, .aload_n 0, 1)) t0_Mo_run_ok (i := 0) rfl
theorem d_Mo_run_1 : decode c_Mo_run 1 = .ok (.lload_n 1, 1) := dc_of (x := (1, .lload_n 1, 1)) t0_Mo_run_ok (i := 1) rfl
theorem d_Mo_run_2 : decode c_Mo_run 2 = .ok (.aload_n 0, 1) := dc_of (x := (2, .aload_n 0, 1)) t0_Mo_run_ok (i := 2) rfl
theorem d_Mo_run_3 : decode c_Mo_run 3 = .ok (.getfield 7, 3) := dc_of (x := (3, .getfield 7, 3)) t0_Mo_run_ok (i := 3) rfl
theorem d_Mo_run_6 : decode c_Mo_run 6 = .ok (.iconst 0, 1) := dc_of (x := (6, .iconst 0, 1)) t0_Mo_run_ok (i := 4) rfl
theorem d_Mo_run_7 : decode c_Mo_run 7 = .ok (.iaload, 1) := dc_of (x := (7, .iaload, 1)) t0_Mo_run_ok (i := 5) rfl
theorem d_Mo_run_8 : decode c_Mo_run 8 = .ok (.i2l, 1) := dc_of (x := (8, .i2l, 1)) t0_Mo_run_ok (i := 6) rfl
theorem d_Mo_run_9 : decode c_Mo_run 9 = .ok (.lcmp, 1) := dc_of (x := (9, .lcmp, 1)) t0_Mo_run_ok (i := 7) rfl
theorem d_Mo_run_10 : decode c_Mo_run 10 = .ok (.ifCond .lt 11, 3) := dc_of (x := (10, .ifCond .lt 11, 3)) t0_Mo_run_ok (i := 8) rfl
theorem d_Mo_run_13 : decode c_Mo_run 13 = .ok (.lload_n 1, 1) := dc_of (x := (13, .lload_n 1, 1)) t0_Mo_run_ok (i := 9) rfl
theorem d_Mo_run_14 : decode c_Mo_run 14 = .ok (.ldc2_w 81, 3) := dc_of (x := (14, .ldc2_w 81, 3)) t0_Mo_run_ok (i := 10) rfl
theorem d_Mo_run_17 : decode c_Mo_run 17 = .ok (.lcmp, 1) := dc_of (x := (17, .lcmp, 1)) t0_Mo_run_ok (i := 11) rfl
theorem d_Mo_run_18 : decode c_Mo_run 18 = .ok (.ifCond .le 7, 3) := dc_of (x := (18, .ifCond .le 7, 3)) t0_Mo_run_ok (i := 12) rfl
theorem d_Mo_run_21 : decode c_Mo_run 21 = .ok (.iconst 1, 1) := dc_of (x := (21, .iconst 1, 1)) t0_Mo_run_ok (i := 13) rfl
theorem d_Mo_run_22 : decode c_Mo_run 22 = .ok (.goto 4, 3) := dc_of (x := (22, .goto 4, 3)) t0_Mo_run_ok (i := 14) rfl
theorem d_Mo_run_25 : decode c_Mo_run 25 = .ok (.iconst 0, 1) := dc_of (x := (25, .iconst 0, 1)) t0_Mo_run_ok (i := 15) rfl
theorem d_Mo_run_26 : decode c_Mo_run 26 = .ok (.putfield 28, 3) := dc_of (x := (26, .putfield 28, 3)) t0_Mo_run_ok (i := 16) rfl
theorem d_Mo_run_29 : decode c_Mo_run 29 = .ok (.aload_n 0, 1) := dc_of (x := (29, .aload_n 0, 1)) t0_Mo_run_ok (i := 17) rfl
theorem d_Mo_run_30 : decode c_Mo_run 30 = .ok (.getfield 28, 3) := dc_of (x := (30, .getfield 28, 3)) t0_Mo_run_ok (i := 18) rfl
theorem d_Mo_run_33 : decode c_Mo_run 33 = .ok (.ifCond .le 5, 3) := dc_of (x := (33, .ifCond .le 5, 3)) t0_Mo_run_ok (i := 19) rfl
theorem d_Mo_run_36 : decode c_Mo_run 36 = .ok (.lconst 0, 1) := dc_of (x := (36, .lconst 0, 1)) t0_Mo_run_ok (i := 20) rfl
theorem d_Mo_run_37 : decode c_Mo_run 37 = .ok (.lreturn, 1) := dc_of (x := (37, .lreturn, 1)) t0_Mo_run_ok (i := 21) rfl
theorem d_Mo_run_38 : decode c_Mo_run 38 = .ok (.iconst 0, 1) := dc_of (x := (38, .iconst 0, 1)) t0_Mo_run_ok (i := 22) rfl
theorem d_Mo_run_39 : decode c_Mo_run 39 = .ok (.istore_n 3, 1) := dc_of (x := (39, .istore_n 3, 1)) t0_Mo_run_ok (i := 23) rfl
theorem d_Mo_run_40 : decode c_Mo_run 40 = .ok (.iconst 0, 1) := dc_of (x := (40, .iconst 0, 1)) t0_Mo_run_ok (i := 24) rfl
theorem d_Mo_run_41 : decode c_Mo_run 41 = .ok (.istore 4, 2) := dc_of (x := (41, .istore 4, 2)) t0_Mo_run_ok (i := 25) rfl
theorem d_Mo_run_43 : decode c_Mo_run 43 = .ok (.iconst (-1), 1) := dc_of (x := (43, .iconst (-1), 1)) t0_Mo_run_ok (i := 26) rfl
theorem d_Mo_run_44 : decode c_Mo_run 44 = .ok (.istore 5, 2) := dc_of (x := (44, .istore 5, 2)) t0_Mo_run_ok (i := 27) rfl
theorem d_Mo_run_46 : decode c_Mo_run 46 = .ok (.iload_n 3, 1) := dc_of (x := (46, .iload_n 3, 1)) t0_Mo_run_ok (i := 28) rfl
theorem d_Mo_run_47 : decode c_Mo_run 47 = .ok (.sipush 150, 3) := dc_of (x := (47, .sipush 150, 3)) t0_Mo_run_ok (i := 29) rfl
theorem d_Mo_run_50 : decode c_Mo_run 50 = .ok (.if_icmp .ge 217, 3) := dc_of (x := (50, .if_icmp .ge 217, 3)) t0_Mo_run_ok (i := 30) rfl
theorem d_Mo_run_53 : decode c_Mo_run 53 = .ok (.aload_n 0, 1) := dc_of (x := (53, .aload_n 0, 1)) t0_Mo_run_ok (i := 31) rfl
theorem d_Mo_run_54 : decode c_Mo_run 54 = .ok (.invokevirtual 91, 3) := dc_of (x := (54, .invokevirtual 91, 3)) t0_Mo_run_ok (i := 32) rfl
theorem d_Mo_run_57 : decode c_Mo_run 57 = .ok (.istore 6, 2) := dc_of (x := (57, .istore 6, 2)) t0_Mo_run_ok (i := 33) rfl
theorem d_Mo_run_59 : decode c_Mo_run 59 = .ok (.aload_n 0, 1) := dc_of (x := (59, .aload_n 0, 1)) t0_Mo_run_ok (i := 34) rfl
theorem d_Mo_run_60 : decode c_Mo_run 60 = .ok (.invokevirtual 95, 3) := dc_of (x := (60, .invokevirtual 95, 3)) t0_Mo_run_ok (i := 35) rfl
theorem d_Mo_run_63 : decode c_Mo_run 63 = .ok (.istore 7, 2) := dc_of (x := (63, .istore 7, 2)) t0_Mo_run_ok (i := 36) rfl
theorem d_Mo_run_65 : decode c_Mo_run 65 = .ok (.iload 6, 2) := dc_of (x := (65, .iload 6, 2)) t0_Mo_run_ok (i := 37) rfl
theorem d_Mo_run_67 : decode c_Mo_run 67 = .ok (.ifCond .ge 8, 3) := dc_of (x := (67, .ifCond .ge 8, 3)) t0_Mo_run_ok (i := 38) rfl
theorem d_Mo_run_70 : decode c_Mo_run 70 = .ok (.ldc 98, 2) := dc_of (x := (70, .ldc 98, 2)) t0_Mo_run_ok (i := 39) rfl
theorem d_Mo_run_72 : decode c_Mo_run 72 = .ok (.goto 16, 3) := dc_of (x := (72, .goto 16, 3)) t0_Mo_run_ok (i := 40) rfl
theorem d_Mo_run_75 : decode c_Mo_run 75 = .ok (.aload_n 0, 1) := dc_of (x := (75, .aload_n 0, 1)) t0_Mo_run_ok (i := 41) rfl
theorem d_Mo_run_76 : decode c_Mo_run 76 = .ok (.getfield 7, 3) := dc_of (x := (76, .getfield 7, 3)) t0_Mo_run_ok (i := 42) rfl
theorem d_Mo_run_79 : decode c_Mo_run 79 = .ok (.sipush 700, 3) := dc_of (x := (79, .sipush 700, 3)) t0_Mo_run_ok (i := 43) rfl
theorem d_Mo_run_82 : decode c_Mo_run 82 = .ok (.iconst 5, 1) := dc_of (x := (82, .iconst 5, 1)) t0_Mo_run_ok (i := 44) rfl
theorem d_Mo_run_83 : decode c_Mo_run 83 = .ok (.iload 6, 2) := dc_of (x := (83, .iload 6, 2)) t0_Mo_run_ok (i := 45) rfl
theorem d_Mo_run_85 : decode c_Mo_run 85 = .ok (.imul, 1) := dc_of (x := (85, .imul, 1)) t0_Mo_run_ok (i := 46) rfl
theorem d_Mo_run_86 : decode c_Mo_run 86 = .ok (.iadd, 1) := dc_of (x := (86, .iadd, 1)) t0_Mo_run_ok (i := 47) rfl
theorem d_Mo_run_87 : decode c_Mo_run 87 = .ok (.iaload, 1) := dc_of (x := (87, .iaload, 1)) t0_Mo_run_ok (i := 48) rfl
theorem d_Mo_run_88 : decode c_Mo_run 88 = .ok (.istore 8, 2) := dc_of (x := (88, .istore 8, 2)) t0_Mo_run_ok (i := 49) rfl
theorem d_Mo_run_90 : decode c_Mo_run 90 = .ok (.iload 7, 2) := dc_of (x := (90, .iload 7, 2)) t0_Mo_run_ok (i := 50) rfl
theorem d_Mo_run_92 : decode c_Mo_run 92 = .ok (.ifCond .ge 8, 3) := dc_of (x := (92, .ifCond .ge 8, 3)) t0_Mo_run_ok (i := 51) rfl
theorem d_Mo_run_95 : decode c_Mo_run 95 = .ok (.ldc 98, 2) := dc_of (x := (95, .ldc 98, 2)) t0_Mo_run_ok (i := 52) rfl
theorem d_Mo_run_97 : decode c_Mo_run 97 = .ok (.goto 11, 3) := dc_of (x := (97, .goto 11, 3)) t0_Mo_run_ok (i := 53) rfl
theorem d_Mo_run_100 : decode c_Mo_run 100 = .ok (.aload_n 0, 1) := dc_of (x := (100, .aload_n 0, 1)) t0_Mo_run_ok (i := 54) rfl
theorem d_Mo_run_101 : decode c_Mo_run 101 = .ok (.iload 7, 2) := dc_of (x := (101, .iload 7, 2)) t0_Mo_run_ok (i := 55) rfl
theorem d_Mo_run_103 : decode c_Mo_run 103 = .ok (.bipush 8, 2) := dc_of (x := (103, .bipush 8, 2)) t0_Mo_run_ok (i := 56) rfl
theorem d_Mo_run_105 : decode c_Mo_run 105 = .ok (.invokevirtual 36, 3) := dc_of (x := (105, .invokevirtual 36, 3)) t0_Mo_run_ok (i := 57) rfl
theorem d_Mo_run_108 : decode c_Mo_run 108 = .ok (.istore 9, 2) := dc_of (x := (108, .istore 9, 2)) t0_Mo_run_ok (i := 58) rfl
theorem d_Mo_run_110 : decode c_Mo_run 110 = .ok (.iload 8, 2) := dc_of (x := (110, .iload 8, 2)) t0_Mo_run_ok (i := 59) rfl
theorem d_Mo_run_112 : decode c_Mo_run 112 = .ok (.iload 9, 2) := dc_of (x := (112, .iload 9, 2)) t1_Mo_run_ok (i := 0) rfl
theorem d_Mo_run_114 : decode c_Mo_run 114 = .ok (.if_icmp .ge 8, 3) := dc_of (x := (114, .if_icmp .ge 8, 3)) t1_Mo_run_ok (i := 1) rfl
theorem d_Mo_run_117 : decode c_Mo_run 117 = .ok (.iload 8, 2) := dc_of (x := (117, .iload 8, 2)) t1_Mo_run_ok (i := 2) rfl
theorem d_Mo_run_119 : decode c_Mo_run 119 = .ok (.goto 5, 3) := dc_of (x := (119, .goto 5, 3)) t1_Mo_run_ok (i := 3) rfl
theorem d_Mo_run_122 : decode c_Mo_run 122 = .ok (.iload 9, 2) := dc_of (x := (122, .iload 9, 2)) t1_Mo_run_ok (i := 4) rfl
theorem d_Mo_run_124 : decode c_Mo_run 124 = .ok (.istore 10, 2) := dc_of (x := (124, .istore 10, 2)) t1_Mo_run_ok (i := 5) rfl
theorem d_Mo_run_126 : decode c_Mo_run 126 = .ok (.iload 10, 2) := dc_of (x := (126, .iload 10, 2)) t1_Mo_run_ok (i := 6) rfl
theorem d_Mo_run_128 : decode c_Mo_run 128 = .ok (.i2l, 1) := dc_of (x := (128, .i2l, 1)) t1_Mo_run_ok (i := 7) rfl
theorem d_Mo_run_129 : decode c_Mo_run 129 = .ok (.lload_n 1, 1) := dc_of (x := (129, .lload_n 1, 1)) t1_Mo_run_ok (i := 8) rfl
theorem d_Mo_run_130 : decode c_Mo_run 130 = .ok (.lcmp, 1) := dc_of (x := (130, .lcmp, 1)) t1_Mo_run_ok (i := 9) rfl
theorem d_Mo_run_131 : decode c_Mo_run 131 = .ok (.ifCond .le 14, 3) := dc_of (x := (131, .ifCond .le 14, 3)) t1_Mo_run_ok (i := 10) rfl
theorem d_Mo_run_134 : decode c_Mo_run 134 = .ok (.aload_n 0, 1) := dc_of (x := (134, .aload_n 0, 1)) t1_Mo_run_ok (i := 11) rfl
theorem d_Mo_run_135 : decode c_Mo_run 135 = .ok (.getfield 7, 3) := dc_of (x := (135, .getfield 7, 3)) t1_Mo_run_ok (i := 12) rfl
theorem d_Mo_run_138 : decode c_Mo_run 138 = .ok (.iconst 0, 1) := dc_of (x := (138, .iconst 0, 1)) t1_Mo_run_ok (i := 13) rfl
theorem d_Mo_run_139 : decode c_Mo_run 139 = .ok (.lload_n 1, 1) := dc_of (x := (139, .lload_n 1, 1)) t1_Mo_run_ok (i := 14) rfl
theorem d_Mo_run_140 : decode c_Mo_run 140 = .ok (.l2i, 1) := dc_of (x := (140, .l2i, 1)) t1_Mo_run_ok (i := 15) rfl
theorem d_Mo_run_141 : decode c_Mo_run 141 = .ok (.iastore, 1) := dc_of (x := (141, .iastore, 1)) t1_Mo_run_ok (i := 16) rfl
theorem d_Mo_run_142 : decode c_Mo_run 142 = .ok (.iload_n 3, 1) := dc_of (x := (142, .iload_n 3, 1)) t1_Mo_run_ok (i := 17) rfl
theorem d_Mo_run_143 : decode c_Mo_run 143 = .ok (.i2l, 1) := dc_of (x := (143, .i2l, 1)) t1_Mo_run_ok (i := 18) rfl
theorem d_Mo_run_144 : decode c_Mo_run 144 = .ok (.lreturn, 1) := dc_of (x := (144, .lreturn, 1)) t1_Mo_run_ok (i := 19) rfl
theorem d_Mo_run_145 : decode c_Mo_run 145 = .ok (.iload 8, 2) := dc_of (x := (145, .iload 8, 2)) t1_Mo_run_ok (i := 20) rfl
theorem d_Mo_run_147 : decode c_Mo_run 147 = .ok (.iload 9, 2) := dc_of (x := (147, .iload 9, 2)) t1_Mo_run_ok (i := 21) rfl
theorem d_Mo_run_149 : decode c_Mo_run 149 = .ok (.if_icmp .lt 35, 3) := dc_of (x := (149, .if_icmp .lt 35, 3)) t1_Mo_run_ok (i := 22) rfl
theorem d_Mo_run_152 : decode c_Mo_run 152 = .ok (.iload 8, 2) := dc_of (x := (152, .iload 8, 2)) t1_Mo_run_ok (i := 23) rfl
theorem d_Mo_run_154 : decode c_Mo_run 154 = .ok (.iload 9, 2) := dc_of (x := (154, .iload 9, 2)) t1_Mo_run_ok (i := 24) rfl
theorem d_Mo_run_156 : decode c_Mo_run 156 = .ok (.if_icmp .ne 32, 3) := dc_of (x := (156, .if_icmp .ne 32, 3)) t1_Mo_run_ok (i := 25) rfl
theorem d_Mo_run_159 : decode c_Mo_run 159 = .ok (.aload_n 0, 1) := dc_of (x := (159, .aload_n 0, 1)) t1_Mo_run_ok (i := 26) rfl
theorem d_Mo_run_160 : decode c_Mo_run 160 = .ok (.getfield 7, 3) := dc_of (x := (160, .getfield 7, 3)) t1_Mo_run_ok (i := 27) rfl
theorem d_Mo_run_163 : decode c_Mo_run 163 = .ok (.sipush 700, 3) := dc_of (x := (163, .sipush 700, 3)) t1_Mo_run_ok (i := 28) rfl
theorem d_Mo_run_166 : decode c_Mo_run 166 = .ok (.iconst 5, 1) := dc_of (x := (166, .iconst 5, 1)) t1_Mo_run_ok (i := 29) rfl
theorem d_Mo_run_167 : decode c_Mo_run 167 = .ok (.iload 6, 2) := dc_of (x := (167, .iload 6, 2)) t1_Mo_run_ok (i := 30) rfl
theorem d_Mo_run_169 : decode c_Mo_run 169 = .ok (.imul, 1) := dc_of (x := (169, .imul, 1)) t1_Mo_run_ok (i := 31) rfl
theorem d_Mo_run_170 : decode c_Mo_run 170 = .ok (.iadd, 1) := dc_of (x := (170, .iadd, 1)) t1_Mo_run_ok (i := 32) rfl
theorem d_Mo_run_171 : decode c_Mo_run 171 = .ok (.iconst 1, 1) := dc_of (x := (171, .iconst 1, 1)) t1_Mo_run_ok (i := 33) rfl
theorem d_Mo_run_172 : decode c_Mo_run 172 = .ok (.iadd, 1) := dc_of (x := (172, .iadd, 1)) t1_Mo_run_ok (i := 34) rfl
theorem d_Mo_run_173 : decode c_Mo_run 173 = .ok (.iaload, 1) := dc_of (x := (173, .iaload, 1)) t1_Mo_run_ok (i := 35) rfl
theorem d_Mo_run_174 : decode c_Mo_run 174 = .ok (.aload_n 0, 1) := dc_of (x := (174, .aload_n 0, 1)) t1_Mo_run_ok (i := 36) rfl
theorem d_Mo_run_175 : decode c_Mo_run 175 = .ok (.iload 7, 2) := dc_of (x := (175, .iload 7, 2)) t1_Mo_run_ok (i := 37) rfl
theorem d_Mo_run_177 : decode c_Mo_run 177 = .ok (.iconst 3, 1) := dc_of (x := (177, .iconst 3, 1)) t1_Mo_run_ok (i := 38) rfl
theorem d_Mo_run_178 : decode c_Mo_run 178 = .ok (.invokevirtual 36, 3) := dc_of (x := (178, .invokevirtual 36, 3)) t1_Mo_run_ok (i := 39) rfl
theorem d_Mo_run_181 : decode c_Mo_run 181 = .ok (.if_icmp .gt 7, 3) := dc_of (x := (181, .if_icmp .gt 7, 3)) t1_Mo_run_ok (i := 40) rfl
theorem d_Mo_run_184 : decode c_Mo_run 184 = .ok (.iconst 1, 1) := dc_of (x := (184, .iconst 1, 1)) t1_Mo_run_ok (i := 41) rfl
theorem d_Mo_run_185 : decode c_Mo_run 185 = .ok (.goto 4, 3) := dc_of (x := (185, .goto 4, 3)) t1_Mo_run_ok (i := 42) rfl
theorem d_Mo_run_188 : decode c_Mo_run 188 = .ok (.iconst 0, 1) := dc_of (x := (188, .iconst 0, 1)) t1_Mo_run_ok (i := 43) rfl
theorem d_Mo_run_189 : decode c_Mo_run 189 = .ok (.istore 11, 2) := dc_of (x := (189, .istore 11, 2)) t1_Mo_run_ok (i := 44) rfl
theorem d_Mo_run_191 : decode c_Mo_run 191 = .ok (.iload 10, 2) := dc_of (x := (191, .iload 10, 2)) t1_Mo_run_ok (i := 45) rfl
theorem d_Mo_run_193 : decode c_Mo_run 193 = .ok (.iload 5, 2) := dc_of (x := (193, .iload 5, 2)) t1_Mo_run_ok (i := 46) rfl
theorem d_Mo_run_195 : decode c_Mo_run 195 = .ok (.if_icmp .ne 8, 3) := dc_of (x := (195, .if_icmp .ne 8, 3)) t1_Mo_run_ok (i := 47) rfl
theorem d_Mo_run_198 : decode c_Mo_run 198 = .ok (.iload 4, 2) := dc_of (x := (198, .iload 4, 2)) t1_Mo_run_ok (i := 48) rfl
theorem d_Mo_run_200 : decode c_Mo_run 200 = .ok (.goto 4, 3) := dc_of (x := (200, .goto 4, 3)) t1_Mo_run_ok (i := 49) rfl
theorem d_Mo_run_203 : decode c_Mo_run 203 = .ok (.iconst 0, 1) := dc_of (x := (203, .iconst 0, 1)) t1_Mo_run_ok (i := 50) rfl
theorem d_Mo_run_204 : decode c_Mo_run 204 = .ok (.istore 4, 2) := dc_of (x := (204, .istore 4, 2)) t1_Mo_run_ok (i := 51) rfl
theorem d_Mo_run_206 : decode c_Mo_run 206 = .ok (.iload 10, 2) := dc_of (x := (206, .iload 10, 2)) t1_Mo_run_ok (i := 52) rfl
theorem d_Mo_run_208 : decode c_Mo_run 208 = .ok (.istore 5, 2) := dc_of (x := (208, .istore 5, 2)) t1_Mo_run_ok (i := 53) rfl
theorem d_Mo_run_210 : decode c_Mo_run 210 = .ok (.aload_n 0, 1) := dc_of (x := (210, .aload_n 0, 1)) t1_Mo_run_ok (i := 54) rfl
theorem d_Mo_run_211 : decode c_Mo_run 211 = .ok (.getfield 7, 3) := dc_of (x := (211, .getfield 7, 3)) t1_Mo_run_ok (i := 55) rfl
theorem d_Mo_run_214 : decode c_Mo_run 214 = .ok (.iconst 0, 1) := dc_of (x := (214, .iconst 0, 1)) t1_Mo_run_ok (i := 56) rfl
theorem d_Mo_run_215 : decode c_Mo_run 215 = .ok (.iload 10, 2) := dc_of (x := (215, .iload 10, 2)) t1_Mo_run_ok (i := 57) rfl
theorem d_Mo_run_217 : decode c_Mo_run 217 = .ok (.iastore, 1) := dc_of (x := (217, .iastore, 1)) t1_Mo_run_ok (i := 58) rfl
theorem d_Mo_run_218 : decode c_Mo_run 218 = .ok (.iload 11, 2) := dc_of (x := (218, .iload 11, 2)) t1_Mo_run_ok (i := 59) rfl
theorem d_Mo_run_220 : decode c_Mo_run 220 = .ok (.ifCond .eq 12, 3) := dc_of (x := (220, .ifCond .eq 12, 3)) t2_Mo_run_ok (i := 0) rfl
theorem d_Mo_run_223 : decode c_Mo_run 223 = .ok (.aload_n 0, 1) := dc_of (x := (223, .aload_n 0, 1)) t2_Mo_run_ok (i := 1) rfl
theorem d_Mo_run_224 : decode c_Mo_run 224 = .ok (.iload 6, 2) := dc_of (x := (224, .iload 6, 2)) t2_Mo_run_ok (i := 2) rfl
theorem d_Mo_run_226 : decode c_Mo_run 226 = .ok (.invokevirtual 99, 3) := dc_of (x := (226, .invokevirtual 99, 3)) t2_Mo_run_ok (i := 3) rfl
theorem d_Mo_run_229 : decode c_Mo_run 229 = .ok (.goto 32, 3) := dc_of (x := (229, .goto 32, 3)) t2_Mo_run_ok (i := 4) rfl
theorem d_Mo_run_232 : decode c_Mo_run 232 = .ok (.iload 4, 2) := dc_of (x := (232, .iload 4, 2)) t2_Mo_run_ok (i := 5) rfl
theorem d_Mo_run_234 : decode c_Mo_run 234 = .ok (.bipush 60, 2) := dc_of (x := (234, .bipush 60, 2)) t2_Mo_run_ok (i := 6) rfl
theorem d_Mo_run_236 : decode c_Mo_run 236 = .ok (.if_icmp .ne 16, 3) := dc_of (x := (236, .if_icmp .ne 16, 3)) t2_Mo_run_ok (i := 7) rfl
theorem d_Mo_run_239 : decode c_Mo_run 239 = .ok (.ldc2_w 102, 3) := dc_of (x := (239, .ldc2_w 102, 3)) t2_Mo_run_ok (i := 8) rfl
theorem d_Mo_run_242 : decode c_Mo_run 242 = .ok (.aload_n 0, 1) := dc_of (x := (242, .aload_n 0, 1)) t2_Mo_run_ok (i := 9) rfl
theorem d_Mo_run_243 : decode c_Mo_run 243 = .ok (.iload 7, 2) := dc_of (x := (243, .iload 7, 2)) t2_Mo_run_ok (i := 10) rfl
theorem d_Mo_run_245 : decode c_Mo_run 245 = .ok (.iconst 3, 1) := dc_of (x := (245, .iconst 3, 1)) t2_Mo_run_ok (i := 11) rfl
theorem d_Mo_run_246 : decode c_Mo_run 246 = .ok (.invokevirtual 36, 3) := dc_of (x := (246, .invokevirtual 36, 3)) t2_Mo_run_ok (i := 12) rfl
theorem d_Mo_run_249 : decode c_Mo_run 249 = .ok (.i2l, 1) := dc_of (x := (249, .i2l, 1)) t2_Mo_run_ok (i := 13) rfl
theorem d_Mo_run_250 : decode c_Mo_run 250 = .ok (.lsub, 1) := dc_of (x := (250, .lsub, 1)) t2_Mo_run_ok (i := 14) rfl
theorem d_Mo_run_251 : decode c_Mo_run 251 = .ok (.lreturn, 1) := dc_of (x := (251, .lreturn, 1)) t2_Mo_run_ok (i := 15) rfl
theorem d_Mo_run_252 : decode c_Mo_run 252 = .ok (.iinc 4 1, 3) := dc_of (x := (252, .iinc 4 1, 3)) t2_Mo_run_ok (i := 16) rfl
theorem d_Mo_run_255 : decode c_Mo_run 255 = .ok (.aload_n 0, 1) := dc_of (x := (255, .aload_n 0, 1)) t2_Mo_run_ok (i := 17) rfl
theorem d_Mo_run_256 : decode c_Mo_run 256 = .ok (.iload 7, 2) := dc_of (x := (256, .iload 7, 2)) t2_Mo_run_ok (i := 18) rfl
theorem d_Mo_run_258 : decode c_Mo_run 258 = .ok (.invokevirtual 104, 3) := dc_of (x := (258, .invokevirtual 104, 3)) t2_Mo_run_ok (i := 19) rfl
theorem d_Mo_run_261 : decode c_Mo_run 261 = .ok (.iinc 3 1, 3) := dc_of (x := (261, .iinc 3 1, 3)) t2_Mo_run_ok (i := 20) rfl
theorem d_Mo_run_264 : decode c_Mo_run 264 = .ok (.goto (-218), 3) := dc_of (x := (264, .goto (-218), 3)) t2_Mo_run_ok (i := 21) rfl
theorem d_Mo_run_267 : decode c_Mo_run 267 = .ok (.iload_n 3, 1) := dc_of (x := (267, .iload_n 3, 1)) t2_Mo_run_ok (i := 22) rfl
theorem d_Mo_run_268 : decode c_Mo_run 268 = .ok (.i2l, 1) := dc_of (x := (268, .i2l, 1)) t2_Mo_run_ok (i := 23) rfl
theorem d_Mo_run_269 : decode c_Mo_run 269 = .ok (.lreturn, 1) := dc_of (x := (269, .lreturn, 1)) t2_Mo_run_ok (i := 24) rfl
def t0_Mo_now : List (Nat × Instr × Nat) := [(0, .aload_n 0, 1), (1, .iconst 0, 1), (2, .putfield 28, 3), (5, .aload_n 0, 1), (6, .getfield 7, 3), (9, .iconst 0, 1), (10, .iaload, 1), (11, .i2l, 1), (12, .lreturn, 1)]
theorem t0_Mo_now_ok : t0_Mo_now.all (fun x => decide (decode c_Mo_now x.1 = .ok x.2)) = true := by decide +kernel
theorem d_Mo_now_0 : decode c_Mo_now 0 = .ok (.aload_n 0, 1) := dc_of (x := (0, .aload_n 0, 1)) t0_Mo_now_ok (i := 0) rfl
theorem d_Mo_now_1 : decode c_Mo_now 1 = .ok (.iconst 0, 1) := dc_of (x := (1, .iconst 0, 1)) t0_Mo_now_ok (i := 1) rfl
theorem d_Mo_now_2 : decode c_Mo_now 2 = .ok (.putfield 28, 3) := dc_of (x := (2, .putfield 28, 3)) t0_Mo_now_ok (i := 2) rfl
theorem d_Mo_now_5 : decode c_Mo_now 5 = .ok (.aload_n 0, 1) := dc_of (x := (5, .aload_n 0, 1)) t0_Mo_now_ok (i := 3) rfl
theorem d_Mo_now_6 : decode c_Mo_now 6 = .ok (.getfield 7, 3) := dc_of (x := (6, .getfield 7, 3)) t0_Mo_now_ok (i := 4) rfl
theorem d_Mo_now_9 : decode c_Mo_now 9 = .ok (.iconst 0, 1) := dc_of (x := (9, .iconst 0, 1)) t0_Mo_now_ok (i := 5) rfl
theorem d_Mo_now_10 : decode c_Mo_now 10 = .ok (.iaload, 1) := dc_of (x := (10, .iaload, 1)) t0_Mo_now_ok (i := 6) rfl
theorem d_Mo_now_11 : decode c_Mo_now 11 = .ok (.i2l, 1) := dc_of (x := (11, .i2l, 1)) t0_Mo_now_ok (i := 7) rfl
theorem d_Mo_now_12 : decode c_Mo_now 12 = .ok (.lreturn, 1) := dc_of (x := (12, .lreturn, 1)) t0_Mo_now_ok (i := 8) rfl
def t0_Mo_at : List (Nat × Instr × Nat) := [(0, .aload_n 0, 1), (1, .aload_n 0, 1), (2, .iload_n 1, 1), (3, .invokevirtual 70, 3), (6, .ifCond .ne 7, 3), (9, .iconst 1, 1), (10, .goto 26, 3), (13, .lload_n 2, 1), (14, .lconst 0, 1), (15, .lcmp, 1), (16, .ifCond .lt 15, 3), (19, .lload_n 2, 1), (20, .aload_n 0, 1), (21, .getfield 7, 3), (24, .iconst 0, 1), (25, .iaload, 1), (26, .i2l, 1), (27, .lcmp, 1), (28, .ifCond .le 7, 3), (31, .iconst 2, 1), (32, .goto 4, 3), (35, .iconst 0, 1), (36, .putfield 28, 3), (39, .iconst 2, 1), (40, .istore 4, 2), (42, .iconst 0, 1), (43, .istore 5, 2), (45, .aload_n 0, 1), (46, .getfield 28, 3), (49, .ifCond .ne 81, 3), (52, .iload 5, 2), (54, .aload_n 0, 1), (55, .getfield 7, 3), (58, .bipush 6, 2), (60, .iaload, 1), (61, .if_icmp .ge 69, 3), (64, .aload_n 0, 1), (65, .getfield 7, 3), (68, .sipush 1450, 3), (71, .iconst 3, 1), (72, .iload 5, 2), (74, .imul, 1), (75, .iadd, 1), (76, .iconst 1, 1), (77, .iadd, 1), (78, .iaload, 1), (79, .iload_n 1, 1), (80, .if_icmp .ne 40, 3), (83, .aload_n 0, 1), (84, .getfield 7, 3), (87, .sipush 1450, 3), (90, .iconst 3, 1), (91, .iload 5, 2), (93, .imul, 1), (94, .iadd, 1), (95, .iaload, 1), (96, .i2l, 1), (97, .lload_n 2, 1), (98, .lcmp, 1), (99, .ifCond .gt 21, 3)]
theorem t0_Mo_at_ok : t0_Mo_at.all (fun x => decide (decode c_Mo_at x.1 = .ok x.2)) = true := by decide +kernel
def t1_Mo_at : List (Nat × Instr × Nat) := [(102, .aload_n 0, 1), (103, .getfield 7, 3), (106, .sipush 1450, 3), (109, .iconst 3, 1), (110, .iload 5, 2), (112, .imul, 1), (113, .iadd, 1), (114, .iconst 2, 1), (115, .iadd, 1), (116, .iaload, 1), (117, .goto 5, 3), (120, .iload 4, 2), (122, .istore 4, 2), (124, .iinc 5 1, 3), (127, .goto (-82), 3), (130, .aload_n 0, 1), (131, .getfield 28, 3), (134, .ifCond .le 7, 3), (137, .iconst 0, 1), (138, .goto 5, 3), (141, .iload 4, 2), (143, .ireturn, 1)]
theorem t1_Mo_at_ok : t1_Mo_at.all (fun x => decide (decode c_Mo_at x.1 = .ok x.2)) = true := by decide +kernel
theorem d_Mo_at_0 : decode c_Mo_at 0 = .ok (.aload_n 0, 1) := dc_of (x := (0, .aload_n 0, 1)) t0_Mo_at_ok (i := 0) rfl
theorem d_Mo_at_1 : decode c_Mo_at 1 = .ok (.aload_n 0, 1) := dc_of (x := (1, .aload_n 0, 1)) t0_Mo_at_ok (i := 1) rfl
theorem d_Mo_at_2 : decode c_Mo_at 2 = .ok (.iload_n 1, 1) := dc_of (x := (2, .iload_n 1, 1)) t0_Mo_at_ok (i := 2) rfl
theorem d_Mo_at_3 : decode c_Mo_at 3 = .ok (.invokevirtual 70, 3) := dc_of (x := (3, .invokevirtual 70, 3)) t0_Mo_at_ok (i := 3) rfl
theorem d_Mo_at_6 : decode c_Mo_at 6 = .ok (.ifCond .ne 7, 3) := dc_of (x := (6, .ifCond .ne 7, 3)) t0_Mo_at_ok (i := 4) rfl
theorem d_Mo_at_9 : decode c_Mo_at 9 = .ok (.iconst 1, 1) := dc_of (x := (9, .iconst 1, 1)) t0_Mo_at_ok (i := 5) rfl
theorem d_Mo_at_10 : decode c_Mo_at 10 = .ok (.goto 26, 3) := dc_of (x := (10, .goto 26, 3)) t0_Mo_at_ok (i := 6) rfl
theorem d_Mo_at_13 : decode c_Mo_at 13 = .ok (.lload_n 2, 1) := dc_of (x := (13, .lload_n 2, 1)) t0_Mo_at_ok (i := 7) rfl
theorem d_Mo_at_14 : decode c_Mo_at 14 = .ok (.lconst 0, 1) := dc_of (x := (14, .lconst 0, 1)) t0_Mo_at_ok (i := 8) rfl
theorem d_Mo_at_15 : decode c_Mo_at 15 = .ok (.lcmp, 1) := dc_of (x := (15, .lcmp, 1)) t0_Mo_at_ok (i := 9) rfl
theorem d_Mo_at_16 : decode c_Mo_at 16 = .ok (.ifCond .lt 15, 3) := dc_of (x := (16, .ifCond .lt 15, 3)) t0_Mo_at_ok (i := 10) rfl
theorem d_Mo_at_19 : decode c_Mo_at 19 = .ok (.lload_n 2, 1) := dc_of (x := (19, .lload_n 2, 1)) t0_Mo_at_ok (i := 11) rfl
theorem d_Mo_at_20 : decode c_Mo_at 20 = .ok (.aload_n 0, 1) := dc_of (x := (20, .aload_n 0, 1)) t0_Mo_at_ok (i := 12) rfl
theorem d_Mo_at_21 : decode c_Mo_at 21 = .ok (.getfield 7, 3) := dc_of (x := (21, .getfield 7, 3)) t0_Mo_at_ok (i := 13) rfl
theorem d_Mo_at_24 : decode c_Mo_at 24 = .ok (.iconst 0, 1) := dc_of (x := (24, .iconst 0, 1)) t0_Mo_at_ok (i := 14) rfl
theorem d_Mo_at_25 : decode c_Mo_at 25 = .ok (.iaload, 1) := dc_of (x := (25, .iaload, 1)) t0_Mo_at_ok (i := 15) rfl
theorem d_Mo_at_26 : decode c_Mo_at 26 = .ok (.i2l, 1) := dc_of (x := (26, .i2l, 1)) t0_Mo_at_ok (i := 16) rfl
theorem d_Mo_at_27 : decode c_Mo_at 27 = .ok (.lcmp, 1) := dc_of (x := (27, .lcmp, 1)) t0_Mo_at_ok (i := 17) rfl
theorem d_Mo_at_28 : decode c_Mo_at 28 = .ok (.ifCond .le 7, 3) := dc_of (x := (28, .ifCond .le 7, 3)) t0_Mo_at_ok (i := 18) rfl
theorem d_Mo_at_31 : decode c_Mo_at 31 = .ok (.iconst 2, 1) := dc_of (x := (31, .iconst 2, 1)) t0_Mo_at_ok (i := 19) rfl
theorem d_Mo_at_32 : decode c_Mo_at 32 = .ok (.goto 4, 3) := dc_of (x := (32, .goto 4, 3)) t0_Mo_at_ok (i := 20) rfl
theorem d_Mo_at_35 : decode c_Mo_at 35 = .ok (.iconst 0, 1) := dc_of (x := (35, .iconst 0, 1)) t0_Mo_at_ok (i := 21) rfl
theorem d_Mo_at_36 : decode c_Mo_at 36 = .ok (.putfield 28, 3) := dc_of (x := (36, .putfield 28, 3)) t0_Mo_at_ok (i := 22) rfl
theorem d_Mo_at_39 : decode c_Mo_at 39 = .ok (.iconst 2, 1) := dc_of (x := (39, .iconst 2, 1)) t0_Mo_at_ok (i := 23) rfl
theorem d_Mo_at_40 : decode c_Mo_at 40 = .ok (.istore 4, 2) := dc_of (x := (40, .istore 4, 2)) t0_Mo_at_ok (i := 24) rfl
theorem d_Mo_at_42 : decode c_Mo_at 42 = .ok (.iconst 0, 1) := dc_of (x := (42, .iconst 0, 1)) t0_Mo_at_ok (i := 25) rfl
theorem d_Mo_at_43 : decode c_Mo_at 43 = .ok (.istore 5, 2) := dc_of (x := (43, .istore 5, 2)) t0_Mo_at_ok (i := 26) rfl
theorem d_Mo_at_45 : decode c_Mo_at 45 = .ok (.aload_n 0, 1) := dc_of (x := (45, .aload_n 0, 1)) t0_Mo_at_ok (i := 27) rfl
theorem d_Mo_at_46 : decode c_Mo_at 46 = .ok (.getfield 28, 3) := dc_of (x := (46, .getfield 28, 3)) t0_Mo_at_ok (i := 28) rfl
theorem d_Mo_at_49 : decode c_Mo_at 49 = .ok (.ifCond .ne 81, 3) := dc_of (x := (49, .ifCond .ne 81, 3)) t0_Mo_at_ok (i := 29) rfl
theorem d_Mo_at_52 : decode c_Mo_at 52 = .ok (.iload 5, 2) := dc_of (x := (52, .iload 5, 2)) t0_Mo_at_ok (i := 30) rfl
theorem d_Mo_at_54 : decode c_Mo_at 54 = .ok (.aload_n 0, 1) := dc_of (x := (54, .aload_n 0, 1)) t0_Mo_at_ok (i := 31) rfl
theorem d_Mo_at_55 : decode c_Mo_at 55 = .ok (.getfield 7, 3) := dc_of (x := (55, .getfield 7, 3)) t0_Mo_at_ok (i := 32) rfl
theorem d_Mo_at_58 : decode c_Mo_at 58 = .ok (.bipush 6, 2) := dc_of (x := (58, .bipush 6, 2)) t0_Mo_at_ok (i := 33) rfl
theorem d_Mo_at_60 : decode c_Mo_at 60 = .ok (.iaload, 1) := dc_of (x := (60, .iaload, 1)) t0_Mo_at_ok (i := 34) rfl
theorem d_Mo_at_61 : decode c_Mo_at 61 = .ok (.if_icmp .ge 69, 3) := dc_of (x := (61, .if_icmp .ge 69, 3)) t0_Mo_at_ok (i := 35) rfl
theorem d_Mo_at_64 : decode c_Mo_at 64 = .ok (.aload_n 0, 1) := dc_of (x := (64, .aload_n 0, 1)) t0_Mo_at_ok (i := 36) rfl
theorem d_Mo_at_65 : decode c_Mo_at 65 = .ok (.getfield 7, 3) := dc_of (x := (65, .getfield 7, 3)) t0_Mo_at_ok (i := 37) rfl
theorem d_Mo_at_68 : decode c_Mo_at 68 = .ok (.sipush 1450, 3) := dc_of (x := (68, .sipush 1450, 3)) t0_Mo_at_ok (i := 38) rfl
theorem d_Mo_at_71 : decode c_Mo_at 71 = .ok (.iconst 3, 1) := dc_of (x := (71, .iconst 3, 1)) t0_Mo_at_ok (i := 39) rfl
theorem d_Mo_at_72 : decode c_Mo_at 72 = .ok (.iload 5, 2) := dc_of (x := (72, .iload 5, 2)) t0_Mo_at_ok (i := 40) rfl
theorem d_Mo_at_74 : decode c_Mo_at 74 = .ok (.imul, 1) := dc_of (x := (74, .imul, 1)) t0_Mo_at_ok (i := 41) rfl
theorem d_Mo_at_75 : decode c_Mo_at 75 = .ok (.iadd, 1) := dc_of (x := (75, .iadd, 1)) t0_Mo_at_ok (i := 42) rfl
theorem d_Mo_at_76 : decode c_Mo_at 76 = .ok (.iconst 1, 1) := dc_of (x := (76, .iconst 1, 1)) t0_Mo_at_ok (i := 43) rfl
theorem d_Mo_at_77 : decode c_Mo_at 77 = .ok (.iadd, 1) := dc_of (x := (77, .iadd, 1)) t0_Mo_at_ok (i := 44) rfl
theorem d_Mo_at_78 : decode c_Mo_at 78 = .ok (.iaload, 1) := dc_of (x := (78, .iaload, 1)) t0_Mo_at_ok (i := 45) rfl
theorem d_Mo_at_79 : decode c_Mo_at 79 = .ok (.iload_n 1, 1) := dc_of (x := (79, .iload_n 1, 1)) t0_Mo_at_ok (i := 46) rfl
theorem d_Mo_at_80 : decode c_Mo_at 80 = .ok (.if_icmp .ne 40, 3) := dc_of (x := (80, .if_icmp .ne 40, 3)) t0_Mo_at_ok (i := 47) rfl
theorem d_Mo_at_83 : decode c_Mo_at 83 = .ok (.aload_n 0, 1) := dc_of (x := (83, .aload_n 0, 1)) t0_Mo_at_ok (i := 48) rfl
theorem d_Mo_at_84 : decode c_Mo_at 84 = .ok (.getfield 7, 3) := dc_of (x := (84, .getfield 7, 3)) t0_Mo_at_ok (i := 49) rfl
theorem d_Mo_at_87 : decode c_Mo_at 87 = .ok (.sipush 1450, 3) := dc_of (x := (87, .sipush 1450, 3)) t0_Mo_at_ok (i := 50) rfl
theorem d_Mo_at_90 : decode c_Mo_at 90 = .ok (.iconst 3, 1) := dc_of (x := (90, .iconst 3, 1)) t0_Mo_at_ok (i := 51) rfl
theorem d_Mo_at_91 : decode c_Mo_at 91 = .ok (.iload 5, 2) := dc_of (x := (91, .iload 5, 2)) t0_Mo_at_ok (i := 52) rfl
theorem d_Mo_at_93 : decode c_Mo_at 93 = .ok (.imul, 1) := dc_of (x := (93, .imul, 1)) t0_Mo_at_ok (i := 53) rfl
theorem d_Mo_at_94 : decode c_Mo_at 94 = .ok (.iadd, 1) := dc_of (x := (94, .iadd, 1)) t0_Mo_at_ok (i := 54) rfl
theorem d_Mo_at_95 : decode c_Mo_at 95 = .ok (.iaload, 1) := dc_of (x := (95, .iaload, 1)) t0_Mo_at_ok (i := 55) rfl
theorem d_Mo_at_96 : decode c_Mo_at 96 = .ok (.i2l, 1) := dc_of (x := (96, .i2l, 1)) t0_Mo_at_ok (i := 56) rfl
theorem d_Mo_at_97 : decode c_Mo_at 97 = .ok (.lload_n 2, 1) := dc_of (x := (97, .lload_n 2, 1)) t0_Mo_at_ok (i := 57) rfl
theorem d_Mo_at_98 : decode c_Mo_at 98 = .ok (.lcmp, 1) := dc_of (x := (98, .lcmp, 1)) t0_Mo_at_ok (i := 58) rfl
theorem d_Mo_at_99 : decode c_Mo_at 99 = .ok (.ifCond .gt 21, 3) := dc_of (x := (99, .ifCond .gt 21, 3)) t0_Mo_at_ok (i := 59) rfl
theorem d_Mo_at_102 : decode c_Mo_at 102 = .ok (.aload_n 0, 1) := dc_of (x := (102, .aload_n 0, 1)) t1_Mo_at_ok (i := 0) rfl
theorem d_Mo_at_103 : decode c_Mo_at 103 = .ok (.getfield 7, 3) := dc_of (x := (103, .getfield 7, 3)) t1_Mo_at_ok (i := 1) rfl
theorem d_Mo_at_106 : decode c_Mo_at 106 = .ok (.sipush 1450, 3) := dc_of (x := (106, .sipush 1450, 3)) t1_Mo_at_ok (i := 2) rfl
theorem d_Mo_at_109 : decode c_Mo_at 109 = .ok (.iconst 3, 1) := dc_of (x := (109, .iconst 3, 1)) t1_Mo_at_ok (i := 3) rfl
theorem d_Mo_at_110 : decode c_Mo_at 110 = .ok (.iload 5, 2) := dc_of (x := (110, .iload 5, 2)) t1_Mo_at_ok (i := 4) rfl
theorem d_Mo_at_112 : decode c_Mo_at 112 = .ok (.imul, 1) := dc_of (x := (112, .imul, 1)) t1_Mo_at_ok (i := 5) rfl
theorem d_Mo_at_113 : decode c_Mo_at 113 = .ok (.iadd, 1) := dc_of (x := (113, .iadd, 1)) t1_Mo_at_ok (i := 6) rfl
theorem d_Mo_at_114 : decode c_Mo_at 114 = .ok (.iconst 2, 1) := dc_of (x := (114, .iconst 2, 1)) t1_Mo_at_ok (i := 7) rfl
theorem d_Mo_at_115 : decode c_Mo_at 115 = .ok (.iadd, 1) := dc_of (x := (115, .iadd, 1)) t1_Mo_at_ok (i := 8) rfl
theorem d_Mo_at_116 : decode c_Mo_at 116 = .ok (.iaload, 1) := dc_of (x := (116, .iaload, 1)) t1_Mo_at_ok (i := 9) rfl
theorem d_Mo_at_117 : decode c_Mo_at 117 = .ok (.goto 5, 3) := dc_of (x := (117, .goto 5, 3)) t1_Mo_at_ok (i := 10) rfl
theorem d_Mo_at_120 : decode c_Mo_at 120 = .ok (.iload 4, 2) := dc_of (x := (120, .iload 4, 2)) t1_Mo_at_ok (i := 11) rfl
theorem d_Mo_at_122 : decode c_Mo_at 122 = .ok (.istore 4, 2) := dc_of (x := (122, .istore 4, 2)) t1_Mo_at_ok (i := 12) rfl
theorem d_Mo_at_124 : decode c_Mo_at 124 = .ok (.iinc 5 1, 3) := dc_of (x := (124, .iinc 5 1, 3)) t1_Mo_at_ok (i := 13) rfl
theorem d_Mo_at_127 : decode c_Mo_at 127 = .ok (.goto (-82), 3) := dc_of (x := (127, .goto (-82), 3)) t1_Mo_at_ok (i := 14) rfl
theorem d_Mo_at_130 : decode c_Mo_at 130 = .ok (.aload_n 0, 1) := dc_of (x := (130, .aload_n 0, 1)) t1_Mo_at_ok (i := 15) rfl
theorem d_Mo_at_131 : decode c_Mo_at 131 = .ok (.getfield 28, 3) := dc_of (x := (131, .getfield 28, 3)) t1_Mo_at_ok (i := 16) rfl
theorem d_Mo_at_134 : decode c_Mo_at 134 = .ok (.ifCond .le 7, 3) := dc_of (x := (134, .ifCond .le 7, 3)) t1_Mo_at_ok (i := 17) rfl
theorem d_Mo_at_137 : decode c_Mo_at 137 = .ok (.iconst 0, 1) := dc_of (x := (137, .iconst 0, 1)) t1_Mo_at_ok (i := 18) rfl
theorem d_Mo_at_138 : decode c_Mo_at 138 = .ok (.goto 5, 3) := dc_of (x := (138, .goto 5, 3)) t1_Mo_at_ok (i := 19) rfl
theorem d_Mo_at_141 : decode c_Mo_at 141 = .ok (.iload 4, 2) := dc_of (x := (141, .iload 4, 2)) t1_Mo_at_ok (i := 20) rfl
theorem d_Mo_at_143 : decode c_Mo_at 143 = .ok (.ireturn, 1) := dc_of (x := (143, .ireturn, 1)) t1_Mo_at_ok (i := 21) rfl
def t0_Mo_value : List (Nat × Instr × Nat) := [(0, .aload_n 0, 1), (1, .aload_n 0, 1), (2, .iload_n 1, 1), (3, .invokevirtual 70, 3), (6, .ifCond .eq 7, 3), (9, .iconst 0, 1), (10, .goto 4, 3), (13, .iconst 1, 1), (14, .putfield 28, 3), (17, .aload_n 0, 1), (18, .getfield 28, 3), (21, .ifCond .le 7, 3), (24, .iconst 0, 1), (25, .goto 9, 3), (28, .aload_n 0, 1), (29, .iload_n 1, 1), (30, .iconst 0, 1), (31, .invokevirtual 32, 3), (34, .ireturn, 1)]
theorem t0_Mo_value_ok : t0_Mo_value.all (fun x => decide (decode c_Mo_value x.1 = .ok x.2)) = true := by decide +kernel
theorem d_Mo_value_0 : decode c_Mo_value 0 = .ok (.aload_n 0, 1) := dc_of (x := (0, .aload_n 0, 1)) t0_Mo_value_ok (i := 0) rfl
theorem d_Mo_value_1 : decode c_Mo_value 1 = .ok (.aload_n 0, 1) := dc_of (x := (1, .aload_n 0, 1)) t0_Mo_value_ok (i := 1) rfl
theorem d_Mo_value_2 : decode c_Mo_value 2 = .ok (.iload_n 1, 1) := dc_of (x := (2, .iload_n 1, 1)) t0_Mo_value_ok (i := 2) rfl
theorem d_Mo_value_3 : decode c_Mo_value 3 = .ok (.invokevirtual 70, 3) := dc_of (x := (3, .invokevirtual 70, 3)) t0_Mo_value_ok (i := 3) rfl
theorem d_Mo_value_6 : decode c_Mo_value 6 = .ok (.ifCond .eq 7, 3) := dc_of (x := (6, .ifCond .eq 7, 3)) t0_Mo_value_ok (i := 4) rfl
theorem d_Mo_value_9 : decode c_Mo_value 9 = .ok (.iconst 0, 1) := dc_of (x := (9, .iconst 0, 1)) t0_Mo_value_ok (i := 5) rfl
theorem d_Mo_value_10 : decode c_Mo_value 10 = .ok (.goto 4, 3) := dc_of (x := (10, .goto 4, 3)) t0_Mo_value_ok (i := 6) rfl
theorem d_Mo_value_13 : decode c_Mo_value 13 = .ok (.iconst 1, 1) := dc_of (x := (13, .iconst 1, 1)) t0_Mo_value_ok (i := 7) rfl
theorem d_Mo_value_14 : decode c_Mo_value 14 = .ok (.putfield 28, 3) := dc_of (x := (14, .putfield 28, 3)) t0_Mo_value_ok (i := 8) rfl
theorem d_Mo_value_17 : decode c_Mo_value 17 = .ok (.aload_n 0, 1) := dc_of (x := (17, .aload_n 0, 1)) t0_Mo_value_ok (i := 9) rfl
theorem d_Mo_value_18 : decode c_Mo_value 18 = .ok (.getfield 28, 3) := dc_of (x := (18, .getfield 28, 3)) t0_Mo_value_ok (i := 10) rfl
theorem d_Mo_value_21 : decode c_Mo_value 21 = .ok (.ifCond .le 7, 3) := dc_of (x := (21, .ifCond .le 7, 3)) t0_Mo_value_ok (i := 11) rfl
theorem d_Mo_value_24 : decode c_Mo_value 24 = .ok (.iconst 0, 1) := dc_of (x := (24, .iconst 0, 1)) t0_Mo_value_ok (i := 12) rfl
theorem d_Mo_value_25 : decode c_Mo_value 25 = .ok (.goto 9, 3) := dc_of (x := (25, .goto 9, 3)) t0_Mo_value_ok (i := 13) rfl
theorem d_Mo_value_28 : decode c_Mo_value 28 = .ok (.aload_n 0, 1) := dc_of (x := (28, .aload_n 0, 1)) t0_Mo_value_ok (i := 14) rfl
theorem d_Mo_value_29 : decode c_Mo_value 29 = .ok (.iload_n 1, 1) := dc_of (x := (29, .iload_n 1, 1)) t0_Mo_value_ok (i := 15) rfl
theorem d_Mo_value_30 : decode c_Mo_value 30 = .ok (.iconst 0, 1) := dc_of (x := (30, .iconst 0, 1)) t0_Mo_value_ok (i := 16) rfl
theorem d_Mo_value_31 : decode c_Mo_value 31 = .ok (.invokevirtual 32, 3) := dc_of (x := (31, .invokevirtual 32, 3)) t0_Mo_value_ok (i := 17) rfl
theorem d_Mo_value_34 : decode c_Mo_value 34 = .ok (.ireturn, 1) := dc_of (x := (34, .ireturn, 1)) t0_Mo_value_ok (i := 18) rfl
def t0_Mo_change : List (Nat × Instr × Nat) := [(0, .iload_n 1, 1), (1, .ifCond .lt 18, 3), (4, .iload_n 1, 1), (5, .aload_n 0, 1), (6, .getfield 7, 3), (9, .bipush 6, 2), (11, .iaload, 1), (12, .if_icmp .ge 7, 3), (15, .iconst 1, 1), (16, .goto 4, 3), (19, .iconst 0, 1), (20, .istore_n 3, 1), (21, .aload_n 0, 1), (22, .iload_n 2, 1), (23, .iconst 3, 1), (24, .if_icmp .ne 11, 3), (27, .iload_n 3, 1), (28, .ifCond .ne 20, 3), (31, .iload_n 1, 1), (32, .ifCond .eq 16, 3), (35, .iload_n 3, 1), (36, .ifCond .eq 16, 3), (39, .iload_n 2, 1), (40, .ifCond .lt 12, 3), (43, .iload_n 2, 1), (44, .iconst 2, 1), (45, .if_icmp .gt 7, 3), (48, .iconst 0, 1), (49, .goto 4, 3), (52, .iconst 1, 1), (53, .putfield 28, 3), (56, .aload_n 0, 1), (57, .getfield 28, 3), (60, .ifCond .le 7, 3), (63, .iconst 0, 1), (64, .goto 32, 3), (67, .iload_n 2, 1), (68, .iconst 3, 1), (69, .if_icmp .ne 13, 3), (72, .aload_n 0, 1), (73, .getfield 7, 3), (76, .bipush 6, 2), (78, .iaload, 1), (79, .goto 17, 3), (82, .aload_n 0, 1), (83, .getfield 7, 3), (86, .sipush 1450, 3), (89, .iconst 3, 1), (90, .iload_n 1, 1), (91, .imul, 1), (92, .iadd, 1), (93, .iload_n 2, 1), (94, .iadd, 1), (95, .iaload, 1), (96, .ireturn, 1)]
theorem t0_Mo_change_ok : t0_Mo_change.all (fun x => decide (decode c_Mo_change x.1 = .ok x.2)) = true := by decide +kernel
theorem d_Mo_change_0 : decode c_Mo_change 0 = .ok (.iload_n 1, 1) := dc_of (x := (0, .iload_n 1, 1)) t0_Mo_change_ok (i := 0) rfl
theorem d_Mo_change_1 : decode c_Mo_change 1 = .ok (.ifCond .lt 18, 3) := dc_of (x := (1, .ifCond .lt 18, 3)) t0_Mo_change_ok (i := 1) rfl
theorem d_Mo_change_4 : decode c_Mo_change 4 = .ok (.iload_n 1, 1) := dc_of (x := (4, .iload_n 1, 1)) t0_Mo_change_ok (i := 2) rfl
theorem d_Mo_change_5 : decode c_Mo_change 5 = .ok (.aload_n 0, 1) := dc_of (x := (5, .aload_n 0, 1)) t0_Mo_change_ok (i := 3) rfl
theorem d_Mo_change_6 : decode c_Mo_change 6 = .ok (.getfield 7, 3) := dc_of (x := (6, .getfield 7, 3)) t0_Mo_change_ok (i := 4) rfl
theorem d_Mo_change_9 : decode c_Mo_change 9 = .ok (.bipush 6, 2) := dc_of (x := (9, .bipush 6, 2)) t0_Mo_change_ok (i := 5) rfl
theorem d_Mo_change_11 : decode c_Mo_change 11 = .ok (.iaload, 1) := dc_of (x := (11, .iaload, 1)) t0_Mo_change_ok (i := 6) rfl
theorem d_Mo_change_12 : decode c_Mo_change 12 = .ok (.if_icmp .ge 7, 3) := dc_of (x := (12, .if_icmp .ge 7, 3)) t0_Mo_change_ok (i := 7) rfl
theorem d_Mo_change_15 : decode c_Mo_change 15 = .ok (.iconst 1, 1) := dc_of (x := (15, .iconst 1, 1)) t0_Mo_change_ok (i := 8) rfl
theorem d_Mo_change_16 : decode c_Mo_change 16 = .ok (.goto 4, 3) := dc_of (x := (16, .goto 4, 3)) t0_Mo_change_ok (i := 9) rfl
theorem d_Mo_change_19 : decode c_Mo_change 19 = .ok (.iconst 0, 1) := dc_of (x := (19, .iconst 0, 1)) t0_Mo_change_ok (i := 10) rfl
theorem d_Mo_change_20 : decode c_Mo_change 20 = .ok (.istore_n 3, 1) := dc_of (x := (20, .istore_n 3, 1)) t0_Mo_change_ok (i := 11) rfl
theorem d_Mo_change_21 : decode c_Mo_change 21 = .ok (.aload_n 0, 1) := dc_of (x := (21, .aload_n 0, 1)) t0_Mo_change_ok (i := 12) rfl
theorem d_Mo_change_22 : decode c_Mo_change 22 = .ok (.iload_n 2, 1) := dc_of (x := (22, .iload_n 2, 1)) t0_Mo_change_ok (i := 13) rfl
theorem d_Mo_change_23 : decode c_Mo_change 23 = .ok (.iconst 3, 1) := dc_of (x := (23, .iconst 3, 1)) t0_Mo_change_ok (i := 14) rfl
theorem d_Mo_change_24 : decode c_Mo_change 24 = .ok (.if_icmp .ne 11, 3) := dc_of (x := (24, .if_icmp .ne 11, 3)) t0_Mo_change_ok (i := 15) rfl
theorem d_Mo_change_27 : decode c_Mo_change 27 = .ok (.iload_n 3, 1) := dc_of (x := (27, .iload_n 3, 1)) t0_Mo_change_ok (i := 16) rfl
theorem d_Mo_change_28 : decode c_Mo_change 28 = .ok (.ifCond .ne 20, 3) := dc_of (x := (28, .ifCond .ne 20, 3)) t0_Mo_change_ok (i := 17) rfl
theorem d_Mo_change_31 : decode c_Mo_change 31 = .ok (.iload_n 1, 1) := dc_of (x := (31, .iload_n 1, 1)) t0_Mo_change_ok (i := 18) rfl
theorem d_Mo_change_32 : decode c_Mo_change 32 = .ok (.ifCond .eq 16, 3) := dc_of (x := (32, .ifCond .eq 16, 3)) t0_Mo_change_ok (i := 19) rfl
theorem d_Mo_change_35 : decode c_Mo_change 35 = .ok (.iload_n 3, 1) := dc_of (x := (35, .iload_n 3, 1)) t0_Mo_change_ok (i := 20) rfl
theorem d_Mo_change_36 : decode c_Mo_change 36 = .ok (.ifCond .eq 16, 3) := dc_of (x := (36, .ifCond .eq 16, 3)) t0_Mo_change_ok (i := 21) rfl
theorem d_Mo_change_39 : decode c_Mo_change 39 = .ok (.iload_n 2, 1) := dc_of (x := (39, .iload_n 2, 1)) t0_Mo_change_ok (i := 22) rfl
theorem d_Mo_change_40 : decode c_Mo_change 40 = .ok (.ifCond .lt 12, 3) := dc_of (x := (40, .ifCond .lt 12, 3)) t0_Mo_change_ok (i := 23) rfl
theorem d_Mo_change_43 : decode c_Mo_change 43 = .ok (.iload_n 2, 1) := dc_of (x := (43, .iload_n 2, 1)) t0_Mo_change_ok (i := 24) rfl
theorem d_Mo_change_44 : decode c_Mo_change 44 = .ok (.iconst 2, 1) := dc_of (x := (44, .iconst 2, 1)) t0_Mo_change_ok (i := 25) rfl
theorem d_Mo_change_45 : decode c_Mo_change 45 = .ok (.if_icmp .gt 7, 3) := dc_of (x := (45, .if_icmp .gt 7, 3)) t0_Mo_change_ok (i := 26) rfl
theorem d_Mo_change_48 : decode c_Mo_change 48 = .ok (.iconst 0, 1) := dc_of (x := (48, .iconst 0, 1)) t0_Mo_change_ok (i := 27) rfl
theorem d_Mo_change_49 : decode c_Mo_change 49 = .ok (.goto 4, 3) := dc_of (x := (49, .goto 4, 3)) t0_Mo_change_ok (i := 28) rfl
theorem d_Mo_change_52 : decode c_Mo_change 52 = .ok (.iconst 1, 1) := dc_of (x := (52, .iconst 1, 1)) t0_Mo_change_ok (i := 29) rfl
theorem d_Mo_change_53 : decode c_Mo_change 53 = .ok (.putfield 28, 3) := dc_of (x := (53, .putfield 28, 3)) t0_Mo_change_ok (i := 30) rfl
theorem d_Mo_change_56 : decode c_Mo_change 56 = .ok (.aload_n 0, 1) := dc_of (x := (56, .aload_n 0, 1)) t0_Mo_change_ok (i := 31) rfl
theorem d_Mo_change_57 : decode c_Mo_change 57 = .ok (.getfield 28, 3) := dc_of (x := (57, .getfield 28, 3)) t0_Mo_change_ok (i := 32) rfl
theorem d_Mo_change_60 : decode c_Mo_change 60 = .ok (.ifCond .le 7, 3) := dc_of (x := (60, .ifCond .le 7, 3)) t0_Mo_change_ok (i := 33) rfl
theorem d_Mo_change_63 : decode c_Mo_change 63 = .ok (.iconst 0, 1) := dc_of (x := (63, .iconst 0, 1)) t0_Mo_change_ok (i := 34) rfl
theorem d_Mo_change_64 : decode c_Mo_change 64 = .ok (.goto 32, 3) := dc_of (x := (64, .goto 32, 3)) t0_Mo_change_ok (i := 35) rfl
theorem d_Mo_change_67 : decode c_Mo_change 67 = .ok (.iload_n 2, 1) := dc_of (x := (67, .iload_n 2, 1)) t0_Mo_change_ok (i := 36) rfl
theorem d_Mo_change_68 : decode c_Mo_change 68 = .ok (.iconst 3, 1) := dc_of (x := (68, .iconst 3, 1)) t0_Mo_change_ok (i := 37) rfl
theorem d_Mo_change_69 : decode c_Mo_change 69 = .ok (.if_icmp .ne 13, 3) := dc_of (x := (69, .if_icmp .ne 13, 3)) t0_Mo_change_ok (i := 38) rfl
theorem d_Mo_change_72 : decode c_Mo_change 72 = .ok (.aload_n 0, 1) := dc_of (x := (72, .aload_n 0, 1)) t0_Mo_change_ok (i := 39) rfl
theorem d_Mo_change_73 : decode c_Mo_change 73 = .ok (.getfield 7, 3) := dc_of (x := (73, .getfield 7, 3)) t0_Mo_change_ok (i := 40) rfl
theorem d_Mo_change_76 : decode c_Mo_change 76 = .ok (.bipush 6, 2) := dc_of (x := (76, .bipush 6, 2)) t0_Mo_change_ok (i := 41) rfl
theorem d_Mo_change_78 : decode c_Mo_change 78 = .ok (.iaload, 1) := dc_of (x := (78, .iaload, 1)) t0_Mo_change_ok (i := 42) rfl
theorem d_Mo_change_79 : decode c_Mo_change 79 = .ok (.goto 17, 3) := dc_of (x := (79, .goto 17, 3)) t0_Mo_change_ok (i := 43) rfl
theorem d_Mo_change_82 : decode c_Mo_change 82 = .ok (.aload_n 0, 1) := dc_of (x := (82, .aload_n 0, 1)) t0_Mo_change_ok (i := 44) rfl
theorem d_Mo_change_83 : decode c_Mo_change 83 = .ok (.getfield 7, 3) := dc_of (x := (83, .getfield 7, 3)) t0_Mo_change_ok (i := 45) rfl
theorem d_Mo_change_86 : decode c_Mo_change 86 = .ok (.sipush 1450, 3) := dc_of (x := (86, .sipush 1450, 3)) t0_Mo_change_ok (i := 46) rfl
theorem d_Mo_change_89 : decode c_Mo_change 89 = .ok (.iconst 3, 1) := dc_of (x := (89, .iconst 3, 1)) t0_Mo_change_ok (i := 47) rfl
theorem d_Mo_change_90 : decode c_Mo_change 90 = .ok (.iload_n 1, 1) := dc_of (x := (90, .iload_n 1, 1)) t0_Mo_change_ok (i := 48) rfl
theorem d_Mo_change_91 : decode c_Mo_change 91 = .ok (.imul, 1) := dc_of (x := (91, .imul, 1)) t0_Mo_change_ok (i := 49) rfl
theorem d_Mo_change_92 : decode c_Mo_change 92 = .ok (.iadd, 1) := dc_of (x := (92, .iadd, 1)) t0_Mo_change_ok (i := 50) rfl
theorem d_Mo_change_93 : decode c_Mo_change 93 = .ok (.iload_n 2, 1) := dc_of (x := (93, .iload_n 2, 1)) t0_Mo_change_ok (i := 51) rfl
theorem d_Mo_change_94 : decode c_Mo_change 94 = .ok (.iadd, 1) := dc_of (x := (94, .iadd, 1)) t0_Mo_change_ok (i := 52) rfl
theorem d_Mo_change_95 : decode c_Mo_change 95 = .ok (.iaload, 1) := dc_of (x := (95, .iaload, 1)) t0_Mo_change_ok (i := 53) rfl
theorem d_Mo_change_96 : decode c_Mo_change 96 = .ok (.ireturn, 1) := dc_of (x := (96, .ireturn, 1)) t0_Mo_change_ok (i := 54) rfl
def t0_Mo_counted : List (Nat × Instr × Nat) := [(0, .aload_n 0, 1), (1, .aload_n 0, 1), (2, .iload_n 1, 1), (3, .invokevirtual 70, 3), (6, .ifCond .eq 7, 3), (9, .iconst 0, 1), (10, .goto 4, 3), (13, .iconst 1, 1), (14, .putfield 28, 3), (17, .aload_n 0, 1), (18, .getfield 28, 3), (21, .ifCond .le 7, 3), (24, .lconst 0, 1), (25, .goto 10, 3), (28, .aload_n 0, 1), (29, .iload_n 1, 1), (30, .iconst 4, 1), (31, .invokevirtual 32, 3), (34, .i2l, 1), (35, .lreturn, 1)]
theorem t0_Mo_counted_ok : t0_Mo_counted.all (fun x => decide (decode c_Mo_counted x.1 = .ok x.2)) = true := by decide +kernel
theorem d_Mo_counted_0 : decode c_Mo_counted 0 = .ok (.aload_n 0, 1) := dc_of (x := (0, .aload_n 0, 1)) t0_Mo_counted_ok (i := 0) rfl
theorem d_Mo_counted_1 : decode c_Mo_counted 1 = .ok (.aload_n 0, 1) := dc_of (x := (1, .aload_n 0, 1)) t0_Mo_counted_ok (i := 1) rfl
theorem d_Mo_counted_2 : decode c_Mo_counted 2 = .ok (.iload_n 1, 1) := dc_of (x := (2, .iload_n 1, 1)) t0_Mo_counted_ok (i := 2) rfl
theorem d_Mo_counted_3 : decode c_Mo_counted 3 = .ok (.invokevirtual 70, 3) := dc_of (x := (3, .invokevirtual 70, 3)) t0_Mo_counted_ok (i := 3) rfl
theorem d_Mo_counted_6 : decode c_Mo_counted 6 = .ok (.ifCond .eq 7, 3) := dc_of (x := (6, .ifCond .eq 7, 3)) t0_Mo_counted_ok (i := 4) rfl
theorem d_Mo_counted_9 : decode c_Mo_counted 9 = .ok (.iconst 0, 1) := dc_of (x := (9, .iconst 0, 1)) t0_Mo_counted_ok (i := 5) rfl
theorem d_Mo_counted_10 : decode c_Mo_counted 10 = .ok (.goto 4, 3) := dc_of (x := (10, .goto 4, 3)) t0_Mo_counted_ok (i := 6) rfl
theorem d_Mo_counted_13 : decode c_Mo_counted 13 = .ok (.iconst 1, 1) := dc_of (x := (13, .iconst 1, 1)) t0_Mo_counted_ok (i := 7) rfl
theorem d_Mo_counted_14 : decode c_Mo_counted 14 = .ok (.putfield 28, 3) := dc_of (x := (14, .putfield 28, 3)) t0_Mo_counted_ok (i := 8) rfl
theorem d_Mo_counted_17 : decode c_Mo_counted 17 = .ok (.aload_n 0, 1) := dc_of (x := (17, .aload_n 0, 1)) t0_Mo_counted_ok (i := 9) rfl
theorem d_Mo_counted_18 : decode c_Mo_counted 18 = .ok (.getfield 28, 3) := dc_of (x := (18, .getfield 28, 3)) t0_Mo_counted_ok (i := 10) rfl
theorem d_Mo_counted_21 : decode c_Mo_counted 21 = .ok (.ifCond .le 7, 3) := dc_of (x := (21, .ifCond .le 7, 3)) t0_Mo_counted_ok (i := 11) rfl
theorem d_Mo_counted_24 : decode c_Mo_counted 24 = .ok (.lconst 0, 1) := dc_of (x := (24, .lconst 0, 1)) t0_Mo_counted_ok (i := 12) rfl
theorem d_Mo_counted_25 : decode c_Mo_counted 25 = .ok (.goto 10, 3) := dc_of (x := (25, .goto 10, 3)) t0_Mo_counted_ok (i := 13) rfl
theorem d_Mo_counted_28 : decode c_Mo_counted 28 = .ok (.aload_n 0, 1) := dc_of (x := (28, .aload_n 0, 1)) t0_Mo_counted_ok (i := 14) rfl
theorem d_Mo_counted_29 : decode c_Mo_counted 29 = .ok (.iload_n 1, 1) := dc_of (x := (29, .iload_n 1, 1)) t0_Mo_counted_ok (i := 15) rfl
theorem d_Mo_counted_30 : decode c_Mo_counted 30 = .ok (.iconst 4, 1) := dc_of (x := (30, .iconst 4, 1)) t0_Mo_counted_ok (i := 16) rfl
theorem d_Mo_counted_31 : decode c_Mo_counted 31 = .ok (.invokevirtual 32, 3) := dc_of (x := (31, .invokevirtual 32, 3)) t0_Mo_counted_ok (i := 17) rfl
theorem d_Mo_counted_34 : decode c_Mo_counted 34 = .ok (.i2l, 1) := dc_of (x := (34, .i2l, 1)) t0_Mo_counted_ok (i := 18) rfl
theorem d_Mo_counted_35 : decode c_Mo_counted 35 = .ok (.lreturn, 1) := dc_of (x := (35, .lreturn, 1)) t0_Mo_counted_ok (i := 19) rfl
def t0_Mo_levels : List (Nat × Instr × Nat) := [(0, .aload_n 0, 1), (1, .iconst 0, 1), (2, .putfield 28, 3), (5, .iconst 0, 1), (6, .istore_n 1, 1), (7, .iconst 0, 1), (8, .istore_n 2, 1), (9, .iload_n 2, 1), (10, .aload_n 0, 1), (11, .getfield 7, 3), (14, .iconst 3, 1), (15, .iaload, 1), (16, .if_icmp .ge 42, 3), (19, .aload_n 0, 1), (20, .iload_n 2, 1), (21, .iconst 0, 1), (22, .invokevirtual 36, 3), (25, .iconst 4, 1), (26, .if_icmp .gt 24, 3), (29, .aload_n 0, 1), (30, .iload_n 2, 1), (31, .bipush 6, 2), (33, .invokevirtual 36, 3), (36, .aload_n 0, 1), (37, .iload_n 2, 1), (38, .invokevirtual 56, 3), (41, .if_icmp .eq 9, 3), (44, .iload_n 1, 1), (45, .iconst 1, 1), (46, .iadd, 1), (47, .goto 4, 3), (50, .iload_n 1, 1), (51, .istore_n 1, 1), (52, .iinc 2 1, 3), (55, .goto (-46), 3), (58, .iload_n 1, 1), (59, .ireturn, 1)]
theorem t0_Mo_levels_ok : t0_Mo_levels.all (fun x => decide (decode c_Mo_levels x.1 = .ok x.2)) = true := by decide +kernel
theorem d_Mo_levels_0 : decode c_Mo_levels 0 = .ok (.aload_n 0, 1) := dc_of (x := (0, .aload_n 0, 1)) t0_Mo_levels_ok (i := 0) rfl
theorem d_Mo_levels_1 : decode c_Mo_levels 1 = .ok (.iconst 0, 1) := dc_of (x := (1, .iconst 0, 1)) t0_Mo_levels_ok (i := 1) rfl
theorem d_Mo_levels_2 : decode c_Mo_levels 2 = .ok (.putfield 28, 3) := dc_of (x := (2, .putfield 28, 3)) t0_Mo_levels_ok (i := 2) rfl
theorem d_Mo_levels_5 : decode c_Mo_levels 5 = .ok (.iconst 0, 1) := dc_of (x := (5, .iconst 0, 1)) t0_Mo_levels_ok (i := 3) rfl
theorem d_Mo_levels_6 : decode c_Mo_levels 6 = .ok (.istore_n 1, 1) := dc_of (x := (6, .istore_n 1, 1)) t0_Mo_levels_ok (i := 4) rfl
theorem d_Mo_levels_7 : decode c_Mo_levels 7 = .ok (.iconst 0, 1) := dc_of (x := (7, .iconst 0, 1)) t0_Mo_levels_ok (i := 5) rfl
theorem d_Mo_levels_8 : decode c_Mo_levels 8 = .ok (.istore_n 2, 1) := dc_of (x := (8, .istore_n 2, 1)) t0_Mo_levels_ok (i := 6) rfl
theorem d_Mo_levels_9 : decode c_Mo_levels 9 = .ok (.iload_n 2, 1) := dc_of (x := (9, .iload_n 2, 1)) t0_Mo_levels_ok (i := 7) rfl
theorem d_Mo_levels_10 : decode c_Mo_levels 10 = .ok (.aload_n 0, 1) := dc_of (x := (10, .aload_n 0, 1)) t0_Mo_levels_ok (i := 8) rfl
theorem d_Mo_levels_11 : decode c_Mo_levels 11 = .ok (.getfield 7, 3) := dc_of (x := (11, .getfield 7, 3)) t0_Mo_levels_ok (i := 9) rfl
theorem d_Mo_levels_14 : decode c_Mo_levels 14 = .ok (.iconst 3, 1) := dc_of (x := (14, .iconst 3, 1)) t0_Mo_levels_ok (i := 10) rfl
theorem d_Mo_levels_15 : decode c_Mo_levels 15 = .ok (.iaload, 1) := dc_of (x := (15, .iaload, 1)) t0_Mo_levels_ok (i := 11) rfl
theorem d_Mo_levels_16 : decode c_Mo_levels 16 = .ok (.if_icmp .ge 42, 3) := dc_of (x := (16, .if_icmp .ge 42, 3)) t0_Mo_levels_ok (i := 12) rfl
theorem d_Mo_levels_19 : decode c_Mo_levels 19 = .ok (.aload_n 0, 1) := dc_of (x := (19, .aload_n 0, 1)) t0_Mo_levels_ok (i := 13) rfl
theorem d_Mo_levels_20 : decode c_Mo_levels 20 = .ok (.iload_n 2, 1) := dc_of (x := (20, .iload_n 2, 1)) t0_Mo_levels_ok (i := 14) rfl
theorem d_Mo_levels_21 : decode c_Mo_levels 21 = .ok (.iconst 0, 1) := dc_of (x := (21, .iconst 0, 1)) t0_Mo_levels_ok (i := 15) rfl
theorem d_Mo_levels_22 : decode c_Mo_levels 22 = .ok (.invokevirtual 36, 3) := dc_of (x := (22, .invokevirtual 36, 3)) t0_Mo_levels_ok (i := 16) rfl
theorem d_Mo_levels_25 : decode c_Mo_levels 25 = .ok (.iconst 4, 1) := dc_of (x := (25, .iconst 4, 1)) t0_Mo_levels_ok (i := 17) rfl
theorem d_Mo_levels_26 : decode c_Mo_levels 26 = .ok (.if_icmp .gt 24, 3) := dc_of (x := (26, .if_icmp .gt 24, 3)) t0_Mo_levels_ok (i := 18) rfl
theorem d_Mo_levels_29 : decode c_Mo_levels 29 = .ok (.aload_n 0, 1) := dc_of (x := (29, .aload_n 0, 1)) t0_Mo_levels_ok (i := 19) rfl
theorem d_Mo_levels_30 : decode c_Mo_levels 30 = .ok (.iload_n 2, 1) := dc_of (x := (30, .iload_n 2, 1)) t0_Mo_levels_ok (i := 20) rfl
theorem d_Mo_levels_31 : decode c_Mo_levels 31 = .ok (.bipush 6, 2) := dc_of (x := (31, .bipush 6, 2)) t0_Mo_levels_ok (i := 21) rfl
theorem d_Mo_levels_33 : decode c_Mo_levels 33 = .ok (.invokevirtual 36, 3) := dc_of (x := (33, .invokevirtual 36, 3)) t0_Mo_levels_ok (i := 22) rfl
theorem d_Mo_levels_36 : decode c_Mo_levels 36 = .ok (.aload_n 0, 1) := dc_of (x := (36, .aload_n 0, 1)) t0_Mo_levels_ok (i := 23) rfl
theorem d_Mo_levels_37 : decode c_Mo_levels 37 = .ok (.iload_n 2, 1) := dc_of (x := (37, .iload_n 2, 1)) t0_Mo_levels_ok (i := 24) rfl
theorem d_Mo_levels_38 : decode c_Mo_levels 38 = .ok (.invokevirtual 56, 3) := dc_of (x := (38, .invokevirtual 56, 3)) t0_Mo_levels_ok (i := 25) rfl
theorem d_Mo_levels_41 : decode c_Mo_levels 41 = .ok (.if_icmp .eq 9, 3) := dc_of (x := (41, .if_icmp .eq 9, 3)) t0_Mo_levels_ok (i := 26) rfl
theorem d_Mo_levels_44 : decode c_Mo_levels 44 = .ok (.iload_n 1, 1) := dc_of (x := (44, .iload_n 1, 1)) t0_Mo_levels_ok (i := 27) rfl
theorem d_Mo_levels_45 : decode c_Mo_levels 45 = .ok (.iconst 1, 1) := dc_of (x := (45, .iconst 1, 1)) t0_Mo_levels_ok (i := 28) rfl
theorem d_Mo_levels_46 : decode c_Mo_levels 46 = .ok (.iadd, 1) := dc_of (x := (46, .iadd, 1)) t0_Mo_levels_ok (i := 29) rfl
theorem d_Mo_levels_47 : decode c_Mo_levels 47 = .ok (.goto 4, 3) := dc_of (x := (47, .goto 4, 3)) t0_Mo_levels_ok (i := 30) rfl
theorem d_Mo_levels_50 : decode c_Mo_levels 50 = .ok (.iload_n 1, 1) := dc_of (x := (50, .iload_n 1, 1)) t0_Mo_levels_ok (i := 31) rfl
theorem d_Mo_levels_51 : decode c_Mo_levels 51 = .ok (.istore_n 1, 1) := dc_of (x := (51, .istore_n 1, 1)) t0_Mo_levels_ok (i := 32) rfl
theorem d_Mo_levels_52 : decode c_Mo_levels 52 = .ok (.iinc 2 1, 3) := dc_of (x := (52, .iinc 2 1, 3)) t0_Mo_levels_ok (i := 33) rfl
theorem d_Mo_levels_55 : decode c_Mo_levels 55 = .ok (.goto (-46), 3) := dc_of (x := (55, .goto (-46), 3)) t0_Mo_levels_ok (i := 34) rfl
theorem d_Mo_levels_58 : decode c_Mo_levels 58 = .ok (.iload_n 1, 1) := dc_of (x := (58, .iload_n 1, 1)) t0_Mo_levels_ok (i := 35) rfl
theorem d_Mo_levels_59 : decode c_Mo_levels 59 = .ok (.ireturn, 1) := dc_of (x := (59, .ireturn, 1)) t0_Mo_levels_ok (i := 36) rfl
def t0_Mo_unit : List (Nat × Instr × Nat) := [(0, .aload_n 0, 1), (1, .iconst 0, 1), (2, .putfield 28, 3), (5, .aload_n 0, 1), (6, .getfield 107, 3), (9, .sipush 2000, 3), (12, .if_icmp .ge 7, 3), (15, .iconst 1, 1), (16, .goto 4, 3), (19, .iconst 0, 1), (20, .istore_n 2, 1), (21, .iload_n 2, 1), (22, .ifCond .eq 27, 3), (25, .aload_n 0, 1), (26, .getfield 16, 3), (29, .aload_n 0, 1), (30, .getfield 107, 3), (33, .iload_n 1, 1), (34, .sipush 255, 3), (37, .iand, 1), (38, .iastore, 1), (39, .aload_n 0, 1), (40, .dup, 1), (41, .getfield 107, 3), (44, .iconst 1, 1), (45, .iadd, 1), (46, .putfield 107, 3), (49, .iload_n 2, 1), (50, .ireturn, 1)]
theorem t0_Mo_unit_ok : t0_Mo_unit.all (fun x => decide (decode c_Mo_unit x.1 = .ok x.2)) = true := by decide +kernel
theorem d_Mo_unit_0 : decode c_Mo_unit 0 = .ok (.aload_n 0, 1) := dc_of (x := (0, .aload_n 0, 1)) t0_Mo_unit_ok (i := 0) rfl
theorem d_Mo_unit_1 : decode c_Mo_unit 1 = .ok (.iconst 0, 1) := dc_of (x := (1, .iconst 0, 1)) t0_Mo_unit_ok (i := 1) rfl
theorem d_Mo_unit_2 : decode c_Mo_unit 2 = .ok (.putfield 28, 3) := dc_of (x := (2, .putfield 28, 3)) t0_Mo_unit_ok (i := 2) rfl
theorem d_Mo_unit_5 : decode c_Mo_unit 5 = .ok (.aload_n 0, 1) := dc_of (x := (5, .aload_n 0, 1)) t0_Mo_unit_ok (i := 3) rfl
theorem d_Mo_unit_6 : decode c_Mo_unit 6 = .ok (.getfield 107, 3) := dc_of (x := (6, .getfield 107, 3)) t0_Mo_unit_ok (i := 4) rfl
theorem d_Mo_unit_9 : decode c_Mo_unit 9 = .ok (.sipush 2000, 3) := dc_of (x := (9, .sipush 2000, 3)) t0_Mo_unit_ok (i := 5) rfl
theorem d_Mo_unit_12 : decode c_Mo_unit 12 = .ok (.if_icmp .ge 7, 3) := dc_of (x := (12, .if_icmp .ge 7, 3)) t0_Mo_unit_ok (i := 6) rfl
theorem d_Mo_unit_15 : decode c_Mo_unit 15 = .ok (.iconst 1, 1) := dc_of (x := (15, .iconst 1, 1)) t0_Mo_unit_ok (i := 7) rfl
theorem d_Mo_unit_16 : decode c_Mo_unit 16 = .ok (.goto 4, 3) := dc_of (x := (16, .goto 4, 3)) t0_Mo_unit_ok (i := 8) rfl
theorem d_Mo_unit_19 : decode c_Mo_unit 19 = .ok (.iconst 0, 1) := dc_of (x := (19, .iconst 0, 1)) t0_Mo_unit_ok (i := 9) rfl
theorem d_Mo_unit_20 : decode c_Mo_unit 20 = .ok (.istore_n 2, 1) := dc_of (x := (20, .istore_n 2, 1)) t0_Mo_unit_ok (i := 10) rfl
theorem d_Mo_unit_21 : decode c_Mo_unit 21 = .ok (.iload_n 2, 1) := dc_of (x := (21, .iload_n 2, 1)) t0_Mo_unit_ok (i := 11) rfl
theorem d_Mo_unit_22 : decode c_Mo_unit 22 = .ok (.ifCond .eq 27, 3) := dc_of (x := (22, .ifCond .eq 27, 3)) t0_Mo_unit_ok (i := 12) rfl
theorem d_Mo_unit_25 : decode c_Mo_unit 25 = .ok (.aload_n 0, 1) := dc_of (x := (25, .aload_n 0, 1)) t0_Mo_unit_ok (i := 13) rfl
theorem d_Mo_unit_26 : decode c_Mo_unit 26 = .ok (.getfield 16, 3) := dc_of (x := (26, .getfield 16, 3)) t0_Mo_unit_ok (i := 14) rfl
theorem d_Mo_unit_29 : decode c_Mo_unit 29 = .ok (.aload_n 0, 1) := dc_of (x := (29, .aload_n 0, 1)) t0_Mo_unit_ok (i := 15) rfl
theorem d_Mo_unit_30 : decode c_Mo_unit 30 = .ok (.getfield 107, 3) := dc_of (x := (30, .getfield 107, 3)) t0_Mo_unit_ok (i := 16) rfl
theorem d_Mo_unit_33 : decode c_Mo_unit 33 = .ok (.iload_n 1, 1) := dc_of (x := (33, .iload_n 1, 1)) t0_Mo_unit_ok (i := 17) rfl
theorem d_Mo_unit_34 : decode c_Mo_unit 34 = .ok (.sipush 255, 3) := dc_of (x := (34, .sipush 255, 3)) t0_Mo_unit_ok (i := 18) rfl
theorem d_Mo_unit_37 : decode c_Mo_unit 37 = .ok (.iand, 1) := dc_of (x := (37, .iand, 1)) t0_Mo_unit_ok (i := 19) rfl
theorem d_Mo_unit_38 : decode c_Mo_unit 38 = .ok (.iastore, 1) := dc_of (x := (38, .iastore, 1)) t0_Mo_unit_ok (i := 20) rfl
theorem d_Mo_unit_39 : decode c_Mo_unit 39 = .ok (.aload_n 0, 1) := dc_of (x := (39, .aload_n 0, 1)) t0_Mo_unit_ok (i := 21) rfl
theorem d_Mo_unit_40 : decode c_Mo_unit 40 = .ok (.dup, 1) := dc_of (x := (40, .dup, 1)) t0_Mo_unit_ok (i := 22) rfl
theorem d_Mo_unit_41 : decode c_Mo_unit 41 = .ok (.getfield 107, 3) := dc_of (x := (41, .getfield 107, 3)) t0_Mo_unit_ok (i := 23) rfl
theorem d_Mo_unit_44 : decode c_Mo_unit 44 = .ok (.iconst 1, 1) := dc_of (x := (44, .iconst 1, 1)) t0_Mo_unit_ok (i := 24) rfl
theorem d_Mo_unit_45 : decode c_Mo_unit 45 = .ok (.iadd, 1) := dc_of (x := (45, .iadd, 1)) t0_Mo_unit_ok (i := 25) rfl
theorem d_Mo_unit_46 : decode c_Mo_unit 46 = .ok (.putfield 107, 3) := dc_of (x := (46, .putfield 107, 3)) t0_Mo_unit_ok (i := 26) rfl
theorem d_Mo_unit_49 : decode c_Mo_unit 49 = .ok (.iload_n 2, 1) := dc_of (x := (49, .iload_n 2, 1)) t0_Mo_unit_ok (i := 27) rfl
theorem d_Mo_unit_50 : decode c_Mo_unit 50 = .ok (.ireturn, 1) := dc_of (x := (50, .ireturn, 1)) t0_Mo_unit_ok (i := 28) rfl
def t0_Mo_byteAt : List (Nat × Instr × Nat) := [(0, .iload_n 1, 1), (1, .aload_n 0, 1), (2, .getfield 107, 3), (5, .if_icmp .ge 12, 3), (8, .aload_n 0, 1), (9, .getfield 16, 3), (12, .iload_n 1, 1), (13, .iaload, 1), (14, .goto 4, 3), (17, .iconst (-1), 1), (18, .ireturn, 1)]
theorem t0_Mo_byteAt_ok : t0_Mo_byteAt.all (fun x => decide (decode c_Mo_byteAt x.1 = .ok x.2)) = true := by decide +kernel
theorem d_Mo_byteAt_0 : decode c_Mo_byteAt 0 = .ok (.iload_n 1, 1) := dc_of (x := (0, .iload_n 1, 1)) t0_Mo_byteAt_ok (i := 0) rfl
theorem d_Mo_byteAt_1 : decode c_Mo_byteAt 1 = .ok (.aload_n 0, 1) := dc_of (x := (1, .aload_n 0, 1)) t0_Mo_byteAt_ok (i := 1) rfl
theorem d_Mo_byteAt_2 : decode c_Mo_byteAt 2 = .ok (.getfield 107, 3) := dc_of (x := (2, .getfield 107, 3)) t0_Mo_byteAt_ok (i := 2) rfl
theorem d_Mo_byteAt_5 : decode c_Mo_byteAt 5 = .ok (.if_icmp .ge 12, 3) := dc_of (x := (5, .if_icmp .ge 12, 3)) t0_Mo_byteAt_ok (i := 3) rfl
theorem d_Mo_byteAt_8 : decode c_Mo_byteAt 8 = .ok (.aload_n 0, 1) := dc_of (x := (8, .aload_n 0, 1)) t0_Mo_byteAt_ok (i := 4) rfl
theorem d_Mo_byteAt_9 : decode c_Mo_byteAt 9 = .ok (.getfield 16, 3) := dc_of (x := (9, .getfield 16, 3)) t0_Mo_byteAt_ok (i := 5) rfl
theorem d_Mo_byteAt_12 : decode c_Mo_byteAt 12 = .ok (.iload_n 1, 1) := dc_of (x := (12, .iload_n 1, 1)) t0_Mo_byteAt_ok (i := 6) rfl
theorem d_Mo_byteAt_13 : decode c_Mo_byteAt 13 = .ok (.iaload, 1) := dc_of (x := (13, .iaload, 1)) t0_Mo_byteAt_ok (i := 7) rfl
theorem d_Mo_byteAt_14 : decode c_Mo_byteAt 14 = .ok (.goto 4, 3) := dc_of (x := (14, .goto 4, 3)) t0_Mo_byteAt_ok (i := 8) rfl
theorem d_Mo_byteAt_17 : decode c_Mo_byteAt 17 = .ok (.iconst (-1), 1) := dc_of (x := (17, .iconst (-1), 1)) t0_Mo_byteAt_ok (i := 9) rfl
theorem d_Mo_byteAt_18 : decode c_Mo_byteAt 18 = .ok (.ireturn, 1) := dc_of (x := (18, .ireturn, 1)) t0_Mo_byteAt_ok (i := 10) rfl
def t0_Mo_isDigit : List (Nat × Instr × Nat) := [(0, .iload_n 0, 1), (1, .bipush 48, 2), (3, .if_icmp .lt 13, 3), (6, .iload_n 0, 1), (7, .bipush 57, 2), (9, .if_icmp .gt 7, 3), (12, .iconst 1, 1), (13, .goto 4, 3), (16, .iconst 0, 1), (17, .ireturn, 1)]
theorem t0_Mo_isDigit_ok : t0_Mo_isDigit.all (fun x => decide (decode c_Mo_isDigit x.1 = .ok x.2)) = true := by decide +kernel
theorem d_Mo_isDigit_0 : decode c_Mo_isDigit 0 = .ok (.iload_n 0, 1) := dc_of (x := (0, .iload_n 0, 1)) t0_Mo_isDigit_ok (i := 0) rfl
theorem d_Mo_isDigit_1 : decode c_Mo_isDigit 1 = .ok (.bipush 48, 2) := dc_of (x := (1, .bipush 48, 2)) t0_Mo_isDigit_ok (i := 1) rfl
theorem d_Mo_isDigit_3 : decode c_Mo_isDigit 3 = .ok (.if_icmp .lt 13, 3) := dc_of (x := (3, .if_icmp .lt 13, 3)) t0_Mo_isDigit_ok (i := 2) rfl
theorem d_Mo_isDigit_6 : decode c_Mo_isDigit 6 = .ok (.iload_n 0, 1) := dc_of (x := (6, .iload_n 0, 1)) t0_Mo_isDigit_ok (i := 3) rfl
theorem d_Mo_isDigit_7 : decode c_Mo_isDigit 7 = .ok (.bipush 57, 2) := dc_of (x := (7, .bipush 57, 2)) t0_Mo_isDigit_ok (i := 4) rfl
theorem d_Mo_isDigit_9 : decode c_Mo_isDigit 9 = .ok (.if_icmp .gt 7, 3) := dc_of (x := (9, .if_icmp .gt 7, 3)) t0_Mo_isDigit_ok (i := 5) rfl
theorem d_Mo_isDigit_12 : decode c_Mo_isDigit 12 = .ok (.iconst 1, 1) := dc_of (x := (12, .iconst 1, 1)) t0_Mo_isDigit_ok (i := 6) rfl
theorem d_Mo_isDigit_13 : decode c_Mo_isDigit 13 = .ok (.goto 4, 3) := dc_of (x := (13, .goto 4, 3)) t0_Mo_isDigit_ok (i := 7) rfl
theorem d_Mo_isDigit_16 : decode c_Mo_isDigit 16 = .ok (.iconst 0, 1) := dc_of (x := (16, .iconst 0, 1)) t0_Mo_isDigit_ok (i := 8) rfl
theorem d_Mo_isDigit_17 : decode c_Mo_isDigit 17 = .ok (.ireturn, 1) := dc_of (x := (17, .ireturn, 1)) t0_Mo_isDigit_ok (i := 9) rfl
def t0_Mo_valueOf : List (Nat × Instr × Nat) := [(0, .iload_n 0, 1), (1, .bipush 48, 2), (3, .if_icmp .ne 7, 3), (6, .iconst 0, 1), (7, .goto 34, 3), (10, .iload_n 0, 1), (11, .bipush 49, 2), (13, .if_icmp .ne 7, 3), (16, .iconst 1, 1), (17, .goto 24, 3), (20, .iload_n 0, 1), (21, .bipush 120, 2), (23, .if_icmp .ne 7, 3), (26, .iconst 2, 1), (27, .goto 14, 3), (30, .iload_n 0, 1), (31, .bipush 122, 2), (33, .if_icmp .ne 7, 3), (36, .iconst 3, 1), (37, .goto 4, 3), (40, .iconst (-1), 1), (41, .ireturn, 1)]
theorem t0_Mo_valueOf_ok : t0_Mo_valueOf.all (fun x => decide (decode c_Mo_valueOf x.1 = .ok x.2)) = true := by decide +kernel
theorem d_Mo_valueOf_0 : decode c_Mo_valueOf 0 = .ok (.iload_n 0, 1) := dc_of (x := (0, .iload_n 0, 1)) t0_Mo_valueOf_ok (i := 0) rfl
theorem d_Mo_valueOf_1 : decode c_Mo_valueOf 1 = .ok (.bipush 48, 2) := dc_of (x := (1, .bipush 48, 2)) t0_Mo_valueOf_ok (i := 1) rfl
theorem d_Mo_valueOf_3 : decode c_Mo_valueOf 3 = .ok (.if_icmp .ne 7, 3) := dc_of (x := (3, .if_icmp .ne 7, 3)) t0_Mo_valueOf_ok (i := 2) rfl
theorem d_Mo_valueOf_6 : decode c_Mo_valueOf 6 = .ok (.iconst 0, 1) := dc_of (x := (6, .iconst 0, 1)) t0_Mo_valueOf_ok (i := 3) rfl
theorem d_Mo_valueOf_7 : decode c_Mo_valueOf 7 = .ok (.goto 34, 3) := dc_of (x := (7, .goto 34, 3)) t0_Mo_valueOf_ok (i := 4) rfl
theorem d_Mo_valueOf_10 : decode c_Mo_valueOf 10 = .ok (.iload_n 0, 1) := dc_of (x := (10, .iload_n 0, 1)) t0_Mo_valueOf_ok (i := 5) rfl
theorem d_Mo_valueOf_11 : decode c_Mo_valueOf 11 = .ok (.bipush 49, 2) := dc_of (x := (11, .bipush 49, 2)) t0_Mo_valueOf_ok (i := 6) rfl
theorem d_Mo_valueOf_13 : decode c_Mo_valueOf 13 = .ok (.if_icmp .ne 7, 3) := dc_of (x := (13, .if_icmp .ne 7, 3)) t0_Mo_valueOf_ok (i := 7) rfl
theorem d_Mo_valueOf_16 : decode c_Mo_valueOf 16 = .ok (.iconst 1, 1) := dc_of (x := (16, .iconst 1, 1)) t0_Mo_valueOf_ok (i := 8) rfl
theorem d_Mo_valueOf_17 : decode c_Mo_valueOf 17 = .ok (.goto 24, 3) := dc_of (x := (17, .goto 24, 3)) t0_Mo_valueOf_ok (i := 9) rfl
theorem d_Mo_valueOf_20 : decode c_Mo_valueOf 20 = .ok (.iload_n 0, 1) := dc_of (x := (20, .iload_n 0, 1)) t0_Mo_valueOf_ok (i := 10) rfl
theorem d_Mo_valueOf_21 : decode c_Mo_valueOf 21 = .ok (.bipush 120, 2) := dc_of (x := (21, .bipush 120, 2)) t0_Mo_valueOf_ok (i := 11) rfl
theorem d_Mo_valueOf_23 : decode c_Mo_valueOf 23 = .ok (.if_icmp .ne 7, 3) := dc_of (x := (23, .if_icmp .ne 7, 3)) t0_Mo_valueOf_ok (i := 12) rfl
theorem d_Mo_valueOf_26 : decode c_Mo_valueOf 26 = .ok (.iconst 2, 1) := dc_of (x := (26, .iconst 2, 1)) t0_Mo_valueOf_ok (i := 13) rfl
theorem d_Mo_valueOf_27 : decode c_Mo_valueOf 27 = .ok (.goto 14, 3) := dc_of (x := (27, .goto 14, 3)) t0_Mo_valueOf_ok (i := 14) rfl
theorem d_Mo_valueOf_30 : decode c_Mo_valueOf 30 = .ok (.iload_n 0, 1) := dc_of (x := (30, .iload_n 0, 1)) t0_Mo_valueOf_ok (i := 15) rfl
theorem d_Mo_valueOf_31 : decode c_Mo_valueOf 31 = .ok (.bipush 122, 2) := dc_of (x := (31, .bipush 122, 2)) t0_Mo_valueOf_ok (i := 16) rfl
theorem d_Mo_valueOf_33 : decode c_Mo_valueOf 33 = .ok (.if_icmp .ne 7, 3) := dc_of (x := (33, .if_icmp .ne 7, 3)) t0_Mo_valueOf_ok (i := 17) rfl
theorem d_Mo_valueOf_36 : decode c_Mo_valueOf 36 = .ok (.iconst 3, 1) := dc_of (x := (36, .iconst 3, 1)) t0_Mo_valueOf_ok (i := 18) rfl
theorem d_Mo_valueOf_37 : decode c_Mo_valueOf 37 = .ok (.goto 4, 3) := dc_of (x := (37, .goto 4, 3)) t0_Mo_valueOf_ok (i := 19) rfl
theorem d_Mo_valueOf_40 : decode c_Mo_valueOf 40 = .ok (.iconst (-1), 1) := dc_of (x := (40, .iconst (-1), 1)) t0_Mo_valueOf_ok (i := 20) rfl
theorem d_Mo_valueOf_41 : decode c_Mo_valueOf 41 = .ok (.ireturn, 1) := dc_of (x := (41, .ireturn, 1)) t0_Mo_valueOf_ok (i := 21) rfl
def t0_Mo_read : List (Nat × Instr × Nat) := [(0, .aload_n 0, 1), (1, .iconst 0, 1), (2, .putfield 28, 3), (5, .iconst 0, 1), (6, .istore_n 1, 1), (7, .iconst 0, 1), (8, .istore_n 2, 1), (9, .iconst (-1), 1), (10, .istore_n 3, 1), (11, .iconst (-1), 1), (12, .istore 4, 2), (14, .iload 4, 2), (16, .ifCond .ge 266, 3), (19, .iload_n 1, 1), (20, .aload_n 0, 1), (21, .getfield 107, 3), (24, .if_icmp .ge 258, 3), (27, .aload_n 0, 1), (28, .getfield 16, 3), (31, .iload_n 1, 1), (32, .iaload, 1), (33, .istore 5, 2), (35, .iload 5, 2), (37, .bipush 32, 2), (39, .if_icmp .eq 24, 3), (42, .iload 5, 2), (44, .bipush 9, 2), (46, .if_icmp .eq 17, 3), (49, .iload 5, 2), (51, .bipush 10, 2), (53, .if_icmp .eq 10, 3), (56, .iload 5, 2), (58, .bipush 13, 2), (60, .if_icmp .ne 9, 3), (63, .iinc 1 1, 3), (66, .goto 213, 3), (69, .iload 5, 2), (71, .bipush 35, 2), (73, .if_icmp .ne 118, 3), (76, .aload_n 0, 1), (77, .iload_n 1, 1), (78, .iconst 1, 1), (79, .iadd, 1), (80, .invokevirtual 110, 3), (83, .invokestatic 113, 3), (86, .ifCond .eq 105, 3), (89, .iload_n 1, 1), (90, .istore 6, 2), (92, .iinc 1 1, 3), (95, .lconst 0, 1), (96, .lstore 7, 2), (98, .aload_n 0, 1), (99, .iload_n 1, 1), (100, .invokevirtual 110, 3), (103, .invokestatic 113, 3), (106, .ifCond .eq 48, 3), (109, .ldc2_w 116, 3), (112, .lload 7, 2), (114, .lmul, 1), (115, .aload_n 0, 1)]
theorem t0_Mo_read_ok : t0_Mo_read.all (fun x => decide (decode c_Mo_read x.1 = .ok x.2)) = true := by decide +kernel
def t1_Mo_read : List (Nat × Instr × Nat) := [(116, .getfield 16, 3), (119, .iload_n 1, 1), (120, .iaload, 1), (121, .i2l, 1), (122, .ladd, 1), (123, .ldc2_w 118, 3), (126, .lsub, 1), (127, .lstore 7, 2), (129, .lload 7, 2), (131, .ldc2_w 120, 3), (134, .lcmp, 1), (135, .ifCond .le 9, 3), (138, .ldc2_w 120, 3), (141, .goto 5, 3), (144, .lload 7, 2), (146, .lstore 7, 2), (148, .iinc 1 1, 3), (151, .goto (-53), 3), (154, .lload 7, 2), (156, .aload_n 0, 1), (157, .getfield 7, 3), (160, .iconst 0, 1), (161, .iaload, 1), (162, .i2l, 1), (163, .lcmp, 1), (164, .ifCond .lt 12, 3), (167, .lload 7, 2), (169, .ldc2_w 81, 3), (172, .lcmp, 1), (173, .ifCond .le 8, 3), (176, .iload 6, 2), (178, .goto 4, 3), (181, .iconst (-1), 1), (182, .istore 4, 2), (184, .lload 7, 2), (186, .l2i, 1), (187, .istore_n 3, 1), (188, .goto 91, 3), (191, .iload 5, 2), (193, .invokestatic 122, 3), (196, .ifCond .lt 80, 3), (199, .iload_n 1, 1), (200, .iconst 1, 1), (201, .iadd, 1), (202, .aload_n 0, 1), (203, .getfield 107, 3), (206, .if_icmp .ge 70, 3), (209, .iload_n 3, 1), (210, .ifCond .lt 66, 3), (213, .aload_n 0, 1), (214, .aload_n 0, 1), (215, .getfield 16, 3), (218, .iload_n 1, 1), (219, .iconst 1, 1), (220, .iadd, 1), (221, .iaload, 1), (222, .bipush 33, 2), (224, .isub, 1), (225, .invokevirtual 70, 3), (228, .ifCond .eq 48, 3)]
theorem t1_Mo_read_ok : t1_Mo_read.all (fun x => decide (decode c_Mo_read x.1 = .ok x.2)) = true := by decide +kernel
def t2_Mo_read : List (Nat × Instr × Nat) := [(231, .aload_n 0, 1), (232, .getfield 19, 3), (235, .iload_n 2, 1), (236, .iload_n 3, 1), (237, .iastore, 1), (238, .aload_n 0, 1), (239, .getfield 22, 3), (242, .iload_n 2, 1), (243, .aload_n 0, 1), (244, .getfield 16, 3), (247, .iload_n 1, 1), (248, .iconst 1, 1), (249, .iadd, 1), (250, .iaload, 1), (251, .bipush 33, 2), (253, .isub, 1), (254, .iastore, 1), (255, .aload_n 0, 1), (256, .getfield 25, 3), (259, .iload_n 2, 1), (260, .iload 5, 2), (262, .invokestatic 122, 3), (265, .iastore, 1), (266, .iinc 2 1, 3), (269, .iload_n 1, 1), (270, .iconst 2, 1), (271, .iadd, 1), (272, .istore_n 1, 1), (273, .goto 6, 3), (276, .iload_n 1, 1), (277, .istore 4, 2), (279, .goto (-265), 3), (282, .iload 4, 2), (284, .ifCond .ge 23, 3), (287, .aload_n 0, 1), (288, .getfield 7, 3), (291, .iconst 4, 1), (292, .iaload, 1), (293, .iload_n 2, 1), (294, .iadd, 1), (295, .bipush 100, 2), (297, .if_icmp .le 10, 3), (300, .aload_n 0, 1), (301, .iconst 1, 1), (302, .putfield 28, 3), (305, .iconst 0, 1), (306, .ireturn, 1), (307, .aload_n 0, 1), (308, .iconst 0, 1), (309, .putfield 107, 3), (312, .iload 4, 2), (314, .ifCond .lt 8, 3), (317, .iconst (-1), 1), (318, .iload 4, 2), (320, .isub, 1), (321, .ireturn, 1), (322, .iconst 0, 1), (323, .istore 5, 2), (325, .iload 5, 2), (327, .iload_n 2, 1)]
theorem t2_Mo_read_ok : t2_Mo_read.all (fun x => decide (decode c_Mo_read x.1 = .ok x.2)) = true := by decide +kernel
def t3_Mo_read : List (Nat × Instr × Nat) := [(328, .if_icmp .ge 35, 3), (331, .aload_n 0, 1), (332, .aload_n 0, 1), (333, .getfield 22, 3), (336, .iload 5, 2), (338, .iaload, 1), (339, .aload_n 0, 1), (340, .getfield 19, 3), (343, .iload 5, 2), (345, .iaload, 1), (346, .iconst 0, 1), (347, .aload_n 0, 1), (348, .getfield 25, 3), (351, .iload 5, 2), (353, .iaload, 1), (354, .invokevirtual 83, 3), (357, .iinc 5 1, 3), (360, .goto (-35), 3), (363, .iload_n 2, 1), (364, .ireturn, 1)]
theorem t3_Mo_read_ok : t3_Mo_read.all (fun x => decide (decode c_Mo_read x.1 = .ok x.2)) = true := by decide +kernel
theorem d_Mo_read_0 : decode c_Mo_read 0 = .ok (.aload_n 0, 1) := dc_of (x := (0, .aload_n 0, 1)) t0_Mo_read_ok (i := 0) rfl
theorem d_Mo_read_1 : decode c_Mo_read 1 = .ok (.iconst 0, 1) := dc_of (x := (1, .iconst 0, 1)) t0_Mo_read_ok (i := 1) rfl
theorem d_Mo_read_2 : decode c_Mo_read 2 = .ok (.putfield 28, 3) := dc_of (x := (2, .putfield 28, 3)) t0_Mo_read_ok (i := 2) rfl
theorem d_Mo_read_5 : decode c_Mo_read 5 = .ok (.iconst 0, 1) := dc_of (x := (5, .iconst 0, 1)) t0_Mo_read_ok (i := 3) rfl
theorem d_Mo_read_6 : decode c_Mo_read 6 = .ok (.istore_n 1, 1) := dc_of (x := (6, .istore_n 1, 1)) t0_Mo_read_ok (i := 4) rfl
theorem d_Mo_read_7 : decode c_Mo_read 7 = .ok (.iconst 0, 1) := dc_of (x := (7, .iconst 0, 1)) t0_Mo_read_ok (i := 5) rfl
theorem d_Mo_read_8 : decode c_Mo_read 8 = .ok (.istore_n 2, 1) := dc_of (x := (8, .istore_n 2, 1)) t0_Mo_read_ok (i := 6) rfl
theorem d_Mo_read_9 : decode c_Mo_read 9 = .ok (.iconst (-1), 1) := dc_of (x := (9, .iconst (-1), 1)) t0_Mo_read_ok (i := 7) rfl
theorem d_Mo_read_10 : decode c_Mo_read 10 = .ok (.istore_n 3, 1) := dc_of (x := (10, .istore_n 3, 1)) t0_Mo_read_ok (i := 8) rfl
theorem d_Mo_read_11 : decode c_Mo_read 11 = .ok (.iconst (-1), 1) := dc_of (x := (11, .iconst (-1), 1)) t0_Mo_read_ok (i := 9) rfl
theorem d_Mo_read_12 : decode c_Mo_read 12 = .ok (.istore 4, 2) := dc_of (x := (12, .istore 4, 2)) t0_Mo_read_ok (i := 10) rfl
theorem d_Mo_read_14 : decode c_Mo_read 14 = .ok (.iload 4, 2) := dc_of (x := (14, .iload 4, 2)) t0_Mo_read_ok (i := 11) rfl
theorem d_Mo_read_16 : decode c_Mo_read 16 = .ok (.ifCond .ge 266, 3) := dc_of (x := (16, .ifCond .ge 266, 3)) t0_Mo_read_ok (i := 12) rfl
theorem d_Mo_read_19 : decode c_Mo_read 19 = .ok (.iload_n 1, 1) := dc_of (x := (19, .iload_n 1, 1)) t0_Mo_read_ok (i := 13) rfl
theorem d_Mo_read_20 : decode c_Mo_read 20 = .ok (.aload_n 0, 1) := dc_of (x := (20, .aload_n 0, 1)) t0_Mo_read_ok (i := 14) rfl
theorem d_Mo_read_21 : decode c_Mo_read 21 = .ok (.getfield 107, 3) := dc_of (x := (21, .getfield 107, 3)) t0_Mo_read_ok (i := 15) rfl
theorem d_Mo_read_24 : decode c_Mo_read 24 = .ok (.if_icmp .ge 258, 3) := dc_of (x := (24, .if_icmp .ge 258, 3)) t0_Mo_read_ok (i := 16) rfl
theorem d_Mo_read_27 : decode c_Mo_read 27 = .ok (.aload_n 0, 1) := dc_of (x := (27, .aload_n 0, 1)) t0_Mo_read_ok (i := 17) rfl
theorem d_Mo_read_28 : decode c_Mo_read 28 = .ok (.getfield 16, 3) := dc_of (x := (28, .getfield 16, 3)) t0_Mo_read_ok (i := 18) rfl
theorem d_Mo_read_31 : decode c_Mo_read 31 = .ok (.iload_n 1, 1) := dc_of (x := (31, .iload_n 1, 1)) t0_Mo_read_ok (i := 19) rfl
theorem d_Mo_read_32 : decode c_Mo_read 32 = .ok (.iaload, 1) := dc_of (x := (32, .iaload, 1)) t0_Mo_read_ok (i := 20) rfl
theorem d_Mo_read_33 : decode c_Mo_read 33 = .ok (.istore 5, 2) := dc_of (x := (33, .istore 5, 2)) t0_Mo_read_ok (i := 21) rfl
theorem d_Mo_read_35 : decode c_Mo_read 35 = .ok (.iload 5, 2) := dc_of (x := (35, .iload 5, 2)) t0_Mo_read_ok (i := 22) rfl
theorem d_Mo_read_37 : decode c_Mo_read 37 = .ok (.bipush 32, 2) := dc_of (x := (37, .bipush 32, 2)) t0_Mo_read_ok (i := 23) rfl
theorem d_Mo_read_39 : decode c_Mo_read 39 = .ok (.if_icmp .eq 24, 3) := dc_of (x := (39, .if_icmp .eq 24, 3)) t0_Mo_read_ok (i := 24) rfl
theorem d_Mo_read_42 : decode c_Mo_read 42 = .ok (.iload 5, 2) := dc_of (x := (42, .iload 5, 2)) t0_Mo_read_ok (i := 25) rfl
theorem d_Mo_read_44 : decode c_Mo_read 44 = .ok (.bipush 9, 2) := dc_of (x := (44, .bipush 9, 2)) t0_Mo_read_ok (i := 26) rfl
theorem d_Mo_read_46 : decode c_Mo_read 46 = .ok (.if_icmp .eq 17, 3) := dc_of (x := (46, .if_icmp .eq 17, 3)) t0_Mo_read_ok (i := 27) rfl
theorem d_Mo_read_49 : decode c_Mo_read 49 = .ok (.iload 5, 2) := dc_of (x := (49, .iload 5, 2)) t0_Mo_read_ok (i := 28) rfl
theorem d_Mo_read_51 : decode c_Mo_read 51 = .ok (.bipush 10, 2) := dc_of (x := (51, .bipush 10, 2)) t0_Mo_read_ok (i := 29) rfl
theorem d_Mo_read_53 : decode c_Mo_read 53 = .ok (.if_icmp .eq 10, 3) := dc_of (x := (53, .if_icmp .eq 10, 3)) t0_Mo_read_ok (i := 30) rfl
theorem d_Mo_read_56 : decode c_Mo_read 56 = .ok (.iload 5, 2) := dc_of (x := (56, .iload 5, 2)) t0_Mo_read_ok (i := 31) rfl
theorem d_Mo_read_58 : decode c_Mo_read 58 = .ok (.bipush 13, 2) := dc_of (x := (58, .bipush 13, 2)) t0_Mo_read_ok (i := 32) rfl
theorem d_Mo_read_60 : decode c_Mo_read 60 = .ok (.if_icmp .ne 9, 3) := dc_of (x := (60, .if_icmp .ne 9, 3)) t0_Mo_read_ok (i := 33) rfl
theorem d_Mo_read_63 : decode c_Mo_read 63 = .ok (.iinc 1 1, 3) := dc_of (x := (63, .iinc 1 1, 3)) t0_Mo_read_ok (i := 34) rfl
theorem d_Mo_read_66 : decode c_Mo_read 66 = .ok (.goto 213, 3) := dc_of (x := (66, .goto 213, 3)) t0_Mo_read_ok (i := 35) rfl
theorem d_Mo_read_69 : decode c_Mo_read 69 = .ok (.iload 5, 2) := dc_of (x := (69, .iload 5, 2)) t0_Mo_read_ok (i := 36) rfl
theorem d_Mo_read_71 : decode c_Mo_read 71 = .ok (.bipush 35, 2) := dc_of (x := (71, .bipush 35, 2)) t0_Mo_read_ok (i := 37) rfl
theorem d_Mo_read_73 : decode c_Mo_read 73 = .ok (.if_icmp .ne 118, 3) := dc_of (x := (73, .if_icmp .ne 118, 3)) t0_Mo_read_ok (i := 38) rfl
theorem d_Mo_read_76 : decode c_Mo_read 76 = .ok (.aload_n 0, 1) := dc_of (x := (76, .aload_n 0, 1)) t0_Mo_read_ok (i := 39) rfl
theorem d_Mo_read_77 : decode c_Mo_read 77 = .ok (.iload_n 1, 1) := dc_of (x := (77, .iload_n 1, 1)) t0_Mo_read_ok (i := 40) rfl
theorem d_Mo_read_78 : decode c_Mo_read 78 = .ok (.iconst 1, 1) := dc_of (x := (78, .iconst 1, 1)) t0_Mo_read_ok (i := 41) rfl
theorem d_Mo_read_79 : decode c_Mo_read 79 = .ok (.iadd, 1) := dc_of (x := (79, .iadd, 1)) t0_Mo_read_ok (i := 42) rfl
theorem d_Mo_read_80 : decode c_Mo_read 80 = .ok (.invokevirtual 110, 3) := dc_of (x := (80, .invokevirtual 110, 3)) t0_Mo_read_ok (i := 43) rfl
theorem d_Mo_read_83 : decode c_Mo_read 83 = .ok (.invokestatic 113, 3) := dc_of (x := (83, .invokestatic 113, 3)) t0_Mo_read_ok (i := 44) rfl
theorem d_Mo_read_86 : decode c_Mo_read 86 = .ok (.ifCond .eq 105, 3) := dc_of (x := (86, .ifCond .eq 105, 3)) t0_Mo_read_ok (i := 45) rfl
theorem d_Mo_read_89 : decode c_Mo_read 89 = .ok (.iload_n 1, 1) := dc_of (x := (89, .iload_n 1, 1)) t0_Mo_read_ok (i := 46) rfl
theorem d_Mo_read_90 : decode c_Mo_read 90 = .ok (.istore 6, 2) := dc_of (x := (90, .istore 6, 2)) t0_Mo_read_ok (i := 47) rfl
theorem d_Mo_read_92 : decode c_Mo_read 92 = .ok (.iinc 1 1, 3) := dc_of (x := (92, .iinc 1 1, 3)) t0_Mo_read_ok (i := 48) rfl
theorem d_Mo_read_95 : decode c_Mo_read 95 = .ok (.lconst 0, 1) := dc_of (x := (95, .lconst 0, 1)) t0_Mo_read_ok (i := 49) rfl
theorem d_Mo_read_96 : decode c_Mo_read 96 = .ok (.lstore 7, 2) := dc_of (x := (96, .lstore 7, 2)) t0_Mo_read_ok (i := 50) rfl
theorem d_Mo_read_98 : decode c_Mo_read 98 = .ok (.aload_n 0, 1) := dc_of (x := (98, .aload_n 0, 1)) t0_Mo_read_ok (i := 51) rfl
theorem d_Mo_read_99 : decode c_Mo_read 99 = .ok (.iload_n 1, 1) := dc_of (x := (99, .iload_n 1, 1)) t0_Mo_read_ok (i := 52) rfl
theorem d_Mo_read_100 : decode c_Mo_read 100 = .ok (.invokevirtual 110, 3) := dc_of (x := (100, .invokevirtual 110, 3)) t0_Mo_read_ok (i := 53) rfl
theorem d_Mo_read_103 : decode c_Mo_read 103 = .ok (.invokestatic 113, 3) := dc_of (x := (103, .invokestatic 113, 3)) t0_Mo_read_ok (i := 54) rfl
theorem d_Mo_read_106 : decode c_Mo_read 106 = .ok (.ifCond .eq 48, 3) := dc_of (x := (106, .ifCond .eq 48, 3)) t0_Mo_read_ok (i := 55) rfl
theorem d_Mo_read_109 : decode c_Mo_read 109 = .ok (.ldc2_w 116, 3) := dc_of (x := (109, .ldc2_w 116, 3)) t0_Mo_read_ok (i := 56) rfl
theorem d_Mo_read_112 : decode c_Mo_read 112 = .ok (.lload 7, 2) := dc_of (x := (112, .lload 7, 2)) t0_Mo_read_ok (i := 57) rfl
theorem d_Mo_read_114 : decode c_Mo_read 114 = .ok (.lmul, 1) := dc_of (x := (114, .lmul, 1)) t0_Mo_read_ok (i := 58) rfl
theorem d_Mo_read_115 : decode c_Mo_read 115 = .ok (.aload_n 0, 1) := dc_of (x := (115, .aload_n 0, 1)) t0_Mo_read_ok (i := 59) rfl
theorem d_Mo_read_116 : decode c_Mo_read 116 = .ok (.getfield 16, 3) := dc_of (x := (116, .getfield 16, 3)) t1_Mo_read_ok (i := 0) rfl
theorem d_Mo_read_119 : decode c_Mo_read 119 = .ok (.iload_n 1, 1) := dc_of (x := (119, .iload_n 1, 1)) t1_Mo_read_ok (i := 1) rfl
theorem d_Mo_read_120 : decode c_Mo_read 120 = .ok (.iaload, 1) := dc_of (x := (120, .iaload, 1)) t1_Mo_read_ok (i := 2) rfl
theorem d_Mo_read_121 : decode c_Mo_read 121 = .ok (.i2l, 1) := dc_of (x := (121, .i2l, 1)) t1_Mo_read_ok (i := 3) rfl
theorem d_Mo_read_122 : decode c_Mo_read 122 = .ok (.ladd, 1) := dc_of (x := (122, .ladd, 1)) t1_Mo_read_ok (i := 4) rfl
theorem d_Mo_read_123 : decode c_Mo_read 123 = .ok (.ldc2_w 118, 3) := dc_of (x := (123, .ldc2_w 118, 3)) t1_Mo_read_ok (i := 5) rfl
theorem d_Mo_read_126 : decode c_Mo_read 126 = .ok (.lsub, 1) := dc_of (x := (126, .lsub, 1)) t1_Mo_read_ok (i := 6) rfl
theorem d_Mo_read_127 : decode c_Mo_read 127 = .ok (.lstore 7, 2) := dc_of (x := (127, .lstore 7, 2)) t1_Mo_read_ok (i := 7) rfl
theorem d_Mo_read_129 : decode c_Mo_read 129 = .ok (.lload 7, 2) := dc_of (x := (129, .lload 7, 2)) t1_Mo_read_ok (i := 8) rfl
theorem d_Mo_read_131 : decode c_Mo_read 131 = .ok (.ldc2_w 120, 3) := dc_of (x := (131, .ldc2_w 120, 3)) t1_Mo_read_ok (i := 9) rfl
theorem d_Mo_read_134 : decode c_Mo_read 134 = .ok (.lcmp, 1) := dc_of (x := (134, .lcmp, 1)) t1_Mo_read_ok (i := 10) rfl
theorem d_Mo_read_135 : decode c_Mo_read 135 = .ok (.ifCond .le 9, 3) := dc_of (x := (135, .ifCond .le 9, 3)) t1_Mo_read_ok (i := 11) rfl
theorem d_Mo_read_138 : decode c_Mo_read 138 = .ok (.ldc2_w 120, 3) := dc_of (x := (138, .ldc2_w 120, 3)) t1_Mo_read_ok (i := 12) rfl
theorem d_Mo_read_141 : decode c_Mo_read 141 = .ok (.goto 5, 3) := dc_of (x := (141, .goto 5, 3)) t1_Mo_read_ok (i := 13) rfl
theorem d_Mo_read_144 : decode c_Mo_read 144 = .ok (.lload 7, 2) := dc_of (x := (144, .lload 7, 2)) t1_Mo_read_ok (i := 14) rfl
theorem d_Mo_read_146 : decode c_Mo_read 146 = .ok (.lstore 7, 2) := dc_of (x := (146, .lstore 7, 2)) t1_Mo_read_ok (i := 15) rfl
theorem d_Mo_read_148 : decode c_Mo_read 148 = .ok (.iinc 1 1, 3) := dc_of (x := (148, .iinc 1 1, 3)) t1_Mo_read_ok (i := 16) rfl
theorem d_Mo_read_151 : decode c_Mo_read 151 = .ok (.goto (-53), 3) := dc_of (x := (151, .goto (-53), 3)) t1_Mo_read_ok (i := 17) rfl
theorem d_Mo_read_154 : decode c_Mo_read 154 = .ok (.lload 7, 2) := dc_of (x := (154, .lload 7, 2)) t1_Mo_read_ok (i := 18) rfl
theorem d_Mo_read_156 : decode c_Mo_read 156 = .ok (.aload_n 0, 1) := dc_of (x := (156, .aload_n 0, 1)) t1_Mo_read_ok (i := 19) rfl
theorem d_Mo_read_157 : decode c_Mo_read 157 = .ok (.getfield 7, 3) := dc_of (x := (157, .getfield 7, 3)) t1_Mo_read_ok (i := 20) rfl
theorem d_Mo_read_160 : decode c_Mo_read 160 = .ok (.iconst 0, 1) := dc_of (x := (160, .iconst 0, 1)) t1_Mo_read_ok (i := 21) rfl
theorem d_Mo_read_161 : decode c_Mo_read 161 = .ok (.iaload, 1) := dc_of (x := (161, .iaload, 1)) t1_Mo_read_ok (i := 22) rfl
theorem d_Mo_read_162 : decode c_Mo_read 162 = .ok (.i2l, 1) := dc_of (x := (162, .i2l, 1)) t1_Mo_read_ok (i := 23) rfl
theorem d_Mo_read_163 : decode c_Mo_read 163 = .ok (.lcmp, 1) := dc_of (x := (163, .lcmp, 1)) t1_Mo_read_ok (i := 24) rfl
theorem d_Mo_read_164 : decode c_Mo_read 164 = .ok (.ifCond .lt 12, 3) := dc_of (x := (164, .ifCond .lt 12, 3)) t1_Mo_read_ok (i := 25) rfl
theorem d_Mo_read_167 : decode c_Mo_read 167 = .ok (.lload 7, 2) := dc_of (x := (167, .lload 7, 2)) t1_Mo_read_ok (i := 26) rfl
theorem d_Mo_read_169 : decode c_Mo_read 169 = .ok (.ldc2_w 81, 3) := dc_of (x := (169, .ldc2_w 81, 3)) t1_Mo_read_ok (i := 27) rfl
theorem d_Mo_read_172 : decode c_Mo_read 172 = .ok (.lcmp, 1) := dc_of (x := (172, .lcmp, 1)) t1_Mo_read_ok (i := 28) rfl
theorem d_Mo_read_173 : decode c_Mo_read 173 = .ok (.ifCond .le 8, 3) := dc_of (x := (173, .ifCond .le 8, 3)) t1_Mo_read_ok (i := 29) rfl
theorem d_Mo_read_176 : decode c_Mo_read 176 = .ok (.iload 6, 2) := dc_of (x := (176, .iload 6, 2)) t1_Mo_read_ok (i := 30) rfl
theorem d_Mo_read_178 : decode c_Mo_read 178 = .ok (.goto 4, 3) := dc_of (x := (178, .goto 4, 3)) t1_Mo_read_ok (i := 31) rfl
theorem d_Mo_read_181 : decode c_Mo_read 181 = .ok (.iconst (-1), 1) := dc_of (x := (181, .iconst (-1), 1)) t1_Mo_read_ok (i := 32) rfl
theorem d_Mo_read_182 : decode c_Mo_read 182 = .ok (.istore 4, 2) := dc_of (x := (182, .istore 4, 2)) t1_Mo_read_ok (i := 33) rfl
theorem d_Mo_read_184 : decode c_Mo_read 184 = .ok (.lload 7, 2) := dc_of (x := (184, .lload 7, 2)) t1_Mo_read_ok (i := 34) rfl
theorem d_Mo_read_186 : decode c_Mo_read 186 = .ok (.l2i, 1) := dc_of (x := (186, .l2i, 1)) t1_Mo_read_ok (i := 35) rfl
theorem d_Mo_read_187 : decode c_Mo_read 187 = .ok (.istore_n 3, 1) := dc_of (x := (187, .istore_n 3, 1)) t1_Mo_read_ok (i := 36) rfl
theorem d_Mo_read_188 : decode c_Mo_read 188 = .ok (.goto 91, 3) := dc_of (x := (188, .goto 91, 3)) t1_Mo_read_ok (i := 37) rfl
theorem d_Mo_read_191 : decode c_Mo_read 191 = .ok (.iload 5, 2) := dc_of (x := (191, .iload 5, 2)) t1_Mo_read_ok (i := 38) rfl
theorem d_Mo_read_193 : decode c_Mo_read 193 = .ok (.invokestatic 122, 3) := dc_of (x := (193, .invokestatic 122, 3)) t1_Mo_read_ok (i := 39) rfl
theorem d_Mo_read_196 : decode c_Mo_read 196 = .ok (.ifCond .lt 80, 3) := dc_of (x := (196, .ifCond .lt 80, 3)) t1_Mo_read_ok (i := 40) rfl
theorem d_Mo_read_199 : decode c_Mo_read 199 = .ok (.iload_n 1, 1) := dc_of (x := (199, .iload_n 1, 1)) t1_Mo_read_ok (i := 41) rfl
theorem d_Mo_read_200 : decode c_Mo_read 200 = .ok (.iconst 1, 1) := dc_of (x := (200, .iconst 1, 1)) t1_Mo_read_ok (i := 42) rfl
theorem d_Mo_read_201 : decode c_Mo_read 201 = .ok (.iadd, 1) := dc_of (x := (201, .iadd, 1)) t1_Mo_read_ok (i := 43) rfl
theorem d_Mo_read_202 : decode c_Mo_read 202 = .ok (.aload_n 0, 1) := dc_of (x := (202, .aload_n 0, 1)) t1_Mo_read_ok (i := 44) rfl
theorem d_Mo_read_203 : decode c_Mo_read 203 = .ok (.getfield 107, 3) := dc_of (x := (203, .getfield 107, 3)) t1_Mo_read_ok (i := 45) rfl
theorem d_Mo_read_206 : decode c_Mo_read 206 = .ok (.if_icmp .ge 70, 3) := dc_of (x := (206, .if_icmp .ge 70, 3)) t1_Mo_read_ok (i := 46) rfl
theorem d_Mo_read_209 : decode c_Mo_read 209 = .ok (.iload_n 3, 1) := dc_of (x := (209, .iload_n 3, 1)) t1_Mo_read_ok (i := 47) rfl
theorem d_Mo_read_210 : decode c_Mo_read 210 = .ok (.ifCond .lt 66, 3) := dc_of (x := (210, .ifCond .lt 66, 3)) t1_Mo_read_ok (i := 48) rfl
theorem d_Mo_read_213 : decode c_Mo_read 213 = .ok (.aload_n 0, 1) := dc_of (x := (213, .aload_n 0, 1)) t1_Mo_read_ok (i := 49) rfl
theorem d_Mo_read_214 : decode c_Mo_read 214 = .ok (.aload_n 0, 1) := dc_of (x := (214, .aload_n 0, 1)) t1_Mo_read_ok (i := 50) rfl
theorem d_Mo_read_215 : decode c_Mo_read 215 = .ok (.getfield 16, 3) := dc_of (x := (215, .getfield 16, 3)) t1_Mo_read_ok (i := 51) rfl
theorem d_Mo_read_218 : decode c_Mo_read 218 = .ok (.iload_n 1, 1) := dc_of (x := (218, .iload_n 1, 1)) t1_Mo_read_ok (i := 52) rfl
theorem d_Mo_read_219 : decode c_Mo_read 219 = .ok (.iconst 1, 1) := dc_of (x := (219, .iconst 1, 1)) t1_Mo_read_ok (i := 53) rfl
theorem d_Mo_read_220 : decode c_Mo_read 220 = .ok (.iadd, 1) := dc_of (x := (220, .iadd, 1)) t1_Mo_read_ok (i := 54) rfl
theorem d_Mo_read_221 : decode c_Mo_read 221 = .ok (.iaload, 1) := dc_of (x := (221, .iaload, 1)) t1_Mo_read_ok (i := 55) rfl
theorem d_Mo_read_222 : decode c_Mo_read 222 = .ok (.bipush 33, 2) := dc_of (x := (222, .bipush 33, 2)) t1_Mo_read_ok (i := 56) rfl
theorem d_Mo_read_224 : decode c_Mo_read 224 = .ok (.isub, 1) := dc_of (x := (224, .isub, 1)) t1_Mo_read_ok (i := 57) rfl
theorem d_Mo_read_225 : decode c_Mo_read 225 = .ok (.invokevirtual 70, 3) := dc_of (x := (225, .invokevirtual 70, 3)) t1_Mo_read_ok (i := 58) rfl
theorem d_Mo_read_228 : decode c_Mo_read 228 = .ok (.ifCond .eq 48, 3) := dc_of (x := (228, .ifCond .eq 48, 3)) t1_Mo_read_ok (i := 59) rfl
theorem d_Mo_read_231 : decode c_Mo_read 231 = .ok (.aload_n 0, 1) := dc_of (x := (231, .aload_n 0, 1)) t2_Mo_read_ok (i := 0) rfl
theorem d_Mo_read_232 : decode c_Mo_read 232 = .ok (.getfield 19, 3) := dc_of (x := (232, .getfield 19, 3)) t2_Mo_read_ok (i := 1) rfl
theorem d_Mo_read_235 : decode c_Mo_read 235 = .ok (.iload_n 2, 1) := dc_of (x := (235, .iload_n 2, 1)) t2_Mo_read_ok (i := 2) rfl
theorem d_Mo_read_236 : decode c_Mo_read 236 = .ok (.iload_n 3, 1) := dc_of (x := (236, .iload_n 3, 1)) t2_Mo_read_ok (i := 3) rfl
theorem d_Mo_read_237 : decode c_Mo_read 237 = .ok (.iastore, 1) := dc_of (x := (237, .iastore, 1)) t2_Mo_read_ok (i := 4) rfl
theorem d_Mo_read_238 : decode c_Mo_read 238 = .ok (.aload_n 0, 1) := dc_of (x := (238, .aload_n 0, 1)) t2_Mo_read_ok (i := 5) rfl
theorem d_Mo_read_239 : decode c_Mo_read 239 = .ok (.getfield 22, 3) := dc_of (x := (239, .getfield 22, 3)) t2_Mo_read_ok (i := 6) rfl
theorem d_Mo_read_242 : decode c_Mo_read 242 = .ok (.iload_n 2, 1) := dc_of (x := (242, .iload_n 2, 1)) t2_Mo_read_ok (i := 7) rfl
theorem d_Mo_read_243 : decode c_Mo_read 243 = .ok (.aload_n 0, 1) := dc_of (x := (243, .aload_n 0, 1)) t2_Mo_read_ok (i := 8) rfl
theorem d_Mo_read_244 : decode c_Mo_read 244 = .ok (.getfield 16, 3) := dc_of (x := (244, .getfield 16, 3)) t2_Mo_read_ok (i := 9) rfl
theorem d_Mo_read_247 : decode c_Mo_read 247 = .ok (.iload_n 1, 1) := dc_of (x := (247, .iload_n 1, 1)) t2_Mo_read_ok (i := 10) rfl
theorem d_Mo_read_248 : decode c_Mo_read 248 = .ok (.iconst 1, 1) := dc_of (x := (248, .iconst 1, 1)) t2_Mo_read_ok (i := 11) rfl
theorem d_Mo_read_249 : decode c_Mo_read 249 = .ok (.iadd, 1) := dc_of (x := (249, .iadd, 1)) t2_Mo_read_ok (i := 12) rfl
theorem d_Mo_read_250 : decode c_Mo_read 250 = .ok (.iaload, 1) := dc_of (x := (250, .iaload, 1)) t2_Mo_read_ok (i := 13) rfl
theorem d_Mo_read_251 : decode c_Mo_read 251 = .ok (.bipush 33, 2) := dc_of (x := (251, .bipush 33, 2)) t2_Mo_read_ok (i := 14) rfl
theorem d_Mo_read_253 : decode c_Mo_read 253 = .ok (.isub, 1) := dc_of (x := (253, .isub, 1)) t2_Mo_read_ok (i := 15) rfl
theorem d_Mo_read_254 : decode c_Mo_read 254 = .ok (.iastore, 1) := dc_of (x := (254, .iastore, 1)) t2_Mo_read_ok (i := 16) rfl
theorem d_Mo_read_255 : decode c_Mo_read 255 = .ok (.aload_n 0, 1) := dc_of (x := (255, .aload_n 0, 1)) t2_Mo_read_ok (i := 17) rfl
theorem d_Mo_read_256 : decode c_Mo_read 256 = .ok (.getfield 25, 3) := dc_of (x := (256, .getfield 25, 3)) t2_Mo_read_ok (i := 18) rfl
theorem d_Mo_read_259 : decode c_Mo_read 259 = .ok (.iload_n 2, 1) := dc_of (x := (259, .iload_n 2, 1)) t2_Mo_read_ok (i := 19) rfl
theorem d_Mo_read_260 : decode c_Mo_read 260 = .ok (.iload 5, 2) := dc_of (x := (260, .iload 5, 2)) t2_Mo_read_ok (i := 20) rfl
theorem d_Mo_read_262 : decode c_Mo_read 262 = .ok (.invokestatic 122, 3) := dc_of (x := (262, .invokestatic 122, 3)) t2_Mo_read_ok (i := 21) rfl
theorem d_Mo_read_265 : decode c_Mo_read 265 = .ok (.iastore, 1) := dc_of (x := (265, .iastore, 1)) t2_Mo_read_ok (i := 22) rfl
theorem d_Mo_read_266 : decode c_Mo_read 266 = .ok (.iinc 2 1, 3) := dc_of (x := (266, .iinc 2 1, 3)) t2_Mo_read_ok (i := 23) rfl
theorem d_Mo_read_269 : decode c_Mo_read 269 = .ok (.iload_n 1, 1) := dc_of (x := (269, .iload_n 1, 1)) t2_Mo_read_ok (i := 24) rfl
theorem d_Mo_read_270 : decode c_Mo_read 270 = .ok (.iconst 2, 1) := dc_of (x := (270, .iconst 2, 1)) t2_Mo_read_ok (i := 25) rfl
theorem d_Mo_read_271 : decode c_Mo_read 271 = .ok (.iadd, 1) := dc_of (x := (271, .iadd, 1)) t2_Mo_read_ok (i := 26) rfl
theorem d_Mo_read_272 : decode c_Mo_read 272 = .ok (.istore_n 1, 1) := dc_of (x := (272, .istore_n 1, 1)) t2_Mo_read_ok (i := 27) rfl
theorem d_Mo_read_273 : decode c_Mo_read 273 = .ok (.goto 6, 3) := dc_of (x := (273, .goto 6, 3)) t2_Mo_read_ok (i := 28) rfl
theorem d_Mo_read_276 : decode c_Mo_read 276 = .ok (.iload_n 1, 1) := dc_of (x := (276, .iload_n 1, 1)) t2_Mo_read_ok (i := 29) rfl
theorem d_Mo_read_277 : decode c_Mo_read 277 = .ok (.istore 4, 2) := dc_of (x := (277, .istore 4, 2)) t2_Mo_read_ok (i := 30) rfl
theorem d_Mo_read_279 : decode c_Mo_read 279 = .ok (.goto (-265), 3) := dc_of (x := (279, .goto (-265), 3)) t2_Mo_read_ok (i := 31) rfl
theorem d_Mo_read_282 : decode c_Mo_read 282 = .ok (.iload 4, 2) := dc_of (x := (282, .iload 4, 2)) t2_Mo_read_ok (i := 32) rfl
theorem d_Mo_read_284 : decode c_Mo_read 284 = .ok (.ifCond .ge 23, 3) := dc_of (x := (284, .ifCond .ge 23, 3)) t2_Mo_read_ok (i := 33) rfl
theorem d_Mo_read_287 : decode c_Mo_read 287 = .ok (.aload_n 0, 1) := dc_of (x := (287, .aload_n 0, 1)) t2_Mo_read_ok (i := 34) rfl
theorem d_Mo_read_288 : decode c_Mo_read 288 = .ok (.getfield 7, 3) := dc_of (x := (288, .getfield 7, 3)) t2_Mo_read_ok (i := 35) rfl
theorem d_Mo_read_291 : decode c_Mo_read 291 = .ok (.iconst 4, 1) := dc_of (x := (291, .iconst 4, 1)) t2_Mo_read_ok (i := 36) rfl
theorem d_Mo_read_292 : decode c_Mo_read 292 = .ok (.iaload, 1) := dc_of (x := (292, .iaload, 1)) t2_Mo_read_ok (i := 37) rfl
theorem d_Mo_read_293 : decode c_Mo_read 293 = .ok (.iload_n 2, 1) := dc_of (x := (293, .iload_n 2, 1)) t2_Mo_read_ok (i := 38) rfl
theorem d_Mo_read_294 : decode c_Mo_read 294 = .ok (.iadd, 1) := dc_of (x := (294, .iadd, 1)) t2_Mo_read_ok (i := 39) rfl
theorem d_Mo_read_295 : decode c_Mo_read 295 = .ok (.bipush 100, 2) := dc_of (x := (295, .bipush 100, 2)) t2_Mo_read_ok (i := 40) rfl
theorem d_Mo_read_297 : decode c_Mo_read 297 = .ok (.if_icmp .le 10, 3) := dc_of (x := (297, .if_icmp .le 10, 3)) t2_Mo_read_ok (i := 41) rfl
theorem d_Mo_read_300 : decode c_Mo_read 300 = .ok (.aload_n 0, 1) := dc_of (x := (300, .aload_n 0, 1)) t2_Mo_read_ok (i := 42) rfl
theorem d_Mo_read_301 : decode c_Mo_read 301 = .ok (.iconst 1, 1) := dc_of (x := (301, .iconst 1, 1)) t2_Mo_read_ok (i := 43) rfl
theorem d_Mo_read_302 : decode c_Mo_read 302 = .ok (.putfield 28, 3) := dc_of (x := (302, .putfield 28, 3)) t2_Mo_read_ok (i := 44) rfl
theorem d_Mo_read_305 : decode c_Mo_read 305 = .ok (.iconst 0, 1) := dc_of (x := (305, .iconst 0, 1)) t2_Mo_read_ok (i := 45) rfl
theorem d_Mo_read_306 : decode c_Mo_read 306 = .ok (.ireturn, 1) := dc_of (x := (306, .ireturn, 1)) t2_Mo_read_ok (i := 46) rfl
theorem d_Mo_read_307 : decode c_Mo_read 307 = .ok (.aload_n 0, 1) := dc_of (x := (307, .aload_n 0, 1)) t2_Mo_read_ok (i := 47) rfl
theorem d_Mo_read_308 : decode c_Mo_read 308 = .ok (.iconst 0, 1) := dc_of (x := (308, .iconst 0, 1)) t2_Mo_read_ok (i := 48) rfl
theorem d_Mo_read_309 : decode c_Mo_read 309 = .ok (.putfield 107, 3) := dc_of (x := (309, .putfield 107, 3)) t2_Mo_read_ok (i := 49) rfl
theorem d_Mo_read_312 : decode c_Mo_read 312 = .ok (.iload 4, 2) := dc_of (x := (312, .iload 4, 2)) t2_Mo_read_ok (i := 50) rfl
theorem d_Mo_read_314 : decode c_Mo_read 314 = .ok (.ifCond .lt 8, 3) := dc_of (x := (314, .ifCond .lt 8, 3)) t2_Mo_read_ok (i := 51) rfl
theorem d_Mo_read_317 : decode c_Mo_read 317 = .ok (.iconst (-1), 1) := dc_of (x := (317, .iconst (-1), 1)) t2_Mo_read_ok (i := 52) rfl
theorem d_Mo_read_318 : decode c_Mo_read 318 = .ok (.iload 4, 2) := dc_of (x := (318, .iload 4, 2)) t2_Mo_read_ok (i := 53) rfl
theorem d_Mo_read_320 : decode c_Mo_read 320 = .ok (.isub, 1) := dc_of (x := (320, .isub, 1)) t2_Mo_read_ok (i := 54) rfl
theorem d_Mo_read_321 : decode c_Mo_read 321 = .ok (.ireturn, 1) := dc_of (x := (321, .ireturn, 1)) t2_Mo_read_ok (i := 55) rfl
theorem d_Mo_read_322 : decode c_Mo_read 322 = .ok (.iconst 0, 1) := dc_of (x := (322, .iconst 0, 1)) t2_Mo_read_ok (i := 56) rfl
theorem d_Mo_read_323 : decode c_Mo_read 323 = .ok (.istore 5, 2) := dc_of (x := (323, .istore 5, 2)) t2_Mo_read_ok (i := 57) rfl
theorem d_Mo_read_325 : decode c_Mo_read 325 = .ok (.iload 5, 2) := dc_of (x := (325, .iload 5, 2)) t2_Mo_read_ok (i := 58) rfl
theorem d_Mo_read_327 : decode c_Mo_read 327 = .ok (.iload_n 2, 1) := dc_of (x := (327, .iload_n 2, 1)) t2_Mo_read_ok (i := 59) rfl
theorem d_Mo_read_328 : decode c_Mo_read 328 = .ok (.if_icmp .ge 35, 3) := dc_of (x := (328, .if_icmp .ge 35, 3)) t3_Mo_read_ok (i := 0) rfl
theorem d_Mo_read_331 : decode c_Mo_read 331 = .ok (.aload_n 0, 1) := dc_of (x := (331, .aload_n 0, 1)) t3_Mo_read_ok (i := 1) rfl
theorem d_Mo_read_332 : decode c_Mo_read 332 = .ok (.aload_n 0, 1) := dc_of (x := (332, .aload_n 0, 1)) t3_Mo_read_ok (i := 2) rfl
theorem d_Mo_read_333 : decode c_Mo_read 333 = .ok (.getfield 22, 3) := dc_of (x := (333, .getfield 22, 3)) t3_Mo_read_ok (i := 3) rfl
theorem d_Mo_read_336 : decode c_Mo_read 336 = .ok (.iload 5, 2) := dc_of (x := (336, .iload 5, 2)) t3_Mo_read_ok (i := 4) rfl
theorem d_Mo_read_338 : decode c_Mo_read 338 = .ok (.iaload, 1) := dc_of (x := (338, .iaload, 1)) t3_Mo_read_ok (i := 5) rfl
theorem d_Mo_read_339 : decode c_Mo_read 339 = .ok (.aload_n 0, 1) := dc_of (x := (339, .aload_n 0, 1)) t3_Mo_read_ok (i := 6) rfl
theorem d_Mo_read_340 : decode c_Mo_read 340 = .ok (.getfield 19, 3) := dc_of (x := (340, .getfield 19, 3)) t3_Mo_read_ok (i := 7) rfl
theorem d_Mo_read_343 : decode c_Mo_read 343 = .ok (.iload 5, 2) := dc_of (x := (343, .iload 5, 2)) t3_Mo_read_ok (i := 8) rfl
theorem d_Mo_read_345 : decode c_Mo_read 345 = .ok (.iaload, 1) := dc_of (x := (345, .iaload, 1)) t3_Mo_read_ok (i := 9) rfl
theorem d_Mo_read_346 : decode c_Mo_read 346 = .ok (.iconst 0, 1) := dc_of (x := (346, .iconst 0, 1)) t3_Mo_read_ok (i := 10) rfl
theorem d_Mo_read_347 : decode c_Mo_read 347 = .ok (.aload_n 0, 1) := dc_of (x := (347, .aload_n 0, 1)) t3_Mo_read_ok (i := 11) rfl
theorem d_Mo_read_348 : decode c_Mo_read 348 = .ok (.getfield 25, 3) := dc_of (x := (348, .getfield 25, 3)) t3_Mo_read_ok (i := 12) rfl
theorem d_Mo_read_351 : decode c_Mo_read 351 = .ok (.iload 5, 2) := dc_of (x := (351, .iload 5, 2)) t3_Mo_read_ok (i := 13) rfl
theorem d_Mo_read_353 : decode c_Mo_read 353 = .ok (.iaload, 1) := dc_of (x := (353, .iaload, 1)) t3_Mo_read_ok (i := 14) rfl
theorem d_Mo_read_354 : decode c_Mo_read 354 = .ok (.invokevirtual 83, 3) := dc_of (x := (354, .invokevirtual 83, 3)) t3_Mo_read_ok (i := 15) rfl
theorem d_Mo_read_357 : decode c_Mo_read 357 = .ok (.iinc 5 1, 3) := dc_of (x := (357, .iinc 5 1, 3)) t3_Mo_read_ok (i := 16) rfl
theorem d_Mo_read_360 : decode c_Mo_read 360 = .ok (.goto (-35), 3) := dc_of (x := (360, .goto (-35), 3)) t3_Mo_read_ok (i := 17) rfl
theorem d_Mo_read_363 : decode c_Mo_read 363 = .ok (.iload_n 2, 1) := dc_of (x := (363, .iload_n 2, 1)) t3_Mo_read_ok (i := 18) rfl
theorem d_Mo_read_364 : decode c_Mo_read 364 = .ok (.ireturn, 1) := dc_of (x := (364, .ireturn, 1)) t3_Mo_read_ok (i := 19) rfl
def t0_Mo_write : List (Nat × Instr × Nat) := [(0, .iconst 0, 1), (1, .istore_n 2, 1), (2, .iconst (-1), 1), (3, .istore_n 3, 1), (4, .iconst 0, 1), (5, .istore 4, 2), (7, .iload 4, 2), (9, .aload_n 0, 1), (10, .getfield 7, 3), (13, .bipush 6, 2), (15, .iaload, 1), (16, .if_icmp .ge 265, 3), (19, .iload_n 1, 1), (20, .ifCond .lt 261, 3), (23, .aload_n 0, 1), (24, .getfield 7, 3), (27, .sipush 1450, 3), (30, .iconst 3, 1), (31, .iload 4, 2), (33, .imul, 1), (34, .iadd, 1), (35, .iaload, 1), (36, .istore 5, 2), (38, .iload 5, 2), (40, .iload_n 3, 1), (41, .if_icmp .eq 123, 3), (44, .iconst 1, 1), (45, .istore 6, 2), (47, .iconst 1, 1), (48, .istore 7, 2), (50, .iload 5, 2), (52, .iload 7, 2), (54, .idiv, 1), (55, .bipush 9, 2), (57, .if_icmp .le 16, 3), (60, .bipush 10, 2), (62, .iload 7, 2), (64, .imul, 1), (65, .istore 7, 2), (67, .iinc 6 1, 3), (70, .goto (-20), 3), (73, .iload_n 1, 1), (74, .iload_n 2, 1), (75, .iload 6, 2), (77, .iadd, 1), (78, .iconst 2, 1), (79, .iadd, 1), (80, .if_icmp .ge 74, 3), (83, .aload_n 0, 1), (84, .iconst 0, 1), (85, .putfield 28, 3), (88, .iload_n 1, 1), (89, .iload_n 2, 1), (90, .isub, 1), (91, .istore 8, 2), (93, .iload 7, 2), (95, .istore 9, 2), (97, .iconst 1, 1), (98, .istore 10, 2), (100, .iload 10, 2)]
theorem t0_Mo_write_ok : t0_Mo_write.all (fun x => decide (decode c_Mo_write x.1 = .ok x.2)) = true := by decide +kernel
def t1_Mo_write : List (Nat × Instr × Nat) := [(102, .iload 8, 2), (104, .if_icmp .ge 16, 3), (107, .iload 9, 2), (109, .bipush 10, 2), (111, .idiv, 1), (112, .istore 9, 2), (114, .iinc 10 1, 3), (117, .goto (-17), 3), (120, .iload 8, 2), (122, .ifCond .ne 8, 3), (125, .bipush 35, 2), (127, .goto 26, 3), (130, .iload 8, 2), (132, .iload 6, 2), (134, .if_icmp .le 8, 3), (137, .bipush 10, 2), (139, .goto 14, 3), (142, .bipush 48, 2), (144, .iload 5, 2), (146, .iload 9, 2), (148, .idiv, 1), (149, .bipush 10, 2), (151, .irem, 1), (152, .iadd, 1), (153, .ireturn, 1), (154, .iload_n 2, 1), (155, .iload 6, 2), (157, .iadd, 1), (158, .iconst 2, 1), (159, .iadd, 1), (160, .istore_n 2, 1), (161, .iload 5, 2), (163, .istore_n 3, 1), (164, .iload_n 1, 1), (165, .iload_n 2, 1), (166, .iconst 3, 1), (167, .iadd, 1), (168, .if_icmp .ge 103, 3), (171, .aload_n 0, 1), (172, .iconst 0, 1), (173, .putfield 28, 3), (176, .aload_n 0, 1), (177, .getfield 7, 3), (180, .sipush 1450, 3), (183, .iconst 3, 1), (184, .iload 4, 2), (186, .imul, 1), (187, .iadd, 1), (188, .iconst 2, 1), (189, .iadd, 1), (190, .iaload, 1), (191, .istore 6, 2), (193, .iload_n 1, 1), (194, .iload_n 2, 1), (195, .isub, 1), (196, .istore 7, 2), (198, .iload 7, 2), (200, .iconst 1, 1), (201, .if_icmp .ne 24, 3), (204, .bipush 33, 2)]
theorem t1_Mo_write_ok : t1_Mo_write.all (fun x => decide (decode c_Mo_write x.1 = .ok x.2)) = true := by decide +kernel
def t2_Mo_write : List (Nat × Instr × Nat) := [(206, .aload_n 0, 1), (207, .getfield 7, 3), (210, .sipush 1450, 3), (213, .iconst 3, 1), (214, .iload 4, 2), (216, .imul, 1), (217, .iadd, 1), (218, .iconst 1, 1), (219, .iadd, 1), (220, .iaload, 1), (221, .iadd, 1), (222, .goto 48, 3), (225, .iload 7, 2), (227, .iconst 2, 1), (228, .if_icmp .ne 8, 3), (231, .bipush 10, 2), (233, .goto 37, 3), (236, .iload 6, 2), (238, .ifCond .ne 8, 3), (241, .bipush 48, 2), (243, .goto 27, 3), (246, .iload 6, 2), (248, .iconst 1, 1), (249, .if_icmp .ne 8, 3), (252, .bipush 49, 2), (254, .goto 16, 3), (257, .iload 6, 2), (259, .iconst 2, 1), (260, .if_icmp .ne 8, 3), (263, .bipush 120, 2), (265, .goto 5, 3), (268, .bipush 122, 2), (270, .ireturn, 1), (271, .iload_n 2, 1), (272, .iconst 3, 1), (273, .iadd, 1), (274, .istore_n 2, 1), (275, .iinc 4 1, 3), (278, .goto (-271), 3), (281, .aload_n 0, 1), (282, .iconst 1, 1), (283, .putfield 28, 3), (286, .iconst 0, 1), (287, .ireturn, 1)]
theorem t2_Mo_write_ok : t2_Mo_write.all (fun x => decide (decode c_Mo_write x.1 = .ok x.2)) = true := by decide +kernel
theorem d_Mo_write_0 : decode c_Mo_write 0 = .ok (.iconst 0, 1) := dc_of (x := (0, .iconst 0, 1)) t0_Mo_write_ok (i := 0) rfl
theorem d_Mo_write_1 : decode c_Mo_write 1 = .ok (.istore_n 2, 1) := dc_of (x := (1, .istore_n 2, 1)) t0_Mo_write_ok (i := 1) rfl
theorem d_Mo_write_2 : decode c_Mo_write 2 = .ok (.iconst (-1), 1) := dc_of (x := (2, .iconst (-1), 1)) t0_Mo_write_ok (i := 2) rfl
theorem d_Mo_write_3 : decode c_Mo_write 3 = .ok (.istore_n 3, 1) := dc_of (x := (3, .istore_n 3, 1)) t0_Mo_write_ok (i := 3) rfl
theorem d_Mo_write_4 : decode c_Mo_write 4 = .ok (.iconst 0, 1) := dc_of (x := (4, .iconst 0, 1)) t0_Mo_write_ok (i := 4) rfl
theorem d_Mo_write_5 : decode c_Mo_write 5 = .ok (.istore 4, 2) := dc_of (x := (5, .istore 4, 2)) t0_Mo_write_ok (i := 5) rfl
theorem d_Mo_write_7 : decode c_Mo_write 7 = .ok (.iload 4, 2) := dc_of (x := (7, .iload 4, 2)) t0_Mo_write_ok (i := 6) rfl
theorem d_Mo_write_9 : decode c_Mo_write 9 = .ok (.aload_n 0, 1) := dc_of (x := (9, .aload_n 0, 1)) t0_Mo_write_ok (i := 7) rfl
theorem d_Mo_write_10 : decode c_Mo_write 10 = .ok (.getfield 7, 3) := dc_of (x := (10, .getfield 7, 3)) t0_Mo_write_ok (i := 8) rfl
theorem d_Mo_write_13 : decode c_Mo_write 13 = .ok (.bipush 6, 2) := dc_of (x := (13, .bipush 6, 2)) t0_Mo_write_ok (i := 9) rfl
theorem d_Mo_write_15 : decode c_Mo_write 15 = .ok (.iaload, 1) := dc_of (x := (15, .iaload, 1)) t0_Mo_write_ok (i := 10) rfl
theorem d_Mo_write_16 : decode c_Mo_write 16 = .ok (.if_icmp .ge 265, 3) := dc_of (x := (16, .if_icmp .ge 265, 3)) t0_Mo_write_ok (i := 11) rfl
theorem d_Mo_write_19 : decode c_Mo_write 19 = .ok (.iload_n 1, 1) := dc_of (x := (19, .iload_n 1, 1)) t0_Mo_write_ok (i := 12) rfl
theorem d_Mo_write_20 : decode c_Mo_write 20 = .ok (.ifCond .lt 261, 3) := dc_of (x := (20, .ifCond .lt 261, 3)) t0_Mo_write_ok (i := 13) rfl
theorem d_Mo_write_23 : decode c_Mo_write 23 = .ok (.aload_n 0, 1) := dc_of (x := (23, .aload_n 0, 1)) t0_Mo_write_ok (i := 14) rfl
theorem d_Mo_write_24 : decode c_Mo_write 24 = .ok (.getfield 7, 3) := dc_of (x := (24, .getfield 7, 3)) t0_Mo_write_ok (i := 15) rfl
theorem d_Mo_write_27 : decode c_Mo_write 27 = .ok (.sipush 1450, 3) := dc_of (x := (27, .sipush 1450, 3)) t0_Mo_write_ok (i := 16) rfl
theorem d_Mo_write_30 : decode c_Mo_write 30 = .ok (.iconst 3, 1) := dc_of (x := (30, .iconst 3, 1)) t0_Mo_write_ok (i := 17) rfl
theorem d_Mo_write_31 : decode c_Mo_write 31 = .ok (.iload 4, 2) := dc_of (x := (31, .iload 4, 2)) t0_Mo_write_ok (i := 18) rfl
theorem d_Mo_write_33 : decode c_Mo_write 33 = .ok (.imul, 1) := dc_of (x := (33, .imul, 1)) t0_Mo_write_ok (i := 19) rfl
theorem d_Mo_write_34 : decode c_Mo_write 34 = .ok (.iadd, 1) := dc_of (x := (34, .iadd, 1)) t0_Mo_write_ok (i := 20) rfl
theorem d_Mo_write_35 : decode c_Mo_write 35 = .ok (.iaload, 1) := dc_of (x := (35, .iaload, 1)) t0_Mo_write_ok (i := 21) rfl
theorem d_Mo_write_36 : decode c_Mo_write 36 = .ok (.istore 5, 2) := dc_of (x := (36, .istore 5, 2)) t0_Mo_write_ok (i := 22) rfl
theorem d_Mo_write_38 : decode c_Mo_write 38 = .ok (.iload 5, 2) := dc_of (x := (38, .iload 5, 2)) t0_Mo_write_ok (i := 23) rfl
theorem d_Mo_write_40 : decode c_Mo_write 40 = .ok (.iload_n 3, 1) := dc_of (x := (40, .iload_n 3, 1)) t0_Mo_write_ok (i := 24) rfl
theorem d_Mo_write_41 : decode c_Mo_write 41 = .ok (.if_icmp .eq 123, 3) := dc_of (x := (41, .if_icmp .eq 123, 3)) t0_Mo_write_ok (i := 25) rfl
theorem d_Mo_write_44 : decode c_Mo_write 44 = .ok (.iconst 1, 1) := dc_of (x := (44, .iconst 1, 1)) t0_Mo_write_ok (i := 26) rfl
theorem d_Mo_write_45 : decode c_Mo_write 45 = .ok (.istore 6, 2) := dc_of (x := (45, .istore 6, 2)) t0_Mo_write_ok (i := 27) rfl
theorem d_Mo_write_47 : decode c_Mo_write 47 = .ok (.iconst 1, 1) := dc_of (x := (47, .iconst 1, 1)) t0_Mo_write_ok (i := 28) rfl
theorem d_Mo_write_48 : decode c_Mo_write 48 = .ok (.istore 7, 2) := dc_of (x := (48, .istore 7, 2)) t0_Mo_write_ok (i := 29) rfl
theorem d_Mo_write_50 : decode c_Mo_write 50 = .ok (.iload 5, 2) := dc_of (x := (50, .iload 5, 2)) t0_Mo_write_ok (i := 30) rfl
theorem d_Mo_write_52 : decode c_Mo_write 52 = .ok (.iload 7, 2) := dc_of (x := (52, .iload 7, 2)) t0_Mo_write_ok (i := 31) rfl
theorem d_Mo_write_54 : decode c_Mo_write 54 = .ok (.idiv, 1) := dc_of (x := (54, .idiv, 1)) t0_Mo_write_ok (i := 32) rfl
theorem d_Mo_write_55 : decode c_Mo_write 55 = .ok (.bipush 9, 2) := dc_of (x := (55, .bipush 9, 2)) t0_Mo_write_ok (i := 33) rfl
theorem d_Mo_write_57 : decode c_Mo_write 57 = .ok (.if_icmp .le 16, 3) := dc_of (x := (57, .if_icmp .le 16, 3)) t0_Mo_write_ok (i := 34) rfl
theorem d_Mo_write_60 : decode c_Mo_write 60 = .ok (.bipush 10, 2) := dc_of (x := (60, .bipush 10, 2)) t0_Mo_write_ok (i := 35) rfl
theorem d_Mo_write_62 : decode c_Mo_write 62 = .ok (.iload 7, 2) := dc_of (x := (62, .iload 7, 2)) t0_Mo_write_ok (i := 36) rfl
theorem d_Mo_write_64 : decode c_Mo_write 64 = .ok (.imul, 1) := dc_of (x := (64, .imul, 1)) t0_Mo_write_ok (i := 37) rfl
theorem d_Mo_write_65 : decode c_Mo_write 65 = .ok (.istore 7, 2) := dc_of (x := (65, .istore 7, 2)) t0_Mo_write_ok (i := 38) rfl
theorem d_Mo_write_67 : decode c_Mo_write 67 = .ok (.iinc 6 1, 3) := dc_of (x := (67, .iinc 6 1, 3)) t0_Mo_write_ok (i := 39) rfl
theorem d_Mo_write_70 : decode c_Mo_write 70 = .ok (.goto (-20), 3) := dc_of (x := (70, .goto (-20), 3)) t0_Mo_write_ok (i := 40) rfl
theorem d_Mo_write_73 : decode c_Mo_write 73 = .ok (.iload_n 1, 1) := dc_of (x := (73, .iload_n 1, 1)) t0_Mo_write_ok (i := 41) rfl
theorem d_Mo_write_74 : decode c_Mo_write 74 = .ok (.iload_n 2, 1) := dc_of (x := (74, .iload_n 2, 1)) t0_Mo_write_ok (i := 42) rfl
theorem d_Mo_write_75 : decode c_Mo_write 75 = .ok (.iload 6, 2) := dc_of (x := (75, .iload 6, 2)) t0_Mo_write_ok (i := 43) rfl
theorem d_Mo_write_77 : decode c_Mo_write 77 = .ok (.iadd, 1) := dc_of (x := (77, .iadd, 1)) t0_Mo_write_ok (i := 44) rfl
theorem d_Mo_write_78 : decode c_Mo_write 78 = .ok (.iconst 2, 1) := dc_of (x := (78, .iconst 2, 1)) t0_Mo_write_ok (i := 45) rfl
theorem d_Mo_write_79 : decode c_Mo_write 79 = .ok (.iadd, 1) := dc_of (x := (79, .iadd, 1)) t0_Mo_write_ok (i := 46) rfl
theorem d_Mo_write_80 : decode c_Mo_write 80 = .ok (.if_icmp .ge 74, 3) := dc_of (x := (80, .if_icmp .ge 74, 3)) t0_Mo_write_ok (i := 47) rfl
theorem d_Mo_write_83 : decode c_Mo_write 83 = .ok (.aload_n 0, 1) := dc_of (x := (83, .aload_n 0, 1)) t0_Mo_write_ok (i := 48) rfl
theorem d_Mo_write_84 : decode c_Mo_write 84 = .ok (.iconst 0, 1) := dc_of (x := (84, .iconst 0, 1)) t0_Mo_write_ok (i := 49) rfl
theorem d_Mo_write_85 : decode c_Mo_write 85 = .ok (.putfield 28, 3) := dc_of (x := (85, .putfield 28, 3)) t0_Mo_write_ok (i := 50) rfl
theorem d_Mo_write_88 : decode c_Mo_write 88 = .ok (.iload_n 1, 1) := dc_of (x := (88, .iload_n 1, 1)) t0_Mo_write_ok (i := 51) rfl
theorem d_Mo_write_89 : decode c_Mo_write 89 = .ok (.iload_n 2, 1) := dc_of (x := (89, .iload_n 2, 1)) t0_Mo_write_ok (i := 52) rfl
theorem d_Mo_write_90 : decode c_Mo_write 90 = .ok (.isub, 1) := dc_of (x := (90, .isub, 1)) t0_Mo_write_ok (i := 53) rfl
theorem d_Mo_write_91 : decode c_Mo_write 91 = .ok (.istore 8, 2) := dc_of (x := (91, .istore 8, 2)) t0_Mo_write_ok (i := 54) rfl
theorem d_Mo_write_93 : decode c_Mo_write 93 = .ok (.iload 7, 2) := dc_of (x := (93, .iload 7, 2)) t0_Mo_write_ok (i := 55) rfl
theorem d_Mo_write_95 : decode c_Mo_write 95 = .ok (.istore 9, 2) := dc_of (x := (95, .istore 9, 2)) t0_Mo_write_ok (i := 56) rfl
theorem d_Mo_write_97 : decode c_Mo_write 97 = .ok (.iconst 1, 1) := dc_of (x := (97, .iconst 1, 1)) t0_Mo_write_ok (i := 57) rfl
theorem d_Mo_write_98 : decode c_Mo_write 98 = .ok (.istore 10, 2) := dc_of (x := (98, .istore 10, 2)) t0_Mo_write_ok (i := 58) rfl
theorem d_Mo_write_100 : decode c_Mo_write 100 = .ok (.iload 10, 2) := dc_of (x := (100, .iload 10, 2)) t0_Mo_write_ok (i := 59) rfl
theorem d_Mo_write_102 : decode c_Mo_write 102 = .ok (.iload 8, 2) := dc_of (x := (102, .iload 8, 2)) t1_Mo_write_ok (i := 0) rfl
theorem d_Mo_write_104 : decode c_Mo_write 104 = .ok (.if_icmp .ge 16, 3) := dc_of (x := (104, .if_icmp .ge 16, 3)) t1_Mo_write_ok (i := 1) rfl
theorem d_Mo_write_107 : decode c_Mo_write 107 = .ok (.iload 9, 2) := dc_of (x := (107, .iload 9, 2)) t1_Mo_write_ok (i := 2) rfl
theorem d_Mo_write_109 : decode c_Mo_write 109 = .ok (.bipush 10, 2) := dc_of (x := (109, .bipush 10, 2)) t1_Mo_write_ok (i := 3) rfl
theorem d_Mo_write_111 : decode c_Mo_write 111 = .ok (.idiv, 1) := dc_of (x := (111, .idiv, 1)) t1_Mo_write_ok (i := 4) rfl
theorem d_Mo_write_112 : decode c_Mo_write 112 = .ok (.istore 9, 2) := dc_of (x := (112, .istore 9, 2)) t1_Mo_write_ok (i := 5) rfl
theorem d_Mo_write_114 : decode c_Mo_write 114 = .ok (.iinc 10 1, 3) := dc_of (x := (114, .iinc 10 1, 3)) t1_Mo_write_ok (i := 6) rfl
theorem d_Mo_write_117 : decode c_Mo_write 117 = .ok (.goto (-17), 3) := dc_of (x := (117, .goto (-17), 3)) t1_Mo_write_ok (i := 7) rfl
theorem d_Mo_write_120 : decode c_Mo_write 120 = .ok (.iload 8, 2) := dc_of (x := (120, .iload 8, 2)) t1_Mo_write_ok (i := 8) rfl
theorem d_Mo_write_122 : decode c_Mo_write 122 = .ok (.ifCond .ne 8, 3) := dc_of (x := (122, .ifCond .ne 8, 3)) t1_Mo_write_ok (i := 9) rfl
theorem d_Mo_write_125 : decode c_Mo_write 125 = .ok (.bipush 35, 2) := dc_of (x := (125, .bipush 35, 2)) t1_Mo_write_ok (i := 10) rfl
theorem d_Mo_write_127 : decode c_Mo_write 127 = .ok (.goto 26, 3) := dc_of (x := (127, .goto 26, 3)) t1_Mo_write_ok (i := 11) rfl
theorem d_Mo_write_130 : decode c_Mo_write 130 = .ok (.iload 8, 2) := dc_of (x := (130, .iload 8, 2)) t1_Mo_write_ok (i := 12) rfl
theorem d_Mo_write_132 : decode c_Mo_write 132 = .ok (.iload 6, 2) := dc_of (x := (132, .iload 6, 2)) t1_Mo_write_ok (i := 13) rfl
theorem d_Mo_write_134 : decode c_Mo_write 134 = .ok (.if_icmp .le 8, 3) := dc_of (x := (134, .if_icmp .le 8, 3)) t1_Mo_write_ok (i := 14) rfl
theorem d_Mo_write_137 : decode c_Mo_write 137 = .ok (.bipush 10, 2) := dc_of (x := (137, .bipush 10, 2)) t1_Mo_write_ok (i := 15) rfl
theorem d_Mo_write_139 : decode c_Mo_write 139 = .ok (.goto 14, 3) := dc_of (x := (139, .goto 14, 3)) t1_Mo_write_ok (i := 16) rfl
theorem d_Mo_write_142 : decode c_Mo_write 142 = .ok (.bipush 48, 2) := dc_of (x := (142, .bipush 48, 2)) t1_Mo_write_ok (i := 17) rfl
theorem d_Mo_write_144 : decode c_Mo_write 144 = .ok (.iload 5, 2) := dc_of (x := (144, .iload 5, 2)) t1_Mo_write_ok (i := 18) rfl
theorem d_Mo_write_146 : decode c_Mo_write 146 = .ok (.iload 9, 2) := dc_of (x := (146, .iload 9, 2)) t1_Mo_write_ok (i := 19) rfl
theorem d_Mo_write_148 : decode c_Mo_write 148 = .ok (.idiv, 1) := dc_of (x := (148, .idiv, 1)) t1_Mo_write_ok (i := 20) rfl
theorem d_Mo_write_149 : decode c_Mo_write 149 = .ok (.bipush 10, 2) := dc_of (x := (149, .bipush 10, 2)) t1_Mo_write_ok (i := 21) rfl
theorem d_Mo_write_151 : decode c_Mo_write 151 = .ok (.irem, 1) := dc_of (x := (151, .irem, 1)) t1_Mo_write_ok (i := 22) rfl
theorem d_Mo_write_152 : decode c_Mo_write 152 = .ok (.iadd, 1) := dc_of (x := (152, .iadd, 1)) t1_Mo_write_ok (i := 23) rfl
theorem d_Mo_write_153 : decode c_Mo_write 153 = .ok (.ireturn, 1) := dc_of (x := (153, .ireturn, 1)) t1_Mo_write_ok (i := 24) rfl
theorem d_Mo_write_154 : decode c_Mo_write 154 = .ok (.iload_n 2, 1) := dc_of (x := (154, .iload_n 2, 1)) t1_Mo_write_ok (i := 25) rfl
theorem d_Mo_write_155 : decode c_Mo_write 155 = .ok (.iload 6, 2) := dc_of (x := (155, .iload 6, 2)) t1_Mo_write_ok (i := 26) rfl
theorem d_Mo_write_157 : decode c_Mo_write 157 = .ok (.iadd, 1) := dc_of (x := (157, .iadd, 1)) t1_Mo_write_ok (i := 27) rfl
theorem d_Mo_write_158 : decode c_Mo_write 158 = .ok (.iconst 2, 1) := dc_of (x := (158, .iconst 2, 1)) t1_Mo_write_ok (i := 28) rfl
theorem d_Mo_write_159 : decode c_Mo_write 159 = .ok (.iadd, 1) := dc_of (x := (159, .iadd, 1)) t1_Mo_write_ok (i := 29) rfl
theorem d_Mo_write_160 : decode c_Mo_write 160 = .ok (.istore_n 2, 1) := dc_of (x := (160, .istore_n 2, 1)) t1_Mo_write_ok (i := 30) rfl
theorem d_Mo_write_161 : decode c_Mo_write 161 = .ok (.iload 5, 2) := dc_of (x := (161, .iload 5, 2)) t1_Mo_write_ok (i := 31) rfl
theorem d_Mo_write_163 : decode c_Mo_write 163 = .ok (.istore_n 3, 1) := dc_of (x := (163, .istore_n 3, 1)) t1_Mo_write_ok (i := 32) rfl
theorem d_Mo_write_164 : decode c_Mo_write 164 = .ok (.iload_n 1, 1) := dc_of (x := (164, .iload_n 1, 1)) t1_Mo_write_ok (i := 33) rfl
theorem d_Mo_write_165 : decode c_Mo_write 165 = .ok (.iload_n 2, 1) := dc_of (x := (165, .iload_n 2, 1)) t1_Mo_write_ok (i := 34) rfl
theorem d_Mo_write_166 : decode c_Mo_write 166 = .ok (.iconst 3, 1) := dc_of (x := (166, .iconst 3, 1)) t1_Mo_write_ok (i := 35) rfl
theorem d_Mo_write_167 : decode c_Mo_write 167 = .ok (.iadd, 1) := dc_of (x := (167, .iadd, 1)) t1_Mo_write_ok (i := 36) rfl
theorem d_Mo_write_168 : decode c_Mo_write 168 = .ok (.if_icmp .ge 103, 3) := dc_of (x := (168, .if_icmp .ge 103, 3)) t1_Mo_write_ok (i := 37) rfl
theorem d_Mo_write_171 : decode c_Mo_write 171 = .ok (.aload_n 0, 1) := dc_of (x := (171, .aload_n 0, 1)) t1_Mo_write_ok (i := 38) rfl
theorem d_Mo_write_172 : decode c_Mo_write 172 = .ok (.iconst 0, 1) := dc_of (x := (172, .iconst 0, 1)) t1_Mo_write_ok (i := 39) rfl
theorem d_Mo_write_173 : decode c_Mo_write 173 = .ok (.putfield 28, 3) := dc_of (x := (173, .putfield 28, 3)) t1_Mo_write_ok (i := 40) rfl
theorem d_Mo_write_176 : decode c_Mo_write 176 = .ok (.aload_n 0, 1) := dc_of (x := (176, .aload_n 0, 1)) t1_Mo_write_ok (i := 41) rfl
theorem d_Mo_write_177 : decode c_Mo_write 177 = .ok (.getfield 7, 3) := dc_of (x := (177, .getfield 7, 3)) t1_Mo_write_ok (i := 42) rfl
theorem d_Mo_write_180 : decode c_Mo_write 180 = .ok (.sipush 1450, 3) := dc_of (x := (180, .sipush 1450, 3)) t1_Mo_write_ok (i := 43) rfl
theorem d_Mo_write_183 : decode c_Mo_write 183 = .ok (.iconst 3, 1) := dc_of (x := (183, .iconst 3, 1)) t1_Mo_write_ok (i := 44) rfl
theorem d_Mo_write_184 : decode c_Mo_write 184 = .ok (.iload 4, 2) := dc_of (x := (184, .iload 4, 2)) t1_Mo_write_ok (i := 45) rfl
theorem d_Mo_write_186 : decode c_Mo_write 186 = .ok (.imul, 1) := dc_of (x := (186, .imul, 1)) t1_Mo_write_ok (i := 46) rfl
theorem d_Mo_write_187 : decode c_Mo_write 187 = .ok (.iadd, 1) := dc_of (x := (187, .iadd, 1)) t1_Mo_write_ok (i := 47) rfl
theorem d_Mo_write_188 : decode c_Mo_write 188 = .ok (.iconst 2, 1) := dc_of (x := (188, .iconst 2, 1)) t1_Mo_write_ok (i := 48) rfl
theorem d_Mo_write_189 : decode c_Mo_write 189 = .ok (.iadd, 1) := dc_of (x := (189, .iadd, 1)) t1_Mo_write_ok (i := 49) rfl
theorem d_Mo_write_190 : decode c_Mo_write 190 = .ok (.iaload, 1) := dc_of (x := (190, .iaload, 1)) t1_Mo_write_ok (i := 50) rfl
theorem d_Mo_write_191 : decode c_Mo_write 191 = .ok (.istore 6, 2) := dc_of (x := (191, .istore 6, 2)) t1_Mo_write_ok (i := 51) rfl
theorem d_Mo_write_193 : decode c_Mo_write 193 = .ok (.iload_n 1, 1) := dc_of (x := (193, .iload_n 1, 1)) t1_Mo_write_ok (i := 52) rfl
theorem d_Mo_write_194 : decode c_Mo_write 194 = .ok (.iload_n 2, 1) := dc_of (x := (194, .iload_n 2, 1)) t1_Mo_write_ok (i := 53) rfl
theorem d_Mo_write_195 : decode c_Mo_write 195 = .ok (.isub, 1) := dc_of (x := (195, .isub, 1)) t1_Mo_write_ok (i := 54) rfl
theorem d_Mo_write_196 : decode c_Mo_write 196 = .ok (.istore 7, 2) := dc_of (x := (196, .istore 7, 2)) t1_Mo_write_ok (i := 55) rfl
theorem d_Mo_write_198 : decode c_Mo_write 198 = .ok (.iload 7, 2) := dc_of (x := (198, .iload 7, 2)) t1_Mo_write_ok (i := 56) rfl
theorem d_Mo_write_200 : decode c_Mo_write 200 = .ok (.iconst 1, 1) := dc_of (x := (200, .iconst 1, 1)) t1_Mo_write_ok (i := 57) rfl
theorem d_Mo_write_201 : decode c_Mo_write 201 = .ok (.if_icmp .ne 24, 3) := dc_of (x := (201, .if_icmp .ne 24, 3)) t1_Mo_write_ok (i := 58) rfl
theorem d_Mo_write_204 : decode c_Mo_write 204 = .ok (.bipush 33, 2) := dc_of (x := (204, .bipush 33, 2)) t1_Mo_write_ok (i := 59) rfl
theorem d_Mo_write_206 : decode c_Mo_write 206 = .ok (.aload_n 0, 1) := dc_of (x := (206, .aload_n 0, 1)) t2_Mo_write_ok (i := 0) rfl
theorem d_Mo_write_207 : decode c_Mo_write 207 = .ok (.getfield 7, 3) := dc_of (x := (207, .getfield 7, 3)) t2_Mo_write_ok (i := 1) rfl
theorem d_Mo_write_210 : decode c_Mo_write 210 = .ok (.sipush 1450, 3) := dc_of (x := (210, .sipush 1450, 3)) t2_Mo_write_ok (i := 2) rfl
theorem d_Mo_write_213 : decode c_Mo_write 213 = .ok (.iconst 3, 1) := dc_of (x := (213, .iconst 3, 1)) t2_Mo_write_ok (i := 3) rfl
theorem d_Mo_write_214 : decode c_Mo_write 214 = .ok (.iload 4, 2) := dc_of (x := (214, .iload 4, 2)) t2_Mo_write_ok (i := 4) rfl
theorem d_Mo_write_216 : decode c_Mo_write 216 = .ok (.imul, 1) := dc_of (x := (216, .imul, 1)) t2_Mo_write_ok (i := 5) rfl
theorem d_Mo_write_217 : decode c_Mo_write 217 = .ok (.iadd, 1) := dc_of (x := (217, .iadd, 1)) t2_Mo_write_ok (i := 6) rfl
theorem d_Mo_write_218 : decode c_Mo_write 218 = .ok (.iconst 1, 1) := dc_of (x := (218, .iconst 1, 1)) t2_Mo_write_ok (i := 7) rfl
theorem d_Mo_write_219 : decode c_Mo_write 219 = .ok (.iadd, 1) := dc_of (x := (219, .iadd, 1)) t2_Mo_write_ok (i := 8) rfl
theorem d_Mo_write_220 : decode c_Mo_write 220 = .ok (.iaload, 1) := dc_of (x := (220, .iaload, 1)) t2_Mo_write_ok (i := 9) rfl
theorem d_Mo_write_221 : decode c_Mo_write 221 = .ok (.iadd, 1) := dc_of (x := (221, .iadd, 1)) t2_Mo_write_ok (i := 10) rfl
theorem d_Mo_write_222 : decode c_Mo_write 222 = .ok (.goto 48, 3) := dc_of (x := (222, .goto 48, 3)) t2_Mo_write_ok (i := 11) rfl
theorem d_Mo_write_225 : decode c_Mo_write 225 = .ok (.iload 7, 2) := dc_of (x := (225, .iload 7, 2)) t2_Mo_write_ok (i := 12) rfl
theorem d_Mo_write_227 : decode c_Mo_write 227 = .ok (.iconst 2, 1) := dc_of (x := (227, .iconst 2, 1)) t2_Mo_write_ok (i := 13) rfl
theorem d_Mo_write_228 : decode c_Mo_write 228 = .ok (.if_icmp .ne 8, 3) := dc_of (x := (228, .if_icmp .ne 8, 3)) t2_Mo_write_ok (i := 14) rfl
theorem d_Mo_write_231 : decode c_Mo_write 231 = .ok (.bipush 10, 2) := dc_of (x := (231, .bipush 10, 2)) t2_Mo_write_ok (i := 15) rfl
theorem d_Mo_write_233 : decode c_Mo_write 233 = .ok (.goto 37, 3) := dc_of (x := (233, .goto 37, 3)) t2_Mo_write_ok (i := 16) rfl
theorem d_Mo_write_236 : decode c_Mo_write 236 = .ok (.iload 6, 2) := dc_of (x := (236, .iload 6, 2)) t2_Mo_write_ok (i := 17) rfl
theorem d_Mo_write_238 : decode c_Mo_write 238 = .ok (.ifCond .ne 8, 3) := dc_of (x := (238, .ifCond .ne 8, 3)) t2_Mo_write_ok (i := 18) rfl
theorem d_Mo_write_241 : decode c_Mo_write 241 = .ok (.bipush 48, 2) := dc_of (x := (241, .bipush 48, 2)) t2_Mo_write_ok (i := 19) rfl
theorem d_Mo_write_243 : decode c_Mo_write 243 = .ok (.goto 27, 3) := dc_of (x := (243, .goto 27, 3)) t2_Mo_write_ok (i := 20) rfl
theorem d_Mo_write_246 : decode c_Mo_write 246 = .ok (.iload 6, 2) := dc_of (x := (246, .iload 6, 2)) t2_Mo_write_ok (i := 21) rfl
theorem d_Mo_write_248 : decode c_Mo_write 248 = .ok (.iconst 1, 1) := dc_of (x := (248, .iconst 1, 1)) t2_Mo_write_ok (i := 22) rfl
theorem d_Mo_write_249 : decode c_Mo_write 249 = .ok (.if_icmp .ne 8, 3) := dc_of (x := (249, .if_icmp .ne 8, 3)) t2_Mo_write_ok (i := 23) rfl
theorem d_Mo_write_252 : decode c_Mo_write 252 = .ok (.bipush 49, 2) := dc_of (x := (252, .bipush 49, 2)) t2_Mo_write_ok (i := 24) rfl
theorem d_Mo_write_254 : decode c_Mo_write 254 = .ok (.goto 16, 3) := dc_of (x := (254, .goto 16, 3)) t2_Mo_write_ok (i := 25) rfl
theorem d_Mo_write_257 : decode c_Mo_write 257 = .ok (.iload 6, 2) := dc_of (x := (257, .iload 6, 2)) t2_Mo_write_ok (i := 26) rfl
theorem d_Mo_write_259 : decode c_Mo_write 259 = .ok (.iconst 2, 1) := dc_of (x := (259, .iconst 2, 1)) t2_Mo_write_ok (i := 27) rfl
theorem d_Mo_write_260 : decode c_Mo_write 260 = .ok (.if_icmp .ne 8, 3) := dc_of (x := (260, .if_icmp .ne 8, 3)) t2_Mo_write_ok (i := 28) rfl
theorem d_Mo_write_263 : decode c_Mo_write 263 = .ok (.bipush 120, 2) := dc_of (x := (263, .bipush 120, 2)) t2_Mo_write_ok (i := 29) rfl
theorem d_Mo_write_265 : decode c_Mo_write 265 = .ok (.goto 5, 3) := dc_of (x := (265, .goto 5, 3)) t2_Mo_write_ok (i := 30) rfl
theorem d_Mo_write_268 : decode c_Mo_write 268 = .ok (.bipush 122, 2) := dc_of (x := (268, .bipush 122, 2)) t2_Mo_write_ok (i := 31) rfl
theorem d_Mo_write_270 : decode c_Mo_write 270 = .ok (.ireturn, 1) := dc_of (x := (270, .ireturn, 1)) t2_Mo_write_ok (i := 32) rfl
theorem d_Mo_write_271 : decode c_Mo_write 271 = .ok (.iload_n 2, 1) := dc_of (x := (271, .iload_n 2, 1)) t2_Mo_write_ok (i := 33) rfl
theorem d_Mo_write_272 : decode c_Mo_write 272 = .ok (.iconst 3, 1) := dc_of (x := (272, .iconst 3, 1)) t2_Mo_write_ok (i := 34) rfl
theorem d_Mo_write_273 : decode c_Mo_write 273 = .ok (.iadd, 1) := dc_of (x := (273, .iadd, 1)) t2_Mo_write_ok (i := 35) rfl
theorem d_Mo_write_274 : decode c_Mo_write 274 = .ok (.istore_n 2, 1) := dc_of (x := (274, .istore_n 2, 1)) t2_Mo_write_ok (i := 36) rfl
theorem d_Mo_write_275 : decode c_Mo_write 275 = .ok (.iinc 4 1, 3) := dc_of (x := (275, .iinc 4 1, 3)) t2_Mo_write_ok (i := 37) rfl
theorem d_Mo_write_278 : decode c_Mo_write 278 = .ok (.goto (-271), 3) := dc_of (x := (278, .goto (-271), 3)) t2_Mo_write_ok (i := 38) rfl
theorem d_Mo_write_281 : decode c_Mo_write 281 = .ok (.aload_n 0, 1) := dc_of (x := (281, .aload_n 0, 1)) t2_Mo_write_ok (i := 39) rfl
theorem d_Mo_write_282 : decode c_Mo_write 282 = .ok (.iconst 1, 1) := dc_of (x := (282, .iconst 1, 1)) t2_Mo_write_ok (i := 40) rfl
theorem d_Mo_write_283 : decode c_Mo_write 283 = .ok (.putfield 28, 3) := dc_of (x := (283, .putfield 28, 3)) t2_Mo_write_ok (i := 41) rfl
theorem d_Mo_write_286 : decode c_Mo_write 286 = .ok (.iconst 0, 1) := dc_of (x := (286, .iconst 0, 1)) t2_Mo_write_ok (i := 42) rfl
theorem d_Mo_write_287 : decode c_Mo_write 287 = .ok (.ireturn, 1) := dc_of (x := (287, .ireturn, 1)) t2_Mo_write_ok (i := 43) rfl
def t0_Mo_save : List (Nat × Instr × Nat) := [(0, .aload_n 0, 1), (1, .aload_n 0, 1), (2, .getfield 125, 3), (5, .iconst 4, 1), (6, .if_icmp .ne 7, 3), (9, .iconst 1, 1), (10, .goto 4, 3), (13, .iconst 0, 1), (14, .putfield 28, 3), (17, .aload_n 0, 1), (18, .getfield 28, 3), (21, .ifCond .le 5, 3), (24, .iconst 0, 1), (25, .ireturn, 1), (26, .iconst 0, 1), (27, .istore_n 1, 1), (28, .iload_n 1, 1), (29, .sipush 3300, 3), (32, .if_icmp .ge 30, 3), (35, .aload_n 0, 1), (36, .getfield 13, 3), (39, .sipush 3300, 3), (42, .aload_n 0, 1), (43, .getfield 125, 3), (46, .imul, 1), (47, .iload_n 1, 1), (48, .iadd, 1), (49, .aload_n 0, 1), (50, .getfield 7, 3), (53, .iload_n 1, 1), (54, .iaload, 1), (55, .iastore, 1), (56, .iinc 1 1, 3), (59, .goto (-31), 3), (62, .aload_n 0, 1), (63, .dup, 1), (64, .getfield 125, 3), (67, .iconst 1, 1), (68, .iadd, 1), (69, .putfield 125, 3), (72, .aload_n 0, 1), (73, .getfield 125, 3), (76, .iconst 1, 1), (77, .isub, 1), (78, .ireturn, 1)]
theorem t0_Mo_save_ok : t0_Mo_save.all (fun x => decide (decode c_Mo_save x.1 = .ok x.2)) = true := by decide +kernel
theorem d_Mo_save_0 : decode c_Mo_save 0 = .ok (.aload_n 0, 1) := dc_of (x := (0, .aload_n 0, 1)) t0_Mo_save_ok (i := 0) rfl
theorem d_Mo_save_1 : decode c_Mo_save 1 = .ok (.aload_n 0, 1) := dc_of (x := (1, .aload_n 0, 1)) t0_Mo_save_ok (i := 1) rfl
theorem d_Mo_save_2 : decode c_Mo_save 2 = .ok (.getfield 125, 3) := dc_of (x := (2, .getfield 125, 3)) t0_Mo_save_ok (i := 2) rfl
theorem d_Mo_save_5 : decode c_Mo_save 5 = .ok (.iconst 4, 1) := dc_of (x := (5, .iconst 4, 1)) t0_Mo_save_ok (i := 3) rfl
theorem d_Mo_save_6 : decode c_Mo_save 6 = .ok (.if_icmp .ne 7, 3) := dc_of (x := (6, .if_icmp .ne 7, 3)) t0_Mo_save_ok (i := 4) rfl
theorem d_Mo_save_9 : decode c_Mo_save 9 = .ok (.iconst 1, 1) := dc_of (x := (9, .iconst 1, 1)) t0_Mo_save_ok (i := 5) rfl
theorem d_Mo_save_10 : decode c_Mo_save 10 = .ok (.goto 4, 3) := dc_of (x := (10, .goto 4, 3)) t0_Mo_save_ok (i := 6) rfl
theorem d_Mo_save_13 : decode c_Mo_save 13 = .ok (.iconst 0, 1) := dc_of (x := (13, .iconst 0, 1)) t0_Mo_save_ok (i := 7) rfl
theorem d_Mo_save_14 : decode c_Mo_save 14 = .ok (.putfield 28, 3) := dc_of (x := (14, .putfield 28, 3)) t0_Mo_save_ok (i := 8) rfl
theorem d_Mo_save_17 : decode c_Mo_save 17 = .ok (.aload_n 0, 1) := dc_of (x := (17, .aload_n 0, 1)) t0_Mo_save_ok (i := 9) rfl
theorem d_Mo_save_18 : decode c_Mo_save 18 = .ok (.getfield 28, 3) := dc_of (x := (18, .getfield 28, 3)) t0_Mo_save_ok (i := 10) rfl
theorem d_Mo_save_21 : decode c_Mo_save 21 = .ok (.ifCond .le 5, 3) := dc_of (x := (21, .ifCond .le 5, 3)) t0_Mo_save_ok (i := 11) rfl
theorem d_Mo_save_24 : decode c_Mo_save 24 = .ok (.iconst 0, 1) := dc_of (x := (24, .iconst 0, 1)) t0_Mo_save_ok (i := 12) rfl
theorem d_Mo_save_25 : decode c_Mo_save 25 = .ok (.ireturn, 1) := dc_of (x := (25, .ireturn, 1)) t0_Mo_save_ok (i := 13) rfl
theorem d_Mo_save_26 : decode c_Mo_save 26 = .ok (.iconst 0, 1) := dc_of (x := (26, .iconst 0, 1)) t0_Mo_save_ok (i := 14) rfl
theorem d_Mo_save_27 : decode c_Mo_save 27 = .ok (.istore_n 1, 1) := dc_of (x := (27, .istore_n 1, 1)) t0_Mo_save_ok (i := 15) rfl
theorem d_Mo_save_28 : decode c_Mo_save 28 = .ok (.iload_n 1, 1) := dc_of (x := (28, .iload_n 1, 1)) t0_Mo_save_ok (i := 16) rfl
theorem d_Mo_save_29 : decode c_Mo_save 29 = .ok (.sipush 3300, 3) := dc_of (x := (29, .sipush 3300, 3)) t0_Mo_save_ok (i := 17) rfl
theorem d_Mo_save_32 : decode c_Mo_save 32 = .ok (.if_icmp .ge 30, 3) := dc_of (x := (32, .if_icmp .ge 30, 3)) t0_Mo_save_ok (i := 18) rfl
theorem d_Mo_save_35 : decode c_Mo_save 35 = .ok (.aload_n 0, 1) := dc_of (x := (35, .aload_n 0, 1)) t0_Mo_save_ok (i := 19) rfl
theorem d_Mo_save_36 : decode c_Mo_save 36 = .ok (.getfield 13, 3) := dc_of (x := (36, .getfield 13, 3)) t0_Mo_save_ok (i := 20) rfl
theorem d_Mo_save_39 : decode c_Mo_save 39 = .ok (.sipush 3300, 3) := dc_of (x := (39, .sipush 3300, 3)) t0_Mo_save_ok (i := 21) rfl
theorem d_Mo_save_42 : decode c_Mo_save 42 = .ok (.aload_n 0, 1) := dc_of (x := (42, .aload_n 0, 1)) t0_Mo_save_ok (i := 22) rfl
theorem d_Mo_save_43 : decode c_Mo_save 43 = .ok (.getfield 125, 3) := dc_of (x := (43, .getfield 125, 3)) t0_Mo_save_ok (i := 23) rfl
theorem d_Mo_save_46 : decode c_Mo_save 46 = .ok (.imul, 1) := dc_of (x := (46, .imul, 1)) t0_Mo_save_ok (i := 24) rfl
theorem d_Mo_save_47 : decode c_Mo_save 47 = .ok (.iload_n 1, 1) := dc_of (x := (47, .iload_n 1, 1)) t0_Mo_save_ok (i := 25) rfl
theorem d_Mo_save_48 : decode c_Mo_save 48 = .ok (.iadd, 1) := dc_of (x := (48, .iadd, 1)) t0_Mo_save_ok (i := 26) rfl
theorem d_Mo_save_49 : decode c_Mo_save 49 = .ok (.aload_n 0, 1) := dc_of (x := (49, .aload_n 0, 1)) t0_Mo_save_ok (i := 27) rfl
theorem d_Mo_save_50 : decode c_Mo_save 50 = .ok (.getfield 7, 3) := dc_of (x := (50, .getfield 7, 3)) t0_Mo_save_ok (i := 28) rfl
theorem d_Mo_save_53 : decode c_Mo_save 53 = .ok (.iload_n 1, 1) := dc_of (x := (53, .iload_n 1, 1)) t0_Mo_save_ok (i := 29) rfl
theorem d_Mo_save_54 : decode c_Mo_save 54 = .ok (.iaload, 1) := dc_of (x := (54, .iaload, 1)) t0_Mo_save_ok (i := 30) rfl
theorem d_Mo_save_55 : decode c_Mo_save 55 = .ok (.iastore, 1) := dc_of (x := (55, .iastore, 1)) t0_Mo_save_ok (i := 31) rfl
theorem d_Mo_save_56 : decode c_Mo_save 56 = .ok (.iinc 1 1, 3) := dc_of (x := (56, .iinc 1 1, 3)) t0_Mo_save_ok (i := 32) rfl
theorem d_Mo_save_59 : decode c_Mo_save 59 = .ok (.goto (-31), 3) := dc_of (x := (59, .goto (-31), 3)) t0_Mo_save_ok (i := 33) rfl
theorem d_Mo_save_62 : decode c_Mo_save 62 = .ok (.aload_n 0, 1) := dc_of (x := (62, .aload_n 0, 1)) t0_Mo_save_ok (i := 34) rfl
theorem d_Mo_save_63 : decode c_Mo_save 63 = .ok (.dup, 1) := dc_of (x := (63, .dup, 1)) t0_Mo_save_ok (i := 35) rfl
theorem d_Mo_save_64 : decode c_Mo_save 64 = .ok (.getfield 125, 3) := dc_of (x := (64, .getfield 125, 3)) t0_Mo_save_ok (i := 36) rfl
theorem d_Mo_save_67 : decode c_Mo_save 67 = .ok (.iconst 1, 1) := dc_of (x := (67, .iconst 1, 1)) t0_Mo_save_ok (i := 37) rfl
theorem d_Mo_save_68 : decode c_Mo_save 68 = .ok (.iadd, 1) := dc_of (x := (68, .iadd, 1)) t0_Mo_save_ok (i := 38) rfl
theorem d_Mo_save_69 : decode c_Mo_save 69 = .ok (.putfield 125, 3) := dc_of (x := (69, .putfield 125, 3)) t0_Mo_save_ok (i := 39) rfl
theorem d_Mo_save_72 : decode c_Mo_save 72 = .ok (.aload_n 0, 1) := dc_of (x := (72, .aload_n 0, 1)) t0_Mo_save_ok (i := 40) rfl
theorem d_Mo_save_73 : decode c_Mo_save 73 = .ok (.getfield 125, 3) := dc_of (x := (73, .getfield 125, 3)) t0_Mo_save_ok (i := 41) rfl
theorem d_Mo_save_76 : decode c_Mo_save 76 = .ok (.iconst 1, 1) := dc_of (x := (76, .iconst 1, 1)) t0_Mo_save_ok (i := 42) rfl
theorem d_Mo_save_77 : decode c_Mo_save 77 = .ok (.isub, 1) := dc_of (x := (77, .isub, 1)) t0_Mo_save_ok (i := 43) rfl
theorem d_Mo_save_78 : decode c_Mo_save 78 = .ok (.ireturn, 1) := dc_of (x := (78, .ireturn, 1)) t0_Mo_save_ok (i := 44) rfl
def t0_Mo_back : List (Nat × Instr × Nat) := [(0, .aload_n 0, 1), (1, .iconst 0, 1), (2, .putfield 28, 3), (5, .iload_n 1, 1), (6, .ifCond .lt 11, 3), (9, .iload_n 1, 1), (10, .aload_n 0, 1), (11, .getfield 125, 3), (14, .if_icmp .lt 5, 3), (17, .iconst 0, 1), (18, .ireturn, 1), (19, .iconst 0, 1), (20, .istore_n 2, 1), (21, .iload_n 2, 1), (22, .sipush 3300, 3), (25, .if_icmp .ge 27, 3), (28, .aload_n 0, 1), (29, .getfield 7, 3), (32, .iload_n 2, 1), (33, .aload_n 0, 1), (34, .getfield 13, 3), (37, .sipush 3300, 3), (40, .iload_n 1, 1), (41, .imul, 1), (42, .iload_n 2, 1), (43, .iadd, 1), (44, .iaload, 1), (45, .iastore, 1), (46, .iinc 2 1, 3), (49, .goto (-28), 3), (52, .iconst 1, 1), (53, .ireturn, 1)]
theorem t0_Mo_back_ok : t0_Mo_back.all (fun x => decide (decode c_Mo_back x.1 = .ok x.2)) = true := by decide +kernel
theorem d_Mo_back_0 : decode c_Mo_back 0 = .ok (.aload_n 0, 1) := dc_of (x := (0, .aload_n 0, 1)) t0_Mo_back_ok (i := 0) rfl
theorem d_Mo_back_1 : decode c_Mo_back 1 = .ok (.iconst 0, 1) := dc_of (x := (1, .iconst 0, 1)) t0_Mo_back_ok (i := 1) rfl
theorem d_Mo_back_2 : decode c_Mo_back 2 = .ok (.putfield 28, 3) := dc_of (x := (2, .putfield 28, 3)) t0_Mo_back_ok (i := 2) rfl
theorem d_Mo_back_5 : decode c_Mo_back 5 = .ok (.iload_n 1, 1) := dc_of (x := (5, .iload_n 1, 1)) t0_Mo_back_ok (i := 3) rfl
theorem d_Mo_back_6 : decode c_Mo_back 6 = .ok (.ifCond .lt 11, 3) := dc_of (x := (6, .ifCond .lt 11, 3)) t0_Mo_back_ok (i := 4) rfl
theorem d_Mo_back_9 : decode c_Mo_back 9 = .ok (.iload_n 1, 1) := dc_of (x := (9, .iload_n 1, 1)) t0_Mo_back_ok (i := 5) rfl
theorem d_Mo_back_10 : decode c_Mo_back 10 = .ok (.aload_n 0, 1) := dc_of (x := (10, .aload_n 0, 1)) t0_Mo_back_ok (i := 6) rfl
theorem d_Mo_back_11 : decode c_Mo_back 11 = .ok (.getfield 125, 3) := dc_of (x := (11, .getfield 125, 3)) t0_Mo_back_ok (i := 7) rfl
theorem d_Mo_back_14 : decode c_Mo_back 14 = .ok (.if_icmp .lt 5, 3) := dc_of (x := (14, .if_icmp .lt 5, 3)) t0_Mo_back_ok (i := 8) rfl
theorem d_Mo_back_17 : decode c_Mo_back 17 = .ok (.iconst 0, 1) := dc_of (x := (17, .iconst 0, 1)) t0_Mo_back_ok (i := 9) rfl
theorem d_Mo_back_18 : decode c_Mo_back 18 = .ok (.ireturn, 1) := dc_of (x := (18, .ireturn, 1)) t0_Mo_back_ok (i := 10) rfl
theorem d_Mo_back_19 : decode c_Mo_back 19 = .ok (.iconst 0, 1) := dc_of (x := (19, .iconst 0, 1)) t0_Mo_back_ok (i := 11) rfl
theorem d_Mo_back_20 : decode c_Mo_back 20 = .ok (.istore_n 2, 1) := dc_of (x := (20, .istore_n 2, 1)) t0_Mo_back_ok (i := 12) rfl
theorem d_Mo_back_21 : decode c_Mo_back 21 = .ok (.iload_n 2, 1) := dc_of (x := (21, .iload_n 2, 1)) t0_Mo_back_ok (i := 13) rfl
theorem d_Mo_back_22 : decode c_Mo_back 22 = .ok (.sipush 3300, 3) := dc_of (x := (22, .sipush 3300, 3)) t0_Mo_back_ok (i := 14) rfl
theorem d_Mo_back_25 : decode c_Mo_back 25 = .ok (.if_icmp .ge 27, 3) := dc_of (x := (25, .if_icmp .ge 27, 3)) t0_Mo_back_ok (i := 15) rfl
theorem d_Mo_back_28 : decode c_Mo_back 28 = .ok (.aload_n 0, 1) := dc_of (x := (28, .aload_n 0, 1)) t0_Mo_back_ok (i := 16) rfl
theorem d_Mo_back_29 : decode c_Mo_back 29 = .ok (.getfield 7, 3) := dc_of (x := (29, .getfield 7, 3)) t0_Mo_back_ok (i := 17) rfl
theorem d_Mo_back_32 : decode c_Mo_back 32 = .ok (.iload_n 2, 1) := dc_of (x := (32, .iload_n 2, 1)) t0_Mo_back_ok (i := 18) rfl
theorem d_Mo_back_33 : decode c_Mo_back 33 = .ok (.aload_n 0, 1) := dc_of (x := (33, .aload_n 0, 1)) t0_Mo_back_ok (i := 19) rfl
theorem d_Mo_back_34 : decode c_Mo_back 34 = .ok (.getfield 13, 3) := dc_of (x := (34, .getfield 13, 3)) t0_Mo_back_ok (i := 20) rfl
theorem d_Mo_back_37 : decode c_Mo_back 37 = .ok (.sipush 3300, 3) := dc_of (x := (37, .sipush 3300, 3)) t0_Mo_back_ok (i := 21) rfl
theorem d_Mo_back_40 : decode c_Mo_back 40 = .ok (.iload_n 1, 1) := dc_of (x := (40, .iload_n 1, 1)) t0_Mo_back_ok (i := 22) rfl
theorem d_Mo_back_41 : decode c_Mo_back 41 = .ok (.imul, 1) := dc_of (x := (41, .imul, 1)) t0_Mo_back_ok (i := 23) rfl
theorem d_Mo_back_42 : decode c_Mo_back 42 = .ok (.iload_n 2, 1) := dc_of (x := (42, .iload_n 2, 1)) t0_Mo_back_ok (i := 24) rfl
theorem d_Mo_back_43 : decode c_Mo_back 43 = .ok (.iadd, 1) := dc_of (x := (43, .iadd, 1)) t0_Mo_back_ok (i := 25) rfl
theorem d_Mo_back_44 : decode c_Mo_back 44 = .ok (.iaload, 1) := dc_of (x := (44, .iaload, 1)) t0_Mo_back_ok (i := 26) rfl
theorem d_Mo_back_45 : decode c_Mo_back 45 = .ok (.iastore, 1) := dc_of (x := (45, .iastore, 1)) t0_Mo_back_ok (i := 27) rfl
theorem d_Mo_back_46 : decode c_Mo_back 46 = .ok (.iinc 2 1, 3) := dc_of (x := (46, .iinc 2 1, 3)) t0_Mo_back_ok (i := 28) rfl
theorem d_Mo_back_49 : decode c_Mo_back 49 = .ok (.goto (-28), 3) := dc_of (x := (49, .goto (-28), 3)) t0_Mo_back_ok (i := 29) rfl
theorem d_Mo_back_52 : decode c_Mo_back 52 = .ok (.iconst 1, 1) := dc_of (x := (52, .iconst 1, 1)) t0_Mo_back_ok (i := 30) rfl
theorem d_Mo_back_53 : decode c_Mo_back 53 = .ok (.ireturn, 1) := dc_of (x := (53, .ireturn, 1)) t0_Mo_back_ok (i := 31) rfl
