def t0_EW_init : List (Nat × Instr × Nat) := [(0, .aload_n 0, 1), (1, .invokespecial 1, 3), (4, .aload_n 0, 1), (5, .new 7, 3), (8, .dup, 1), (9, .invokespecial 9, 3), (12, .putfield 10, 3), (15, .aload_n 0, 1), (16, .iconst 4, 1), (17, .anewarray 7, 3), (20, .putfield 16, 3), (23, .aload_n 0, 1), (24, .new 20, 3), (27, .dup, 1), (28, .invokespecial 22, 3), (31, .putfield 23, 3), (34, .return_, 1)]
theorem t0_EW_init_ok : t0_EW_init.all (fun x => decide (decode c_EW_init x.1 = .ok x.2)) = true := by decide +kernel
theorem d_EW_init_0 : decode c_EW_init 0 = .ok (.aload_n 0, 1) := dc_of (x := (0, .aload_n 0, 1)) t0_EW_init_ok (i := 0) rfl
theorem d_EW_init_1 : decode c_EW_init 1 = .ok (.invokespecial 1, 3) := dc_of (x := (1, .invokespecial 1, 3)) t0_EW_init_ok (i := 1) rfl
theorem d_EW_init_4 : decode c_EW_init 4 = .ok (.aload_n 0, 1) := dc_of (x := (4, .aload_n 0, 1)) t0_EW_init_ok (i := 2) rfl
theorem d_EW_init_5 : decode c_EW_init 5 = .ok (.new 7, 3) := dc_of (x := (5, .new 7, 3)) t0_EW_init_ok (i := 3) rfl
theorem d_EW_init_8 : decode c_EW_init 8 = .ok (.dup, 1) := dc_of (x := (8, .dup, 1)) t0_EW_init_ok (i := 4) rfl
theorem d_EW_init_9 : decode c_EW_init 9 = .ok (.invokespecial 9, 3) := dc_of (x := (9, .invokespecial 9, 3)) t0_EW_init_ok (i := 5) rfl
theorem d_EW_init_12 : decode c_EW_init 12 = .ok (.putfield 10, 3) := dc_of (x := (12, .putfield 10, 3)) t0_EW_init_ok (i := 6) rfl
theorem d_EW_init_15 : decode c_EW_init 15 = .ok (.aload_n 0, 1) := dc_of (x := (15, .aload_n 0, 1)) t0_EW_init_ok (i := 7) rfl
theorem d_EW_init_16 : decode c_EW_init 16 = .ok (.iconst 4, 1) := dc_of (x := (16, .iconst 4, 1)) t0_EW_init_ok (i := 8) rfl
theorem d_EW_init_17 : decode c_EW_init 17 = .ok (.anewarray 7, 3) := dc_of (x := (17, .anewarray 7, 3)) t0_EW_init_ok (i := 9) rfl
theorem d_EW_init_20 : decode c_EW_init 20 = .ok (.putfield 16, 3) := dc_of (x := (20, .putfield 16, 3)) t0_EW_init_ok (i := 10) rfl
theorem d_EW_init_23 : decode c_EW_init 23 = .ok (.aload_n 0, 1) := dc_of (x := (23, .aload_n 0, 1)) t0_EW_init_ok (i := 11) rfl
theorem d_EW_init_24 : decode c_EW_init 24 = .ok (.new 20, 3) := dc_of (x := (24, .new 20, 3)) t0_EW_init_ok (i := 12) rfl
theorem d_EW_init_27 : decode c_EW_init 27 = .ok (.dup, 1) := dc_of (x := (27, .dup, 1)) t0_EW_init_ok (i := 13) rfl
theorem d_EW_init_28 : decode c_EW_init 28 = .ok (.invokespecial 22, 3) := dc_of (x := (28, .invokespecial 22, 3)) t0_EW_init_ok (i := 14) rfl
theorem d_EW_init_31 : decode c_EW_init 31 = .ok (.putfield 23, 3) := dc_of (x := (31, .putfield 23, 3)) t0_EW_init_ok (i := 15) rfl
theorem d_EW_init_34 : decode c_EW_init 34 = .ok (.return_, 1) := dc_of (x := (34, .return_, 1)) t0_EW_init_ok (i := 16) rfl
def t0_EW_net : List (Nat × Instr × Nat) := [(0, .aload_n 0, 1), (1, .getfield 10, 3), (4, .getfield 27, 3), (7, .bipush 24, 2), (9, .if_icmp .lt 13, 3), (12, .new 31, 3), (15, .dup, 1), (16, .ldc 33, 2), (18, .invokespecial 35, 3), (21, .athrow, 1), (22, .aload_n 0, 1), (23, .getfield 10, 3), (26, .invokevirtual 38, 3), (29, .ireturn, 1)]
theorem t0_EW_net_ok : t0_EW_net.all (fun x => decide (decode c_EW_net x.1 = .ok x.2)) = true := by decide +kernel
theorem d_EW_net_0 : decode c_EW_net 0 = .ok (.aload_n 0, 1) := dc_of (x := (0, .aload_n 0, 1)) t0_EW_net_ok (i := 0) rfl
theorem d_EW_net_1 : decode c_EW_net 1 = .ok (.getfield 10, 3) := dc_of (x := (1, .getfield 10, 3)) t0_EW_net_ok (i := 1) rfl
theorem d_EW_net_4 : decode c_EW_net 4 = .ok (.getfield 27, 3) := dc_of (x := (4, .getfield 27, 3)) t0_EW_net_ok (i := 2) rfl
theorem d_EW_net_7 : decode c_EW_net 7 = .ok (.bipush 24, 2) := dc_of (x := (7, .bipush 24, 2)) t0_EW_net_ok (i := 3) rfl
theorem d_EW_net_9 : decode c_EW_net 9 = .ok (.if_icmp .lt 13, 3) := dc_of (x := (9, .if_icmp .lt 13, 3)) t0_EW_net_ok (i := 4) rfl
theorem d_EW_net_12 : decode c_EW_net 12 = .ok (.new 31, 3) := dc_of (x := (12, .new 31, 3)) t0_EW_net_ok (i := 5) rfl
theorem d_EW_net_15 : decode c_EW_net 15 = .ok (.dup, 1) := dc_of (x := (15, .dup, 1)) t0_EW_net_ok (i := 6) rfl
theorem d_EW_net_16 : decode c_EW_net 16 = .ok (.ldc 33, 2) := dc_of (x := (16, .ldc 33, 2)) t0_EW_net_ok (i := 7) rfl
theorem d_EW_net_18 : decode c_EW_net 18 = .ok (.invokespecial 35, 3) := dc_of (x := (18, .invokespecial 35, 3)) t0_EW_net_ok (i := 8) rfl
theorem d_EW_net_21 : decode c_EW_net 21 = .ok (.athrow, 1) := dc_of (x := (21, .athrow, 1)) t0_EW_net_ok (i := 9) rfl
theorem d_EW_net_22 : decode c_EW_net 22 = .ok (.aload_n 0, 1) := dc_of (x := (22, .aload_n 0, 1)) t0_EW_net_ok (i := 10) rfl
theorem d_EW_net_23 : decode c_EW_net 23 = .ok (.getfield 10, 3) := dc_of (x := (23, .getfield 10, 3)) t0_EW_net_ok (i := 11) rfl
theorem d_EW_net_26 : decode c_EW_net 26 = .ok (.invokevirtual 38, 3) := dc_of (x := (26, .invokevirtual 38, 3)) t0_EW_net_ok (i := 12) rfl
theorem d_EW_net_29 : decode c_EW_net 29 = .ok (.ireturn, 1) := dc_of (x := (29, .ireturn, 1)) t0_EW_net_ok (i := 13) rfl
def t0_EW_gate : List (Nat × Instr × Nat) := [(0, .aload_n 0, 1), (1, .iload_n 2, 1), (2, .invokevirtual 42, 3), (5, .aload_n 0, 1), (6, .iload_n 3, 1), (7, .invokevirtual 42, 3), (10, .aload_n 0, 1), (11, .iload 4, 2), (13, .invokevirtual 42, 3), (16, .aload_n 0, 1), (17, .getfield 10, 3), (20, .getfield 46, 3), (23, .bipush 32, 2), (25, .if_icmp .lt 13, 3), (28, .new 31, 3), (31, .dup, 1), (32, .ldc 49, 2), (34, .invokespecial 35, 3), (37, .athrow, 1), (38, .iload_n 1, 1), (39, .ifCond .lt 9, 3), (42, .iload_n 1, 1), (43, .bipush 7, 2), (45, .if_icmp .le 13, 3), (48, .new 51, 3), (51, .dup, 1), (52, .ldc 53, 2), (54, .invokespecial 55, 3), (57, .athrow, 1), (58, .aload_n 0, 1), (59, .getfield 10, 3), (62, .iload_n 1, 1), (63, .iload_n 2, 1), (64, .iload_n 3, 1), (65, .iload 4, 2), (67, .invokevirtual 56, 3), (70, .ireturn, 1)]
theorem t0_EW_gate_ok : t0_EW_gate.all (fun x => decide (decode c_EW_gate x.1 = .ok x.2)) = true := by decide +kernel
theorem d_EW_gate_0 : decode c_EW_gate 0 = .ok (.aload_n 0, 1) := dc_of (x := (0, .aload_n 0, 1)) t0_EW_gate_ok (i := 0) rfl
theorem d_EW_gate_1 : decode c_EW_gate 1 = .ok (.iload_n 2, 1) := dc_of (x := (1, .iload_n 2, 1)) t0_EW_gate_ok (i := 1) rfl
theorem d_EW_gate_2 : decode c_EW_gate 2 = .ok (.invokevirtual 42, 3) := dc_of (x := (2, .invokevirtual 42, 3)) t0_EW_gate_ok (i := 2) rfl
theorem d_EW_gate_5 : decode c_EW_gate 5 = .ok (.aload_n 0, 1) := dc_of (x := (5, .aload_n 0, 1)) t0_EW_gate_ok (i := 3) rfl
theorem d_EW_gate_6 : decode c_EW_gate 6 = .ok (.iload_n 3, 1) := dc_of (x := (6, .iload_n 3, 1)) t0_EW_gate_ok (i := 4) rfl
theorem d_EW_gate_7 : decode c_EW_gate 7 = .ok (.invokevirtual 42, 3) := dc_of (x := (7, .invokevirtual 42, 3)) t0_EW_gate_ok (i := 5) rfl
theorem d_EW_gate_10 : decode c_EW_gate 10 = .ok (.aload_n 0, 1) := dc_of (x := (10, .aload_n 0, 1)) t0_EW_gate_ok (i := 6) rfl
theorem d_EW_gate_11 : decode c_EW_gate 11 = .ok (.iload 4, 2) := dc_of (x := (11, .iload 4, 2)) t0_EW_gate_ok (i := 7) rfl
theorem d_EW_gate_13 : decode c_EW_gate 13 = .ok (.invokevirtual 42, 3) := dc_of (x := (13, .invokevirtual 42, 3)) t0_EW_gate_ok (i := 8) rfl
theorem d_EW_gate_16 : decode c_EW_gate 16 = .ok (.aload_n 0, 1) := dc_of (x := (16, .aload_n 0, 1)) t0_EW_gate_ok (i := 9) rfl
theorem d_EW_gate_17 : decode c_EW_gate 17 = .ok (.getfield 10, 3) := dc_of (x := (17, .getfield 10, 3)) t0_EW_gate_ok (i := 10) rfl
theorem d_EW_gate_20 : decode c_EW_gate 20 = .ok (.getfield 46, 3) := dc_of (x := (20, .getfield 46, 3)) t0_EW_gate_ok (i := 11) rfl
theorem d_EW_gate_23 : decode c_EW_gate 23 = .ok (.bipush 32, 2) := dc_of (x := (23, .bipush 32, 2)) t0_EW_gate_ok (i := 12) rfl
theorem d_EW_gate_25 : decode c_EW_gate 25 = .ok (.if_icmp .lt 13, 3) := dc_of (x := (25, .if_icmp .lt 13, 3)) t0_EW_gate_ok (i := 13) rfl
theorem d_EW_gate_28 : decode c_EW_gate 28 = .ok (.new 31, 3) := dc_of (x := (28, .new 31, 3)) t0_EW_gate_ok (i := 14) rfl
theorem d_EW_gate_31 : decode c_EW_gate 31 = .ok (.dup, 1) := dc_of (x := (31, .dup, 1)) t0_EW_gate_ok (i := 15) rfl
theorem d_EW_gate_32 : decode c_EW_gate 32 = .ok (.ldc 49, 2) := dc_of (x := (32, .ldc 49, 2)) t0_EW_gate_ok (i := 16) rfl
theorem d_EW_gate_34 : decode c_EW_gate 34 = .ok (.invokespecial 35, 3) := dc_of (x := (34, .invokespecial 35, 3)) t0_EW_gate_ok (i := 17) rfl
theorem d_EW_gate_37 : decode c_EW_gate 37 = .ok (.athrow, 1) := dc_of (x := (37, .athrow, 1)) t0_EW_gate_ok (i := 18) rfl
theorem d_EW_gate_38 : decode c_EW_gate 38 = .ok (.iload_n 1, 1) := dc_of (x := (38, .iload_n 1, 1)) t0_EW_gate_ok (i := 19) rfl
theorem d_EW_gate_39 : decode c_EW_gate 39 = .ok (.ifCond .lt 9, 3) := dc_of (x := (39, .ifCond .lt 9, 3)) t0_EW_gate_ok (i := 20) rfl
theorem d_EW_gate_42 : decode c_EW_gate 42 = .ok (.iload_n 1, 1) := dc_of (x := (42, .iload_n 1, 1)) t0_EW_gate_ok (i := 21) rfl
theorem d_EW_gate_43 : decode c_EW_gate 43 = .ok (.bipush 7, 2) := dc_of (x := (43, .bipush 7, 2)) t0_EW_gate_ok (i := 22) rfl
theorem d_EW_gate_45 : decode c_EW_gate 45 = .ok (.if_icmp .le 13, 3) := dc_of (x := (45, .if_icmp .le 13, 3)) t0_EW_gate_ok (i := 23) rfl
theorem d_EW_gate_48 : decode c_EW_gate 48 = .ok (.new 51, 3) := dc_of (x := (48, .new 51, 3)) t0_EW_gate_ok (i := 24) rfl
theorem d_EW_gate_51 : decode c_EW_gate 51 = .ok (.dup, 1) := dc_of (x := (51, .dup, 1)) t0_EW_gate_ok (i := 25) rfl
theorem d_EW_gate_52 : decode c_EW_gate 52 = .ok (.ldc 53, 2) := dc_of (x := (52, .ldc 53, 2)) t0_EW_gate_ok (i := 26) rfl
theorem d_EW_gate_54 : decode c_EW_gate 54 = .ok (.invokespecial 55, 3) := dc_of (x := (54, .invokespecial 55, 3)) t0_EW_gate_ok (i := 27) rfl
theorem d_EW_gate_57 : decode c_EW_gate 57 = .ok (.athrow, 1) := dc_of (x := (57, .athrow, 1)) t0_EW_gate_ok (i := 28) rfl
theorem d_EW_gate_58 : decode c_EW_gate 58 = .ok (.aload_n 0, 1) := dc_of (x := (58, .aload_n 0, 1)) t0_EW_gate_ok (i := 29) rfl
theorem d_EW_gate_59 : decode c_EW_gate 59 = .ok (.getfield 10, 3) := dc_of (x := (59, .getfield 10, 3)) t0_EW_gate_ok (i := 30) rfl
theorem d_EW_gate_62 : decode c_EW_gate 62 = .ok (.iload_n 1, 1) := dc_of (x := (62, .iload_n 1, 1)) t0_EW_gate_ok (i := 31) rfl
theorem d_EW_gate_63 : decode c_EW_gate 63 = .ok (.iload_n 2, 1) := dc_of (x := (63, .iload_n 2, 1)) t0_EW_gate_ok (i := 32) rfl
theorem d_EW_gate_64 : decode c_EW_gate 64 = .ok (.iload_n 3, 1) := dc_of (x := (64, .iload_n 3, 1)) t0_EW_gate_ok (i := 33) rfl
theorem d_EW_gate_65 : decode c_EW_gate 65 = .ok (.iload 4, 2) := dc_of (x := (65, .iload 4, 2)) t0_EW_gate_ok (i := 34) rfl
theorem d_EW_gate_67 : decode c_EW_gate 67 = .ok (.invokevirtual 56, 3) := dc_of (x := (67, .invokevirtual 56, 3)) t0_EW_gate_ok (i := 35) rfl
theorem d_EW_gate_70 : decode c_EW_gate 70 = .ok (.ireturn, 1) := dc_of (x := (70, .ireturn, 1)) t0_EW_gate_ok (i := 36) rfl
def t0_EW_delay : List (Nat × Instr × Nat) := [(0, .iload_n 1, 1), (1, .ifCond .lt 14, 3), (4, .iload_n 1, 1), (5, .aload_n 0, 1), (6, .getfield 10, 3), (9, .getfield 46, 3), (12, .if_icmp .lt 13, 3), (15, .new 60, 3), (18, .dup, 1), (19, .ldc 62, 2), (21, .invokespecial 64, 3), (24, .athrow, 1), (25, .iload_n 2, 1), (26, .invokestatic 65, 3), (29, .ifCond .eq 10, 3), (32, .iload_n 3, 1), (33, .invokestatic 65, 3), (36, .ifCond .ne 13, 3), (39, .new 51, 3), (42, .dup, 1), (43, .ldc 69, 2), (45, .invokespecial 55, 3), (48, .athrow, 1), (49, .aload_n 0, 1), (50, .getfield 10, 3), (53, .getfield 71, 3), (56, .iload_n 1, 1), (57, .aaload, 1), (58, .iload_n 2, 1), (59, .iload_n 3, 1), (60, .invokevirtual 75, 3), (63, .ireturn, 1)]
theorem t0_EW_delay_ok : t0_EW_delay.all (fun x => decide (decode c_EW_delay x.1 = .ok x.2)) = true := by decide +kernel
theorem d_EW_delay_0 : decode c_EW_delay 0 = .ok (.iload_n 1, 1) := dc_of (x := (0, .iload_n 1, 1)) t0_EW_delay_ok (i := 0) rfl
theorem d_EW_delay_1 : decode c_EW_delay 1 = .ok (.ifCond .lt 14, 3) := dc_of (x := (1, .ifCond .lt 14, 3)) t0_EW_delay_ok (i := 1) rfl
theorem d_EW_delay_4 : decode c_EW_delay 4 = .ok (.iload_n 1, 1) := dc_of (x := (4, .iload_n 1, 1)) t0_EW_delay_ok (i := 2) rfl
theorem d_EW_delay_5 : decode c_EW_delay 5 = .ok (.aload_n 0, 1) := dc_of (x := (5, .aload_n 0, 1)) t0_EW_delay_ok (i := 3) rfl
theorem d_EW_delay_6 : decode c_EW_delay 6 = .ok (.getfield 10, 3) := dc_of (x := (6, .getfield 10, 3)) t0_EW_delay_ok (i := 4) rfl
theorem d_EW_delay_9 : decode c_EW_delay 9 = .ok (.getfield 46, 3) := dc_of (x := (9, .getfield 46, 3)) t0_EW_delay_ok (i := 5) rfl
theorem d_EW_delay_12 : decode c_EW_delay 12 = .ok (.if_icmp .lt 13, 3) := dc_of (x := (12, .if_icmp .lt 13, 3)) t0_EW_delay_ok (i := 6) rfl
theorem d_EW_delay_15 : decode c_EW_delay 15 = .ok (.new 60, 3) := dc_of (x := (15, .new 60, 3)) t0_EW_delay_ok (i := 7) rfl
theorem d_EW_delay_18 : decode c_EW_delay 18 = .ok (.dup, 1) := dc_of (x := (18, .dup, 1)) t0_EW_delay_ok (i := 8) rfl
theorem d_EW_delay_19 : decode c_EW_delay 19 = .ok (.ldc 62, 2) := dc_of (x := (19, .ldc 62, 2)) t0_EW_delay_ok (i := 9) rfl
theorem d_EW_delay_21 : decode c_EW_delay 21 = .ok (.invokespecial 64, 3) := dc_of (x := (21, .invokespecial 64, 3)) t0_EW_delay_ok (i := 10) rfl
theorem d_EW_delay_24 : decode c_EW_delay 24 = .ok (.athrow, 1) := dc_of (x := (24, .athrow, 1)) t0_EW_delay_ok (i := 11) rfl
theorem d_EW_delay_25 : decode c_EW_delay 25 = .ok (.iload_n 2, 1) := dc_of (x := (25, .iload_n 2, 1)) t0_EW_delay_ok (i := 12) rfl
theorem d_EW_delay_26 : decode c_EW_delay 26 = .ok (.invokestatic 65, 3) := dc_of (x := (26, .invokestatic 65, 3)) t0_EW_delay_ok (i := 13) rfl
theorem d_EW_delay_29 : decode c_EW_delay 29 = .ok (.ifCond .eq 10, 3) := dc_of (x := (29, .ifCond .eq 10, 3)) t0_EW_delay_ok (i := 14) rfl
theorem d_EW_delay_32 : decode c_EW_delay 32 = .ok (.iload_n 3, 1) := dc_of (x := (32, .iload_n 3, 1)) t0_EW_delay_ok (i := 15) rfl
theorem d_EW_delay_33 : decode c_EW_delay 33 = .ok (.invokestatic 65, 3) := dc_of (x := (33, .invokestatic 65, 3)) t0_EW_delay_ok (i := 16) rfl
theorem d_EW_delay_36 : decode c_EW_delay 36 = .ok (.ifCond .ne 13, 3) := dc_of (x := (36, .ifCond .ne 13, 3)) t0_EW_delay_ok (i := 17) rfl
theorem d_EW_delay_39 : decode c_EW_delay 39 = .ok (.new 51, 3) := dc_of (x := (39, .new 51, 3)) t0_EW_delay_ok (i := 18) rfl
theorem d_EW_delay_42 : decode c_EW_delay 42 = .ok (.dup, 1) := dc_of (x := (42, .dup, 1)) t0_EW_delay_ok (i := 19) rfl
theorem d_EW_delay_43 : decode c_EW_delay 43 = .ok (.ldc 69, 2) := dc_of (x := (43, .ldc 69, 2)) t0_EW_delay_ok (i := 20) rfl
theorem d_EW_delay_45 : decode c_EW_delay 45 = .ok (.invokespecial 55, 3) := dc_of (x := (45, .invokespecial 55, 3)) t0_EW_delay_ok (i := 21) rfl
theorem d_EW_delay_48 : decode c_EW_delay 48 = .ok (.athrow, 1) := dc_of (x := (48, .athrow, 1)) t0_EW_delay_ok (i := 22) rfl
theorem d_EW_delay_49 : decode c_EW_delay 49 = .ok (.aload_n 0, 1) := dc_of (x := (49, .aload_n 0, 1)) t0_EW_delay_ok (i := 23) rfl
theorem d_EW_delay_50 : decode c_EW_delay 50 = .ok (.getfield 10, 3) := dc_of (x := (50, .getfield 10, 3)) t0_EW_delay_ok (i := 24) rfl
theorem d_EW_delay_53 : decode c_EW_delay 53 = .ok (.getfield 71, 3) := dc_of (x := (53, .getfield 71, 3)) t0_EW_delay_ok (i := 25) rfl
theorem d_EW_delay_56 : decode c_EW_delay 56 = .ok (.iload_n 1, 1) := dc_of (x := (56, .iload_n 1, 1)) t0_EW_delay_ok (i := 26) rfl
theorem d_EW_delay_57 : decode c_EW_delay 57 = .ok (.aaload, 1) := dc_of (x := (57, .aaload, 1)) t0_EW_delay_ok (i := 27) rfl
theorem d_EW_delay_58 : decode c_EW_delay 58 = .ok (.iload_n 2, 1) := dc_of (x := (58, .iload_n 2, 1)) t0_EW_delay_ok (i := 28) rfl
theorem d_EW_delay_59 : decode c_EW_delay 59 = .ok (.iload_n 3, 1) := dc_of (x := (59, .iload_n 3, 1)) t0_EW_delay_ok (i := 29) rfl
theorem d_EW_delay_60 : decode c_EW_delay 60 = .ok (.invokevirtual 75, 3) := dc_of (x := (60, .invokevirtual 75, 3)) t0_EW_delay_ok (i := 30) rfl
theorem d_EW_delay_63 : decode c_EW_delay 63 = .ok (.ireturn, 1) := dc_of (x := (63, .ireturn, 1)) t0_EW_delay_ok (i := 31) rfl
def t0_EW_spike : List (Nat × Instr × Nat) := [(0, .iload_n 1, 1), (1, .ifCond .eq 18, 3), (4, .iload_n 1, 1), (5, .iconst 1, 1), (6, .if_icmp .eq 13, 3), (9, .new 51, 3), (12, .dup, 1), (13, .ldc 81, 2), (15, .invokespecial 55, 3), (18, .athrow, 1), (19, .aload_n 0, 1), (20, .getfield 10, 3), (23, .getfield 83, 3), (26, .iload_n 1, 1), (27, .if_icmp .eq 7, 3), (30, .iconst 1, 1), (31, .goto 4, 3), (34, .iconst 0, 1), (35, .istore_n 2, 1), (36, .aload_n 0, 1), (37, .getfield 10, 3), (40, .iload_n 1, 1), (41, .putfield 83, 3), (44, .iload_n 2, 1), (45, .ireturn, 1)]
theorem t0_EW_spike_ok : t0_EW_spike.all (fun x => decide (decode c_EW_spike x.1 = .ok x.2)) = true := by decide +kernel
theorem d_EW_spike_0 : decode c_EW_spike 0 = .ok (.iload_n 1, 1) := dc_of (x := (0, .iload_n 1, 1)) t0_EW_spike_ok (i := 0) rfl
theorem d_EW_spike_1 : decode c_EW_spike 1 = .ok (.ifCond .eq 18, 3) := dc_of (x := (1, .ifCond .eq 18, 3)) t0_EW_spike_ok (i := 1) rfl
theorem d_EW_spike_4 : decode c_EW_spike 4 = .ok (.iload_n 1, 1) := dc_of (x := (4, .iload_n 1, 1)) t0_EW_spike_ok (i := 2) rfl
theorem d_EW_spike_5 : decode c_EW_spike 5 = .ok (.iconst 1, 1) := dc_of (x := (5, .iconst 1, 1)) t0_EW_spike_ok (i := 3) rfl
theorem d_EW_spike_6 : decode c_EW_spike 6 = .ok (.if_icmp .eq 13, 3) := dc_of (x := (6, .if_icmp .eq 13, 3)) t0_EW_spike_ok (i := 4) rfl
theorem d_EW_spike_9 : decode c_EW_spike 9 = .ok (.new 51, 3) := dc_of (x := (9, .new 51, 3)) t0_EW_spike_ok (i := 5) rfl
theorem d_EW_spike_12 : decode c_EW_spike 12 = .ok (.dup, 1) := dc_of (x := (12, .dup, 1)) t0_EW_spike_ok (i := 6) rfl
theorem d_EW_spike_13 : decode c_EW_spike 13 = .ok (.ldc 81, 2) := dc_of (x := (13, .ldc 81, 2)) t0_EW_spike_ok (i := 7) rfl
theorem d_EW_spike_15 : decode c_EW_spike 15 = .ok (.invokespecial 55, 3) := dc_of (x := (15, .invokespecial 55, 3)) t0_EW_spike_ok (i := 8) rfl
theorem d_EW_spike_18 : decode c_EW_spike 18 = .ok (.athrow, 1) := dc_of (x := (18, .athrow, 1)) t0_EW_spike_ok (i := 9) rfl
theorem d_EW_spike_19 : decode c_EW_spike 19 = .ok (.aload_n 0, 1) := dc_of (x := (19, .aload_n 0, 1)) t0_EW_spike_ok (i := 10) rfl
theorem d_EW_spike_20 : decode c_EW_spike 20 = .ok (.getfield 10, 3) := dc_of (x := (20, .getfield 10, 3)) t0_EW_spike_ok (i := 11) rfl
theorem d_EW_spike_23 : decode c_EW_spike 23 = .ok (.getfield 83, 3) := dc_of (x := (23, .getfield 83, 3)) t0_EW_spike_ok (i := 12) rfl
theorem d_EW_spike_26 : decode c_EW_spike 26 = .ok (.iload_n 1, 1) := dc_of (x := (26, .iload_n 1, 1)) t0_EW_spike_ok (i := 13) rfl
theorem d_EW_spike_27 : decode c_EW_spike 27 = .ok (.if_icmp .eq 7, 3) := dc_of (x := (27, .if_icmp .eq 7, 3)) t0_EW_spike_ok (i := 14) rfl
theorem d_EW_spike_30 : decode c_EW_spike 30 = .ok (.iconst 1, 1) := dc_of (x := (30, .iconst 1, 1)) t0_EW_spike_ok (i := 15) rfl
theorem d_EW_spike_31 : decode c_EW_spike 31 = .ok (.goto 4, 3) := dc_of (x := (31, .goto 4, 3)) t0_EW_spike_ok (i := 16) rfl
theorem d_EW_spike_34 : decode c_EW_spike 34 = .ok (.iconst 0, 1) := dc_of (x := (34, .iconst 0, 1)) t0_EW_spike_ok (i := 17) rfl
theorem d_EW_spike_35 : decode c_EW_spike 35 = .ok (.istore_n 2, 1) := dc_of (x := (35, .istore_n 2, 1)) t0_EW_spike_ok (i := 18) rfl
theorem d_EW_spike_36 : decode c_EW_spike 36 = .ok (.aload_n 0, 1) := dc_of (x := (36, .aload_n 0, 1)) t0_EW_spike_ok (i := 19) rfl
theorem d_EW_spike_37 : decode c_EW_spike 37 = .ok (.getfield 10, 3) := dc_of (x := (37, .getfield 10, 3)) t0_EW_spike_ok (i := 20) rfl
theorem d_EW_spike_40 : decode c_EW_spike 40 = .ok (.iload_n 1, 1) := dc_of (x := (40, .iload_n 1, 1)) t0_EW_spike_ok (i := 21) rfl
theorem d_EW_spike_41 : decode c_EW_spike 41 = .ok (.putfield 83, 3) := dc_of (x := (41, .putfield 83, 3)) t0_EW_spike_ok (i := 22) rfl
theorem d_EW_spike_44 : decode c_EW_spike 44 = .ok (.iload_n 2, 1) := dc_of (x := (44, .iload_n 2, 1)) t0_EW_spike_ok (i := 23) rfl
theorem d_EW_spike_45 : decode c_EW_spike 45 = .ok (.ireturn, 1) := dc_of (x := (45, .ireturn, 1)) t0_EW_spike_ok (i := 24) rfl
def t0_EW_drive : List (Nat × Instr × Nat) := [(0, .aload_n 0, 1), (1, .iconst 0, 1), (2, .iload_n 1, 1), (3, .lload_n 2, 1), (4, .iload 4, 2), (6, .invokevirtual 86, 3), (9, .ireturn, 1)]
theorem t0_EW_drive_ok : t0_EW_drive.all (fun x => decide (decode c_EW_drive x.1 = .ok x.2)) = true := by decide +kernel
theorem d_EW_drive_0 : decode c_EW_drive 0 = .ok (.aload_n 0, 1) := dc_of (x := (0, .aload_n 0, 1)) t0_EW_drive_ok (i := 0) rfl
theorem d_EW_drive_1 : decode c_EW_drive 1 = .ok (.iconst 0, 1) := dc_of (x := (1, .iconst 0, 1)) t0_EW_drive_ok (i := 1) rfl
theorem d_EW_drive_2 : decode c_EW_drive 2 = .ok (.iload_n 1, 1) := dc_of (x := (2, .iload_n 1, 1)) t0_EW_drive_ok (i := 2) rfl
theorem d_EW_drive_3 : decode c_EW_drive 3 = .ok (.lload_n 2, 1) := dc_of (x := (3, .lload_n 2, 1)) t0_EW_drive_ok (i := 3) rfl
theorem d_EW_drive_4 : decode c_EW_drive 4 = .ok (.iload 4, 2) := dc_of (x := (4, .iload 4, 2)) t0_EW_drive_ok (i := 4) rfl
theorem d_EW_drive_6 : decode c_EW_drive 6 = .ok (.invokevirtual 86, 3) := dc_of (x := (6, .invokevirtual 86, 3)) t0_EW_drive_ok (i := 5) rfl
theorem d_EW_drive_9 : decode c_EW_drive 9 = .ok (.ireturn, 1) := dc_of (x := (9, .ireturn, 1)) t0_EW_drive_ok (i := 6) rfl
def t0_EW_force : List (Nat × Instr × Nat) := [(0, .aload_n 0, 1), (1, .iconst 1, 1), (2, .iload_n 1, 1), (3, .lload_n 2, 1), (4, .iload 4, 2), (6, .invokevirtual 86, 3), (9, .ireturn, 1)]
theorem t0_EW_force_ok : t0_EW_force.all (fun x => decide (decode c_EW_force x.1 = .ok x.2)) = true := by decide +kernel
theorem d_EW_force_0 : decode c_EW_force 0 = .ok (.aload_n 0, 1) := dc_of (x := (0, .aload_n 0, 1)) t0_EW_force_ok (i := 0) rfl
theorem d_EW_force_1 : decode c_EW_force 1 = .ok (.iconst 1, 1) := dc_of (x := (1, .iconst 1, 1)) t0_EW_force_ok (i := 1) rfl
theorem d_EW_force_2 : decode c_EW_force 2 = .ok (.iload_n 1, 1) := dc_of (x := (2, .iload_n 1, 1)) t0_EW_force_ok (i := 2) rfl
theorem d_EW_force_3 : decode c_EW_force 3 = .ok (.lload_n 2, 1) := dc_of (x := (3, .lload_n 2, 1)) t0_EW_force_ok (i := 3) rfl
theorem d_EW_force_4 : decode c_EW_force 4 = .ok (.iload 4, 2) := dc_of (x := (4, .iload 4, 2)) t0_EW_force_ok (i := 4) rfl
theorem d_EW_force_6 : decode c_EW_force 6 = .ok (.invokevirtual 86, 3) := dc_of (x := (6, .invokevirtual 86, 3)) t0_EW_force_ok (i := 5) rfl
theorem d_EW_force_9 : decode c_EW_force 9 = .ok (.ireturn, 1) := dc_of (x := (9, .ireturn, 1)) t0_EW_force_ok (i := 6) rfl
def t0_EW_release : List (Nat × Instr × Nat) := [(0, .aload_n 0, 1), (1, .iconst 2, 1), (2, .iload_n 1, 1), (3, .lload_n 2, 1), (4, .iconst 3, 1), (5, .invokevirtual 86, 3), (8, .ireturn, 1)]
theorem t0_EW_release_ok : t0_EW_release.all (fun x => decide (decode c_EW_release x.1 = .ok x.2)) = true := by decide +kernel
theorem d_EW_release_0 : decode c_EW_release 0 = .ok (.aload_n 0, 1) := dc_of (x := (0, .aload_n 0, 1)) t0_EW_release_ok (i := 0) rfl
theorem d_EW_release_1 : decode c_EW_release 1 = .ok (.iconst 2, 1) := dc_of (x := (1, .iconst 2, 1)) t0_EW_release_ok (i := 1) rfl
theorem d_EW_release_2 : decode c_EW_release 2 = .ok (.iload_n 1, 1) := dc_of (x := (2, .iload_n 1, 1)) t0_EW_release_ok (i := 2) rfl
theorem d_EW_release_3 : decode c_EW_release 3 = .ok (.lload_n 2, 1) := dc_of (x := (3, .lload_n 2, 1)) t0_EW_release_ok (i := 3) rfl
theorem d_EW_release_4 : decode c_EW_release 4 = .ok (.iconst 3, 1) := dc_of (x := (4, .iconst 3, 1)) t0_EW_release_ok (i := 4) rfl
theorem d_EW_release_5 : decode c_EW_release 5 = .ok (.invokevirtual 86, 3) := dc_of (x := (5, .invokevirtual 86, 3)) t0_EW_release_ok (i := 5) rfl
theorem d_EW_release_8 : decode c_EW_release 8 = .ok (.ireturn, 1) := dc_of (x := (8, .ireturn, 1)) t0_EW_release_ok (i := 6) rfl
def t0_EW_check : List (Nat × Instr × Nat) := [(0, .aload_n 0, 1), (1, .iload_n 2, 1), (2, .invokevirtual 42, 3), (5, .aload_n 0, 1), (6, .iload_n 3, 1), (7, .invokevirtual 42, 3), (10, .aload_n 0, 1), (11, .getfield 10, 3), (14, .getfield 90, 3), (17, .bipush 20, 2), (19, .if_icmp .lt 13, 3), (22, .new 31, 3), (25, .dup, 1), (26, .ldc 93, 2), (28, .invokespecial 35, 3), (31, .athrow, 1), (32, .iload_n 1, 1), (33, .ifCond .eq 18, 3), (36, .iload_n 1, 1), (37, .iconst 1, 1), (38, .if_icmp .eq 13, 3), (41, .new 51, 3), (44, .dup, 1), (45, .ldc 95, 2), (47, .invokespecial 55, 3), (50, .athrow, 1), (51, .iload 4, 2), (53, .invokestatic 65, 3), (56, .ifCond .ne 13, 3), (59, .new 51, 3), (62, .dup, 1), (63, .ldc 97, 2), (65, .invokespecial 55, 3), (68, .athrow, 1), (69, .aload_n 0, 1), (70, .getfield 10, 3), (73, .iload_n 1, 1), (74, .iload_n 2, 1), (75, .iload_n 3, 1), (76, .iload 4, 2), (78, .invokevirtual 99, 3), (81, .ireturn, 1)]
theorem t0_EW_check_ok : t0_EW_check.all (fun x => decide (decode c_EW_check x.1 = .ok x.2)) = true := by decide +kernel
theorem d_EW_check_0 : decode c_EW_check 0 = .ok (.aload_n 0, 1) := dc_of (x := (0, .aload_n 0, 1)) t0_EW_check_ok (i := 0) rfl
theorem d_EW_check_1 : decode c_EW_check 1 = .ok (.iload_n 2, 1) := dc_of (x := (1, .iload_n 2, 1)) t0_EW_check_ok (i := 1) rfl
theorem d_EW_check_2 : decode c_EW_check 2 = .ok (.invokevirtual 42, 3) := dc_of (x := (2, .invokevirtual 42, 3)) t0_EW_check_ok (i := 2) rfl
theorem d_EW_check_5 : decode c_EW_check 5 = .ok (.aload_n 0, 1) := dc_of (x := (5, .aload_n 0, 1)) t0_EW_check_ok (i := 3) rfl
theorem d_EW_check_6 : decode c_EW_check 6 = .ok (.iload_n 3, 1) := dc_of (x := (6, .iload_n 3, 1)) t0_EW_check_ok (i := 4) rfl
theorem d_EW_check_7 : decode c_EW_check 7 = .ok (.invokevirtual 42, 3) := dc_of (x := (7, .invokevirtual 42, 3)) t0_EW_check_ok (i := 5) rfl
theorem d_EW_check_10 : decode c_EW_check 10 = .ok (.aload_n 0, 1) := dc_of (x := (10, .aload_n 0, 1)) t0_EW_check_ok (i := 6) rfl
theorem d_EW_check_11 : decode c_EW_check 11 = .ok (.getfield 10, 3) := dc_of (x := (11, .getfield 10, 3)) t0_EW_check_ok (i := 7) rfl
theorem d_EW_check_14 : decode c_EW_check 14 = .ok (.getfield 90, 3) := dc_of (x := (14, .getfield 90, 3)) t0_EW_check_ok (i := 8) rfl
theorem d_EW_check_17 : decode c_EW_check 17 = .ok (.bipush 20, 2) := dc_of (x := (17, .bipush 20, 2)) t0_EW_check_ok (i := 9) rfl
theorem d_EW_check_19 : decode c_EW_check 19 = .ok (.if_icmp .lt 13, 3) := dc_of (x := (19, .if_icmp .lt 13, 3)) t0_EW_check_ok (i := 10) rfl
theorem d_EW_check_22 : decode c_EW_check 22 = .ok (.new 31, 3) := dc_of (x := (22, .new 31, 3)) t0_EW_check_ok (i := 11) rfl
theorem d_EW_check_25 : decode c_EW_check 25 = .ok (.dup, 1) := dc_of (x := (25, .dup, 1)) t0_EW_check_ok (i := 12) rfl
theorem d_EW_check_26 : decode c_EW_check 26 = .ok (.ldc 93, 2) := dc_of (x := (26, .ldc 93, 2)) t0_EW_check_ok (i := 13) rfl
theorem d_EW_check_28 : decode c_EW_check 28 = .ok (.invokespecial 35, 3) := dc_of (x := (28, .invokespecial 35, 3)) t0_EW_check_ok (i := 14) rfl
theorem d_EW_check_31 : decode c_EW_check 31 = .ok (.athrow, 1) := dc_of (x := (31, .athrow, 1)) t0_EW_check_ok (i := 15) rfl
theorem d_EW_check_32 : decode c_EW_check 32 = .ok (.iload_n 1, 1) := dc_of (x := (32, .iload_n 1, 1)) t0_EW_check_ok (i := 16) rfl
theorem d_EW_check_33 : decode c_EW_check 33 = .ok (.ifCond .eq 18, 3) := dc_of (x := (33, .ifCond .eq 18, 3)) t0_EW_check_ok (i := 17) rfl
theorem d_EW_check_36 : decode c_EW_check 36 = .ok (.iload_n 1, 1) := dc_of (x := (36, .iload_n 1, 1)) t0_EW_check_ok (i := 18) rfl
theorem d_EW_check_37 : decode c_EW_check 37 = .ok (.iconst 1, 1) := dc_of (x := (37, .iconst 1, 1)) t0_EW_check_ok (i := 19) rfl
theorem d_EW_check_38 : decode c_EW_check 38 = .ok (.if_icmp .eq 13, 3) := dc_of (x := (38, .if_icmp .eq 13, 3)) t0_EW_check_ok (i := 20) rfl
theorem d_EW_check_41 : decode c_EW_check 41 = .ok (.new 51, 3) := dc_of (x := (41, .new 51, 3)) t0_EW_check_ok (i := 21) rfl
theorem d_EW_check_44 : decode c_EW_check 44 = .ok (.dup, 1) := dc_of (x := (44, .dup, 1)) t0_EW_check_ok (i := 22) rfl
theorem d_EW_check_45 : decode c_EW_check 45 = .ok (.ldc 95, 2) := dc_of (x := (45, .ldc 95, 2)) t0_EW_check_ok (i := 23) rfl
theorem d_EW_check_47 : decode c_EW_check 47 = .ok (.invokespecial 55, 3) := dc_of (x := (47, .invokespecial 55, 3)) t0_EW_check_ok (i := 24) rfl
theorem d_EW_check_50 : decode c_EW_check 50 = .ok (.athrow, 1) := dc_of (x := (50, .athrow, 1)) t0_EW_check_ok (i := 25) rfl
theorem d_EW_check_51 : decode c_EW_check 51 = .ok (.iload 4, 2) := dc_of (x := (51, .iload 4, 2)) t0_EW_check_ok (i := 26) rfl
theorem d_EW_check_53 : decode c_EW_check 53 = .ok (.invokestatic 65, 3) := dc_of (x := (53, .invokestatic 65, 3)) t0_EW_check_ok (i := 27) rfl
theorem d_EW_check_56 : decode c_EW_check 56 = .ok (.ifCond .ne 13, 3) := dc_of (x := (56, .ifCond .ne 13, 3)) t0_EW_check_ok (i := 28) rfl
theorem d_EW_check_59 : decode c_EW_check 59 = .ok (.new 51, 3) := dc_of (x := (59, .new 51, 3)) t0_EW_check_ok (i := 29) rfl
theorem d_EW_check_62 : decode c_EW_check 62 = .ok (.dup, 1) := dc_of (x := (62, .dup, 1)) t0_EW_check_ok (i := 30) rfl
theorem d_EW_check_63 : decode c_EW_check 63 = .ok (.ldc 97, 2) := dc_of (x := (63, .ldc 97, 2)) t0_EW_check_ok (i := 31) rfl
theorem d_EW_check_65 : decode c_EW_check 65 = .ok (.invokespecial 55, 3) := dc_of (x := (65, .invokespecial 55, 3)) t0_EW_check_ok (i := 32) rfl
theorem d_EW_check_68 : decode c_EW_check 68 = .ok (.athrow, 1) := dc_of (x := (68, .athrow, 1)) t0_EW_check_ok (i := 33) rfl
theorem d_EW_check_69 : decode c_EW_check 69 = .ok (.aload_n 0, 1) := dc_of (x := (69, .aload_n 0, 1)) t0_EW_check_ok (i := 34) rfl
theorem d_EW_check_70 : decode c_EW_check 70 = .ok (.getfield 10, 3) := dc_of (x := (70, .getfield 10, 3)) t0_EW_check_ok (i := 35) rfl
theorem d_EW_check_73 : decode c_EW_check 73 = .ok (.iload_n 1, 1) := dc_of (x := (73, .iload_n 1, 1)) t0_EW_check_ok (i := 36) rfl
theorem d_EW_check_74 : decode c_EW_check 74 = .ok (.iload_n 2, 1) := dc_of (x := (74, .iload_n 2, 1)) t0_EW_check_ok (i := 37) rfl
theorem d_EW_check_75 : decode c_EW_check 75 = .ok (.iload_n 3, 1) := dc_of (x := (75, .iload_n 3, 1)) t0_EW_check_ok (i := 38) rfl
theorem d_EW_check_76 : decode c_EW_check 76 = .ok (.iload 4, 2) := dc_of (x := (76, .iload 4, 2)) t0_EW_check_ok (i := 39) rfl
theorem d_EW_check_78 : decode c_EW_check 78 = .ok (.invokevirtual 99, 3) := dc_of (x := (78, .invokevirtual 99, 3)) t0_EW_check_ok (i := 40) rfl
theorem d_EW_check_81 : decode c_EW_check 81 = .ok (.ireturn, 1) := dc_of (x := (81, .ireturn, 1)) t0_EW_check_ok (i := 41) rfl
def t0_EW_broken : List (Nat × Instr × Nat) := [(0, .iload_n 1, 1), (1, .ifCond .lt 14, 3), (4, .iload_n 1, 1), (5, .aload_n 0, 1), (6, .getfield 10, 3), (9, .getfield 90, 3), (12, .if_icmp .lt 13, 3), (15, .new 60, 3), (18, .dup, 1), (19, .ldc 102, 2), (21, .invokespecial 64, 3), (24, .athrow, 1), (25, .aload_n 0, 1), (26, .getfield 10, 3), (29, .getfield 104, 3), (32, .iload_n 1, 1), (33, .aaload, 1), (34, .getfield 108, 3), (37, .ireturn, 1)]
theorem t0_EW_broken_ok : t0_EW_broken.all (fun x => decide (decode c_EW_broken x.1 = .ok x.2)) = true := by decide +kernel
theorem d_EW_broken_0 : decode c_EW_broken 0 = .ok (.iload_n 1, 1) := dc_of (x := (0, .iload_n 1, 1)) t0_EW_broken_ok (i := 0) rfl
theorem d_EW_broken_1 : decode c_EW_broken 1 = .ok (.ifCond .lt 14, 3) := dc_of (x := (1, .ifCond .lt 14, 3)) t0_EW_broken_ok (i := 1) rfl
theorem d_EW_broken_4 : decode c_EW_broken 4 = .ok (.iload_n 1, 1) := dc_of (x := (4, .iload_n 1, 1)) t0_EW_broken_ok (i := 2) rfl
theorem d_EW_broken_5 : decode c_EW_broken 5 = .ok (.aload_n 0, 1) := dc_of (x := (5, .aload_n 0, 1)) t0_EW_broken_ok (i := 3) rfl
theorem d_EW_broken_6 : decode c_EW_broken 6 = .ok (.getfield 10, 3) := dc_of (x := (6, .getfield 10, 3)) t0_EW_broken_ok (i := 4) rfl
theorem d_EW_broken_9 : decode c_EW_broken 9 = .ok (.getfield 90, 3) := dc_of (x := (9, .getfield 90, 3)) t0_EW_broken_ok (i := 5) rfl
theorem d_EW_broken_12 : decode c_EW_broken 12 = .ok (.if_icmp .lt 13, 3) := dc_of (x := (12, .if_icmp .lt 13, 3)) t0_EW_broken_ok (i := 6) rfl
theorem d_EW_broken_15 : decode c_EW_broken 15 = .ok (.new 60, 3) := dc_of (x := (15, .new 60, 3)) t0_EW_broken_ok (i := 7) rfl
theorem d_EW_broken_18 : decode c_EW_broken 18 = .ok (.dup, 1) := dc_of (x := (18, .dup, 1)) t0_EW_broken_ok (i := 8) rfl
theorem d_EW_broken_19 : decode c_EW_broken 19 = .ok (.ldc 102, 2) := dc_of (x := (19, .ldc 102, 2)) t0_EW_broken_ok (i := 9) rfl
theorem d_EW_broken_21 : decode c_EW_broken 21 = .ok (.invokespecial 64, 3) := dc_of (x := (21, .invokespecial 64, 3)) t0_EW_broken_ok (i := 10) rfl
theorem d_EW_broken_24 : decode c_EW_broken 24 = .ok (.athrow, 1) := dc_of (x := (24, .athrow, 1)) t0_EW_broken_ok (i := 11) rfl
theorem d_EW_broken_25 : decode c_EW_broken 25 = .ok (.aload_n 0, 1) := dc_of (x := (25, .aload_n 0, 1)) t0_EW_broken_ok (i := 12) rfl
theorem d_EW_broken_26 : decode c_EW_broken 26 = .ok (.getfield 10, 3) := dc_of (x := (26, .getfield 10, 3)) t0_EW_broken_ok (i := 13) rfl
theorem d_EW_broken_29 : decode c_EW_broken 29 = .ok (.getfield 104, 3) := dc_of (x := (29, .getfield 104, 3)) t0_EW_broken_ok (i := 14) rfl
theorem d_EW_broken_32 : decode c_EW_broken 32 = .ok (.iload_n 1, 1) := dc_of (x := (32, .iload_n 1, 1)) t0_EW_broken_ok (i := 15) rfl
theorem d_EW_broken_33 : decode c_EW_broken 33 = .ok (.aaload, 1) := dc_of (x := (33, .aaload, 1)) t0_EW_broken_ok (i := 16) rfl
theorem d_EW_broken_34 : decode c_EW_broken 34 = .ok (.getfield 108, 3) := dc_of (x := (34, .getfield 108, 3)) t0_EW_broken_ok (i := 17) rfl
theorem d_EW_broken_37 : decode c_EW_broken 37 = .ok (.ireturn, 1) := dc_of (x := (37, .ireturn, 1)) t0_EW_broken_ok (i := 18) rfl
def t0_EW_run : List (Nat × Instr × Nat) := [(0, .aload_n 0, 1), (1, .getfield 10, 3), (4, .lload_n 1, 1), (5, .invokevirtual 113, 3), (8, .ifCond .ne 13, 3), (11, .new 51, 3), (14, .dup, 1), (15, .ldc 117, 2), (17, .invokespecial 55, 3), (20, .athrow, 1), (21, .aload_n 0, 1), (22, .getfield 10, 3), (25, .lload_n 1, 1), (26, .invokevirtual 119, 3), (29, .lreturn, 1)]
theorem t0_EW_run_ok : t0_EW_run.all (fun x => decide (decode c_EW_run x.1 = .ok x.2)) = true := by decide +kernel
theorem d_EW_run_0 : decode c_EW_run 0 = .ok (.aload_n 0, 1) := dc_of (x := (0, .aload_n 0, 1)) t0_EW_run_ok (i := 0) rfl
theorem d_EW_run_1 : decode c_EW_run 1 = .ok (.getfield 10, 3) := dc_of (x := (1, .getfield 10, 3)) t0_EW_run_ok (i := 1) rfl
theorem d_EW_run_4 : decode c_EW_run 4 = .ok (.lload_n 1, 1) := dc_of (x := (4, .lload_n 1, 1)) t0_EW_run_ok (i := 2) rfl
theorem d_EW_run_5 : decode c_EW_run 5 = .ok (.invokevirtual 113, 3) := dc_of (x := (5, .invokevirtual 113, 3)) t0_EW_run_ok (i := 3) rfl
theorem d_EW_run_8 : decode c_EW_run 8 = .ok (.ifCond .ne 13, 3) := dc_of (x := (8, .ifCond .ne 13, 3)) t0_EW_run_ok (i := 4) rfl
theorem d_EW_run_11 : decode c_EW_run 11 = .ok (.new 51, 3) := dc_of (x := (11, .new 51, 3)) t0_EW_run_ok (i := 5) rfl
theorem d_EW_run_14 : decode c_EW_run 14 = .ok (.dup, 1) := dc_of (x := (14, .dup, 1)) t0_EW_run_ok (i := 6) rfl
theorem d_EW_run_15 : decode c_EW_run 15 = .ok (.ldc 117, 2) := dc_of (x := (15, .ldc 117, 2)) t0_EW_run_ok (i := 7) rfl
theorem d_EW_run_17 : decode c_EW_run 17 = .ok (.invokespecial 55, 3) := dc_of (x := (17, .invokespecial 55, 3)) t0_EW_run_ok (i := 8) rfl
theorem d_EW_run_20 : decode c_EW_run 20 = .ok (.athrow, 1) := dc_of (x := (20, .athrow, 1)) t0_EW_run_ok (i := 9) rfl
theorem d_EW_run_21 : decode c_EW_run 21 = .ok (.aload_n 0, 1) := dc_of (x := (21, .aload_n 0, 1)) t0_EW_run_ok (i := 10) rfl
theorem d_EW_run_22 : decode c_EW_run 22 = .ok (.getfield 10, 3) := dc_of (x := (22, .getfield 10, 3)) t0_EW_run_ok (i := 11) rfl
theorem d_EW_run_25 : decode c_EW_run 25 = .ok (.lload_n 1, 1) := dc_of (x := (25, .lload_n 1, 1)) t0_EW_run_ok (i := 12) rfl
theorem d_EW_run_26 : decode c_EW_run 26 = .ok (.invokevirtual 119, 3) := dc_of (x := (26, .invokevirtual 119, 3)) t0_EW_run_ok (i := 13) rfl
theorem d_EW_run_29 : decode c_EW_run 29 = .ok (.lreturn, 1) := dc_of (x := (29, .lreturn, 1)) t0_EW_run_ok (i := 14) rfl
def t0_EW_now : List (Nat × Instr × Nat) := [(0, .aload_n 0, 1), (1, .getfield 10, 3), (4, .getfield 123, 3), (7, .lreturn, 1)]
theorem t0_EW_now_ok : t0_EW_now.all (fun x => decide (decode c_EW_now x.1 = .ok x.2)) = true := by decide +kernel
theorem d_EW_now_0 : decode c_EW_now 0 = .ok (.aload_n 0, 1) := dc_of (x := (0, .aload_n 0, 1)) t0_EW_now_ok (i := 0) rfl
theorem d_EW_now_1 : decode c_EW_now 1 = .ok (.getfield 10, 3) := dc_of (x := (1, .getfield 10, 3)) t0_EW_now_ok (i := 1) rfl
theorem d_EW_now_4 : decode c_EW_now 4 = .ok (.getfield 123, 3) := dc_of (x := (4, .getfield 123, 3)) t0_EW_now_ok (i := 2) rfl
theorem d_EW_now_7 : decode c_EW_now 7 = .ok (.lreturn, 1) := dc_of (x := (7, .lreturn, 1)) t0_EW_now_ok (i := 3) rfl
def t0_EW_at : List (Nat × Instr × Nat) := [(0, .aload_n 0, 1), (1, .iload_n 1, 1), (2, .invokevirtual 42, 3), (5, .lload_n 2, 1), (6, .lconst 0, 1), (7, .lcmp, 1), (8, .ifCond .lt 15, 3), (11, .lload_n 2, 1), (12, .aload_n 0, 1), (13, .getfield 10, 3), (16, .getfield 123, 3), (19, .lcmp, 1), (20, .ifCond .le 13, 3), (23, .new 51, 3), (26, .dup, 1), (27, .ldc 127, 2), (29, .invokespecial 55, 3), (32, .athrow, 1), (33, .aload_n 0, 1), (34, .getfield 10, 3), (37, .getfield 129, 3), (40, .iload_n 1, 1), (41, .lload_n 2, 1), (42, .invokevirtual 133, 3), (45, .ireturn, 1)]
theorem t0_EW_at_ok : t0_EW_at.all (fun x => decide (decode c_EW_at x.1 = .ok x.2)) = true := by decide +kernel
theorem d_EW_at_0 : decode c_EW_at 0 = .ok (.aload_n 0, 1) := dc_of (x := (0, .aload_n 0, 1)) t0_EW_at_ok (i := 0) rfl
theorem d_EW_at_1 : decode c_EW_at 1 = .ok (.iload_n 1, 1) := dc_of (x := (1, .iload_n 1, 1)) t0_EW_at_ok (i := 1) rfl
theorem d_EW_at_2 : decode c_EW_at 2 = .ok (.invokevirtual 42, 3) := dc_of (x := (2, .invokevirtual 42, 3)) t0_EW_at_ok (i := 2) rfl
theorem d_EW_at_5 : decode c_EW_at 5 = .ok (.lload_n 2, 1) := dc_of (x := (5, .lload_n 2, 1)) t0_EW_at_ok (i := 3) rfl
theorem d_EW_at_6 : decode c_EW_at 6 = .ok (.lconst 0, 1) := dc_of (x := (6, .lconst 0, 1)) t0_EW_at_ok (i := 4) rfl
theorem d_EW_at_7 : decode c_EW_at 7 = .ok (.lcmp, 1) := dc_of (x := (7, .lcmp, 1)) t0_EW_at_ok (i := 5) rfl
theorem d_EW_at_8 : decode c_EW_at 8 = .ok (.ifCond .lt 15, 3) := dc_of (x := (8, .ifCond .lt 15, 3)) t0_EW_at_ok (i := 6) rfl
theorem d_EW_at_11 : decode c_EW_at 11 = .ok (.lload_n 2, 1) := dc_of (x := (11, .lload_n 2, 1)) t0_EW_at_ok (i := 7) rfl
theorem d_EW_at_12 : decode c_EW_at 12 = .ok (.aload_n 0, 1) := dc_of (x := (12, .aload_n 0, 1)) t0_EW_at_ok (i := 8) rfl
theorem d_EW_at_13 : decode c_EW_at 13 = .ok (.getfield 10, 3) := dc_of (x := (13, .getfield 10, 3)) t0_EW_at_ok (i := 9) rfl
theorem d_EW_at_16 : decode c_EW_at 16 = .ok (.getfield 123, 3) := dc_of (x := (16, .getfield 123, 3)) t0_EW_at_ok (i := 10) rfl
theorem d_EW_at_19 : decode c_EW_at 19 = .ok (.lcmp, 1) := dc_of (x := (19, .lcmp, 1)) t0_EW_at_ok (i := 11) rfl
theorem d_EW_at_20 : decode c_EW_at 20 = .ok (.ifCond .le 13, 3) := dc_of (x := (20, .ifCond .le 13, 3)) t0_EW_at_ok (i := 12) rfl
theorem d_EW_at_23 : decode c_EW_at 23 = .ok (.new 51, 3) := dc_of (x := (23, .new 51, 3)) t0_EW_at_ok (i := 13) rfl
theorem d_EW_at_26 : decode c_EW_at 26 = .ok (.dup, 1) := dc_of (x := (26, .dup, 1)) t0_EW_at_ok (i := 14) rfl
theorem d_EW_at_27 : decode c_EW_at 27 = .ok (.ldc 127, 2) := dc_of (x := (27, .ldc 127, 2)) t0_EW_at_ok (i := 15) rfl
theorem d_EW_at_29 : decode c_EW_at 29 = .ok (.invokespecial 55, 3) := dc_of (x := (29, .invokespecial 55, 3)) t0_EW_at_ok (i := 16) rfl
theorem d_EW_at_32 : decode c_EW_at 32 = .ok (.athrow, 1) := dc_of (x := (32, .athrow, 1)) t0_EW_at_ok (i := 17) rfl
theorem d_EW_at_33 : decode c_EW_at 33 = .ok (.aload_n 0, 1) := dc_of (x := (33, .aload_n 0, 1)) t0_EW_at_ok (i := 18) rfl
theorem d_EW_at_34 : decode c_EW_at 34 = .ok (.getfield 10, 3) := dc_of (x := (34, .getfield 10, 3)) t0_EW_at_ok (i := 19) rfl
theorem d_EW_at_37 : decode c_EW_at 37 = .ok (.getfield 129, 3) := dc_of (x := (37, .getfield 129, 3)) t0_EW_at_ok (i := 20) rfl
theorem d_EW_at_40 : decode c_EW_at 40 = .ok (.iload_n 1, 1) := dc_of (x := (40, .iload_n 1, 1)) t0_EW_at_ok (i := 21) rfl
theorem d_EW_at_41 : decode c_EW_at 41 = .ok (.lload_n 2, 1) := dc_of (x := (41, .lload_n 2, 1)) t0_EW_at_ok (i := 22) rfl
theorem d_EW_at_42 : decode c_EW_at 42 = .ok (.invokevirtual 133, 3) := dc_of (x := (42, .invokevirtual 133, 3)) t0_EW_at_ok (i := 23) rfl
theorem d_EW_at_45 : decode c_EW_at 45 = .ok (.ireturn, 1) := dc_of (x := (45, .ireturn, 1)) t0_EW_at_ok (i := 24) rfl
def t0_EW_value : List (Nat × Instr × Nat) := [(0, .aload_n 0, 1), (1, .iload_n 1, 1), (2, .invokevirtual 42, 3), (5, .aload_n 0, 1), (6, .getfield 10, 3), (9, .getfield 139, 3), (12, .iload_n 1, 1), (13, .aaload, 1), (14, .getfield 143, 3), (17, .ireturn, 1)]
theorem t0_EW_value_ok : t0_EW_value.all (fun x => decide (decode c_EW_value x.1 = .ok x.2)) = true := by decide +kernel
theorem d_EW_value_0 : decode c_EW_value 0 = .ok (.aload_n 0, 1) := dc_of (x := (0, .aload_n 0, 1)) t0_EW_value_ok (i := 0) rfl
theorem d_EW_value_1 : decode c_EW_value 1 = .ok (.iload_n 1, 1) := dc_of (x := (1, .iload_n 1, 1)) t0_EW_value_ok (i := 1) rfl
theorem d_EW_value_2 : decode c_EW_value 2 = .ok (.invokevirtual 42, 3) := dc_of (x := (2, .invokevirtual 42, 3)) t0_EW_value_ok (i := 2) rfl
theorem d_EW_value_5 : decode c_EW_value 5 = .ok (.aload_n 0, 1) := dc_of (x := (5, .aload_n 0, 1)) t0_EW_value_ok (i := 3) rfl
theorem d_EW_value_6 : decode c_EW_value 6 = .ok (.getfield 10, 3) := dc_of (x := (6, .getfield 10, 3)) t0_EW_value_ok (i := 4) rfl
theorem d_EW_value_9 : decode c_EW_value 9 = .ok (.getfield 139, 3) := dc_of (x := (9, .getfield 139, 3)) t0_EW_value_ok (i := 5) rfl
theorem d_EW_value_12 : decode c_EW_value 12 = .ok (.iload_n 1, 1) := dc_of (x := (12, .iload_n 1, 1)) t0_EW_value_ok (i := 6) rfl
theorem d_EW_value_13 : decode c_EW_value 13 = .ok (.aaload, 1) := dc_of (x := (13, .aaload, 1)) t0_EW_value_ok (i := 7) rfl
theorem d_EW_value_14 : decode c_EW_value 14 = .ok (.getfield 143, 3) := dc_of (x := (14, .getfield 143, 3)) t0_EW_value_ok (i := 8) rfl
theorem d_EW_value_17 : decode c_EW_value 17 = .ok (.ireturn, 1) := dc_of (x := (17, .ireturn, 1)) t0_EW_value_ok (i := 9) rfl
def t0_EW_change : List (Nat × Instr × Nat) := [(0, .aload_n 0, 1), (1, .getfield 10, 3), (4, .getfield 129, 3), (7, .astore_n 3, 1), (8, .iload_n 2, 1), (9, .iconst 3, 1), (10, .if_icmp .ne 12, 3), (13, .iload_n 1, 1), (14, .ifCond .ne 8, 3), (17, .aload_n 3, 1), (18, .getfield 148, 3), (21, .ireturn, 1), (22, .iload_n 1, 1), (23, .ifCond .lt 11, 3), (26, .iload_n 1, 1), (27, .aload_n 3, 1), (28, .getfield 148, 3), (31, .if_icmp .lt 13, 3), (34, .new 60, 3), (37, .dup, 1), (38, .ldc 151, 2), (40, .invokespecial 64, 3), (43, .athrow, 1), (44, .iload_n 2, 1), (45, .tableswitch 57 0 3 #[31, 38, 45, 52], 31), (76, .aload_n 3, 1), (77, .getfield 153, 3), (80, .iload_n 1, 1), (81, .iaload, 1), (82, .ireturn, 1), (83, .aload_n 3, 1), (84, .getfield 157, 3), (87, .iload_n 1, 1), (88, .iaload, 1), (89, .ireturn, 1), (90, .aload_n 3, 1), (91, .getfield 159, 3), (94, .iload_n 1, 1), (95, .iaload, 1), (96, .ireturn, 1), (97, .aload_n 3, 1), (98, .getfield 148, 3), (101, .ireturn, 1), (102, .new 60, 3), (105, .dup, 1), (106, .ldc 162, 2), (108, .invokespecial 64, 3), (111, .athrow, 1)]
theorem t0_EW_change_ok : t0_EW_change.all (fun x => decide (decode c_EW_change x.1 = .ok x.2)) = true := by decide +kernel
theorem d_EW_change_0 : decode c_EW_change 0 = .ok (.aload_n 0, 1) := dc_of (x := (0, .aload_n 0, 1)) t0_EW_change_ok (i := 0) rfl
theorem d_EW_change_1 : decode c_EW_change 1 = .ok (.getfield 10, 3) := dc_of (x := (1, .getfield 10, 3)) t0_EW_change_ok (i := 1) rfl
theorem d_EW_change_4 : decode c_EW_change 4 = .ok (.getfield 129, 3) := dc_of (x := (4, .getfield 129, 3)) t0_EW_change_ok (i := 2) rfl
theorem d_EW_change_7 : decode c_EW_change 7 = .ok (.astore_n 3, 1) := dc_of (x := (7, .astore_n 3, 1)) t0_EW_change_ok (i := 3) rfl
theorem d_EW_change_8 : decode c_EW_change 8 = .ok (.iload_n 2, 1) := dc_of (x := (8, .iload_n 2, 1)) t0_EW_change_ok (i := 4) rfl
theorem d_EW_change_9 : decode c_EW_change 9 = .ok (.iconst 3, 1) := dc_of (x := (9, .iconst 3, 1)) t0_EW_change_ok (i := 5) rfl
theorem d_EW_change_10 : decode c_EW_change 10 = .ok (.if_icmp .ne 12, 3) := dc_of (x := (10, .if_icmp .ne 12, 3)) t0_EW_change_ok (i := 6) rfl
theorem d_EW_change_13 : decode c_EW_change 13 = .ok (.iload_n 1, 1) := dc_of (x := (13, .iload_n 1, 1)) t0_EW_change_ok (i := 7) rfl
theorem d_EW_change_14 : decode c_EW_change 14 = .ok (.ifCond .ne 8, 3) := dc_of (x := (14, .ifCond .ne 8, 3)) t0_EW_change_ok (i := 8) rfl
theorem d_EW_change_17 : decode c_EW_change 17 = .ok (.aload_n 3, 1) := dc_of (x := (17, .aload_n 3, 1)) t0_EW_change_ok (i := 9) rfl
theorem d_EW_change_18 : decode c_EW_change 18 = .ok (.getfield 148, 3) := dc_of (x := (18, .getfield 148, 3)) t0_EW_change_ok (i := 10) rfl
theorem d_EW_change_21 : decode c_EW_change 21 = .ok (.ireturn, 1) := dc_of (x := (21, .ireturn, 1)) t0_EW_change_ok (i := 11) rfl
theorem d_EW_change_22 : decode c_EW_change 22 = .ok (.iload_n 1, 1) := dc_of (x := (22, .iload_n 1, 1)) t0_EW_change_ok (i := 12) rfl
theorem d_EW_change_23 : decode c_EW_change 23 = .ok (.ifCond .lt 11, 3) := dc_of (x := (23, .ifCond .lt 11, 3)) t0_EW_change_ok (i := 13) rfl
theorem d_EW_change_26 : decode c_EW_change 26 = .ok (.iload_n 1, 1) := dc_of (x := (26, .iload_n 1, 1)) t0_EW_change_ok (i := 14) rfl
theorem d_EW_change_27 : decode c_EW_change 27 = .ok (.aload_n 3, 1) := dc_of (x := (27, .aload_n 3, 1)) t0_EW_change_ok (i := 15) rfl
theorem d_EW_change_28 : decode c_EW_change 28 = .ok (.getfield 148, 3) := dc_of (x := (28, .getfield 148, 3)) t0_EW_change_ok (i := 16) rfl
theorem d_EW_change_31 : decode c_EW_change 31 = .ok (.if_icmp .lt 13, 3) := dc_of (x := (31, .if_icmp .lt 13, 3)) t0_EW_change_ok (i := 17) rfl
theorem d_EW_change_34 : decode c_EW_change 34 = .ok (.new 60, 3) := dc_of (x := (34, .new 60, 3)) t0_EW_change_ok (i := 18) rfl
theorem d_EW_change_37 : decode c_EW_change 37 = .ok (.dup, 1) := dc_of (x := (37, .dup, 1)) t0_EW_change_ok (i := 19) rfl
theorem d_EW_change_38 : decode c_EW_change 38 = .ok (.ldc 151, 2) := dc_of (x := (38, .ldc 151, 2)) t0_EW_change_ok (i := 20) rfl
theorem d_EW_change_40 : decode c_EW_change 40 = .ok (.invokespecial 64, 3) := dc_of (x := (40, .invokespecial 64, 3)) t0_EW_change_ok (i := 21) rfl
theorem d_EW_change_43 : decode c_EW_change 43 = .ok (.athrow, 1) := dc_of (x := (43, .athrow, 1)) t0_EW_change_ok (i := 22) rfl
theorem d_EW_change_44 : decode c_EW_change 44 = .ok (.iload_n 2, 1) := dc_of (x := (44, .iload_n 2, 1)) t0_EW_change_ok (i := 23) rfl
theorem d_EW_change_45 : decode c_EW_change 45 = .ok (.tableswitch 57 0 3 #[31, 38, 45, 52], 31) := dc_of (x := (45, .tableswitch 57 0 3 #[31, 38, 45, 52], 31)) t0_EW_change_ok (i := 24) rfl
theorem d_EW_change_76 : decode c_EW_change 76 = .ok (.aload_n 3, 1) := dc_of (x := (76, .aload_n 3, 1)) t0_EW_change_ok (i := 25) rfl
theorem d_EW_change_77 : decode c_EW_change 77 = .ok (.getfield 153, 3) := dc_of (x := (77, .getfield 153, 3)) t0_EW_change_ok (i := 26) rfl
theorem d_EW_change_80 : decode c_EW_change 80 = .ok (.iload_n 1, 1) := dc_of (x := (80, .iload_n 1, 1)) t0_EW_change_ok (i := 27) rfl
theorem d_EW_change_81 : decode c_EW_change 81 = .ok (.iaload, 1) := dc_of (x := (81, .iaload, 1)) t0_EW_change_ok (i := 28) rfl
theorem d_EW_change_82 : decode c_EW_change 82 = .ok (.ireturn, 1) := dc_of (x := (82, .ireturn, 1)) t0_EW_change_ok (i := 29) rfl
theorem d_EW_change_83 : decode c_EW_change 83 = .ok (.aload_n 3, 1) := dc_of (x := (83, .aload_n 3, 1)) t0_EW_change_ok (i := 30) rfl
theorem d_EW_change_84 : decode c_EW_change 84 = .ok (.getfield 157, 3) := dc_of (x := (84, .getfield 157, 3)) t0_EW_change_ok (i := 31) rfl
theorem d_EW_change_87 : decode c_EW_change 87 = .ok (.iload_n 1, 1) := dc_of (x := (87, .iload_n 1, 1)) t0_EW_change_ok (i := 32) rfl
theorem d_EW_change_88 : decode c_EW_change 88 = .ok (.iaload, 1) := dc_of (x := (88, .iaload, 1)) t0_EW_change_ok (i := 33) rfl
theorem d_EW_change_89 : decode c_EW_change 89 = .ok (.ireturn, 1) := dc_of (x := (89, .ireturn, 1)) t0_EW_change_ok (i := 34) rfl
theorem d_EW_change_90 : decode c_EW_change 90 = .ok (.aload_n 3, 1) := dc_of (x := (90, .aload_n 3, 1)) t0_EW_change_ok (i := 35) rfl
theorem d_EW_change_91 : decode c_EW_change 91 = .ok (.getfield 159, 3) := dc_of (x := (91, .getfield 159, 3)) t0_EW_change_ok (i := 36) rfl
theorem d_EW_change_94 : decode c_EW_change 94 = .ok (.iload_n 1, 1) := dc_of (x := (94, .iload_n 1, 1)) t0_EW_change_ok (i := 37) rfl
theorem d_EW_change_95 : decode c_EW_change 95 = .ok (.iaload, 1) := dc_of (x := (95, .iaload, 1)) t0_EW_change_ok (i := 38) rfl
theorem d_EW_change_96 : decode c_EW_change 96 = .ok (.ireturn, 1) := dc_of (x := (96, .ireturn, 1)) t0_EW_change_ok (i := 39) rfl
theorem d_EW_change_97 : decode c_EW_change 97 = .ok (.aload_n 3, 1) := dc_of (x := (97, .aload_n 3, 1)) t0_EW_change_ok (i := 40) rfl
theorem d_EW_change_98 : decode c_EW_change 98 = .ok (.getfield 148, 3) := dc_of (x := (98, .getfield 148, 3)) t0_EW_change_ok (i := 41) rfl
theorem d_EW_change_101 : decode c_EW_change 101 = .ok (.ireturn, 1) := dc_of (x := (101, .ireturn, 1)) t0_EW_change_ok (i := 42) rfl
theorem d_EW_change_102 : decode c_EW_change 102 = .ok (.new 60, 3) := dc_of (x := (102, .new 60, 3)) t0_EW_change_ok (i := 43) rfl
theorem d_EW_change_105 : decode c_EW_change 105 = .ok (.dup, 1) := dc_of (x := (105, .dup, 1)) t0_EW_change_ok (i := 44) rfl
theorem d_EW_change_106 : decode c_EW_change 106 = .ok (.ldc 162, 2) := dc_of (x := (106, .ldc 162, 2)) t0_EW_change_ok (i := 45) rfl
theorem d_EW_change_108 : decode c_EW_change 108 = .ok (.invokespecial 64, 3) := dc_of (x := (108, .invokespecial 64, 3)) t0_EW_change_ok (i := 46) rfl
theorem d_EW_change_111 : decode c_EW_change 111 = .ok (.athrow, 1) := dc_of (x := (111, .athrow, 1)) t0_EW_change_ok (i := 47) rfl
def t0_EW_counted : List (Nat × Instr × Nat) := [(0, .aload_n 0, 1), (1, .iload_n 1, 1), (2, .invokevirtual 42, 3), (5, .aload_n 0, 1), (6, .getfield 10, 3), (9, .getfield 139, 3), (12, .iload_n 1, 1), (13, .aaload, 1), (14, .getfield 164, 3), (17, .lreturn, 1)]
theorem t0_EW_counted_ok : t0_EW_counted.all (fun x => decide (decode c_EW_counted x.1 = .ok x.2)) = true := by decide +kernel
theorem d_EW_counted_0 : decode c_EW_counted 0 = .ok (.aload_n 0, 1) := dc_of (x := (0, .aload_n 0, 1)) t0_EW_counted_ok (i := 0) rfl
theorem d_EW_counted_1 : decode c_EW_counted 1 = .ok (.iload_n 1, 1) := dc_of (x := (1, .iload_n 1, 1)) t0_EW_counted_ok (i := 1) rfl
theorem d_EW_counted_2 : decode c_EW_counted 2 = .ok (.invokevirtual 42, 3) := dc_of (x := (2, .invokevirtual 42, 3)) t0_EW_counted_ok (i := 2) rfl
theorem d_EW_counted_5 : decode c_EW_counted 5 = .ok (.aload_n 0, 1) := dc_of (x := (5, .aload_n 0, 1)) t0_EW_counted_ok (i := 3) rfl
theorem d_EW_counted_6 : decode c_EW_counted 6 = .ok (.getfield 10, 3) := dc_of (x := (6, .getfield 10, 3)) t0_EW_counted_ok (i := 4) rfl
theorem d_EW_counted_9 : decode c_EW_counted 9 = .ok (.getfield 139, 3) := dc_of (x := (9, .getfield 139, 3)) t0_EW_counted_ok (i := 5) rfl
theorem d_EW_counted_12 : decode c_EW_counted 12 = .ok (.iload_n 1, 1) := dc_of (x := (12, .iload_n 1, 1)) t0_EW_counted_ok (i := 6) rfl
theorem d_EW_counted_13 : decode c_EW_counted 13 = .ok (.aaload, 1) := dc_of (x := (13, .aaload, 1)) t0_EW_counted_ok (i := 7) rfl
theorem d_EW_counted_14 : decode c_EW_counted 14 = .ok (.getfield 164, 3) := dc_of (x := (14, .getfield 164, 3)) t0_EW_counted_ok (i := 8) rfl
theorem d_EW_counted_17 : decode c_EW_counted 17 = .ok (.lreturn, 1) := dc_of (x := (17, .lreturn, 1)) t0_EW_counted_ok (i := 9) rfl
def t0_EW_unit : List (Nat × Instr × Nat) := [(0, .aload_n 0, 1), (1, .getfield 23, 3), (4, .iload_n 1, 1), (5, .sipush 255, 3), (8, .iand, 1), (9, .invokevirtual 167, 3), (12, .ireturn, 1)]
theorem t0_EW_unit_ok : t0_EW_unit.all (fun x => decide (decode c_EW_unit x.1 = .ok x.2)) = true := by decide +kernel
theorem d_EW_unit_0 : decode c_EW_unit 0 = .ok (.aload_n 0, 1) := dc_of (x := (0, .aload_n 0, 1)) t0_EW_unit_ok (i := 0) rfl
theorem d_EW_unit_1 : decode c_EW_unit 1 = .ok (.getfield 23, 3) := dc_of (x := (1, .getfield 23, 3)) t0_EW_unit_ok (i := 1) rfl
theorem d_EW_unit_4 : decode c_EW_unit 4 = .ok (.iload_n 1, 1) := dc_of (x := (4, .iload_n 1, 1)) t0_EW_unit_ok (i := 2) rfl
theorem d_EW_unit_5 : decode c_EW_unit 5 = .ok (.sipush 255, 3) := dc_of (x := (5, .sipush 255, 3)) t0_EW_unit_ok (i := 3) rfl
theorem d_EW_unit_8 : decode c_EW_unit 8 = .ok (.iand, 1) := dc_of (x := (8, .iand, 1)) t0_EW_unit_ok (i := 4) rfl
theorem d_EW_unit_9 : decode c_EW_unit 9 = .ok (.invokevirtual 167, 3) := dc_of (x := (9, .invokevirtual 167, 3)) t0_EW_unit_ok (i := 5) rfl
theorem d_EW_unit_12 : decode c_EW_unit 12 = .ok (.ireturn, 1) := dc_of (x := (12, .ireturn, 1)) t0_EW_unit_ok (i := 6) rfl
def t0_EW_read : List (Nat × Instr × Nat) := [(0, .new 170, 3), (3, .dup, 1), (4, .aload_n 0, 1), (5, .getfield 23, 3), (8, .aload_n 0, 1), (9, .getfield 10, 3), (12, .invokespecial 172, 3), (15, .astore_n 1, 1), (16, .aload_n 1, 1), (17, .iconst 0, 1), (18, .invokevirtual 175, 3), (21, .istore_n 2, 1), (22, .iload_n 2, 1), (23, .iconst (-1), 1), (24, .if_icmp .eq 15, 3), (27, .aload_n 0, 1), (28, .getfield 23, 3), (31, .iconst 0, 1), (32, .putfield 179, 3), (35, .iconst (-1), 1), (36, .iload_n 2, 1), (37, .isub, 1), (38, .ireturn, 1), (39, .aload_n 1, 1), (40, .getfield 182, 3), (43, .bipush 100, 2), (45, .aload_n 0, 1), (46, .getfield 10, 3), (49, .getfield 185, 3), (52, .getfield 189, 3), (55, .isub, 1), (56, .if_icmp .le 13, 3), (59, .new 31, 3), (62, .dup, 1), (63, .ldc 192, 2), (65, .invokespecial 35, 3), (68, .athrow, 1), (69, .aload_n 1, 1), (70, .iconst 1, 1), (71, .invokevirtual 175, 3), (74, .pop, 1), (75, .aload_n 0, 1), (76, .getfield 23, 3), (79, .iconst 0, 1), (80, .putfield 179, 3), (83, .aload_n 1, 1), (84, .getfield 182, 3), (87, .ireturn, 1)]
theorem t0_EW_read_ok : t0_EW_read.all (fun x => decide (decode c_EW_read x.1 = .ok x.2)) = true := by decide +kernel
theorem d_EW_read_0 : decode c_EW_read 0 = .ok (.new 170, 3) := dc_of (x := (0, .new 170, 3)) t0_EW_read_ok (i := 0) rfl
theorem d_EW_read_3 : decode c_EW_read 3 = .ok (.dup, 1) := dc_of (x := (3, .dup, 1)) t0_EW_read_ok (i := 1) rfl
theorem d_EW_read_4 : decode c_EW_read 4 = .ok (.aload_n 0, 1) := dc_of (x := (4, .aload_n 0, 1)) t0_EW_read_ok (i := 2) rfl
theorem d_EW_read_5 : decode c_EW_read 5 = .ok (.getfield 23, 3) := dc_of (x := (5, .getfield 23, 3)) t0_EW_read_ok (i := 3) rfl
theorem d_EW_read_8 : decode c_EW_read 8 = .ok (.aload_n 0, 1) := dc_of (x := (8, .aload_n 0, 1)) t0_EW_read_ok (i := 4) rfl
theorem d_EW_read_9 : decode c_EW_read 9 = .ok (.getfield 10, 3) := dc_of (x := (9, .getfield 10, 3)) t0_EW_read_ok (i := 5) rfl
theorem d_EW_read_12 : decode c_EW_read 12 = .ok (.invokespecial 172, 3) := dc_of (x := (12, .invokespecial 172, 3)) t0_EW_read_ok (i := 6) rfl
theorem d_EW_read_15 : decode c_EW_read 15 = .ok (.astore_n 1, 1) := dc_of (x := (15, .astore_n 1, 1)) t0_EW_read_ok (i := 7) rfl
theorem d_EW_read_16 : decode c_EW_read 16 = .ok (.aload_n 1, 1) := dc_of (x := (16, .aload_n 1, 1)) t0_EW_read_ok (i := 8) rfl
theorem d_EW_read_17 : decode c_EW_read 17 = .ok (.iconst 0, 1) := dc_of (x := (17, .iconst 0, 1)) t0_EW_read_ok (i := 9) rfl
theorem d_EW_read_18 : decode c_EW_read 18 = .ok (.invokevirtual 175, 3) := dc_of (x := (18, .invokevirtual 175, 3)) t0_EW_read_ok (i := 10) rfl
theorem d_EW_read_21 : decode c_EW_read 21 = .ok (.istore_n 2, 1) := dc_of (x := (21, .istore_n 2, 1)) t0_EW_read_ok (i := 11) rfl
theorem d_EW_read_22 : decode c_EW_read 22 = .ok (.iload_n 2, 1) := dc_of (x := (22, .iload_n 2, 1)) t0_EW_read_ok (i := 12) rfl
theorem d_EW_read_23 : decode c_EW_read 23 = .ok (.iconst (-1), 1) := dc_of (x := (23, .iconst (-1), 1)) t0_EW_read_ok (i := 13) rfl
theorem d_EW_read_24 : decode c_EW_read 24 = .ok (.if_icmp .eq 15, 3) := dc_of (x := (24, .if_icmp .eq 15, 3)) t0_EW_read_ok (i := 14) rfl
theorem d_EW_read_27 : decode c_EW_read 27 = .ok (.aload_n 0, 1) := dc_of (x := (27, .aload_n 0, 1)) t0_EW_read_ok (i := 15) rfl
theorem d_EW_read_28 : decode c_EW_read 28 = .ok (.getfield 23, 3) := dc_of (x := (28, .getfield 23, 3)) t0_EW_read_ok (i := 16) rfl
theorem d_EW_read_31 : decode c_EW_read 31 = .ok (.iconst 0, 1) := dc_of (x := (31, .iconst 0, 1)) t0_EW_read_ok (i := 17) rfl
theorem d_EW_read_32 : decode c_EW_read 32 = .ok (.putfield 179, 3) := dc_of (x := (32, .putfield 179, 3)) t0_EW_read_ok (i := 18) rfl
theorem d_EW_read_35 : decode c_EW_read 35 = .ok (.iconst (-1), 1) := dc_of (x := (35, .iconst (-1), 1)) t0_EW_read_ok (i := 19) rfl
theorem d_EW_read_36 : decode c_EW_read 36 = .ok (.iload_n 2, 1) := dc_of (x := (36, .iload_n 2, 1)) t0_EW_read_ok (i := 20) rfl
theorem d_EW_read_37 : decode c_EW_read 37 = .ok (.isub, 1) := dc_of (x := (37, .isub, 1)) t0_EW_read_ok (i := 21) rfl
theorem d_EW_read_38 : decode c_EW_read 38 = .ok (.ireturn, 1) := dc_of (x := (38, .ireturn, 1)) t0_EW_read_ok (i := 22) rfl
theorem d_EW_read_39 : decode c_EW_read 39 = .ok (.aload_n 1, 1) := dc_of (x := (39, .aload_n 1, 1)) t0_EW_read_ok (i := 23) rfl
theorem d_EW_read_40 : decode c_EW_read 40 = .ok (.getfield 182, 3) := dc_of (x := (40, .getfield 182, 3)) t0_EW_read_ok (i := 24) rfl
theorem d_EW_read_43 : decode c_EW_read 43 = .ok (.bipush 100, 2) := dc_of (x := (43, .bipush 100, 2)) t0_EW_read_ok (i := 25) rfl
theorem d_EW_read_45 : decode c_EW_read 45 = .ok (.aload_n 0, 1) := dc_of (x := (45, .aload_n 0, 1)) t0_EW_read_ok (i := 26) rfl
theorem d_EW_read_46 : decode c_EW_read 46 = .ok (.getfield 10, 3) := dc_of (x := (46, .getfield 10, 3)) t0_EW_read_ok (i := 27) rfl
theorem d_EW_read_49 : decode c_EW_read 49 = .ok (.getfield 185, 3) := dc_of (x := (49, .getfield 185, 3)) t0_EW_read_ok (i := 28) rfl
theorem d_EW_read_52 : decode c_EW_read 52 = .ok (.getfield 189, 3) := dc_of (x := (52, .getfield 189, 3)) t0_EW_read_ok (i := 29) rfl
theorem d_EW_read_55 : decode c_EW_read 55 = .ok (.isub, 1) := dc_of (x := (55, .isub, 1)) t0_EW_read_ok (i := 30) rfl
theorem d_EW_read_56 : decode c_EW_read 56 = .ok (.if_icmp .le 13, 3) := dc_of (x := (56, .if_icmp .le 13, 3)) t0_EW_read_ok (i := 31) rfl
theorem d_EW_read_59 : decode c_EW_read 59 = .ok (.new 31, 3) := dc_of (x := (59, .new 31, 3)) t0_EW_read_ok (i := 32) rfl
theorem d_EW_read_62 : decode c_EW_read 62 = .ok (.dup, 1) := dc_of (x := (62, .dup, 1)) t0_EW_read_ok (i := 33) rfl
theorem d_EW_read_63 : decode c_EW_read 63 = .ok (.ldc 192, 2) := dc_of (x := (63, .ldc 192, 2)) t0_EW_read_ok (i := 34) rfl
theorem d_EW_read_65 : decode c_EW_read 65 = .ok (.invokespecial 35, 3) := dc_of (x := (65, .invokespecial 35, 3)) t0_EW_read_ok (i := 35) rfl
theorem d_EW_read_68 : decode c_EW_read 68 = .ok (.athrow, 1) := dc_of (x := (68, .athrow, 1)) t0_EW_read_ok (i := 36) rfl
theorem d_EW_read_69 : decode c_EW_read 69 = .ok (.aload_n 1, 1) := dc_of (x := (69, .aload_n 1, 1)) t0_EW_read_ok (i := 37) rfl
theorem d_EW_read_70 : decode c_EW_read 70 = .ok (.iconst 1, 1) := dc_of (x := (70, .iconst 1, 1)) t0_EW_read_ok (i := 38) rfl
theorem d_EW_read_71 : decode c_EW_read 71 = .ok (.invokevirtual 175, 3) := dc_of (x := (71, .invokevirtual 175, 3)) t0_EW_read_ok (i := 39) rfl
theorem d_EW_read_74 : decode c_EW_read 74 = .ok (.pop, 1) := dc_of (x := (74, .pop, 1)) t0_EW_read_ok (i := 40) rfl
theorem d_EW_read_75 : decode c_EW_read 75 = .ok (.aload_n 0, 1) := dc_of (x := (75, .aload_n 0, 1)) t0_EW_read_ok (i := 41) rfl
theorem d_EW_read_76 : decode c_EW_read 76 = .ok (.getfield 23, 3) := dc_of (x := (76, .getfield 23, 3)) t0_EW_read_ok (i := 42) rfl
theorem d_EW_read_79 : decode c_EW_read 79 = .ok (.iconst 0, 1) := dc_of (x := (79, .iconst 0, 1)) t0_EW_read_ok (i := 43) rfl
theorem d_EW_read_80 : decode c_EW_read 80 = .ok (.putfield 179, 3) := dc_of (x := (80, .putfield 179, 3)) t0_EW_read_ok (i := 44) rfl
theorem d_EW_read_83 : decode c_EW_read 83 = .ok (.aload_n 1, 1) := dc_of (x := (83, .aload_n 1, 1)) t0_EW_read_ok (i := 45) rfl
theorem d_EW_read_84 : decode c_EW_read 84 = .ok (.getfield 182, 3) := dc_of (x := (84, .getfield 182, 3)) t0_EW_read_ok (i := 46) rfl
theorem d_EW_read_87 : decode c_EW_read 87 = .ok (.ireturn, 1) := dc_of (x := (87, .ireturn, 1)) t0_EW_read_ok (i := 47) rfl
def t0_EW_write : List (Nat × Instr × Nat) := [(0, .iload_n 1, 1), (1, .ifCond .ge 7, 3), (4, .iconst (-1), 1), (5, .goto 14, 3), (8, .aload_n 0, 1), (9, .getfield 10, 3), (12, .getfield 129, 3), (15, .iload_n 1, 1), (16, .invokevirtual 194, 3), (19, .istore_n 2, 1), (20, .iload_n 2, 1), (21, .iconst (-1), 1), (22, .if_icmp .ne 13, 3), (25, .new 60, 3), (28, .dup, 1), (29, .ldc 198, 2), (31, .invokespecial 64, 3), (34, .athrow, 1), (35, .iload_n 2, 1), (36, .ireturn, 1)]
theorem t0_EW_write_ok : t0_EW_write.all (fun x => decide (decode c_EW_write x.1 = .ok x.2)) = true := by decide +kernel
theorem d_EW_write_0 : decode c_EW_write 0 = .ok (.iload_n 1, 1) := dc_of (x := (0, .iload_n 1, 1)) t0_EW_write_ok (i := 0) rfl
theorem d_EW_write_1 : decode c_EW_write 1 = .ok (.ifCond .ge 7, 3) := dc_of (x := (1, .ifCond .ge 7, 3)) t0_EW_write_ok (i := 1) rfl
theorem d_EW_write_4 : decode c_EW_write 4 = .ok (.iconst (-1), 1) := dc_of (x := (4, .iconst (-1), 1)) t0_EW_write_ok (i := 2) rfl
theorem d_EW_write_5 : decode c_EW_write 5 = .ok (.goto 14, 3) := dc_of (x := (5, .goto 14, 3)) t0_EW_write_ok (i := 3) rfl
theorem d_EW_write_8 : decode c_EW_write 8 = .ok (.aload_n 0, 1) := dc_of (x := (8, .aload_n 0, 1)) t0_EW_write_ok (i := 4) rfl
theorem d_EW_write_9 : decode c_EW_write 9 = .ok (.getfield 10, 3) := dc_of (x := (9, .getfield 10, 3)) t0_EW_write_ok (i := 5) rfl
theorem d_EW_write_12 : decode c_EW_write 12 = .ok (.getfield 129, 3) := dc_of (x := (12, .getfield 129, 3)) t0_EW_write_ok (i := 6) rfl
theorem d_EW_write_15 : decode c_EW_write 15 = .ok (.iload_n 1, 1) := dc_of (x := (15, .iload_n 1, 1)) t0_EW_write_ok (i := 7) rfl
theorem d_EW_write_16 : decode c_EW_write 16 = .ok (.invokevirtual 194, 3) := dc_of (x := (16, .invokevirtual 194, 3)) t0_EW_write_ok (i := 8) rfl
theorem d_EW_write_19 : decode c_EW_write 19 = .ok (.istore_n 2, 1) := dc_of (x := (19, .istore_n 2, 1)) t0_EW_write_ok (i := 9) rfl
theorem d_EW_write_20 : decode c_EW_write 20 = .ok (.iload_n 2, 1) := dc_of (x := (20, .iload_n 2, 1)) t0_EW_write_ok (i := 10) rfl
theorem d_EW_write_21 : decode c_EW_write 21 = .ok (.iconst (-1), 1) := dc_of (x := (21, .iconst (-1), 1)) t0_EW_write_ok (i := 11) rfl
theorem d_EW_write_22 : decode c_EW_write 22 = .ok (.if_icmp .ne 13, 3) := dc_of (x := (22, .if_icmp .ne 13, 3)) t0_EW_write_ok (i := 12) rfl
theorem d_EW_write_25 : decode c_EW_write 25 = .ok (.new 60, 3) := dc_of (x := (25, .new 60, 3)) t0_EW_write_ok (i := 13) rfl
theorem d_EW_write_28 : decode c_EW_write 28 = .ok (.dup, 1) := dc_of (x := (28, .dup, 1)) t0_EW_write_ok (i := 14) rfl
theorem d_EW_write_29 : decode c_EW_write 29 = .ok (.ldc 198, 2) := dc_of (x := (29, .ldc 198, 2)) t0_EW_write_ok (i := 15) rfl
theorem d_EW_write_31 : decode c_EW_write 31 = .ok (.invokespecial 64, 3) := dc_of (x := (31, .invokespecial 64, 3)) t0_EW_write_ok (i := 16) rfl
theorem d_EW_write_34 : decode c_EW_write 34 = .ok (.athrow, 1) := dc_of (x := (34, .athrow, 1)) t0_EW_write_ok (i := 17) rfl
theorem d_EW_write_35 : decode c_EW_write 35 = .ok (.iload_n 2, 1) := dc_of (x := (35, .iload_n 2, 1)) t0_EW_write_ok (i := 18) rfl
theorem d_EW_write_36 : decode c_EW_write 36 = .ok (.ireturn, 1) := dc_of (x := (36, .ireturn, 1)) t0_EW_write_ok (i := 19) rfl
def t0_EW_levels : List (Nat × Instr × Nat) := [(0, .aload_n 0, 1), (1, .getfield 10, 3), (4, .invokevirtual 200, 3), (7, .ireturn, 1)]
theorem t0_EW_levels_ok : t0_EW_levels.all (fun x => decide (decode c_EW_levels x.1 = .ok x.2)) = true := by decide +kernel
theorem d_EW_levels_0 : decode c_EW_levels 0 = .ok (.aload_n 0, 1) := dc_of (x := (0, .aload_n 0, 1)) t0_EW_levels_ok (i := 0) rfl
theorem d_EW_levels_1 : decode c_EW_levels 1 = .ok (.getfield 10, 3) := dc_of (x := (1, .getfield 10, 3)) t0_EW_levels_ok (i := 1) rfl
theorem d_EW_levels_4 : decode c_EW_levels 4 = .ok (.invokevirtual 200, 3) := dc_of (x := (4, .invokevirtual 200, 3)) t0_EW_levels_ok (i := 2) rfl
theorem d_EW_levels_7 : decode c_EW_levels 7 = .ok (.ireturn, 1) := dc_of (x := (7, .ireturn, 1)) t0_EW_levels_ok (i := 3) rfl
def t0_EW_save : List (Nat × Instr × Nat) := [(0, .aload_n 0, 1), (1, .getfield 203, 3), (4, .iconst 4, 1), (5, .if_icmp .lt 13, 3), (8, .new 31, 3), (11, .dup, 1), (12, .ldc 206, 2), (14, .invokespecial 35, 3), (17, .athrow, 1), (18, .new 7, 3), (21, .dup, 1), (22, .invokespecial 9, 3), (25, .astore_n 1, 1), (26, .aload_n 1, 1), (27, .aload_n 0, 1), (28, .getfield 10, 3), (31, .invokevirtual 208, 3), (34, .aload_n 0, 1), (35, .getfield 16, 3), (38, .aload_n 0, 1), (39, .getfield 203, 3), (42, .aload_n 1, 1), (43, .aastore, 1), (44, .aload_n 0, 1), (45, .dup, 1), (46, .getfield 203, 3), (49, .iconst 1, 1), (50, .iadd, 1), (51, .putfield 203, 3), (54, .aload_n 0, 1), (55, .getfield 203, 3), (58, .iconst 1, 1), (59, .isub, 1), (60, .ireturn, 1)]
theorem t0_EW_save_ok : t0_EW_save.all (fun x => decide (decode c_EW_save x.1 = .ok x.2)) = true := by decide +kernel
theorem d_EW_save_0 : decode c_EW_save 0 = .ok (.aload_n 0, 1) := dc_of (x := (0, .aload_n 0, 1)) t0_EW_save_ok (i := 0) rfl
theorem d_EW_save_1 : decode c_EW_save 1 = .ok (.getfield 203, 3) := dc_of (x := (1, .getfield 203, 3)) t0_EW_save_ok (i := 1) rfl
theorem d_EW_save_4 : decode c_EW_save 4 = .ok (.iconst 4, 1) := dc_of (x := (4, .iconst 4, 1)) t0_EW_save_ok (i := 2) rfl
theorem d_EW_save_5 : decode c_EW_save 5 = .ok (.if_icmp .lt 13, 3) := dc_of (x := (5, .if_icmp .lt 13, 3)) t0_EW_save_ok (i := 3) rfl
theorem d_EW_save_8 : decode c_EW_save 8 = .ok (.new 31, 3) := dc_of (x := (8, .new 31, 3)) t0_EW_save_ok (i := 4) rfl
theorem d_EW_save_11 : decode c_EW_save 11 = .ok (.dup, 1) := dc_of (x := (11, .dup, 1)) t0_EW_save_ok (i := 5) rfl
theorem d_EW_save_12 : decode c_EW_save 12 = .ok (.ldc 206, 2) := dc_of (x := (12, .ldc 206, 2)) t0_EW_save_ok (i := 6) rfl
theorem d_EW_save_14 : decode c_EW_save 14 = .ok (.invokespecial 35, 3) := dc_of (x := (14, .invokespecial 35, 3)) t0_EW_save_ok (i := 7) rfl
theorem d_EW_save_17 : decode c_EW_save 17 = .ok (.athrow, 1) := dc_of (x := (17, .athrow, 1)) t0_EW_save_ok (i := 8) rfl
theorem d_EW_save_18 : decode c_EW_save 18 = .ok (.new 7, 3) := dc_of (x := (18, .new 7, 3)) t0_EW_save_ok (i := 9) rfl
theorem d_EW_save_21 : decode c_EW_save 21 = .ok (.dup, 1) := dc_of (x := (21, .dup, 1)) t0_EW_save_ok (i := 10) rfl
theorem d_EW_save_22 : decode c_EW_save 22 = .ok (.invokespecial 9, 3) := dc_of (x := (22, .invokespecial 9, 3)) t0_EW_save_ok (i := 11) rfl
theorem d_EW_save_25 : decode c_EW_save 25 = .ok (.astore_n 1, 1) := dc_of (x := (25, .astore_n 1, 1)) t0_EW_save_ok (i := 12) rfl
theorem d_EW_save_26 : decode c_EW_save 26 = .ok (.aload_n 1, 1) := dc_of (x := (26, .aload_n 1, 1)) t0_EW_save_ok (i := 13) rfl
theorem d_EW_save_27 : decode c_EW_save 27 = .ok (.aload_n 0, 1) := dc_of (x := (27, .aload_n 0, 1)) t0_EW_save_ok (i := 14) rfl
theorem d_EW_save_28 : decode c_EW_save 28 = .ok (.getfield 10, 3) := dc_of (x := (28, .getfield 10, 3)) t0_EW_save_ok (i := 15) rfl
theorem d_EW_save_31 : decode c_EW_save 31 = .ok (.invokevirtual 208, 3) := dc_of (x := (31, .invokevirtual 208, 3)) t0_EW_save_ok (i := 16) rfl
theorem d_EW_save_34 : decode c_EW_save 34 = .ok (.aload_n 0, 1) := dc_of (x := (34, .aload_n 0, 1)) t0_EW_save_ok (i := 17) rfl
theorem d_EW_save_35 : decode c_EW_save 35 = .ok (.getfield 16, 3) := dc_of (x := (35, .getfield 16, 3)) t0_EW_save_ok (i := 18) rfl
theorem d_EW_save_38 : decode c_EW_save 38 = .ok (.aload_n 0, 1) := dc_of (x := (38, .aload_n 0, 1)) t0_EW_save_ok (i := 19) rfl
theorem d_EW_save_39 : decode c_EW_save 39 = .ok (.getfield 203, 3) := dc_of (x := (39, .getfield 203, 3)) t0_EW_save_ok (i := 20) rfl
theorem d_EW_save_42 : decode c_EW_save 42 = .ok (.aload_n 1, 1) := dc_of (x := (42, .aload_n 1, 1)) t0_EW_save_ok (i := 21) rfl
theorem d_EW_save_43 : decode c_EW_save 43 = .ok (.aastore, 1) := dc_of (x := (43, .aastore, 1)) t0_EW_save_ok (i := 22) rfl
theorem d_EW_save_44 : decode c_EW_save 44 = .ok (.aload_n 0, 1) := dc_of (x := (44, .aload_n 0, 1)) t0_EW_save_ok (i := 23) rfl
theorem d_EW_save_45 : decode c_EW_save 45 = .ok (.dup, 1) := dc_of (x := (45, .dup, 1)) t0_EW_save_ok (i := 24) rfl
theorem d_EW_save_46 : decode c_EW_save 46 = .ok (.getfield 203, 3) := dc_of (x := (46, .getfield 203, 3)) t0_EW_save_ok (i := 25) rfl
theorem d_EW_save_49 : decode c_EW_save 49 = .ok (.iconst 1, 1) := dc_of (x := (49, .iconst 1, 1)) t0_EW_save_ok (i := 26) rfl
theorem d_EW_save_50 : decode c_EW_save 50 = .ok (.iadd, 1) := dc_of (x := (50, .iadd, 1)) t0_EW_save_ok (i := 27) rfl
theorem d_EW_save_51 : decode c_EW_save 51 = .ok (.putfield 203, 3) := dc_of (x := (51, .putfield 203, 3)) t0_EW_save_ok (i := 28) rfl
theorem d_EW_save_54 : decode c_EW_save 54 = .ok (.aload_n 0, 1) := dc_of (x := (54, .aload_n 0, 1)) t0_EW_save_ok (i := 29) rfl
theorem d_EW_save_55 : decode c_EW_save 55 = .ok (.getfield 203, 3) := dc_of (x := (55, .getfield 203, 3)) t0_EW_save_ok (i := 30) rfl
theorem d_EW_save_58 : decode c_EW_save 58 = .ok (.iconst 1, 1) := dc_of (x := (58, .iconst 1, 1)) t0_EW_save_ok (i := 31) rfl
theorem d_EW_save_59 : decode c_EW_save 59 = .ok (.isub, 1) := dc_of (x := (59, .isub, 1)) t0_EW_save_ok (i := 32) rfl
theorem d_EW_save_60 : decode c_EW_save 60 = .ok (.ireturn, 1) := dc_of (x := (60, .ireturn, 1)) t0_EW_save_ok (i := 33) rfl
def t0_EW_back : List (Nat × Instr × Nat) := [(0, .iload_n 1, 1), (1, .ifCond .lt 11, 3), (4, .iload_n 1, 1), (5, .aload_n 0, 1), (6, .getfield 203, 3), (9, .if_icmp .lt 5, 3), (12, .iconst 0, 1), (13, .ireturn, 1), (14, .aload_n 0, 1), (15, .getfield 16, 3), (18, .iload_n 1, 1), (19, .aaload, 1), (20, .astore_n 2, 1), (21, .aload_n 2, 1), (22, .ifnonnull 5, 3), (25, .iconst 0, 1), (26, .ireturn, 1), (27, .aload_n 0, 1), (28, .getfield 10, 3), (31, .aload_n 2, 1), (32, .invokevirtual 208, 3), (35, .iconst 1, 1), (36, .ireturn, 1)]
theorem t0_EW_back_ok : t0_EW_back.all (fun x => decide (decode c_EW_back x.1 = .ok x.2)) = true := by decide +kernel
theorem d_EW_back_0 : decode c_EW_back 0 = .ok (.iload_n 1, 1) := dc_of (x := (0, .iload_n 1, 1)) t0_EW_back_ok (i := 0) rfl
theorem d_EW_back_1 : decode c_EW_back 1 = .ok (.ifCond .lt 11, 3) := dc_of (x := (1, .ifCond .lt 11, 3)) t0_EW_back_ok (i := 1) rfl
theorem d_EW_back_4 : decode c_EW_back 4 = .ok (.iload_n 1, 1) := dc_of (x := (4, .iload_n 1, 1)) t0_EW_back_ok (i := 2) rfl
theorem d_EW_back_5 : decode c_EW_back 5 = .ok (.aload_n 0, 1) := dc_of (x := (5, .aload_n 0, 1)) t0_EW_back_ok (i := 3) rfl
theorem d_EW_back_6 : decode c_EW_back 6 = .ok (.getfield 203, 3) := dc_of (x := (6, .getfield 203, 3)) t0_EW_back_ok (i := 4) rfl
theorem d_EW_back_9 : decode c_EW_back 9 = .ok (.if_icmp .lt 5, 3) := dc_of (x := (9, .if_icmp .lt 5, 3)) t0_EW_back_ok (i := 5) rfl
theorem d_EW_back_12 : decode c_EW_back 12 = .ok (.iconst 0, 1) := dc_of (x := (12, .iconst 0, 1)) t0_EW_back_ok (i := 6) rfl
theorem d_EW_back_13 : decode c_EW_back 13 = .ok (.ireturn, 1) := dc_of (x := (13, .ireturn, 1)) t0_EW_back_ok (i := 7) rfl
theorem d_EW_back_14 : decode c_EW_back 14 = .ok (.aload_n 0, 1) := dc_of (x := (14, .aload_n 0, 1)) t0_EW_back_ok (i := 8) rfl
theorem d_EW_back_15 : decode c_EW_back 15 = .ok (.getfield 16, 3) := dc_of (x := (15, .getfield 16, 3)) t0_EW_back_ok (i := 9) rfl
theorem d_EW_back_18 : decode c_EW_back 18 = .ok (.iload_n 1, 1) := dc_of (x := (18, .iload_n 1, 1)) t0_EW_back_ok (i := 10) rfl
theorem d_EW_back_19 : decode c_EW_back 19 = .ok (.aaload, 1) := dc_of (x := (19, .aaload, 1)) t0_EW_back_ok (i := 11) rfl
theorem d_EW_back_20 : decode c_EW_back 20 = .ok (.astore_n 2, 1) := dc_of (x := (20, .astore_n 2, 1)) t0_EW_back_ok (i := 12) rfl
theorem d_EW_back_21 : decode c_EW_back 21 = .ok (.aload_n 2, 1) := dc_of (x := (21, .aload_n 2, 1)) t0_EW_back_ok (i := 13) rfl
theorem d_EW_back_22 : decode c_EW_back 22 = .ok (.ifnonnull 5, 3) := dc_of (x := (22, .ifnonnull 5, 3)) t0_EW_back_ok (i := 14) rfl
theorem d_EW_back_25 : decode c_EW_back 25 = .ok (.iconst 0, 1) := dc_of (x := (25, .iconst 0, 1)) t0_EW_back_ok (i := 15) rfl
theorem d_EW_back_26 : decode c_EW_back 26 = .ok (.ireturn, 1) := dc_of (x := (26, .ireturn, 1)) t0_EW_back_ok (i := 16) rfl
theorem d_EW_back_27 : decode c_EW_back 27 = .ok (.aload_n 0, 1) := dc_of (x := (27, .aload_n 0, 1)) t0_EW_back_ok (i := 17) rfl
theorem d_EW_back_28 : decode c_EW_back 28 = .ok (.getfield 10, 3) := dc_of (x := (28, .getfield 10, 3)) t0_EW_back_ok (i := 18) rfl
theorem d_EW_back_31 : decode c_EW_back 31 = .ok (.aload_n 2, 1) := dc_of (x := (31, .aload_n 2, 1)) t0_EW_back_ok (i := 19) rfl
theorem d_EW_back_32 : decode c_EW_back 32 = .ok (.invokevirtual 208, 3) := dc_of (x := (32, .invokevirtual 208, 3)) t0_EW_back_ok (i := 20) rfl
theorem d_EW_back_35 : decode c_EW_back 35 = .ok (.iconst 1, 1) := dc_of (x := (35, .iconst 1, 1)) t0_EW_back_ok (i := 21) rfl
theorem d_EW_back_36 : decode c_EW_back 36 = .ok (.ireturn, 1) := dc_of (x := (36, .ireturn, 1)) t0_EW_back_ok (i := 22) rfl
def t0_EW_tell : List (Nat × Instr × Nat) := [(0, .aload_n 0, 1), (1, .iload_n 2, 1), (2, .invokevirtual 42, 3), (5, .aload_n 0, 1), (6, .getfield 10, 3), (9, .getfield 185, 3), (12, .getfield 189, 3), (15, .bipush 100, 2), (17, .if_icmp .lt 13, 3), (20, .new 31, 3), (23, .dup, 1), (24, .ldc 212, 2), (26, .invokespecial 35, 3), (29, .athrow, 1), (30, .iload 5, 2), (32, .ifCond .lt 9, 3), (35, .iload 5, 2), (37, .iconst 3, 1), (38, .if_icmp .le 13, 3), (41, .new 51, 3), (44, .dup, 1), (45, .ldc 214, 2), (47, .invokespecial 55, 3), (50, .athrow, 1), (51, .aload_n 0, 1), (52, .getfield 10, 3), (55, .lload_n 3, 1), (56, .invokevirtual 113, 3), (59, .ifCond .ne 13, 3), (62, .new 51, 3), (65, .dup, 1), (66, .ldc 117, 2), (68, .invokespecial 55, 3), (71, .athrow, 1), (72, .aload_n 0, 1), (73, .getfield 10, 3), (76, .getfield 185, 3), (79, .iload_n 1, 1), (80, .iload_n 2, 1), (81, .lload_n 3, 1), (82, .iload 5, 2), (84, .invokevirtual 216, 3), (87, .aload_n 0, 1), (88, .getfield 10, 3), (91, .getfield 185, 3), (94, .getfield 189, 3), (97, .ireturn, 1)]
theorem t0_EW_tell_ok : t0_EW_tell.all (fun x => decide (decode c_EW_tell x.1 = .ok x.2)) = true := by decide +kernel
theorem d_EW_tell_0 : decode c_EW_tell 0 = .ok (.aload_n 0, 1) := dc_of (x := (0, .aload_n 0, 1)) t0_EW_tell_ok (i := 0) rfl
theorem d_EW_tell_1 : decode c_EW_tell 1 = .ok (.iload_n 2, 1) := dc_of (x := (1, .iload_n 2, 1)) t0_EW_tell_ok (i := 1) rfl
theorem d_EW_tell_2 : decode c_EW_tell 2 = .ok (.invokevirtual 42, 3) := dc_of (x := (2, .invokevirtual 42, 3)) t0_EW_tell_ok (i := 2) rfl
theorem d_EW_tell_5 : decode c_EW_tell 5 = .ok (.aload_n 0, 1) := dc_of (x := (5, .aload_n 0, 1)) t0_EW_tell_ok (i := 3) rfl
theorem d_EW_tell_6 : decode c_EW_tell 6 = .ok (.getfield 10, 3) := dc_of (x := (6, .getfield 10, 3)) t0_EW_tell_ok (i := 4) rfl
theorem d_EW_tell_9 : decode c_EW_tell 9 = .ok (.getfield 185, 3) := dc_of (x := (9, .getfield 185, 3)) t0_EW_tell_ok (i := 5) rfl
theorem d_EW_tell_12 : decode c_EW_tell 12 = .ok (.getfield 189, 3) := dc_of (x := (12, .getfield 189, 3)) t0_EW_tell_ok (i := 6) rfl
theorem d_EW_tell_15 : decode c_EW_tell 15 = .ok (.bipush 100, 2) := dc_of (x := (15, .bipush 100, 2)) t0_EW_tell_ok (i := 7) rfl
theorem d_EW_tell_17 : decode c_EW_tell 17 = .ok (.if_icmp .lt 13, 3) := dc_of (x := (17, .if_icmp .lt 13, 3)) t0_EW_tell_ok (i := 8) rfl
theorem d_EW_tell_20 : decode c_EW_tell 20 = .ok (.new 31, 3) := dc_of (x := (20, .new 31, 3)) t0_EW_tell_ok (i := 9) rfl
theorem d_EW_tell_23 : decode c_EW_tell 23 = .ok (.dup, 1) := dc_of (x := (23, .dup, 1)) t0_EW_tell_ok (i := 10) rfl
theorem d_EW_tell_24 : decode c_EW_tell 24 = .ok (.ldc 212, 2) := dc_of (x := (24, .ldc 212, 2)) t0_EW_tell_ok (i := 11) rfl
theorem d_EW_tell_26 : decode c_EW_tell 26 = .ok (.invokespecial 35, 3) := dc_of (x := (26, .invokespecial 35, 3)) t0_EW_tell_ok (i := 12) rfl
theorem d_EW_tell_29 : decode c_EW_tell 29 = .ok (.athrow, 1) := dc_of (x := (29, .athrow, 1)) t0_EW_tell_ok (i := 13) rfl
theorem d_EW_tell_30 : decode c_EW_tell 30 = .ok (.iload 5, 2) := dc_of (x := (30, .iload 5, 2)) t0_EW_tell_ok (i := 14) rfl
theorem d_EW_tell_32 : decode c_EW_tell 32 = .ok (.ifCond .lt 9, 3) := dc_of (x := (32, .ifCond .lt 9, 3)) t0_EW_tell_ok (i := 15) rfl
theorem d_EW_tell_35 : decode c_EW_tell 35 = .ok (.iload 5, 2) := dc_of (x := (35, .iload 5, 2)) t0_EW_tell_ok (i := 16) rfl
theorem d_EW_tell_37 : decode c_EW_tell 37 = .ok (.iconst 3, 1) := dc_of (x := (37, .iconst 3, 1)) t0_EW_tell_ok (i := 17) rfl
theorem d_EW_tell_38 : decode c_EW_tell 38 = .ok (.if_icmp .le 13, 3) := dc_of (x := (38, .if_icmp .le 13, 3)) t0_EW_tell_ok (i := 18) rfl
theorem d_EW_tell_41 : decode c_EW_tell 41 = .ok (.new 51, 3) := dc_of (x := (41, .new 51, 3)) t0_EW_tell_ok (i := 19) rfl
theorem d_EW_tell_44 : decode c_EW_tell 44 = .ok (.dup, 1) := dc_of (x := (44, .dup, 1)) t0_EW_tell_ok (i := 20) rfl
theorem d_EW_tell_45 : decode c_EW_tell 45 = .ok (.ldc 214, 2) := dc_of (x := (45, .ldc 214, 2)) t0_EW_tell_ok (i := 21) rfl
theorem d_EW_tell_47 : decode c_EW_tell 47 = .ok (.invokespecial 55, 3) := dc_of (x := (47, .invokespecial 55, 3)) t0_EW_tell_ok (i := 22) rfl
theorem d_EW_tell_50 : decode c_EW_tell 50 = .ok (.athrow, 1) := dc_of (x := (50, .athrow, 1)) t0_EW_tell_ok (i := 23) rfl
theorem d_EW_tell_51 : decode c_EW_tell 51 = .ok (.aload_n 0, 1) := dc_of (x := (51, .aload_n 0, 1)) t0_EW_tell_ok (i := 24) rfl
theorem d_EW_tell_52 : decode c_EW_tell 52 = .ok (.getfield 10, 3) := dc_of (x := (52, .getfield 10, 3)) t0_EW_tell_ok (i := 25) rfl
theorem d_EW_tell_55 : decode c_EW_tell 55 = .ok (.lload_n 3, 1) := dc_of (x := (55, .lload_n 3, 1)) t0_EW_tell_ok (i := 26) rfl
theorem d_EW_tell_56 : decode c_EW_tell 56 = .ok (.invokevirtual 113, 3) := dc_of (x := (56, .invokevirtual 113, 3)) t0_EW_tell_ok (i := 27) rfl
theorem d_EW_tell_59 : decode c_EW_tell 59 = .ok (.ifCond .ne 13, 3) := dc_of (x := (59, .ifCond .ne 13, 3)) t0_EW_tell_ok (i := 28) rfl
theorem d_EW_tell_62 : decode c_EW_tell 62 = .ok (.new 51, 3) := dc_of (x := (62, .new 51, 3)) t0_EW_tell_ok (i := 29) rfl
theorem d_EW_tell_65 : decode c_EW_tell 65 = .ok (.dup, 1) := dc_of (x := (65, .dup, 1)) t0_EW_tell_ok (i := 30) rfl
theorem d_EW_tell_66 : decode c_EW_tell 66 = .ok (.ldc 117, 2) := dc_of (x := (66, .ldc 117, 2)) t0_EW_tell_ok (i := 31) rfl
theorem d_EW_tell_68 : decode c_EW_tell 68 = .ok (.invokespecial 55, 3) := dc_of (x := (68, .invokespecial 55, 3)) t0_EW_tell_ok (i := 32) rfl
theorem d_EW_tell_71 : decode c_EW_tell 71 = .ok (.athrow, 1) := dc_of (x := (71, .athrow, 1)) t0_EW_tell_ok (i := 33) rfl
theorem d_EW_tell_72 : decode c_EW_tell 72 = .ok (.aload_n 0, 1) := dc_of (x := (72, .aload_n 0, 1)) t0_EW_tell_ok (i := 34) rfl
theorem d_EW_tell_73 : decode c_EW_tell 73 = .ok (.getfield 10, 3) := dc_of (x := (73, .getfield 10, 3)) t0_EW_tell_ok (i := 35) rfl
theorem d_EW_tell_76 : decode c_EW_tell 76 = .ok (.getfield 185, 3) := dc_of (x := (76, .getfield 185, 3)) t0_EW_tell_ok (i := 36) rfl
theorem d_EW_tell_79 : decode c_EW_tell 79 = .ok (.iload_n 1, 1) := dc_of (x := (79, .iload_n 1, 1)) t0_EW_tell_ok (i := 37) rfl
theorem d_EW_tell_80 : decode c_EW_tell 80 = .ok (.iload_n 2, 1) := dc_of (x := (80, .iload_n 2, 1)) t0_EW_tell_ok (i := 38) rfl
theorem d_EW_tell_81 : decode c_EW_tell 81 = .ok (.lload_n 3, 1) := dc_of (x := (81, .lload_n 3, 1)) t0_EW_tell_ok (i := 39) rfl
theorem d_EW_tell_82 : decode c_EW_tell 82 = .ok (.iload 5, 2) := dc_of (x := (82, .iload 5, 2)) t0_EW_tell_ok (i := 40) rfl
theorem d_EW_tell_84 : decode c_EW_tell 84 = .ok (.invokevirtual 216, 3) := dc_of (x := (84, .invokevirtual 216, 3)) t0_EW_tell_ok (i := 41) rfl
theorem d_EW_tell_87 : decode c_EW_tell 87 = .ok (.aload_n 0, 1) := dc_of (x := (87, .aload_n 0, 1)) t0_EW_tell_ok (i := 42) rfl
theorem d_EW_tell_88 : decode c_EW_tell 88 = .ok (.getfield 10, 3) := dc_of (x := (88, .getfield 10, 3)) t0_EW_tell_ok (i := 43) rfl
theorem d_EW_tell_91 : decode c_EW_tell 91 = .ok (.getfield 185, 3) := dc_of (x := (91, .getfield 185, 3)) t0_EW_tell_ok (i := 44) rfl
theorem d_EW_tell_94 : decode c_EW_tell 94 = .ok (.getfield 189, 3) := dc_of (x := (94, .getfield 189, 3)) t0_EW_tell_ok (i := 45) rfl
theorem d_EW_tell_97 : decode c_EW_tell 97 = .ok (.ireturn, 1) := dc_of (x := (97, .ireturn, 1)) t0_EW_tell_ok (i := 46) rfl
def t0_EW_requireNet : List (Nat × Instr × Nat) := [(0, .aload_n 0, 1), (1, .getfield 10, 3), (4, .iload_n 1, 1), (5, .invokevirtual 219, 3), (8, .ifCond .ne 13, 3), (11, .new 60, 3), (14, .dup, 1), (15, .ldc 222, 2), (17, .invokespecial 64, 3), (20, .athrow, 1), (21, .return_, 1)]
theorem t0_EW_requireNet_ok : t0_EW_requireNet.all (fun x => decide (decode c_EW_requireNet x.1 = .ok x.2)) = true := by decide +kernel
theorem d_EW_requireNet_0 : decode c_EW_requireNet 0 = .ok (.aload_n 0, 1) := dc_of (x := (0, .aload_n 0, 1)) t0_EW_requireNet_ok (i := 0) rfl
theorem d_EW_requireNet_1 : decode c_EW_requireNet 1 = .ok (.getfield 10, 3) := dc_of (x := (1, .getfield 10, 3)) t0_EW_requireNet_ok (i := 1) rfl
theorem d_EW_requireNet_4 : decode c_EW_requireNet 4 = .ok (.iload_n 1, 1) := dc_of (x := (4, .iload_n 1, 1)) t0_EW_requireNet_ok (i := 2) rfl
theorem d_EW_requireNet_5 : decode c_EW_requireNet 5 = .ok (.invokevirtual 219, 3) := dc_of (x := (5, .invokevirtual 219, 3)) t0_EW_requireNet_ok (i := 3) rfl
theorem d_EW_requireNet_8 : decode c_EW_requireNet 8 = .ok (.ifCond .ne 13, 3) := dc_of (x := (8, .ifCond .ne 13, 3)) t0_EW_requireNet_ok (i := 4) rfl
theorem d_EW_requireNet_11 : decode c_EW_requireNet 11 = .ok (.new 60, 3) := dc_of (x := (11, .new 60, 3)) t0_EW_requireNet_ok (i := 5) rfl
theorem d_EW_requireNet_14 : decode c_EW_requireNet 14 = .ok (.dup, 1) := dc_of (x := (14, .dup, 1)) t0_EW_requireNet_ok (i := 6) rfl
theorem d_EW_requireNet_15 : decode c_EW_requireNet 15 = .ok (.ldc 222, 2) := dc_of (x := (15, .ldc 222, 2)) t0_EW_requireNet_ok (i := 7) rfl
theorem d_EW_requireNet_17 : decode c_EW_requireNet 17 = .ok (.invokespecial 64, 3) := dc_of (x := (17, .invokespecial 64, 3)) t0_EW_requireNet_ok (i := 8) rfl
theorem d_EW_requireNet_20 : decode c_EW_requireNet 20 = .ok (.athrow, 1) := dc_of (x := (20, .athrow, 1)) t0_EW_requireNet_ok (i := 9) rfl
theorem d_EW_requireNet_21 : decode c_EW_requireNet 21 = .ok (.return_, 1) := dc_of (x := (21, .return_, 1)) t0_EW_requireNet_ok (i := 10) rfl
def t0_EW_isLength : List (Nat × Instr × Nat) := [(0, .iload_n 0, 1), (1, .ifCond .lt 14, 3), (4, .iload_n 0, 1), (5, .sipush 1000, 3), (8, .if_icmp .gt 7, 3), (11, .iconst 1, 1), (12, .goto 4, 3), (15, .iconst 0, 1), (16, .ireturn, 1)]
theorem t0_EW_isLength_ok : t0_EW_isLength.all (fun x => decide (decode c_EW_isLength x.1 = .ok x.2)) = true := by decide +kernel
theorem d_EW_isLength_0 : decode c_EW_isLength 0 = .ok (.iload_n 0, 1) := dc_of (x := (0, .iload_n 0, 1)) t0_EW_isLength_ok (i := 0) rfl
theorem d_EW_isLength_1 : decode c_EW_isLength 1 = .ok (.ifCond .lt 14, 3) := dc_of (x := (1, .ifCond .lt 14, 3)) t0_EW_isLength_ok (i := 1) rfl
theorem d_EW_isLength_4 : decode c_EW_isLength 4 = .ok (.iload_n 0, 1) := dc_of (x := (4, .iload_n 0, 1)) t0_EW_isLength_ok (i := 2) rfl
theorem d_EW_isLength_5 : decode c_EW_isLength 5 = .ok (.sipush 1000, 3) := dc_of (x := (5, .sipush 1000, 3)) t0_EW_isLength_ok (i := 3) rfl
theorem d_EW_isLength_8 : decode c_EW_isLength 8 = .ok (.if_icmp .gt 7, 3) := dc_of (x := (8, .if_icmp .gt 7, 3)) t0_EW_isLength_ok (i := 4) rfl
theorem d_EW_isLength_11 : decode c_EW_isLength 11 = .ok (.iconst 1, 1) := dc_of (x := (11, .iconst 1, 1)) t0_EW_isLength_ok (i := 5) rfl
theorem d_EW_isLength_12 : decode c_EW_isLength 12 = .ok (.goto 4, 3) := dc_of (x := (12, .goto 4, 3)) t0_EW_isLength_ok (i := 6) rfl
theorem d_EW_isLength_15 : decode c_EW_isLength 15 = .ok (.iconst 0, 1) := dc_of (x := (15, .iconst 0, 1)) t0_EW_isLength_ok (i := 7) rfl
theorem d_EW_isLength_16 : decode c_EW_isLength 16 = .ok (.ireturn, 1) := dc_of (x := (16, .ireturn, 1)) t0_EW_isLength_ok (i := 8) rfl
def t0_Ci_init : List (Nat × Instr × Nat) := [(0, .aload_n 0, 1), (1, .invokespecial 3, 3), (4, .aload_n 0, 1), (5, .iconst 0, 1), (6, .putfield 9, 3), (9, .aload_n 0, 1), (10, .bipush 24, 2), (12, .anewarray 15, 3), (15, .putfield 17, 3), (18, .aload_n 0, 1), (19, .bipush 32, 2), (21, .anewarray 21, 3), (24, .putfield 23, 3), (27, .aload_n 0, 1), (28, .bipush 20, 2), (30, .anewarray 27, 3), (33, .putfield 29, 3), (36, .aload_n 0, 1), (37, .new 33, 3), (40, .dup, 1), (41, .invokespecial 35, 3), (44, .putfield 36, 3), (47, .aload_n 0, 1), (48, .new 40, 3), (51, .dup, 1), (52, .invokespecial 42, 3), (55, .putfield 43, 3), (58, .iconst 0, 1), (59, .istore_n 1, 1), (60, .iload_n 1, 1), (61, .bipush 24, 2), (63, .if_icmp .ge 22, 3), (66, .aload_n 0, 1), (67, .getfield 17, 3), (70, .iload_n 1, 1), (71, .new 15, 3), (74, .dup, 1), (75, .invokespecial 47, 3), (78, .aastore, 1), (79, .iinc 1 1, 3), (82, .goto (-22), 3), (85, .iconst 0, 1), (86, .istore_n 1, 1), (87, .iload_n 1, 1), (88, .bipush 32, 2), (90, .if_icmp .ge 22, 3), (93, .aload_n 0, 1), (94, .getfield 23, 3), (97, .iload_n 1, 1), (98, .new 21, 3), (101, .dup, 1), (102, .invokespecial 48, 3), (105, .aastore, 1), (106, .iinc 1 1, 3), (109, .goto (-22), 3), (112, .iconst 0, 1), (113, .istore_n 1, 1), (114, .iload_n 1, 1), (115, .bipush 20, 2), (117, .if_icmp .ge 22, 3)]
theorem t0_Ci_init_ok : t0_Ci_init.all (fun x => decide (decode c_Ci_init x.1 = .ok x.2)) = true := by decide +kernel
def t1_Ci_init : List (Nat × Instr × Nat) := [(120, .aload_n 0, 1), (121, .getfield 29, 3), (124, .iload_n 1, 1), (125, .new 27, 3), (128, .dup, 1), (129, .invokespecial 49, 3), (132, .aastore, 1), (133, .iinc 1 1, 3), (136, .goto (-22), 3), (139, .return_, 1)]
theorem t1_Ci_init_ok : t1_Ci_init.all (fun x => decide (decode c_Ci_init x.1 = .ok x.2)) = true := by decide +kernel
theorem d_Ci_init_0 : decode c_Ci_init 0 = .ok (.aload_n 0, 1) := dc_of (x := (0, .aload_n 0, 1)) t0_Ci_init_ok (i := 0) rfl
theorem d_Ci_init_1 : decode c_Ci_init 1 = .ok (.invokespecial 3, 3) := dc_of (x := (1, .invokespecial 3, 3)) t0_Ci_init_ok (i := 1) rfl
theorem d_Ci_init_4 : decode c_Ci_init 4 = .ok (.aload_n 0, 1) := dc_of (x := (4, .aload_n 0, 1)) t0_Ci_init_ok (i := 2) rfl
theorem d_Ci_init_5 : decode c_Ci_init 5 = .ok (.iconst 0, 1) := dc_of (x := (5, .iconst 0, 1)) t0_Ci_init_ok (i := 3) rfl
theorem d_Ci_init_6 : decode c_Ci_init 6 = .ok (.putfield 9, 3) := dc_of (x := (6, .putfield 9, 3)) t0_Ci_init_ok (i := 4) rfl
theorem d_Ci_init_9 : decode c_Ci_init 9 = .ok (.aload_n 0, 1) := dc_of (x := (9, .aload_n 0, 1)) t0_Ci_init_ok (i := 5) rfl
theorem d_Ci_init_10 : decode c_Ci_init 10 = .ok (.bipush 24, 2) := dc_of (x := (10, .bipush 24, 2)) t0_Ci_init_ok (i := 6) rfl
theorem d_Ci_init_12 : decode c_Ci_init 12 = .ok (.anewarray 15, 3) := dc_of (x := (12, .anewarray 15, 3)) t0_Ci_init_ok (i := 7) rfl
theorem d_Ci_init_15 : decode c_Ci_init 15 = .ok (.putfield 17, 3) := dc_of (x := (15, .putfield 17, 3)) t0_Ci_init_ok (i := 8) rfl
theorem d_Ci_init_18 : decode c_Ci_init 18 = .ok (.aload_n 0, 1) := dc_of (x := (18, .aload_n 0, 1)) t0_Ci_init_ok (i := 9) rfl
theorem d_Ci_init_19 : decode c_Ci_init 19 = .ok (.bipush 32, 2) := dc_of (x := (19, .bipush 32, 2)) t0_Ci_init_ok (i := 10) rfl
theorem d_Ci_init_21 : decode c_Ci_init 21 = .ok (.anewarray 21, 3) := dc_of (x := (21, .anewarray 21, 3)) t0_Ci_init_ok (i := 11) rfl
theorem d_Ci_init_24 : decode c_Ci_init 24 = .ok (.putfield 23, 3) := dc_of (x := (24, .putfield 23, 3)) t0_Ci_init_ok (i := 12) rfl
theorem d_Ci_init_27 : decode c_Ci_init 27 = .ok (.aload_n 0, 1) := dc_of (x := (27, .aload_n 0, 1)) t0_Ci_init_ok (i := 13) rfl
theorem d_Ci_init_28 : decode c_Ci_init 28 = .ok (.bipush 20, 2) := dc_of (x := (28, .bipush 20, 2)) t0_Ci_init_ok (i := 14) rfl
theorem d_Ci_init_30 : decode c_Ci_init 30 = .ok (.anewarray 27, 3) := dc_of (x := (30, .anewarray 27, 3)) t0_Ci_init_ok (i := 15) rfl
theorem d_Ci_init_33 : decode c_Ci_init 33 = .ok (.putfield 29, 3) := dc_of (x := (33, .putfield 29, 3)) t0_Ci_init_ok (i := 16) rfl
theorem d_Ci_init_36 : decode c_Ci_init 36 = .ok (.aload_n 0, 1) := dc_of (x := (36, .aload_n 0, 1)) t0_Ci_init_ok (i := 17) rfl
theorem d_Ci_init_37 : decode c_Ci_init 37 = .ok (.new 33, 3) := dc_of (x := (37, .new 33, 3)) t0_Ci_init_ok (i := 18) rfl
theorem d_Ci_init_40 : decode c_Ci_init 40 = .ok (.dup, 1) := dc_of (x := (40, .dup, 1)) t0_Ci_init_ok (i := 19) rfl
theorem d_Ci_init_41 : decode c_Ci_init 41 = .ok (.invokespecial 35, 3) := dc_of (x := (41, .invokespecial 35, 3)) t0_Ci_init_ok (i := 20) rfl
theorem d_Ci_init_44 : decode c_Ci_init 44 = .ok (.putfield 36, 3) := dc_of (x := (44, .putfield 36, 3)) t0_Ci_init_ok (i := 21) rfl
theorem d_Ci_init_47 : decode c_Ci_init 47 = .ok (.aload_n 0, 1) := dc_of (x := (47, .aload_n 0, 1)) t0_Ci_init_ok (i := 22) rfl
theorem d_Ci_init_48 : decode c_Ci_init 48 = .ok (.new 40, 3) := dc_of (x := (48, .new 40, 3)) t0_Ci_init_ok (i := 23) rfl
theorem d_Ci_init_51 : decode c_Ci_init 51 = .ok (.dup, 1) := dc_of (x := (51, .dup, 1)) t0_Ci_init_ok (i := 24) rfl
theorem d_Ci_init_52 : decode c_Ci_init 52 = .ok (.invokespecial 42, 3) := dc_of (x := (52, .invokespecial 42, 3)) t0_Ci_init_ok (i := 25) rfl
theorem d_Ci_init_55 : decode c_Ci_init 55 = .ok (.putfield 43, 3) := dc_of (x := (55, .putfield 43, 3)) t0_Ci_init_ok (i := 26) rfl
theorem d_Ci_init_58 : decode c_Ci_init 58 = .ok (.iconst 0, 1) := dc_of (x := (58, .iconst 0, 1)) t0_Ci_init_ok (i := 27) rfl
theorem d_Ci_init_59 : decode c_Ci_init 59 = .ok (.istore_n 1, 1) := dc_of (x := (59, .istore_n 1, 1)) t0_Ci_init_ok (i := 28) rfl
theorem d_Ci_init_60 : decode c_Ci_init 60 = .ok (.iload_n 1, 1) := dc_of (x := (60, .iload_n 1, 1)) t0_Ci_init_ok (i := 29) rfl
theorem d_Ci_init_61 : decode c_Ci_init 61 = .ok (.bipush 24, 2) := dc_of (x := (61, .bipush 24, 2)) t0_Ci_init_ok (i := 30) rfl
theorem d_Ci_init_63 : decode c_Ci_init 63 = .ok (.if_icmp .ge 22, 3) := dc_of (x := (63, .if_icmp .ge 22, 3)) t0_Ci_init_ok (i := 31) rfl
theorem d_Ci_init_66 : decode c_Ci_init 66 = .ok (.aload_n 0, 1) := dc_of (x := (66, .aload_n 0, 1)) t0_Ci_init_ok (i := 32) rfl
theorem d_Ci_init_67 : decode c_Ci_init 67 = .ok (.getfield 17, 3) := dc_of (x := (67, .getfield 17, 3)) t0_Ci_init_ok (i := 33) rfl
theorem d_Ci_init_70 : decode c_Ci_init 70 = .ok (.iload_n 1, 1) := dc_of (x := (70, .iload_n 1, 1)) t0_Ci_init_ok (i := 34) rfl
theorem d_Ci_init_71 : decode c_Ci_init 71 = .ok (.new 15, 3) := dc_of (x := (71, .new 15, 3)) t0_Ci_init_ok (i := 35) rfl
theorem d_Ci_init_74 : decode c_Ci_init 74 = .ok (.dup, 1) := dc_of (x := (74, .dup, 1)) t0_Ci_init_ok (i := 36) rfl
theorem d_Ci_init_75 : decode c_Ci_init 75 = .ok (.invokespecial 47, 3) := dc_of (x := (75, .invokespecial 47, 3)) t0_Ci_init_ok (i := 37) rfl
theorem d_Ci_init_78 : decode c_Ci_init 78 = .ok (.aastore, 1) := dc_of (x := (78, .aastore, 1)) t0_Ci_init_ok (i := 38) rfl
theorem d_Ci_init_79 : decode c_Ci_init 79 = .ok (.iinc 1 1, 3) := dc_of (x := (79, .iinc 1 1, 3)) t0_Ci_init_ok (i := 39) rfl
theorem d_Ci_init_82 : decode c_Ci_init 82 = .ok (.goto (-22), 3) := dc_of (x := (82, .goto (-22), 3)) t0_Ci_init_ok (i := 40) rfl
theorem d_Ci_init_85 : decode c_Ci_init 85 = .ok (.iconst 0, 1) := dc_of (x := (85, .iconst 0, 1)) t0_Ci_init_ok (i := 41) rfl
theorem d_Ci_init_86 : decode c_Ci_init 86 = .ok (.istore_n 1, 1) := dc_of (x := (86, .istore_n 1, 1)) t0_Ci_init_ok (i := 42) rfl
theorem d_Ci_init_87 : decode c_Ci_init 87 = .ok (.iload_n 1, 1) := dc_of (x := (87, .iload_n 1, 1)) t0_Ci_init_ok (i := 43) rfl
theorem d_Ci_init_88 : decode c_Ci_init 88 = .ok (.bipush 32, 2) := dc_of (x := (88, .bipush 32, 2)) t0_Ci_init_ok (i := 44) rfl
theorem d_Ci_init_90 : decode c_Ci_init 90 = .ok (.if_icmp .ge 22, 3) := dc_of (x := (90, .if_icmp .ge 22, 3)) t0_Ci_init_ok (i := 45) rfl
theorem d_Ci_init_93 : decode c_Ci_init 93 = .ok (.aload_n 0, 1) := dc_of (x := (93, .aload_n 0, 1)) t0_Ci_init_ok (i := 46) rfl
theorem d_Ci_init_94 : decode c_Ci_init 94 = .ok (.getfield 23, 3) := dc_of (x := (94, .getfield 23, 3)) t0_Ci_init_ok (i := 47) rfl
theorem d_Ci_init_97 : decode c_Ci_init 97 = .ok (.iload_n 1, 1) := dc_of (x := (97, .iload_n 1, 1)) t0_Ci_init_ok (i := 48) rfl
theorem d_Ci_init_98 : decode c_Ci_init 98 = .ok (.new 21, 3) := dc_of (x := (98, .new 21, 3)) t0_Ci_init_ok (i := 49) rfl
theorem d_Ci_init_101 : decode c_Ci_init 101 = .ok (.dup, 1) := dc_of (x := (101, .dup, 1)) t0_Ci_init_ok (i := 50) rfl
theorem d_Ci_init_102 : decode c_Ci_init 102 = .ok (.invokespecial 48, 3) := dc_of (x := (102, .invokespecial 48, 3)) t0_Ci_init_ok (i := 51) rfl
theorem d_Ci_init_105 : decode c_Ci_init 105 = .ok (.aastore, 1) := dc_of (x := (105, .aastore, 1)) t0_Ci_init_ok (i := 52) rfl
theorem d_Ci_init_106 : decode c_Ci_init 106 = .ok (.iinc 1 1, 3) := dc_of (x := (106, .iinc 1 1, 3)) t0_Ci_init_ok (i := 53) rfl
theorem d_Ci_init_109 : decode c_Ci_init 109 = .ok (.goto (-22), 3) := dc_of (x := (109, .goto (-22), 3)) t0_Ci_init_ok (i := 54) rfl
theorem d_Ci_init_112 : decode c_Ci_init 112 = .ok (.iconst 0, 1) := dc_of (x := (112, .iconst 0, 1)) t0_Ci_init_ok (i := 55) rfl
theorem d_Ci_init_113 : decode c_Ci_init 113 = .ok (.istore_n 1, 1) := dc_of (x := (113, .istore_n 1, 1)) t0_Ci_init_ok (i := 56) rfl
theorem d_Ci_init_114 : decode c_Ci_init 114 = .ok (.iload_n 1, 1) := dc_of (x := (114, .iload_n 1, 1)) t0_Ci_init_ok (i := 57) rfl
theorem d_Ci_init_115 : decode c_Ci_init 115 = .ok (.bipush 20, 2) := dc_of (x := (115, .bipush 20, 2)) t0_Ci_init_ok (i := 58) rfl
theorem d_Ci_init_117 : decode c_Ci_init 117 = .ok (.if_icmp .ge 22, 3) := dc_of (x := (117, .if_icmp .ge 22, 3)) t0_Ci_init_ok (i := 59) rfl
theorem d_Ci_init_120 : decode c_Ci_init 120 = .ok (.aload_n 0, 1) := dc_of (x := (120, .aload_n 0, 1)) t1_Ci_init_ok (i := 0) rfl
theorem d_Ci_init_121 : decode c_Ci_init 121 = .ok (.getfield 29, 3) := dc_of (x := (121, .getfield 29, 3)) t1_Ci_init_ok (i := 1) rfl
theorem d_Ci_init_124 : decode c_Ci_init 124 = .ok (.iload_n 1, 1) := dc_of (x := (124, .iload_n 1, 1)) t1_Ci_init_ok (i := 2) rfl
theorem d_Ci_init_125 : decode c_Ci_init 125 = .ok (.new 27, 3) := dc_of (x := (125, .new 27, 3)) t1_Ci_init_ok (i := 3) rfl
theorem d_Ci_init_128 : decode c_Ci_init 128 = .ok (.dup, 1) := dc_of (x := (128, .dup, 1)) t1_Ci_init_ok (i := 4) rfl
theorem d_Ci_init_129 : decode c_Ci_init 129 = .ok (.invokespecial 49, 3) := dc_of (x := (129, .invokespecial 49, 3)) t1_Ci_init_ok (i := 5) rfl
theorem d_Ci_init_132 : decode c_Ci_init 132 = .ok (.aastore, 1) := dc_of (x := (132, .aastore, 1)) t1_Ci_init_ok (i := 6) rfl
theorem d_Ci_init_133 : decode c_Ci_init 133 = .ok (.iinc 1 1, 3) := dc_of (x := (133, .iinc 1 1, 3)) t1_Ci_init_ok (i := 7) rfl
theorem d_Ci_init_136 : decode c_Ci_init 136 = .ok (.goto (-22), 3) := dc_of (x := (136, .goto (-22), 3)) t1_Ci_init_ok (i := 8) rfl
theorem d_Ci_init_139 : decode c_Ci_init 139 = .ok (.return_, 1) := dc_of (x := (139, .return_, 1)) t1_Ci_init_ok (i := 9) rfl
def t0_Ci_copyFrom : List (Nat × Instr × Nat) := [(0, .aload_n 0, 1), (1, .aload_n 1, 1), (2, .getfield 50, 3), (5, .putfield 50, 3), (8, .aload_n 0, 1), (9, .aload_n 1, 1), (10, .getfield 9, 3), (13, .putfield 9, 3), (16, .aload_n 0, 1), (17, .aload_n 1, 1), (18, .getfield 54, 3), (21, .putfield 54, 3), (24, .aload_n 0, 1), (25, .aload_n 1, 1), (26, .getfield 57, 3), (29, .putfield 57, 3), (32, .aload_n 0, 1), (33, .aload_n 1, 1), (34, .getfield 60, 3), (37, .putfield 60, 3), (40, .iconst 0, 1), (41, .istore_n 2, 1), (42, .iload_n 2, 1), (43, .aload_n 0, 1), (44, .getfield 54, 3), (47, .if_icmp .ge 24, 3), (50, .aload_n 0, 1), (51, .getfield 17, 3), (54, .iload_n 2, 1), (55, .aaload, 1), (56, .aload_n 1, 1), (57, .getfield 17, 3), (60, .iload_n 2, 1), (61, .aaload, 1), (62, .invokevirtual 63, 3), (65, .iinc 2 1, 3), (68, .goto (-26), 3), (71, .iconst 0, 1), (72, .istore_n 2, 1), (73, .iload_n 2, 1), (74, .aload_n 0, 1), (75, .getfield 57, 3), (78, .if_icmp .ge 24, 3), (81, .aload_n 0, 1), (82, .getfield 23, 3), (85, .iload_n 2, 1), (86, .aaload, 1), (87, .aload_n 1, 1), (88, .getfield 23, 3), (91, .iload_n 2, 1), (92, .aaload, 1), (93, .invokevirtual 67, 3), (96, .iinc 2 1, 3), (99, .goto (-26), 3), (102, .iconst 0, 1), (103, .istore_n 2, 1), (104, .iload_n 2, 1), (105, .aload_n 0, 1), (106, .getfield 60, 3), (109, .if_icmp .ge 24, 3)]
theorem t0_Ci_copyFrom_ok : t0_Ci_copyFrom.all (fun x => decide (decode c_Ci_copyFrom x.1 = .ok x.2)) = true := by decide +kernel
def t1_Ci_copyFrom : List (Nat × Instr × Nat) := [(112, .aload_n 0, 1), (113, .getfield 29, 3), (116, .iload_n 2, 1), (117, .aaload, 1), (118, .aload_n 1, 1), (119, .getfield 29, 3), (122, .iload_n 2, 1), (123, .aaload, 1), (124, .invokevirtual 70, 3), (127, .iinc 2 1, 3), (130, .goto (-26), 3), (133, .aload_n 0, 1), (134, .getfield 36, 3), (137, .aload_n 1, 1), (138, .getfield 36, 3), (141, .invokevirtual 73, 3), (144, .aload_n 0, 1), (145, .getfield 43, 3), (148, .aload_n 1, 1), (149, .getfield 43, 3), (152, .invokevirtual 76, 3), (155, .return_, 1)]
theorem t1_Ci_copyFrom_ok : t1_Ci_copyFrom.all (fun x => decide (decode c_Ci_copyFrom x.1 = .ok x.2)) = true := by decide +kernel
theorem d_Ci_copyFrom_0 : decode c_Ci_copyFrom 0 = .ok (.aload_n 0, 1) := dc_of (x := (0, .aload_n 0, 1)) t0_Ci_copyFrom_ok (i := 0) rfl
theorem d_Ci_copyFrom_1 : decode c_Ci_copyFrom 1 = .ok (.aload_n 1, 1) := dc_of (x := (1, .aload_n 1, 1)) t0_Ci_copyFrom_ok (i := 1) rfl
theorem d_Ci_copyFrom_2 : decode c_Ci_copyFrom 2 = .ok (.getfield 50, 3) := dc_of (x := (2, .getfield 50, 3)) t0_Ci_copyFrom_ok (i := 2) rfl
theorem d_Ci_copyFrom_5 : decode c_Ci_copyFrom 5 = .ok (.putfield 50, 3) := dc_of (x := (5, .putfield 50, 3)) t0_Ci_copyFrom_ok (i := 3) rfl
theorem d_Ci_copyFrom_8 : decode c_Ci_copyFrom 8 = .ok (.aload_n 0, 1) := dc_of (x := (8, .aload_n 0, 1)) t0_Ci_copyFrom_ok (i := 4) rfl
theorem d_Ci_copyFrom_9 : decode c_Ci_copyFrom 9 = .ok (.aload_n 1, 1) := dc_of (x := (9, .aload_n 1, 1)) t0_Ci_copyFrom_ok (i := 5) rfl
theorem d_Ci_copyFrom_10 : decode c_Ci_copyFrom 10 = .ok (.getfield 9, 3) := dc_of (x := (10, .getfield 9, 3)) t0_Ci_copyFrom_ok (i := 6) rfl
theorem d_Ci_copyFrom_13 : decode c_Ci_copyFrom 13 = .ok (.putfield 9, 3) := dc_of (x := (13, .putfield 9, 3)) t0_Ci_copyFrom_ok (i := 7) rfl
theorem d_Ci_copyFrom_16 : decode c_Ci_copyFrom 16 = .ok (.aload_n 0, 1) := dc_of (x := (16, .aload_n 0, 1)) t0_Ci_copyFrom_ok (i := 8) rfl
theorem d_Ci_copyFrom_17 : decode c_Ci_copyFrom 17 = .ok (.aload_n 1, 1) := dc_of (x := (17, .aload_n 1, 1)) t0_Ci_copyFrom_ok (i := 9) rfl
theorem d_Ci_copyFrom_18 : decode c_Ci_copyFrom 18 = .ok (.getfield 54, 3) := dc_of (x := (18, .getfield 54, 3)) t0_Ci_copyFrom_ok (i := 10) rfl
theorem d_Ci_copyFrom_21 : decode c_Ci_copyFrom 21 = .ok (.putfield 54, 3) := dc_of (x := (21, .putfield 54, 3)) t0_Ci_copyFrom_ok (i := 11) rfl
theorem d_Ci_copyFrom_24 : decode c_Ci_copyFrom 24 = .ok (.aload_n 0, 1) := dc_of (x := (24, .aload_n 0, 1)) t0_Ci_copyFrom_ok (i := 12) rfl
theorem d_Ci_copyFrom_25 : decode c_Ci_copyFrom 25 = .ok (.aload_n 1, 1) := dc_of (x := (25, .aload_n 1, 1)) t0_Ci_copyFrom_ok (i := 13) rfl
theorem d_Ci_copyFrom_26 : decode c_Ci_copyFrom 26 = .ok (.getfield 57, 3) := dc_of (x := (26, .getfield 57, 3)) t0_Ci_copyFrom_ok (i := 14) rfl
theorem d_Ci_copyFrom_29 : decode c_Ci_copyFrom 29 = .ok (.putfield 57, 3) := dc_of (x := (29, .putfield 57, 3)) t0_Ci_copyFrom_ok (i := 15) rfl
theorem d_Ci_copyFrom_32 : decode c_Ci_copyFrom 32 = .ok (.aload_n 0, 1) := dc_of (x := (32, .aload_n 0, 1)) t0_Ci_copyFrom_ok (i := 16) rfl
theorem d_Ci_copyFrom_33 : decode c_Ci_copyFrom 33 = .ok (.aload_n 1, 1) := dc_of (x := (33, .aload_n 1, 1)) t0_Ci_copyFrom_ok (i := 17) rfl
theorem d_Ci_copyFrom_34 : decode c_Ci_copyFrom 34 = .ok (.getfield 60, 3) := dc_of (x := (34, .getfield 60, 3)) t0_Ci_copyFrom_ok (i := 18) rfl
theorem d_Ci_copyFrom_37 : decode c_Ci_copyFrom 37 = .ok (.putfield 60, 3) := dc_of (x := (37, .putfield 60, 3)) t0_Ci_copyFrom_ok (i := 19) rfl
theorem d_Ci_copyFrom_40 : decode c_Ci_copyFrom 40 = .ok (.iconst 0, 1) := dc_of (x := (40, .iconst 0, 1)) t0_Ci_copyFrom_ok (i := 20) rfl
theorem d_Ci_copyFrom_41 : decode c_Ci_copyFrom 41 = .ok (.istore_n 2, 1) := dc_of (x := (41, .istore_n 2, 1)) t0_Ci_copyFrom_ok (i := 21) rfl
theorem d_Ci_copyFrom_42 : decode c_Ci_copyFrom 42 = .ok (.iload_n 2, 1) := dc_of (x := (42, .iload_n 2, 1)) t0_Ci_copyFrom_ok (i := 22) rfl
theorem d_Ci_copyFrom_43 : decode c_Ci_copyFrom 43 = .ok (.aload_n 0, 1) := dc_of (x := (43, .aload_n 0, 1)) t0_Ci_copyFrom_ok (i := 23) rfl
theorem d_Ci_copyFrom_44 : decode c_Ci_copyFrom 44 = .ok (.getfield 54, 3) := dc_of (x := (44, .getfield 54, 3)) t0_Ci_copyFrom_ok (i := 24) rfl
theorem d_Ci_copyFrom_47 : decode c_Ci_copyFrom 47 = .ok (.if_icmp .ge 24, 3) := dc_of (x := (47, .if_icmp .ge 24, 3)) t0_Ci_copyFrom_ok (i := 25) rfl
theorem d_Ci_copyFrom_50 : decode c_Ci_copyFrom 50 = .ok (.aload_n 0, 1) := dc_of (x := (50, .aload_n 0, 1)) t0_Ci_copyFrom_ok (i := 26) rfl
theorem d_Ci_copyFrom_51 : decode c_Ci_copyFrom 51 = .ok (.getfield 17, 3) := dc_of (x := (51, .getfield 17, 3)) t0_Ci_copyFrom_ok (i := 27) rfl
theorem d_Ci_copyFrom_54 : decode c_Ci_copyFrom 54 = .ok (.iload_n 2, 1) := dc_of (x := (54, .iload_n 2, 1)) t0_Ci_copyFrom_ok (i := 28) rfl
theorem d_Ci_copyFrom_55 : decode c_Ci_copyFrom 55 = .ok (.aaload, 1) := dc_of (x := (55, .aaload, 1)) t0_Ci_copyFrom_ok (i := 29) rfl
theorem d_Ci_copyFrom_56 : decode c_Ci_copyFrom 56 = .ok (.aload_n 1, 1) := dc_of (x := (56, .aload_n 1, 1)) t0_Ci_copyFrom_ok (i := 30) rfl
theorem d_Ci_copyFrom_57 : decode c_Ci_copyFrom 57 = .ok (.getfield 17, 3) := dc_of (x := (57, .getfield 17, 3)) t0_Ci_copyFrom_ok (i := 31) rfl
theorem d_Ci_copyFrom_60 : decode c_Ci_copyFrom 60 = .ok (.iload_n 2, 1) := dc_of (x := (60, .iload_n 2, 1)) t0_Ci_copyFrom_ok (i := 32) rfl
theorem d_Ci_copyFrom_61 : decode c_Ci_copyFrom 61 = .ok (.aaload, 1) := dc_of (x := (61, .aaload, 1)) t0_Ci_copyFrom_ok (i := 33) rfl
theorem d_Ci_copyFrom_62 : decode c_Ci_copyFrom 62 = .ok (.invokevirtual 63, 3) := dc_of (x := (62, .invokevirtual 63, 3)) t0_Ci_copyFrom_ok (i := 34) rfl
theorem d_Ci_copyFrom_65 : decode c_Ci_copyFrom 65 = .ok (.iinc 2 1, 3) := dc_of (x := (65, .iinc 2 1, 3)) t0_Ci_copyFrom_ok (i := 35) rfl
theorem d_Ci_copyFrom_68 : decode c_Ci_copyFrom 68 = .ok (.goto (-26), 3) := dc_of (x := (68, .goto (-26), 3)) t0_Ci_copyFrom_ok (i := 36) rfl
theorem d_Ci_copyFrom_71 : decode c_Ci_copyFrom 71 = .ok (.iconst 0, 1) := dc_of (x := (71, .iconst 0, 1)) t0_Ci_copyFrom_ok (i := 37) rfl
theorem d_Ci_copyFrom_72 : decode c_Ci_copyFrom 72 = .ok (.istore_n 2, 1) := dc_of (x := (72, .istore_n 2, 1)) t0_Ci_copyFrom_ok (i := 38) rfl
theorem d_Ci_copyFrom_73 : decode c_Ci_copyFrom 73 = .ok (.iload_n 2, 1) := dc_of (x := (73, .iload_n 2, 1)) t0_Ci_copyFrom_ok (i := 39) rfl
theorem d_Ci_copyFrom_74 : decode c_Ci_copyFrom 74 = .ok (.aload_n 0, 1) := dc_of (x := (74, .aload_n 0, 1)) t0_Ci_copyFrom_ok (i := 40) rfl
theorem d_Ci_copyFrom_75 : decode c_Ci_copyFrom 75 = .ok (.getfield 57, 3) := dc_of (x := (75, .getfield 57, 3)) t0_Ci_copyFrom_ok (i := 41) rfl
theorem d_Ci_copyFrom_78 : decode c_Ci_copyFrom 78 = .ok (.if_icmp .ge 24, 3) := dc_of (x := (78, .if_icmp .ge 24, 3)) t0_Ci_copyFrom_ok (i := 42) rfl
theorem d_Ci_copyFrom_81 : decode c_Ci_copyFrom 81 = .ok (.aload_n 0, 1) := dc_of (x := (81, .aload_n 0, 1)) t0_Ci_copyFrom_ok (i := 43) rfl
theorem d_Ci_copyFrom_82 : decode c_Ci_copyFrom 82 = .ok (.getfield 23, 3) := dc_of (x := (82, .getfield 23, 3)) t0_Ci_copyFrom_ok (i := 44) rfl
theorem d_Ci_copyFrom_85 : decode c_Ci_copyFrom 85 = .ok (.iload_n 2, 1) := dc_of (x := (85, .iload_n 2, 1)) t0_Ci_copyFrom_ok (i := 45) rfl
theorem d_Ci_copyFrom_86 : decode c_Ci_copyFrom 86 = .ok (.aaload, 1) := dc_of (x := (86, .aaload, 1)) t0_Ci_copyFrom_ok (i := 46) rfl
theorem d_Ci_copyFrom_87 : decode c_Ci_copyFrom 87 = .ok (.aload_n 1, 1) := dc_of (x := (87, .aload_n 1, 1)) t0_Ci_copyFrom_ok (i := 47) rfl
theorem d_Ci_copyFrom_88 : decode c_Ci_copyFrom 88 = .ok (.getfield 23, 3) := dc_of (x := (88, .getfield 23, 3)) t0_Ci_copyFrom_ok (i := 48) rfl
theorem d_Ci_copyFrom_91 : decode c_Ci_copyFrom 91 = .ok (.iload_n 2, 1) := dc_of (x := (91, .iload_n 2, 1)) t0_Ci_copyFrom_ok (i := 49) rfl
theorem d_Ci_copyFrom_92 : decode c_Ci_copyFrom 92 = .ok (.aaload, 1) := dc_of (x := (92, .aaload, 1)) t0_Ci_copyFrom_ok (i := 50) rfl
theorem d_Ci_copyFrom_93 : decode c_Ci_copyFrom 93 = .ok (.invokevirtual 67, 3) := dc_of (x := (93, .invokevirtual 67, 3)) t0_Ci_copyFrom_ok (i := 51) rfl
theorem d_Ci_copyFrom_96 : decode c_Ci_copyFrom 96 = .ok (.iinc 2 1, 3) := dc_of (x := (96, .iinc 2 1, 3)) t0_Ci_copyFrom_ok (i := 52) rfl
theorem d_Ci_copyFrom_99 : decode c_Ci_copyFrom 99 = .ok (.goto (-26), 3) := dc_of (x := (99, .goto (-26), 3)) t0_Ci_copyFrom_ok (i := 53) rfl
theorem d_Ci_copyFrom_102 : decode c_Ci_copyFrom 102 = .ok (.iconst 0, 1) := dc_of (x := (102, .iconst 0, 1)) t0_Ci_copyFrom_ok (i := 54) rfl
theorem d_Ci_copyFrom_103 : decode c_Ci_copyFrom 103 = .ok (.istore_n 2, 1) := dc_of (x := (103, .istore_n 2, 1)) t0_Ci_copyFrom_ok (i := 55) rfl
theorem d_Ci_copyFrom_104 : decode c_Ci_copyFrom 104 = .ok (.iload_n 2, 1) := dc_of (x := (104, .iload_n 2, 1)) t0_Ci_copyFrom_ok (i := 56) rfl
theorem d_Ci_copyFrom_105 : decode c_Ci_copyFrom 105 = .ok (.aload_n 0, 1) := dc_of (x := (105, .aload_n 0, 1)) t0_Ci_copyFrom_ok (i := 57) rfl
theorem d_Ci_copyFrom_106 : decode c_Ci_copyFrom 106 = .ok (.getfield 60, 3) := dc_of (x := (106, .getfield 60, 3)) t0_Ci_copyFrom_ok (i := 58) rfl
theorem d_Ci_copyFrom_109 : decode c_Ci_copyFrom 109 = .ok (.if_icmp .ge 24, 3) := dc_of (x := (109, .if_icmp .ge 24, 3)) t0_Ci_copyFrom_ok (i := 59) rfl
theorem d_Ci_copyFrom_112 : decode c_Ci_copyFrom 112 = .ok (.aload_n 0, 1) := dc_of (x := (112, .aload_n 0, 1)) t1_Ci_copyFrom_ok (i := 0) rfl
theorem d_Ci_copyFrom_113 : decode c_Ci_copyFrom 113 = .ok (.getfield 29, 3) := dc_of (x := (113, .getfield 29, 3)) t1_Ci_copyFrom_ok (i := 1) rfl
theorem d_Ci_copyFrom_116 : decode c_Ci_copyFrom 116 = .ok (.iload_n 2, 1) := dc_of (x := (116, .iload_n 2, 1)) t1_Ci_copyFrom_ok (i := 2) rfl
theorem d_Ci_copyFrom_117 : decode c_Ci_copyFrom 117 = .ok (.aaload, 1) := dc_of (x := (117, .aaload, 1)) t1_Ci_copyFrom_ok (i := 3) rfl
theorem d_Ci_copyFrom_118 : decode c_Ci_copyFrom 118 = .ok (.aload_n 1, 1) := dc_of (x := (118, .aload_n 1, 1)) t1_Ci_copyFrom_ok (i := 4) rfl
theorem d_Ci_copyFrom_119 : decode c_Ci_copyFrom 119 = .ok (.getfield 29, 3) := dc_of (x := (119, .getfield 29, 3)) t1_Ci_copyFrom_ok (i := 5) rfl
theorem d_Ci_copyFrom_122 : decode c_Ci_copyFrom 122 = .ok (.iload_n 2, 1) := dc_of (x := (122, .iload_n 2, 1)) t1_Ci_copyFrom_ok (i := 6) rfl
theorem d_Ci_copyFrom_123 : decode c_Ci_copyFrom 123 = .ok (.aaload, 1) := dc_of (x := (123, .aaload, 1)) t1_Ci_copyFrom_ok (i := 7) rfl
theorem d_Ci_copyFrom_124 : decode c_Ci_copyFrom 124 = .ok (.invokevirtual 70, 3) := dc_of (x := (124, .invokevirtual 70, 3)) t1_Ci_copyFrom_ok (i := 8) rfl
theorem d_Ci_copyFrom_127 : decode c_Ci_copyFrom 127 = .ok (.iinc 2 1, 3) := dc_of (x := (127, .iinc 2 1, 3)) t1_Ci_copyFrom_ok (i := 9) rfl
theorem d_Ci_copyFrom_130 : decode c_Ci_copyFrom 130 = .ok (.goto (-26), 3) := dc_of (x := (130, .goto (-26), 3)) t1_Ci_copyFrom_ok (i := 10) rfl
theorem d_Ci_copyFrom_133 : decode c_Ci_copyFrom 133 = .ok (.aload_n 0, 1) := dc_of (x := (133, .aload_n 0, 1)) t1_Ci_copyFrom_ok (i := 11) rfl
theorem d_Ci_copyFrom_134 : decode c_Ci_copyFrom 134 = .ok (.getfield 36, 3) := dc_of (x := (134, .getfield 36, 3)) t1_Ci_copyFrom_ok (i := 12) rfl
theorem d_Ci_copyFrom_137 : decode c_Ci_copyFrom 137 = .ok (.aload_n 1, 1) := dc_of (x := (137, .aload_n 1, 1)) t1_Ci_copyFrom_ok (i := 13) rfl
theorem d_Ci_copyFrom_138 : decode c_Ci_copyFrom 138 = .ok (.getfield 36, 3) := dc_of (x := (138, .getfield 36, 3)) t1_Ci_copyFrom_ok (i := 14) rfl
theorem d_Ci_copyFrom_141 : decode c_Ci_copyFrom 141 = .ok (.invokevirtual 73, 3) := dc_of (x := (141, .invokevirtual 73, 3)) t1_Ci_copyFrom_ok (i := 15) rfl
theorem d_Ci_copyFrom_144 : decode c_Ci_copyFrom 144 = .ok (.aload_n 0, 1) := dc_of (x := (144, .aload_n 0, 1)) t1_Ci_copyFrom_ok (i := 16) rfl
theorem d_Ci_copyFrom_145 : decode c_Ci_copyFrom 145 = .ok (.getfield 43, 3) := dc_of (x := (145, .getfield 43, 3)) t1_Ci_copyFrom_ok (i := 17) rfl
theorem d_Ci_copyFrom_148 : decode c_Ci_copyFrom 148 = .ok (.aload_n 1, 1) := dc_of (x := (148, .aload_n 1, 1)) t1_Ci_copyFrom_ok (i := 18) rfl
theorem d_Ci_copyFrom_149 : decode c_Ci_copyFrom 149 = .ok (.getfield 43, 3) := dc_of (x := (149, .getfield 43, 3)) t1_Ci_copyFrom_ok (i := 19) rfl
theorem d_Ci_copyFrom_152 : decode c_Ci_copyFrom 152 = .ok (.invokevirtual 76, 3) := dc_of (x := (152, .invokevirtual 76, 3)) t1_Ci_copyFrom_ok (i := 20) rfl
theorem d_Ci_copyFrom_155 : decode c_Ci_copyFrom 155 = .ok (.return_, 1) := dc_of (x := (155, .return_, 1)) t1_Ci_copyFrom_ok (i := 21) rfl
def t0_Ci_hasNet : List (Nat × Instr × Nat) := [(0, .iload_n 1, 1), (1, .ifCond .lt 15, 3), (4, .iload_n 1, 1), (5, .aload_n 0, 1), (6, .getfield 54, 3), (9, .if_icmp .ge 7, 3), (12, .iconst 1, 1), (13, .goto 4, 3), (16, .iconst 0, 1), (17, .ireturn, 1)]
theorem t0_Ci_hasNet_ok : t0_Ci_hasNet.all (fun x => decide (decode c_Ci_hasNet x.1 = .ok x.2)) = true := by decide +kernel
theorem d_Ci_hasNet_0 : decode c_Ci_hasNet 0 = .ok (.iload_n 1, 1) := dc_of (x := (0, .iload_n 1, 1)) t0_Ci_hasNet_ok (i := 0) rfl
theorem d_Ci_hasNet_1 : decode c_Ci_hasNet 1 = .ok (.ifCond .lt 15, 3) := dc_of (x := (1, .ifCond .lt 15, 3)) t0_Ci_hasNet_ok (i := 1) rfl
theorem d_Ci_hasNet_4 : decode c_Ci_hasNet 4 = .ok (.iload_n 1, 1) := dc_of (x := (4, .iload_n 1, 1)) t0_Ci_hasNet_ok (i := 2) rfl
theorem d_Ci_hasNet_5 : decode c_Ci_hasNet 5 = .ok (.aload_n 0, 1) := dc_of (x := (5, .aload_n 0, 1)) t0_Ci_hasNet_ok (i := 3) rfl
theorem d_Ci_hasNet_6 : decode c_Ci_hasNet 6 = .ok (.getfield 54, 3) := dc_of (x := (6, .getfield 54, 3)) t0_Ci_hasNet_ok (i := 4) rfl
theorem d_Ci_hasNet_9 : decode c_Ci_hasNet 9 = .ok (.if_icmp .ge 7, 3) := dc_of (x := (9, .if_icmp .ge 7, 3)) t0_Ci_hasNet_ok (i := 5) rfl
theorem d_Ci_hasNet_12 : decode c_Ci_hasNet 12 = .ok (.iconst 1, 1) := dc_of (x := (12, .iconst 1, 1)) t0_Ci_hasNet_ok (i := 6) rfl
theorem d_Ci_hasNet_13 : decode c_Ci_hasNet 13 = .ok (.goto 4, 3) := dc_of (x := (13, .goto 4, 3)) t0_Ci_hasNet_ok (i := 7) rfl
theorem d_Ci_hasNet_16 : decode c_Ci_hasNet 16 = .ok (.iconst 0, 1) := dc_of (x := (16, .iconst 0, 1)) t0_Ci_hasNet_ok (i := 8) rfl
theorem d_Ci_hasNet_17 : decode c_Ci_hasNet 17 = .ok (.ireturn, 1) := dc_of (x := (17, .ireturn, 1)) t0_Ci_hasNet_ok (i := 9) rfl
def t0_Ci_isToCome : List (Nat × Instr × Nat) := [(0, .lload_n 1, 1), (1, .aload_n 0, 1), (2, .getfield 50, 3), (5, .lcmp, 1), (6, .ifCond .lt 15, 3), (9, .lload_n 1, 1), (10, .ldc2_w 79, 3), (13, .lcmp, 1), (14, .ifCond .gt 7, 3), (17, .iconst 1, 1), (18, .goto 4, 3), (21, .iconst 0, 1), (22, .ireturn, 1)]
theorem t0_Ci_isToCome_ok : t0_Ci_isToCome.all (fun x => decide (decode c_Ci_isToCome x.1 = .ok x.2)) = true := by decide +kernel
theorem d_Ci_isToCome_0 : decode c_Ci_isToCome 0 = .ok (.lload_n 1, 1) := dc_of (x := (0, .lload_n 1, 1)) t0_Ci_isToCome_ok (i := 0) rfl
theorem d_Ci_isToCome_1 : decode c_Ci_isToCome 1 = .ok (.aload_n 0, 1) := dc_of (x := (1, .aload_n 0, 1)) t0_Ci_isToCome_ok (i := 1) rfl
theorem d_Ci_isToCome_2 : decode c_Ci_isToCome 2 = .ok (.getfield 50, 3) := dc_of (x := (2, .getfield 50, 3)) t0_Ci_isToCome_ok (i := 2) rfl
theorem d_Ci_isToCome_5 : decode c_Ci_isToCome 5 = .ok (.lcmp, 1) := dc_of (x := (5, .lcmp, 1)) t0_Ci_isToCome_ok (i := 3) rfl
theorem d_Ci_isToCome_6 : decode c_Ci_isToCome 6 = .ok (.ifCond .lt 15, 3) := dc_of (x := (6, .ifCond .lt 15, 3)) t0_Ci_isToCome_ok (i := 4) rfl
theorem d_Ci_isToCome_9 : decode c_Ci_isToCome 9 = .ok (.lload_n 1, 1) := dc_of (x := (9, .lload_n 1, 1)) t0_Ci_isToCome_ok (i := 5) rfl
theorem d_Ci_isToCome_10 : decode c_Ci_isToCome 10 = .ok (.ldc2_w 79, 3) := dc_of (x := (10, .ldc2_w 79, 3)) t0_Ci_isToCome_ok (i := 6) rfl
theorem d_Ci_isToCome_13 : decode c_Ci_isToCome 13 = .ok (.lcmp, 1) := dc_of (x := (13, .lcmp, 1)) t0_Ci_isToCome_ok (i := 7) rfl
theorem d_Ci_isToCome_14 : decode c_Ci_isToCome 14 = .ok (.ifCond .gt 7, 3) := dc_of (x := (14, .ifCond .gt 7, 3)) t0_Ci_isToCome_ok (i := 8) rfl
theorem d_Ci_isToCome_17 : decode c_Ci_isToCome 17 = .ok (.iconst 1, 1) := dc_of (x := (17, .iconst 1, 1)) t0_Ci_isToCome_ok (i := 9) rfl
theorem d_Ci_isToCome_18 : decode c_Ci_isToCome 18 = .ok (.goto 4, 3) := dc_of (x := (18, .goto 4, 3)) t0_Ci_isToCome_ok (i := 10) rfl
theorem d_Ci_isToCome_21 : decode c_Ci_isToCome 21 = .ok (.iconst 0, 1) := dc_of (x := (21, .iconst 0, 1)) t0_Ci_isToCome_ok (i := 11) rfl
theorem d_Ci_isToCome_22 : decode c_Ci_isToCome 22 = .ok (.ireturn, 1) := dc_of (x := (22, .ireturn, 1)) t0_Ci_isToCome_ok (i := 12) rfl
def t0_Ci_addNet : List (Nat × Instr × Nat) := [(0, .aload_n 0, 1), (1, .getfield 17, 3), (4, .aload_n 0, 1), (5, .getfield 54, 3), (8, .aaload, 1), (9, .invokevirtual 81, 3), (12, .aload_n 0, 1), (13, .dup, 1), (14, .getfield 54, 3), (17, .iconst 1, 1), (18, .iadd, 1), (19, .putfield 54, 3), (22, .aload_n 0, 1), (23, .getfield 54, 3), (26, .iconst 1, 1), (27, .isub, 1), (28, .ireturn, 1)]
theorem t0_Ci_addNet_ok : t0_Ci_addNet.all (fun x => decide (decode c_Ci_addNet x.1 = .ok x.2)) = true := by decide +kernel
theorem d_Ci_addNet_0 : decode c_Ci_addNet 0 = .ok (.aload_n 0, 1) := dc_of (x := (0, .aload_n 0, 1)) t0_Ci_addNet_ok (i := 0) rfl
theorem d_Ci_addNet_1 : decode c_Ci_addNet 1 = .ok (.getfield 17, 3) := dc_of (x := (1, .getfield 17, 3)) t0_Ci_addNet_ok (i := 1) rfl
theorem d_Ci_addNet_4 : decode c_Ci_addNet 4 = .ok (.aload_n 0, 1) := dc_of (x := (4, .aload_n 0, 1)) t0_Ci_addNet_ok (i := 2) rfl
theorem d_Ci_addNet_5 : decode c_Ci_addNet 5 = .ok (.getfield 54, 3) := dc_of (x := (5, .getfield 54, 3)) t0_Ci_addNet_ok (i := 3) rfl
theorem d_Ci_addNet_8 : decode c_Ci_addNet 8 = .ok (.aaload, 1) := dc_of (x := (8, .aaload, 1)) t0_Ci_addNet_ok (i := 4) rfl
theorem d_Ci_addNet_9 : decode c_Ci_addNet 9 = .ok (.invokevirtual 81, 3) := dc_of (x := (9, .invokevirtual 81, 3)) t0_Ci_addNet_ok (i := 5) rfl
theorem d_Ci_addNet_12 : decode c_Ci_addNet 12 = .ok (.aload_n 0, 1) := dc_of (x := (12, .aload_n 0, 1)) t0_Ci_addNet_ok (i := 6) rfl
theorem d_Ci_addNet_13 : decode c_Ci_addNet 13 = .ok (.dup, 1) := dc_of (x := (13, .dup, 1)) t0_Ci_addNet_ok (i := 7) rfl
theorem d_Ci_addNet_14 : decode c_Ci_addNet 14 = .ok (.getfield 54, 3) := dc_of (x := (14, .getfield 54, 3)) t0_Ci_addNet_ok (i := 8) rfl
theorem d_Ci_addNet_17 : decode c_Ci_addNet 17 = .ok (.iconst 1, 1) := dc_of (x := (17, .iconst 1, 1)) t0_Ci_addNet_ok (i := 9) rfl
theorem d_Ci_addNet_18 : decode c_Ci_addNet 18 = .ok (.iadd, 1) := dc_of (x := (18, .iadd, 1)) t0_Ci_addNet_ok (i := 10) rfl
theorem d_Ci_addNet_19 : decode c_Ci_addNet 19 = .ok (.putfield 54, 3) := dc_of (x := (19, .putfield 54, 3)) t0_Ci_addNet_ok (i := 11) rfl
theorem d_Ci_addNet_22 : decode c_Ci_addNet 22 = .ok (.aload_n 0, 1) := dc_of (x := (22, .aload_n 0, 1)) t0_Ci_addNet_ok (i := 12) rfl
theorem d_Ci_addNet_23 : decode c_Ci_addNet 23 = .ok (.getfield 54, 3) := dc_of (x := (23, .getfield 54, 3)) t0_Ci_addNet_ok (i := 13) rfl
theorem d_Ci_addNet_26 : decode c_Ci_addNet 26 = .ok (.iconst 1, 1) := dc_of (x := (26, .iconst 1, 1)) t0_Ci_addNet_ok (i := 14) rfl
theorem d_Ci_addNet_27 : decode c_Ci_addNet 27 = .ok (.isub, 1) := dc_of (x := (27, .isub, 1)) t0_Ci_addNet_ok (i := 15) rfl
theorem d_Ci_addNet_28 : decode c_Ci_addNet 28 = .ok (.ireturn, 1) := dc_of (x := (28, .ireturn, 1)) t0_Ci_addNet_ok (i := 16) rfl
def t0_Ci_addGate : List (Nat × Instr × Nat) := [(0, .aload_n 0, 1), (1, .getfield 57, 3), (4, .istore 5, 2), (6, .aload_n 0, 1), (7, .getfield 23, 3), (10, .iload 5, 2), (12, .aaload, 1), (13, .astore 6, 2), (15, .aload 6, 2), (17, .iload_n 1, 1), (18, .iload_n 2, 1), (19, .iload_n 3, 1), (20, .iload 4, 2), (22, .invokevirtual 84, 3), (25, .aload_n 0, 1), (26, .dup, 1), (27, .getfield 57, 3), (30, .iconst 1, 1), (31, .iadd, 1), (32, .putfield 57, 3), (35, .aload_n 0, 1), (36, .iload 4, 2), (38, .invokevirtual 87, 3), (41, .iload_n 1, 1), (42, .bipush 7, 2), (44, .if_icmp .eq 22, 3), (47, .aload 6, 2), (49, .aload_n 0, 1), (50, .aload 6, 2), (52, .invokevirtual 91, 3), (55, .aload_n 0, 1), (56, .getfield 50, 3), (59, .aload_n 0, 1), (60, .getfield 9, 3), (63, .invokevirtual 95, 3), (66, .iload 5, 2), (68, .ireturn, 1)]
theorem t0_Ci_addGate_ok : t0_Ci_addGate.all (fun x => decide (decode c_Ci_addGate x.1 = .ok x.2)) = true := by decide +kernel
theorem d_Ci_addGate_0 : decode c_Ci_addGate 0 = .ok (.aload_n 0, 1) := dc_of (x := (0, .aload_n 0, 1)) t0_Ci_addGate_ok (i := 0) rfl
theorem d_Ci_addGate_1 : decode c_Ci_addGate 1 = .ok (.getfield 57, 3) := dc_of (x := (1, .getfield 57, 3)) t0_Ci_addGate_ok (i := 1) rfl
theorem d_Ci_addGate_4 : decode c_Ci_addGate 4 = .ok (.istore 5, 2) := dc_of (x := (4, .istore 5, 2)) t0_Ci_addGate_ok (i := 2) rfl
theorem d_Ci_addGate_6 : decode c_Ci_addGate 6 = .ok (.aload_n 0, 1) := dc_of (x := (6, .aload_n 0, 1)) t0_Ci_addGate_ok (i := 3) rfl
theorem d_Ci_addGate_7 : decode c_Ci_addGate 7 = .ok (.getfield 23, 3) := dc_of (x := (7, .getfield 23, 3)) t0_Ci_addGate_ok (i := 4) rfl
theorem d_Ci_addGate_10 : decode c_Ci_addGate 10 = .ok (.iload 5, 2) := dc_of (x := (10, .iload 5, 2)) t0_Ci_addGate_ok (i := 5) rfl
theorem d_Ci_addGate_12 : decode c_Ci_addGate 12 = .ok (.aaload, 1) := dc_of (x := (12, .aaload, 1)) t0_Ci_addGate_ok (i := 6) rfl
theorem d_Ci_addGate_13 : decode c_Ci_addGate 13 = .ok (.astore 6, 2) := dc_of (x := (13, .astore 6, 2)) t0_Ci_addGate_ok (i := 7) rfl
theorem d_Ci_addGate_15 : decode c_Ci_addGate 15 = .ok (.aload 6, 2) := dc_of (x := (15, .aload 6, 2)) t0_Ci_addGate_ok (i := 8) rfl
theorem d_Ci_addGate_17 : decode c_Ci_addGate 17 = .ok (.iload_n 1, 1) := dc_of (x := (17, .iload_n 1, 1)) t0_Ci_addGate_ok (i := 9) rfl
theorem d_Ci_addGate_18 : decode c_Ci_addGate 18 = .ok (.iload_n 2, 1) := dc_of (x := (18, .iload_n 2, 1)) t0_Ci_addGate_ok (i := 10) rfl
theorem d_Ci_addGate_19 : decode c_Ci_addGate 19 = .ok (.iload_n 3, 1) := dc_of (x := (19, .iload_n 3, 1)) t0_Ci_addGate_ok (i := 11) rfl
theorem d_Ci_addGate_20 : decode c_Ci_addGate 20 = .ok (.iload 4, 2) := dc_of (x := (20, .iload 4, 2)) t0_Ci_addGate_ok (i := 12) rfl
theorem d_Ci_addGate_22 : decode c_Ci_addGate 22 = .ok (.invokevirtual 84, 3) := dc_of (x := (22, .invokevirtual 84, 3)) t0_Ci_addGate_ok (i := 13) rfl
theorem d_Ci_addGate_25 : decode c_Ci_addGate 25 = .ok (.aload_n 0, 1) := dc_of (x := (25, .aload_n 0, 1)) t0_Ci_addGate_ok (i := 14) rfl
theorem d_Ci_addGate_26 : decode c_Ci_addGate 26 = .ok (.dup, 1) := dc_of (x := (26, .dup, 1)) t0_Ci_addGate_ok (i := 15) rfl
theorem d_Ci_addGate_27 : decode c_Ci_addGate 27 = .ok (.getfield 57, 3) := dc_of (x := (27, .getfield 57, 3)) t0_Ci_addGate_ok (i := 16) rfl
theorem d_Ci_addGate_30 : decode c_Ci_addGate 30 = .ok (.iconst 1, 1) := dc_of (x := (30, .iconst 1, 1)) t0_Ci_addGate_ok (i := 17) rfl
theorem d_Ci_addGate_31 : decode c_Ci_addGate 31 = .ok (.iadd, 1) := dc_of (x := (31, .iadd, 1)) t0_Ci_addGate_ok (i := 18) rfl
theorem d_Ci_addGate_32 : decode c_Ci_addGate 32 = .ok (.putfield 57, 3) := dc_of (x := (32, .putfield 57, 3)) t0_Ci_addGate_ok (i := 19) rfl
theorem d_Ci_addGate_35 : decode c_Ci_addGate 35 = .ok (.aload_n 0, 1) := dc_of (x := (35, .aload_n 0, 1)) t0_Ci_addGate_ok (i := 20) rfl
theorem d_Ci_addGate_36 : decode c_Ci_addGate 36 = .ok (.iload 4, 2) := dc_of (x := (36, .iload 4, 2)) t0_Ci_addGate_ok (i := 21) rfl
theorem d_Ci_addGate_38 : decode c_Ci_addGate 38 = .ok (.invokevirtual 87, 3) := dc_of (x := (38, .invokevirtual 87, 3)) t0_Ci_addGate_ok (i := 22) rfl
theorem d_Ci_addGate_41 : decode c_Ci_addGate 41 = .ok (.iload_n 1, 1) := dc_of (x := (41, .iload_n 1, 1)) t0_Ci_addGate_ok (i := 23) rfl
theorem d_Ci_addGate_42 : decode c_Ci_addGate 42 = .ok (.bipush 7, 2) := dc_of (x := (42, .bipush 7, 2)) t0_Ci_addGate_ok (i := 24) rfl
theorem d_Ci_addGate_44 : decode c_Ci_addGate 44 = .ok (.if_icmp .eq 22, 3) := dc_of (x := (44, .if_icmp .eq 22, 3)) t0_Ci_addGate_ok (i := 25) rfl
theorem d_Ci_addGate_47 : decode c_Ci_addGate 47 = .ok (.aload 6, 2) := dc_of (x := (47, .aload 6, 2)) t0_Ci_addGate_ok (i := 26) rfl
theorem d_Ci_addGate_49 : decode c_Ci_addGate 49 = .ok (.aload_n 0, 1) := dc_of (x := (49, .aload_n 0, 1)) t0_Ci_addGate_ok (i := 27) rfl
theorem d_Ci_addGate_50 : decode c_Ci_addGate 50 = .ok (.aload 6, 2) := dc_of (x := (50, .aload 6, 2)) t0_Ci_addGate_ok (i := 28) rfl
theorem d_Ci_addGate_52 : decode c_Ci_addGate 52 = .ok (.invokevirtual 91, 3) := dc_of (x := (52, .invokevirtual 91, 3)) t0_Ci_addGate_ok (i := 29) rfl
theorem d_Ci_addGate_55 : decode c_Ci_addGate 55 = .ok (.aload_n 0, 1) := dc_of (x := (55, .aload_n 0, 1)) t0_Ci_addGate_ok (i := 30) rfl
theorem d_Ci_addGate_56 : decode c_Ci_addGate 56 = .ok (.getfield 50, 3) := dc_of (x := (56, .getfield 50, 3)) t0_Ci_addGate_ok (i := 31) rfl
theorem d_Ci_addGate_59 : decode c_Ci_addGate 59 = .ok (.aload_n 0, 1) := dc_of (x := (59, .aload_n 0, 1)) t0_Ci_addGate_ok (i := 32) rfl
theorem d_Ci_addGate_60 : decode c_Ci_addGate 60 = .ok (.getfield 9, 3) := dc_of (x := (60, .getfield 9, 3)) t0_Ci_addGate_ok (i := 33) rfl
theorem d_Ci_addGate_63 : decode c_Ci_addGate 63 = .ok (.invokevirtual 95, 3) := dc_of (x := (63, .invokevirtual 95, 3)) t0_Ci_addGate_ok (i := 34) rfl
theorem d_Ci_addGate_66 : decode c_Ci_addGate 66 = .ok (.iload 5, 2) := dc_of (x := (66, .iload 5, 2)) t0_Ci_addGate_ok (i := 35) rfl
theorem d_Ci_addGate_68 : decode c_Ci_addGate 68 = .ok (.ireturn, 1) := dc_of (x := (68, .ireturn, 1)) t0_Ci_addGate_ok (i := 36) rfl
def t0_Ci_addCheck : List (Nat × Instr × Nat) := [(0, .aload_n 0, 1), (1, .getfield 29, 3), (4, .aload_n 0, 1), (5, .getfield 60, 3), (8, .aaload, 1), (9, .iload_n 1, 1), (10, .iload_n 2, 1), (11, .iload_n 3, 1), (12, .iload 4, 2), (14, .invokevirtual 99, 3), (17, .aload_n 0, 1), (18, .dup, 1), (19, .getfield 60, 3), (22, .iconst 1, 1), (23, .iadd, 1), (24, .putfield 60, 3), (27, .aload_n 0, 1), (28, .getfield 60, 3), (31, .iconst 1, 1), (32, .isub, 1), (33, .ireturn, 1)]
theorem t0_Ci_addCheck_ok : t0_Ci_addCheck.all (fun x => decide (decode c_Ci_addCheck x.1 = .ok x.2)) = true := by decide +kernel
theorem d_Ci_addCheck_0 : decode c_Ci_addCheck 0 = .ok (.aload_n 0, 1) := dc_of (x := (0, .aload_n 0, 1)) t0_Ci_addCheck_ok (i := 0) rfl
theorem d_Ci_addCheck_1 : decode c_Ci_addCheck 1 = .ok (.getfield 29, 3) := dc_of (x := (1, .getfield 29, 3)) t0_Ci_addCheck_ok (i := 1) rfl
theorem d_Ci_addCheck_4 : decode c_Ci_addCheck 4 = .ok (.aload_n 0, 1) := dc_of (x := (4, .aload_n 0, 1)) t0_Ci_addCheck_ok (i := 2) rfl
theorem d_Ci_addCheck_5 : decode c_Ci_addCheck 5 = .ok (.getfield 60, 3) := dc_of (x := (5, .getfield 60, 3)) t0_Ci_addCheck_ok (i := 3) rfl
theorem d_Ci_addCheck_8 : decode c_Ci_addCheck 8 = .ok (.aaload, 1) := dc_of (x := (8, .aaload, 1)) t0_Ci_addCheck_ok (i := 4) rfl
theorem d_Ci_addCheck_9 : decode c_Ci_addCheck 9 = .ok (.iload_n 1, 1) := dc_of (x := (9, .iload_n 1, 1)) t0_Ci_addCheck_ok (i := 5) rfl
theorem d_Ci_addCheck_10 : decode c_Ci_addCheck 10 = .ok (.iload_n 2, 1) := dc_of (x := (10, .iload_n 2, 1)) t0_Ci_addCheck_ok (i := 6) rfl
theorem d_Ci_addCheck_11 : decode c_Ci_addCheck 11 = .ok (.iload_n 3, 1) := dc_of (x := (11, .iload_n 3, 1)) t0_Ci_addCheck_ok (i := 7) rfl
theorem d_Ci_addCheck_12 : decode c_Ci_addCheck 12 = .ok (.iload 4, 2) := dc_of (x := (12, .iload 4, 2)) t0_Ci_addCheck_ok (i := 8) rfl
theorem d_Ci_addCheck_14 : decode c_Ci_addCheck 14 = .ok (.invokevirtual 99, 3) := dc_of (x := (14, .invokevirtual 99, 3)) t0_Ci_addCheck_ok (i := 9) rfl
theorem d_Ci_addCheck_17 : decode c_Ci_addCheck 17 = .ok (.aload_n 0, 1) := dc_of (x := (17, .aload_n 0, 1)) t0_Ci_addCheck_ok (i := 10) rfl
theorem d_Ci_addCheck_18 : decode c_Ci_addCheck 18 = .ok (.dup, 1) := dc_of (x := (18, .dup, 1)) t0_Ci_addCheck_ok (i := 11) rfl
theorem d_Ci_addCheck_19 : decode c_Ci_addCheck 19 = .ok (.getfield 60, 3) := dc_of (x := (19, .getfield 60, 3)) t0_Ci_addCheck_ok (i := 12) rfl
theorem d_Ci_addCheck_22 : decode c_Ci_addCheck 22 = .ok (.iconst 1, 1) := dc_of (x := (22, .iconst 1, 1)) t0_Ci_addCheck_ok (i := 13) rfl
theorem d_Ci_addCheck_23 : decode c_Ci_addCheck 23 = .ok (.iadd, 1) := dc_of (x := (23, .iadd, 1)) t0_Ci_addCheck_ok (i := 14) rfl
theorem d_Ci_addCheck_24 : decode c_Ci_addCheck 24 = .ok (.putfield 60, 3) := dc_of (x := (24, .putfield 60, 3)) t0_Ci_addCheck_ok (i := 15) rfl
theorem d_Ci_addCheck_27 : decode c_Ci_addCheck 27 = .ok (.aload_n 0, 1) := dc_of (x := (27, .aload_n 0, 1)) t0_Ci_addCheck_ok (i := 16) rfl
theorem d_Ci_addCheck_28 : decode c_Ci_addCheck 28 = .ok (.getfield 60, 3) := dc_of (x := (28, .getfield 60, 3)) t0_Ci_addCheck_ok (i := 17) rfl
theorem d_Ci_addCheck_31 : decode c_Ci_addCheck 31 = .ok (.iconst 1, 1) := dc_of (x := (31, .iconst 1, 1)) t0_Ci_addCheck_ok (i := 18) rfl
theorem d_Ci_addCheck_32 : decode c_Ci_addCheck 32 = .ok (.isub, 1) := dc_of (x := (32, .isub, 1)) t0_Ci_addCheck_ok (i := 19) rfl
theorem d_Ci_addCheck_33 : decode c_Ci_addCheck 33 = .ok (.ireturn, 1) := dc_of (x := (33, .ireturn, 1)) t0_Ci_addCheck_ok (i := 20) rfl
def t0_Ci_unsettled : List (Nat × Instr × Nat) := [(0, .iconst 0, 1), (1, .istore_n 1, 1), (2, .iconst 0, 1), (3, .istore_n 2, 1), (4, .iload_n 2, 1), (5, .aload_n 0, 1), (6, .getfield 57, 3), (9, .if_icmp .ge 47, 3), (12, .aload_n 0, 1), (13, .getfield 23, 3), (16, .iload_n 2, 1), (17, .aaload, 1), (18, .getfield 100, 3), (21, .iconst 4, 1), (22, .if_icmp .gt 28, 3), (25, .aload_n 0, 1), (26, .getfield 23, 3), (29, .iload_n 2, 1), (30, .aaload, 1), (31, .getfield 103, 3), (34, .aload_n 0, 1), (35, .aload_n 0, 1), (36, .getfield 23, 3), (39, .iload_n 2, 1), (40, .aaload, 1), (41, .invokevirtual 91, 3), (44, .if_icmp .eq 6, 3), (47, .iinc 1 1, 3), (50, .iinc 2 1, 3), (53, .goto (-49), 3), (56, .iload_n 1, 1), (57, .ireturn, 1)]
theorem t0_Ci_unsettled_ok : t0_Ci_unsettled.all (fun x => decide (decode c_Ci_unsettled x.1 = .ok x.2)) = true := by decide +kernel
theorem d_Ci_unsettled_0 : decode c_Ci_unsettled 0 = .ok (.iconst 0, 1) := dc_of (x := (0, .iconst 0, 1)) t0_Ci_unsettled_ok (i := 0) rfl
theorem d_Ci_unsettled_1 : decode c_Ci_unsettled 1 = .ok (.istore_n 1, 1) := dc_of (x := (1, .istore_n 1, 1)) t0_Ci_unsettled_ok (i := 1) rfl
theorem d_Ci_unsettled_2 : decode c_Ci_unsettled 2 = .ok (.iconst 0, 1) := dc_of (x := (2, .iconst 0, 1)) t0_Ci_unsettled_ok (i := 2) rfl
theorem d_Ci_unsettled_3 : decode c_Ci_unsettled 3 = .ok (.istore_n 2, 1) := dc_of (x := (3, .istore_n 2, 1)) t0_Ci_unsettled_ok (i := 3) rfl
theorem d_Ci_unsettled_4 : decode c_Ci_unsettled 4 = .ok (.iload_n 2, 1) := dc_of (x := (4, .iload_n 2, 1)) t0_Ci_unsettled_ok (i := 4) rfl
theorem d_Ci_unsettled_5 : decode c_Ci_unsettled 5 = .ok (.aload_n 0, 1) := dc_of (x := (5, .aload_n 0, 1)) t0_Ci_unsettled_ok (i := 5) rfl
theorem d_Ci_unsettled_6 : decode c_Ci_unsettled 6 = .ok (.getfield 57, 3) := dc_of (x := (6, .getfield 57, 3)) t0_Ci_unsettled_ok (i := 6) rfl
theorem d_Ci_unsettled_9 : decode c_Ci_unsettled 9 = .ok (.if_icmp .ge 47, 3) := dc_of (x := (9, .if_icmp .ge 47, 3)) t0_Ci_unsettled_ok (i := 7) rfl
theorem d_Ci_unsettled_12 : decode c_Ci_unsettled 12 = .ok (.aload_n 0, 1) := dc_of (x := (12, .aload_n 0, 1)) t0_Ci_unsettled_ok (i := 8) rfl
theorem d_Ci_unsettled_13 : decode c_Ci_unsettled 13 = .ok (.getfield 23, 3) := dc_of (x := (13, .getfield 23, 3)) t0_Ci_unsettled_ok (i := 9) rfl
theorem d_Ci_unsettled_16 : decode c_Ci_unsettled 16 = .ok (.iload_n 2, 1) := dc_of (x := (16, .iload_n 2, 1)) t0_Ci_unsettled_ok (i := 10) rfl
theorem d_Ci_unsettled_17 : decode c_Ci_unsettled 17 = .ok (.aaload, 1) := dc_of (x := (17, .aaload, 1)) t0_Ci_unsettled_ok (i := 11) rfl
theorem d_Ci_unsettled_18 : decode c_Ci_unsettled 18 = .ok (.getfield 100, 3) := dc_of (x := (18, .getfield 100, 3)) t0_Ci_unsettled_ok (i := 12) rfl
theorem d_Ci_unsettled_21 : decode c_Ci_unsettled 21 = .ok (.iconst 4, 1) := dc_of (x := (21, .iconst 4, 1)) t0_Ci_unsettled_ok (i := 13) rfl
theorem d_Ci_unsettled_22 : decode c_Ci_unsettled 22 = .ok (.if_icmp .gt 28, 3) := dc_of (x := (22, .if_icmp .gt 28, 3)) t0_Ci_unsettled_ok (i := 14) rfl
theorem d_Ci_unsettled_25 : decode c_Ci_unsettled 25 = .ok (.aload_n 0, 1) := dc_of (x := (25, .aload_n 0, 1)) t0_Ci_unsettled_ok (i := 15) rfl
theorem d_Ci_unsettled_26 : decode c_Ci_unsettled 26 = .ok (.getfield 23, 3) := dc_of (x := (26, .getfield 23, 3)) t0_Ci_unsettled_ok (i := 16) rfl
theorem d_Ci_unsettled_29 : decode c_Ci_unsettled 29 = .ok (.iload_n 2, 1) := dc_of (x := (29, .iload_n 2, 1)) t0_Ci_unsettled_ok (i := 17) rfl
theorem d_Ci_unsettled_30 : decode c_Ci_unsettled 30 = .ok (.aaload, 1) := dc_of (x := (30, .aaload, 1)) t0_Ci_unsettled_ok (i := 18) rfl
theorem d_Ci_unsettled_31 : decode c_Ci_unsettled 31 = .ok (.getfield 103, 3) := dc_of (x := (31, .getfield 103, 3)) t0_Ci_unsettled_ok (i := 19) rfl
theorem d_Ci_unsettled_34 : decode c_Ci_unsettled 34 = .ok (.aload_n 0, 1) := dc_of (x := (34, .aload_n 0, 1)) t0_Ci_unsettled_ok (i := 20) rfl
theorem d_Ci_unsettled_35 : decode c_Ci_unsettled 35 = .ok (.aload_n 0, 1) := dc_of (x := (35, .aload_n 0, 1)) t0_Ci_unsettled_ok (i := 21) rfl
theorem d_Ci_unsettled_36 : decode c_Ci_unsettled 36 = .ok (.getfield 23, 3) := dc_of (x := (36, .getfield 23, 3)) t0_Ci_unsettled_ok (i := 22) rfl
theorem d_Ci_unsettled_39 : decode c_Ci_unsettled 39 = .ok (.iload_n 2, 1) := dc_of (x := (39, .iload_n 2, 1)) t0_Ci_unsettled_ok (i := 23) rfl
theorem d_Ci_unsettled_40 : decode c_Ci_unsettled 40 = .ok (.aaload, 1) := dc_of (x := (40, .aaload, 1)) t0_Ci_unsettled_ok (i := 24) rfl
theorem d_Ci_unsettled_41 : decode c_Ci_unsettled 41 = .ok (.invokevirtual 91, 3) := dc_of (x := (41, .invokevirtual 91, 3)) t0_Ci_unsettled_ok (i := 25) rfl
theorem d_Ci_unsettled_44 : decode c_Ci_unsettled 44 = .ok (.if_icmp .eq 6, 3) := dc_of (x := (44, .if_icmp .eq 6, 3)) t0_Ci_unsettled_ok (i := 26) rfl
theorem d_Ci_unsettled_47 : decode c_Ci_unsettled 47 = .ok (.iinc 1 1, 3) := dc_of (x := (47, .iinc 1 1, 3)) t0_Ci_unsettled_ok (i := 27) rfl
theorem d_Ci_unsettled_50 : decode c_Ci_unsettled 50 = .ok (.iinc 2 1, 3) := dc_of (x := (50, .iinc 2 1, 3)) t0_Ci_unsettled_ok (i := 28) rfl
theorem d_Ci_unsettled_53 : decode c_Ci_unsettled 53 = .ok (.goto (-49), 3) := dc_of (x := (53, .goto (-49), 3)) t0_Ci_unsettled_ok (i := 29) rfl
theorem d_Ci_unsettled_56 : decode c_Ci_unsettled 56 = .ok (.iload_n 1, 1) := dc_of (x := (56, .iload_n 1, 1)) t0_Ci_unsettled_ok (i := 30) rfl
theorem d_Ci_unsettled_57 : decode c_Ci_unsettled 57 = .ok (.ireturn, 1) := dc_of (x := (57, .ireturn, 1)) t0_Ci_unsettled_ok (i := 31) rfl
def t0_Ci_advance : List (Nat × Instr × Nat) := [(0, .iconst 0, 1), (1, .istore_n 3, 1), (2, .iconst 0, 1), (3, .istore 4, 2), (5, .iload 4, 2), (7, .sipush 150, 3), (10, .if_icmp .ge 184, 3), (13, .aload_n 0, 1), (14, .getfield 36, 3), (17, .invokevirtual 106, 3), (20, .istore 5, 2), (22, .aload_n 0, 1), (23, .invokevirtual 110, 3), (26, .istore 6, 2), (28, .aload_n 0, 1), (29, .iload 5, 2), (31, .iload 6, 2), (33, .invokevirtual 113, 3), (36, .istore 7, 2), (38, .iload 7, 2), (40, .ifCond .eq 16, 3), (43, .aload_n 0, 1), (44, .getfield 36, 3), (47, .getfield 117, 3), (50, .iload 5, 2), (52, .laload, 1), (53, .goto 25, 3), (56, .iload 6, 2), (58, .iconst (-1), 1), (59, .if_icmp .ne 9, 3), (62, .ldc2_w 121, 3), (65, .goto 13, 3), (68, .aload_n 0, 1), (69, .getfield 23, 3), (72, .iload 6, 2), (74, .aaload, 1), (75, .getfield 123, 3), (78, .lstore 8, 2), (80, .lload 8, 2), (82, .ldc2_w 121, 3), (85, .lcmp, 1), (86, .ifCond .eq 10, 3), (89, .lload 8, 2), (91, .lload_n 1, 1), (92, .lcmp, 1), (93, .ifCond .le 12, 3), (96, .aload_n 0, 1), (97, .lload_n 1, 1), (98, .putfield 50, 3), (101, .iload 4, 2), (103, .i2l, 1), (104, .lreturn, 1), (105, .lload 8, 2), (107, .aload_n 0, 1), (108, .getfield 50, 3), (111, .lcmp, 1), (112, .ifCond .le 5, 3), (115, .iconst 0, 1), (116, .istore_n 3, 1), (117, .aload_n 0, 1)]
theorem t0_Ci_advance_ok : t0_Ci_advance.all (fun x => decide (decode c_Ci_advance x.1 = .ok x.2)) = true := by decide +kernel
def t1_Ci_advance : List (Nat × Instr × Nat) := [(118, .lload 8, 2), (120, .putfield 50, 3), (123, .iload 7, 2), (125, .ifCond .eq 16, 3), (128, .aload_n 0, 1), (129, .aload_n 0, 1), (130, .iload 5, 2), (132, .invokevirtual 126, 3), (135, .invokevirtual 87, 3), (138, .goto 50, 3), (141, .iload_n 3, 1), (142, .bipush 60, 2), (144, .if_icmp .ne 17, 3), (147, .iconst (-1), 1), (148, .aload_n 0, 1), (149, .getfield 23, 3), (152, .iload 6, 2), (154, .aaload, 1), (155, .getfield 130, 3), (158, .isub, 1), (159, .i2l, 1), (160, .lreturn, 1), (161, .iinc 3 1, 3), (164, .aload_n 0, 1), (165, .getfield 23, 3), (168, .iload 6, 2), (170, .aaload, 1), (171, .invokevirtual 133, 3), (174, .aload_n 0, 1), (175, .aload_n 0, 1), (176, .getfield 23, 3), (179, .iload 6, 2), (181, .aaload, 1), (182, .getfield 130, 3), (185, .invokevirtual 87, 3), (188, .iinc 4 1, 3), (191, .goto (-186), 3), (194, .ldc2_w 136, 3), (197, .lreturn, 1)]
theorem t1_Ci_advance_ok : t1_Ci_advance.all (fun x => decide (decode c_Ci_advance x.1 = .ok x.2)) = true := by decide +kernel
theorem d_Ci_advance_0 : decode c_Ci_advance 0 = .ok (.iconst 0, 1) := dc_of (x := (0, .iconst 0, 1)) t0_Ci_advance_ok (i := 0) rfl
theorem d_Ci_advance_1 : decode c_Ci_advance 1 = .ok (.istore_n 3, 1) := dc_of (x := (1, .istore_n 3, 1)) t0_Ci_advance_ok (i := 1) rfl
theorem d_Ci_advance_2 : decode c_Ci_advance 2 = .ok (.iconst 0, 1) := dc_of (x := (2, .iconst 0, 1)) t0_Ci_advance_ok (i := 2) rfl
theorem d_Ci_advance_3 : decode c_Ci_advance 3 = .ok (.istore 4, 2) := dc_of (x := (3, .istore 4, 2)) t0_Ci_advance_ok (i := 3) rfl
theorem d_Ci_advance_5 : decode c_Ci_advance 5 = .ok (.iload 4, 2) := dc_of (x := (5, .iload 4, 2)) t0_Ci_advance_ok (i := 4) rfl
theorem d_Ci_advance_7 : decode c_Ci_advance 7 = .ok (.sipush 150, 3) := dc_of (x := (7, .sipush 150, 3)) t0_Ci_advance_ok (i := 5) rfl
theorem d_Ci_advance_10 : decode c_Ci_advance 10 = .ok (.if_icmp .ge 184, 3) := dc_of (x := (10, .if_icmp .ge 184, 3)) t0_Ci_advance_ok (i := 6) rfl
theorem d_Ci_advance_13 : decode c_Ci_advance 13 = .ok (.aload_n 0, 1) := dc_of (x := (13, .aload_n 0, 1)) t0_Ci_advance_ok (i := 7) rfl
theorem d_Ci_advance_14 : decode c_Ci_advance 14 = .ok (.getfield 36, 3) := dc_of (x := (14, .getfield 36, 3)) t0_Ci_advance_ok (i := 8) rfl
theorem d_Ci_advance_17 : decode c_Ci_advance 17 = .ok (.invokevirtual 106, 3) := dc_of (x := (17, .invokevirtual 106, 3)) t0_Ci_advance_ok (i := 9) rfl
theorem d_Ci_advance_20 : decode c_Ci_advance 20 = .ok (.istore 5, 2) := dc_of (x := (20, .istore 5, 2)) t0_Ci_advance_ok (i := 10) rfl
theorem d_Ci_advance_22 : decode c_Ci_advance 22 = .ok (.aload_n 0, 1) := dc_of (x := (22, .aload_n 0, 1)) t0_Ci_advance_ok (i := 11) rfl
theorem d_Ci_advance_23 : decode c_Ci_advance 23 = .ok (.invokevirtual 110, 3) := dc_of (x := (23, .invokevirtual 110, 3)) t0_Ci_advance_ok (i := 12) rfl
theorem d_Ci_advance_26 : decode c_Ci_advance 26 = .ok (.istore 6, 2) := dc_of (x := (26, .istore 6, 2)) t0_Ci_advance_ok (i := 13) rfl
theorem d_Ci_advance_28 : decode c_Ci_advance 28 = .ok (.aload_n 0, 1) := dc_of (x := (28, .aload_n 0, 1)) t0_Ci_advance_ok (i := 14) rfl
theorem d_Ci_advance_29 : decode c_Ci_advance 29 = .ok (.iload 5, 2) := dc_of (x := (29, .iload 5, 2)) t0_Ci_advance_ok (i := 15) rfl
theorem d_Ci_advance_31 : decode c_Ci_advance 31 = .ok (.iload 6, 2) := dc_of (x := (31, .iload 6, 2)) t0_Ci_advance_ok (i := 16) rfl
theorem d_Ci_advance_33 : decode c_Ci_advance 33 = .ok (.invokevirtual 113, 3) := dc_of (x := (33, .invokevirtual 113, 3)) t0_Ci_advance_ok (i := 17) rfl
theorem d_Ci_advance_36 : decode c_Ci_advance 36 = .ok (.istore 7, 2) := dc_of (x := (36, .istore 7, 2)) t0_Ci_advance_ok (i := 18) rfl
theorem d_Ci_advance_38 : decode c_Ci_advance 38 = .ok (.iload 7, 2) := dc_of (x := (38, .iload 7, 2)) t0_Ci_advance_ok (i := 19) rfl
theorem d_Ci_advance_40 : decode c_Ci_advance 40 = .ok (.ifCond .eq 16, 3) := dc_of (x := (40, .ifCond .eq 16, 3)) t0_Ci_advance_ok (i := 20) rfl
theorem d_Ci_advance_43 : decode c_Ci_advance 43 = .ok (.aload_n 0, 1) := dc_of (x := (43, .aload_n 0, 1)) t0_Ci_advance_ok (i := 21) rfl
theorem d_Ci_advance_44 : decode c_Ci_advance 44 = .ok (.getfield 36, 3) := dc_of (x := (44, .getfield 36, 3)) t0_Ci_advance_ok (i := 22) rfl
theorem d_Ci_advance_47 : decode c_Ci_advance 47 = .ok (.getfield 117, 3) := dc_of (x := (47, .getfield 117, 3)) t0_Ci_advance_ok (i := 23) rfl
theorem d_Ci_advance_50 : decode c_Ci_advance 50 = .ok (.iload 5, 2) := dc_of (x := (50, .iload 5, 2)) t0_Ci_advance_ok (i := 24) rfl
theorem d_Ci_advance_52 : decode c_Ci_advance 52 = .ok (.laload, 1) := dc_of (x := (52, .laload, 1)) t0_Ci_advance_ok (i := 25) rfl
theorem d_Ci_advance_53 : decode c_Ci_advance 53 = .ok (.goto 25, 3) := dc_of (x := (53, .goto 25, 3)) t0_Ci_advance_ok (i := 26) rfl
theorem d_Ci_advance_56 : decode c_Ci_advance 56 = .ok (.iload 6, 2) := dc_of (x := (56, .iload 6, 2)) t0_Ci_advance_ok (i := 27) rfl
theorem d_Ci_advance_58 : decode c_Ci_advance 58 = .ok (.iconst (-1), 1) := dc_of (x := (58, .iconst (-1), 1)) t0_Ci_advance_ok (i := 28) rfl
theorem d_Ci_advance_59 : decode c_Ci_advance 59 = .ok (.if_icmp .ne 9, 3) := dc_of (x := (59, .if_icmp .ne 9, 3)) t0_Ci_advance_ok (i := 29) rfl
theorem d_Ci_advance_62 : decode c_Ci_advance 62 = .ok (.ldc2_w 121, 3) := dc_of (x := (62, .ldc2_w 121, 3)) t0_Ci_advance_ok (i := 30) rfl
theorem d_Ci_advance_65 : decode c_Ci_advance 65 = .ok (.goto 13, 3) := dc_of (x := (65, .goto 13, 3)) t0_Ci_advance_ok (i := 31) rfl
theorem d_Ci_advance_68 : decode c_Ci_advance 68 = .ok (.aload_n 0, 1) := dc_of (x := (68, .aload_n 0, 1)) t0_Ci_advance_ok (i := 32) rfl
theorem d_Ci_advance_69 : decode c_Ci_advance 69 = .ok (.getfield 23, 3) := dc_of (x := (69, .getfield 23, 3)) t0_Ci_advance_ok (i := 33) rfl
theorem d_Ci_advance_72 : decode c_Ci_advance 72 = .ok (.iload 6, 2) := dc_of (x := (72, .iload 6, 2)) t0_Ci_advance_ok (i := 34) rfl
theorem d_Ci_advance_74 : decode c_Ci_advance 74 = .ok (.aaload, 1) := dc_of (x := (74, .aaload, 1)) t0_Ci_advance_ok (i := 35) rfl
theorem d_Ci_advance_75 : decode c_Ci_advance 75 = .ok (.getfield 123, 3) := dc_of (x := (75, .getfield 123, 3)) t0_Ci_advance_ok (i := 36) rfl
theorem d_Ci_advance_78 : decode c_Ci_advance 78 = .ok (.lstore 8, 2) := dc_of (x := (78, .lstore 8, 2)) t0_Ci_advance_ok (i := 37) rfl
theorem d_Ci_advance_80 : decode c_Ci_advance 80 = .ok (.lload 8, 2) := dc_of (x := (80, .lload 8, 2)) t0_Ci_advance_ok (i := 38) rfl
theorem d_Ci_advance_82 : decode c_Ci_advance 82 = .ok (.ldc2_w 121, 3) := dc_of (x := (82, .ldc2_w 121, 3)) t0_Ci_advance_ok (i := 39) rfl
theorem d_Ci_advance_85 : decode c_Ci_advance 85 = .ok (.lcmp, 1) := dc_of (x := (85, .lcmp, 1)) t0_Ci_advance_ok (i := 40) rfl
theorem d_Ci_advance_86 : decode c_Ci_advance 86 = .ok (.ifCond .eq 10, 3) := dc_of (x := (86, .ifCond .eq 10, 3)) t0_Ci_advance_ok (i := 41) rfl
theorem d_Ci_advance_89 : decode c_Ci_advance 89 = .ok (.lload 8, 2) := dc_of (x := (89, .lload 8, 2)) t0_Ci_advance_ok (i := 42) rfl
theorem d_Ci_advance_91 : decode c_Ci_advance 91 = .ok (.lload_n 1, 1) := dc_of (x := (91, .lload_n 1, 1)) t0_Ci_advance_ok (i := 43) rfl
theorem d_Ci_advance_92 : decode c_Ci_advance 92 = .ok (.lcmp, 1) := dc_of (x := (92, .lcmp, 1)) t0_Ci_advance_ok (i := 44) rfl
theorem d_Ci_advance_93 : decode c_Ci_advance 93 = .ok (.ifCond .le 12, 3) := dc_of (x := (93, .ifCond .le 12, 3)) t0_Ci_advance_ok (i := 45) rfl
theorem d_Ci_advance_96 : decode c_Ci_advance 96 = .ok (.aload_n 0, 1) := dc_of (x := (96, .aload_n 0, 1)) t0_Ci_advance_ok (i := 46) rfl
theorem d_Ci_advance_97 : decode c_Ci_advance 97 = .ok (.lload_n 1, 1) := dc_of (x := (97, .lload_n 1, 1)) t0_Ci_advance_ok (i := 47) rfl
theorem d_Ci_advance_98 : decode c_Ci_advance 98 = .ok (.putfield 50, 3) := dc_of (x := (98, .putfield 50, 3)) t0_Ci_advance_ok (i := 48) rfl
theorem d_Ci_advance_101 : decode c_Ci_advance 101 = .ok (.iload 4, 2) := dc_of (x := (101, .iload 4, 2)) t0_Ci_advance_ok (i := 49) rfl
theorem d_Ci_advance_103 : decode c_Ci_advance 103 = .ok (.i2l, 1) := dc_of (x := (103, .i2l, 1)) t0_Ci_advance_ok (i := 50) rfl
theorem d_Ci_advance_104 : decode c_Ci_advance 104 = .ok (.lreturn, 1) := dc_of (x := (104, .lreturn, 1)) t0_Ci_advance_ok (i := 51) rfl
theorem d_Ci_advance_105 : decode c_Ci_advance 105 = .ok (.lload 8, 2) := dc_of (x := (105, .lload 8, 2)) t0_Ci_advance_ok (i := 52) rfl
theorem d_Ci_advance_107 : decode c_Ci_advance 107 = .ok (.aload_n 0, 1) := dc_of (x := (107, .aload_n 0, 1)) t0_Ci_advance_ok (i := 53) rfl
theorem d_Ci_advance_108 : decode c_Ci_advance 108 = .ok (.getfield 50, 3) := dc_of (x := (108, .getfield 50, 3)) t0_Ci_advance_ok (i := 54) rfl
theorem d_Ci_advance_111 : decode c_Ci_advance 111 = .ok (.lcmp, 1) := dc_of (x := (111, .lcmp, 1)) t0_Ci_advance_ok (i := 55) rfl
theorem d_Ci_advance_112 : decode c_Ci_advance 112 = .ok (.ifCond .le 5, 3) := dc_of (x := (112, .ifCond .le 5, 3)) t0_Ci_advance_ok (i := 56) rfl
theorem d_Ci_advance_115 : decode c_Ci_advance 115 = .ok (.iconst 0, 1) := dc_of (x := (115, .iconst 0, 1)) t0_Ci_advance_ok (i := 57) rfl
theorem d_Ci_advance_116 : decode c_Ci_advance 116 = .ok (.istore_n 3, 1) := dc_of (x := (116, .istore_n 3, 1)) t0_Ci_advance_ok (i := 58) rfl
theorem d_Ci_advance_117 : decode c_Ci_advance 117 = .ok (.aload_n 0, 1) := dc_of (x := (117, .aload_n 0, 1)) t0_Ci_advance_ok (i := 59) rfl
theorem d_Ci_advance_118 : decode c_Ci_advance 118 = .ok (.lload 8, 2) := dc_of (x := (118, .lload 8, 2)) t1_Ci_advance_ok (i := 0) rfl
theorem d_Ci_advance_120 : decode c_Ci_advance 120 = .ok (.putfield 50, 3) := dc_of (x := (120, .putfield 50, 3)) t1_Ci_advance_ok (i := 1) rfl
theorem d_Ci_advance_123 : decode c_Ci_advance 123 = .ok (.iload 7, 2) := dc_of (x := (123, .iload 7, 2)) t1_Ci_advance_ok (i := 2) rfl
theorem d_Ci_advance_125 : decode c_Ci_advance 125 = .ok (.ifCond .eq 16, 3) := dc_of (x := (125, .ifCond .eq 16, 3)) t1_Ci_advance_ok (i := 3) rfl
theorem d_Ci_advance_128 : decode c_Ci_advance 128 = .ok (.aload_n 0, 1) := dc_of (x := (128, .aload_n 0, 1)) t1_Ci_advance_ok (i := 4) rfl
theorem d_Ci_advance_129 : decode c_Ci_advance 129 = .ok (.aload_n 0, 1) := dc_of (x := (129, .aload_n 0, 1)) t1_Ci_advance_ok (i := 5) rfl
theorem d_Ci_advance_130 : decode c_Ci_advance 130 = .ok (.iload 5, 2) := dc_of (x := (130, .iload 5, 2)) t1_Ci_advance_ok (i := 6) rfl
theorem d_Ci_advance_132 : decode c_Ci_advance 132 = .ok (.invokevirtual 126, 3) := dc_of (x := (132, .invokevirtual 126, 3)) t1_Ci_advance_ok (i := 7) rfl
theorem d_Ci_advance_135 : decode c_Ci_advance 135 = .ok (.invokevirtual 87, 3) := dc_of (x := (135, .invokevirtual 87, 3)) t1_Ci_advance_ok (i := 8) rfl
theorem d_Ci_advance_138 : decode c_Ci_advance 138 = .ok (.goto 50, 3) := dc_of (x := (138, .goto 50, 3)) t1_Ci_advance_ok (i := 9) rfl
theorem d_Ci_advance_141 : decode c_Ci_advance 141 = .ok (.iload_n 3, 1) := dc_of (x := (141, .iload_n 3, 1)) t1_Ci_advance_ok (i := 10) rfl
theorem d_Ci_advance_142 : decode c_Ci_advance 142 = .ok (.bipush 60, 2) := dc_of (x := (142, .bipush 60, 2)) t1_Ci_advance_ok (i := 11) rfl
theorem d_Ci_advance_144 : decode c_Ci_advance 144 = .ok (.if_icmp .ne 17, 3) := dc_of (x := (144, .if_icmp .ne 17, 3)) t1_Ci_advance_ok (i := 12) rfl
theorem d_Ci_advance_147 : decode c_Ci_advance 147 = .ok (.iconst (-1), 1) := dc_of (x := (147, .iconst (-1), 1)) t1_Ci_advance_ok (i := 13) rfl
theorem d_Ci_advance_148 : decode c_Ci_advance 148 = .ok (.aload_n 0, 1) := dc_of (x := (148, .aload_n 0, 1)) t1_Ci_advance_ok (i := 14) rfl
theorem d_Ci_advance_149 : decode c_Ci_advance 149 = .ok (.getfield 23, 3) := dc_of (x := (149, .getfield 23, 3)) t1_Ci_advance_ok (i := 15) rfl
theorem d_Ci_advance_152 : decode c_Ci_advance 152 = .ok (.iload 6, 2) := dc_of (x := (152, .iload 6, 2)) t1_Ci_advance_ok (i := 16) rfl
theorem d_Ci_advance_154 : decode c_Ci_advance 154 = .ok (.aaload, 1) := dc_of (x := (154, .aaload, 1)) t1_Ci_advance_ok (i := 17) rfl
theorem d_Ci_advance_155 : decode c_Ci_advance 155 = .ok (.getfield 130, 3) := dc_of (x := (155, .getfield 130, 3)) t1_Ci_advance_ok (i := 18) rfl
theorem d_Ci_advance_158 : decode c_Ci_advance 158 = .ok (.isub, 1) := dc_of (x := (158, .isub, 1)) t1_Ci_advance_ok (i := 19) rfl
theorem d_Ci_advance_159 : decode c_Ci_advance 159 = .ok (.i2l, 1) := dc_of (x := (159, .i2l, 1)) t1_Ci_advance_ok (i := 20) rfl
theorem d_Ci_advance_160 : decode c_Ci_advance 160 = .ok (.lreturn, 1) := dc_of (x := (160, .lreturn, 1)) t1_Ci_advance_ok (i := 21) rfl
theorem d_Ci_advance_161 : decode c_Ci_advance 161 = .ok (.iinc 3 1, 3) := dc_of (x := (161, .iinc 3 1, 3)) t1_Ci_advance_ok (i := 22) rfl
theorem d_Ci_advance_164 : decode c_Ci_advance 164 = .ok (.aload_n 0, 1) := dc_of (x := (164, .aload_n 0, 1)) t1_Ci_advance_ok (i := 23) rfl
theorem d_Ci_advance_165 : decode c_Ci_advance 165 = .ok (.getfield 23, 3) := dc_of (x := (165, .getfield 23, 3)) t1_Ci_advance_ok (i := 24) rfl
theorem d_Ci_advance_168 : decode c_Ci_advance 168 = .ok (.iload 6, 2) := dc_of (x := (168, .iload 6, 2)) t1_Ci_advance_ok (i := 25) rfl
theorem d_Ci_advance_170 : decode c_Ci_advance 170 = .ok (.aaload, 1) := dc_of (x := (170, .aaload, 1)) t1_Ci_advance_ok (i := 26) rfl
theorem d_Ci_advance_171 : decode c_Ci_advance 171 = .ok (.invokevirtual 133, 3) := dc_of (x := (171, .invokevirtual 133, 3)) t1_Ci_advance_ok (i := 27) rfl
theorem d_Ci_advance_174 : decode c_Ci_advance 174 = .ok (.aload_n 0, 1) := dc_of (x := (174, .aload_n 0, 1)) t1_Ci_advance_ok (i := 28) rfl
theorem d_Ci_advance_175 : decode c_Ci_advance 175 = .ok (.aload_n 0, 1) := dc_of (x := (175, .aload_n 0, 1)) t1_Ci_advance_ok (i := 29) rfl
theorem d_Ci_advance_176 : decode c_Ci_advance 176 = .ok (.getfield 23, 3) := dc_of (x := (176, .getfield 23, 3)) t1_Ci_advance_ok (i := 30) rfl
theorem d_Ci_advance_179 : decode c_Ci_advance 179 = .ok (.iload 6, 2) := dc_of (x := (179, .iload 6, 2)) t1_Ci_advance_ok (i := 31) rfl
theorem d_Ci_advance_181 : decode c_Ci_advance 181 = .ok (.aaload, 1) := dc_of (x := (181, .aaload, 1)) t1_Ci_advance_ok (i := 32) rfl
theorem d_Ci_advance_182 : decode c_Ci_advance 182 = .ok (.getfield 130, 3) := dc_of (x := (182, .getfield 130, 3)) t1_Ci_advance_ok (i := 33) rfl
theorem d_Ci_advance_185 : decode c_Ci_advance 185 = .ok (.invokevirtual 87, 3) := dc_of (x := (185, .invokevirtual 87, 3)) t1_Ci_advance_ok (i := 34) rfl
theorem d_Ci_advance_188 : decode c_Ci_advance 188 = .ok (.iinc 4 1, 3) := dc_of (x := (188, .iinc 4 1, 3)) t1_Ci_advance_ok (i := 35) rfl
theorem d_Ci_advance_191 : decode c_Ci_advance 191 = .ok (.goto (-186), 3) := dc_of (x := (191, .goto (-186), 3)) t1_Ci_advance_ok (i := 36) rfl
theorem d_Ci_advance_194 : decode c_Ci_advance 194 = .ok (.ldc2_w 136, 3) := dc_of (x := (194, .ldc2_w 136, 3)) t1_Ci_advance_ok (i := 37) rfl
theorem d_Ci_advance_197 : decode c_Ci_advance 197 = .ok (.lreturn, 1) := dc_of (x := (197, .lreturn, 1)) t1_Ci_advance_ok (i := 38) rfl
def t0_Ci_firstGate : List (Nat × Instr × Nat) := [(0, .iconst (-1), 1), (1, .istore_n 1, 1), (2, .iconst 0, 1), (3, .istore_n 2, 1), (4, .iload_n 2, 1), (5, .aload_n 0, 1), (6, .getfield 57, 3), (9, .if_icmp .ge 47, 3), (12, .aload_n 0, 1), (13, .getfield 23, 3), (16, .iload_n 2, 1), (17, .aaload, 1), (18, .getfield 138, 3), (21, .iconst (-1), 1), (22, .if_icmp .eq 28, 3), (25, .iload_n 1, 1), (26, .iconst (-1), 1), (27, .if_icmp .eq 21, 3), (30, .aload_n 0, 1), (31, .getfield 23, 3), (34, .iload_n 2, 1), (35, .aaload, 1), (36, .aload_n 0, 1), (37, .getfield 23, 3), (40, .iload_n 1, 1), (41, .aaload, 1), (42, .invokestatic 141, 3), (45, .ifCond .eq 5, 3), (48, .iload_n 2, 1), (49, .istore_n 1, 1), (50, .iinc 2 1, 3), (53, .goto (-49), 3), (56, .iload_n 1, 1), (57, .ireturn, 1)]
theorem t0_Ci_firstGate_ok : t0_Ci_firstGate.all (fun x => decide (decode c_Ci_firstGate x.1 = .ok x.2)) = true := by decide +kernel
theorem d_Ci_firstGate_0 : decode c_Ci_firstGate 0 = .ok (.iconst (-1), 1) := dc_of (x := (0, .iconst (-1), 1)) t0_Ci_firstGate_ok (i := 0) rfl
theorem d_Ci_firstGate_1 : decode c_Ci_firstGate 1 = .ok (.istore_n 1, 1) := dc_of (x := (1, .istore_n 1, 1)) t0_Ci_firstGate_ok (i := 1) rfl
theorem d_Ci_firstGate_2 : decode c_Ci_firstGate 2 = .ok (.iconst 0, 1) := dc_of (x := (2, .iconst 0, 1)) t0_Ci_firstGate_ok (i := 2) rfl
theorem d_Ci_firstGate_3 : decode c_Ci_firstGate 3 = .ok (.istore_n 2, 1) := dc_of (x := (3, .istore_n 2, 1)) t0_Ci_firstGate_ok (i := 3) rfl
theorem d_Ci_firstGate_4 : decode c_Ci_firstGate 4 = .ok (.iload_n 2, 1) := dc_of (x := (4, .iload_n 2, 1)) t0_Ci_firstGate_ok (i := 4) rfl
theorem d_Ci_firstGate_5 : decode c_Ci_firstGate 5 = .ok (.aload_n 0, 1) := dc_of (x := (5, .aload_n 0, 1)) t0_Ci_firstGate_ok (i := 5) rfl
theorem d_Ci_firstGate_6 : decode c_Ci_firstGate 6 = .ok (.getfield 57, 3) := dc_of (x := (6, .getfield 57, 3)) t0_Ci_firstGate_ok (i := 6) rfl
theorem d_Ci_firstGate_9 : decode c_Ci_firstGate 9 = .ok (.if_icmp .ge 47, 3) := dc_of (x := (9, .if_icmp .ge 47, 3)) t0_Ci_firstGate_ok (i := 7) rfl
theorem d_Ci_firstGate_12 : decode c_Ci_firstGate 12 = .ok (.aload_n 0, 1) := dc_of (x := (12, .aload_n 0, 1)) t0_Ci_firstGate_ok (i := 8) rfl
theorem d_Ci_firstGate_13 : decode c_Ci_firstGate 13 = .ok (.getfield 23, 3) := dc_of (x := (13, .getfield 23, 3)) t0_Ci_firstGate_ok (i := 9) rfl
theorem d_Ci_firstGate_16 : decode c_Ci_firstGate 16 = .ok (.iload_n 2, 1) := dc_of (x := (16, .iload_n 2, 1)) t0_Ci_firstGate_ok (i := 10) rfl
theorem d_Ci_firstGate_17 : decode c_Ci_firstGate 17 = .ok (.aaload, 1) := dc_of (x := (17, .aaload, 1)) t0_Ci_firstGate_ok (i := 11) rfl
theorem d_Ci_firstGate_18 : decode c_Ci_firstGate 18 = .ok (.getfield 138, 3) := dc_of (x := (18, .getfield 138, 3)) t0_Ci_firstGate_ok (i := 12) rfl
theorem d_Ci_firstGate_21 : decode c_Ci_firstGate 21 = .ok (.iconst (-1), 1) := dc_of (x := (21, .iconst (-1), 1)) t0_Ci_firstGate_ok (i := 13) rfl
theorem d_Ci_firstGate_22 : decode c_Ci_firstGate 22 = .ok (.if_icmp .eq 28, 3) := dc_of (x := (22, .if_icmp .eq 28, 3)) t0_Ci_firstGate_ok (i := 14) rfl
theorem d_Ci_firstGate_25 : decode c_Ci_firstGate 25 = .ok (.iload_n 1, 1) := dc_of (x := (25, .iload_n 1, 1)) t0_Ci_firstGate_ok (i := 15) rfl
theorem d_Ci_firstGate_26 : decode c_Ci_firstGate 26 = .ok (.iconst (-1), 1) := dc_of (x := (26, .iconst (-1), 1)) t0_Ci_firstGate_ok (i := 16) rfl
theorem d_Ci_firstGate_27 : decode c_Ci_firstGate 27 = .ok (.if_icmp .eq 21, 3) := dc_of (x := (27, .if_icmp .eq 21, 3)) t0_Ci_firstGate_ok (i := 17) rfl
theorem d_Ci_firstGate_30 : decode c_Ci_firstGate 30 = .ok (.aload_n 0, 1) := dc_of (x := (30, .aload_n 0, 1)) t0_Ci_firstGate_ok (i := 18) rfl
theorem d_Ci_firstGate_31 : decode c_Ci_firstGate 31 = .ok (.getfield 23, 3) := dc_of (x := (31, .getfield 23, 3)) t0_Ci_firstGate_ok (i := 19) rfl
theorem d_Ci_firstGate_34 : decode c_Ci_firstGate 34 = .ok (.iload_n 2, 1) := dc_of (x := (34, .iload_n 2, 1)) t0_Ci_firstGate_ok (i := 20) rfl
theorem d_Ci_firstGate_35 : decode c_Ci_firstGate 35 = .ok (.aaload, 1) := dc_of (x := (35, .aaload, 1)) t0_Ci_firstGate_ok (i := 21) rfl
theorem d_Ci_firstGate_36 : decode c_Ci_firstGate 36 = .ok (.aload_n 0, 1) := dc_of (x := (36, .aload_n 0, 1)) t0_Ci_firstGate_ok (i := 22) rfl
theorem d_Ci_firstGate_37 : decode c_Ci_firstGate 37 = .ok (.getfield 23, 3) := dc_of (x := (37, .getfield 23, 3)) t0_Ci_firstGate_ok (i := 23) rfl
theorem d_Ci_firstGate_40 : decode c_Ci_firstGate 40 = .ok (.iload_n 1, 1) := dc_of (x := (40, .iload_n 1, 1)) t0_Ci_firstGate_ok (i := 24) rfl
theorem d_Ci_firstGate_41 : decode c_Ci_firstGate 41 = .ok (.aaload, 1) := dc_of (x := (41, .aaload, 1)) t0_Ci_firstGate_ok (i := 25) rfl
theorem d_Ci_firstGate_42 : decode c_Ci_firstGate 42 = .ok (.invokestatic 141, 3) := dc_of (x := (42, .invokestatic 141, 3)) t0_Ci_firstGate_ok (i := 26) rfl
theorem d_Ci_firstGate_45 : decode c_Ci_firstGate 45 = .ok (.ifCond .eq 5, 3) := dc_of (x := (45, .ifCond .eq 5, 3)) t0_Ci_firstGate_ok (i := 27) rfl
theorem d_Ci_firstGate_48 : decode c_Ci_firstGate 48 = .ok (.iload_n 2, 1) := dc_of (x := (48, .iload_n 2, 1)) t0_Ci_firstGate_ok (i := 28) rfl
theorem d_Ci_firstGate_49 : decode c_Ci_firstGate 49 = .ok (.istore_n 1, 1) := dc_of (x := (49, .istore_n 1, 1)) t0_Ci_firstGate_ok (i := 29) rfl
theorem d_Ci_firstGate_50 : decode c_Ci_firstGate 50 = .ok (.iinc 2 1, 3) := dc_of (x := (50, .iinc 2 1, 3)) t0_Ci_firstGate_ok (i := 30) rfl
theorem d_Ci_firstGate_53 : decode c_Ci_firstGate 53 = .ok (.goto (-49), 3) := dc_of (x := (53, .goto (-49), 3)) t0_Ci_firstGate_ok (i := 31) rfl
theorem d_Ci_firstGate_56 : decode c_Ci_firstGate 56 = .ok (.iload_n 1, 1) := dc_of (x := (56, .iload_n 1, 1)) t0_Ci_firstGate_ok (i := 32) rfl
theorem d_Ci_firstGate_57 : decode c_Ci_firstGate 57 = .ok (.ireturn, 1) := dc_of (x := (57, .ireturn, 1)) t0_Ci_firstGate_ok (i := 33) rfl
def t0_Ci_isBefore : List (Nat × Instr × Nat) := [(0, .aload_n 0, 1), (1, .getfield 123, 3), (4, .aload_n 1, 1), (5, .getfield 123, 3), (8, .lcmp, 1), (9, .ifCond .lt 26, 3), (12, .aload_n 0, 1), (13, .getfield 123, 3), (16, .aload_n 1, 1), (17, .getfield 123, 3), (20, .lcmp, 1), (21, .ifCond .ne 18, 3), (24, .aload_n 0, 1), (25, .getfield 130, 3), (28, .aload_n 1, 1), (29, .getfield 130, 3), (32, .if_icmp .ge 7, 3), (35, .iconst 1, 1), (36, .goto 4, 3), (39, .iconst 0, 1), (40, .ireturn, 1)]
theorem t0_Ci_isBefore_ok : t0_Ci_isBefore.all (fun x => decide (decode c_Ci_isBefore x.1 = .ok x.2)) = true := by decide +kernel
theorem d_Ci_isBefore_0 : decode c_Ci_isBefore 0 = .ok (.aload_n 0, 1) := dc_of (x := (0, .aload_n 0, 1)) t0_Ci_isBefore_ok (i := 0) rfl
theorem d_Ci_isBefore_1 : decode c_Ci_isBefore 1 = .ok (.getfield 123, 3) := dc_of (x := (1, .getfield 123, 3)) t0_Ci_isBefore_ok (i := 1) rfl
theorem d_Ci_isBefore_4 : decode c_Ci_isBefore 4 = .ok (.aload_n 1, 1) := dc_of (x := (4, .aload_n 1, 1)) t0_Ci_isBefore_ok (i := 2) rfl
theorem d_Ci_isBefore_5 : decode c_Ci_isBefore 5 = .ok (.getfield 123, 3) := dc_of (x := (5, .getfield 123, 3)) t0_Ci_isBefore_ok (i := 3) rfl
theorem d_Ci_isBefore_8 : decode c_Ci_isBefore 8 = .ok (.lcmp, 1) := dc_of (x := (8, .lcmp, 1)) t0_Ci_isBefore_ok (i := 4) rfl
theorem d_Ci_isBefore_9 : decode c_Ci_isBefore 9 = .ok (.ifCond .lt 26, 3) := dc_of (x := (9, .ifCond .lt 26, 3)) t0_Ci_isBefore_ok (i := 5) rfl
theorem d_Ci_isBefore_12 : decode c_Ci_isBefore 12 = .ok (.aload_n 0, 1) := dc_of (x := (12, .aload_n 0, 1)) t0_Ci_isBefore_ok (i := 6) rfl
theorem d_Ci_isBefore_13 : decode c_Ci_isBefore 13 = .ok (.getfield 123, 3) := dc_of (x := (13, .getfield 123, 3)) t0_Ci_isBefore_ok (i := 7) rfl
theorem d_Ci_isBefore_16 : decode c_Ci_isBefore 16 = .ok (.aload_n 1, 1) := dc_of (x := (16, .aload_n 1, 1)) t0_Ci_isBefore_ok (i := 8) rfl
theorem d_Ci_isBefore_17 : decode c_Ci_isBefore 17 = .ok (.getfield 123, 3) := dc_of (x := (17, .getfield 123, 3)) t0_Ci_isBefore_ok (i := 9) rfl
theorem d_Ci_isBefore_20 : decode c_Ci_isBefore 20 = .ok (.lcmp, 1) := dc_of (x := (20, .lcmp, 1)) t0_Ci_isBefore_ok (i := 10) rfl
theorem d_Ci_isBefore_21 : decode c_Ci_isBefore 21 = .ok (.ifCond .ne 18, 3) := dc_of (x := (21, .ifCond .ne 18, 3)) t0_Ci_isBefore_ok (i := 11) rfl
theorem d_Ci_isBefore_24 : decode c_Ci_isBefore 24 = .ok (.aload_n 0, 1) := dc_of (x := (24, .aload_n 0, 1)) t0_Ci_isBefore_ok (i := 12) rfl
theorem d_Ci_isBefore_25 : decode c_Ci_isBefore 25 = .ok (.getfield 130, 3) := dc_of (x := (25, .getfield 130, 3)) t0_Ci_isBefore_ok (i := 13) rfl
theorem d_Ci_isBefore_28 : decode c_Ci_isBefore 28 = .ok (.aload_n 1, 1) := dc_of (x := (28, .aload_n 1, 1)) t0_Ci_isBefore_ok (i := 14) rfl
theorem d_Ci_isBefore_29 : decode c_Ci_isBefore 29 = .ok (.getfield 130, 3) := dc_of (x := (29, .getfield 130, 3)) t0_Ci_isBefore_ok (i := 15) rfl
theorem d_Ci_isBefore_32 : decode c_Ci_isBefore 32 = .ok (.if_icmp .ge 7, 3) := dc_of (x := (32, .if_icmp .ge 7, 3)) t0_Ci_isBefore_ok (i := 16) rfl
theorem d_Ci_isBefore_35 : decode c_Ci_isBefore 35 = .ok (.iconst 1, 1) := dc_of (x := (35, .iconst 1, 1)) t0_Ci_isBefore_ok (i := 17) rfl
theorem d_Ci_isBefore_36 : decode c_Ci_isBefore 36 = .ok (.goto 4, 3) := dc_of (x := (36, .goto 4, 3)) t0_Ci_isBefore_ok (i := 18) rfl
theorem d_Ci_isBefore_39 : decode c_Ci_isBefore 39 = .ok (.iconst 0, 1) := dc_of (x := (39, .iconst 0, 1)) t0_Ci_isBefore_ok (i := 19) rfl
theorem d_Ci_isBefore_40 : decode c_Ci_isBefore 40 = .ok (.ireturn, 1) := dc_of (x := (40, .ireturn, 1)) t0_Ci_isBefore_ok (i := 20) rfl
def t0_Ci_isHandFirst : List (Nat × Instr × Nat) := [(0, .iload_n 1, 1), (1, .iconst (-1), 1), (2, .if_icmp .eq 8, 3), (5, .iload_n 2, 1), (6, .iconst (-1), 1), (7, .if_icmp .ne 14, 3), (10, .iload_n 1, 1), (11, .iconst (-1), 1), (12, .if_icmp .eq 7, 3), (15, .iconst 1, 1), (16, .goto 4, 3), (19, .iconst 0, 1), (20, .ireturn, 1), (21, .aload_n 0, 1), (22, .getfield 36, 3), (25, .getfield 117, 3), (28, .iload_n 1, 1), (29, .laload, 1), (30, .lstore_n 3, 1), (31, .aload_n 0, 1), (32, .getfield 23, 3), (35, .iload_n 2, 1), (36, .aaload, 1), (37, .getfield 123, 3), (40, .lstore 5, 2), (42, .lload_n 3, 1), (43, .lload 5, 2), (45, .lcmp, 1), (46, .ifCond .lt 31, 3), (49, .lload_n 3, 1), (50, .lload 5, 2), (52, .lcmp, 1), (53, .ifCond .ne 28, 3), (56, .aload_n 0, 1), (57, .getfield 36, 3), (60, .getfield 145, 3), (63, .iload_n 1, 1), (64, .iaload, 1), (65, .aload_n 0, 1), (66, .getfield 23, 3), (69, .iload_n 2, 1), (70, .aaload, 1), (71, .getfield 130, 3), (74, .if_icmp .gt 7, 3), (77, .iconst 1, 1), (78, .goto 4, 3), (81, .iconst 0, 1), (82, .ireturn, 1)]
theorem t0_Ci_isHandFirst_ok : t0_Ci_isHandFirst.all (fun x => decide (decode c_Ci_isHandFirst x.1 = .ok x.2)) = true := by decide +kernel
theorem d_Ci_isHandFirst_0 : decode c_Ci_isHandFirst 0 = .ok (.iload_n 1, 1) := dc_of (x := (0, .iload_n 1, 1)) t0_Ci_isHandFirst_ok (i := 0) rfl
theorem d_Ci_isHandFirst_1 : decode c_Ci_isHandFirst 1 = .ok (.iconst (-1), 1) := dc_of (x := (1, .iconst (-1), 1)) t0_Ci_isHandFirst_ok (i := 1) rfl
theorem d_Ci_isHandFirst_2 : decode c_Ci_isHandFirst 2 = .ok (.if_icmp .eq 8, 3) := dc_of (x := (2, .if_icmp .eq 8, 3)) t0_Ci_isHandFirst_ok (i := 2) rfl
theorem d_Ci_isHandFirst_5 : decode c_Ci_isHandFirst 5 = .ok (.iload_n 2, 1) := dc_of (x := (5, .iload_n 2, 1)) t0_Ci_isHandFirst_ok (i := 3) rfl
theorem d_Ci_isHandFirst_6 : decode c_Ci_isHandFirst 6 = .ok (.iconst (-1), 1) := dc_of (x := (6, .iconst (-1), 1)) t0_Ci_isHandFirst_ok (i := 4) rfl
theorem d_Ci_isHandFirst_7 : decode c_Ci_isHandFirst 7 = .ok (.if_icmp .ne 14, 3) := dc_of (x := (7, .if_icmp .ne 14, 3)) t0_Ci_isHandFirst_ok (i := 5) rfl
theorem d_Ci_isHandFirst_10 : decode c_Ci_isHandFirst 10 = .ok (.iload_n 1, 1) := dc_of (x := (10, .iload_n 1, 1)) t0_Ci_isHandFirst_ok (i := 6) rfl
theorem d_Ci_isHandFirst_11 : decode c_Ci_isHandFirst 11 = .ok (.iconst (-1), 1) := dc_of (x := (11, .iconst (-1), 1)) t0_Ci_isHandFirst_ok (i := 7) rfl
theorem d_Ci_isHandFirst_12 : decode c_Ci_isHandFirst 12 = .ok (.if_icmp .eq 7, 3) := dc_of (x := (12, .if_icmp .eq 7, 3)) t0_Ci_isHandFirst_ok (i := 8) rfl
theorem d_Ci_isHandFirst_15 : decode c_Ci_isHandFirst 15 = .ok (.iconst 1, 1) := dc_of (x := (15, .iconst 1, 1)) t0_Ci_isHandFirst_ok (i := 9) rfl
theorem d_Ci_isHandFirst_16 : decode c_Ci_isHandFirst 16 = .ok (.goto 4, 3) := dc_of (x := (16, .goto 4, 3)) t0_Ci_isHandFirst_ok (i := 10) rfl
theorem d_Ci_isHandFirst_19 : decode c_Ci_isHandFirst 19 = .ok (.iconst 0, 1) := dc_of (x := (19, .iconst 0, 1)) t0_Ci_isHandFirst_ok (i := 11) rfl
theorem d_Ci_isHandFirst_20 : decode c_Ci_isHandFirst 20 = .ok (.ireturn, 1) := dc_of (x := (20, .ireturn, 1)) t0_Ci_isHandFirst_ok (i := 12) rfl
theorem d_Ci_isHandFirst_21 : decode c_Ci_isHandFirst 21 = .ok (.aload_n 0, 1) := dc_of (x := (21, .aload_n 0, 1)) t0_Ci_isHandFirst_ok (i := 13) rfl
theorem d_Ci_isHandFirst_22 : decode c_Ci_isHandFirst 22 = .ok (.getfield 36, 3) := dc_of (x := (22, .getfield 36, 3)) t0_Ci_isHandFirst_ok (i := 14) rfl
theorem d_Ci_isHandFirst_25 : decode c_Ci_isHandFirst 25 = .ok (.getfield 117, 3) := dc_of (x := (25, .getfield 117, 3)) t0_Ci_isHandFirst_ok (i := 15) rfl
theorem d_Ci_isHandFirst_28 : decode c_Ci_isHandFirst 28 = .ok (.iload_n 1, 1) := dc_of (x := (28, .iload_n 1, 1)) t0_Ci_isHandFirst_ok (i := 16) rfl
theorem d_Ci_isHandFirst_29 : decode c_Ci_isHandFirst 29 = .ok (.laload, 1) := dc_of (x := (29, .laload, 1)) t0_Ci_isHandFirst_ok (i := 17) rfl
theorem d_Ci_isHandFirst_30 : decode c_Ci_isHandFirst 30 = .ok (.lstore_n 3, 1) := dc_of (x := (30, .lstore_n 3, 1)) t0_Ci_isHandFirst_ok (i := 18) rfl
theorem d_Ci_isHandFirst_31 : decode c_Ci_isHandFirst 31 = .ok (.aload_n 0, 1) := dc_of (x := (31, .aload_n 0, 1)) t0_Ci_isHandFirst_ok (i := 19) rfl
theorem d_Ci_isHandFirst_32 : decode c_Ci_isHandFirst 32 = .ok (.getfield 23, 3) := dc_of (x := (32, .getfield 23, 3)) t0_Ci_isHandFirst_ok (i := 20) rfl
theorem d_Ci_isHandFirst_35 : decode c_Ci_isHandFirst 35 = .ok (.iload_n 2, 1) := dc_of (x := (35, .iload_n 2, 1)) t0_Ci_isHandFirst_ok (i := 21) rfl
theorem d_Ci_isHandFirst_36 : decode c_Ci_isHandFirst 36 = .ok (.aaload, 1) := dc_of (x := (36, .aaload, 1)) t0_Ci_isHandFirst_ok (i := 22) rfl
theorem d_Ci_isHandFirst_37 : decode c_Ci_isHandFirst 37 = .ok (.getfield 123, 3) := dc_of (x := (37, .getfield 123, 3)) t0_Ci_isHandFirst_ok (i := 23) rfl
theorem d_Ci_isHandFirst_40 : decode c_Ci_isHandFirst 40 = .ok (.lstore 5, 2) := dc_of (x := (40, .lstore 5, 2)) t0_Ci_isHandFirst_ok (i := 24) rfl
theorem d_Ci_isHandFirst_42 : decode c_Ci_isHandFirst 42 = .ok (.lload_n 3, 1) := dc_of (x := (42, .lload_n 3, 1)) t0_Ci_isHandFirst_ok (i := 25) rfl
theorem d_Ci_isHandFirst_43 : decode c_Ci_isHandFirst 43 = .ok (.lload 5, 2) := dc_of (x := (43, .lload 5, 2)) t0_Ci_isHandFirst_ok (i := 26) rfl
theorem d_Ci_isHandFirst_45 : decode c_Ci_isHandFirst 45 = .ok (.lcmp, 1) := dc_of (x := (45, .lcmp, 1)) t0_Ci_isHandFirst_ok (i := 27) rfl
theorem d_Ci_isHandFirst_46 : decode c_Ci_isHandFirst 46 = .ok (.ifCond .lt 31, 3) := dc_of (x := (46, .ifCond .lt 31, 3)) t0_Ci_isHandFirst_ok (i := 28) rfl
theorem d_Ci_isHandFirst_49 : decode c_Ci_isHandFirst 49 = .ok (.lload_n 3, 1) := dc_of (x := (49, .lload_n 3, 1)) t0_Ci_isHandFirst_ok (i := 29) rfl
theorem d_Ci_isHandFirst_50 : decode c_Ci_isHandFirst 50 = .ok (.lload 5, 2) := dc_of (x := (50, .lload 5, 2)) t0_Ci_isHandFirst_ok (i := 30) rfl
theorem d_Ci_isHandFirst_52 : decode c_Ci_isHandFirst 52 = .ok (.lcmp, 1) := dc_of (x := (52, .lcmp, 1)) t0_Ci_isHandFirst_ok (i := 31) rfl
theorem d_Ci_isHandFirst_53 : decode c_Ci_isHandFirst 53 = .ok (.ifCond .ne 28, 3) := dc_of (x := (53, .ifCond .ne 28, 3)) t0_Ci_isHandFirst_ok (i := 32) rfl
theorem d_Ci_isHandFirst_56 : decode c_Ci_isHandFirst 56 = .ok (.aload_n 0, 1) := dc_of (x := (56, .aload_n 0, 1)) t0_Ci_isHandFirst_ok (i := 33) rfl
theorem d_Ci_isHandFirst_57 : decode c_Ci_isHandFirst 57 = .ok (.getfield 36, 3) := dc_of (x := (57, .getfield 36, 3)) t0_Ci_isHandFirst_ok (i := 34) rfl
theorem d_Ci_isHandFirst_60 : decode c_Ci_isHandFirst 60 = .ok (.getfield 145, 3) := dc_of (x := (60, .getfield 145, 3)) t0_Ci_isHandFirst_ok (i := 35) rfl
theorem d_Ci_isHandFirst_63 : decode c_Ci_isHandFirst 63 = .ok (.iload_n 1, 1) := dc_of (x := (63, .iload_n 1, 1)) t0_Ci_isHandFirst_ok (i := 36) rfl
theorem d_Ci_isHandFirst_64 : decode c_Ci_isHandFirst 64 = .ok (.iaload, 1) := dc_of (x := (64, .iaload, 1)) t0_Ci_isHandFirst_ok (i := 37) rfl
theorem d_Ci_isHandFirst_65 : decode c_Ci_isHandFirst 65 = .ok (.aload_n 0, 1) := dc_of (x := (65, .aload_n 0, 1)) t0_Ci_isHandFirst_ok (i := 38) rfl
theorem d_Ci_isHandFirst_66 : decode c_Ci_isHandFirst 66 = .ok (.getfield 23, 3) := dc_of (x := (66, .getfield 23, 3)) t0_Ci_isHandFirst_ok (i := 39) rfl
theorem d_Ci_isHandFirst_69 : decode c_Ci_isHandFirst 69 = .ok (.iload_n 2, 1) := dc_of (x := (69, .iload_n 2, 1)) t0_Ci_isHandFirst_ok (i := 40) rfl
theorem d_Ci_isHandFirst_70 : decode c_Ci_isHandFirst 70 = .ok (.aaload, 1) := dc_of (x := (70, .aaload, 1)) t0_Ci_isHandFirst_ok (i := 41) rfl
theorem d_Ci_isHandFirst_71 : decode c_Ci_isHandFirst 71 = .ok (.getfield 130, 3) := dc_of (x := (71, .getfield 130, 3)) t0_Ci_isHandFirst_ok (i := 42) rfl
theorem d_Ci_isHandFirst_74 : decode c_Ci_isHandFirst 74 = .ok (.if_icmp .gt 7, 3) := dc_of (x := (74, .if_icmp .gt 7, 3)) t0_Ci_isHandFirst_ok (i := 43) rfl
theorem d_Ci_isHandFirst_77 : decode c_Ci_isHandFirst 77 = .ok (.iconst 1, 1) := dc_of (x := (77, .iconst 1, 1)) t0_Ci_isHandFirst_ok (i := 44) rfl
theorem d_Ci_isHandFirst_78 : decode c_Ci_isHandFirst 78 = .ok (.goto 4, 3) := dc_of (x := (78, .goto 4, 3)) t0_Ci_isHandFirst_ok (i := 45) rfl
theorem d_Ci_isHandFirst_81 : decode c_Ci_isHandFirst 81 = .ok (.iconst 0, 1) := dc_of (x := (81, .iconst 0, 1)) t0_Ci_isHandFirst_ok (i := 46) rfl
theorem d_Ci_isHandFirst_82 : decode c_Ci_isHandFirst 82 = .ok (.ireturn, 1) := dc_of (x := (82, .ireturn, 1)) t0_Ci_isHandFirst_ok (i := 47) rfl
def t0_Ci_takeHand : List (Nat × Instr × Nat) := [(0, .aload_n 0, 1), (1, .getfield 36, 3), (4, .getfield 145, 3), (7, .iload_n 1, 1), (8, .iaload, 1), (9, .istore_n 2, 1), (10, .aload_n 0, 1), (11, .getfield 17, 3), (14, .iload_n 2, 1), (15, .aaload, 1), (16, .astore_n 3, 1), (17, .aload_n 0, 1), (18, .getfield 36, 3), (21, .getfield 148, 3), (24, .iload_n 1, 1), (25, .iaload, 1), (26, .lookupswitch 58 #[(0, 26), (1, 42)], 26), (52, .aload_n 3, 1), (53, .aload_n 0, 1), (54, .getfield 36, 3), (57, .getfield 151, 3), (60, .iload_n 1, 1), (61, .iaload, 1), (62, .putfield 154, 3), (65, .goto 24, 3), (68, .aload_n 3, 1), (69, .aload_n 0, 1), (70, .getfield 36, 3), (73, .getfield 151, 3), (76, .iload_n 1, 1), (77, .iaload, 1), (78, .putfield 157, 3), (81, .goto 8, 3), (84, .aload_n 3, 1), (85, .iconst (-1), 1), (86, .putfield 157, 3), (89, .aload_n 0, 1), (90, .getfield 36, 3), (93, .iload_n 1, 1), (94, .invokevirtual 160, 3), (97, .iload_n 2, 1), (98, .ireturn, 1)]
theorem t0_Ci_takeHand_ok : t0_Ci_takeHand.all (fun x => decide (decode c_Ci_takeHand x.1 = .ok x.2)) = true := by decide +kernel
theorem d_Ci_takeHand_0 : decode c_Ci_takeHand 0 = .ok (.aload_n 0, 1) := dc_of (x := (0, .aload_n 0, 1)) t0_Ci_takeHand_ok (i := 0) rfl
theorem d_Ci_takeHand_1 : decode c_Ci_takeHand 1 = .ok (.getfield 36, 3) := dc_of (x := (1, .getfield 36, 3)) t0_Ci_takeHand_ok (i := 1) rfl
theorem d_Ci_takeHand_4 : decode c_Ci_takeHand 4 = .ok (.getfield 145, 3) := dc_of (x := (4, .getfield 145, 3)) t0_Ci_takeHand_ok (i := 2) rfl
theorem d_Ci_takeHand_7 : decode c_Ci_takeHand 7 = .ok (.iload_n 1, 1) := dc_of (x := (7, .iload_n 1, 1)) t0_Ci_takeHand_ok (i := 3) rfl
theorem d_Ci_takeHand_8 : decode c_Ci_takeHand 8 = .ok (.iaload, 1) := dc_of (x := (8, .iaload, 1)) t0_Ci_takeHand_ok (i := 4) rfl
theorem d_Ci_takeHand_9 : decode c_Ci_takeHand 9 = .ok (.istore_n 2, 1) := dc_of (x := (9, .istore_n 2, 1)) t0_Ci_takeHand_ok (i := 5) rfl
theorem d_Ci_takeHand_10 : decode c_Ci_takeHand 10 = .ok (.aload_n 0, 1) := dc_of (x := (10, .aload_n 0, 1)) t0_Ci_takeHand_ok (i := 6) rfl
theorem d_Ci_takeHand_11 : decode c_Ci_takeHand 11 = .ok (.getfield 17, 3) := dc_of (x := (11, .getfield 17, 3)) t0_Ci_takeHand_ok (i := 7) rfl
theorem d_Ci_takeHand_14 : decode c_Ci_takeHand 14 = .ok (.iload_n 2, 1) := dc_of (x := (14, .iload_n 2, 1)) t0_Ci_takeHand_ok (i := 8) rfl
theorem d_Ci_takeHand_15 : decode c_Ci_takeHand 15 = .ok (.aaload, 1) := dc_of (x := (15, .aaload, 1)) t0_Ci_takeHand_ok (i := 9) rfl
theorem d_Ci_takeHand_16 : decode c_Ci_takeHand 16 = .ok (.astore_n 3, 1) := dc_of (x := (16, .astore_n 3, 1)) t0_Ci_takeHand_ok (i := 10) rfl
theorem d_Ci_takeHand_17 : decode c_Ci_takeHand 17 = .ok (.aload_n 0, 1) := dc_of (x := (17, .aload_n 0, 1)) t0_Ci_takeHand_ok (i := 11) rfl
theorem d_Ci_takeHand_18 : decode c_Ci_takeHand 18 = .ok (.getfield 36, 3) := dc_of (x := (18, .getfield 36, 3)) t0_Ci_takeHand_ok (i := 12) rfl
theorem d_Ci_takeHand_21 : decode c_Ci_takeHand 21 = .ok (.getfield 148, 3) := dc_of (x := (21, .getfield 148, 3)) t0_Ci_takeHand_ok (i := 13) rfl
theorem d_Ci_takeHand_24 : decode c_Ci_takeHand 24 = .ok (.iload_n 1, 1) := dc_of (x := (24, .iload_n 1, 1)) t0_Ci_takeHand_ok (i := 14) rfl
theorem d_Ci_takeHand_25 : decode c_Ci_takeHand 25 = .ok (.iaload, 1) := dc_of (x := (25, .iaload, 1)) t0_Ci_takeHand_ok (i := 15) rfl
theorem d_Ci_takeHand_26 : decode c_Ci_takeHand 26 = .ok (.lookupswitch 58 #[(0, 26), (1, 42)], 26) := dc_of (x := (26, .lookupswitch 58 #[(0, 26), (1, 42)], 26)) t0_Ci_takeHand_ok (i := 16) rfl
theorem d_Ci_takeHand_52 : decode c_Ci_takeHand 52 = .ok (.aload_n 3, 1) := dc_of (x := (52, .aload_n 3, 1)) t0_Ci_takeHand_ok (i := 17) rfl
theorem d_Ci_takeHand_53 : decode c_Ci_takeHand 53 = .ok (.aload_n 0, 1) := dc_of (x := (53, .aload_n 0, 1)) t0_Ci_takeHand_ok (i := 18) rfl
theorem d_Ci_takeHand_54 : decode c_Ci_takeHand 54 = .ok (.getfield 36, 3) := dc_of (x := (54, .getfield 36, 3)) t0_Ci_takeHand_ok (i := 19) rfl
theorem d_Ci_takeHand_57 : decode c_Ci_takeHand 57 = .ok (.getfield 151, 3) := dc_of (x := (57, .getfield 151, 3)) t0_Ci_takeHand_ok (i := 20) rfl
theorem d_Ci_takeHand_60 : decode c_Ci_takeHand 60 = .ok (.iload_n 1, 1) := dc_of (x := (60, .iload_n 1, 1)) t0_Ci_takeHand_ok (i := 21) rfl
theorem d_Ci_takeHand_61 : decode c_Ci_takeHand 61 = .ok (.iaload, 1) := dc_of (x := (61, .iaload, 1)) t0_Ci_takeHand_ok (i := 22) rfl
theorem d_Ci_takeHand_62 : decode c_Ci_takeHand 62 = .ok (.putfield 154, 3) := dc_of (x := (62, .putfield 154, 3)) t0_Ci_takeHand_ok (i := 23) rfl
theorem d_Ci_takeHand_65 : decode c_Ci_takeHand 65 = .ok (.goto 24, 3) := dc_of (x := (65, .goto 24, 3)) t0_Ci_takeHand_ok (i := 24) rfl
theorem d_Ci_takeHand_68 : decode c_Ci_takeHand 68 = .ok (.aload_n 3, 1) := dc_of (x := (68, .aload_n 3, 1)) t0_Ci_takeHand_ok (i := 25) rfl
theorem d_Ci_takeHand_69 : decode c_Ci_takeHand 69 = .ok (.aload_n 0, 1) := dc_of (x := (69, .aload_n 0, 1)) t0_Ci_takeHand_ok (i := 26) rfl
theorem d_Ci_takeHand_70 : decode c_Ci_takeHand 70 = .ok (.getfield 36, 3) := dc_of (x := (70, .getfield 36, 3)) t0_Ci_takeHand_ok (i := 27) rfl
theorem d_Ci_takeHand_73 : decode c_Ci_takeHand 73 = .ok (.getfield 151, 3) := dc_of (x := (73, .getfield 151, 3)) t0_Ci_takeHand_ok (i := 28) rfl
theorem d_Ci_takeHand_76 : decode c_Ci_takeHand 76 = .ok (.iload_n 1, 1) := dc_of (x := (76, .iload_n 1, 1)) t0_Ci_takeHand_ok (i := 29) rfl
theorem d_Ci_takeHand_77 : decode c_Ci_takeHand 77 = .ok (.iaload, 1) := dc_of (x := (77, .iaload, 1)) t0_Ci_takeHand_ok (i := 30) rfl
theorem d_Ci_takeHand_78 : decode c_Ci_takeHand 78 = .ok (.putfield 157, 3) := dc_of (x := (78, .putfield 157, 3)) t0_Ci_takeHand_ok (i := 31) rfl
theorem d_Ci_takeHand_81 : decode c_Ci_takeHand 81 = .ok (.goto 8, 3) := dc_of (x := (81, .goto 8, 3)) t0_Ci_takeHand_ok (i := 32) rfl
theorem d_Ci_takeHand_84 : decode c_Ci_takeHand 84 = .ok (.aload_n 3, 1) := dc_of (x := (84, .aload_n 3, 1)) t0_Ci_takeHand_ok (i := 33) rfl
theorem d_Ci_takeHand_85 : decode c_Ci_takeHand 85 = .ok (.iconst (-1), 1) := dc_of (x := (85, .iconst (-1), 1)) t0_Ci_takeHand_ok (i := 34) rfl
theorem d_Ci_takeHand_86 : decode c_Ci_takeHand 86 = .ok (.putfield 157, 3) := dc_of (x := (86, .putfield 157, 3)) t0_Ci_takeHand_ok (i := 35) rfl
theorem d_Ci_takeHand_89 : decode c_Ci_takeHand 89 = .ok (.aload_n 0, 1) := dc_of (x := (89, .aload_n 0, 1)) t0_Ci_takeHand_ok (i := 36) rfl
theorem d_Ci_takeHand_90 : decode c_Ci_takeHand 90 = .ok (.getfield 36, 3) := dc_of (x := (90, .getfield 36, 3)) t0_Ci_takeHand_ok (i := 37) rfl
theorem d_Ci_takeHand_93 : decode c_Ci_takeHand 93 = .ok (.iload_n 1, 1) := dc_of (x := (93, .iload_n 1, 1)) t0_Ci_takeHand_ok (i := 38) rfl
theorem d_Ci_takeHand_94 : decode c_Ci_takeHand 94 = .ok (.invokevirtual 160, 3) := dc_of (x := (94, .invokevirtual 160, 3)) t0_Ci_takeHand_ok (i := 39) rfl
theorem d_Ci_takeHand_97 : decode c_Ci_takeHand 97 = .ok (.iload_n 2, 1) := dc_of (x := (97, .iload_n 2, 1)) t0_Ci_takeHand_ok (i := 40) rfl
theorem d_Ci_takeHand_98 : decode c_Ci_takeHand 98 = .ok (.ireturn, 1) := dc_of (x := (98, .ireturn, 1)) t0_Ci_takeHand_ok (i := 41) rfl
def t0_Ci_refresh : List (Nat × Instr × Nat) := [(0, .aload_n 0, 1), (1, .getfield 17, 3), (4, .iload_n 1, 1), (5, .aaload, 1), (6, .astore_n 2, 1), (7, .aload_n 2, 1), (8, .getfield 163, 3), (11, .istore_n 3, 1), (12, .aload_n 2, 1), (13, .getfield 157, 3), (16, .iconst (-1), 1), (17, .if_icmp .eq 10, 3), (20, .aload_n 2, 1), (21, .getfield 157, 3), (24, .goto 8, 3), (27, .aload_n 0, 1), (28, .iload_n 1, 1), (29, .invokevirtual 166, 3), (32, .istore 4, 2), (34, .iload 4, 2), (36, .iload_n 3, 1), (37, .if_icmp .ne 4, 3), (40, .return_, 1), (41, .aload_n 2, 1), (42, .iload 4, 2), (44, .putfield 163, 3), (47, .aload_n 2, 1), (48, .dup, 1), (49, .getfield 169, 3), (52, .lconst 1, 1), (53, .ladd, 1), (54, .putfield 169, 3), (57, .aload_n 0, 1), (58, .getfield 43, 3), (61, .aload_n 0, 1), (62, .getfield 50, 3), (65, .iload_n 1, 1), (66, .iload 4, 2), (68, .invokevirtual 172, 3), (71, .iload_n 3, 1), (72, .ifCond .ne 13, 3), (75, .iload 4, 2), (77, .iconst 1, 1), (78, .if_icmp .ne 7, 3), (81, .iconst 1, 1), (82, .goto 4, 3), (85, .iconst 0, 1), (86, .istore 5, 2), (88, .iconst 0, 1), (89, .istore 6, 2), (91, .iload 6, 2), (93, .aload_n 0, 1), (94, .getfield 57, 3), (97, .if_icmp .ge 54, 3), (100, .aload_n 0, 1), (101, .getfield 23, 3), (104, .iload 6, 2), (106, .aaload, 1), (107, .iload_n 1, 1), (108, .iload 5, 2)]
theorem t0_Ci_refresh_ok : t0_Ci_refresh.all (fun x => decide (decode c_Ci_refresh x.1 = .ok x.2)) = true := by decide +kernel
def t1_Ci_refresh : List (Nat × Instr × Nat) := [(110, .invokevirtual 176, 3), (113, .ifCond .eq 32, 3), (116, .aload_n 0, 1), (117, .getfield 23, 3), (120, .iload 6, 2), (122, .aaload, 1), (123, .aload_n 0, 1), (124, .aload_n 0, 1), (125, .getfield 23, 3), (128, .iload 6, 2), (130, .aaload, 1), (131, .invokevirtual 91, 3), (134, .aload_n 0, 1), (135, .getfield 50, 3), (138, .aload_n 0, 1), (139, .getfield 9, 3), (142, .invokevirtual 95, 3), (145, .iinc 6 1, 3), (148, .goto (-57), 3), (151, .aload_n 0, 1), (152, .iload_n 1, 1), (153, .iload 5, 2), (155, .invokevirtual 180, 3), (158, .aload_n 2, 1), (159, .aload_n 0, 1), (160, .getfield 50, 3), (163, .putfield 184, 3), (166, .iload 5, 2), (168, .ifCond .eq 11, 3), (171, .aload_n 2, 1), (172, .aload_n 0, 1), (173, .getfield 50, 3), (176, .putfield 187, 3), (179, .return_, 1)]
theorem t1_Ci_refresh_ok : t1_Ci_refresh.all (fun x => decide (decode c_Ci_refresh x.1 = .ok x.2)) = true := by decide +kernel
theorem d_Ci_refresh_0 : decode c_Ci_refresh 0 = .ok (.aload_n 0, 1) := dc_of (x := (0, .aload_n 0, 1)) t0_Ci_refresh_ok (i := 0) rfl
theorem d_Ci_refresh_1 : decode c_Ci_refresh 1 = .ok (.getfield 17, 3) := dc_of (x := (1, .getfield 17, 3)) t0_Ci_refresh_ok (i := 1) rfl
theorem d_Ci_refresh_4 : decode c_Ci_refresh 4 = .ok (.iload_n 1, 1) := dc_of (x := (4, .iload_n 1, 1)) t0_Ci_refresh_ok (i := 2) rfl
theorem d_Ci_refresh_5 : decode c_Ci_refresh 5 = .ok (.aaload, 1) := dc_of (x := (5, .aaload, 1)) t0_Ci_refresh_ok (i := 3) rfl
theorem d_Ci_refresh_6 : decode c_Ci_refresh 6 = .ok (.astore_n 2, 1) := dc_of (x := (6, .astore_n 2, 1)) t0_Ci_refresh_ok (i := 4) rfl
theorem d_Ci_refresh_7 : decode c_Ci_refresh 7 = .ok (.aload_n 2, 1) := dc_of (x := (7, .aload_n 2, 1)) t0_Ci_refresh_ok (i := 5) rfl
theorem d_Ci_refresh_8 : decode c_Ci_refresh 8 = .ok (.getfield 163, 3) := dc_of (x := (8, .getfield 163, 3)) t0_Ci_refresh_ok (i := 6) rfl
theorem d_Ci_refresh_11 : decode c_Ci_refresh 11 = .ok (.istore_n 3, 1) := dc_of (x := (11, .istore_n 3, 1)) t0_Ci_refresh_ok (i := 7) rfl
theorem d_Ci_refresh_12 : decode c_Ci_refresh 12 = .ok (.aload_n 2, 1) := dc_of (x := (12, .aload_n 2, 1)) t0_Ci_refresh_ok (i := 8) rfl
theorem d_Ci_refresh_13 : decode c_Ci_refresh 13 = .ok (.getfield 157, 3) := dc_of (x := (13, .getfield 157, 3)) t0_Ci_refresh_ok (i := 9) rfl
theorem d_Ci_refresh_16 : decode c_Ci_refresh 16 = .ok (.iconst (-1), 1) := dc_of (x := (16, .iconst (-1), 1)) t0_Ci_refresh_ok (i := 10) rfl
theorem d_Ci_refresh_17 : decode c_Ci_refresh 17 = .ok (.if_icmp .eq 10, 3) := dc_of (x := (17, .if_icmp .eq 10, 3)) t0_Ci_refresh_ok (i := 11) rfl
theorem d_Ci_refresh_20 : decode c_Ci_refresh 20 = .ok (.aload_n 2, 1) := dc_of (x := (20, .aload_n 2, 1)) t0_Ci_refresh_ok (i := 12) rfl
theorem d_Ci_refresh_21 : decode c_Ci_refresh 21 = .ok (.getfield 157, 3) := dc_of (x := (21, .getfield 157, 3)) t0_Ci_refresh_ok (i := 13) rfl
theorem d_Ci_refresh_24 : decode c_Ci_refresh 24 = .ok (.goto 8, 3) := dc_of (x := (24, .goto 8, 3)) t0_Ci_refresh_ok (i := 14) rfl
theorem d_Ci_refresh_27 : decode c_Ci_refresh 27 = .ok (.aload_n 0, 1) := dc_of (x := (27, .aload_n 0, 1)) t0_Ci_refresh_ok (i := 15) rfl
theorem d_Ci_refresh_28 : decode c_Ci_refresh 28 = .ok (.iload_n 1, 1) := dc_of (x := (28, .iload_n 1, 1)) t0_Ci_refresh_ok (i := 16) rfl
theorem d_Ci_refresh_29 : decode c_Ci_refresh 29 = .ok (.invokevirtual 166, 3) := dc_of (x := (29, .invokevirtual 166, 3)) t0_Ci_refresh_ok (i := 17) rfl
theorem d_Ci_refresh_32 : decode c_Ci_refresh 32 = .ok (.istore 4, 2) := dc_of (x := (32, .istore 4, 2)) t0_Ci_refresh_ok (i := 18) rfl
theorem d_Ci_refresh_34 : decode c_Ci_refresh 34 = .ok (.iload 4, 2) := dc_of (x := (34, .iload 4, 2)) t0_Ci_refresh_ok (i := 19) rfl
theorem d_Ci_refresh_36 : decode c_Ci_refresh 36 = .ok (.iload_n 3, 1) := dc_of (x := (36, .iload_n 3, 1)) t0_Ci_refresh_ok (i := 20) rfl
theorem d_Ci_refresh_37 : decode c_Ci_refresh 37 = .ok (.if_icmp .ne 4, 3) := dc_of (x := (37, .if_icmp .ne 4, 3)) t0_Ci_refresh_ok (i := 21) rfl
theorem d_Ci_refresh_40 : decode c_Ci_refresh 40 = .ok (.return_, 1) := dc_of (x := (40, .return_, 1)) t0_Ci_refresh_ok (i := 22) rfl
theorem d_Ci_refresh_41 : decode c_Ci_refresh 41 = .ok (.aload_n 2, 1) := dc_of (x := (41, .aload_n 2, 1)) t0_Ci_refresh_ok (i := 23) rfl
theorem d_Ci_refresh_42 : decode c_Ci_refresh 42 = .ok (.iload 4, 2) := dc_of (x := (42, .iload 4, 2)) t0_Ci_refresh_ok (i := 24) rfl
theorem d_Ci_refresh_44 : decode c_Ci_refresh 44 = .ok (.putfield 163, 3) := dc_of (x := (44, .putfield 163, 3)) t0_Ci_refresh_ok (i := 25) rfl
theorem d_Ci_refresh_47 : decode c_Ci_refresh 47 = .ok (.aload_n 2, 1) := dc_of (x := (47, .aload_n 2, 1)) t0_Ci_refresh_ok (i := 26) rfl
theorem d_Ci_refresh_48 : decode c_Ci_refresh 48 = .ok (.dup, 1) := dc_of (x := (48, .dup, 1)) t0_Ci_refresh_ok (i := 27) rfl
theorem d_Ci_refresh_49 : decode c_Ci_refresh 49 = .ok (.getfield 169, 3) := dc_of (x := (49, .getfield 169, 3)) t0_Ci_refresh_ok (i := 28) rfl
theorem d_Ci_refresh_52 : decode c_Ci_refresh 52 = .ok (.lconst 1, 1) := dc_of (x := (52, .lconst 1, 1)) t0_Ci_refresh_ok (i := 29) rfl
theorem d_Ci_refresh_53 : decode c_Ci_refresh 53 = .ok (.ladd, 1) := dc_of (x := (53, .ladd, 1)) t0_Ci_refresh_ok (i := 30) rfl
theorem d_Ci_refresh_54 : decode c_Ci_refresh 54 = .ok (.putfield 169, 3) := dc_of (x := (54, .putfield 169, 3)) t0_Ci_refresh_ok (i := 31) rfl
theorem d_Ci_refresh_57 : decode c_Ci_refresh 57 = .ok (.aload_n 0, 1) := dc_of (x := (57, .aload_n 0, 1)) t0_Ci_refresh_ok (i := 32) rfl
theorem d_Ci_refresh_58 : decode c_Ci_refresh 58 = .ok (.getfield 43, 3) := dc_of (x := (58, .getfield 43, 3)) t0_Ci_refresh_ok (i := 33) rfl
theorem d_Ci_refresh_61 : decode c_Ci_refresh 61 = .ok (.aload_n 0, 1) := dc_of (x := (61, .aload_n 0, 1)) t0_Ci_refresh_ok (i := 34) rfl
theorem d_Ci_refresh_62 : decode c_Ci_refresh 62 = .ok (.getfield 50, 3) := dc_of (x := (62, .getfield 50, 3)) t0_Ci_refresh_ok (i := 35) rfl
theorem d_Ci_refresh_65 : decode c_Ci_refresh 65 = .ok (.iload_n 1, 1) := dc_of (x := (65, .iload_n 1, 1)) t0_Ci_refresh_ok (i := 36) rfl
theorem d_Ci_refresh_66 : decode c_Ci_refresh 66 = .ok (.iload 4, 2) := dc_of (x := (66, .iload 4, 2)) t0_Ci_refresh_ok (i := 37) rfl
theorem d_Ci_refresh_68 : decode c_Ci_refresh 68 = .ok (.invokevirtual 172, 3) := dc_of (x := (68, .invokevirtual 172, 3)) t0_Ci_refresh_ok (i := 38) rfl
theorem d_Ci_refresh_71 : decode c_Ci_refresh 71 = .ok (.iload_n 3, 1) := dc_of (x := (71, .iload_n 3, 1)) t0_Ci_refresh_ok (i := 39) rfl
theorem d_Ci_refresh_72 : decode c_Ci_refresh 72 = .ok (.ifCond .ne 13, 3) := dc_of (x := (72, .ifCond .ne 13, 3)) t0_Ci_refresh_ok (i := 40) rfl
theorem d_Ci_refresh_75 : decode c_Ci_refresh 75 = .ok (.iload 4, 2) := dc_of (x := (75, .iload 4, 2)) t0_Ci_refresh_ok (i := 41) rfl
theorem d_Ci_refresh_77 : decode c_Ci_refresh 77 = .ok (.iconst 1, 1) := dc_of (x := (77, .iconst 1, 1)) t0_Ci_refresh_ok (i := 42) rfl
theorem d_Ci_refresh_78 : decode c_Ci_refresh 78 = .ok (.if_icmp .ne 7, 3) := dc_of (x := (78, .if_icmp .ne 7, 3)) t0_Ci_refresh_ok (i := 43) rfl
theorem d_Ci_refresh_81 : decode c_Ci_refresh 81 = .ok (.iconst 1, 1) := dc_of (x := (81, .iconst 1, 1)) t0_Ci_refresh_ok (i := 44) rfl
theorem d_Ci_refresh_82 : decode c_Ci_refresh 82 = .ok (.goto 4, 3) := dc_of (x := (82, .goto 4, 3)) t0_Ci_refresh_ok (i := 45) rfl
theorem d_Ci_refresh_85 : decode c_Ci_refresh 85 = .ok (.iconst 0, 1) := dc_of (x := (85, .iconst 0, 1)) t0_Ci_refresh_ok (i := 46) rfl
theorem d_Ci_refresh_86 : decode c_Ci_refresh 86 = .ok (.istore 5, 2) := dc_of (x := (86, .istore 5, 2)) t0_Ci_refresh_ok (i := 47) rfl
theorem d_Ci_refresh_88 : decode c_Ci_refresh 88 = .ok (.iconst 0, 1) := dc_of (x := (88, .iconst 0, 1)) t0_Ci_refresh_ok (i := 48) rfl
theorem d_Ci_refresh_89 : decode c_Ci_refresh 89 = .ok (.istore 6, 2) := dc_of (x := (89, .istore 6, 2)) t0_Ci_refresh_ok (i := 49) rfl
theorem d_Ci_refresh_91 : decode c_Ci_refresh 91 = .ok (.iload 6, 2) := dc_of (x := (91, .iload 6, 2)) t0_Ci_refresh_ok (i := 50) rfl
theorem d_Ci_refresh_93 : decode c_Ci_refresh 93 = .ok (.aload_n 0, 1) := dc_of (x := (93, .aload_n 0, 1)) t0_Ci_refresh_ok (i := 51) rfl
theorem d_Ci_refresh_94 : decode c_Ci_refresh 94 = .ok (.getfield 57, 3) := dc_of (x := (94, .getfield 57, 3)) t0_Ci_refresh_ok (i := 52) rfl
theorem d_Ci_refresh_97 : decode c_Ci_refresh 97 = .ok (.if_icmp .ge 54, 3) := dc_of (x := (97, .if_icmp .ge 54, 3)) t0_Ci_refresh_ok (i := 53) rfl
theorem d_Ci_refresh_100 : decode c_Ci_refresh 100 = .ok (.aload_n 0, 1) := dc_of (x := (100, .aload_n 0, 1)) t0_Ci_refresh_ok (i := 54) rfl
theorem d_Ci_refresh_101 : decode c_Ci_refresh 101 = .ok (.getfield 23, 3) := dc_of (x := (101, .getfield 23, 3)) t0_Ci_refresh_ok (i := 55) rfl
theorem d_Ci_refresh_104 : decode c_Ci_refresh 104 = .ok (.iload 6, 2) := dc_of (x := (104, .iload 6, 2)) t0_Ci_refresh_ok (i := 56) rfl
theorem d_Ci_refresh_106 : decode c_Ci_refresh 106 = .ok (.aaload, 1) := dc_of (x := (106, .aaload, 1)) t0_Ci_refresh_ok (i := 57) rfl
theorem d_Ci_refresh_107 : decode c_Ci_refresh 107 = .ok (.iload_n 1, 1) := dc_of (x := (107, .iload_n 1, 1)) t0_Ci_refresh_ok (i := 58) rfl
theorem d_Ci_refresh_108 : decode c_Ci_refresh 108 = .ok (.iload 5, 2) := dc_of (x := (108, .iload 5, 2)) t0_Ci_refresh_ok (i := 59) rfl
theorem d_Ci_refresh_110 : decode c_Ci_refresh 110 = .ok (.invokevirtual 176, 3) := dc_of (x := (110, .invokevirtual 176, 3)) t1_Ci_refresh_ok (i := 0) rfl
theorem d_Ci_refresh_113 : decode c_Ci_refresh 113 = .ok (.ifCond .eq 32, 3) := dc_of (x := (113, .ifCond .eq 32, 3)) t1_Ci_refresh_ok (i := 1) rfl
theorem d_Ci_refresh_116 : decode c_Ci_refresh 116 = .ok (.aload_n 0, 1) := dc_of (x := (116, .aload_n 0, 1)) t1_Ci_refresh_ok (i := 2) rfl
theorem d_Ci_refresh_117 : decode c_Ci_refresh 117 = .ok (.getfield 23, 3) := dc_of (x := (117, .getfield 23, 3)) t1_Ci_refresh_ok (i := 3) rfl
theorem d_Ci_refresh_120 : decode c_Ci_refresh 120 = .ok (.iload 6, 2) := dc_of (x := (120, .iload 6, 2)) t1_Ci_refresh_ok (i := 4) rfl
theorem d_Ci_refresh_122 : decode c_Ci_refresh 122 = .ok (.aaload, 1) := dc_of (x := (122, .aaload, 1)) t1_Ci_refresh_ok (i := 5) rfl
theorem d_Ci_refresh_123 : decode c_Ci_refresh 123 = .ok (.aload_n 0, 1) := dc_of (x := (123, .aload_n 0, 1)) t1_Ci_refresh_ok (i := 6) rfl
theorem d_Ci_refresh_124 : decode c_Ci_refresh 124 = .ok (.aload_n 0, 1) := dc_of (x := (124, .aload_n 0, 1)) t1_Ci_refresh_ok (i := 7) rfl
theorem d_Ci_refresh_125 : decode c_Ci_refresh 125 = .ok (.getfield 23, 3) := dc_of (x := (125, .getfield 23, 3)) t1_Ci_refresh_ok (i := 8) rfl
theorem d_Ci_refresh_128 : decode c_Ci_refresh 128 = .ok (.iload 6, 2) := dc_of (x := (128, .iload 6, 2)) t1_Ci_refresh_ok (i := 9) rfl
theorem d_Ci_refresh_130 : decode c_Ci_refresh 130 = .ok (.aaload, 1) := dc_of (x := (130, .aaload, 1)) t1_Ci_refresh_ok (i := 10) rfl
theorem d_Ci_refresh_131 : decode c_Ci_refresh 131 = .ok (.invokevirtual 91, 3) := dc_of (x := (131, .invokevirtual 91, 3)) t1_Ci_refresh_ok (i := 11) rfl
theorem d_Ci_refresh_134 : decode c_Ci_refresh 134 = .ok (.aload_n 0, 1) := dc_of (x := (134, .aload_n 0, 1)) t1_Ci_refresh_ok (i := 12) rfl
theorem d_Ci_refresh_135 : decode c_Ci_refresh 135 = .ok (.getfield 50, 3) := dc_of (x := (135, .getfield 50, 3)) t1_Ci_refresh_ok (i := 13) rfl
theorem d_Ci_refresh_138 : decode c_Ci_refresh 138 = .ok (.aload_n 0, 1) := dc_of (x := (138, .aload_n 0, 1)) t1_Ci_refresh_ok (i := 14) rfl
theorem d_Ci_refresh_139 : decode c_Ci_refresh 139 = .ok (.getfield 9, 3) := dc_of (x := (139, .getfield 9, 3)) t1_Ci_refresh_ok (i := 15) rfl
theorem d_Ci_refresh_142 : decode c_Ci_refresh 142 = .ok (.invokevirtual 95, 3) := dc_of (x := (142, .invokevirtual 95, 3)) t1_Ci_refresh_ok (i := 16) rfl
theorem d_Ci_refresh_145 : decode c_Ci_refresh 145 = .ok (.iinc 6 1, 3) := dc_of (x := (145, .iinc 6 1, 3)) t1_Ci_refresh_ok (i := 17) rfl
theorem d_Ci_refresh_148 : decode c_Ci_refresh 148 = .ok (.goto (-57), 3) := dc_of (x := (148, .goto (-57), 3)) t1_Ci_refresh_ok (i := 18) rfl
theorem d_Ci_refresh_151 : decode c_Ci_refresh 151 = .ok (.aload_n 0, 1) := dc_of (x := (151, .aload_n 0, 1)) t1_Ci_refresh_ok (i := 19) rfl
theorem d_Ci_refresh_152 : decode c_Ci_refresh 152 = .ok (.iload_n 1, 1) := dc_of (x := (152, .iload_n 1, 1)) t1_Ci_refresh_ok (i := 20) rfl
theorem d_Ci_refresh_153 : decode c_Ci_refresh 153 = .ok (.iload 5, 2) := dc_of (x := (153, .iload 5, 2)) t1_Ci_refresh_ok (i := 21) rfl
theorem d_Ci_refresh_155 : decode c_Ci_refresh 155 = .ok (.invokevirtual 180, 3) := dc_of (x := (155, .invokevirtual 180, 3)) t1_Ci_refresh_ok (i := 22) rfl
theorem d_Ci_refresh_158 : decode c_Ci_refresh 158 = .ok (.aload_n 2, 1) := dc_of (x := (158, .aload_n 2, 1)) t1_Ci_refresh_ok (i := 23) rfl
theorem d_Ci_refresh_159 : decode c_Ci_refresh 159 = .ok (.aload_n 0, 1) := dc_of (x := (159, .aload_n 0, 1)) t1_Ci_refresh_ok (i := 24) rfl
theorem d_Ci_refresh_160 : decode c_Ci_refresh 160 = .ok (.getfield 50, 3) := dc_of (x := (160, .getfield 50, 3)) t1_Ci_refresh_ok (i := 25) rfl
theorem d_Ci_refresh_163 : decode c_Ci_refresh 163 = .ok (.putfield 184, 3) := dc_of (x := (163, .putfield 184, 3)) t1_Ci_refresh_ok (i := 26) rfl
theorem d_Ci_refresh_166 : decode c_Ci_refresh 166 = .ok (.iload 5, 2) := dc_of (x := (166, .iload 5, 2)) t1_Ci_refresh_ok (i := 27) rfl
theorem d_Ci_refresh_168 : decode c_Ci_refresh 168 = .ok (.ifCond .eq 11, 3) := dc_of (x := (168, .ifCond .eq 11, 3)) t1_Ci_refresh_ok (i := 28) rfl
theorem d_Ci_refresh_171 : decode c_Ci_refresh 171 = .ok (.aload_n 2, 1) := dc_of (x := (171, .aload_n 2, 1)) t1_Ci_refresh_ok (i := 29) rfl
theorem d_Ci_refresh_172 : decode c_Ci_refresh 172 = .ok (.aload_n 0, 1) := dc_of (x := (172, .aload_n 0, 1)) t1_Ci_refresh_ok (i := 30) rfl
theorem d_Ci_refresh_173 : decode c_Ci_refresh 173 = .ok (.getfield 50, 3) := dc_of (x := (173, .getfield 50, 3)) t1_Ci_refresh_ok (i := 31) rfl
theorem d_Ci_refresh_176 : decode c_Ci_refresh 176 = .ok (.putfield 187, 3) := dc_of (x := (176, .putfield 187, 3)) t1_Ci_refresh_ok (i := 32) rfl
theorem d_Ci_refresh_179 : decode c_Ci_refresh 179 = .ok (.return_, 1) := dc_of (x := (179, .return_, 1)) t1_Ci_refresh_ok (i := 33) rfl
def t0_Ci_driven : List (Nat × Instr × Nat) := [(0, .aload_n 0, 1), (1, .getfield 17, 3), (4, .iload_n 1, 1), (5, .aaload, 1), (6, .getfield 154, 3), (9, .istore_n 2, 1), (10, .iconst 0, 1), (11, .istore_n 3, 1), (12, .iload_n 3, 1), (13, .aload_n 0, 1), (14, .getfield 57, 3), (17, .if_icmp .ge 57, 3), (20, .aload_n 0, 1), (21, .getfield 23, 3), (24, .iload_n 3, 1), (25, .aaload, 1), (26, .getfield 103, 3), (29, .istore 4, 2), (31, .aload_n 0, 1), (32, .getfield 23, 3), (35, .iload_n 3, 1), (36, .aaload, 1), (37, .getfield 130, 3), (40, .iload_n 1, 1), (41, .if_icmp .ne 27, 3), (44, .iload 4, 2), (46, .iconst 3, 1), (47, .if_icmp .eq 21, 3), (50, .iload 4, 2), (52, .iload_n 2, 1), (53, .if_icmp .eq 15, 3), (56, .iload_n 2, 1), (57, .iconst 3, 1), (58, .if_icmp .ne 8, 3), (61, .iload 4, 2), (63, .goto 4, 3), (66, .iconst 2, 1), (67, .istore_n 2, 1), (68, .iinc 3 1, 3), (71, .goto (-59), 3), (74, .iload_n 2, 1), (75, .ireturn, 1)]
theorem t0_Ci_driven_ok : t0_Ci_driven.all (fun x => decide (decode c_Ci_driven x.1 = .ok x.2)) = true := by decide +kernel
theorem d_Ci_driven_0 : decode c_Ci_driven 0 = .ok (.aload_n 0, 1) := dc_of (x := (0, .aload_n 0, 1)) t0_Ci_driven_ok (i := 0) rfl
theorem d_Ci_driven_1 : decode c_Ci_driven 1 = .ok (.getfield 17, 3) := dc_of (x := (1, .getfield 17, 3)) t0_Ci_driven_ok (i := 1) rfl
theorem d_Ci_driven_4 : decode c_Ci_driven 4 = .ok (.iload_n 1, 1) := dc_of (x := (4, .iload_n 1, 1)) t0_Ci_driven_ok (i := 2) rfl
theorem d_Ci_driven_5 : decode c_Ci_driven 5 = .ok (.aaload, 1) := dc_of (x := (5, .aaload, 1)) t0_Ci_driven_ok (i := 3) rfl
theorem d_Ci_driven_6 : decode c_Ci_driven 6 = .ok (.getfield 154, 3) := dc_of (x := (6, .getfield 154, 3)) t0_Ci_driven_ok (i := 4) rfl
theorem d_Ci_driven_9 : decode c_Ci_driven 9 = .ok (.istore_n 2, 1) := dc_of (x := (9, .istore_n 2, 1)) t0_Ci_driven_ok (i := 5) rfl
theorem d_Ci_driven_10 : decode c_Ci_driven 10 = .ok (.iconst 0, 1) := dc_of (x := (10, .iconst 0, 1)) t0_Ci_driven_ok (i := 6) rfl
theorem d_Ci_driven_11 : decode c_Ci_driven 11 = .ok (.istore_n 3, 1) := dc_of (x := (11, .istore_n 3, 1)) t0_Ci_driven_ok (i := 7) rfl
theorem d_Ci_driven_12 : decode c_Ci_driven 12 = .ok (.iload_n 3, 1) := dc_of (x := (12, .iload_n 3, 1)) t0_Ci_driven_ok (i := 8) rfl
theorem d_Ci_driven_13 : decode c_Ci_driven 13 = .ok (.aload_n 0, 1) := dc_of (x := (13, .aload_n 0, 1)) t0_Ci_driven_ok (i := 9) rfl
theorem d_Ci_driven_14 : decode c_Ci_driven 14 = .ok (.getfield 57, 3) := dc_of (x := (14, .getfield 57, 3)) t0_Ci_driven_ok (i := 10) rfl
theorem d_Ci_driven_17 : decode c_Ci_driven 17 = .ok (.if_icmp .ge 57, 3) := dc_of (x := (17, .if_icmp .ge 57, 3)) t0_Ci_driven_ok (i := 11) rfl
theorem d_Ci_driven_20 : decode c_Ci_driven 20 = .ok (.aload_n 0, 1) := dc_of (x := (20, .aload_n 0, 1)) t0_Ci_driven_ok (i := 12) rfl
theorem d_Ci_driven_21 : decode c_Ci_driven 21 = .ok (.getfield 23, 3) := dc_of (x := (21, .getfield 23, 3)) t0_Ci_driven_ok (i := 13) rfl
theorem d_Ci_driven_24 : decode c_Ci_driven 24 = .ok (.iload_n 3, 1) := dc_of (x := (24, .iload_n 3, 1)) t0_Ci_driven_ok (i := 14) rfl
theorem d_Ci_driven_25 : decode c_Ci_driven 25 = .ok (.aaload, 1) := dc_of (x := (25, .aaload, 1)) t0_Ci_driven_ok (i := 15) rfl
theorem d_Ci_driven_26 : decode c_Ci_driven 26 = .ok (.getfield 103, 3) := dc_of (x := (26, .getfield 103, 3)) t0_Ci_driven_ok (i := 16) rfl
theorem d_Ci_driven_29 : decode c_Ci_driven 29 = .ok (.istore 4, 2) := dc_of (x := (29, .istore 4, 2)) t0_Ci_driven_ok (i := 17) rfl
theorem d_Ci_driven_31 : decode c_Ci_driven 31 = .ok (.aload_n 0, 1) := dc_of (x := (31, .aload_n 0, 1)) t0_Ci_driven_ok (i := 18) rfl
theorem d_Ci_driven_32 : decode c_Ci_driven 32 = .ok (.getfield 23, 3) := dc_of (x := (32, .getfield 23, 3)) t0_Ci_driven_ok (i := 19) rfl
theorem d_Ci_driven_35 : decode c_Ci_driven 35 = .ok (.iload_n 3, 1) := dc_of (x := (35, .iload_n 3, 1)) t0_Ci_driven_ok (i := 20) rfl
theorem d_Ci_driven_36 : decode c_Ci_driven 36 = .ok (.aaload, 1) := dc_of (x := (36, .aaload, 1)) t0_Ci_driven_ok (i := 21) rfl
theorem d_Ci_driven_37 : decode c_Ci_driven 37 = .ok (.getfield 130, 3) := dc_of (x := (37, .getfield 130, 3)) t0_Ci_driven_ok (i := 22) rfl
theorem d_Ci_driven_40 : decode c_Ci_driven 40 = .ok (.iload_n 1, 1) := dc_of (x := (40, .iload_n 1, 1)) t0_Ci_driven_ok (i := 23) rfl
theorem d_Ci_driven_41 : decode c_Ci_driven 41 = .ok (.if_icmp .ne 27, 3) := dc_of (x := (41, .if_icmp .ne 27, 3)) t0_Ci_driven_ok (i := 24) rfl
theorem d_Ci_driven_44 : decode c_Ci_driven 44 = .ok (.iload 4, 2) := dc_of (x := (44, .iload 4, 2)) t0_Ci_driven_ok (i := 25) rfl
theorem d_Ci_driven_46 : decode c_Ci_driven 46 = .ok (.iconst 3, 1) := dc_of (x := (46, .iconst 3, 1)) t0_Ci_driven_ok (i := 26) rfl
theorem d_Ci_driven_47 : decode c_Ci_driven 47 = .ok (.if_icmp .eq 21, 3) := dc_of (x := (47, .if_icmp .eq 21, 3)) t0_Ci_driven_ok (i := 27) rfl
theorem d_Ci_driven_50 : decode c_Ci_driven 50 = .ok (.iload 4, 2) := dc_of (x := (50, .iload 4, 2)) t0_Ci_driven_ok (i := 28) rfl
theorem d_Ci_driven_52 : decode c_Ci_driven 52 = .ok (.iload_n 2, 1) := dc_of (x := (52, .iload_n 2, 1)) t0_Ci_driven_ok (i := 29) rfl
theorem d_Ci_driven_53 : decode c_Ci_driven 53 = .ok (.if_icmp .eq 15, 3) := dc_of (x := (53, .if_icmp .eq 15, 3)) t0_Ci_driven_ok (i := 30) rfl
theorem d_Ci_driven_56 : decode c_Ci_driven 56 = .ok (.iload_n 2, 1) := dc_of (x := (56, .iload_n 2, 1)) t0_Ci_driven_ok (i := 31) rfl
theorem d_Ci_driven_57 : decode c_Ci_driven 57 = .ok (.iconst 3, 1) := dc_of (x := (57, .iconst 3, 1)) t0_Ci_driven_ok (i := 32) rfl
theorem d_Ci_driven_58 : decode c_Ci_driven 58 = .ok (.if_icmp .ne 8, 3) := dc_of (x := (58, .if_icmp .ne 8, 3)) t0_Ci_driven_ok (i := 33) rfl
theorem d_Ci_driven_61 : decode c_Ci_driven 61 = .ok (.iload 4, 2) := dc_of (x := (61, .iload 4, 2)) t0_Ci_driven_ok (i := 34) rfl
theorem d_Ci_driven_63 : decode c_Ci_driven 63 = .ok (.goto 4, 3) := dc_of (x := (63, .goto 4, 3)) t0_Ci_driven_ok (i := 35) rfl
theorem d_Ci_driven_66 : decode c_Ci_driven 66 = .ok (.iconst 2, 1) := dc_of (x := (66, .iconst 2, 1)) t0_Ci_driven_ok (i := 36) rfl
theorem d_Ci_driven_67 : decode c_Ci_driven 67 = .ok (.istore_n 2, 1) := dc_of (x := (67, .istore_n 2, 1)) t0_Ci_driven_ok (i := 37) rfl
theorem d_Ci_driven_68 : decode c_Ci_driven 68 = .ok (.iinc 3 1, 3) := dc_of (x := (68, .iinc 3 1, 3)) t0_Ci_driven_ok (i := 38) rfl
theorem d_Ci_driven_71 : decode c_Ci_driven 71 = .ok (.goto (-59), 3) := dc_of (x := (71, .goto (-59), 3)) t0_Ci_driven_ok (i := 39) rfl
theorem d_Ci_driven_74 : decode c_Ci_driven 74 = .ok (.iload_n 2, 1) := dc_of (x := (74, .iload_n 2, 1)) t0_Ci_driven_ok (i := 40) rfl
theorem d_Ci_driven_75 : decode c_Ci_driven 75 = .ok (.ireturn, 1) := dc_of (x := (75, .ireturn, 1)) t0_Ci_driven_ok (i := 41) rfl
def t0_Ci_given : List (Nat × Instr × Nat) := [(0, .aload_n 1, 1), (1, .aload_n 0, 1), (2, .getfield 17, 3), (5, .aload_n 1, 1), (6, .getfield 190, 3), (9, .aaload, 1), (10, .getfield 163, 3), (13, .aload_n 0, 1), (14, .getfield 17, 3), (17, .aload_n 1, 1), (18, .getfield 193, 3), (21, .aaload, 1), (22, .getfield 163, 3), (25, .invokevirtual 196, 3), (28, .ireturn, 1)]
theorem t0_Ci_given_ok : t0_Ci_given.all (fun x => decide (decode c_Ci_given x.1 = .ok x.2)) = true := by decide +kernel
theorem d_Ci_given_0 : decode c_Ci_given 0 = .ok (.aload_n 1, 1) := dc_of (x := (0, .aload_n 1, 1)) t0_Ci_given_ok (i := 0) rfl
theorem d_Ci_given_1 : decode c_Ci_given 1 = .ok (.aload_n 0, 1) := dc_of (x := (1, .aload_n 0, 1)) t0_Ci_given_ok (i := 1) rfl
theorem d_Ci_given_2 : decode c_Ci_given 2 = .ok (.getfield 17, 3) := dc_of (x := (2, .getfield 17, 3)) t0_Ci_given_ok (i := 2) rfl
theorem d_Ci_given_5 : decode c_Ci_given 5 = .ok (.aload_n 1, 1) := dc_of (x := (5, .aload_n 1, 1)) t0_Ci_given_ok (i := 3) rfl
theorem d_Ci_given_6 : decode c_Ci_given 6 = .ok (.getfield 190, 3) := dc_of (x := (6, .getfield 190, 3)) t0_Ci_given_ok (i := 4) rfl
theorem d_Ci_given_9 : decode c_Ci_given 9 = .ok (.aaload, 1) := dc_of (x := (9, .aaload, 1)) t0_Ci_given_ok (i := 5) rfl
theorem d_Ci_given_10 : decode c_Ci_given 10 = .ok (.getfield 163, 3) := dc_of (x := (10, .getfield 163, 3)) t0_Ci_given_ok (i := 6) rfl
theorem d_Ci_given_13 : decode c_Ci_given 13 = .ok (.aload_n 0, 1) := dc_of (x := (13, .aload_n 0, 1)) t0_Ci_given_ok (i := 7) rfl
theorem d_Ci_given_14 : decode c_Ci_given 14 = .ok (.getfield 17, 3) := dc_of (x := (14, .getfield 17, 3)) t0_Ci_given_ok (i := 8) rfl
theorem d_Ci_given_17 : decode c_Ci_given 17 = .ok (.aload_n 1, 1) := dc_of (x := (17, .aload_n 1, 1)) t0_Ci_given_ok (i := 9) rfl
theorem d_Ci_given_18 : decode c_Ci_given 18 = .ok (.getfield 193, 3) := dc_of (x := (18, .getfield 193, 3)) t0_Ci_given_ok (i := 10) rfl
theorem d_Ci_given_21 : decode c_Ci_given 21 = .ok (.aaload, 1) := dc_of (x := (21, .aaload, 1)) t0_Ci_given_ok (i := 11) rfl
theorem d_Ci_given_22 : decode c_Ci_given 22 = .ok (.getfield 163, 3) := dc_of (x := (22, .getfield 163, 3)) t0_Ci_given_ok (i := 12) rfl
theorem d_Ci_given_25 : decode c_Ci_given 25 = .ok (.invokevirtual 196, 3) := dc_of (x := (25, .invokevirtual 196, 3)) t0_Ci_given_ok (i := 13) rfl
theorem d_Ci_given_28 : decode c_Ci_given 28 = .ok (.ireturn, 1) := dc_of (x := (28, .ireturn, 1)) t0_Ci_given_ok (i := 14) rfl
def t0_Ci_tryChecks : List (Nat × Instr × Nat) := [(0, .iconst 0, 1), (1, .istore_n 3, 1), (2, .iload_n 3, 1), (3, .aload_n 0, 1), (4, .getfield 60, 3), (7, .if_icmp .ge 45, 3), (10, .aload_n 0, 1), (11, .getfield 29, 3), (14, .iload_n 3, 1), (15, .aaload, 1), (16, .astore 4, 2), (18, .aload_n 0, 1), (19, .aload 4, 2), (21, .iload_n 1, 1), (22, .iload_n 2, 1), (23, .invokevirtual 200, 3), (26, .ifCond .eq 20, 3), (29, .aload 4, 2), (31, .dup, 1), (32, .getfield 204, 3), (35, .iconst 1, 1), (36, .iadd, 1), (37, .putfield 204, 3), (40, .aload_n 0, 1), (41, .aload 4, 2), (43, .invokevirtual 206, 3), (46, .iinc 3 1, 3), (49, .goto (-47), 3), (52, .return_, 1)]
theorem t0_Ci_tryChecks_ok : t0_Ci_tryChecks.all (fun x => decide (decode c_Ci_tryChecks x.1 = .ok x.2)) = true := by decide +kernel
theorem d_Ci_tryChecks_0 : decode c_Ci_tryChecks 0 = .ok (.iconst 0, 1) := dc_of (x := (0, .iconst 0, 1)) t0_Ci_tryChecks_ok (i := 0) rfl
theorem d_Ci_tryChecks_1 : decode c_Ci_tryChecks 1 = .ok (.istore_n 3, 1) := dc_of (x := (1, .istore_n 3, 1)) t0_Ci_tryChecks_ok (i := 1) rfl
theorem d_Ci_tryChecks_2 : decode c_Ci_tryChecks 2 = .ok (.iload_n 3, 1) := dc_of (x := (2, .iload_n 3, 1)) t0_Ci_tryChecks_ok (i := 2) rfl
theorem d_Ci_tryChecks_3 : decode c_Ci_tryChecks 3 = .ok (.aload_n 0, 1) := dc_of (x := (3, .aload_n 0, 1)) t0_Ci_tryChecks_ok (i := 3) rfl
theorem d_Ci_tryChecks_4 : decode c_Ci_tryChecks 4 = .ok (.getfield 60, 3) := dc_of (x := (4, .getfield 60, 3)) t0_Ci_tryChecks_ok (i := 4) rfl
theorem d_Ci_tryChecks_7 : decode c_Ci_tryChecks 7 = .ok (.if_icmp .ge 45, 3) := dc_of (x := (7, .if_icmp .ge 45, 3)) t0_Ci_tryChecks_ok (i := 5) rfl
theorem d_Ci_tryChecks_10 : decode c_Ci_tryChecks 10 = .ok (.aload_n 0, 1) := dc_of (x := (10, .aload_n 0, 1)) t0_Ci_tryChecks_ok (i := 6) rfl
theorem d_Ci_tryChecks_11 : decode c_Ci_tryChecks 11 = .ok (.getfield 29, 3) := dc_of (x := (11, .getfield 29, 3)) t0_Ci_tryChecks_ok (i := 7) rfl
theorem d_Ci_tryChecks_14 : decode c_Ci_tryChecks 14 = .ok (.iload_n 3, 1) := dc_of (x := (14, .iload_n 3, 1)) t0_Ci_tryChecks_ok (i := 8) rfl
theorem d_Ci_tryChecks_15 : decode c_Ci_tryChecks 15 = .ok (.aaload, 1) := dc_of (x := (15, .aaload, 1)) t0_Ci_tryChecks_ok (i := 9) rfl
theorem d_Ci_tryChecks_16 : decode c_Ci_tryChecks 16 = .ok (.astore 4, 2) := dc_of (x := (16, .astore 4, 2)) t0_Ci_tryChecks_ok (i := 10) rfl
theorem d_Ci_tryChecks_18 : decode c_Ci_tryChecks 18 = .ok (.aload_n 0, 1) := dc_of (x := (18, .aload_n 0, 1)) t0_Ci_tryChecks_ok (i := 11) rfl
theorem d_Ci_tryChecks_19 : decode c_Ci_tryChecks 19 = .ok (.aload 4, 2) := dc_of (x := (19, .aload 4, 2)) t0_Ci_tryChecks_ok (i := 12) rfl
theorem d_Ci_tryChecks_21 : decode c_Ci_tryChecks 21 = .ok (.iload_n 1, 1) := dc_of (x := (21, .iload_n 1, 1)) t0_Ci_tryChecks_ok (i := 13) rfl
theorem d_Ci_tryChecks_22 : decode c_Ci_tryChecks 22 = .ok (.iload_n 2, 1) := dc_of (x := (22, .iload_n 2, 1)) t0_Ci_tryChecks_ok (i := 14) rfl
theorem d_Ci_tryChecks_23 : decode c_Ci_tryChecks 23 = .ok (.invokevirtual 200, 3) := dc_of (x := (23, .invokevirtual 200, 3)) t0_Ci_tryChecks_ok (i := 15) rfl
theorem d_Ci_tryChecks_26 : decode c_Ci_tryChecks 26 = .ok (.ifCond .eq 20, 3) := dc_of (x := (26, .ifCond .eq 20, 3)) t0_Ci_tryChecks_ok (i := 16) rfl
theorem d_Ci_tryChecks_29 : decode c_Ci_tryChecks 29 = .ok (.aload 4, 2) := dc_of (x := (29, .aload 4, 2)) t0_Ci_tryChecks_ok (i := 17) rfl
theorem d_Ci_tryChecks_31 : decode c_Ci_tryChecks 31 = .ok (.dup, 1) := dc_of (x := (31, .dup, 1)) t0_Ci_tryChecks_ok (i := 18) rfl
theorem d_Ci_tryChecks_32 : decode c_Ci_tryChecks 32 = .ok (.getfield 204, 3) := dc_of (x := (32, .getfield 204, 3)) t0_Ci_tryChecks_ok (i := 19) rfl
theorem d_Ci_tryChecks_35 : decode c_Ci_tryChecks 35 = .ok (.iconst 1, 1) := dc_of (x := (35, .iconst 1, 1)) t0_Ci_tryChecks_ok (i := 20) rfl
theorem d_Ci_tryChecks_36 : decode c_Ci_tryChecks 36 = .ok (.iadd, 1) := dc_of (x := (36, .iadd, 1)) t0_Ci_tryChecks_ok (i := 21) rfl
theorem d_Ci_tryChecks_37 : decode c_Ci_tryChecks 37 = .ok (.putfield 204, 3) := dc_of (x := (37, .putfield 204, 3)) t0_Ci_tryChecks_ok (i := 22) rfl
theorem d_Ci_tryChecks_40 : decode c_Ci_tryChecks 40 = .ok (.aload_n 0, 1) := dc_of (x := (40, .aload_n 0, 1)) t0_Ci_tryChecks_ok (i := 23) rfl
theorem d_Ci_tryChecks_41 : decode c_Ci_tryChecks 41 = .ok (.aload 4, 2) := dc_of (x := (41, .aload 4, 2)) t0_Ci_tryChecks_ok (i := 24) rfl
theorem d_Ci_tryChecks_43 : decode c_Ci_tryChecks 43 = .ok (.invokevirtual 206, 3) := dc_of (x := (43, .invokevirtual 206, 3)) t0_Ci_tryChecks_ok (i := 25) rfl
theorem d_Ci_tryChecks_46 : decode c_Ci_tryChecks 46 = .ok (.iinc 3 1, 3) := dc_of (x := (46, .iinc 3 1, 3)) t0_Ci_tryChecks_ok (i := 26) rfl
theorem d_Ci_tryChecks_49 : decode c_Ci_tryChecks 49 = .ok (.goto (-47), 3) := dc_of (x := (49, .goto (-47), 3)) t0_Ci_tryChecks_ok (i := 27) rfl
theorem d_Ci_tryChecks_52 : decode c_Ci_tryChecks 52 = .ok (.return_, 1) := dc_of (x := (52, .return_, 1)) t0_Ci_tryChecks_ok (i := 28) rfl
def t0_Ci_breaks : List (Nat × Instr × Nat) := [(0, .aload_n 1, 1), (1, .getfield 209, 3), (4, .ifCond .ne 44, 3), (7, .aload_n 1, 1), (8, .getfield 210, 3), (11, .iload_n 2, 1), (12, .if_icmp .ne 34, 3), (15, .iload_n 3, 1), (16, .ifCond .eq 30, 3), (19, .aload_n 1, 1), (20, .aload_n 0, 1), (21, .getfield 17, 3), (24, .aload_n 1, 1), (25, .getfield 213, 3), (28, .aaload, 1), (29, .getfield 184, 3), (32, .aload_n 0, 1), (33, .getfield 50, 3), (36, .invokevirtual 216, 3), (39, .ifCond .eq 7, 3), (42, .iconst 1, 1), (43, .goto 4, 3), (46, .iconst 0, 1), (47, .ireturn, 1), (48, .aload_n 1, 1), (49, .getfield 213, 3), (52, .iload_n 2, 1), (53, .if_icmp .ne 30, 3), (56, .aload_n 1, 1), (57, .aload_n 0, 1), (58, .getfield 17, 3), (61, .aload_n 1, 1), (62, .getfield 210, 3), (65, .aaload, 1), (66, .getfield 187, 3), (69, .aload_n 0, 1), (70, .getfield 50, 3), (73, .invokevirtual 216, 3), (76, .ifCond .eq 7, 3), (79, .iconst 1, 1), (80, .goto 4, 3), (83, .iconst 0, 1), (84, .ireturn, 1)]
theorem t0_Ci_breaks_ok : t0_Ci_breaks.all (fun x => decide (decode c_Ci_breaks x.1 = .ok x.2)) = true := by decide +kernel
theorem d_Ci_breaks_0 : decode c_Ci_breaks 0 = .ok (.aload_n 1, 1) := dc_of (x := (0, .aload_n 1, 1)) t0_Ci_breaks_ok (i := 0) rfl
theorem d_Ci_breaks_1 : decode c_Ci_breaks 1 = .ok (.getfield 209, 3) := dc_of (x := (1, .getfield 209, 3)) t0_Ci_breaks_ok (i := 1) rfl
theorem d_Ci_breaks_4 : decode c_Ci_breaks 4 = .ok (.ifCond .ne 44, 3) := dc_of (x := (4, .ifCond .ne 44, 3)) t0_Ci_breaks_ok (i := 2) rfl
theorem d_Ci_breaks_7 : decode c_Ci_breaks 7 = .ok (.aload_n 1, 1) := dc_of (x := (7, .aload_n 1, 1)) t0_Ci_breaks_ok (i := 3) rfl
theorem d_Ci_breaks_8 : decode c_Ci_breaks 8 = .ok (.getfield 210, 3) := dc_of (x := (8, .getfield 210, 3)) t0_Ci_breaks_ok (i := 4) rfl
theorem d_Ci_breaks_11 : decode c_Ci_breaks 11 = .ok (.iload_n 2, 1) := dc_of (x := (11, .iload_n 2, 1)) t0_Ci_breaks_ok (i := 5) rfl
theorem d_Ci_breaks_12 : decode c_Ci_breaks 12 = .ok (.if_icmp .ne 34, 3) := dc_of (x := (12, .if_icmp .ne 34, 3)) t0_Ci_breaks_ok (i := 6) rfl
theorem d_Ci_breaks_15 : decode c_Ci_breaks 15 = .ok (.iload_n 3, 1) := dc_of (x := (15, .iload_n 3, 1)) t0_Ci_breaks_ok (i := 7) rfl
theorem d_Ci_breaks_16 : decode c_Ci_breaks 16 = .ok (.ifCond .eq 30, 3) := dc_of (x := (16, .ifCond .eq 30, 3)) t0_Ci_breaks_ok (i := 8) rfl
theorem d_Ci_breaks_19 : decode c_Ci_breaks 19 = .ok (.aload_n 1, 1) := dc_of (x := (19, .aload_n 1, 1)) t0_Ci_breaks_ok (i := 9) rfl
theorem d_Ci_breaks_20 : decode c_Ci_breaks 20 = .ok (.aload_n 0, 1) := dc_of (x := (20, .aload_n 0, 1)) t0_Ci_breaks_ok (i := 10) rfl
theorem d_Ci_breaks_21 : decode c_Ci_breaks 21 = .ok (.getfield 17, 3) := dc_of (x := (21, .getfield 17, 3)) t0_Ci_breaks_ok (i := 11) rfl
theorem d_Ci_breaks_24 : decode c_Ci_breaks 24 = .ok (.aload_n 1, 1) := dc_of (x := (24, .aload_n 1, 1)) t0_Ci_breaks_ok (i := 12) rfl
theorem d_Ci_breaks_25 : decode c_Ci_breaks 25 = .ok (.getfield 213, 3) := dc_of (x := (25, .getfield 213, 3)) t0_Ci_breaks_ok (i := 13) rfl
theorem d_Ci_breaks_28 : decode c_Ci_breaks 28 = .ok (.aaload, 1) := dc_of (x := (28, .aaload, 1)) t0_Ci_breaks_ok (i := 14) rfl
theorem d_Ci_breaks_29 : decode c_Ci_breaks 29 = .ok (.getfield 184, 3) := dc_of (x := (29, .getfield 184, 3)) t0_Ci_breaks_ok (i := 15) rfl
theorem d_Ci_breaks_32 : decode c_Ci_breaks 32 = .ok (.aload_n 0, 1) := dc_of (x := (32, .aload_n 0, 1)) t0_Ci_breaks_ok (i := 16) rfl
theorem d_Ci_breaks_33 : decode c_Ci_breaks 33 = .ok (.getfield 50, 3) := dc_of (x := (33, .getfield 50, 3)) t0_Ci_breaks_ok (i := 17) rfl
theorem d_Ci_breaks_36 : decode c_Ci_breaks 36 = .ok (.invokevirtual 216, 3) := dc_of (x := (36, .invokevirtual 216, 3)) t0_Ci_breaks_ok (i := 18) rfl
theorem d_Ci_breaks_39 : decode c_Ci_breaks 39 = .ok (.ifCond .eq 7, 3) := dc_of (x := (39, .ifCond .eq 7, 3)) t0_Ci_breaks_ok (i := 19) rfl
theorem d_Ci_breaks_42 : decode c_Ci_breaks 42 = .ok (.iconst 1, 1) := dc_of (x := (42, .iconst 1, 1)) t0_Ci_breaks_ok (i := 20) rfl
theorem d_Ci_breaks_43 : decode c_Ci_breaks 43 = .ok (.goto 4, 3) := dc_of (x := (43, .goto 4, 3)) t0_Ci_breaks_ok (i := 21) rfl
theorem d_Ci_breaks_46 : decode c_Ci_breaks 46 = .ok (.iconst 0, 1) := dc_of (x := (46, .iconst 0, 1)) t0_Ci_breaks_ok (i := 22) rfl
theorem d_Ci_breaks_47 : decode c_Ci_breaks 47 = .ok (.ireturn, 1) := dc_of (x := (47, .ireturn, 1)) t0_Ci_breaks_ok (i := 23) rfl
theorem d_Ci_breaks_48 : decode c_Ci_breaks 48 = .ok (.aload_n 1, 1) := dc_of (x := (48, .aload_n 1, 1)) t0_Ci_breaks_ok (i := 24) rfl
theorem d_Ci_breaks_49 : decode c_Ci_breaks 49 = .ok (.getfield 213, 3) := dc_of (x := (49, .getfield 213, 3)) t0_Ci_breaks_ok (i := 25) rfl
theorem d_Ci_breaks_52 : decode c_Ci_breaks 52 = .ok (.iload_n 2, 1) := dc_of (x := (52, .iload_n 2, 1)) t0_Ci_breaks_ok (i := 26) rfl
theorem d_Ci_breaks_53 : decode c_Ci_breaks 53 = .ok (.if_icmp .ne 30, 3) := dc_of (x := (53, .if_icmp .ne 30, 3)) t0_Ci_breaks_ok (i := 27) rfl
theorem d_Ci_breaks_56 : decode c_Ci_breaks 56 = .ok (.aload_n 1, 1) := dc_of (x := (56, .aload_n 1, 1)) t0_Ci_breaks_ok (i := 28) rfl
theorem d_Ci_breaks_57 : decode c_Ci_breaks 57 = .ok (.aload_n 0, 1) := dc_of (x := (57, .aload_n 0, 1)) t0_Ci_breaks_ok (i := 29) rfl
theorem d_Ci_breaks_58 : decode c_Ci_breaks 58 = .ok (.getfield 17, 3) := dc_of (x := (58, .getfield 17, 3)) t0_Ci_breaks_ok (i := 30) rfl
theorem d_Ci_breaks_61 : decode c_Ci_breaks 61 = .ok (.aload_n 1, 1) := dc_of (x := (61, .aload_n 1, 1)) t0_Ci_breaks_ok (i := 31) rfl
theorem d_Ci_breaks_62 : decode c_Ci_breaks 62 = .ok (.getfield 210, 3) := dc_of (x := (62, .getfield 210, 3)) t0_Ci_breaks_ok (i := 32) rfl
theorem d_Ci_breaks_65 : decode c_Ci_breaks 65 = .ok (.aaload, 1) := dc_of (x := (65, .aaload, 1)) t0_Ci_breaks_ok (i := 33) rfl
theorem d_Ci_breaks_66 : decode c_Ci_breaks 66 = .ok (.getfield 187, 3) := dc_of (x := (66, .getfield 187, 3)) t0_Ci_breaks_ok (i := 34) rfl
theorem d_Ci_breaks_69 : decode c_Ci_breaks 69 = .ok (.aload_n 0, 1) := dc_of (x := (69, .aload_n 0, 1)) t0_Ci_breaks_ok (i := 35) rfl
theorem d_Ci_breaks_70 : decode c_Ci_breaks 70 = .ok (.getfield 50, 3) := dc_of (x := (70, .getfield 50, 3)) t0_Ci_breaks_ok (i := 36) rfl
theorem d_Ci_breaks_73 : decode c_Ci_breaks 73 = .ok (.invokevirtual 216, 3) := dc_of (x := (73, .invokevirtual 216, 3)) t0_Ci_breaks_ok (i := 37) rfl
theorem d_Ci_breaks_76 : decode c_Ci_breaks 76 = .ok (.ifCond .eq 7, 3) := dc_of (x := (76, .ifCond .eq 7, 3)) t0_Ci_breaks_ok (i := 38) rfl
theorem d_Ci_breaks_79 : decode c_Ci_breaks 79 = .ok (.iconst 1, 1) := dc_of (x := (79, .iconst 1, 1)) t0_Ci_breaks_ok (i := 39) rfl
theorem d_Ci_breaks_80 : decode c_Ci_breaks 80 = .ok (.goto 4, 3) := dc_of (x := (80, .goto 4, 3)) t0_Ci_breaks_ok (i := 40) rfl
theorem d_Ci_breaks_83 : decode c_Ci_breaks 83 = .ok (.iconst 0, 1) := dc_of (x := (83, .iconst 0, 1)) t0_Ci_breaks_ok (i := 41) rfl
theorem d_Ci_breaks_84 : decode c_Ci_breaks 84 = .ok (.ireturn, 1) := dc_of (x := (84, .ireturn, 1)) t0_Ci_breaks_ok (i := 42) rfl
def t0_Ci_blurRegisters : List (Nat × Instr × Nat) := [(0, .iconst 0, 1), (1, .istore_n 2, 1), (2, .iload_n 2, 1), (3, .aload_n 0, 1), (4, .getfield 57, 3), (7, .if_icmp .ge 60, 3), (10, .aload_n 0, 1), (11, .getfield 23, 3), (14, .iload_n 2, 1), (15, .aaload, 1), (16, .astore_n 3, 1), (17, .aload_n 3, 1), (18, .getfield 100, 3), (21, .bipush 7, 2), (23, .if_icmp .ne 38, 3), (26, .aload_n 3, 1), (27, .getfield 193, 3), (30, .aload_n 1, 1), (31, .getfield 210, 3), (34, .if_icmp .ne 27, 3), (37, .aload_n 3, 1), (38, .getfield 190, 3), (41, .aload_n 1, 1), (42, .getfield 213, 3), (45, .if_icmp .ne 16, 3), (48, .aload_n 3, 1), (49, .iconst 2, 1), (50, .aload_n 0, 1), (51, .getfield 50, 3), (54, .aload_n 0, 1), (55, .getfield 9, 3), (58, .invokevirtual 95, 3), (61, .iinc 2 1, 3), (64, .goto (-62), 3), (67, .return_, 1)]
theorem t0_Ci_blurRegisters_ok : t0_Ci_blurRegisters.all (fun x => decide (decode c_Ci_blurRegisters x.1 = .ok x.2)) = true := by decide +kernel
theorem d_Ci_blurRegisters_0 : decode c_Ci_blurRegisters 0 = .ok (.iconst 0, 1) := dc_of (x := (0, .iconst 0, 1)) t0_Ci_blurRegisters_ok (i := 0) rfl
theorem d_Ci_blurRegisters_1 : decode c_Ci_blurRegisters 1 = .ok (.istore_n 2, 1) := dc_of (x := (1, .istore_n 2, 1)) t0_Ci_blurRegisters_ok (i := 1) rfl
theorem d_Ci_blurRegisters_2 : decode c_Ci_blurRegisters 2 = .ok (.iload_n 2, 1) := dc_of (x := (2, .iload_n 2, 1)) t0_Ci_blurRegisters_ok (i := 2) rfl
theorem d_Ci_blurRegisters_3 : decode c_Ci_blurRegisters 3 = .ok (.aload_n 0, 1) := dc_of (x := (3, .aload_n 0, 1)) t0_Ci_blurRegisters_ok (i := 3) rfl
theorem d_Ci_blurRegisters_4 : decode c_Ci_blurRegisters 4 = .ok (.getfield 57, 3) := dc_of (x := (4, .getfield 57, 3)) t0_Ci_blurRegisters_ok (i := 4) rfl
theorem d_Ci_blurRegisters_7 : decode c_Ci_blurRegisters 7 = .ok (.if_icmp .ge 60, 3) := dc_of (x := (7, .if_icmp .ge 60, 3)) t0_Ci_blurRegisters_ok (i := 5) rfl
theorem d_Ci_blurRegisters_10 : decode c_Ci_blurRegisters 10 = .ok (.aload_n 0, 1) := dc_of (x := (10, .aload_n 0, 1)) t0_Ci_blurRegisters_ok (i := 6) rfl
theorem d_Ci_blurRegisters_11 : decode c_Ci_blurRegisters 11 = .ok (.getfield 23, 3) := dc_of (x := (11, .getfield 23, 3)) t0_Ci_blurRegisters_ok (i := 7) rfl
theorem d_Ci_blurRegisters_14 : decode c_Ci_blurRegisters 14 = .ok (.iload_n 2, 1) := dc_of (x := (14, .iload_n 2, 1)) t0_Ci_blurRegisters_ok (i := 8) rfl
theorem d_Ci_blurRegisters_15 : decode c_Ci_blurRegisters 15 = .ok (.aaload, 1) := dc_of (x := (15, .aaload, 1)) t0_Ci_blurRegisters_ok (i := 9) rfl
theorem d_Ci_blurRegisters_16 : decode c_Ci_blurRegisters 16 = .ok (.astore_n 3, 1) := dc_of (x := (16, .astore_n 3, 1)) t0_Ci_blurRegisters_ok (i := 10) rfl
theorem d_Ci_blurRegisters_17 : decode c_Ci_blurRegisters 17 = .ok (.aload_n 3, 1) := dc_of (x := (17, .aload_n 3, 1)) t0_Ci_blurRegisters_ok (i := 11) rfl
theorem d_Ci_blurRegisters_18 : decode c_Ci_blurRegisters 18 = .ok (.getfield 100, 3) := dc_of (x := (18, .getfield 100, 3)) t0_Ci_blurRegisters_ok (i := 12) rfl
theorem d_Ci_blurRegisters_21 : decode c_Ci_blurRegisters 21 = .ok (.bipush 7, 2) := dc_of (x := (21, .bipush 7, 2)) t0_Ci_blurRegisters_ok (i := 13) rfl
theorem d_Ci_blurRegisters_23 : decode c_Ci_blurRegisters 23 = .ok (.if_icmp .ne 38, 3) := dc_of (x := (23, .if_icmp .ne 38, 3)) t0_Ci_blurRegisters_ok (i := 14) rfl
theorem d_Ci_blurRegisters_26 : decode c_Ci_blurRegisters 26 = .ok (.aload_n 3, 1) := dc_of (x := (26, .aload_n 3, 1)) t0_Ci_blurRegisters_ok (i := 15) rfl
theorem d_Ci_blurRegisters_27 : decode c_Ci_blurRegisters 27 = .ok (.getfield 193, 3) := dc_of (x := (27, .getfield 193, 3)) t0_Ci_blurRegisters_ok (i := 16) rfl
theorem d_Ci_blurRegisters_30 : decode c_Ci_blurRegisters 30 = .ok (.aload_n 1, 1) := dc_of (x := (30, .aload_n 1, 1)) t0_Ci_blurRegisters_ok (i := 17) rfl
theorem d_Ci_blurRegisters_31 : decode c_Ci_blurRegisters 31 = .ok (.getfield 210, 3) := dc_of (x := (31, .getfield 210, 3)) t0_Ci_blurRegisters_ok (i := 18) rfl
theorem d_Ci_blurRegisters_34 : decode c_Ci_blurRegisters 34 = .ok (.if_icmp .ne 27, 3) := dc_of (x := (34, .if_icmp .ne 27, 3)) t0_Ci_blurRegisters_ok (i := 19) rfl
theorem d_Ci_blurRegisters_37 : decode c_Ci_blurRegisters 37 = .ok (.aload_n 3, 1) := dc_of (x := (37, .aload_n 3, 1)) t0_Ci_blurRegisters_ok (i := 20) rfl
theorem d_Ci_blurRegisters_38 : decode c_Ci_blurRegisters 38 = .ok (.getfield 190, 3) := dc_of (x := (38, .getfield 190, 3)) t0_Ci_blurRegisters_ok (i := 21) rfl
theorem d_Ci_blurRegisters_41 : decode c_Ci_blurRegisters 41 = .ok (.aload_n 1, 1) := dc_of (x := (41, .aload_n 1, 1)) t0_Ci_blurRegisters_ok (i := 22) rfl
theorem d_Ci_blurRegisters_42 : decode c_Ci_blurRegisters 42 = .ok (.getfield 213, 3) := dc_of (x := (42, .getfield 213, 3)) t0_Ci_blurRegisters_ok (i := 23) rfl
theorem d_Ci_blurRegisters_45 : decode c_Ci_blurRegisters 45 = .ok (.if_icmp .ne 16, 3) := dc_of (x := (45, .if_icmp .ne 16, 3)) t0_Ci_blurRegisters_ok (i := 24) rfl
theorem d_Ci_blurRegisters_48 : decode c_Ci_blurRegisters 48 = .ok (.aload_n 3, 1) := dc_of (x := (48, .aload_n 3, 1)) t0_Ci_blurRegisters_ok (i := 25) rfl
theorem d_Ci_blurRegisters_49 : decode c_Ci_blurRegisters 49 = .ok (.iconst 2, 1) := dc_of (x := (49, .iconst 2, 1)) t0_Ci_blurRegisters_ok (i := 26) rfl
theorem d_Ci_blurRegisters_50 : decode c_Ci_blurRegisters 50 = .ok (.aload_n 0, 1) := dc_of (x := (50, .aload_n 0, 1)) t0_Ci_blurRegisters_ok (i := 27) rfl
theorem d_Ci_blurRegisters_51 : decode c_Ci_blurRegisters 51 = .ok (.getfield 50, 3) := dc_of (x := (51, .getfield 50, 3)) t0_Ci_blurRegisters_ok (i := 28) rfl
theorem d_Ci_blurRegisters_54 : decode c_Ci_blurRegisters 54 = .ok (.aload_n 0, 1) := dc_of (x := (54, .aload_n 0, 1)) t0_Ci_blurRegisters_ok (i := 29) rfl
theorem d_Ci_blurRegisters_55 : decode c_Ci_blurRegisters 55 = .ok (.getfield 9, 3) := dc_of (x := (55, .getfield 9, 3)) t0_Ci_blurRegisters_ok (i := 30) rfl
theorem d_Ci_blurRegisters_58 : decode c_Ci_blurRegisters 58 = .ok (.invokevirtual 95, 3) := dc_of (x := (58, .invokevirtual 95, 3)) t0_Ci_blurRegisters_ok (i := 31) rfl
theorem d_Ci_blurRegisters_61 : decode c_Ci_blurRegisters 61 = .ok (.iinc 2 1, 3) := dc_of (x := (61, .iinc 2 1, 3)) t0_Ci_blurRegisters_ok (i := 32) rfl
theorem d_Ci_blurRegisters_64 : decode c_Ci_blurRegisters 64 = .ok (.goto (-62), 3) := dc_of (x := (64, .goto (-62), 3)) t0_Ci_blurRegisters_ok (i := 33) rfl
theorem d_Ci_blurRegisters_67 : decode c_Ci_blurRegisters 67 = .ok (.return_, 1) := dc_of (x := (67, .return_, 1)) t0_Ci_blurRegisters_ok (i := 34) rfl
