def t0_La_net : List (Nat × Instr × Nat) := [(0, .aload_n 1, 1), (1, .iconst 0, 1), (2, .aload_n 0, 1), (3, .invokevirtual 7, 3), (6, .i2l, 1), (7, .lastore, 1), (8, .goto 6, 3), (11, .astore_n 2, 1), (12, .iconst 1, 1), (13, .ireturn, 1), (14, .iconst 0, 1), (15, .ireturn, 1)]
theorem t0_La_net_ok : t0_La_net.all (fun x => decide (decode c_La_net x.1 = .ok x.2)) = true := by decide +kernel
theorem d_La_net_0 : decode c_La_net 0 = .ok (.aload_n 1, 1) := dc_of (x := (0, .aload_n 1, 1)) t0_La_net_ok (i := 0) rfl
theorem d_La_net_1 : decode c_La_net 1 = .ok (.iconst 0, 1) := dc_of (x := (1, .iconst 0, 1)) t0_La_net_ok (i := 1) rfl
theorem d_La_net_2 : decode c_La_net 2 = .ok (.aload_n 0, 1) := dc_of (x := (2, .aload_n 0, 1)) t0_La_net_ok (i := 2) rfl
theorem d_La_net_3 : decode c_La_net 3 = .ok (.invokevirtual 7, 3) := dc_of (x := (3, .invokevirtual 7, 3)) t0_La_net_ok (i := 3) rfl
theorem d_La_net_6 : decode c_La_net 6 = .ok (.i2l, 1) := dc_of (x := (6, .i2l, 1)) t0_La_net_ok (i := 4) rfl
theorem d_La_net_7 : decode c_La_net 7 = .ok (.lastore, 1) := dc_of (x := (7, .lastore, 1)) t0_La_net_ok (i := 5) rfl
theorem d_La_net_8 : decode c_La_net 8 = .ok (.goto 6, 3) := dc_of (x := (8, .goto 6, 3)) t0_La_net_ok (i := 6) rfl
theorem d_La_net_11 : decode c_La_net 11 = .ok (.astore_n 2, 1) := dc_of (x := (11, .astore_n 2, 1)) t0_La_net_ok (i := 7) rfl
theorem d_La_net_12 : decode c_La_net 12 = .ok (.iconst 1, 1) := dc_of (x := (12, .iconst 1, 1)) t0_La_net_ok (i := 8) rfl
theorem d_La_net_13 : decode c_La_net 13 = .ok (.ireturn, 1) := dc_of (x := (13, .ireturn, 1)) t0_La_net_ok (i := 9) rfl
theorem d_La_net_14 : decode c_La_net 14 = .ok (.iconst 0, 1) := dc_of (x := (14, .iconst 0, 1)) t0_La_net_ok (i := 10) rfl
theorem d_La_net_15 : decode c_La_net 15 = .ok (.ireturn, 1) := dc_of (x := (15, .ireturn, 1)) t0_La_net_ok (i := 11) rfl
def t0_La_gate : List (Nat × Instr × Nat) := [(0, .aload 5, 2), (2, .iconst 0, 1), (3, .aload_n 0, 1), (4, .iload_n 1, 1), (5, .iload_n 2, 1), (6, .iload_n 3, 1), (7, .iload 4, 2), (9, .invokevirtual 15, 3), (12, .i2l, 1), (13, .lastore, 1), (14, .goto 15, 3), (17, .astore 6, 2), (19, .iconst 1, 1), (20, .ireturn, 1), (21, .astore 6, 2), (23, .iconst 2, 1), (24, .ireturn, 1), (25, .astore 6, 2), (27, .iconst 3, 1), (28, .ireturn, 1), (29, .iconst 0, 1), (30, .ireturn, 1)]
theorem t0_La_gate_ok : t0_La_gate.all (fun x => decide (decode c_La_gate x.1 = .ok x.2)) = true := by decide +kernel
theorem d_La_gate_0 : decode c_La_gate 0 = .ok (.aload 5, 2) := dc_of (x := (0, .aload 5, 2)) t0_La_gate_ok (i := 0) rfl
theorem d_La_gate_2 : decode c_La_gate 2 = .ok (.iconst 0, 1) := dc_of (x := (2, .iconst 0, 1)) t0_La_gate_ok (i := 1) rfl
theorem d_La_gate_3 : decode c_La_gate 3 = .ok (.aload_n 0, 1) := dc_of (x := (3, .aload_n 0, 1)) t0_La_gate_ok (i := 2) rfl
theorem d_La_gate_4 : decode c_La_gate 4 = .ok (.iload_n 1, 1) := dc_of (x := (4, .iload_n 1, 1)) t0_La_gate_ok (i := 3) rfl
theorem d_La_gate_5 : decode c_La_gate 5 = .ok (.iload_n 2, 1) := dc_of (x := (5, .iload_n 2, 1)) t0_La_gate_ok (i := 4) rfl
theorem d_La_gate_6 : decode c_La_gate 6 = .ok (.iload_n 3, 1) := dc_of (x := (6, .iload_n 3, 1)) t0_La_gate_ok (i := 5) rfl
theorem d_La_gate_7 : decode c_La_gate 7 = .ok (.iload 4, 2) := dc_of (x := (7, .iload 4, 2)) t0_La_gate_ok (i := 6) rfl
theorem d_La_gate_9 : decode c_La_gate 9 = .ok (.invokevirtual 15, 3) := dc_of (x := (9, .invokevirtual 15, 3)) t0_La_gate_ok (i := 7) rfl
theorem d_La_gate_12 : decode c_La_gate 12 = .ok (.i2l, 1) := dc_of (x := (12, .i2l, 1)) t0_La_gate_ok (i := 8) rfl
theorem d_La_gate_13 : decode c_La_gate 13 = .ok (.lastore, 1) := dc_of (x := (13, .lastore, 1)) t0_La_gate_ok (i := 9) rfl
theorem d_La_gate_14 : decode c_La_gate 14 = .ok (.goto 15, 3) := dc_of (x := (14, .goto 15, 3)) t0_La_gate_ok (i := 10) rfl
theorem d_La_gate_17 : decode c_La_gate 17 = .ok (.astore 6, 2) := dc_of (x := (17, .astore 6, 2)) t0_La_gate_ok (i := 11) rfl
theorem d_La_gate_19 : decode c_La_gate 19 = .ok (.iconst 1, 1) := dc_of (x := (19, .iconst 1, 1)) t0_La_gate_ok (i := 12) rfl
theorem d_La_gate_20 : decode c_La_gate 20 = .ok (.ireturn, 1) := dc_of (x := (20, .ireturn, 1)) t0_La_gate_ok (i := 13) rfl
theorem d_La_gate_21 : decode c_La_gate 21 = .ok (.astore 6, 2) := dc_of (x := (21, .astore 6, 2)) t0_La_gate_ok (i := 14) rfl
theorem d_La_gate_23 : decode c_La_gate 23 = .ok (.iconst 2, 1) := dc_of (x := (23, .iconst 2, 1)) t0_La_gate_ok (i := 15) rfl
theorem d_La_gate_24 : decode c_La_gate 24 = .ok (.ireturn, 1) := dc_of (x := (24, .ireturn, 1)) t0_La_gate_ok (i := 16) rfl
theorem d_La_gate_25 : decode c_La_gate 25 = .ok (.astore 6, 2) := dc_of (x := (25, .astore 6, 2)) t0_La_gate_ok (i := 17) rfl
theorem d_La_gate_27 : decode c_La_gate 27 = .ok (.iconst 3, 1) := dc_of (x := (27, .iconst 3, 1)) t0_La_gate_ok (i := 18) rfl
theorem d_La_gate_28 : decode c_La_gate 28 = .ok (.ireturn, 1) := dc_of (x := (28, .ireturn, 1)) t0_La_gate_ok (i := 19) rfl
theorem d_La_gate_29 : decode c_La_gate 29 = .ok (.iconst 0, 1) := dc_of (x := (29, .iconst 0, 1)) t0_La_gate_ok (i := 20) rfl
theorem d_La_gate_30 : decode c_La_gate 30 = .ok (.ireturn, 1) := dc_of (x := (30, .ireturn, 1)) t0_La_gate_ok (i := 21) rfl
def t0_La_delay : List (Nat × Instr × Nat) := [(0, .aload 4, 2), (2, .iconst 0, 1), (3, .aload_n 0, 1), (4, .iload_n 1, 1), (5, .iload_n 2, 1), (6, .iload_n 3, 1), (7, .invokevirtual 23, 3), (10, .ifCond .eq 7, 3), (13, .lconst 1, 1), (14, .goto 4, 3), (17, .lconst 0, 1), (18, .lastore, 1), (19, .goto 11, 3), (22, .astore 5, 2), (24, .iconst 1, 1), (25, .ireturn, 1), (26, .astore 5, 2), (28, .iconst 2, 1), (29, .ireturn, 1), (30, .iconst 0, 1), (31, .ireturn, 1)]
theorem t0_La_delay_ok : t0_La_delay.all (fun x => decide (decode c_La_delay x.1 = .ok x.2)) = true := by decide +kernel
theorem d_La_delay_0 : decode c_La_delay 0 = .ok (.aload 4, 2) := dc_of (x := (0, .aload 4, 2)) t0_La_delay_ok (i := 0) rfl
theorem d_La_delay_2 : decode c_La_delay 2 = .ok (.iconst 0, 1) := dc_of (x := (2, .iconst 0, 1)) t0_La_delay_ok (i := 1) rfl
theorem d_La_delay_3 : decode c_La_delay 3 = .ok (.aload_n 0, 1) := dc_of (x := (3, .aload_n 0, 1)) t0_La_delay_ok (i := 2) rfl
theorem d_La_delay_4 : decode c_La_delay 4 = .ok (.iload_n 1, 1) := dc_of (x := (4, .iload_n 1, 1)) t0_La_delay_ok (i := 3) rfl
theorem d_La_delay_5 : decode c_La_delay 5 = .ok (.iload_n 2, 1) := dc_of (x := (5, .iload_n 2, 1)) t0_La_delay_ok (i := 4) rfl
theorem d_La_delay_6 : decode c_La_delay 6 = .ok (.iload_n 3, 1) := dc_of (x := (6, .iload_n 3, 1)) t0_La_delay_ok (i := 5) rfl
theorem d_La_delay_7 : decode c_La_delay 7 = .ok (.invokevirtual 23, 3) := dc_of (x := (7, .invokevirtual 23, 3)) t0_La_delay_ok (i := 6) rfl
theorem d_La_delay_10 : decode c_La_delay 10 = .ok (.ifCond .eq 7, 3) := dc_of (x := (10, .ifCond .eq 7, 3)) t0_La_delay_ok (i := 7) rfl
theorem d_La_delay_13 : decode c_La_delay 13 = .ok (.lconst 1, 1) := dc_of (x := (13, .lconst 1, 1)) t0_La_delay_ok (i := 8) rfl
theorem d_La_delay_14 : decode c_La_delay 14 = .ok (.goto 4, 3) := dc_of (x := (14, .goto 4, 3)) t0_La_delay_ok (i := 9) rfl
theorem d_La_delay_17 : decode c_La_delay 17 = .ok (.lconst 0, 1) := dc_of (x := (17, .lconst 0, 1)) t0_La_delay_ok (i := 10) rfl
theorem d_La_delay_18 : decode c_La_delay 18 = .ok (.lastore, 1) := dc_of (x := (18, .lastore, 1)) t0_La_delay_ok (i := 11) rfl
theorem d_La_delay_19 : decode c_La_delay 19 = .ok (.goto 11, 3) := dc_of (x := (19, .goto 11, 3)) t0_La_delay_ok (i := 12) rfl
theorem d_La_delay_22 : decode c_La_delay 22 = .ok (.astore 5, 2) := dc_of (x := (22, .astore 5, 2)) t0_La_delay_ok (i := 13) rfl
theorem d_La_delay_24 : decode c_La_delay 24 = .ok (.iconst 1, 1) := dc_of (x := (24, .iconst 1, 1)) t0_La_delay_ok (i := 14) rfl
theorem d_La_delay_25 : decode c_La_delay 25 = .ok (.ireturn, 1) := dc_of (x := (25, .ireturn, 1)) t0_La_delay_ok (i := 15) rfl
theorem d_La_delay_26 : decode c_La_delay 26 = .ok (.astore 5, 2) := dc_of (x := (26, .astore 5, 2)) t0_La_delay_ok (i := 16) rfl
theorem d_La_delay_28 : decode c_La_delay 28 = .ok (.iconst 2, 1) := dc_of (x := (28, .iconst 2, 1)) t0_La_delay_ok (i := 17) rfl
theorem d_La_delay_29 : decode c_La_delay 29 = .ok (.ireturn, 1) := dc_of (x := (29, .ireturn, 1)) t0_La_delay_ok (i := 18) rfl
theorem d_La_delay_30 : decode c_La_delay 30 = .ok (.iconst 0, 1) := dc_of (x := (30, .iconst 0, 1)) t0_La_delay_ok (i := 19) rfl
theorem d_La_delay_31 : decode c_La_delay 31 = .ok (.ireturn, 1) := dc_of (x := (31, .ireturn, 1)) t0_La_delay_ok (i := 20) rfl
def t0_La_spike : List (Nat × Instr × Nat) := [(0, .aload_n 2, 1), (1, .iconst 0, 1), (2, .aload_n 0, 1), (3, .iload_n 1, 1), (4, .invokevirtual 27, 3), (7, .ifCond .eq 7, 3), (10, .lconst 1, 1), (11, .goto 4, 3), (14, .lconst 0, 1), (15, .lastore, 1), (16, .goto 6, 3), (19, .astore_n 3, 1), (20, .iconst 1, 1), (21, .ireturn, 1), (22, .iconst 0, 1), (23, .ireturn, 1)]
theorem t0_La_spike_ok : t0_La_spike.all (fun x => decide (decode c_La_spike x.1 = .ok x.2)) = true := by decide +kernel
theorem d_La_spike_0 : decode c_La_spike 0 = .ok (.aload_n 2, 1) := dc_of (x := (0, .aload_n 2, 1)) t0_La_spike_ok (i := 0) rfl
theorem d_La_spike_1 : decode c_La_spike 1 = .ok (.iconst 0, 1) := dc_of (x := (1, .iconst 0, 1)) t0_La_spike_ok (i := 1) rfl
theorem d_La_spike_2 : decode c_La_spike 2 = .ok (.aload_n 0, 1) := dc_of (x := (2, .aload_n 0, 1)) t0_La_spike_ok (i := 2) rfl
theorem d_La_spike_3 : decode c_La_spike 3 = .ok (.iload_n 1, 1) := dc_of (x := (3, .iload_n 1, 1)) t0_La_spike_ok (i := 3) rfl
theorem d_La_spike_4 : decode c_La_spike 4 = .ok (.invokevirtual 27, 3) := dc_of (x := (4, .invokevirtual 27, 3)) t0_La_spike_ok (i := 4) rfl
theorem d_La_spike_7 : decode c_La_spike 7 = .ok (.ifCond .eq 7, 3) := dc_of (x := (7, .ifCond .eq 7, 3)) t0_La_spike_ok (i := 5) rfl
theorem d_La_spike_10 : decode c_La_spike 10 = .ok (.lconst 1, 1) := dc_of (x := (10, .lconst 1, 1)) t0_La_spike_ok (i := 6) rfl
theorem d_La_spike_11 : decode c_La_spike 11 = .ok (.goto 4, 3) := dc_of (x := (11, .goto 4, 3)) t0_La_spike_ok (i := 7) rfl
theorem d_La_spike_14 : decode c_La_spike 14 = .ok (.lconst 0, 1) := dc_of (x := (14, .lconst 0, 1)) t0_La_spike_ok (i := 8) rfl
theorem d_La_spike_15 : decode c_La_spike 15 = .ok (.lastore, 1) := dc_of (x := (15, .lastore, 1)) t0_La_spike_ok (i := 9) rfl
theorem d_La_spike_16 : decode c_La_spike 16 = .ok (.goto 6, 3) := dc_of (x := (16, .goto 6, 3)) t0_La_spike_ok (i := 10) rfl
theorem d_La_spike_19 : decode c_La_spike 19 = .ok (.astore_n 3, 1) := dc_of (x := (19, .astore_n 3, 1)) t0_La_spike_ok (i := 11) rfl
theorem d_La_spike_20 : decode c_La_spike 20 = .ok (.iconst 1, 1) := dc_of (x := (20, .iconst 1, 1)) t0_La_spike_ok (i := 12) rfl
theorem d_La_spike_21 : decode c_La_spike 21 = .ok (.ireturn, 1) := dc_of (x := (21, .ireturn, 1)) t0_La_spike_ok (i := 13) rfl
theorem d_La_spike_22 : decode c_La_spike 22 = .ok (.iconst 0, 1) := dc_of (x := (22, .iconst 0, 1)) t0_La_spike_ok (i := 14) rfl
theorem d_La_spike_23 : decode c_La_spike 23 = .ok (.ireturn, 1) := dc_of (x := (23, .ireturn, 1)) t0_La_spike_ok (i := 15) rfl
def t0_La_drive : List (Nat × Instr × Nat) := [(0, .aload 5, 2), (2, .iconst 0, 1), (3, .aload_n 0, 1), (4, .iload_n 1, 1), (5, .lload_n 2, 1), (6, .iload 4, 2), (8, .invokevirtual 31, 3), (11, .i2l, 1), (12, .lastore, 1), (13, .goto 15, 3), (16, .astore 6, 2), (18, .iconst 1, 1), (19, .ireturn, 1), (20, .astore 6, 2), (22, .iconst 2, 1), (23, .ireturn, 1), (24, .astore 6, 2), (26, .iconst 3, 1), (27, .ireturn, 1), (28, .iconst 0, 1), (29, .ireturn, 1)]
theorem t0_La_drive_ok : t0_La_drive.all (fun x => decide (decode c_La_drive x.1 = .ok x.2)) = true := by decide +kernel
theorem d_La_drive_0 : decode c_La_drive 0 = .ok (.aload 5, 2) := dc_of (x := (0, .aload 5, 2)) t0_La_drive_ok (i := 0) rfl
theorem d_La_drive_2 : decode c_La_drive 2 = .ok (.iconst 0, 1) := dc_of (x := (2, .iconst 0, 1)) t0_La_drive_ok (i := 1) rfl
theorem d_La_drive_3 : decode c_La_drive 3 = .ok (.aload_n 0, 1) := dc_of (x := (3, .aload_n 0, 1)) t0_La_drive_ok (i := 2) rfl
theorem d_La_drive_4 : decode c_La_drive 4 = .ok (.iload_n 1, 1) := dc_of (x := (4, .iload_n 1, 1)) t0_La_drive_ok (i := 3) rfl
theorem d_La_drive_5 : decode c_La_drive 5 = .ok (.lload_n 2, 1) := dc_of (x := (5, .lload_n 2, 1)) t0_La_drive_ok (i := 4) rfl
theorem d_La_drive_6 : decode c_La_drive 6 = .ok (.iload 4, 2) := dc_of (x := (6, .iload 4, 2)) t0_La_drive_ok (i := 5) rfl
theorem d_La_drive_8 : decode c_La_drive 8 = .ok (.invokevirtual 31, 3) := dc_of (x := (8, .invokevirtual 31, 3)) t0_La_drive_ok (i := 6) rfl
theorem d_La_drive_11 : decode c_La_drive 11 = .ok (.i2l, 1) := dc_of (x := (11, .i2l, 1)) t0_La_drive_ok (i := 7) rfl
theorem d_La_drive_12 : decode c_La_drive 12 = .ok (.lastore, 1) := dc_of (x := (12, .lastore, 1)) t0_La_drive_ok (i := 8) rfl
theorem d_La_drive_13 : decode c_La_drive 13 = .ok (.goto 15, 3) := dc_of (x := (13, .goto 15, 3)) t0_La_drive_ok (i := 9) rfl
theorem d_La_drive_16 : decode c_La_drive 16 = .ok (.astore 6, 2) := dc_of (x := (16, .astore 6, 2)) t0_La_drive_ok (i := 10) rfl
theorem d_La_drive_18 : decode c_La_drive 18 = .ok (.iconst 1, 1) := dc_of (x := (18, .iconst 1, 1)) t0_La_drive_ok (i := 11) rfl
theorem d_La_drive_19 : decode c_La_drive 19 = .ok (.ireturn, 1) := dc_of (x := (19, .ireturn, 1)) t0_La_drive_ok (i := 12) rfl
theorem d_La_drive_20 : decode c_La_drive 20 = .ok (.astore 6, 2) := dc_of (x := (20, .astore 6, 2)) t0_La_drive_ok (i := 13) rfl
theorem d_La_drive_22 : decode c_La_drive 22 = .ok (.iconst 2, 1) := dc_of (x := (22, .iconst 2, 1)) t0_La_drive_ok (i := 14) rfl
theorem d_La_drive_23 : decode c_La_drive 23 = .ok (.ireturn, 1) := dc_of (x := (23, .ireturn, 1)) t0_La_drive_ok (i := 15) rfl
theorem d_La_drive_24 : decode c_La_drive 24 = .ok (.astore 6, 2) := dc_of (x := (24, .astore 6, 2)) t0_La_drive_ok (i := 16) rfl
theorem d_La_drive_26 : decode c_La_drive 26 = .ok (.iconst 3, 1) := dc_of (x := (26, .iconst 3, 1)) t0_La_drive_ok (i := 17) rfl
theorem d_La_drive_27 : decode c_La_drive 27 = .ok (.ireturn, 1) := dc_of (x := (27, .ireturn, 1)) t0_La_drive_ok (i := 18) rfl
theorem d_La_drive_28 : decode c_La_drive 28 = .ok (.iconst 0, 1) := dc_of (x := (28, .iconst 0, 1)) t0_La_drive_ok (i := 19) rfl
theorem d_La_drive_29 : decode c_La_drive 29 = .ok (.ireturn, 1) := dc_of (x := (29, .ireturn, 1)) t0_La_drive_ok (i := 20) rfl
def t0_La_force : List (Nat × Instr × Nat) := [(0, .aload 5, 2), (2, .iconst 0, 1), (3, .aload_n 0, 1), (4, .iload_n 1, 1), (5, .lload_n 2, 1), (6, .iload 4, 2), (8, .invokevirtual 35, 3), (11, .i2l, 1), (12, .lastore, 1), (13, .goto 15, 3), (16, .astore 6, 2), (18, .iconst 1, 1), (19, .ireturn, 1), (20, .astore 6, 2), (22, .iconst 2, 1), (23, .ireturn, 1), (24, .astore 6, 2), (26, .iconst 3, 1), (27, .ireturn, 1), (28, .iconst 0, 1), (29, .ireturn, 1)]
theorem t0_La_force_ok : t0_La_force.all (fun x => decide (decode c_La_force x.1 = .ok x.2)) = true := by decide +kernel
theorem d_La_force_0 : decode c_La_force 0 = .ok (.aload 5, 2) := dc_of (x := (0, .aload 5, 2)) t0_La_force_ok (i := 0) rfl
theorem d_La_force_2 : decode c_La_force 2 = .ok (.iconst 0, 1) := dc_of (x := (2, .iconst 0, 1)) t0_La_force_ok (i := 1) rfl
theorem d_La_force_3 : decode c_La_force 3 = .ok (.aload_n 0, 1) := dc_of (x := (3, .aload_n 0, 1)) t0_La_force_ok (i := 2) rfl
theorem d_La_force_4 : decode c_La_force 4 = .ok (.iload_n 1, 1) := dc_of (x := (4, .iload_n 1, 1)) t0_La_force_ok (i := 3) rfl
theorem d_La_force_5 : decode c_La_force 5 = .ok (.lload_n 2, 1) := dc_of (x := (5, .lload_n 2, 1)) t0_La_force_ok (i := 4) rfl
theorem d_La_force_6 : decode c_La_force 6 = .ok (.iload 4, 2) := dc_of (x := (6, .iload 4, 2)) t0_La_force_ok (i := 5) rfl
theorem d_La_force_8 : decode c_La_force 8 = .ok (.invokevirtual 35, 3) := dc_of (x := (8, .invokevirtual 35, 3)) t0_La_force_ok (i := 6) rfl
theorem d_La_force_11 : decode c_La_force 11 = .ok (.i2l, 1) := dc_of (x := (11, .i2l, 1)) t0_La_force_ok (i := 7) rfl
theorem d_La_force_12 : decode c_La_force 12 = .ok (.lastore, 1) := dc_of (x := (12, .lastore, 1)) t0_La_force_ok (i := 8) rfl
theorem d_La_force_13 : decode c_La_force 13 = .ok (.goto 15, 3) := dc_of (x := (13, .goto 15, 3)) t0_La_force_ok (i := 9) rfl
theorem d_La_force_16 : decode c_La_force 16 = .ok (.astore 6, 2) := dc_of (x := (16, .astore 6, 2)) t0_La_force_ok (i := 10) rfl
theorem d_La_force_18 : decode c_La_force 18 = .ok (.iconst 1, 1) := dc_of (x := (18, .iconst 1, 1)) t0_La_force_ok (i := 11) rfl
theorem d_La_force_19 : decode c_La_force 19 = .ok (.ireturn, 1) := dc_of (x := (19, .ireturn, 1)) t0_La_force_ok (i := 12) rfl
theorem d_La_force_20 : decode c_La_force 20 = .ok (.astore 6, 2) := dc_of (x := (20, .astore 6, 2)) t0_La_force_ok (i := 13) rfl
theorem d_La_force_22 : decode c_La_force 22 = .ok (.iconst 2, 1) := dc_of (x := (22, .iconst 2, 1)) t0_La_force_ok (i := 14) rfl
theorem d_La_force_23 : decode c_La_force 23 = .ok (.ireturn, 1) := dc_of (x := (23, .ireturn, 1)) t0_La_force_ok (i := 15) rfl
theorem d_La_force_24 : decode c_La_force 24 = .ok (.astore 6, 2) := dc_of (x := (24, .astore 6, 2)) t0_La_force_ok (i := 16) rfl
theorem d_La_force_26 : decode c_La_force 26 = .ok (.iconst 3, 1) := dc_of (x := (26, .iconst 3, 1)) t0_La_force_ok (i := 17) rfl
theorem d_La_force_27 : decode c_La_force 27 = .ok (.ireturn, 1) := dc_of (x := (27, .ireturn, 1)) t0_La_force_ok (i := 18) rfl
theorem d_La_force_28 : decode c_La_force 28 = .ok (.iconst 0, 1) := dc_of (x := (28, .iconst 0, 1)) t0_La_force_ok (i := 19) rfl
theorem d_La_force_29 : decode c_La_force 29 = .ok (.ireturn, 1) := dc_of (x := (29, .ireturn, 1)) t0_La_force_ok (i := 20) rfl
def t0_La_release : List (Nat × Instr × Nat) := [(0, .aload 4, 2), (2, .iconst 0, 1), (3, .aload_n 0, 1), (4, .iload_n 1, 1), (5, .lload_n 2, 1), (6, .invokevirtual 38, 3), (9, .i2l, 1), (10, .lastore, 1), (11, .goto 15, 3), (14, .astore 5, 2), (16, .iconst 1, 1), (17, .ireturn, 1), (18, .astore 5, 2), (20, .iconst 2, 1), (21, .ireturn, 1), (22, .astore 5, 2), (24, .iconst 3, 1), (25, .ireturn, 1), (26, .iconst 0, 1), (27, .ireturn, 1)]
theorem t0_La_release_ok : t0_La_release.all (fun x => decide (decode c_La_release x.1 = .ok x.2)) = true := by decide +kernel
theorem d_La_release_0 : decode c_La_release 0 = .ok (.aload 4, 2) := dc_of (x := (0, .aload 4, 2)) t0_La_release_ok (i := 0) rfl
theorem d_La_release_2 : decode c_La_release 2 = .ok (.iconst 0, 1) := dc_of (x := (2, .iconst 0, 1)) t0_La_release_ok (i := 1) rfl
theorem d_La_release_3 : decode c_La_release 3 = .ok (.aload_n 0, 1) := dc_of (x := (3, .aload_n 0, 1)) t0_La_release_ok (i := 2) rfl
theorem d_La_release_4 : decode c_La_release 4 = .ok (.iload_n 1, 1) := dc_of (x := (4, .iload_n 1, 1)) t0_La_release_ok (i := 3) rfl
theorem d_La_release_5 : decode c_La_release 5 = .ok (.lload_n 2, 1) := dc_of (x := (5, .lload_n 2, 1)) t0_La_release_ok (i := 4) rfl
theorem d_La_release_6 : decode c_La_release 6 = .ok (.invokevirtual 38, 3) := dc_of (x := (6, .invokevirtual 38, 3)) t0_La_release_ok (i := 5) rfl
theorem d_La_release_9 : decode c_La_release 9 = .ok (.i2l, 1) := dc_of (x := (9, .i2l, 1)) t0_La_release_ok (i := 6) rfl
theorem d_La_release_10 : decode c_La_release 10 = .ok (.lastore, 1) := dc_of (x := (10, .lastore, 1)) t0_La_release_ok (i := 7) rfl
theorem d_La_release_11 : decode c_La_release 11 = .ok (.goto 15, 3) := dc_of (x := (11, .goto 15, 3)) t0_La_release_ok (i := 8) rfl
theorem d_La_release_14 : decode c_La_release 14 = .ok (.astore 5, 2) := dc_of (x := (14, .astore 5, 2)) t0_La_release_ok (i := 9) rfl
theorem d_La_release_16 : decode c_La_release 16 = .ok (.iconst 1, 1) := dc_of (x := (16, .iconst 1, 1)) t0_La_release_ok (i := 10) rfl
theorem d_La_release_17 : decode c_La_release 17 = .ok (.ireturn, 1) := dc_of (x := (17, .ireturn, 1)) t0_La_release_ok (i := 11) rfl
theorem d_La_release_18 : decode c_La_release 18 = .ok (.astore 5, 2) := dc_of (x := (18, .astore 5, 2)) t0_La_release_ok (i := 12) rfl
theorem d_La_release_20 : decode c_La_release 20 = .ok (.iconst 2, 1) := dc_of (x := (20, .iconst 2, 1)) t0_La_release_ok (i := 13) rfl
theorem d_La_release_21 : decode c_La_release 21 = .ok (.ireturn, 1) := dc_of (x := (21, .ireturn, 1)) t0_La_release_ok (i := 14) rfl
theorem d_La_release_22 : decode c_La_release 22 = .ok (.astore 5, 2) := dc_of (x := (22, .astore 5, 2)) t0_La_release_ok (i := 15) rfl
theorem d_La_release_24 : decode c_La_release 24 = .ok (.iconst 3, 1) := dc_of (x := (24, .iconst 3, 1)) t0_La_release_ok (i := 16) rfl
theorem d_La_release_25 : decode c_La_release 25 = .ok (.ireturn, 1) := dc_of (x := (25, .ireturn, 1)) t0_La_release_ok (i := 17) rfl
theorem d_La_release_26 : decode c_La_release 26 = .ok (.iconst 0, 1) := dc_of (x := (26, .iconst 0, 1)) t0_La_release_ok (i := 18) rfl
theorem d_La_release_27 : decode c_La_release 27 = .ok (.ireturn, 1) := dc_of (x := (27, .ireturn, 1)) t0_La_release_ok (i := 19) rfl
def t0_La_check : List (Nat × Instr × Nat) := [(0, .aload 5, 2), (2, .iconst 0, 1), (3, .aload_n 0, 1), (4, .iload_n 1, 1), (5, .iload_n 2, 1), (6, .iload_n 3, 1), (7, .iload 4, 2), (9, .invokevirtual 42, 3), (12, .i2l, 1), (13, .lastore, 1), (14, .goto 15, 3), (17, .astore 6, 2), (19, .iconst 1, 1), (20, .ireturn, 1), (21, .astore 6, 2), (23, .iconst 2, 1), (24, .ireturn, 1), (25, .astore 6, 2), (27, .iconst 3, 1), (28, .ireturn, 1), (29, .iconst 0, 1), (30, .ireturn, 1)]
theorem t0_La_check_ok : t0_La_check.all (fun x => decide (decode c_La_check x.1 = .ok x.2)) = true := by decide +kernel
theorem d_La_check_0 : decode c_La_check 0 = .ok (.aload 5, 2) := dc_of (x := (0, .aload 5, 2)) t0_La_check_ok (i := 0) rfl
theorem d_La_check_2 : decode c_La_check 2 = .ok (.iconst 0, 1) := dc_of (x := (2, .iconst 0, 1)) t0_La_check_ok (i := 1) rfl
theorem d_La_check_3 : decode c_La_check 3 = .ok (.aload_n 0, 1) := dc_of (x := (3, .aload_n 0, 1)) t0_La_check_ok (i := 2) rfl
theorem d_La_check_4 : decode c_La_check 4 = .ok (.iload_n 1, 1) := dc_of (x := (4, .iload_n 1, 1)) t0_La_check_ok (i := 3) rfl
theorem d_La_check_5 : decode c_La_check 5 = .ok (.iload_n 2, 1) := dc_of (x := (5, .iload_n 2, 1)) t0_La_check_ok (i := 4) rfl
theorem d_La_check_6 : decode c_La_check 6 = .ok (.iload_n 3, 1) := dc_of (x := (6, .iload_n 3, 1)) t0_La_check_ok (i := 5) rfl
theorem d_La_check_7 : decode c_La_check 7 = .ok (.iload 4, 2) := dc_of (x := (7, .iload 4, 2)) t0_La_check_ok (i := 6) rfl
theorem d_La_check_9 : decode c_La_check 9 = .ok (.invokevirtual 42, 3) := dc_of (x := (9, .invokevirtual 42, 3)) t0_La_check_ok (i := 7) rfl
theorem d_La_check_12 : decode c_La_check 12 = .ok (.i2l, 1) := dc_of (x := (12, .i2l, 1)) t0_La_check_ok (i := 8) rfl
theorem d_La_check_13 : decode c_La_check 13 = .ok (.lastore, 1) := dc_of (x := (13, .lastore, 1)) t0_La_check_ok (i := 9) rfl
theorem d_La_check_14 : decode c_La_check 14 = .ok (.goto 15, 3) := dc_of (x := (14, .goto 15, 3)) t0_La_check_ok (i := 10) rfl
theorem d_La_check_17 : decode c_La_check 17 = .ok (.astore 6, 2) := dc_of (x := (17, .astore 6, 2)) t0_La_check_ok (i := 11) rfl
theorem d_La_check_19 : decode c_La_check 19 = .ok (.iconst 1, 1) := dc_of (x := (19, .iconst 1, 1)) t0_La_check_ok (i := 12) rfl
theorem d_La_check_20 : decode c_La_check 20 = .ok (.ireturn, 1) := dc_of (x := (20, .ireturn, 1)) t0_La_check_ok (i := 13) rfl
theorem d_La_check_21 : decode c_La_check 21 = .ok (.astore 6, 2) := dc_of (x := (21, .astore 6, 2)) t0_La_check_ok (i := 14) rfl
theorem d_La_check_23 : decode c_La_check 23 = .ok (.iconst 2, 1) := dc_of (x := (23, .iconst 2, 1)) t0_La_check_ok (i := 15) rfl
theorem d_La_check_24 : decode c_La_check 24 = .ok (.ireturn, 1) := dc_of (x := (24, .ireturn, 1)) t0_La_check_ok (i := 16) rfl
theorem d_La_check_25 : decode c_La_check 25 = .ok (.astore 6, 2) := dc_of (x := (25, .astore 6, 2)) t0_La_check_ok (i := 17) rfl
theorem d_La_check_27 : decode c_La_check 27 = .ok (.iconst 3, 1) := dc_of (x := (27, .iconst 3, 1)) t0_La_check_ok (i := 18) rfl
theorem d_La_check_28 : decode c_La_check 28 = .ok (.ireturn, 1) := dc_of (x := (28, .ireturn, 1)) t0_La_check_ok (i := 19) rfl
theorem d_La_check_29 : decode c_La_check 29 = .ok (.iconst 0, 1) := dc_of (x := (29, .iconst 0, 1)) t0_La_check_ok (i := 20) rfl
theorem d_La_check_30 : decode c_La_check 30 = .ok (.ireturn, 1) := dc_of (x := (30, .ireturn, 1)) t0_La_check_ok (i := 21) rfl
def t0_La_broken : List (Nat × Instr × Nat) := [(0, .aload_n 2, 1), (1, .iconst 0, 1), (2, .aload_n 0, 1), (3, .iload_n 1, 1), (4, .invokevirtual 45, 3), (7, .i2l, 1), (8, .lastore, 1), (9, .goto 6, 3), (12, .astore_n 3, 1), (13, .iconst 1, 1), (14, .ireturn, 1), (15, .iconst 0, 1), (16, .ireturn, 1)]
theorem t0_La_broken_ok : t0_La_broken.all (fun x => decide (decode c_La_broken x.1 = .ok x.2)) = true := by decide +kernel
theorem d_La_broken_0 : decode c_La_broken 0 = .ok (.aload_n 2, 1) := dc_of (x := (0, .aload_n 2, 1)) t0_La_broken_ok (i := 0) rfl
theorem d_La_broken_1 : decode c_La_broken 1 = .ok (.iconst 0, 1) := dc_of (x := (1, .iconst 0, 1)) t0_La_broken_ok (i := 1) rfl
theorem d_La_broken_2 : decode c_La_broken 2 = .ok (.aload_n 0, 1) := dc_of (x := (2, .aload_n 0, 1)) t0_La_broken_ok (i := 2) rfl
theorem d_La_broken_3 : decode c_La_broken 3 = .ok (.iload_n 1, 1) := dc_of (x := (3, .iload_n 1, 1)) t0_La_broken_ok (i := 3) rfl
theorem d_La_broken_4 : decode c_La_broken 4 = .ok (.invokevirtual 45, 3) := dc_of (x := (4, .invokevirtual 45, 3)) t0_La_broken_ok (i := 4) rfl
theorem d_La_broken_7 : decode c_La_broken 7 = .ok (.i2l, 1) := dc_of (x := (7, .i2l, 1)) t0_La_broken_ok (i := 5) rfl
theorem d_La_broken_8 : decode c_La_broken 8 = .ok (.lastore, 1) := dc_of (x := (8, .lastore, 1)) t0_La_broken_ok (i := 6) rfl
theorem d_La_broken_9 : decode c_La_broken 9 = .ok (.goto 6, 3) := dc_of (x := (9, .goto 6, 3)) t0_La_broken_ok (i := 7) rfl
theorem d_La_broken_12 : decode c_La_broken 12 = .ok (.astore_n 3, 1) := dc_of (x := (12, .astore_n 3, 1)) t0_La_broken_ok (i := 8) rfl
theorem d_La_broken_13 : decode c_La_broken 13 = .ok (.iconst 1, 1) := dc_of (x := (13, .iconst 1, 1)) t0_La_broken_ok (i := 9) rfl
theorem d_La_broken_14 : decode c_La_broken 14 = .ok (.ireturn, 1) := dc_of (x := (14, .ireturn, 1)) t0_La_broken_ok (i := 10) rfl
theorem d_La_broken_15 : decode c_La_broken 15 = .ok (.iconst 0, 1) := dc_of (x := (15, .iconst 0, 1)) t0_La_broken_ok (i := 11) rfl
theorem d_La_broken_16 : decode c_La_broken 16 = .ok (.ireturn, 1) := dc_of (x := (16, .ireturn, 1)) t0_La_broken_ok (i := 12) rfl
def t0_La_run : List (Nat × Instr × Nat) := [(0, .aload_n 3, 1), (1, .iconst 0, 1), (2, .aload_n 0, 1), (3, .lload_n 1, 1), (4, .invokevirtual 49, 3), (7, .lastore, 1), (8, .goto 7, 3), (11, .astore 4, 2), (13, .iconst 1, 1), (14, .ireturn, 1), (15, .iconst 0, 1), (16, .ireturn, 1)]
theorem t0_La_run_ok : t0_La_run.all (fun x => decide (decode c_La_run x.1 = .ok x.2)) = true := by decide +kernel
theorem d_La_run_0 : decode c_La_run 0 = .ok (.aload_n 3, 1) := dc_of (x := (0, .aload_n 3, 1)) t0_La_run_ok (i := 0) rfl
theorem d_La_run_1 : decode c_La_run 1 = .ok (.iconst 0, 1) := dc_of (x := (1, .iconst 0, 1)) t0_La_run_ok (i := 1) rfl
theorem d_La_run_2 : decode c_La_run 2 = .ok (.aload_n 0, 1) := dc_of (x := (2, .aload_n 0, 1)) t0_La_run_ok (i := 2) rfl
theorem d_La_run_3 : decode c_La_run 3 = .ok (.lload_n 1, 1) := dc_of (x := (3, .lload_n 1, 1)) t0_La_run_ok (i := 3) rfl
theorem d_La_run_4 : decode c_La_run 4 = .ok (.invokevirtual 49, 3) := dc_of (x := (4, .invokevirtual 49, 3)) t0_La_run_ok (i := 4) rfl
theorem d_La_run_7 : decode c_La_run 7 = .ok (.lastore, 1) := dc_of (x := (7, .lastore, 1)) t0_La_run_ok (i := 5) rfl
theorem d_La_run_8 : decode c_La_run 8 = .ok (.goto 7, 3) := dc_of (x := (8, .goto 7, 3)) t0_La_run_ok (i := 6) rfl
theorem d_La_run_11 : decode c_La_run 11 = .ok (.astore 4, 2) := dc_of (x := (11, .astore 4, 2)) t0_La_run_ok (i := 7) rfl
theorem d_La_run_13 : decode c_La_run 13 = .ok (.iconst 1, 1) := dc_of (x := (13, .iconst 1, 1)) t0_La_run_ok (i := 8) rfl
theorem d_La_run_14 : decode c_La_run 14 = .ok (.ireturn, 1) := dc_of (x := (14, .ireturn, 1)) t0_La_run_ok (i := 9) rfl
theorem d_La_run_15 : decode c_La_run 15 = .ok (.iconst 0, 1) := dc_of (x := (15, .iconst 0, 1)) t0_La_run_ok (i := 10) rfl
theorem d_La_run_16 : decode c_La_run 16 = .ok (.ireturn, 1) := dc_of (x := (16, .ireturn, 1)) t0_La_run_ok (i := 11) rfl
def t0_La_at : List (Nat × Instr × Nat) := [(0, .aload 4, 2), (2, .iconst 0, 1), (3, .aload_n 0, 1), (4, .iload_n 1, 1), (5, .lload_n 2, 1), (6, .invokevirtual 53, 3), (9, .i2l, 1), (10, .lastore, 1), (11, .goto 11, 3), (14, .astore 5, 2), (16, .iconst 1, 1), (17, .ireturn, 1), (18, .astore 5, 2), (20, .iconst 2, 1), (21, .ireturn, 1), (22, .iconst 0, 1), (23, .ireturn, 1)]
theorem t0_La_at_ok : t0_La_at.all (fun x => decide (decode c_La_at x.1 = .ok x.2)) = true := by decide +kernel
theorem d_La_at_0 : decode c_La_at 0 = .ok (.aload 4, 2) := dc_of (x := (0, .aload 4, 2)) t0_La_at_ok (i := 0) rfl
theorem d_La_at_2 : decode c_La_at 2 = .ok (.iconst 0, 1) := dc_of (x := (2, .iconst 0, 1)) t0_La_at_ok (i := 1) rfl
theorem d_La_at_3 : decode c_La_at 3 = .ok (.aload_n 0, 1) := dc_of (x := (3, .aload_n 0, 1)) t0_La_at_ok (i := 2) rfl
theorem d_La_at_4 : decode c_La_at 4 = .ok (.iload_n 1, 1) := dc_of (x := (4, .iload_n 1, 1)) t0_La_at_ok (i := 3) rfl
theorem d_La_at_5 : decode c_La_at 5 = .ok (.lload_n 2, 1) := dc_of (x := (5, .lload_n 2, 1)) t0_La_at_ok (i := 4) rfl
theorem d_La_at_6 : decode c_La_at 6 = .ok (.invokevirtual 53, 3) := dc_of (x := (6, .invokevirtual 53, 3)) t0_La_at_ok (i := 5) rfl
theorem d_La_at_9 : decode c_La_at 9 = .ok (.i2l, 1) := dc_of (x := (9, .i2l, 1)) t0_La_at_ok (i := 6) rfl
theorem d_La_at_10 : decode c_La_at 10 = .ok (.lastore, 1) := dc_of (x := (10, .lastore, 1)) t0_La_at_ok (i := 7) rfl
theorem d_La_at_11 : decode c_La_at 11 = .ok (.goto 11, 3) := dc_of (x := (11, .goto 11, 3)) t0_La_at_ok (i := 8) rfl
theorem d_La_at_14 : decode c_La_at 14 = .ok (.astore 5, 2) := dc_of (x := (14, .astore 5, 2)) t0_La_at_ok (i := 9) rfl
theorem d_La_at_16 : decode c_La_at 16 = .ok (.iconst 1, 1) := dc_of (x := (16, .iconst 1, 1)) t0_La_at_ok (i := 10) rfl
theorem d_La_at_17 : decode c_La_at 17 = .ok (.ireturn, 1) := dc_of (x := (17, .ireturn, 1)) t0_La_at_ok (i := 11) rfl
theorem d_La_at_18 : decode c_La_at 18 = .ok (.astore 5, 2) := dc_of (x := (18, .astore 5, 2)) t0_La_at_ok (i := 12) rfl
theorem d_La_at_20 : decode c_La_at 20 = .ok (.iconst 2, 1) := dc_of (x := (20, .iconst 2, 1)) t0_La_at_ok (i := 13) rfl
theorem d_La_at_21 : decode c_La_at 21 = .ok (.ireturn, 1) := dc_of (x := (21, .ireturn, 1)) t0_La_at_ok (i := 14) rfl
theorem d_La_at_22 : decode c_La_at 22 = .ok (.iconst 0, 1) := dc_of (x := (22, .iconst 0, 1)) t0_La_at_ok (i := 15) rfl
theorem d_La_at_23 : decode c_La_at 23 = .ok (.ireturn, 1) := dc_of (x := (23, .ireturn, 1)) t0_La_at_ok (i := 16) rfl
def t0_La_value : List (Nat × Instr × Nat) := [(0, .aload_n 2, 1), (1, .iconst 0, 1), (2, .aload_n 0, 1), (3, .iload_n 1, 1), (4, .invokevirtual 56, 3), (7, .i2l, 1), (8, .lastore, 1), (9, .goto 6, 3), (12, .astore_n 3, 1), (13, .iconst 1, 1), (14, .ireturn, 1), (15, .iconst 0, 1), (16, .ireturn, 1)]
theorem t0_La_value_ok : t0_La_value.all (fun x => decide (decode c_La_value x.1 = .ok x.2)) = true := by decide +kernel
theorem d_La_value_0 : decode c_La_value 0 = .ok (.aload_n 2, 1) := dc_of (x := (0, .aload_n 2, 1)) t0_La_value_ok (i := 0) rfl
theorem d_La_value_1 : decode c_La_value 1 = .ok (.iconst 0, 1) := dc_of (x := (1, .iconst 0, 1)) t0_La_value_ok (i := 1) rfl
theorem d_La_value_2 : decode c_La_value 2 = .ok (.aload_n 0, 1) := dc_of (x := (2, .aload_n 0, 1)) t0_La_value_ok (i := 2) rfl
theorem d_La_value_3 : decode c_La_value 3 = .ok (.iload_n 1, 1) := dc_of (x := (3, .iload_n 1, 1)) t0_La_value_ok (i := 3) rfl
theorem d_La_value_4 : decode c_La_value 4 = .ok (.invokevirtual 56, 3) := dc_of (x := (4, .invokevirtual 56, 3)) t0_La_value_ok (i := 4) rfl
theorem d_La_value_7 : decode c_La_value 7 = .ok (.i2l, 1) := dc_of (x := (7, .i2l, 1)) t0_La_value_ok (i := 5) rfl
theorem d_La_value_8 : decode c_La_value 8 = .ok (.lastore, 1) := dc_of (x := (8, .lastore, 1)) t0_La_value_ok (i := 6) rfl
theorem d_La_value_9 : decode c_La_value 9 = .ok (.goto 6, 3) := dc_of (x := (9, .goto 6, 3)) t0_La_value_ok (i := 7) rfl
theorem d_La_value_12 : decode c_La_value 12 = .ok (.astore_n 3, 1) := dc_of (x := (12, .astore_n 3, 1)) t0_La_value_ok (i := 8) rfl
theorem d_La_value_13 : decode c_La_value 13 = .ok (.iconst 1, 1) := dc_of (x := (13, .iconst 1, 1)) t0_La_value_ok (i := 9) rfl
theorem d_La_value_14 : decode c_La_value 14 = .ok (.ireturn, 1) := dc_of (x := (14, .ireturn, 1)) t0_La_value_ok (i := 10) rfl
theorem d_La_value_15 : decode c_La_value 15 = .ok (.iconst 0, 1) := dc_of (x := (15, .iconst 0, 1)) t0_La_value_ok (i := 11) rfl
theorem d_La_value_16 : decode c_La_value 16 = .ok (.ireturn, 1) := dc_of (x := (16, .ireturn, 1)) t0_La_value_ok (i := 12) rfl
def t0_La_change : List (Nat × Instr × Nat) := [(0, .aload_n 3, 1), (1, .iconst 0, 1), (2, .aload_n 0, 1), (3, .iload_n 1, 1), (4, .iload_n 2, 1), (5, .invokevirtual 59, 3), (8, .i2l, 1), (9, .lastore, 1), (10, .goto 7, 3), (13, .astore 4, 2), (15, .iconst 1, 1), (16, .ireturn, 1), (17, .iconst 0, 1), (18, .ireturn, 1)]
theorem t0_La_change_ok : t0_La_change.all (fun x => decide (decode c_La_change x.1 = .ok x.2)) = true := by decide +kernel
theorem d_La_change_0 : decode c_La_change 0 = .ok (.aload_n 3, 1) := dc_of (x := (0, .aload_n 3, 1)) t0_La_change_ok (i := 0) rfl
theorem d_La_change_1 : decode c_La_change 1 = .ok (.iconst 0, 1) := dc_of (x := (1, .iconst 0, 1)) t0_La_change_ok (i := 1) rfl
theorem d_La_change_2 : decode c_La_change 2 = .ok (.aload_n 0, 1) := dc_of (x := (2, .aload_n 0, 1)) t0_La_change_ok (i := 2) rfl
theorem d_La_change_3 : decode c_La_change 3 = .ok (.iload_n 1, 1) := dc_of (x := (3, .iload_n 1, 1)) t0_La_change_ok (i := 3) rfl
theorem d_La_change_4 : decode c_La_change 4 = .ok (.iload_n 2, 1) := dc_of (x := (4, .iload_n 2, 1)) t0_La_change_ok (i := 4) rfl
theorem d_La_change_5 : decode c_La_change 5 = .ok (.invokevirtual 59, 3) := dc_of (x := (5, .invokevirtual 59, 3)) t0_La_change_ok (i := 5) rfl
theorem d_La_change_8 : decode c_La_change 8 = .ok (.i2l, 1) := dc_of (x := (8, .i2l, 1)) t0_La_change_ok (i := 6) rfl
theorem d_La_change_9 : decode c_La_change 9 = .ok (.lastore, 1) := dc_of (x := (9, .lastore, 1)) t0_La_change_ok (i := 7) rfl
theorem d_La_change_10 : decode c_La_change 10 = .ok (.goto 7, 3) := dc_of (x := (10, .goto 7, 3)) t0_La_change_ok (i := 8) rfl
theorem d_La_change_13 : decode c_La_change 13 = .ok (.astore 4, 2) := dc_of (x := (13, .astore 4, 2)) t0_La_change_ok (i := 9) rfl
theorem d_La_change_15 : decode c_La_change 15 = .ok (.iconst 1, 1) := dc_of (x := (15, .iconst 1, 1)) t0_La_change_ok (i := 10) rfl
theorem d_La_change_16 : decode c_La_change 16 = .ok (.ireturn, 1) := dc_of (x := (16, .ireturn, 1)) t0_La_change_ok (i := 11) rfl
theorem d_La_change_17 : decode c_La_change 17 = .ok (.iconst 0, 1) := dc_of (x := (17, .iconst 0, 1)) t0_La_change_ok (i := 12) rfl
theorem d_La_change_18 : decode c_La_change 18 = .ok (.ireturn, 1) := dc_of (x := (18, .ireturn, 1)) t0_La_change_ok (i := 13) rfl
def t0_La_counted : List (Nat × Instr × Nat) := [(0, .aload_n 2, 1), (1, .iconst 0, 1), (2, .aload_n 0, 1), (3, .iload_n 1, 1), (4, .invokevirtual 63, 3), (7, .lastore, 1), (8, .goto 6, 3), (11, .astore_n 3, 1), (12, .iconst 1, 1), (13, .ireturn, 1), (14, .iconst 0, 1), (15, .ireturn, 1)]
theorem t0_La_counted_ok : t0_La_counted.all (fun x => decide (decode c_La_counted x.1 = .ok x.2)) = true := by decide +kernel
theorem d_La_counted_0 : decode c_La_counted 0 = .ok (.aload_n 2, 1) := dc_of (x := (0, .aload_n 2, 1)) t0_La_counted_ok (i := 0) rfl
theorem d_La_counted_1 : decode c_La_counted 1 = .ok (.iconst 0, 1) := dc_of (x := (1, .iconst 0, 1)) t0_La_counted_ok (i := 1) rfl
theorem d_La_counted_2 : decode c_La_counted 2 = .ok (.aload_n 0, 1) := dc_of (x := (2, .aload_n 0, 1)) t0_La_counted_ok (i := 2) rfl
theorem d_La_counted_3 : decode c_La_counted 3 = .ok (.iload_n 1, 1) := dc_of (x := (3, .iload_n 1, 1)) t0_La_counted_ok (i := 3) rfl
theorem d_La_counted_4 : decode c_La_counted 4 = .ok (.invokevirtual 63, 3) := dc_of (x := (4, .invokevirtual 63, 3)) t0_La_counted_ok (i := 4) rfl
theorem d_La_counted_7 : decode c_La_counted 7 = .ok (.lastore, 1) := dc_of (x := (7, .lastore, 1)) t0_La_counted_ok (i := 5) rfl
theorem d_La_counted_8 : decode c_La_counted 8 = .ok (.goto 6, 3) := dc_of (x := (8, .goto 6, 3)) t0_La_counted_ok (i := 6) rfl
theorem d_La_counted_11 : decode c_La_counted 11 = .ok (.astore_n 3, 1) := dc_of (x := (11, .astore_n 3, 1)) t0_La_counted_ok (i := 7) rfl
theorem d_La_counted_12 : decode c_La_counted 12 = .ok (.iconst 1, 1) := dc_of (x := (12, .iconst 1, 1)) t0_La_counted_ok (i := 8) rfl
theorem d_La_counted_13 : decode c_La_counted 13 = .ok (.ireturn, 1) := dc_of (x := (13, .ireturn, 1)) t0_La_counted_ok (i := 9) rfl
theorem d_La_counted_14 : decode c_La_counted 14 = .ok (.iconst 0, 1) := dc_of (x := (14, .iconst 0, 1)) t0_La_counted_ok (i := 10) rfl
theorem d_La_counted_15 : decode c_La_counted 15 = .ok (.ireturn, 1) := dc_of (x := (15, .ireturn, 1)) t0_La_counted_ok (i := 11) rfl
def t0_La_read : List (Nat × Instr × Nat) := [(0, .aload_n 1, 1), (1, .iconst 0, 1), (2, .aload_n 0, 1), (3, .invokevirtual 67, 3), (6, .i2l, 1), (7, .lastore, 1), (8, .goto 6, 3), (11, .astore_n 2, 1), (12, .iconst 1, 1), (13, .ireturn, 1), (14, .iconst 0, 1), (15, .ireturn, 1)]
theorem t0_La_read_ok : t0_La_read.all (fun x => decide (decode c_La_read x.1 = .ok x.2)) = true := by decide +kernel
theorem d_La_read_0 : decode c_La_read 0 = .ok (.aload_n 1, 1) := dc_of (x := (0, .aload_n 1, 1)) t0_La_read_ok (i := 0) rfl
theorem d_La_read_1 : decode c_La_read 1 = .ok (.iconst 0, 1) := dc_of (x := (1, .iconst 0, 1)) t0_La_read_ok (i := 1) rfl
theorem d_La_read_2 : decode c_La_read 2 = .ok (.aload_n 0, 1) := dc_of (x := (2, .aload_n 0, 1)) t0_La_read_ok (i := 2) rfl
theorem d_La_read_3 : decode c_La_read 3 = .ok (.invokevirtual 67, 3) := dc_of (x := (3, .invokevirtual 67, 3)) t0_La_read_ok (i := 3) rfl
theorem d_La_read_6 : decode c_La_read 6 = .ok (.i2l, 1) := dc_of (x := (6, .i2l, 1)) t0_La_read_ok (i := 4) rfl
theorem d_La_read_7 : decode c_La_read 7 = .ok (.lastore, 1) := dc_of (x := (7, .lastore, 1)) t0_La_read_ok (i := 5) rfl
theorem d_La_read_8 : decode c_La_read 8 = .ok (.goto 6, 3) := dc_of (x := (8, .goto 6, 3)) t0_La_read_ok (i := 6) rfl
theorem d_La_read_11 : decode c_La_read 11 = .ok (.astore_n 2, 1) := dc_of (x := (11, .astore_n 2, 1)) t0_La_read_ok (i := 7) rfl
theorem d_La_read_12 : decode c_La_read 12 = .ok (.iconst 1, 1) := dc_of (x := (12, .iconst 1, 1)) t0_La_read_ok (i := 8) rfl
theorem d_La_read_13 : decode c_La_read 13 = .ok (.ireturn, 1) := dc_of (x := (13, .ireturn, 1)) t0_La_read_ok (i := 9) rfl
theorem d_La_read_14 : decode c_La_read 14 = .ok (.iconst 0, 1) := dc_of (x := (14, .iconst 0, 1)) t0_La_read_ok (i := 10) rfl
theorem d_La_read_15 : decode c_La_read 15 = .ok (.ireturn, 1) := dc_of (x := (15, .ireturn, 1)) t0_La_read_ok (i := 11) rfl
def t0_La_write : List (Nat × Instr × Nat) := [(0, .aload_n 2, 1), (1, .iconst 0, 1), (2, .aload_n 0, 1), (3, .iload_n 1, 1), (4, .invokevirtual 70, 3), (7, .i2l, 1), (8, .lastore, 1), (9, .goto 6, 3), (12, .astore_n 3, 1), (13, .iconst 1, 1), (14, .ireturn, 1), (15, .iconst 0, 1), (16, .ireturn, 1)]
theorem t0_La_write_ok : t0_La_write.all (fun x => decide (decode c_La_write x.1 = .ok x.2)) = true := by decide +kernel
theorem d_La_write_0 : decode c_La_write 0 = .ok (.aload_n 2, 1) := dc_of (x := (0, .aload_n 2, 1)) t0_La_write_ok (i := 0) rfl
theorem d_La_write_1 : decode c_La_write 1 = .ok (.iconst 0, 1) := dc_of (x := (1, .iconst 0, 1)) t0_La_write_ok (i := 1) rfl
theorem d_La_write_2 : decode c_La_write 2 = .ok (.aload_n 0, 1) := dc_of (x := (2, .aload_n 0, 1)) t0_La_write_ok (i := 2) rfl
theorem d_La_write_3 : decode c_La_write 3 = .ok (.iload_n 1, 1) := dc_of (x := (3, .iload_n 1, 1)) t0_La_write_ok (i := 3) rfl
theorem d_La_write_4 : decode c_La_write 4 = .ok (.invokevirtual 70, 3) := dc_of (x := (4, .invokevirtual 70, 3)) t0_La_write_ok (i := 4) rfl
theorem d_La_write_7 : decode c_La_write 7 = .ok (.i2l, 1) := dc_of (x := (7, .i2l, 1)) t0_La_write_ok (i := 5) rfl
theorem d_La_write_8 : decode c_La_write 8 = .ok (.lastore, 1) := dc_of (x := (8, .lastore, 1)) t0_La_write_ok (i := 6) rfl
theorem d_La_write_9 : decode c_La_write 9 = .ok (.goto 6, 3) := dc_of (x := (9, .goto 6, 3)) t0_La_write_ok (i := 7) rfl
theorem d_La_write_12 : decode c_La_write 12 = .ok (.astore_n 3, 1) := dc_of (x := (12, .astore_n 3, 1)) t0_La_write_ok (i := 8) rfl
theorem d_La_write_13 : decode c_La_write 13 = .ok (.iconst 1, 1) := dc_of (x := (13, .iconst 1, 1)) t0_La_write_ok (i := 9) rfl
theorem d_La_write_14 : decode c_La_write 14 = .ok (.ireturn, 1) := dc_of (x := (14, .ireturn, 1)) t0_La_write_ok (i := 10) rfl
theorem d_La_write_15 : decode c_La_write 15 = .ok (.iconst 0, 1) := dc_of (x := (15, .iconst 0, 1)) t0_La_write_ok (i := 11) rfl
theorem d_La_write_16 : decode c_La_write 16 = .ok (.ireturn, 1) := dc_of (x := (16, .ireturn, 1)) t0_La_write_ok (i := 12) rfl
def t0_La_save : List (Nat × Instr × Nat) := [(0, .aload_n 1, 1), (1, .iconst 0, 1), (2, .aload_n 0, 1), (3, .invokevirtual 73, 3), (6, .i2l, 1), (7, .lastore, 1), (8, .goto 6, 3), (11, .astore_n 2, 1), (12, .iconst 1, 1), (13, .ireturn, 1), (14, .iconst 0, 1), (15, .ireturn, 1)]
theorem t0_La_save_ok : t0_La_save.all (fun x => decide (decode c_La_save x.1 = .ok x.2)) = true := by decide +kernel
theorem d_La_save_0 : decode c_La_save 0 = .ok (.aload_n 1, 1) := dc_of (x := (0, .aload_n 1, 1)) t0_La_save_ok (i := 0) rfl
theorem d_La_save_1 : decode c_La_save 1 = .ok (.iconst 0, 1) := dc_of (x := (1, .iconst 0, 1)) t0_La_save_ok (i := 1) rfl
theorem d_La_save_2 : decode c_La_save 2 = .ok (.aload_n 0, 1) := dc_of (x := (2, .aload_n 0, 1)) t0_La_save_ok (i := 2) rfl
theorem d_La_save_3 : decode c_La_save 3 = .ok (.invokevirtual 73, 3) := dc_of (x := (3, .invokevirtual 73, 3)) t0_La_save_ok (i := 3) rfl
theorem d_La_save_6 : decode c_La_save 6 = .ok (.i2l, 1) := dc_of (x := (6, .i2l, 1)) t0_La_save_ok (i := 4) rfl
theorem d_La_save_7 : decode c_La_save 7 = .ok (.lastore, 1) := dc_of (x := (7, .lastore, 1)) t0_La_save_ok (i := 5) rfl
theorem d_La_save_8 : decode c_La_save 8 = .ok (.goto 6, 3) := dc_of (x := (8, .goto 6, 3)) t0_La_save_ok (i := 6) rfl
theorem d_La_save_11 : decode c_La_save 11 = .ok (.astore_n 2, 1) := dc_of (x := (11, .astore_n 2, 1)) t0_La_save_ok (i := 7) rfl
theorem d_La_save_12 : decode c_La_save 12 = .ok (.iconst 1, 1) := dc_of (x := (12, .iconst 1, 1)) t0_La_save_ok (i := 8) rfl
theorem d_La_save_13 : decode c_La_save 13 = .ok (.ireturn, 1) := dc_of (x := (13, .ireturn, 1)) t0_La_save_ok (i := 9) rfl
theorem d_La_save_14 : decode c_La_save 14 = .ok (.iconst 0, 1) := dc_of (x := (14, .iconst 0, 1)) t0_La_save_ok (i := 10) rfl
theorem d_La_save_15 : decode c_La_save 15 = .ok (.ireturn, 1) := dc_of (x := (15, .ireturn, 1)) t0_La_save_ok (i := 11) rfl
def t0_La_law : List (Nat × Instr × Nat) := [(0, .new 8, 3), (3, .dup, 1), (4, .invokespecial 76, 3), (7, .astore_n 1, 1), (8, .new 77, 3), (11, .dup, 1), (12, .invokespecial 79, 3), (15, .astore_n 2, 1), (16, .iconst 1, 1), (17, .newarray .long, 2), (19, .astore_n 3, 1), (20, .iconst 0, 1), (21, .istore 4, 2), (23, .iload 4, 2), (25, .aload_n 0, 1), (26, .arraylength, 1), (27, .iconst 5, 1), (28, .isub, 1), (29, .if_icmp .gt 1458, 3), (32, .aload_n 0, 1), (33, .iload 4, 2), (35, .iaload, 1), (36, .bipush 31, 2), (38, .iand, 1), (39, .tableswitch 1442 0 20 #[97, 141, 233, 320, 383, 495, 607, 707, 799, 855, 942, 956, 1056, 1112, 1180, 1235, 1260, 1304, 1360, 1373, 1417], 97), (136, .aload_n 1, 1), (137, .aload_n 3, 1), (138, .invokestatic 80, 3), (141, .istore 5, 2), (143, .aload_n 2, 1), (144, .invokevirtual 85, 3), (147, .istore 6, 2), (149, .aload_n 2, 1), (150, .invokevirtual 86, 3), (153, .iload 5, 2), (155, .if_icmp .eq 5, 3), (158, .iconst 0, 1), (159, .ireturn, 1), (160, .iload 5, 2), (162, .ifCond .ne 15, 3), (165, .aload_n 3, 1), (166, .iconst 0, 1), (167, .laload, 1), (168, .iload 6, 2), (170, .i2l, 1), (171, .lcmp, 1), (172, .ifCond .eq 5, 3), (175, .iconst 0, 1), (176, .ireturn, 1), (177, .goto 1304, 3), (180, .aload_n 1, 1), (181, .aload_n 0, 1), (182, .iload 4, 2), (184, .iconst 1, 1), (185, .iadd, 1), (186, .iaload, 1), (187, .aload_n 0, 1), (188, .iload 4, 2), (190, .iconst 2, 1), (191, .iadd, 1)]
theorem t0_La_law_ok : t0_La_law.all (fun x => decide (decode c_La_law x.1 = .ok x.2)) = true := by decide +kernel
def t1_La_law : List (Nat × Instr × Nat) := [(192, .iaload, 1), (193, .aload_n 0, 1), (194, .iload 4, 2), (196, .iconst 3, 1), (197, .iadd, 1), (198, .iaload, 1), (199, .aload_n 0, 1), (200, .iload 4, 2), (202, .iconst 4, 1), (203, .iadd, 1), (204, .iaload, 1), (205, .aload_n 3, 1), (206, .invokestatic 89, 3), (209, .istore 5, 2), (211, .aload_n 2, 1), (212, .aload_n 0, 1), (213, .iload 4, 2), (215, .iconst 1, 1), (216, .iadd, 1), (217, .iaload, 1), (218, .aload_n 0, 1), (219, .iload 4, 2), (221, .iconst 2, 1), (222, .iadd, 1), (223, .iaload, 1), (224, .aload_n 0, 1), (225, .iload 4, 2), (227, .iconst 3, 1), (228, .iadd, 1), (229, .iaload, 1), (230, .aload_n 0, 1), (231, .iload 4, 2), (233, .iconst 4, 1), (234, .iadd, 1), (235, .iaload, 1), (236, .invokevirtual 92, 3), (239, .istore 6, 2), (241, .aload_n 2, 1), (242, .invokevirtual 86, 3), (245, .iload 5, 2), (247, .if_icmp .eq 5, 3), (250, .iconst 0, 1), (251, .ireturn, 1), (252, .iload 5, 2), (254, .ifCond .ne 15, 3), (257, .aload_n 3, 1), (258, .iconst 0, 1), (259, .laload, 1), (260, .iload 6, 2), (262, .i2l, 1), (263, .lcmp, 1), (264, .ifCond .eq 5, 3), (267, .iconst 0, 1), (268, .ireturn, 1), (269, .goto 1212, 3), (272, .aload_n 1, 1), (273, .aload_n 0, 1), (274, .iload 4, 2), (276, .iconst 1, 1), (277, .iadd, 1)]
theorem t1_La_law_ok : t1_La_law.all (fun x => decide (decode c_La_law x.1 = .ok x.2)) = true := by decide +kernel
def t2_La_law : List (Nat × Instr × Nat) := [(278, .iaload, 1), (279, .aload_n 0, 1), (280, .iload 4, 2), (282, .iconst 2, 1), (283, .iadd, 1), (284, .iaload, 1), (285, .aload_n 0, 1), (286, .iload 4, 2), (288, .iconst 3, 1), (289, .iadd, 1), (290, .iaload, 1), (291, .aload_n 3, 1), (292, .invokestatic 93, 3), (295, .istore 5, 2), (297, .aload_n 2, 1), (298, .aload_n 0, 1), (299, .iload 4, 2), (301, .iconst 1, 1), (302, .iadd, 1), (303, .iaload, 1), (304, .aload_n 0, 1), (305, .iload 4, 2), (307, .iconst 2, 1), (308, .iadd, 1), (309, .iaload, 1), (310, .aload_n 0, 1), (311, .iload 4, 2), (313, .iconst 3, 1), (314, .iadd, 1), (315, .iaload, 1), (316, .invokevirtual 96, 3), (319, .istore 6, 2), (321, .aload_n 2, 1), (322, .invokevirtual 86, 3), (325, .iload 5, 2), (327, .if_icmp .eq 5, 3), (330, .iconst 0, 1), (331, .ireturn, 1), (332, .iload 5, 2), (334, .ifCond .ne 22, 3), (337, .aload_n 3, 1), (338, .iconst 0, 1), (339, .laload, 1), (340, .iload 6, 2), (342, .ifCond .eq 7, 3), (345, .lconst 1, 1), (346, .goto 4, 3), (349, .lconst 0, 1), (350, .lcmp, 1), (351, .ifCond .eq 5, 3), (354, .iconst 0, 1), (355, .ireturn, 1), (356, .goto 1125, 3), (359, .aload_n 1, 1), (360, .aload_n 0, 1), (361, .iload 4, 2), (363, .iconst 1, 1), (364, .iadd, 1), (365, .iaload, 1), (366, .aload_n 3, 1)]
theorem t2_La_law_ok : t2_La_law.all (fun x => decide (decode c_La_law x.1 = .ok x.2)) = true := by decide +kernel
def t3_La_law : List (Nat × Instr × Nat) := [(367, .invokestatic 97, 3), (370, .istore 5, 2), (372, .aload_n 2, 1), (373, .aload_n 0, 1), (374, .iload 4, 2), (376, .iconst 1, 1), (377, .iadd, 1), (378, .iaload, 1), (379, .invokevirtual 100, 3), (382, .istore 6, 2), (384, .aload_n 2, 1), (385, .invokevirtual 86, 3), (388, .iload 5, 2), (390, .if_icmp .eq 5, 3), (393, .iconst 0, 1), (394, .ireturn, 1), (395, .iload 5, 2), (397, .ifCond .ne 22, 3), (400, .aload_n 3, 1), (401, .iconst 0, 1), (402, .laload, 1), (403, .iload 6, 2), (405, .ifCond .eq 7, 3), (408, .lconst 1, 1), (409, .goto 4, 3), (412, .lconst 0, 1), (413, .lcmp, 1), (414, .ifCond .eq 5, 3), (417, .iconst 0, 1), (418, .ireturn, 1), (419, .goto 1062, 3), (422, .aload_n 1, 1), (423, .aload_n 0, 1), (424, .iload 4, 2), (426, .iconst 1, 1), (427, .iadd, 1), (428, .iaload, 1), (429, .aload_n 0, 1), (430, .iload 4, 2), (432, .iconst 2, 1), (433, .iadd, 1), (434, .iaload, 1), (435, .i2l, 1), (436, .bipush 32, 2), (438, .lshl, 1), (439, .aload_n 0, 1), (440, .iload 4, 2), (442, .iconst 3, 1), (443, .iadd, 1), (444, .iaload, 1), (445, .i2l, 1), (446, .ldc2_w 101, 3), (449, .land, 1), (450, .lor, 1), (451, .aload_n 0, 1), (452, .iload 4, 2), (454, .iconst 4, 1), (455, .iadd, 1), (456, .iaload, 1), (457, .aload_n 3, 1)]
theorem t3_La_law_ok : t3_La_law.all (fun x => decide (decode c_La_law x.1 = .ok x.2)) = true := by decide +kernel
def t4_La_law : List (Nat × Instr × Nat) := [(458, .invokestatic 103, 3), (461, .istore 5, 2), (463, .aload_n 2, 1), (464, .aload_n 0, 1), (465, .iload 4, 2), (467, .iconst 1, 1), (468, .iadd, 1), (469, .iaload, 1), (470, .aload_n 0, 1), (471, .iload 4, 2), (473, .iconst 2, 1), (474, .iadd, 1), (475, .iaload, 1), (476, .i2l, 1), (477, .bipush 32, 2), (479, .lshl, 1), (480, .aload_n 0, 1), (481, .iload 4, 2), (483, .iconst 3, 1), (484, .iadd, 1), (485, .iaload, 1), (486, .i2l, 1), (487, .ldc2_w 101, 3), (490, .land, 1), (491, .lor, 1), (492, .aload_n 0, 1), (493, .iload 4, 2), (495, .iconst 4, 1), (496, .iadd, 1), (497, .iaload, 1), (498, .invokevirtual 106, 3), (501, .istore 6, 2), (503, .aload_n 2, 1), (504, .invokevirtual 86, 3), (507, .iload 5, 2), (509, .if_icmp .eq 5, 3), (512, .iconst 0, 1), (513, .ireturn, 1), (514, .iload 5, 2), (516, .ifCond .ne 15, 3), (519, .aload_n 3, 1), (520, .iconst 0, 1), (521, .laload, 1), (522, .iload 6, 2), (524, .i2l, 1), (525, .lcmp, 1), (526, .ifCond .eq 5, 3), (529, .iconst 0, 1), (530, .ireturn, 1), (531, .goto 950, 3), (534, .aload_n 1, 1), (535, .aload_n 0, 1), (536, .iload 4, 2), (538, .iconst 1, 1), (539, .iadd, 1), (540, .iaload, 1), (541, .aload_n 0, 1), (542, .iload 4, 2), (544, .iconst 2, 1), (545, .iadd, 1)]
theorem t4_La_law_ok : t4_La_law.all (fun x => decide (decode c_La_law x.1 = .ok x.2)) = true := by decide +kernel
def t5_La_law : List (Nat × Instr × Nat) := [(546, .iaload, 1), (547, .i2l, 1), (548, .bipush 32, 2), (550, .lshl, 1), (551, .aload_n 0, 1), (552, .iload 4, 2), (554, .iconst 3, 1), (555, .iadd, 1), (556, .iaload, 1), (557, .i2l, 1), (558, .ldc2_w 101, 3), (561, .land, 1), (562, .lor, 1), (563, .aload_n 0, 1), (564, .iload 4, 2), (566, .iconst 4, 1), (567, .iadd, 1), (568, .iaload, 1), (569, .aload_n 3, 1), (570, .invokestatic 107, 3), (573, .istore 5, 2), (575, .aload_n 2, 1), (576, .aload_n 0, 1), (577, .iload 4, 2), (579, .iconst 1, 1), (580, .iadd, 1), (581, .iaload, 1), (582, .aload_n 0, 1), (583, .iload 4, 2), (585, .iconst 2, 1), (586, .iadd, 1), (587, .iaload, 1), (588, .i2l, 1), (589, .bipush 32, 2), (591, .lshl, 1), (592, .aload_n 0, 1), (593, .iload 4, 2), (595, .iconst 3, 1), (596, .iadd, 1), (597, .iaload, 1), (598, .i2l, 1), (599, .ldc2_w 101, 3), (602, .land, 1), (603, .lor, 1), (604, .aload_n 0, 1), (605, .iload 4, 2), (607, .iconst 4, 1), (608, .iadd, 1), (609, .iaload, 1), (610, .invokevirtual 109, 3), (613, .istore 6, 2), (615, .aload_n 2, 1), (616, .invokevirtual 86, 3), (619, .iload 5, 2), (621, .if_icmp .eq 5, 3), (624, .iconst 0, 1), (625, .ireturn, 1), (626, .iload 5, 2), (628, .ifCond .ne 15, 3), (631, .aload_n 3, 1)]
theorem t5_La_law_ok : t5_La_law.all (fun x => decide (decode c_La_law x.1 = .ok x.2)) = true := by decide +kernel
def t6_La_law : List (Nat × Instr × Nat) := [(632, .iconst 0, 1), (633, .laload, 1), (634, .iload 6, 2), (636, .i2l, 1), (637, .lcmp, 1), (638, .ifCond .eq 5, 3), (641, .iconst 0, 1), (642, .ireturn, 1), (643, .goto 838, 3), (646, .aload_n 1, 1), (647, .aload_n 0, 1), (648, .iload 4, 2), (650, .iconst 1, 1), (651, .iadd, 1), (652, .iaload, 1), (653, .aload_n 0, 1), (654, .iload 4, 2), (656, .iconst 2, 1), (657, .iadd, 1), (658, .iaload, 1), (659, .i2l, 1), (660, .bipush 32, 2), (662, .lshl, 1), (663, .aload_n 0, 1), (664, .iload 4, 2), (666, .iconst 3, 1), (667, .iadd, 1), (668, .iaload, 1), (669, .i2l, 1), (670, .ldc2_w 101, 3), (673, .land, 1), (674, .lor, 1), (675, .aload_n 3, 1), (676, .invokestatic 110, 3), (679, .istore 5, 2), (681, .aload_n 2, 1), (682, .aload_n 0, 1), (683, .iload 4, 2), (685, .iconst 1, 1), (686, .iadd, 1), (687, .iaload, 1), (688, .aload_n 0, 1), (689, .iload 4, 2), (691, .iconst 2, 1), (692, .iadd, 1), (693, .iaload, 1), (694, .i2l, 1), (695, .bipush 32, 2), (697, .lshl, 1), (698, .aload_n 0, 1), (699, .iload 4, 2), (701, .iconst 3, 1), (702, .iadd, 1), (703, .iaload, 1), (704, .i2l, 1), (705, .ldc2_w 101, 3), (708, .land, 1), (709, .lor, 1), (710, .invokevirtual 113, 3), (713, .istore 6, 2)]
theorem t6_La_law_ok : t6_La_law.all (fun x => decide (decode c_La_law x.1 = .ok x.2)) = true := by decide +kernel
def t7_La_law : List (Nat × Instr × Nat) := [(715, .aload_n 2, 1), (716, .invokevirtual 86, 3), (719, .iload 5, 2), (721, .if_icmp .eq 5, 3), (724, .iconst 0, 1), (725, .ireturn, 1), (726, .iload 5, 2), (728, .ifCond .ne 15, 3), (731, .aload_n 3, 1), (732, .iconst 0, 1), (733, .laload, 1), (734, .iload 6, 2), (736, .i2l, 1), (737, .lcmp, 1), (738, .ifCond .eq 5, 3), (741, .iconst 0, 1), (742, .ireturn, 1), (743, .goto 738, 3), (746, .aload_n 1, 1), (747, .aload_n 0, 1), (748, .iload 4, 2), (750, .iconst 1, 1), (751, .iadd, 1), (752, .iaload, 1), (753, .aload_n 0, 1), (754, .iload 4, 2), (756, .iconst 2, 1), (757, .iadd, 1), (758, .iaload, 1), (759, .aload_n 0, 1), (760, .iload 4, 2), (762, .iconst 3, 1), (763, .iadd, 1), (764, .iaload, 1), (765, .aload_n 0, 1), (766, .iload 4, 2), (768, .iconst 4, 1), (769, .iadd, 1), (770, .iaload, 1), (771, .aload_n 3, 1), (772, .invokestatic 114, 3), (775, .istore 5, 2), (777, .aload_n 2, 1), (778, .aload_n 0, 1), (779, .iload 4, 2), (781, .iconst 1, 1), (782, .iadd, 1), (783, .iaload, 1), (784, .aload_n 0, 1), (785, .iload 4, 2), (787, .iconst 2, 1), (788, .iadd, 1), (789, .iaload, 1), (790, .aload_n 0, 1), (791, .iload 4, 2), (793, .iconst 3, 1), (794, .iadd, 1), (795, .iaload, 1), (796, .aload_n 0, 1), (797, .iload 4, 2)]
theorem t7_La_law_ok : t7_La_law.all (fun x => decide (decode c_La_law x.1 = .ok x.2)) = true := by decide +kernel
def t8_La_law : List (Nat × Instr × Nat) := [(799, .iconst 4, 1), (800, .iadd, 1), (801, .iaload, 1), (802, .invokevirtual 116, 3), (805, .istore 6, 2), (807, .aload_n 2, 1), (808, .invokevirtual 86, 3), (811, .iload 5, 2), (813, .if_icmp .eq 5, 3), (816, .iconst 0, 1), (817, .ireturn, 1), (818, .iload 5, 2), (820, .ifCond .ne 15, 3), (823, .aload_n 3, 1), (824, .iconst 0, 1), (825, .laload, 1), (826, .iload 6, 2), (828, .i2l, 1), (829, .lcmp, 1), (830, .ifCond .eq 5, 3), (833, .iconst 0, 1), (834, .ireturn, 1), (835, .goto 646, 3), (838, .aload_n 1, 1), (839, .aload_n 0, 1), (840, .iload 4, 2), (842, .iconst 1, 1), (843, .iadd, 1), (844, .iaload, 1), (845, .aload_n 3, 1), (846, .invokestatic 117, 3), (849, .istore 5, 2), (851, .aload_n 2, 1), (852, .aload_n 0, 1), (853, .iload 4, 2), (855, .iconst 1, 1), (856, .iadd, 1), (857, .iaload, 1), (858, .invokevirtual 119, 3), (861, .istore 6, 2), (863, .aload_n 2, 1), (864, .invokevirtual 86, 3), (867, .iload 5, 2), (869, .if_icmp .eq 5, 3), (872, .iconst 0, 1), (873, .ireturn, 1), (874, .iload 5, 2), (876, .ifCond .ne 15, 3), (879, .aload_n 3, 1), (880, .iconst 0, 1), (881, .laload, 1), (882, .iload 6, 2), (884, .i2l, 1), (885, .lcmp, 1), (886, .ifCond .eq 5, 3), (889, .iconst 0, 1), (890, .ireturn, 1), (891, .goto 590, 3), (894, .aload_n 1, 1), (895, .aload_n 0, 1)]
theorem t8_La_law_ok : t8_La_law.all (fun x => decide (decode c_La_law x.1 = .ok x.2)) = true := by decide +kernel
def t9_La_law : List (Nat × Instr × Nat) := [(896, .iload 4, 2), (898, .iconst 1, 1), (899, .iadd, 1), (900, .iaload, 1), (901, .i2l, 1), (902, .bipush 32, 2), (904, .lshl, 1), (905, .aload_n 0, 1), (906, .iload 4, 2), (908, .iconst 2, 1), (909, .iadd, 1), (910, .iaload, 1), (911, .i2l, 1), (912, .ldc2_w 101, 3), (915, .land, 1), (916, .lor, 1), (917, .aload_n 3, 1), (918, .invokestatic 120, 3), (921, .istore 5, 2), (923, .aload_n 2, 1), (924, .aload_n 0, 1), (925, .iload 4, 2), (927, .iconst 1, 1), (928, .iadd, 1), (929, .iaload, 1), (930, .i2l, 1), (931, .bipush 32, 2), (933, .lshl, 1), (934, .aload_n 0, 1), (935, .iload 4, 2), (937, .iconst 2, 1), (938, .iadd, 1), (939, .iaload, 1), (940, .i2l, 1), (941, .ldc2_w 101, 3), (944, .land, 1), (945, .lor, 1), (946, .invokevirtual 123, 3), (949, .lstore 6, 2), (951, .aload_n 2, 1), (952, .invokevirtual 86, 3), (955, .iload 5, 2), (957, .if_icmp .eq 5, 3), (960, .iconst 0, 1), (961, .ireturn, 1), (962, .iload 5, 2), (964, .ifCond .ne 14, 3), (967, .aload_n 3, 1), (968, .iconst 0, 1), (969, .laload, 1), (970, .lload 6, 2), (972, .lcmp, 1), (973, .ifCond .eq 5, 3), (976, .iconst 0, 1), (977, .ireturn, 1), (978, .goto 503, 3), (981, .aload_n 1, 1), (982, .invokevirtual 124, 3), (985, .aload_n 2, 1), (986, .invokevirtual 128, 3)]
theorem t9_La_law_ok : t9_La_law.all (fun x => decide (decode c_La_law x.1 = .ok x.2)) = true := by decide +kernel
def t10_La_law : List (Nat × Instr × Nat) := [(989, .lcmp, 1), (990, .ifCond .eq 491, 3), (993, .iconst 0, 1), (994, .ireturn, 1), (995, .aload_n 1, 1), (996, .aload_n 0, 1), (997, .iload 4, 2), (999, .iconst 1, 1), (1000, .iadd, 1), (1001, .iaload, 1), (1002, .aload_n 0, 1), (1003, .iload 4, 2), (1005, .iconst 2, 1), (1006, .iadd, 1), (1007, .iaload, 1), (1008, .i2l, 1), (1009, .bipush 32, 2), (1011, .lshl, 1), (1012, .aload_n 0, 1), (1013, .iload 4, 2), (1015, .iconst 3, 1), (1016, .iadd, 1), (1017, .iaload, 1), (1018, .i2l, 1), (1019, .ldc2_w 101, 3), (1022, .land, 1), (1023, .lor, 1), (1024, .aload_n 3, 1), (1025, .invokestatic 129, 3), (1028, .istore 5, 2), (1030, .aload_n 2, 1), (1031, .aload_n 0, 1), (1032, .iload 4, 2), (1034, .iconst 1, 1), (1035, .iadd, 1), (1036, .iaload, 1), (1037, .aload_n 0, 1), (1038, .iload 4, 2), (1040, .iconst 2, 1), (1041, .iadd, 1), (1042, .iaload, 1), (1043, .i2l, 1), (1044, .bipush 32, 2), (1046, .lshl, 1), (1047, .aload_n 0, 1), (1048, .iload 4, 2), (1050, .iconst 3, 1), (1051, .iadd, 1), (1052, .iaload, 1), (1053, .i2l, 1), (1054, .ldc2_w 101, 3), (1057, .land, 1), (1058, .lor, 1), (1059, .invokevirtual 131, 3), (1062, .istore 6, 2), (1064, .aload_n 2, 1), (1065, .invokevirtual 86, 3), (1068, .iload 5, 2), (1070, .if_icmp .eq 5, 3), (1073, .iconst 0, 1)]
theorem t10_La_law_ok : t10_La_law.all (fun x => decide (decode c_La_law x.1 = .ok x.2)) = true := by decide +kernel
def t11_La_law : List (Nat × Instr × Nat) := [(1074, .ireturn, 1), (1075, .iload 5, 2), (1077, .ifCond .ne 15, 3), (1080, .aload_n 3, 1), (1081, .iconst 0, 1), (1082, .laload, 1), (1083, .iload 6, 2), (1085, .i2l, 1), (1086, .lcmp, 1), (1087, .ifCond .eq 5, 3), (1090, .iconst 0, 1), (1091, .ireturn, 1), (1092, .goto 389, 3), (1095, .aload_n 1, 1), (1096, .aload_n 0, 1), (1097, .iload 4, 2), (1099, .iconst 1, 1), (1100, .iadd, 1), (1101, .iaload, 1), (1102, .aload_n 3, 1), (1103, .invokestatic 132, 3), (1106, .istore 5, 2), (1108, .aload_n 2, 1), (1109, .aload_n 0, 1), (1110, .iload 4, 2), (1112, .iconst 1, 1), (1113, .iadd, 1), (1114, .iaload, 1), (1115, .invokevirtual 134, 3), (1118, .istore 6, 2), (1120, .aload_n 2, 1), (1121, .invokevirtual 86, 3), (1124, .iload 5, 2), (1126, .if_icmp .eq 5, 3), (1129, .iconst 0, 1), (1130, .ireturn, 1), (1131, .iload 5, 2), (1133, .ifCond .ne 15, 3), (1136, .aload_n 3, 1), (1137, .iconst 0, 1), (1138, .laload, 1), (1139, .iload 6, 2), (1141, .i2l, 1), (1142, .lcmp, 1), (1143, .ifCond .eq 5, 3), (1146, .iconst 0, 1), (1147, .ireturn, 1), (1148, .goto 333, 3), (1151, .aload_n 1, 1), (1152, .aload_n 0, 1), (1153, .iload 4, 2), (1155, .iconst 1, 1), (1156, .iadd, 1), (1157, .iaload, 1), (1158, .aload_n 0, 1), (1159, .iload 4, 2), (1161, .iconst 2, 1), (1162, .iadd, 1), (1163, .iaload, 1), (1164, .aload_n 3, 1)]
theorem t11_La_law_ok : t11_La_law.all (fun x => decide (decode c_La_law x.1 = .ok x.2)) = true := by decide +kernel
def t12_La_law : List (Nat × Instr × Nat) := [(1165, .invokestatic 135, 3), (1168, .istore 5, 2), (1170, .aload_n 2, 1), (1171, .aload_n 0, 1), (1172, .iload 4, 2), (1174, .iconst 1, 1), (1175, .iadd, 1), (1176, .iaload, 1), (1177, .aload_n 0, 1), (1178, .iload 4, 2), (1180, .iconst 2, 1), (1181, .iadd, 1), (1182, .iaload, 1), (1183, .invokevirtual 138, 3), (1186, .istore 6, 2), (1188, .aload_n 2, 1), (1189, .invokevirtual 86, 3), (1192, .iload 5, 2), (1194, .if_icmp .eq 5, 3), (1197, .iconst 0, 1), (1198, .ireturn, 1), (1199, .iload 5, 2), (1201, .ifCond .ne 15, 3), (1204, .aload_n 3, 1), (1205, .iconst 0, 1), (1206, .laload, 1), (1207, .iload 6, 2), (1209, .i2l, 1), (1210, .lcmp, 1), (1211, .ifCond .eq 5, 3), (1214, .iconst 0, 1), (1215, .ireturn, 1), (1216, .goto 265, 3), (1219, .aload_n 1, 1), (1220, .aload_n 0, 1), (1221, .iload 4, 2), (1223, .iconst 1, 1), (1224, .iadd, 1), (1225, .iaload, 1), (1226, .aload_n 3, 1), (1227, .invokestatic 139, 3), (1230, .istore 5, 2), (1232, .aload_n 2, 1), (1233, .aload_n 0, 1), (1234, .iload 4, 2), (1236, .iconst 1, 1), (1237, .iadd, 1), (1238, .iaload, 1), (1239, .invokevirtual 141, 3), (1242, .lstore 6, 2), (1244, .aload_n 2, 1), (1245, .invokevirtual 86, 3), (1248, .iload 5, 2), (1250, .if_icmp .eq 5, 3), (1253, .iconst 0, 1), (1254, .ireturn, 1), (1255, .iload 5, 2), (1257, .ifCond .ne 14, 3), (1260, .aload_n 3, 1), (1261, .iconst 0, 1)]
theorem t12_La_law_ok : t12_La_law.all (fun x => decide (decode c_La_law x.1 = .ok x.2)) = true := by decide +kernel
def t13_La_law : List (Nat × Instr × Nat) := [(1262, .laload, 1), (1263, .lload 6, 2), (1265, .lcmp, 1), (1266, .ifCond .eq 5, 3), (1269, .iconst 0, 1), (1270, .ireturn, 1), (1271, .goto 210, 3), (1274, .aload_n 1, 1), (1275, .aload_n 0, 1), (1276, .iload 4, 2), (1278, .iconst 1, 1), (1279, .iadd, 1), (1280, .iaload, 1), (1281, .invokevirtual 142, 3), (1284, .aload_n 2, 1), (1285, .aload_n 0, 1), (1286, .iload 4, 2), (1288, .iconst 1, 1), (1289, .iadd, 1), (1290, .iaload, 1), (1291, .invokevirtual 145, 3), (1294, .if_icmp .eq 187, 3), (1297, .iconst 0, 1), (1298, .ireturn, 1), (1299, .aload_n 1, 1), (1300, .aload_n 3, 1), (1301, .invokestatic 146, 3), (1304, .istore 5, 2), (1306, .aload_n 2, 1), (1307, .invokevirtual 148, 3), (1310, .istore 6, 2), (1312, .aload_n 2, 1), (1313, .invokevirtual 86, 3), (1316, .iload 5, 2), (1318, .if_icmp .eq 5, 3), (1321, .iconst 0, 1), (1322, .ireturn, 1), (1323, .iload 5, 2), (1325, .ifCond .ne 15, 3), (1328, .aload_n 3, 1), (1329, .iconst 0, 1), (1330, .laload, 1), (1331, .iload 6, 2), (1333, .i2l, 1), (1334, .lcmp, 1), (1335, .ifCond .eq 5, 3), (1338, .iconst 0, 1), (1339, .ireturn, 1), (1340, .goto 141, 3), (1343, .aload_n 1, 1), (1344, .aload_n 0, 1), (1345, .iload 4, 2), (1347, .iconst 1, 1), (1348, .iadd, 1), (1349, .iaload, 1), (1350, .aload_n 3, 1), (1351, .invokestatic 149, 3), (1354, .istore 5, 2), (1356, .aload_n 2, 1), (1357, .aload_n 0, 1)]
theorem t13_La_law_ok : t13_La_law.all (fun x => decide (decode c_La_law x.1 = .ok x.2)) = true := by decide +kernel
def t14_La_law : List (Nat × Instr × Nat) := [(1358, .iload 4, 2), (1360, .iconst 1, 1), (1361, .iadd, 1), (1362, .iaload, 1), (1363, .invokevirtual 151, 3), (1366, .istore 6, 2), (1368, .aload_n 2, 1), (1369, .invokevirtual 86, 3), (1372, .iload 5, 2), (1374, .if_icmp .eq 5, 3), (1377, .iconst 0, 1), (1378, .ireturn, 1), (1379, .iload 5, 2), (1381, .ifCond .ne 15, 3), (1384, .aload_n 3, 1), (1385, .iconst 0, 1), (1386, .laload, 1), (1387, .iload 6, 2), (1389, .i2l, 1), (1390, .lcmp, 1), (1391, .ifCond .eq 5, 3), (1394, .iconst 0, 1), (1395, .ireturn, 1), (1396, .goto 85, 3), (1399, .aload_n 1, 1), (1400, .invokevirtual 152, 3), (1403, .aload_n 2, 1), (1404, .invokevirtual 155, 3), (1407, .if_icmp .eq 74, 3), (1410, .iconst 0, 1), (1411, .ireturn, 1), (1412, .aload_n 1, 1), (1413, .aload_n 3, 1), (1414, .invokestatic 156, 3), (1417, .istore 5, 2), (1419, .aload_n 2, 1), (1420, .invokevirtual 158, 3), (1423, .istore 6, 2), (1425, .aload_n 2, 1), (1426, .invokevirtual 86, 3), (1429, .iload 5, 2), (1431, .if_icmp .eq 5, 3), (1434, .iconst 0, 1), (1435, .ireturn, 1), (1436, .iload 5, 2), (1438, .ifCond .ne 15, 3), (1441, .aload_n 3, 1), (1442, .iconst 0, 1), (1443, .laload, 1), (1444, .iload 6, 2), (1446, .i2l, 1), (1447, .lcmp, 1), (1448, .ifCond .eq 5, 3), (1451, .iconst 0, 1), (1452, .ireturn, 1), (1453, .goto 28, 3), (1456, .aload_n 1, 1), (1457, .aload_n 0, 1), (1458, .iload 4, 2), (1460, .iconst 1, 1)]
theorem t14_La_law_ok : t14_La_law.all (fun x => decide (decode c_La_law x.1 = .ok x.2)) = true := by decide +kernel
def t15_La_law : List (Nat × Instr × Nat) := [(1461, .iadd, 1), (1462, .iaload, 1), (1463, .invokevirtual 159, 3), (1466, .aload_n 2, 1), (1467, .aload_n 0, 1), (1468, .iload 4, 2), (1470, .iconst 1, 1), (1471, .iadd, 1), (1472, .iaload, 1), (1473, .invokevirtual 162, 3), (1476, .if_icmp .eq 5, 3), (1479, .iconst 0, 1), (1480, .ireturn, 1), (1481, .iinc 4 5, 3), (1484, .goto (-1461), 3), (1487, .iconst 1, 1), (1488, .ireturn, 1)]
theorem t15_La_law_ok : t15_La_law.all (fun x => decide (decode c_La_law x.1 = .ok x.2)) = true := by decide +kernel
theorem d_La_law_0 : decode c_La_law 0 = .ok (.new 8, 3) := dc_of (x := (0, .new 8, 3)) t0_La_law_ok (i := 0) rfl
theorem d_La_law_3 : decode c_La_law 3 = .ok (.dup, 1) := dc_of (x := (3, .dup, 1)) t0_La_law_ok (i := 1) rfl
theorem d_La_law_4 : decode c_La_law 4 = .ok (.invokespecial 76, 3) := dc_of (x := (4, .invokespecial 76, 3)) t0_La_law_ok (i := 2) rfl
theorem d_La_law_7 : decode c_La_law 7 = .ok (.astore_n 1, 1) := dc_of (x := (7, .astore_n 1, 1)) t0_La_law_ok (i := 3) rfl
theorem d_La_law_8 : decode c_La_law 8 = .ok (.new 77, 3) := dc_of (x := (8, .new 77, 3)) t0_La_law_ok (i := 4) rfl
theorem d_La_law_11 : decode c_La_law 11 = .ok (.dup, 1) := dc_of (x := (11, .dup, 1)) t0_La_law_ok (i := 5) rfl
theorem d_La_law_12 : decode c_La_law 12 = .ok (.invokespecial 79, 3) := dc_of (x := (12, .invokespecial 79, 3)) t0_La_law_ok (i := 6) rfl
theorem d_La_law_15 : decode c_La_law 15 = .ok (.astore_n 2, 1) := dc_of (x := (15, .astore_n 2, 1)) t0_La_law_ok (i := 7) rfl
theorem d_La_law_16 : decode c_La_law 16 = .ok (.iconst 1, 1) := dc_of (x := (16, .iconst 1, 1)) t0_La_law_ok (i := 8) rfl
theorem d_La_law_17 : decode c_La_law 17 = .ok (.newarray .long, 2) := dc_of (x := (17, .newarray .long, 2)) t0_La_law_ok (i := 9) rfl
theorem d_La_law_19 : decode c_La_law 19 = .ok (.astore_n 3, 1) := dc_of (x := (19, .astore_n 3, 1)) t0_La_law_ok (i := 10) rfl
theorem d_La_law_20 : decode c_La_law 20 = .ok (.iconst 0, 1) := dc_of (x := (20, .iconst 0, 1)) t0_La_law_ok (i := 11) rfl
theorem d_La_law_21 : decode c_La_law 21 = .ok (.istore 4, 2) := dc_of (x := (21, .istore 4, 2)) t0_La_law_ok (i := 12) rfl
theorem d_La_law_23 : decode c_La_law 23 = .ok (.iload 4, 2) := dc_of (x := (23, .iload 4, 2)) t0_La_law_ok (i := 13) rfl
theorem d_La_law_25 : decode c_La_law 25 = .ok (.aload_n 0, 1) := dc_of (x := (25, .aload_n 0, 1)) t0_La_law_ok (i := 14) rfl
theorem d_La_law_26 : decode c_La_law 26 = .ok (.arraylength, 1) := dc_of (x := (26, .arraylength, 1)) t0_La_law_ok (i := 15) rfl
theorem d_La_law_27 : decode c_La_law 27 = .ok (.iconst 5, 1) := dc_of (x := (27, .iconst 5, 1)) t0_La_law_ok (i := 16) rfl
theorem d_La_law_28 : decode c_La_law 28 = .ok (.isub, 1) := dc_of (x := (28, .isub, 1)) t0_La_law_ok (i := 17) rfl
theorem d_La_law_29 : decode c_La_law 29 = .ok (.if_icmp .gt 1458, 3) := dc_of (x := (29, .if_icmp .gt 1458, 3)) t0_La_law_ok (i := 18) rfl
theorem d_La_law_32 : decode c_La_law 32 = .ok (.aload_n 0, 1) := dc_of (x := (32, .aload_n 0, 1)) t0_La_law_ok (i := 19) rfl
theorem d_La_law_33 : decode c_La_law 33 = .ok (.iload 4, 2) := dc_of (x := (33, .iload 4, 2)) t0_La_law_ok (i := 20) rfl
theorem d_La_law_35 : decode c_La_law 35 = .ok (.iaload, 1) := dc_of (x := (35, .iaload, 1)) t0_La_law_ok (i := 21) rfl
theorem d_La_law_36 : decode c_La_law 36 = .ok (.bipush 31, 2) := dc_of (x := (36, .bipush 31, 2)) t0_La_law_ok (i := 22) rfl
theorem d_La_law_38 : decode c_La_law 38 = .ok (.iand, 1) := dc_of (x := (38, .iand, 1)) t0_La_law_ok (i := 23) rfl
theorem d_La_law_39 : decode c_La_law 39 = .ok (.tableswitch 1442 0 20 #[97, 141, 233, 320, 383, 495, 607, 707, 799, 855, 942, 956, 1056, 1112, 1180, 1235, 1260, 1304, 1360, 1373, 1417], 97) := dc_of (x := (39, .tableswitch 1442 0 20 #[97, 141, 233, 320, 383, 495, 607, 707, 799, 855, 942, 956, 1056, 1112, 1180, 1235, 1260, 1304, 1360, 1373, 1417], 97)) t0_La_law_ok (i := 24) rfl
theorem d_La_law_136 : decode c_La_law 136 = .ok (.aload_n 1, 1) := dc_of (x := (136, .aload_n 1, 1)) t0_La_law_ok (i := 25) rfl
theorem d_La_law_137 : decode c_La_law 137 = .ok (.aload_n 3, 1) := dc_of (x := (137, .aload_n 3, 1)) t0_La_law_ok (i := 26) rfl
theorem d_La_law_138 : decode c_La_law 138 = .ok (.invokestatic 80, 3) := dc_of (x := (138, .invokestatic 80, 3)) t0_La_law_ok (i := 27) rfl
theorem d_La_law_141 : decode c_La_law 141 = .ok (.istore 5, 2) := dc_of (x := (141, .istore 5, 2)) t0_La_law_ok (i := 28) rfl
theorem d_La_law_143 : decode c_La_law 143 = .ok (.aload_n 2, 1) := dc_of (x := (143, .aload_n 2, 1)) t0_La_law_ok (i := 29) rfl
theorem d_La_law_144 : decode c_La_law 144 = .ok (.invokevirtual 85, 3) := dc_of (x := (144, .invokevirtual 85, 3)) t0_La_law_ok (i := 30) rfl
theorem d_La_law_147 : decode c_La_law 147 = .ok (.istore 6, 2) := dc_of (x := (147, .istore 6, 2)) t0_La_law_ok (i := 31) rfl
theorem d_La_law_149 : decode c_La_law 149 = .ok (.aload_n 2, 1) := dc_of (x := (149, .aload_n 2, 1)) t0_La_law_ok (i := 32) rfl
theorem d_La_law_150 : decode c_La_law 150 = .ok (.invokevirtual 86, 3) := dc_of (x := (150, .invokevirtual 86, 3)) t0_La_law_ok (i := 33) rfl
theorem d_La_law_153 : decode c_La_law 153 = .ok (.iload 5, 2) := dc_of (x := (153, .iload 5, 2)) t0_La_law_ok (i := 34) rfl
theorem d_La_law_155 : decode c_La_law 155 = .ok (.if_icmp .eq 5, 3) := dc_of (x := (155, .if_icmp .eq 5, 3)) t0_La_law_ok (i := 35) rfl
theorem d_La_law_158 : decode c_La_law 158 = .ok (.iconst 0, 1) := dc_of (x := (158, .iconst 0, 1)) t0_La_law_ok (i := 36) rfl
theorem d_La_law_159 : decode c_La_law 159 = .ok (.ireturn, 1) := dc_of (x := (159, .ireturn, 1)) t0_La_law_ok (i := 37) rfl
theorem d_La_law_160 : decode c_La_law 160 = .ok (.iload 5, 2) := dc_of (x := (160, .iload 5, 2)) t0_La_law_ok (i := 38) rfl
theorem d_La_law_162 : decode c_La_law 162 = .ok (.ifCond .ne 15, 3) := dc_of (x := (162, .ifCond .ne 15, 3)) t0_La_law_ok (i := 39) rfl
theorem d_La_law_165 : decode c_La_law 165 = .ok (.aload_n 3, 1) := dc_of (x := (165, .aload_n 3, 1)) t0_La_law_ok (i := 40) rfl
theorem d_La_law_166 : decode c_La_law 166 = .ok (.iconst 0, 1) := dc_of (x := (166, .iconst 0, 1)) t0_La_law_ok (i := 41) rfl
theorem d_La_law_167 : decode c_La_law 167 = .ok (.laload, 1) := dc_of (x := (167, .laload, 1)) t0_La_law_ok (i := 42) rfl
theorem d_La_law_168 : decode c_La_law 168 = .ok (.iload 6, 2) := dc_of (x := (168, .iload 6, 2)) t0_La_law_ok (i := 43) rfl
theorem d_La_law_170 : decode c_La_law 170 = .ok (.i2l, 1) := dc_of (x := (170, .i2l, 1)) t0_La_law_ok (i := 44) rfl
theorem d_La_law_171 : decode c_La_law 171 = .ok (.lcmp, 1) := dc_of (x := (171, .lcmp, 1)) t0_La_law_ok (i := 45) rfl
theorem d_La_law_172 : decode c_La_law 172 = .ok (.ifCond .eq 5, 3) := dc_of (x := (172, .ifCond .eq 5, 3)) t0_La_law_ok (i := 46) rfl
theorem d_La_law_175 : decode c_La_law 175 = .ok (.iconst 0, 1) := dc_of (x := (175, .iconst 0, 1)) t0_La_law_ok (i := 47) rfl
theorem d_La_law_176 : decode c_La_law 176 = .ok (.ireturn, 1) := dc_of (x := (176, .ireturn, 1)) t0_La_law_ok (i := 48) rfl
theorem d_La_law_177 : decode c_La_law 177 = .ok (.goto 1304, 3) := dc_of (x := (177, .goto 1304, 3)) t0_La_law_ok (i := 49) rfl
theorem d_La_law_180 : decode c_La_law 180 = .ok (.aload_n 1, 1) := dc_of (x := (180, .aload_n 1, 1)) t0_La_law_ok (i := 50) rfl
theorem d_La_law_181 : decode c_La_law 181 = .ok (.aload_n 0, 1) := dc_of (x := (181, .aload_n 0, 1)) t0_La_law_ok (i := 51) rfl
theorem d_La_law_182 : decode c_La_law 182 = .ok (.iload 4, 2) := dc_of (x := (182, .iload 4, 2)) t0_La_law_ok (i := 52) rfl
theorem d_La_law_184 : decode c_La_law 184 = .ok (.iconst 1, 1) := dc_of (x := (184, .iconst 1, 1)) t0_La_law_ok (i := 53) rfl
theorem d_La_law_185 : decode c_La_law 185 = .ok (.iadd, 1) := dc_of (x := (185, .iadd, 1)) t0_La_law_ok (i := 54) rfl
theorem d_La_law_186 : decode c_La_law 186 = .ok (.iaload, 1) := dc_of (x := (186, .iaload, 1)) t0_La_law_ok (i := 55) rfl
theorem d_La_law_187 : decode c_La_law 187 = .ok (.aload_n 0, 1) := dc_of (x := (187, .aload_n 0, 1)) t0_La_law_ok (i := 56) rfl
theorem d_La_law_188 : decode c_La_law 188 = .ok (.iload 4, 2) := dc_of (x := (188, .iload 4, 2)) t0_La_law_ok (i := 57) rfl
theorem d_La_law_190 : decode c_La_law 190 = .ok (.iconst 2, 1) := dc_of (x := (190, .iconst 2, 1)) t0_La_law_ok (i := 58) rfl
theorem d_La_law_191 : decode c_La_law 191 = .ok (.iadd, 1) := dc_of (x := (191, .iadd, 1)) t0_La_law_ok (i := 59) rfl
theorem d_La_law_192 : decode c_La_law 192 = .ok (.iaload, 1) := dc_of (x := (192, .iaload, 1)) t1_La_law_ok (i := 0) rfl
theorem d_La_law_193 : decode c_La_law 193 = .ok (.aload_n 0, 1) := dc_of (x := (193, .aload_n 0, 1)) t1_La_law_ok (i := 1) rfl
theorem d_La_law_194 : decode c_La_law 194 = .ok (.iload 4, 2) := dc_of (x := (194, .iload 4, 2)) t1_La_law_ok (i := 2) rfl
theorem d_La_law_196 : decode c_La_law 196 = .ok (.iconst 3, 1) := dc_of (x := (196, .iconst 3, 1)) t1_La_law_ok (i := 3) rfl
theorem d_La_law_197 : decode c_La_law 197 = .ok (.iadd, 1) := dc_of (x := (197, .iadd, 1)) t1_La_law_ok (i := 4) rfl
theorem d_La_law_198 : decode c_La_law 198 = .ok (.iaload, 1) := dc_of (x := (198, .iaload, 1)) t1_La_law_ok (i := 5) rfl
theorem d_La_law_199 : decode c_La_law 199 = .ok (.aload_n 0, 1) := dc_of (x := (199, .aload_n 0, 1)) t1_La_law_ok (i := 6) rfl
theorem d_La_law_200 : decode c_La_law 200 = .ok (.iload 4, 2) := dc_of (x := (200, .iload 4, 2)) t1_La_law_ok (i := 7) rfl
theorem d_La_law_202 : decode c_La_law 202 = .ok (.iconst 4, 1) := dc_of (x := (202, .iconst 4, 1)) t1_La_law_ok (i := 8) rfl
theorem d_La_law_203 : decode c_La_law 203 = .ok (.iadd, 1) := dc_of (x := (203, .iadd, 1)) t1_La_law_ok (i := 9) rfl
theorem d_La_law_204 : decode c_La_law 204 = .ok (.iaload, 1) := dc_of (x := (204, .iaload, 1)) t1_La_law_ok (i := 10) rfl
theorem d_La_law_205 : decode c_La_law 205 = .ok (.aload_n 3, 1) := dc_of (x := (205, .aload_n 3, 1)) t1_La_law_ok (i := 11) rfl
theorem d_La_law_206 : decode c_La_law 206 = .ok (.invokestatic 89, 3) := dc_of (x := (206, .invokestatic 89, 3)) t1_La_law_ok (i := 12) rfl
theorem d_La_law_209 : decode c_La_law 209 = .ok (.istore 5, 2) := dc_of (x := (209, .istore 5, 2)) t1_La_law_ok (i := 13) rfl
theorem d_La_law_211 : decode c_La_law 211 = .ok (.aload_n 2, 1) := dc_of (x := (211, .aload_n 2, 1)) t1_La_law_ok (i := 14) rfl
theorem d_La_law_212 : decode c_La_law 212 = .ok (.aload_n 0, 1) := dc_of (x := (212, .aload_n 0, 1)) t1_La_law_ok (i := 15) rfl
theorem d_La_law_213 : decode c_La_law 213 = .ok (.iload 4, 2) := dc_of (x := (213, .iload 4, 2)) t1_La_law_ok (i := 16) rfl
theorem d_La_law_215 : decode c_La_law 215 = .ok (.iconst 1, 1) := dc_of (x := (215, .iconst 1, 1)) t1_La_law_ok (i := 17) rfl
theorem d_La_law_216 : decode c_La_law 216 = .ok (.iadd, 1) := dc_of (x := (216, .iadd, 1)) t1_La_law_ok (i := 18) rfl
theorem d_La_law_217 : decode c_La_law 217 = .ok (.iaload, 1) := dc_of (x := (217, .iaload, 1)) t1_La_law_ok (i := 19) rfl
theorem d_La_law_218 : decode c_La_law 218 = .ok (.aload_n 0, 1) := dc_of (x := (218, .aload_n 0, 1)) t1_La_law_ok (i := 20) rfl
theorem d_La_law_219 : decode c_La_law 219 = .ok (.iload 4, 2) := dc_of (x := (219, .iload 4, 2)) t1_La_law_ok (i := 21) rfl
theorem d_La_law_221 : decode c_La_law 221 = .ok (.iconst 2, 1) := dc_of (x := (221, .iconst 2, 1)) t1_La_law_ok (i := 22) rfl
theorem d_La_law_222 : decode c_La_law 222 = .ok (.iadd, 1) := dc_of (x := (222, .iadd, 1)) t1_La_law_ok (i := 23) rfl
theorem d_La_law_223 : decode c_La_law 223 = .ok (.iaload, 1) := dc_of (x := (223, .iaload, 1)) t1_La_law_ok (i := 24) rfl
theorem d_La_law_224 : decode c_La_law 224 = .ok (.aload_n 0, 1) := dc_of (x := (224, .aload_n 0, 1)) t1_La_law_ok (i := 25) rfl
theorem d_La_law_225 : decode c_La_law 225 = .ok (.iload 4, 2) := dc_of (x := (225, .iload 4, 2)) t1_La_law_ok (i := 26) rfl
theorem d_La_law_227 : decode c_La_law 227 = .ok (.iconst 3, 1) := dc_of (x := (227, .iconst 3, 1)) t1_La_law_ok (i := 27) rfl
theorem d_La_law_228 : decode c_La_law 228 = .ok (.iadd, 1) := dc_of (x := (228, .iadd, 1)) t1_La_law_ok (i := 28) rfl
theorem d_La_law_229 : decode c_La_law 229 = .ok (.iaload, 1) := dc_of (x := (229, .iaload, 1)) t1_La_law_ok (i := 29) rfl
theorem d_La_law_230 : decode c_La_law 230 = .ok (.aload_n 0, 1) := dc_of (x := (230, .aload_n 0, 1)) t1_La_law_ok (i := 30) rfl
theorem d_La_law_231 : decode c_La_law 231 = .ok (.iload 4, 2) := dc_of (x := (231, .iload 4, 2)) t1_La_law_ok (i := 31) rfl
theorem d_La_law_233 : decode c_La_law 233 = .ok (.iconst 4, 1) := dc_of (x := (233, .iconst 4, 1)) t1_La_law_ok (i := 32) rfl
theorem d_La_law_234 : decode c_La_law 234 = .ok (.iadd, 1) := dc_of (x := (234, .iadd, 1)) t1_La_law_ok (i := 33) rfl
theorem d_La_law_235 : decode c_La_law 235 = .ok (.iaload, 1) := dc_of (x := (235, .iaload, 1)) t1_La_law_ok (i := 34) rfl
theorem d_La_law_236 : decode c_La_law 236 = .ok (.invokevirtual 92, 3) := dc_of (x := (236, .invokevirtual 92, 3)) t1_La_law_ok (i := 35) rfl
theorem d_La_law_239 : decode c_La_law 239 = .ok (.istore 6, 2) := dc_of (x := (239, .istore 6, 2)) t1_La_law_ok (i := 36) rfl
theorem d_La_law_241 : decode c_La_law 241 = .ok (.aload_n 2, 1) := dc_of (x := (241, .aload_n 2, 1)) t1_La_law_ok (i := 37) rfl
theorem d_La_law_242 : decode c_La_law 242 = .ok (.invokevirtual 86, 3) := dc_of (x := (242, .invokevirtual 86, 3)) t1_La_law_ok (i := 38) rfl
theorem d_La_law_245 : decode c_La_law 245 = .ok (.iload 5, 2) := dc_of (x := (245, .iload 5, 2)) t1_La_law_ok (i := 39) rfl
theorem d_La_law_247 : decode c_La_law 247 = .ok (.if_icmp .eq 5, 3) := dc_of (x := (247, .if_icmp .eq 5, 3)) t1_La_law_ok (i := 40) rfl
theorem d_La_law_250 : decode c_La_law 250 = .ok (.iconst 0, 1) := dc_of (x := (250, .iconst 0, 1)) t1_La_law_ok (i := 41) rfl
theorem d_La_law_251 : decode c_La_law 251 = .ok (.ireturn, 1) := dc_of (x := (251, .ireturn, 1)) t1_La_law_ok (i := 42) rfl
theorem d_La_law_252 : decode c_La_law 252 = .ok (.iload 5, 2) := dc_of (x := (252, .iload 5, 2)) t1_La_law_ok (i := 43) rfl
theorem d_La_law_254 : decode c_La_law 254 = .ok (.ifCond .ne 15, 3) := dc_of (x := (254, .ifCond .ne 15, 3)) t1_La_law_ok (i := 44) rfl
theorem d_La_law_257 : decode c_La_law 257 = .ok (.aload_n 3, 1) := dc_of (x := (257, .aload_n 3, 1)) t1_La_law_ok (i := 45) rfl
theorem d_La_law_258 : decode c_La_law 258 = .ok (.iconst 0, 1) := dc_of (x := (258, .iconst 0, 1)) t1_La_law_ok (i := 46) rfl
theorem d_La_law_259 : decode c_La_law 259 = .ok (.laload, 1) := dc_of (x := (259, .laload, 1)) t1_La_law_ok (i := 47) rfl
theorem d_La_law_260 : decode c_La_law 260 = .ok (.iload 6, 2) := dc_of (x := (260, .iload 6, 2)) t1_La_law_ok (i := 48) rfl
theorem d_La_law_262 : decode c_La_law 262 = .ok (.i2l, 1) := dc_of (x := (262, .i2l, 1)) t1_La_law_ok (i := 49) rfl
theorem d_La_law_263 : decode c_La_law 263 = .ok (.lcmp, 1) := dc_of (x := (263, .lcmp, 1)) t1_La_law_ok (i := 50) rfl
theorem d_La_law_264 : decode c_La_law 264 = .ok (.ifCond .eq 5, 3) := dc_of (x := (264, .ifCond .eq 5, 3)) t1_La_law_ok (i := 51) rfl
theorem d_La_law_267 : decode c_La_law 267 = .ok (.iconst 0, 1) := dc_of (x := (267, .iconst 0, 1)) t1_La_law_ok (i := 52) rfl
theorem d_La_law_268 : decode c_La_law 268 = .ok (.ireturn, 1) := dc_of (x := (268, .ireturn, 1)) t1_La_law_ok (i := 53) rfl
theorem d_La_law_269 : decode c_La_law 269 = .ok (.goto 1212, 3) := dc_of (x := (269, .goto 1212, 3)) t1_La_law_ok (i := 54) rfl
theorem d_La_law_272 : decode c_La_law 272 = .ok (.aload_n 1, 1) := dc_of (x := (272, .aload_n 1, 1)) t1_La_law_ok (i := 55) rfl
theorem d_La_law_273 : decode c_La_law 273 = .ok (.aload_n 0, 1) := dc_of (x := (273, .aload_n 0, 1)) t1_La_law_ok (i := 56) rfl
theorem d_La_law_274 : decode c_La_law 274 = .ok (.iload 4, 2) := dc_of (x := (274, .iload 4, 2)) t1_La_law_ok (i := 57) rfl
theorem d_La_law_276 : decode c_La_law 276 = .ok (.iconst 1, 1) := dc_of (x := (276, .iconst 1, 1)) t1_La_law_ok (i := 58) rfl
theorem d_La_law_277 : decode c_La_law 277 = .ok (.iadd, 1) := dc_of (x := (277, .iadd, 1)) t1_La_law_ok (i := 59) rfl
theorem d_La_law_278 : decode c_La_law 278 = .ok (.iaload, 1) := dc_of (x := (278, .iaload, 1)) t2_La_law_ok (i := 0) rfl
theorem d_La_law_279 : decode c_La_law 279 = .ok (.aload_n 0, 1) := dc_of (x := (279, .aload_n 0, 1)) t2_La_law_ok (i := 1) rfl
theorem d_La_law_280 : decode c_La_law 280 = .ok (.iload 4, 2) := dc_of (x := (280, .iload 4, 2)) t2_La_law_ok (i := 2) rfl
theorem d_La_law_282 : decode c_La_law 282 = .ok (.iconst 2, 1) := dc_of (x := (282, .iconst 2, 1)) t2_La_law_ok (i := 3) rfl
theorem d_La_law_283 : decode c_La_law 283 = .ok (.iadd, 1) := dc_of (x := (283, .iadd, 1)) t2_La_law_ok (i := 4) rfl
theorem d_La_law_284 : decode c_La_law 284 = .ok (.iaload, 1) := dc_of (x := (284, .iaload, 1)) t2_La_law_ok (i := 5) rfl
theorem d_La_law_285 : decode c_La_law 285 = .ok (.aload_n 0, 1) := dc_of (x := (285, .aload_n 0, 1)) t2_La_law_ok (i := 6) rfl
theorem d_La_law_286 : decode c_La_law 286 = .ok (.iload 4, 2) := dc_of (x := (286, .iload 4, 2)) t2_La_law_ok (i := 7) rfl
theorem d_La_law_288 : decode c_La_law 288 = .ok (.iconst 3, 1) := dc_of (x := (288, .iconst 3, 1)) t2_La_law_ok (i := 8) rfl
theorem d_La_law_289 : decode c_La_law 289 = .ok (.iadd, 1) := dc_of (x := (289, .iadd, 1)) t2_La_law_ok (i := 9) rfl
theorem d_La_law_290 : decode c_La_law 290 = .ok (.iaload, 1) := dc_of (x := (290, .iaload, 1)) t2_La_law_ok (i := 10) rfl
theorem d_La_law_291 : decode c_La_law 291 = .ok (.aload_n 3, 1) := dc_of (x := (291, .aload_n 3, 1)) t2_La_law_ok (i := 11) rfl
theorem d_La_law_292 : decode c_La_law 292 = .ok (.invokestatic 93, 3) := dc_of (x := (292, .invokestatic 93, 3)) t2_La_law_ok (i := 12) rfl
theorem d_La_law_295 : decode c_La_law 295 = .ok (.istore 5, 2) := dc_of (x := (295, .istore 5, 2)) t2_La_law_ok (i := 13) rfl
theorem d_La_law_297 : decode c_La_law 297 = .ok (.aload_n 2, 1) := dc_of (x := (297, .aload_n 2, 1)) t2_La_law_ok (i := 14) rfl
theorem d_La_law_298 : decode c_La_law 298 = .ok (.aload_n 0, 1) := dc_of (x := (298, .aload_n 0, 1)) t2_La_law_ok (i := 15) rfl
theorem d_La_law_299 : decode c_La_law 299 = .ok (.iload 4, 2) := dc_of (x := (299, .iload 4, 2)) t2_La_law_ok (i := 16) rfl
theorem d_La_law_301 : decode c_La_law 301 = .ok (.iconst 1, 1) := dc_of (x := (301, .iconst 1, 1)) t2_La_law_ok (i := 17) rfl
theorem d_La_law_302 : decode c_La_law 302 = .ok (.iadd, 1) := dc_of (x := (302, .iadd, 1)) t2_La_law_ok (i := 18) rfl
theorem d_La_law_303 : decode c_La_law 303 = .ok (.iaload, 1) := dc_of (x := (303, .iaload, 1)) t2_La_law_ok (i := 19) rfl
theorem d_La_law_304 : decode c_La_law 304 = .ok (.aload_n 0, 1) := dc_of (x := (304, .aload_n 0, 1)) t2_La_law_ok (i := 20) rfl
theorem d_La_law_305 : decode c_La_law 305 = .ok (.iload 4, 2) := dc_of (x := (305, .iload 4, 2)) t2_La_law_ok (i := 21) rfl
theorem d_La_law_307 : decode c_La_law 307 = .ok (.iconst 2, 1) := dc_of (x := (307, .iconst 2, 1)) t2_La_law_ok (i := 22) rfl
theorem d_La_law_308 : decode c_La_law 308 = .ok (.iadd, 1) := dc_of (x := (308, .iadd, 1)) t2_La_law_ok (i := 23) rfl
theorem d_La_law_309 : decode c_La_law 309 = .ok (.iaload, 1) := dc_of (x := (309, .iaload, 1)) t2_La_law_ok (i := 24) rfl
theorem d_La_law_310 : decode c_La_law 310 = .ok (.aload_n 0, 1) := dc_of (x := (310, .aload_n 0, 1)) t2_La_law_ok (i := 25) rfl
theorem d_La_law_311 : decode c_La_law 311 = .ok (.iload 4, 2) := dc_of (x := (311, .iload 4, 2)) t2_La_law_ok (i := 26) rfl
theorem d_La_law_313 : decode c_La_law 313 = .ok (.iconst 3, 1) := dc_of (x := (313, .iconst 3, 1)) t2_La_law_ok (i := 27) rfl
theorem d_La_law_314 : decode c_La_law 314 = .ok (.iadd, 1) := dc_of (x := (314, .iadd, 1)) t2_La_law_ok (i := 28) rfl
theorem d_La_law_315 : decode c_La_law 315 = .ok (.iaload, 1) := dc_of (x := (315, .iaload, 1)) t2_La_law_ok (i := 29) rfl
theorem d_La_law_316 : decode c_La_law 316 = .ok (.invokevirtual 96, 3) := dc_of (x := (316, .invokevirtual 96, 3)) t2_La_law_ok (i := 30) rfl
theorem d_La_law_319 : decode c_La_law 319 = .ok (.istore 6, 2) := dc_of (x := (319, .istore 6, 2)) t2_La_law_ok (i := 31) rfl
theorem d_La_law_321 : decode c_La_law 321 = .ok (.aload_n 2, 1) := dc_of (x := (321, .aload_n 2, 1)) t2_La_law_ok (i := 32) rfl
theorem d_La_law_322 : decode c_La_law 322 = .ok (.invokevirtual 86, 3) := dc_of (x := (322, .invokevirtual 86, 3)) t2_La_law_ok (i := 33) rfl
theorem d_La_law_325 : decode c_La_law 325 = .ok (.iload 5, 2) := dc_of (x := (325, .iload 5, 2)) t2_La_law_ok (i := 34) rfl
theorem d_La_law_327 : decode c_La_law 327 = .ok (.if_icmp .eq 5, 3) := dc_of (x := (327, .if_icmp .eq 5, 3)) t2_La_law_ok (i := 35) rfl
theorem d_La_law_330 : decode c_La_law 330 = .ok (.iconst 0, 1) := dc_of (x := (330, .iconst 0, 1)) t2_La_law_ok (i := 36) rfl
theorem d_La_law_331 : decode c_La_law 331 = .ok (.ireturn, 1) := dc_of (x := (331, .ireturn, 1)) t2_La_law_ok (i := 37) rfl
theorem d_La_law_332 : decode c_La_law 332 = .ok (.iload 5, 2) := dc_of (x := (332, .iload 5, 2)) t2_La_law_ok (i := 38) rfl
theorem d_La_law_334 : decode c_La_law 334 = .ok (.ifCond .ne 22, 3) := dc_of (x := (334, .ifCond .ne 22, 3)) t2_La_law_ok (i := 39) rfl
theorem d_La_law_337 : decode c_La_law 337 = .ok (.aload_n 3, 1) := dc_of (x := (337, .aload_n 3, 1)) t2_La_law_ok (i := 40) rfl
theorem d_La_law_338 : decode c_La_law 338 = .ok (.iconst 0, 1) := dc_of (x := (338, .iconst 0, 1)) t2_La_law_ok (i := 41) rfl
theorem d_La_law_339 : decode c_La_law 339 = .ok (.laload, 1) := dc_of (x := (339, .laload, 1)) t2_La_law_ok (i := 42) rfl
theorem d_La_law_340 : decode c_La_law 340 = .ok (.iload 6, 2) := dc_of (x := (340, .iload 6, 2)) t2_La_law_ok (i := 43) rfl
theorem d_La_law_342 : decode c_La_law 342 = .ok (.ifCond .eq 7, 3) := dc_of (x := (342, .ifCond .eq 7, 3)) t2_La_law_ok (i := 44) rfl
theorem d_La_law_345 : decode c_La_law 345 = .ok (.lconst 1, 1) := dc_of (x := (345, .lconst 1, 1)) t2_La_law_ok (i := 45) rfl
theorem d_La_law_346 : decode c_La_law 346 = .ok (.goto 4, 3) := dc_of (x := (346, .goto 4, 3)) t2_La_law_ok (i := 46) rfl
theorem d_La_law_349 : decode c_La_law 349 = .ok (.lconst 0, 1) := dc_of (x := (349, .lconst 0, 1)) t2_La_law_ok (i := 47) rfl
theorem d_La_law_350 : decode c_La_law 350 = .ok (.lcmp, 1) := dc_of (x := (350, .lcmp, 1)) t2_La_law_ok (i := 48) rfl
theorem d_La_law_351 : decode c_La_law 351 = .ok (.ifCond .eq 5, 3) := dc_of (x := (351, .ifCond .eq 5, 3)) t2_La_law_ok (i := 49) rfl
theorem d_La_law_354 : decode c_La_law 354 = .ok (.iconst 0, 1) := dc_of (x := (354, .iconst 0, 1)) t2_La_law_ok (i := 50) rfl
theorem d_La_law_355 : decode c_La_law 355 = .ok (.ireturn, 1) := dc_of (x := (355, .ireturn, 1)) t2_La_law_ok (i := 51) rfl
theorem d_La_law_356 : decode c_La_law 356 = .ok (.goto 1125, 3) := dc_of (x := (356, .goto 1125, 3)) t2_La_law_ok (i := 52) rfl
theorem d_La_law_359 : decode c_La_law 359 = .ok (.aload_n 1, 1) := dc_of (x := (359, .aload_n 1, 1)) t2_La_law_ok (i := 53) rfl
theorem d_La_law_360 : decode c_La_law 360 = .ok (.aload_n 0, 1) := dc_of (x := (360, .aload_n 0, 1)) t2_La_law_ok (i := 54) rfl
theorem d_La_law_361 : decode c_La_law 361 = .ok (.iload 4, 2) := dc_of (x := (361, .iload 4, 2)) t2_La_law_ok (i := 55) rfl
theorem d_La_law_363 : decode c_La_law 363 = .ok (.iconst 1, 1) := dc_of (x := (363, .iconst 1, 1)) t2_La_law_ok (i := 56) rfl
theorem d_La_law_364 : decode c_La_law 364 = .ok (.iadd, 1) := dc_of (x := (364, .iadd, 1)) t2_La_law_ok (i := 57) rfl
theorem d_La_law_365 : decode c_La_law 365 = .ok (.iaload, 1) := dc_of (x := (365, .iaload, 1)) t2_La_law_ok (i := 58) rfl
theorem d_La_law_366 : decode c_La_law 366 = .ok (.aload_n 3, 1) := dc_of (x := (366, .aload_n 3, 1)) t2_La_law_ok (i := 59) rfl
theorem d_La_law_367 : decode c_La_law 367 = .ok (.invokestatic 97, 3) := dc_of (x := (367, .invokestatic 97, 3)) t3_La_law_ok (i := 0) rfl
theorem d_La_law_370 : decode c_La_law 370 = .ok (.istore 5, 2) := dc_of (x := (370, .istore 5, 2)) t3_La_law_ok (i := 1) rfl
theorem d_La_law_372 : decode c_La_law 372 = .ok (.aload_n 2, 1) := dc_of (x := (372, .aload_n 2, 1)) t3_La_law_ok (i := 2) rfl
theorem d_La_law_373 : decode c_La_law 373 = .ok (.aload_n 0, 1) := dc_of (x := (373, .aload_n 0, 1)) t3_La_law_ok (i := 3) rfl
theorem d_La_law_374 : decode c_La_law 374 = .ok (.iload 4, 2) := dc_of (x := (374, .iload 4, 2)) t3_La_law_ok (i := 4) rfl
theorem d_La_law_376 : decode c_La_law 376 = .ok (.iconst 1, 1) := dc_of (x := (376, .iconst 1, 1)) t3_La_law_ok (i := 5) rfl
theorem d_La_law_377 : decode c_La_law 377 = .ok (.iadd, 1) := dc_of (x := (377, .iadd, 1)) t3_La_law_ok (i := 6) rfl
theorem d_La_law_378 : decode c_La_law 378 = .ok (.iaload, 1) := dc_of (x := (378, .iaload, 1)) t3_La_law_ok (i := 7) rfl
theorem d_La_law_379 : decode c_La_law 379 = .ok (.invokevirtual 100, 3) := dc_of (x := (379, .invokevirtual 100, 3)) t3_La_law_ok (i := 8) rfl
theorem d_La_law_382 : decode c_La_law 382 = .ok (.istore 6, 2) := dc_of (x := (382, .istore 6, 2)) t3_La_law_ok (i := 9) rfl
theorem d_La_law_384 : decode c_La_law 384 = .ok (.aload_n 2, 1) := dc_of (x := (384, .aload_n 2, 1)) t3_La_law_ok (i := 10) rfl
theorem d_La_law_385 : decode c_La_law 385 = .ok (.invokevirtual 86, 3) := dc_of (x := (385, .invokevirtual 86, 3)) t3_La_law_ok (i := 11) rfl
theorem d_La_law_388 : decode c_La_law 388 = .ok (.iload 5, 2) := dc_of (x := (388, .iload 5, 2)) t3_La_law_ok (i := 12) rfl
theorem d_La_law_390 : decode c_La_law 390 = .ok (.if_icmp .eq 5, 3) := dc_of (x := (390, .if_icmp .eq 5, 3)) t3_La_law_ok (i := 13) rfl
theorem d_La_law_393 : decode c_La_law 393 = .ok (.iconst 0, 1) := dc_of (x := (393, .iconst 0, 1)) t3_La_law_ok (i := 14) rfl
theorem d_La_law_394 : decode c_La_law 394 = .ok (.ireturn, 1) := dc_of (x := (394, .ireturn, 1)) t3_La_law_ok (i := 15) rfl
theorem d_La_law_395 : decode c_La_law 395 = .ok (.iload 5, 2) := dc_of (x := (395, .iload 5, 2)) t3_La_law_ok (i := 16) rfl
theorem d_La_law_397 : decode c_La_law 397 = .ok (.ifCond .ne 22, 3) := dc_of (x := (397, .ifCond .ne 22, 3)) t3_La_law_ok (i := 17) rfl
theorem d_La_law_400 : decode c_La_law 400 = .ok (.aload_n 3, 1) := dc_of (x := (400, .aload_n 3, 1)) t3_La_law_ok (i := 18) rfl
theorem d_La_law_401 : decode c_La_law 401 = .ok (.iconst 0, 1) := dc_of (x := (401, .iconst 0, 1)) t3_La_law_ok (i := 19) rfl
theorem d_La_law_402 : decode c_La_law 402 = .ok (.laload, 1) := dc_of (x := (402, .laload, 1)) t3_La_law_ok (i := 20) rfl
theorem d_La_law_403 : decode c_La_law 403 = .ok (.iload 6, 2) := dc_of (x := (403, .iload 6, 2)) t3_La_law_ok (i := 21) rfl
theorem d_La_law_405 : decode c_La_law 405 = .ok (.ifCond .eq 7, 3) := dc_of (x := (405, .ifCond .eq 7, 3)) t3_La_law_ok (i := 22) rfl
theorem d_La_law_408 : decode c_La_law 408 = .ok (.lconst 1, 1) := dc_of (x := (408, .lconst 1, 1)) t3_La_law_ok (i := 23) rfl
theorem d_La_law_409 : decode c_La_law 409 = .ok (.goto 4, 3) := dc_of (x := (409, .goto 4, 3)) t3_La_law_ok (i := 24) rfl
theorem d_La_law_412 : decode c_La_law 412 = .ok (.lconst 0, 1) := dc_of (x := (412, .lconst 0, 1)) t3_La_law_ok (i := 25) rfl
theorem d_La_law_413 : decode c_La_law 413 = .ok (.lcmp, 1) := dc_of (x := (413, .lcmp, 1)) t3_La_law_ok (i := 26) rfl
theorem d_La_law_414 : decode c_La_law 414 = .ok (.ifCond .eq 5, 3) := dc_of (x := (414, .ifCond .eq 5, 3)) t3_La_law_ok (i := 27) rfl
theorem d_La_law_417 : decode c_La_law 417 = .ok (.iconst 0, 1) := dc_of (x := (417, .iconst 0, 1)) t3_La_law_ok (i := 28) rfl
theorem d_La_law_418 : decode c_La_law 418 = .ok (.ireturn, 1) := dc_of (x := (418, .ireturn, 1)) t3_La_law_ok (i := 29) rfl
theorem d_La_law_419 : decode c_La_law 419 = .ok (.goto 1062, 3) := dc_of (x := (419, .goto 1062, 3)) t3_La_law_ok (i := 30) rfl
theorem d_La_law_422 : decode c_La_law 422 = .ok (.aload_n 1, 1) := dc_of (x := (422, .aload_n 1, 1)) t3_La_law_ok (i := 31) rfl
theorem d_La_law_423 : decode c_La_law 423 = .ok (.aload_n 0, 1) := dc_of (x := (423, .aload_n 0, 1)) t3_La_law_ok (i := 32) rfl
theorem d_La_law_424 : decode c_La_law 424 = .ok (.iload 4, 2) := dc_of (x := (424, .iload 4, 2)) t3_La_law_ok (i := 33) rfl
theorem d_La_law_426 : decode c_La_law 426 = .ok (.iconst 1, 1) := dc_of (x := (426, .iconst 1, 1)) t3_La_law_ok (i := 34) rfl
theorem d_La_law_427 : decode c_La_law 427 = .ok (.iadd, 1) := dc_of (x := (427, .iadd, 1)) t3_La_law_ok (i := 35) rfl
theorem d_La_law_428 : decode c_La_law 428 = .ok (.iaload, 1) := dc_of (x := (428, .iaload, 1)) t3_La_law_ok (i := 36) rfl
theorem d_La_law_429 : decode c_La_law 429 = .ok (.aload_n 0, 1) := dc_of (x := (429, .aload_n 0, 1)) t3_La_law_ok (i := 37) rfl
theorem d_La_law_430 : decode c_La_law 430 = .ok (.iload 4, 2) := dc_of (x := (430, .iload 4, 2)) t3_La_law_ok (i := 38) rfl
theorem d_La_law_432 : decode c_La_law 432 = .ok (.iconst 2, 1) := dc_of (x := (432, .iconst 2, 1)) t3_La_law_ok (i := 39) rfl
theorem d_La_law_433 : decode c_La_law 433 = .ok (.iadd, 1) := dc_of (x := (433, .iadd, 1)) t3_La_law_ok (i := 40) rfl
theorem d_La_law_434 : decode c_La_law 434 = .ok (.iaload, 1) := dc_of (x := (434, .iaload, 1)) t3_La_law_ok (i := 41) rfl
theorem d_La_law_435 : decode c_La_law 435 = .ok (.i2l, 1) := dc_of (x := (435, .i2l, 1)) t3_La_law_ok (i := 42) rfl
theorem d_La_law_436 : decode c_La_law 436 = .ok (.bipush 32, 2) := dc_of (x := (436, .bipush 32, 2)) t3_La_law_ok (i := 43) rfl
theorem d_La_law_438 : decode c_La_law 438 = .ok (.lshl, 1) := dc_of (x := (438, .lshl, 1)) t3_La_law_ok (i := 44) rfl
theorem d_La_law_439 : decode c_La_law 439 = .ok (.aload_n 0, 1) := dc_of (x := (439, .aload_n 0, 1)) t3_La_law_ok (i := 45) rfl
theorem d_La_law_440 : decode c_La_law 440 = .ok (.iload 4, 2) := dc_of (x := (440, .iload 4, 2)) t3_La_law_ok (i := 46) rfl
theorem d_La_law_442 : decode c_La_law 442 = .ok (.iconst 3, 1) := dc_of (x := (442, .iconst 3, 1)) t3_La_law_ok (i := 47) rfl
theorem d_La_law_443 : decode c_La_law 443 = .ok (.iadd, 1) := dc_of (x := (443, .iadd, 1)) t3_La_law_ok (i := 48) rfl
theorem d_La_law_444 : decode c_La_law 444 = .ok (.iaload, 1) := dc_of (x := (444, .iaload, 1)) t3_La_law_ok (i := 49) rfl
theorem d_La_law_445 : decode c_La_law 445 = .ok (.i2l, 1) := dc_of (x := (445, .i2l, 1)) t3_La_law_ok (i := 50) rfl
theorem d_La_law_446 : decode c_La_law 446 = .ok (.ldc2_w 101, 3) := dc_of (x := (446, .ldc2_w 101, 3)) t3_La_law_ok (i := 51) rfl
theorem d_La_law_449 : decode c_La_law 449 = .ok (.land, 1) := dc_of (x := (449, .land, 1)) t3_La_law_ok (i := 52) rfl
theorem d_La_law_450 : decode c_La_law 450 = .ok (.lor, 1) := dc_of (x := (450, .lor, 1)) t3_La_law_ok (i := 53) rfl
theorem d_La_law_451 : decode c_La_law 451 = .ok (.aload_n 0, 1) := dc_of (x := (451, .aload_n 0, 1)) t3_La_law_ok (i := 54) rfl
theorem d_La_law_452 : decode c_La_law 452 = .ok (.iload 4, 2) := dc_of (x := (452, .iload 4, 2)) t3_La_law_ok (i := 55) rfl
theorem d_La_law_454 : decode c_La_law 454 = .ok (.iconst 4, 1) := dc_of (x := (454, .iconst 4, 1)) t3_La_law_ok (i := 56) rfl
theorem d_La_law_455 : decode c_La_law 455 = .ok (.iadd, 1) := dc_of (x := (455, .iadd, 1)) t3_La_law_ok (i := 57) rfl
theorem d_La_law_456 : decode c_La_law 456 = .ok (.iaload, 1) := dc_of (x := (456, .iaload, 1)) t3_La_law_ok (i := 58) rfl
theorem d_La_law_457 : decode c_La_law 457 = .ok (.aload_n 3, 1) := dc_of (x := (457, .aload_n 3, 1)) t3_La_law_ok (i := 59) rfl
theorem d_La_law_458 : decode c_La_law 458 = .ok (.invokestatic 103, 3) := dc_of (x := (458, .invokestatic 103, 3)) t4_La_law_ok (i := 0) rfl
theorem d_La_law_461 : decode c_La_law 461 = .ok (.istore 5, 2) := dc_of (x := (461, .istore 5, 2)) t4_La_law_ok (i := 1) rfl
theorem d_La_law_463 : decode c_La_law 463 = .ok (.aload_n 2, 1) := dc_of (x := (463, .aload_n 2, 1)) t4_La_law_ok (i := 2) rfl
theorem d_La_law_464 : decode c_La_law 464 = .ok (.aload_n 0, 1) := dc_of (x := (464, .aload_n 0, 1)) t4_La_law_ok (i := 3) rfl
theorem d_La_law_465 : decode c_La_law 465 = .ok (.iload 4, 2) := dc_of (x := (465, .iload 4, 2)) t4_La_law_ok (i := 4) rfl
theorem d_La_law_467 : decode c_La_law 467 = .ok (.iconst 1, 1) := dc_of (x := (467, .iconst 1, 1)) t4_La_law_ok (i := 5) rfl
theorem d_La_law_468 : decode c_La_law 468 = .ok (.iadd, 1) := dc_of (x := (468, .iadd, 1)) t4_La_law_ok (i := 6) rfl
theorem d_La_law_469 : decode c_La_law 469 = .ok (.iaload, 1) := dc_of (x := (469, .iaload, 1)) t4_La_law_ok (i := 7) rfl
theorem d_La_law_470 : decode c_La_law 470 = .ok (.aload_n 0, 1) := dc_of (x := (470, .aload_n 0, 1)) t4_La_law_ok (i := 8) rfl
theorem d_La_law_471 : decode c_La_law 471 = .ok (.iload 4, 2) := dc_of (x := (471, .iload 4, 2)) t4_La_law_ok (i := 9) rfl
theorem d_La_law_473 : decode c_La_law 473 = .ok (.iconst 2, 1) := dc_of (x := (473, .iconst 2, 1)) t4_La_law_ok (i := 10) rfl
theorem d_La_law_474 : decode c_La_law 474 = .ok (.iadd, 1) := dc_of (x := (474, .iadd, 1)) t4_La_law_ok (i := 11) rfl
theorem d_La_law_475 : decode c_La_law 475 = .ok (.iaload, 1) := dc_of (x := (475, .iaload, 1)) t4_La_law_ok (i := 12) rfl
theorem d_La_law_476 : decode c_La_law 476 = .ok (.i2l, 1) := dc_of (x := (476, .i2l, 1)) t4_La_law_ok (i := 13) rfl
theorem d_La_law_477 : decode c_La_law 477 = .ok (.bipush 32, 2) := dc_of (x := (477, .bipush 32, 2)) t4_La_law_ok (i := 14) rfl
theorem d_La_law_479 : decode c_La_law 479 = .ok (.lshl, 1) := dc_of (x := (479, .lshl, 1)) t4_La_law_ok (i := 15) rfl
theorem d_La_law_480 : decode c_La_law 480 = .ok (.aload_n 0, 1) := dc_of (x := (480, .aload_n 0, 1)) t4_La_law_ok (i := 16) rfl
theorem d_La_law_481 : decode c_La_law 481 = .ok (.iload 4, 2) := dc_of (x := (481, .iload 4, 2)) t4_La_law_ok (i := 17) rfl
theorem d_La_law_483 : decode c_La_law 483 = .ok (.iconst 3, 1) := dc_of (x := (483, .iconst 3, 1)) t4_La_law_ok (i := 18) rfl
theorem d_La_law_484 : decode c_La_law 484 = .ok (.iadd, 1) := dc_of (x := (484, .iadd, 1)) t4_La_law_ok (i := 19) rfl
theorem d_La_law_485 : decode c_La_law 485 = .ok (.iaload, 1) := dc_of (x := (485, .iaload, 1)) t4_La_law_ok (i := 20) rfl
theorem d_La_law_486 : decode c_La_law 486 = .ok (.i2l, 1) := dc_of (x := (486, .i2l, 1)) t4_La_law_ok (i := 21) rfl
theorem d_La_law_487 : decode c_La_law 487 = .ok (.ldc2_w 101, 3) := dc_of (x := (487, .ldc2_w 101, 3)) t4_La_law_ok (i := 22) rfl
theorem d_La_law_490 : decode c_La_law 490 = .ok (.land, 1) := dc_of (x := (490, .land, 1)) t4_La_law_ok (i := 23) rfl
theorem d_La_law_491 : decode c_La_law 491 = .ok (.lor, 1) := dc_of (x := (491, .lor, 1)) t4_La_law_ok (i := 24) rfl
theorem d_La_law_492 : decode c_La_law 492 = .ok (.aload_n 0, 1) := dc_of (x := (492, .aload_n 0, 1)) t4_La_law_ok (i := 25) rfl
theorem d_La_law_493 : decode c_La_law 493 = .ok (.iload 4, 2) := dc_of (x := (493, .iload 4, 2)) t4_La_law_ok (i := 26) rfl
theorem d_La_law_495 : decode c_La_law 495 = .ok (.iconst 4, 1) := dc_of (x := (495, .iconst 4, 1)) t4_La_law_ok (i := 27) rfl
theorem d_La_law_496 : decode c_La_law 496 = .ok (.iadd, 1) := dc_of (x := (496, .iadd, 1)) t4_La_law_ok (i := 28) rfl
theorem d_La_law_497 : decode c_La_law 497 = .ok (.iaload, 1) := dc_of (x := (497, .iaload, 1)) t4_La_law_ok (i := 29) rfl
theorem d_La_law_498 : decode c_La_law 498 = .ok (.invokevirtual 106, 3) := dc_of (x := (498, .invokevirtual 106, 3)) t4_La_law_ok (i := 30) rfl
theorem d_La_law_501 : decode c_La_law 501 = .ok (.istore 6, 2) := dc_of (x := (501, .istore 6, 2)) t4_La_law_ok (i := 31) rfl
theorem d_La_law_503 : decode c_La_law 503 = .ok (.aload_n 2, 1) := dc_of (x := (503, .aload_n 2, 1)) t4_La_law_ok (i := 32) rfl
theorem d_La_law_504 : decode c_La_law 504 = .ok (.invokevirtual 86, 3) := dc_of (x := (504, .invokevirtual 86, 3)) t4_La_law_ok (i := 33) rfl
theorem d_La_law_507 : decode c_La_law 507 = .ok (.iload 5, 2) := dc_of (x := (507, .iload 5, 2)) t4_La_law_ok (i := 34) rfl
theorem d_La_law_509 : decode c_La_law 509 = .ok (.if_icmp .eq 5, 3) := dc_of (x := (509, .if_icmp .eq 5, 3)) t4_La_law_ok (i := 35) rfl
theorem d_La_law_512 : decode c_La_law 512 = .ok (.iconst 0, 1) := dc_of (x := (512, .iconst 0, 1)) t4_La_law_ok (i := 36) rfl
theorem d_La_law_513 : decode c_La_law 513 = .ok (.ireturn, 1) := dc_of (x := (513, .ireturn, 1)) t4_La_law_ok (i := 37) rfl
theorem d_La_law_514 : decode c_La_law 514 = .ok (.iload 5, 2) := dc_of (x := (514, .iload 5, 2)) t4_La_law_ok (i := 38) rfl
theorem d_La_law_516 : decode c_La_law 516 = .ok (.ifCond .ne 15, 3) := dc_of (x := (516, .ifCond .ne 15, 3)) t4_La_law_ok (i := 39) rfl
theorem d_La_law_519 : decode c_La_law 519 = .ok (.aload_n 3, 1) := dc_of (x := (519, .aload_n 3, 1)) t4_La_law_ok (i := 40) rfl
theorem d_La_law_520 : decode c_La_law 520 = .ok (.iconst 0, 1) := dc_of (x := (520, .iconst 0, 1)) t4_La_law_ok (i := 41) rfl
theorem d_La_law_521 : decode c_La_law 521 = .ok (.laload, 1) := dc_of (x := (521, .laload, 1)) t4_La_law_ok (i := 42) rfl
theorem d_La_law_522 : decode c_La_law 522 = .ok (.iload 6, 2) := dc_of (x := (522, .iload 6, 2)) t4_La_law_ok (i := 43) rfl
theorem d_La_law_524 : decode c_La_law 524 = .ok (.i2l, 1) := dc_of (x := (524, .i2l, 1)) t4_La_law_ok (i := 44) rfl
theorem d_La_law_525 : decode c_La_law 525 = .ok (.lcmp, 1) := dc_of (x := (525, .lcmp, 1)) t4_La_law_ok (i := 45) rfl
theorem d_La_law_526 : decode c_La_law 526 = .ok (.ifCond .eq 5, 3) := dc_of (x := (526, .ifCond .eq 5, 3)) t4_La_law_ok (i := 46) rfl
theorem d_La_law_529 : decode c_La_law 529 = .ok (.iconst 0, 1) := dc_of (x := (529, .iconst 0, 1)) t4_La_law_ok (i := 47) rfl
theorem d_La_law_530 : decode c_La_law 530 = .ok (.ireturn, 1) := dc_of (x := (530, .ireturn, 1)) t4_La_law_ok (i := 48) rfl
theorem d_La_law_531 : decode c_La_law 531 = .ok (.goto 950, 3) := dc_of (x := (531, .goto 950, 3)) t4_La_law_ok (i := 49) rfl
theorem d_La_law_534 : decode c_La_law 534 = .ok (.aload_n 1, 1) := dc_of (x := (534, .aload_n 1, 1)) t4_La_law_ok (i := 50) rfl
theorem d_La_law_535 : decode c_La_law 535 = .ok (.aload_n 0, 1) := dc_of (x := (535, .aload_n 0, 1)) t4_La_law_ok (i := 51) rfl
theorem d_La_law_536 : decode c_La_law 536 = .ok (.iload 4, 2) := dc_of (x := (536, .iload 4, 2)) t4_La_law_ok (i := 52) rfl
theorem d_La_law_538 : decode c_La_law 538 = .ok (.iconst 1, 1) := dc_of (x := (538, .iconst 1, 1)) t4_La_law_ok (i := 53) rfl
theorem d_La_law_539 : decode c_La_law 539 = .ok (.iadd, 1) := dc_of (x := (539, .iadd, 1)) t4_La_law_ok (i := 54) rfl
theorem d_La_law_540 : decode c_La_law 540 = .ok (.iaload, 1) := dc_of (x := (540, .iaload, 1)) t4_La_law_ok (i := 55) rfl
theorem d_La_law_541 : decode c_La_law 541 = .ok (.aload_n 0, 1) := dc_of (x := (541, .aload_n 0, 1)) t4_La_law_ok (i := 56) rfl
theorem d_La_law_542 : decode c_La_law 542 = .ok (.iload 4, 2) := dc_of (x := (542, .iload 4, 2)) t4_La_law_ok (i := 57) rfl
theorem d_La_law_544 : decode c_La_law 544 = .ok (.iconst 2, 1) := dc_of (x := (544, .iconst 2, 1)) t4_La_law_ok (i := 58) rfl
theorem d_La_law_545 : decode c_La_law 545 = .ok (.iadd, 1) := dc_of (x := (545, .iadd, 1)) t4_La_law_ok (i := 59) rfl
theorem d_La_law_546 : decode c_La_law 546 = .ok (.iaload, 1) := dc_of (x := (546, .iaload, 1)) t5_La_law_ok (i := 0) rfl
theorem d_La_law_547 : decode c_La_law 547 = .ok (.i2l, 1) := dc_of (x := (547, .i2l, 1)) t5_La_law_ok (i := 1) rfl
theorem d_La_law_548 : decode c_La_law 548 = .ok (.bipush 32, 2) := dc_of (x := (548, .bipush 32, 2)) t5_La_law_ok (i := 2) rfl
theorem d_La_law_550 : decode c_La_law 550 = .ok (.lshl, 1) := dc_of (x := (550, .lshl, 1)) t5_La_law_ok (i := 3) rfl
theorem d_La_law_551 : decode c_La_law 551 = .ok (.aload_n 0, 1) := dc_of (x := (551, .aload_n 0, 1)) t5_La_law_ok (i := 4) rfl
theorem d_La_law_552 : decode c_La_law 552 = .ok (.iload 4, 2) := dc_of (x := (552, .iload 4, 2)) t5_La_law_ok (i := 5) rfl
theorem d_La_law_554 : decode c_La_law 554 = .ok (.iconst 3, 1) := dc_of (x := (554, .iconst 3, 1)) t5_La_law_ok (i := 6) rfl
theorem d_La_law_555 : decode c_La_law 555 = .ok (.iadd, 1) := dc_of (x := (555, .iadd, 1)) t5_La_law_ok (i := 7) rfl
theorem d_La_law_556 : decode c_La_law 556 = .ok (.iaload, 1) := dc_of (x := (556, .iaload, 1)) t5_La_law_ok (i := 8) rfl
theorem d_La_law_557 : decode c_La_law 557 = .ok (.i2l, 1) := dc_of (x := (557, .i2l, 1)) t5_La_law_ok (i := 9) rfl
theorem d_La_law_558 : decode c_La_law 558 = .ok (.ldc2_w 101, 3) := dc_of (x := (558, .ldc2_w 101, 3)) t5_La_law_ok (i := 10) rfl
theorem d_La_law_561 : decode c_La_law 561 = .ok (.land, 1) := dc_of (x := (561, .land, 1)) t5_La_law_ok (i := 11) rfl
theorem d_La_law_562 : decode c_La_law 562 = .ok (.lor, 1) := dc_of (x := (562, .lor, 1)) t5_La_law_ok (i := 12) rfl
theorem d_La_law_563 : decode c_La_law 563 = .ok (.aload_n 0, 1) := dc_of (x := (563, .aload_n 0, 1)) t5_La_law_ok (i := 13) rfl
theorem d_La_law_564 : decode c_La_law 564 = .ok (.iload 4, 2) := dc_of (x := (564, .iload 4, 2)) t5_La_law_ok (i := 14) rfl
theorem d_La_law_566 : decode c_La_law 566 = .ok (.iconst 4, 1) := dc_of (x := (566, .iconst 4, 1)) t5_La_law_ok (i := 15) rfl
theorem d_La_law_567 : decode c_La_law 567 = .ok (.iadd, 1) := dc_of (x := (567, .iadd, 1)) t5_La_law_ok (i := 16) rfl
theorem d_La_law_568 : decode c_La_law 568 = .ok (.iaload, 1) := dc_of (x := (568, .iaload, 1)) t5_La_law_ok (i := 17) rfl
theorem d_La_law_569 : decode c_La_law 569 = .ok (.aload_n 3, 1) := dc_of (x := (569, .aload_n 3, 1)) t5_La_law_ok (i := 18) rfl
theorem d_La_law_570 : decode c_La_law 570 = .ok (.invokestatic 107, 3) := dc_of (x := (570, .invokestatic 107, 3)) t5_La_law_ok (i := 19) rfl
theorem d_La_law_573 : decode c_La_law 573 = .ok (.istore 5, 2) := dc_of (x := (573, .istore 5, 2)) t5_La_law_ok (i := 20) rfl
theorem d_La_law_575 : decode c_La_law 575 = .ok (.aload_n 2, 1) := dc_of (x := (575, .aload_n 2, 1)) t5_La_law_ok (i := 21) rfl
theorem d_La_law_576 : decode c_La_law 576 = .ok (.aload_n 0, 1) := dc_of (x := (576, .aload_n 0, 1)) t5_La_law_ok (i := 22) rfl
theorem d_La_law_577 : decode c_La_law 577 = .ok (.iload 4, 2) := dc_of (x := (577, .iload 4, 2)) t5_La_law_ok (i := 23) rfl
theorem d_La_law_579 : decode c_La_law 579 = .ok (.iconst 1, 1) := dc_of (x := (579, .iconst 1, 1)) t5_La_law_ok (i := 24) rfl
theorem d_La_law_580 : decode c_La_law 580 = .ok (.iadd, 1) := dc_of (x := (580, .iadd, 1)) t5_La_law_ok (i := 25) rfl
theorem d_La_law_581 : decode c_La_law 581 = .ok (.iaload, 1) := dc_of (x := (581, .iaload, 1)) t5_La_law_ok (i := 26) rfl
theorem d_La_law_582 : decode c_La_law 582 = .ok (.aload_n 0, 1) := dc_of (x := (582, .aload_n 0, 1)) t5_La_law_ok (i := 27) rfl
theorem d_La_law_583 : decode c_La_law 583 = .ok (.iload 4, 2) := dc_of (x := (583, .iload 4, 2)) t5_La_law_ok (i := 28) rfl
theorem d_La_law_585 : decode c_La_law 585 = .ok (.iconst 2, 1) := dc_of (x := (585, .iconst 2, 1)) t5_La_law_ok (i := 29) rfl
theorem d_La_law_586 : decode c_La_law 586 = .ok (.iadd, 1) := dc_of (x := (586, .iadd, 1)) t5_La_law_ok (i := 30) rfl
theorem d_La_law_587 : decode c_La_law 587 = .ok (.iaload, 1) := dc_of (x := (587, .iaload, 1)) t5_La_law_ok (i := 31) rfl
theorem d_La_law_588 : decode c_La_law 588 = .ok (.i2l, 1) := dc_of (x := (588, .i2l, 1)) t5_La_law_ok (i := 32) rfl
theorem d_La_law_589 : decode c_La_law 589 = .ok (.bipush 32, 2) := dc_of (x := (589, .bipush 32, 2)) t5_La_law_ok (i := 33) rfl
theorem d_La_law_591 : decode c_La_law 591 = .ok (.lshl, 1) := dc_of (x := (591, .lshl, 1)) t5_La_law_ok (i := 34) rfl
theorem d_La_law_592 : decode c_La_law 592 = .ok (.aload_n 0, 1) := dc_of (x := (592, .aload_n 0, 1)) t5_La_law_ok (i := 35) rfl
theorem d_La_law_593 : decode c_La_law 593 = .ok (.iload 4, 2) := dc_of (x := (593, .iload 4, 2)) t5_La_law_ok (i := 36) rfl
theorem d_La_law_595 : decode c_La_law 595 = .ok (.iconst 3, 1) := dc_of (x := (595, .iconst 3, 1)) t5_La_law_ok (i := 37) rfl
theorem d_La_law_596 : decode c_La_law 596 = .ok (.iadd, 1) := dc_of (x := (596, .iadd, 1)) t5_La_law_ok (i := 38) rfl
theorem d_La_law_597 : decode c_La_law 597 = .ok (.iaload, 1) := dc_of (x := (597, .iaload, 1)) t5_La_law_ok (i := 39) rfl
theorem d_La_law_598 : decode c_La_law 598 = .ok (.i2l, 1) := dc_of (x := (598, .i2l, 1)) t5_La_law_ok (i := 40) rfl
theorem d_La_law_599 : decode c_La_law 599 = .ok (.ldc2_w 101, 3) := dc_of (x := (599, .ldc2_w 101, 3)) t5_La_law_ok (i := 41) rfl
theorem d_La_law_602 : decode c_La_law 602 = .ok (.land, 1) := dc_of (x := (602, .land, 1)) t5_La_law_ok (i := 42) rfl
theorem d_La_law_603 : decode c_La_law 603 = .ok (.lor, 1) := dc_of (x := (603, .lor, 1)) t5_La_law_ok (i := 43) rfl
theorem d_La_law_604 : decode c_La_law 604 = .ok (.aload_n 0, 1) := dc_of (x := (604, .aload_n 0, 1)) t5_La_law_ok (i := 44) rfl
theorem d_La_law_605 : decode c_La_law 605 = .ok (.iload 4, 2) := dc_of (x := (605, .iload 4, 2)) t5_La_law_ok (i := 45) rfl
theorem d_La_law_607 : decode c_La_law 607 = .ok (.iconst 4, 1) := dc_of (x := (607, .iconst 4, 1)) t5_La_law_ok (i := 46) rfl
theorem d_La_law_608 : decode c_La_law 608 = .ok (.iadd, 1) := dc_of (x := (608, .iadd, 1)) t5_La_law_ok (i := 47) rfl
theorem d_La_law_609 : decode c_La_law 609 = .ok (.iaload, 1) := dc_of (x := (609, .iaload, 1)) t5_La_law_ok (i := 48) rfl
theorem d_La_law_610 : decode c_La_law 610 = .ok (.invokevirtual 109, 3) := dc_of (x := (610, .invokevirtual 109, 3)) t5_La_law_ok (i := 49) rfl
theorem d_La_law_613 : decode c_La_law 613 = .ok (.istore 6, 2) := dc_of (x := (613, .istore 6, 2)) t5_La_law_ok (i := 50) rfl
theorem d_La_law_615 : decode c_La_law 615 = .ok (.aload_n 2, 1) := dc_of (x := (615, .aload_n 2, 1)) t5_La_law_ok (i := 51) rfl
theorem d_La_law_616 : decode c_La_law 616 = .ok (.invokevirtual 86, 3) := dc_of (x := (616, .invokevirtual 86, 3)) t5_La_law_ok (i := 52) rfl
theorem d_La_law_619 : decode c_La_law 619 = .ok (.iload 5, 2) := dc_of (x := (619, .iload 5, 2)) t5_La_law_ok (i := 53) rfl
theorem d_La_law_621 : decode c_La_law 621 = .ok (.if_icmp .eq 5, 3) := dc_of (x := (621, .if_icmp .eq 5, 3)) t5_La_law_ok (i := 54) rfl
theorem d_La_law_624 : decode c_La_law 624 = .ok (.iconst 0, 1) := dc_of (x := (624, .iconst 0, 1)) t5_La_law_ok (i := 55) rfl
theorem d_La_law_625 : decode c_La_law 625 = .ok (.ireturn, 1) := dc_of (x := (625, .ireturn, 1)) t5_La_law_ok (i := 56) rfl
theorem d_La_law_626 : decode c_La_law 626 = .ok (.iload 5, 2) := dc_of (x := (626, .iload 5, 2)) t5_La_law_ok (i := 57) rfl
theorem d_La_law_628 : decode c_La_law 628 = .ok (.ifCond .ne 15, 3) := dc_of (x := (628, .ifCond .ne 15, 3)) t5_La_law_ok (i := 58) rfl
theorem d_La_law_631 : decode c_La_law 631 = .ok (.aload_n 3, 1) := dc_of (x := (631, .aload_n 3, 1)) t5_La_law_ok (i := 59) rfl
theorem d_La_law_632 : decode c_La_law 632 = .ok (.iconst 0, 1) := dc_of (x := (632, .iconst 0, 1)) t6_La_law_ok (i := 0) rfl
theorem d_La_law_633 : decode c_La_law 633 = .ok (.laload, 1) := dc_of (x := (633, .laload, 1)) t6_La_law_ok (i := 1) rfl
theorem d_La_law_634 : decode c_La_law 634 = .ok (.iload 6, 2) := dc_of (x := (634, .iload 6, 2)) t6_La_law_ok (i := 2) rfl
theorem d_La_law_636 : decode c_La_law 636 = .ok (.i2l, 1) := dc_of (x := (636, .i2l, 1)) t6_La_law_ok (i := 3) rfl
theorem d_La_law_637 : decode c_La_law 637 = .ok (.lcmp, 1) := dc_of (x := (637, .lcmp, 1)) t6_La_law_ok (i := 4) rfl
theorem d_La_law_638 : decode c_La_law 638 = .ok (.ifCond .eq 5, 3) := dc_of (x := (638, .ifCond .eq 5, 3)) t6_La_law_ok (i := 5) rfl
theorem d_La_law_641 : decode c_La_law 641 = .ok (.iconst 0, 1) := dc_of (x := (641, .iconst 0, 1)) t6_La_law_ok (i := 6) rfl
theorem d_La_law_642 : decode c_La_law 642 = .ok (.ireturn, 1) := dc_of (x := (642, .ireturn, 1)) t6_La_law_ok (i := 7) rfl
theorem d_La_law_643 : decode c_La_law 643 = .ok (.goto 838, 3) := dc_of (x := (643, .goto 838, 3)) t6_La_law_ok (i := 8) rfl
theorem d_La_law_646 : decode c_La_law 646 = .ok (.aload_n 1, 1) := dc_of (x := (646, .aload_n 1, 1)) t6_La_law_ok (i := 9) rfl
theorem d_La_law_647 : decode c_La_law 647 = .ok (.aload_n 0, 1) := dc_of (x := (647, .aload_n 0, 1)) t6_La_law_ok (i := 10) rfl
theorem d_La_law_648 : decode c_La_law 648 = .ok (.iload 4, 2) := dc_of (x := (648, .iload 4, 2)) t6_La_law_ok (i := 11) rfl
theorem d_La_law_650 : decode c_La_law 650 = .ok (.iconst 1, 1) := dc_of (x := (650, .iconst 1, 1)) t6_La_law_ok (i := 12) rfl
theorem d_La_law_651 : decode c_La_law 651 = .ok (.iadd, 1) := dc_of (x := (651, .iadd, 1)) t6_La_law_ok (i := 13) rfl
theorem d_La_law_652 : decode c_La_law 652 = .ok (.iaload, 1) := dc_of (x := (652, .iaload, 1)) t6_La_law_ok (i := 14) rfl
theorem d_La_law_653 : decode c_La_law 653 = .ok (.aload_n 0, 1) := dc_of (x := (653, .aload_n 0, 1)) t6_La_law_ok (i := 15) rfl
theorem d_La_law_654 : decode c_La_law 654 = .ok (.iload 4, 2) := dc_of (x := (654, .iload 4, 2)) t6_La_law_ok (i := 16) rfl
theorem d_La_law_656 : decode c_La_law 656 = .ok (.iconst 2, 1) := dc_of (x := (656, .iconst 2, 1)) t6_La_law_ok (i := 17) rfl
theorem d_La_law_657 : decode c_La_law 657 = .ok (.iadd, 1) := dc_of (x := (657, .iadd, 1)) t6_La_law_ok (i := 18) rfl
theorem d_La_law_658 : decode c_La_law 658 = .ok (.iaload, 1) := dc_of (x := (658, .iaload, 1)) t6_La_law_ok (i := 19) rfl
theorem d_La_law_659 : decode c_La_law 659 = .ok (.i2l, 1) := dc_of (x := (659, .i2l, 1)) t6_La_law_ok (i := 20) rfl
theorem d_La_law_660 : decode c_La_law 660 = .ok (.bipush 32, 2) := dc_of (x := (660, .bipush 32, 2)) t6_La_law_ok (i := 21) rfl
theorem d_La_law_662 : decode c_La_law 662 = .ok (.lshl, 1) := dc_of (x := (662, .lshl, 1)) t6_La_law_ok (i := 22) rfl
theorem d_La_law_663 : decode c_La_law 663 = .ok (.aload_n 0, 1) := dc_of (x := (663, .aload_n 0, 1)) t6_La_law_ok (i := 23) rfl
theorem d_La_law_664 : decode c_La_law 664 = .ok (.iload 4, 2) := dc_of (x := (664, .iload 4, 2)) t6_La_law_ok (i := 24) rfl
theorem d_La_law_666 : decode c_La_law 666 = .ok (.iconst 3, 1) := dc_of (x := (666, .iconst 3, 1)) t6_La_law_ok (i := 25) rfl
theorem d_La_law_667 : decode c_La_law 667 = .ok (.iadd, 1) := dc_of (x := (667, .iadd, 1)) t6_La_law_ok (i := 26) rfl
theorem d_La_law_668 : decode c_La_law 668 = .ok (.iaload, 1) := dc_of (x := (668, .iaload, 1)) t6_La_law_ok (i := 27) rfl
theorem d_La_law_669 : decode c_La_law 669 = .ok (.i2l, 1) := dc_of (x := (669, .i2l, 1)) t6_La_law_ok (i := 28) rfl
theorem d_La_law_670 : decode c_La_law 670 = .ok (.ldc2_w 101, 3) := dc_of (x := (670, .ldc2_w 101, 3)) t6_La_law_ok (i := 29) rfl
theorem d_La_law_673 : decode c_La_law 673 = .ok (.land, 1) := dc_of (x := (673, .land, 1)) t6_La_law_ok (i := 30) rfl
theorem d_La_law_674 : decode c_La_law 674 = .ok (.lor, 1) := dc_of (x := (674, .lor, 1)) t6_La_law_ok (i := 31) rfl
theorem d_La_law_675 : decode c_La_law 675 = .ok (.aload_n 3, 1) := dc_of (x := (675, .aload_n 3, 1)) t6_La_law_ok (i := 32) rfl
theorem d_La_law_676 : decode c_La_law 676 = .ok (.invokestatic 110, 3) := dc_of (x := (676, .invokestatic 110, 3)) t6_La_law_ok (i := 33) rfl
theorem d_La_law_679 : decode c_La_law 679 = .ok (.istore 5, 2) := dc_of (x := (679, .istore 5, 2)) t6_La_law_ok (i := 34) rfl
theorem d_La_law_681 : decode c_La_law 681 = .ok (.aload_n 2, 1) := dc_of (x := (681, .aload_n 2, 1)) t6_La_law_ok (i := 35) rfl
theorem d_La_law_682 : decode c_La_law 682 = .ok (.aload_n 0, 1) := dc_of (x := (682, .aload_n 0, 1)) t6_La_law_ok (i := 36) rfl
theorem d_La_law_683 : decode c_La_law 683 = .ok (.iload 4, 2) := dc_of (x := (683, .iload 4, 2)) t6_La_law_ok (i := 37) rfl
theorem d_La_law_685 : decode c_La_law 685 = .ok (.iconst 1, 1) := dc_of (x := (685, .iconst 1, 1)) t6_La_law_ok (i := 38) rfl
theorem d_La_law_686 : decode c_La_law 686 = .ok (.iadd, 1) := dc_of (x := (686, .iadd, 1)) t6_La_law_ok (i := 39) rfl
theorem d_La_law_687 : decode c_La_law 687 = .ok (.iaload, 1) := dc_of (x := (687, .iaload, 1)) t6_La_law_ok (i := 40) rfl
theorem d_La_law_688 : decode c_La_law 688 = .ok (.aload_n 0, 1) := dc_of (x := (688, .aload_n 0, 1)) t6_La_law_ok (i := 41) rfl
theorem d_La_law_689 : decode c_La_law 689 = .ok (.iload 4, 2) := dc_of (x := (689, .iload 4, 2)) t6_La_law_ok (i := 42) rfl
theorem d_La_law_691 : decode c_La_law 691 = .ok (.iconst 2, 1) := dc_of (x := (691, .iconst 2, 1)) t6_La_law_ok (i := 43) rfl
theorem d_La_law_692 : decode c_La_law 692 = .ok (.iadd, 1) := dc_of (x := (692, .iadd, 1)) t6_La_law_ok (i := 44) rfl
theorem d_La_law_693 : decode c_La_law 693 = .ok (.iaload, 1) := dc_of (x := (693, .iaload, 1)) t6_La_law_ok (i := 45) rfl
theorem d_La_law_694 : decode c_La_law 694 = .ok (.i2l, 1) := dc_of (x := (694, .i2l, 1)) t6_La_law_ok (i := 46) rfl
theorem d_La_law_695 : decode c_La_law 695 = .ok (.bipush 32, 2) := dc_of (x := (695, .bipush 32, 2)) t6_La_law_ok (i := 47) rfl
theorem d_La_law_697 : decode c_La_law 697 = .ok (.lshl, 1) := dc_of (x := (697, .lshl, 1)) t6_La_law_ok (i := 48) rfl
theorem d_La_law_698 : decode c_La_law 698 = .ok (.aload_n 0, 1) := dc_of (x := (698, .aload_n 0, 1)) t6_La_law_ok (i := 49) rfl
theorem d_La_law_699 : decode c_La_law 699 = .ok (.iload 4, 2) := dc_of (x := (699, .iload 4, 2)) t6_La_law_ok (i := 50) rfl
theorem d_La_law_701 : decode c_La_law 701 = .ok (.iconst 3, 1) := dc_of (x := (701, .iconst 3, 1)) t6_La_law_ok (i := 51) rfl
theorem d_La_law_702 : decode c_La_law 702 = .ok (.iadd, 1) := dc_of (x := (702, .iadd, 1)) t6_La_law_ok (i := 52) rfl
theorem d_La_law_703 : decode c_La_law 703 = .ok (.iaload, 1) := dc_of (x := (703, .iaload, 1)) t6_La_law_ok (i := 53) rfl
theorem d_La_law_704 : decode c_La_law 704 = .ok (.i2l, 1) := dc_of (x := (704, .i2l, 1)) t6_La_law_ok (i := 54) rfl
theorem d_La_law_705 : decode c_La_law 705 = .ok (.ldc2_w 101, 3) := dc_of (x := (705, .ldc2_w 101, 3)) t6_La_law_ok (i := 55) rfl
theorem d_La_law_708 : decode c_La_law 708 = .ok (.land, 1) := dc_of (x := (708, .land, 1)) t6_La_law_ok (i := 56) rfl
theorem d_La_law_709 : decode c_La_law 709 = .ok (.lor, 1) := dc_of (x := (709, .lor, 1)) t6_La_law_ok (i := 57) rfl
theorem d_La_law_710 : decode c_La_law 710 = .ok (.invokevirtual 113, 3) := dc_of (x := (710, .invokevirtual 113, 3)) t6_La_law_ok (i := 58) rfl
theorem d_La_law_713 : decode c_La_law 713 = .ok (.istore 6, 2) := dc_of (x := (713, .istore 6, 2)) t6_La_law_ok (i := 59) rfl
theorem d_La_law_715 : decode c_La_law 715 = .ok (.aload_n 2, 1) := dc_of (x := (715, .aload_n 2, 1)) t7_La_law_ok (i := 0) rfl
theorem d_La_law_716 : decode c_La_law 716 = .ok (.invokevirtual 86, 3) := dc_of (x := (716, .invokevirtual 86, 3)) t7_La_law_ok (i := 1) rfl
theorem d_La_law_719 : decode c_La_law 719 = .ok (.iload 5, 2) := dc_of (x := (719, .iload 5, 2)) t7_La_law_ok (i := 2) rfl
theorem d_La_law_721 : decode c_La_law 721 = .ok (.if_icmp .eq 5, 3) := dc_of (x := (721, .if_icmp .eq 5, 3)) t7_La_law_ok (i := 3) rfl
theorem d_La_law_724 : decode c_La_law 724 = .ok (.iconst 0, 1) := dc_of (x := (724, .iconst 0, 1)) t7_La_law_ok (i := 4) rfl
theorem d_La_law_725 : decode c_La_law 725 = .ok (.ireturn, 1) := dc_of (x := (725, .ireturn, 1)) t7_La_law_ok (i := 5) rfl
theorem d_La_law_726 : decode c_La_law 726 = .ok (.iload 5, 2) := dc_of (x := (726, .iload 5, 2)) t7_La_law_ok (i := 6) rfl
theorem d_La_law_728 : decode c_La_law 728 = .ok (.ifCond .ne 15, 3) := dc_of (x := (728, .ifCond .ne 15, 3)) t7_La_law_ok (i := 7) rfl
theorem d_La_law_731 : decode c_La_law 731 = .ok (.aload_n 3, 1) := dc_of (x := (731, .aload_n 3, 1)) t7_La_law_ok (i := 8) rfl
theorem d_La_law_732 : decode c_La_law 732 = .ok (.iconst 0, 1) := dc_of (x := (732, .iconst 0, 1)) t7_La_law_ok (i := 9) rfl
theorem d_La_law_733 : decode c_La_law 733 = .ok (.laload, 1) := dc_of (x := (733, .laload, 1)) t7_La_law_ok (i := 10) rfl
theorem d_La_law_734 : decode c_La_law 734 = .ok (.iload 6, 2) := dc_of (x := (734, .iload 6, 2)) t7_La_law_ok (i := 11) rfl
theorem d_La_law_736 : decode c_La_law 736 = .ok (.i2l, 1) := dc_of (x := (736, .i2l, 1)) t7_La_law_ok (i := 12) rfl
theorem d_La_law_737 : decode c_La_law 737 = .ok (.lcmp, 1) := dc_of (x := (737, .lcmp, 1)) t7_La_law_ok (i := 13) rfl
theorem d_La_law_738 : decode c_La_law 738 = .ok (.ifCond .eq 5, 3) := dc_of (x := (738, .ifCond .eq 5, 3)) t7_La_law_ok (i := 14) rfl
theorem d_La_law_741 : decode c_La_law 741 = .ok (.iconst 0, 1) := dc_of (x := (741, .iconst 0, 1)) t7_La_law_ok (i := 15) rfl
theorem d_La_law_742 : decode c_La_law 742 = .ok (.ireturn, 1) := dc_of (x := (742, .ireturn, 1)) t7_La_law_ok (i := 16) rfl
theorem d_La_law_743 : decode c_La_law 743 = .ok (.goto 738, 3) := dc_of (x := (743, .goto 738, 3)) t7_La_law_ok (i := 17) rfl
theorem d_La_law_746 : decode c_La_law 746 = .ok (.aload_n 1, 1) := dc_of (x := (746, .aload_n 1, 1)) t7_La_law_ok (i := 18) rfl
theorem d_La_law_747 : decode c_La_law 747 = .ok (.aload_n 0, 1) := dc_of (x := (747, .aload_n 0, 1)) t7_La_law_ok (i := 19) rfl
theorem d_La_law_748 : decode c_La_law 748 = .ok (.iload 4, 2) := dc_of (x := (748, .iload 4, 2)) t7_La_law_ok (i := 20) rfl
theorem d_La_law_750 : decode c_La_law 750 = .ok (.iconst 1, 1) := dc_of (x := (750, .iconst 1, 1)) t7_La_law_ok (i := 21) rfl
theorem d_La_law_751 : decode c_La_law 751 = .ok (.iadd, 1) := dc_of (x := (751, .iadd, 1)) t7_La_law_ok (i := 22) rfl
theorem d_La_law_752 : decode c_La_law 752 = .ok (.iaload, 1) := dc_of (x := (752, .iaload, 1)) t7_La_law_ok (i := 23) rfl
theorem d_La_law_753 : decode c_La_law 753 = .ok (.aload_n 0, 1) := dc_of (x := (753, .aload_n 0, 1)) t7_La_law_ok (i := 24) rfl
theorem d_La_law_754 : decode c_La_law 754 = .ok (.iload 4, 2) := dc_of (x := (754, .iload 4, 2)) t7_La_law_ok (i := 25) rfl
theorem d_La_law_756 : decode c_La_law 756 = .ok (.iconst 2, 1) := dc_of (x := (756, .iconst 2, 1)) t7_La_law_ok (i := 26) rfl
theorem d_La_law_757 : decode c_La_law 757 = .ok (.iadd, 1) := dc_of (x := (757, .iadd, 1)) t7_La_law_ok (i := 27) rfl
theorem d_La_law_758 : decode c_La_law 758 = .ok (.iaload, 1) := dc_of (x := (758, .iaload, 1)) t7_La_law_ok (i := 28) rfl
theorem d_La_law_759 : decode c_La_law 759 = .ok (.aload_n 0, 1) := dc_of (x := (759, .aload_n 0, 1)) t7_La_law_ok (i := 29) rfl
theorem d_La_law_760 : decode c_La_law 760 = .ok (.iload 4, 2) := dc_of (x := (760, .iload 4, 2)) t7_La_law_ok (i := 30) rfl
theorem d_La_law_762 : decode c_La_law 762 = .ok (.iconst 3, 1) := dc_of (x := (762, .iconst 3, 1)) t7_La_law_ok (i := 31) rfl
theorem d_La_law_763 : decode c_La_law 763 = .ok (.iadd, 1) := dc_of (x := (763, .iadd, 1)) t7_La_law_ok (i := 32) rfl
theorem d_La_law_764 : decode c_La_law 764 = .ok (.iaload, 1) := dc_of (x := (764, .iaload, 1)) t7_La_law_ok (i := 33) rfl
theorem d_La_law_765 : decode c_La_law 765 = .ok (.aload_n 0, 1) := dc_of (x := (765, .aload_n 0, 1)) t7_La_law_ok (i := 34) rfl
theorem d_La_law_766 : decode c_La_law 766 = .ok (.iload 4, 2) := dc_of (x := (766, .iload 4, 2)) t7_La_law_ok (i := 35) rfl
theorem d_La_law_768 : decode c_La_law 768 = .ok (.iconst 4, 1) := dc_of (x := (768, .iconst 4, 1)) t7_La_law_ok (i := 36) rfl
theorem d_La_law_769 : decode c_La_law 769 = .ok (.iadd, 1) := dc_of (x := (769, .iadd, 1)) t7_La_law_ok (i := 37) rfl
theorem d_La_law_770 : decode c_La_law 770 = .ok (.iaload, 1) := dc_of (x := (770, .iaload, 1)) t7_La_law_ok (i := 38) rfl
theorem d_La_law_771 : decode c_La_law 771 = .ok (.aload_n 3, 1) := dc_of (x := (771, .aload_n 3, 1)) t7_La_law_ok (i := 39) rfl
theorem d_La_law_772 : decode c_La_law 772 = .ok (.invokestatic 114, 3) := dc_of (x := (772, .invokestatic 114, 3)) t7_La_law_ok (i := 40) rfl
theorem d_La_law_775 : decode c_La_law 775 = .ok (.istore 5, 2) := dc_of (x := (775, .istore 5, 2)) t7_La_law_ok (i := 41) rfl
theorem d_La_law_777 : decode c_La_law 777 = .ok (.aload_n 2, 1) := dc_of (x := (777, .aload_n 2, 1)) t7_La_law_ok (i := 42) rfl
theorem d_La_law_778 : decode c_La_law 778 = .ok (.aload_n 0, 1) := dc_of (x := (778, .aload_n 0, 1)) t7_La_law_ok (i := 43) rfl
theorem d_La_law_779 : decode c_La_law 779 = .ok (.iload 4, 2) := dc_of (x := (779, .iload 4, 2)) t7_La_law_ok (i := 44) rfl
theorem d_La_law_781 : decode c_La_law 781 = .ok (.iconst 1, 1) := dc_of (x := (781, .iconst 1, 1)) t7_La_law_ok (i := 45) rfl
theorem d_La_law_782 : decode c_La_law 782 = .ok (.iadd, 1) := dc_of (x := (782, .iadd, 1)) t7_La_law_ok (i := 46) rfl
theorem d_La_law_783 : decode c_La_law 783 = .ok (.iaload, 1) := dc_of (x := (783, .iaload, 1)) t7_La_law_ok (i := 47) rfl
theorem d_La_law_784 : decode c_La_law 784 = .ok (.aload_n 0, 1) := dc_of (x := (784, .aload_n 0, 1)) t7_La_law_ok (i := 48) rfl
theorem d_La_law_785 : decode c_La_law 785 = .ok (.iload 4, 2) := dc_of (x := (785, .iload 4, 2)) t7_La_law_ok (i := 49) rfl
theorem d_La_law_787 : decode c_La_law 787 = .ok (.iconst 2, 1) := dc_of (x := (787, .iconst 2, 1)) t7_La_law_ok (i := 50) rfl
theorem d_La_law_788 : decode c_La_law 788 = .ok (.iadd, 1) := dc_of (x := (788, .iadd, 1)) t7_La_law_ok (i := 51) rfl
theorem d_La_law_789 : decode c_La_law 789 = .ok (.iaload, 1) := dc_of (x := (789, .iaload, 1)) t7_La_law_ok (i := 52) rfl
theorem d_La_law_790 : decode c_La_law 790 = .ok (.aload_n 0, 1) := dc_of (x := (790, .aload_n 0, 1)) t7_La_law_ok (i := 53) rfl
theorem d_La_law_791 : decode c_La_law 791 = .ok (.iload 4, 2) := dc_of (x := (791, .iload 4, 2)) t7_La_law_ok (i := 54) rfl
theorem d_La_law_793 : decode c_La_law 793 = .ok (.iconst 3, 1) := dc_of (x := (793, .iconst 3, 1)) t7_La_law_ok (i := 55) rfl
theorem d_La_law_794 : decode c_La_law 794 = .ok (.iadd, 1) := dc_of (x := (794, .iadd, 1)) t7_La_law_ok (i := 56) rfl
theorem d_La_law_795 : decode c_La_law 795 = .ok (.iaload, 1) := dc_of (x := (795, .iaload, 1)) t7_La_law_ok (i := 57) rfl
theorem d_La_law_796 : decode c_La_law 796 = .ok (.aload_n 0, 1) := dc_of (x := (796, .aload_n 0, 1)) t7_La_law_ok (i := 58) rfl
theorem d_La_law_797 : decode c_La_law 797 = .ok (.iload 4, 2) := dc_of (x := (797, .iload 4, 2)) t7_La_law_ok (i := 59) rfl
theorem d_La_law_799 : decode c_La_law 799 = .ok (.iconst 4, 1) := dc_of (x := (799, .iconst 4, 1)) t8_La_law_ok (i := 0) rfl
theorem d_La_law_800 : decode c_La_law 800 = .ok (.iadd, 1) := dc_of (x := (800, .iadd, 1)) t8_La_law_ok (i := 1) rfl
theorem d_La_law_801 : decode c_La_law 801 = .ok (.iaload, 1) := dc_of (x := (801, .iaload, 1)) t8_La_law_ok (i := 2) rfl
theorem d_La_law_802 : decode c_La_law 802 = .ok (.invokevirtual 116, 3) := dc_of (x := (802, .invokevirtual 116, 3)) t8_La_law_ok (i := 3) rfl
theorem d_La_law_805 : decode c_La_law 805 = .ok (.istore 6, 2) := dc_of (x := (805, .istore 6, 2)) t8_La_law_ok (i := 4) rfl
theorem d_La_law_807 : decode c_La_law 807 = .ok (.aload_n 2, 1) := dc_of (x := (807, .aload_n 2, 1)) t8_La_law_ok (i := 5) rfl
theorem d_La_law_808 : decode c_La_law 808 = .ok (.invokevirtual 86, 3) := dc_of (x := (808, .invokevirtual 86, 3)) t8_La_law_ok (i := 6) rfl
theorem d_La_law_811 : decode c_La_law 811 = .ok (.iload 5, 2) := dc_of (x := (811, .iload 5, 2)) t8_La_law_ok (i := 7) rfl
theorem d_La_law_813 : decode c_La_law 813 = .ok (.if_icmp .eq 5, 3) := dc_of (x := (813, .if_icmp .eq 5, 3)) t8_La_law_ok (i := 8) rfl
theorem d_La_law_816 : decode c_La_law 816 = .ok (.iconst 0, 1) := dc_of (x := (816, .iconst 0, 1)) t8_La_law_ok (i := 9) rfl
theorem d_La_law_817 : decode c_La_law 817 = .ok (.ireturn, 1) := dc_of (x := (817, .ireturn, 1)) t8_La_law_ok (i := 10) rfl
theorem d_La_law_818 : decode c_La_law 818 = .ok (.iload 5, 2) := dc_of (x := (818, .iload 5, 2)) t8_La_law_ok (i := 11) rfl
theorem d_La_law_820 : decode c_La_law 820 = .ok (.ifCond .ne 15, 3) := dc_of (x := (820, .ifCond .ne 15, 3)) t8_La_law_ok (i := 12) rfl
theorem d_La_law_823 : decode c_La_law 823 = .ok (.aload_n 3, 1) := dc_of (x := (823, .aload_n 3, 1)) t8_La_law_ok (i := 13) rfl
theorem d_La_law_824 : decode c_La_law 824 = .ok (.iconst 0, 1) := dc_of (x := (824, .iconst 0, 1)) t8_La_law_ok (i := 14) rfl
theorem d_La_law_825 : decode c_La_law 825 = .ok (.laload, 1) := dc_of (x := (825, .laload, 1)) t8_La_law_ok (i := 15) rfl
theorem d_La_law_826 : decode c_La_law 826 = .ok (.iload 6, 2) := dc_of (x := (826, .iload 6, 2)) t8_La_law_ok (i := 16) rfl
theorem d_La_law_828 : decode c_La_law 828 = .ok (.i2l, 1) := dc_of (x := (828, .i2l, 1)) t8_La_law_ok (i := 17) rfl
theorem d_La_law_829 : decode c_La_law 829 = .ok (.lcmp, 1) := dc_of (x := (829, .lcmp, 1)) t8_La_law_ok (i := 18) rfl
theorem d_La_law_830 : decode c_La_law 830 = .ok (.ifCond .eq 5, 3) := dc_of (x := (830, .ifCond .eq 5, 3)) t8_La_law_ok (i := 19) rfl
theorem d_La_law_833 : decode c_La_law 833 = .ok (.iconst 0, 1) := dc_of (x := (833, .iconst 0, 1)) t8_La_law_ok (i := 20) rfl
theorem d_La_law_834 : decode c_La_law 834 = .ok (.ireturn, 1) := dc_of (x := (834, .ireturn, 1)) t8_La_law_ok (i := 21) rfl
theorem d_La_law_835 : decode c_La_law 835 = .ok (.goto 646, 3) := dc_of (x := (835, .goto 646, 3)) t8_La_law_ok (i := 22) rfl
theorem d_La_law_838 : decode c_La_law 838 = .ok (.aload_n 1, 1) := dc_of (x := (838, .aload_n 1, 1)) t8_La_law_ok (i := 23) rfl
theorem d_La_law_839 : decode c_La_law 839 = .ok (.aload_n 0, 1) := dc_of (x := (839, .aload_n 0, 1)) t8_La_law_ok (i := 24) rfl
theorem d_La_law_840 : decode c_La_law 840 = .ok (.iload 4, 2) := dc_of (x := (840, .iload 4, 2)) t8_La_law_ok (i := 25) rfl
theorem d_La_law_842 : decode c_La_law 842 = .ok (.iconst 1, 1) := dc_of (x := (842, .iconst 1, 1)) t8_La_law_ok (i := 26) rfl
theorem d_La_law_843 : decode c_La_law 843 = .ok (.iadd, 1) := dc_of (x := (843, .iadd, 1)) t8_La_law_ok (i := 27) rfl
theorem d_La_law_844 : decode c_La_law 844 = .ok (.iaload, 1) := dc_of (x := (844, .iaload, 1)) t8_La_law_ok (i := 28) rfl
theorem d_La_law_845 : decode c_La_law 845 = .ok (.aload_n 3, 1) := dc_of (x := (845, .aload_n 3, 1)) t8_La_law_ok (i := 29) rfl
theorem d_La_law_846 : decode c_La_law 846 = .ok (.invokestatic 117, 3) := dc_of (x := (846, .invokestatic 117, 3)) t8_La_law_ok (i := 30) rfl
theorem d_La_law_849 : decode c_La_law 849 = .ok (.istore 5, 2) := dc_of (x := (849, .istore 5, 2)) t8_La_law_ok (i := 31) rfl
theorem d_La_law_851 : decode c_La_law 851 = .ok (.aload_n 2, 1) := dc_of (x := (851, .aload_n 2, 1)) t8_La_law_ok (i := 32) rfl
theorem d_La_law_852 : decode c_La_law 852 = .ok (.aload_n 0, 1) := dc_of (x := (852, .aload_n 0, 1)) t8_La_law_ok (i := 33) rfl
theorem d_La_law_853 : decode c_La_law 853 = .ok (.iload 4, 2) := dc_of (x := (853, .iload 4, 2)) t8_La_law_ok (i := 34) rfl
theorem d_La_law_855 : decode c_La_law 855 = .ok (.iconst 1, 1) := dc_of (x := (855, .iconst 1, 1)) t8_La_law_ok (i := 35) rfl
theorem d_La_law_856 : decode c_La_law 856 = .ok (.iadd, 1) := dc_of (x := (856, .iadd, 1)) t8_La_law_ok (i := 36) rfl
theorem d_La_law_857 : decode c_La_law 857 = .ok (.iaload, 1) := dc_of (x := (857, .iaload, 1)) t8_La_law_ok (i := 37) rfl
theorem d_La_law_858 : decode c_La_law 858 = .ok (.invokevirtual 119, 3) := dc_of (x := (858, .invokevirtual 119, 3)) t8_La_law_ok (i := 38) rfl
theorem d_La_law_861 : decode c_La_law 861 = .ok (.istore 6, 2) := dc_of (x := (861, .istore 6, 2)) t8_La_law_ok (i := 39) rfl
theorem d_La_law_863 : decode c_La_law 863 = .ok (.aload_n 2, 1) := dc_of (x := (863, .aload_n 2, 1)) t8_La_law_ok (i := 40) rfl
theorem d_La_law_864 : decode c_La_law 864 = .ok (.invokevirtual 86, 3) := dc_of (x := (864, .invokevirtual 86, 3)) t8_La_law_ok (i := 41) rfl
theorem d_La_law_867 : decode c_La_law 867 = .ok (.iload 5, 2) := dc_of (x := (867, .iload 5, 2)) t8_La_law_ok (i := 42) rfl
theorem d_La_law_869 : decode c_La_law 869 = .ok (.if_icmp .eq 5, 3) := dc_of (x := (869, .if_icmp .eq 5, 3)) t8_La_law_ok (i := 43) rfl
theorem d_La_law_872 : decode c_La_law 872 = .ok (.iconst 0, 1) := dc_of (x := (872, .iconst 0, 1)) t8_La_law_ok (i := 44) rfl
theorem d_La_law_873 : decode c_La_law 873 = .ok (.ireturn, 1) := dc_of (x := (873, .ireturn, 1)) t8_La_law_ok (i := 45) rfl
theorem d_La_law_874 : decode c_La_law 874 = .ok (.iload 5, 2) := dc_of (x := (874, .iload 5, 2)) t8_La_law_ok (i := 46) rfl
theorem d_La_law_876 : decode c_La_law 876 = .ok (.ifCond .ne 15, 3) := dc_of (x := (876, .ifCond .ne 15, 3)) t8_La_law_ok (i := 47) rfl
theorem d_La_law_879 : decode c_La_law 879 = .ok (.aload_n 3, 1) := dc_of (x := (879, .aload_n 3, 1)) t8_La_law_ok (i := 48) rfl
theorem d_La_law_880 : decode c_La_law 880 = .ok (.iconst 0, 1) := dc_of (x := (880, .iconst 0, 1)) t8_La_law_ok (i := 49) rfl
theorem d_La_law_881 : decode c_La_law 881 = .ok (.laload, 1) := dc_of (x := (881, .laload, 1)) t8_La_law_ok (i := 50) rfl
theorem d_La_law_882 : decode c_La_law 882 = .ok (.iload 6, 2) := dc_of (x := (882, .iload 6, 2)) t8_La_law_ok (i := 51) rfl
theorem d_La_law_884 : decode c_La_law 884 = .ok (.i2l, 1) := dc_of (x := (884, .i2l, 1)) t8_La_law_ok (i := 52) rfl
theorem d_La_law_885 : decode c_La_law 885 = .ok (.lcmp, 1) := dc_of (x := (885, .lcmp, 1)) t8_La_law_ok (i := 53) rfl
theorem d_La_law_886 : decode c_La_law 886 = .ok (.ifCond .eq 5, 3) := dc_of (x := (886, .ifCond .eq 5, 3)) t8_La_law_ok (i := 54) rfl
theorem d_La_law_889 : decode c_La_law 889 = .ok (.iconst 0, 1) := dc_of (x := (889, .iconst 0, 1)) t8_La_law_ok (i := 55) rfl
theorem d_La_law_890 : decode c_La_law 890 = .ok (.ireturn, 1) := dc_of (x := (890, .ireturn, 1)) t8_La_law_ok (i := 56) rfl
theorem d_La_law_891 : decode c_La_law 891 = .ok (.goto 590, 3) := dc_of (x := (891, .goto 590, 3)) t8_La_law_ok (i := 57) rfl
theorem d_La_law_894 : decode c_La_law 894 = .ok (.aload_n 1, 1) := dc_of (x := (894, .aload_n 1, 1)) t8_La_law_ok (i := 58) rfl
theorem d_La_law_895 : decode c_La_law 895 = .ok (.aload_n 0, 1) := dc_of (x := (895, .aload_n 0, 1)) t8_La_law_ok (i := 59) rfl
theorem d_La_law_896 : decode c_La_law 896 = .ok (.iload 4, 2) := dc_of (x := (896, .iload 4, 2)) t9_La_law_ok (i := 0) rfl
theorem d_La_law_898 : decode c_La_law 898 = .ok (.iconst 1, 1) := dc_of (x := (898, .iconst 1, 1)) t9_La_law_ok (i := 1) rfl
theorem d_La_law_899 : decode c_La_law 899 = .ok (.iadd, 1) := dc_of (x := (899, .iadd, 1)) t9_La_law_ok (i := 2) rfl
theorem d_La_law_900 : decode c_La_law 900 = .ok (.iaload, 1) := dc_of (x := (900, .iaload, 1)) t9_La_law_ok (i := 3) rfl
theorem d_La_law_901 : decode c_La_law 901 = .ok (.i2l, 1) := dc_of (x := (901, .i2l, 1)) t9_La_law_ok (i := 4) rfl
theorem d_La_law_902 : decode c_La_law 902 = .ok (.bipush 32, 2) := dc_of (x := (902, .bipush 32, 2)) t9_La_law_ok (i := 5) rfl
theorem d_La_law_904 : decode c_La_law 904 = .ok (.lshl, 1) := dc_of (x := (904, .lshl, 1)) t9_La_law_ok (i := 6) rfl
theorem d_La_law_905 : decode c_La_law 905 = .ok (.aload_n 0, 1) := dc_of (x := (905, .aload_n 0, 1)) t9_La_law_ok (i := 7) rfl
theorem d_La_law_906 : decode c_La_law 906 = .ok (.iload 4, 2) := dc_of (x := (906, .iload 4, 2)) t9_La_law_ok (i := 8) rfl
theorem d_La_law_908 : decode c_La_law 908 = .ok (.iconst 2, 1) := dc_of (x := (908, .iconst 2, 1)) t9_La_law_ok (i := 9) rfl
theorem d_La_law_909 : decode c_La_law 909 = .ok (.iadd, 1) := dc_of (x := (909, .iadd, 1)) t9_La_law_ok (i := 10) rfl
theorem d_La_law_910 : decode c_La_law 910 = .ok (.iaload, 1) := dc_of (x := (910, .iaload, 1)) t9_La_law_ok (i := 11) rfl
theorem d_La_law_911 : decode c_La_law 911 = .ok (.i2l, 1) := dc_of (x := (911, .i2l, 1)) t9_La_law_ok (i := 12) rfl
theorem d_La_law_912 : decode c_La_law 912 = .ok (.ldc2_w 101, 3) := dc_of (x := (912, .ldc2_w 101, 3)) t9_La_law_ok (i := 13) rfl
theorem d_La_law_915 : decode c_La_law 915 = .ok (.land, 1) := dc_of (x := (915, .land, 1)) t9_La_law_ok (i := 14) rfl
theorem d_La_law_916 : decode c_La_law 916 = .ok (.lor, 1) := dc_of (x := (916, .lor, 1)) t9_La_law_ok (i := 15) rfl
theorem d_La_law_917 : decode c_La_law 917 = .ok (.aload_n 3, 1) := dc_of (x := (917, .aload_n 3, 1)) t9_La_law_ok (i := 16) rfl
theorem d_La_law_918 : decode c_La_law 918 = .ok (.invokestatic 120, 3) := dc_of (x := (918, .invokestatic 120, 3)) t9_La_law_ok (i := 17) rfl
theorem d_La_law_921 : decode c_La_law 921 = .ok (.istore 5, 2) := dc_of (x := (921, .istore 5, 2)) t9_La_law_ok (i := 18) rfl
theorem d_La_law_923 : decode c_La_law 923 = .ok (.aload_n 2, 1) := dc_of (x := (923, .aload_n 2, 1)) t9_La_law_ok (i := 19) rfl
theorem d_La_law_924 : decode c_La_law 924 = .ok (.aload_n 0, 1) := dc_of (x := (924, .aload_n 0, 1)) t9_La_law_ok (i := 20) rfl
theorem d_La_law_925 : decode c_La_law 925 = .ok (.iload 4, 2) := dc_of (x := (925, .iload 4, 2)) t9_La_law_ok (i := 21) rfl
theorem d_La_law_927 : decode c_La_law 927 = .ok (.iconst 1, 1) := dc_of (x := (927, .iconst 1, 1)) t9_La_law_ok (i := 22) rfl
theorem d_La_law_928 : decode c_La_law 928 = .ok (.iadd, 1) := dc_of (x := (928, .iadd, 1)) t9_La_law_ok (i := 23) rfl
theorem d_La_law_929 : decode c_La_law 929 = .ok (.iaload, 1) := dc_of (x := (929, .iaload, 1)) t9_La_law_ok (i := 24) rfl
theorem d_La_law_930 : decode c_La_law 930 = .ok (.i2l, 1) := dc_of (x := (930, .i2l, 1)) t9_La_law_ok (i := 25) rfl
theorem d_La_law_931 : decode c_La_law 931 = .ok (.bipush 32, 2) := dc_of (x := (931, .bipush 32, 2)) t9_La_law_ok (i := 26) rfl
theorem d_La_law_933 : decode c_La_law 933 = .ok (.lshl, 1) := dc_of (x := (933, .lshl, 1)) t9_La_law_ok (i := 27) rfl
theorem d_La_law_934 : decode c_La_law 934 = .ok (.aload_n 0, 1) := dc_of (x := (934, .aload_n 0, 1)) t9_La_law_ok (i := 28) rfl
theorem d_La_law_935 : decode c_La_law 935 = .ok (.iload 4, 2) := dc_of (x := (935, .iload 4, 2)) t9_La_law_ok (i := 29) rfl
theorem d_La_law_937 : decode c_La_law 937 = .ok (.iconst 2, 1) := dc_of (x := (937, .iconst 2, 1)) t9_La_law_ok (i := 30) rfl
theorem d_La_law_938 : decode c_La_law 938 = .ok (.iadd, 1) := dc_of (x := (938, .iadd, 1)) t9_La_law_ok (i := 31) rfl
theorem d_La_law_939 : decode c_La_law 939 = .ok (.iaload, 1) := dc_of (x := (939, .iaload, 1)) t9_La_law_ok (i := 32) rfl
theorem d_La_law_940 : decode c_La_law 940 = .ok (.i2l, 1) := dc_of (x := (940, .i2l, 1)) t9_La_law_ok (i := 33) rfl
theorem d_La_law_941 : decode c_La_law 941 = .ok (.ldc2_w 101, 3) := dc_of (x := (941, .ldc2_w 101, 3)) t9_La_law_ok (i := 34) rfl
theorem d_La_law_944 : decode c_La_law 944 = .ok (.land, 1) := dc_of (x := (944, .land, 1)) t9_La_law_ok (i := 35) rfl
theorem d_La_law_945 : decode c_La_law 945 = .ok (.lor, 1) := dc_of (x := (945, .lor, 1)) t9_La_law_ok (i := 36) rfl
theorem d_La_law_946 : decode c_La_law 946 = .ok (.invokevirtual 123, 3) := dc_of (x := (946, .invokevirtual 123, 3)) t9_La_law_ok (i := 37) rfl
theorem d_La_law_949 : decode c_La_law 949 = .ok (.lstore 6, 2) := dc_of (x := (949, .lstore 6, 2)) t9_La_law_ok (i := 38) rfl
theorem d_La_law_951 : decode c_La_law 951 = .ok (.aload_n 2, 1) := dc_of (x := (951, .aload_n 2, 1)) t9_La_law_ok (i := 39) rfl
theorem d_La_law_952 : decode c_La_law 952 = .ok (.invokevirtual 86, 3) := dc_of (x := (952, .invokevirtual 86, 3)) t9_La_law_ok (i := 40) rfl
theorem d_La_law_955 : decode c_La_law 955 = .ok (.iload 5, 2) := dc_of (x := (955, .iload 5, 2)) t9_La_law_ok (i := 41) rfl
theorem d_La_law_957 : decode c_La_law 957 = .ok (.if_icmp .eq 5, 3) := dc_of (x := (957, .if_icmp .eq 5, 3)) t9_La_law_ok (i := 42) rfl
theorem d_La_law_960 : decode c_La_law 960 = .ok (.iconst 0, 1) := dc_of (x := (960, .iconst 0, 1)) t9_La_law_ok (i := 43) rfl
theorem d_La_law_961 : decode c_La_law 961 = .ok (.ireturn, 1) := dc_of (x := (961, .ireturn, 1)) t9_La_law_ok (i := 44) rfl
theorem d_La_law_962 : decode c_La_law 962 = .ok (.iload 5, 2) := dc_of (x := (962, .iload 5, 2)) t9_La_law_ok (i := 45) rfl
theorem d_La_law_964 : decode c_La_law 964 = .ok (.ifCond .ne 14, 3) := dc_of (x := (964, .ifCond .ne 14, 3)) t9_La_law_ok (i := 46) rfl
theorem d_La_law_967 : decode c_La_law 967 = .ok (.aload_n 3, 1) := dc_of (x := (967, .aload_n 3, 1)) t9_La_law_ok (i := 47) rfl
theorem d_La_law_968 : decode c_La_law 968 = .ok (.iconst 0, 1) := dc_of (x := (968, .iconst 0, 1)) t9_La_law_ok (i := 48) rfl
theorem d_La_law_969 : decode c_La_law 969 = .ok (.laload, 1) := dc_of (x := (969, .laload, 1)) t9_La_law_ok (i := 49) rfl
theorem d_La_law_970 : decode c_La_law 970 = .ok (.lload 6, 2) := dc_of (x := (970, .lload 6, 2)) t9_La_law_ok (i := 50) rfl
theorem d_La_law_972 : decode c_La_law 972 = .ok (.lcmp, 1) := dc_of (x := (972, .lcmp, 1)) t9_La_law_ok (i := 51) rfl
theorem d_La_law_973 : decode c_La_law 973 = .ok (.ifCond .eq 5, 3) := dc_of (x := (973, .ifCond .eq 5, 3)) t9_La_law_ok (i := 52) rfl
theorem d_La_law_976 : decode c_La_law 976 = .ok (.iconst 0, 1) := dc_of (x := (976, .iconst 0, 1)) t9_La_law_ok (i := 53) rfl
theorem d_La_law_977 : decode c_La_law 977 = .ok (.ireturn, 1) := dc_of (x := (977, .ireturn, 1)) t9_La_law_ok (i := 54) rfl
theorem d_La_law_978 : decode c_La_law 978 = .ok (.goto 503, 3) := dc_of (x := (978, .goto 503, 3)) t9_La_law_ok (i := 55) rfl
theorem d_La_law_981 : decode c_La_law 981 = .ok (.aload_n 1, 1) := dc_of (x := (981, .aload_n 1, 1)) t9_La_law_ok (i := 56) rfl
theorem d_La_law_982 : decode c_La_law 982 = .ok (.invokevirtual 124, 3) := dc_of (x := (982, .invokevirtual 124, 3)) t9_La_law_ok (i := 57) rfl
theorem d_La_law_985 : decode c_La_law 985 = .ok (.aload_n 2, 1) := dc_of (x := (985, .aload_n 2, 1)) t9_La_law_ok (i := 58) rfl
theorem d_La_law_986 : decode c_La_law 986 = .ok (.invokevirtual 128, 3) := dc_of (x := (986, .invokevirtual 128, 3)) t9_La_law_ok (i := 59) rfl
theorem d_La_law_989 : decode c_La_law 989 = .ok (.lcmp, 1) := dc_of (x := (989, .lcmp, 1)) t10_La_law_ok (i := 0) rfl
theorem d_La_law_990 : decode c_La_law 990 = .ok (.ifCond .eq 491, 3) := dc_of (x := (990, .ifCond .eq 491, 3)) t10_La_law_ok (i := 1) rfl
theorem d_La_law_993 : decode c_La_law 993 = .ok (.iconst 0, 1) := dc_of (x := (993, .iconst 0, 1)) t10_La_law_ok (i := 2) rfl
theorem d_La_law_994 : decode c_La_law 994 = .ok (.ireturn, 1) := dc_of (x := (994, .ireturn, 1)) t10_La_law_ok (i := 3) rfl
theorem d_La_law_995 : decode c_La_law 995 = .ok (.aload_n 1, 1) := dc_of (x := (995, .aload_n 1, 1)) t10_La_law_ok (i := 4) rfl
theorem d_La_law_996 : decode c_La_law 996 = .ok (.aload_n 0, 1) := dc_of (x := (996, .aload_n 0, 1)) t10_La_law_ok (i := 5) rfl
theorem d_La_law_997 : decode c_La_law 997 = .ok (.iload 4, 2) := dc_of (x := (997, .iload 4, 2)) t10_La_law_ok (i := 6) rfl
theorem d_La_law_999 : decode c_La_law 999 = .ok (.iconst 1, 1) := dc_of (x := (999, .iconst 1, 1)) t10_La_law_ok (i := 7) rfl
theorem d_La_law_1000 : decode c_La_law 1000 = .ok (.iadd, 1) := dc_of (x := (1000, .iadd, 1)) t10_La_law_ok (i := 8) rfl
theorem d_La_law_1001 : decode c_La_law 1001 = .ok (.iaload, 1) := dc_of (x := (1001, .iaload, 1)) t10_La_law_ok (i := 9) rfl
theorem d_La_law_1002 : decode c_La_law 1002 = .ok (.aload_n 0, 1) := dc_of (x := (1002, .aload_n 0, 1)) t10_La_law_ok (i := 10) rfl
theorem d_La_law_1003 : decode c_La_law 1003 = .ok (.iload 4, 2) := dc_of (x := (1003, .iload 4, 2)) t10_La_law_ok (i := 11) rfl
theorem d_La_law_1005 : decode c_La_law 1005 = .ok (.iconst 2, 1) := dc_of (x := (1005, .iconst 2, 1)) t10_La_law_ok (i := 12) rfl
theorem d_La_law_1006 : decode c_La_law 1006 = .ok (.iadd, 1) := dc_of (x := (1006, .iadd, 1)) t10_La_law_ok (i := 13) rfl
theorem d_La_law_1007 : decode c_La_law 1007 = .ok (.iaload, 1) := dc_of (x := (1007, .iaload, 1)) t10_La_law_ok (i := 14) rfl
theorem d_La_law_1008 : decode c_La_law 1008 = .ok (.i2l, 1) := dc_of (x := (1008, .i2l, 1)) t10_La_law_ok (i := 15) rfl
theorem d_La_law_1009 : decode c_La_law 1009 = .ok (.bipush 32, 2) := dc_of (x := (1009, .bipush 32, 2)) t10_La_law_ok (i := 16) rfl
theorem d_La_law_1011 : decode c_La_law 1011 = .ok (.lshl, 1) := dc_of (x := (1011, .lshl, 1)) t10_La_law_ok (i := 17) rfl
theorem d_La_law_1012 : decode c_La_law 1012 = .ok (.aload_n 0, 1) := dc_of (x := (1012, .aload_n 0, 1)) t10_La_law_ok (i := 18) rfl
theorem d_La_law_1013 : decode c_La_law 1013 = .ok (.iload 4, 2) := dc_of (x := (1013, .iload 4, 2)) t10_La_law_ok (i := 19) rfl
theorem d_La_law_1015 : decode c_La_law 1015 = .ok (.iconst 3, 1) := dc_of (x := (1015, .iconst 3, 1)) t10_La_law_ok (i := 20) rfl
theorem d_La_law_1016 : decode c_La_law 1016 = .ok (.iadd, 1) := dc_of (x := (1016, .iadd, 1)) t10_La_law_ok (i := 21) rfl
theorem d_La_law_1017 : decode c_La_law 1017 = .ok (.iaload, 1) := dc_of (x := (1017, .iaload, 1)) t10_La_law_ok (i := 22) rfl
theorem d_La_law_1018 : decode c_La_law 1018 = .ok (.i2l, 1) := dc_of (x := (1018, .i2l, 1)) t10_La_law_ok (i := 23) rfl
theorem d_La_law_1019 : decode c_La_law 1019 = .ok (.ldc2_w 101, 3) := dc_of (x := (1019, .ldc2_w 101, 3)) t10_La_law_ok (i := 24) rfl
theorem d_La_law_1022 : decode c_La_law 1022 = .ok (.land, 1) := dc_of (x := (1022, .land, 1)) t10_La_law_ok (i := 25) rfl
theorem d_La_law_1023 : decode c_La_law 1023 = .ok (.lor, 1) := dc_of (x := (1023, .lor, 1)) t10_La_law_ok (i := 26) rfl
theorem d_La_law_1024 : decode c_La_law 1024 = .ok (.aload_n 3, 1) := dc_of (x := (1024, .aload_n 3, 1)) t10_La_law_ok (i := 27) rfl
theorem d_La_law_1025 : decode c_La_law 1025 = .ok (.invokestatic 129, 3) := dc_of (x := (1025, .invokestatic 129, 3)) t10_La_law_ok (i := 28) rfl
theorem d_La_law_1028 : decode c_La_law 1028 = .ok (.istore 5, 2) := dc_of (x := (1028, .istore 5, 2)) t10_La_law_ok (i := 29) rfl
theorem d_La_law_1030 : decode c_La_law 1030 = .ok (.aload_n 2, 1) := dc_of (x := (1030, .aload_n 2, 1)) t10_La_law_ok (i := 30) rfl
theorem d_La_law_1031 : decode c_La_law 1031 = .ok (.aload_n 0, 1) := dc_of (x := (1031, .aload_n 0, 1)) t10_La_law_ok (i := 31) rfl
theorem d_La_law_1032 : decode c_La_law 1032 = .ok (.iload 4, 2) := dc_of (x := (1032, .iload 4, 2)) t10_La_law_ok (i := 32) rfl
theorem d_La_law_1034 : decode c_La_law 1034 = .ok (.iconst 1, 1) := dc_of (x := (1034, .iconst 1, 1)) t10_La_law_ok (i := 33) rfl
theorem d_La_law_1035 : decode c_La_law 1035 = .ok (.iadd, 1) := dc_of (x := (1035, .iadd, 1)) t10_La_law_ok (i := 34) rfl
theorem d_La_law_1036 : decode c_La_law 1036 = .ok (.iaload, 1) := dc_of (x := (1036, .iaload, 1)) t10_La_law_ok (i := 35) rfl
theorem d_La_law_1037 : decode c_La_law 1037 = .ok (.aload_n 0, 1) := dc_of (x := (1037, .aload_n 0, 1)) t10_La_law_ok (i := 36) rfl
theorem d_La_law_1038 : decode c_La_law 1038 = .ok (.iload 4, 2) := dc_of (x := (1038, .iload 4, 2)) t10_La_law_ok (i := 37) rfl
theorem d_La_law_1040 : decode c_La_law 1040 = .ok (.iconst 2, 1) := dc_of (x := (1040, .iconst 2, 1)) t10_La_law_ok (i := 38) rfl
theorem d_La_law_1041 : decode c_La_law 1041 = .ok (.iadd, 1) := dc_of (x := (1041, .iadd, 1)) t10_La_law_ok (i := 39) rfl
theorem d_La_law_1042 : decode c_La_law 1042 = .ok (.iaload, 1) := dc_of (x := (1042, .iaload, 1)) t10_La_law_ok (i := 40) rfl
theorem d_La_law_1043 : decode c_La_law 1043 = .ok (.i2l, 1) := dc_of (x := (1043, .i2l, 1)) t10_La_law_ok (i := 41) rfl
theorem d_La_law_1044 : decode c_La_law 1044 = .ok (.bipush 32, 2) := dc_of (x := (1044, .bipush 32, 2)) t10_La_law_ok (i := 42) rfl
theorem d_La_law_1046 : decode c_La_law 1046 = .ok (.lshl, 1) := dc_of (x := (1046, .lshl, 1)) t10_La_law_ok (i := 43) rfl
theorem d_La_law_1047 : decode c_La_law 1047 = .ok (.aload_n 0, 1) := dc_of (x := (1047, .aload_n 0, 1)) t10_La_law_ok (i := 44) rfl
theorem d_La_law_1048 : decode c_La_law 1048 = .ok (.iload 4, 2) := dc_of (x := (1048, .iload 4, 2)) t10_La_law_ok (i := 45) rfl
theorem d_La_law_1050 : decode c_La_law 1050 = .ok (.iconst 3, 1) := dc_of (x := (1050, .iconst 3, 1)) t10_La_law_ok (i := 46) rfl
theorem d_La_law_1051 : decode c_La_law 1051 = .ok (.iadd, 1) := dc_of (x := (1051, .iadd, 1)) t10_La_law_ok (i := 47) rfl
theorem d_La_law_1052 : decode c_La_law 1052 = .ok (.iaload, 1) := dc_of (x := (1052, .iaload, 1)) t10_La_law_ok (i := 48) rfl
theorem d_La_law_1053 : decode c_La_law 1053 = .ok (.i2l, 1) := dc_of (x := (1053, .i2l, 1)) t10_La_law_ok (i := 49) rfl
theorem d_La_law_1054 : decode c_La_law 1054 = .ok (.ldc2_w 101, 3) := dc_of (x := (1054, .ldc2_w 101, 3)) t10_La_law_ok (i := 50) rfl
theorem d_La_law_1057 : decode c_La_law 1057 = .ok (.land, 1) := dc_of (x := (1057, .land, 1)) t10_La_law_ok (i := 51) rfl
theorem d_La_law_1058 : decode c_La_law 1058 = .ok (.lor, 1) := dc_of (x := (1058, .lor, 1)) t10_La_law_ok (i := 52) rfl
theorem d_La_law_1059 : decode c_La_law 1059 = .ok (.invokevirtual 131, 3) := dc_of (x := (1059, .invokevirtual 131, 3)) t10_La_law_ok (i := 53) rfl
theorem d_La_law_1062 : decode c_La_law 1062 = .ok (.istore 6, 2) := dc_of (x := (1062, .istore 6, 2)) t10_La_law_ok (i := 54) rfl
theorem d_La_law_1064 : decode c_La_law 1064 = .ok (.aload_n 2, 1) := dc_of (x := (1064, .aload_n 2, 1)) t10_La_law_ok (i := 55) rfl
theorem d_La_law_1065 : decode c_La_law 1065 = .ok (.invokevirtual 86, 3) := dc_of (x := (1065, .invokevirtual 86, 3)) t10_La_law_ok (i := 56) rfl
theorem d_La_law_1068 : decode c_La_law 1068 = .ok (.iload 5, 2) := dc_of (x := (1068, .iload 5, 2)) t10_La_law_ok (i := 57) rfl
theorem d_La_law_1070 : decode c_La_law 1070 = .ok (.if_icmp .eq 5, 3) := dc_of (x := (1070, .if_icmp .eq 5, 3)) t10_La_law_ok (i := 58) rfl
theorem d_La_law_1073 : decode c_La_law 1073 = .ok (.iconst 0, 1) := dc_of (x := (1073, .iconst 0, 1)) t10_La_law_ok (i := 59) rfl
theorem d_La_law_1074 : decode c_La_law 1074 = .ok (.ireturn, 1) := dc_of (x := (1074, .ireturn, 1)) t11_La_law_ok (i := 0) rfl
theorem d_La_law_1075 : decode c_La_law 1075 = .ok (.iload 5, 2) := dc_of (x := (1075, .iload 5, 2)) t11_La_law_ok (i := 1) rfl
theorem d_La_law_1077 : decode c_La_law 1077 = .ok (.ifCond .ne 15, 3) := dc_of (x := (1077, .ifCond .ne 15, 3)) t11_La_law_ok (i := 2) rfl
theorem d_La_law_1080 : decode c_La_law 1080 = .ok (.aload_n 3, 1) := dc_of (x := (1080, .aload_n 3, 1)) t11_La_law_ok (i := 3) rfl
theorem d_La_law_1081 : decode c_La_law 1081 = .ok (.iconst 0, 1) := dc_of (x := (1081, .iconst 0, 1)) t11_La_law_ok (i := 4) rfl
theorem d_La_law_1082 : decode c_La_law 1082 = .ok (.laload, 1) := dc_of (x := (1082, .laload, 1)) t11_La_law_ok (i := 5) rfl
theorem d_La_law_1083 : decode c_La_law 1083 = .ok (.iload 6, 2) := dc_of (x := (1083, .iload 6, 2)) t11_La_law_ok (i := 6) rfl
theorem d_La_law_1085 : decode c_La_law 1085 = .ok (.i2l, 1) := dc_of (x := (1085, .i2l, 1)) t11_La_law_ok (i := 7) rfl
theorem d_La_law_1086 : decode c_La_law 1086 = .ok (.lcmp, 1) := dc_of (x := (1086, .lcmp, 1)) t11_La_law_ok (i := 8) rfl
theorem d_La_law_1087 : decode c_La_law 1087 = .ok (.ifCond .eq 5, 3) := dc_of (x := (1087, .ifCond .eq 5, 3)) t11_La_law_ok (i := 9) rfl
theorem d_La_law_1090 : decode c_La_law 1090 = .ok (.iconst 0, 1) := dc_of (x := (1090, .iconst 0, 1)) t11_La_law_ok (i := 10) rfl
theorem d_La_law_1091 : decode c_La_law 1091 = .ok (.ireturn, 1) := dc_of (x := (1091, .ireturn, 1)) t11_La_law_ok (i := 11) rfl
theorem d_La_law_1092 : decode c_La_law 1092 = .ok (.goto 389, 3) := dc_of (x := (1092, .goto 389, 3)) t11_La_law_ok (i := 12) rfl
theorem d_La_law_1095 : decode c_La_law 1095 = .ok (.aload_n 1, 1) := dc_of (x := (1095, .aload_n 1, 1)) t11_La_law_ok (i := 13) rfl
theorem d_La_law_1096 : decode c_La_law 1096 = .ok (.aload_n 0, 1) := dc_of (x := (1096, .aload_n 0, 1)) t11_La_law_ok (i := 14) rfl
theorem d_La_law_1097 : decode c_La_law 1097 = .ok (.iload 4, 2) := dc_of (x := (1097, .iload 4, 2)) t11_La_law_ok (i := 15) rfl
theorem d_La_law_1099 : decode c_La_law 1099 = .ok (.iconst 1, 1) := dc_of (x := (1099, .iconst 1, 1)) t11_La_law_ok (i := 16) rfl
theorem d_La_law_1100 : decode c_La_law 1100 = .ok (.iadd, 1) := dc_of (x := (1100, .iadd, 1)) t11_La_law_ok (i := 17) rfl
theorem d_La_law_1101 : decode c_La_law 1101 = .ok (.iaload, 1) := dc_of (x := (1101, .iaload, 1)) t11_La_law_ok (i := 18) rfl
theorem d_La_law_1102 : decode c_La_law 1102 = .ok (.aload_n 3, 1) := dc_of (x := (1102, .aload_n 3, 1)) t11_La_law_ok (i := 19) rfl
theorem d_La_law_1103 : decode c_La_law 1103 = .ok (.invokestatic 132, 3) := dc_of (x := (1103, .invokestatic 132, 3)) t11_La_law_ok (i := 20) rfl
theorem d_La_law_1106 : decode c_La_law 1106 = .ok (.istore 5, 2) := dc_of (x := (1106, .istore 5, 2)) t11_La_law_ok (i := 21) rfl
theorem d_La_law_1108 : decode c_La_law 1108 = .ok (.aload_n 2, 1) := dc_of (x := (1108, .aload_n 2, 1)) t11_La_law_ok (i := 22) rfl
theorem d_La_law_1109 : decode c_La_law 1109 = .ok (.aload_n 0, 1) := dc_of (x := (1109, .aload_n 0, 1)) t11_La_law_ok (i := 23) rfl
theorem d_La_law_1110 : decode c_La_law 1110 = .ok (.iload 4, 2) := dc_of (x := (1110, .iload 4, 2)) t11_La_law_ok (i := 24) rfl
theorem d_La_law_1112 : decode c_La_law 1112 = .ok (.iconst 1, 1) := dc_of (x := (1112, .iconst 1, 1)) t11_La_law_ok (i := 25) rfl
theorem d_La_law_1113 : decode c_La_law 1113 = .ok (.iadd, 1) := dc_of (x := (1113, .iadd, 1)) t11_La_law_ok (i := 26) rfl
theorem d_La_law_1114 : decode c_La_law 1114 = .ok (.iaload, 1) := dc_of (x := (1114, .iaload, 1)) t11_La_law_ok (i := 27) rfl
theorem d_La_law_1115 : decode c_La_law 1115 = .ok (.invokevirtual 134, 3) := dc_of (x := (1115, .invokevirtual 134, 3)) t11_La_law_ok (i := 28) rfl
theorem d_La_law_1118 : decode c_La_law 1118 = .ok (.istore 6, 2) := dc_of (x := (1118, .istore 6, 2)) t11_La_law_ok (i := 29) rfl
theorem d_La_law_1120 : decode c_La_law 1120 = .ok (.aload_n 2, 1) := dc_of (x := (1120, .aload_n 2, 1)) t11_La_law_ok (i := 30) rfl
theorem d_La_law_1121 : decode c_La_law 1121 = .ok (.invokevirtual 86, 3) := dc_of (x := (1121, .invokevirtual 86, 3)) t11_La_law_ok (i := 31) rfl
theorem d_La_law_1124 : decode c_La_law 1124 = .ok (.iload 5, 2) := dc_of (x := (1124, .iload 5, 2)) t11_La_law_ok (i := 32) rfl
theorem d_La_law_1126 : decode c_La_law 1126 = .ok (.if_icmp .eq 5, 3) := dc_of (x := (1126, .if_icmp .eq 5, 3)) t11_La_law_ok (i := 33) rfl
theorem d_La_law_1129 : decode c_La_law 1129 = .ok (.iconst 0, 1) := dc_of (x := (1129, .iconst 0, 1)) t11_La_law_ok (i := 34) rfl
theorem d_La_law_1130 : decode c_La_law 1130 = .ok (.ireturn, 1) := dc_of (x := (1130, .ireturn, 1)) t11_La_law_ok (i := 35) rfl
theorem d_La_law_1131 : decode c_La_law 1131 = .ok (.iload 5, 2) := dc_of (x := (1131, .iload 5, 2)) t11_La_law_ok (i := 36) rfl
theorem d_La_law_1133 : decode c_La_law 1133 = .ok (.ifCond .ne 15, 3) := dc_of (x := (1133, .ifCond .ne 15, 3)) t11_La_law_ok (i := 37) rfl
theorem d_La_law_1136 : decode c_La_law 1136 = .ok (.aload_n 3, 1) := dc_of (x := (1136, .aload_n 3, 1)) t11_La_law_ok (i := 38) rfl
theorem d_La_law_1137 : decode c_La_law 1137 = .ok (.iconst 0, 1) := dc_of (x := (1137, .iconst 0, 1)) t11_La_law_ok (i := 39) rfl
theorem d_La_law_1138 : decode c_La_law 1138 = .ok (.laload, 1) := dc_of (x := (1138, .laload, 1)) t11_La_law_ok (i := 40) rfl
theorem d_La_law_1139 : decode c_La_law 1139 = .ok (.iload 6, 2) := dc_of (x := (1139, .iload 6, 2)) t11_La_law_ok (i := 41) rfl
theorem d_La_law_1141 : decode c_La_law 1141 = .ok (.i2l, 1) := dc_of (x := (1141, .i2l, 1)) t11_La_law_ok (i := 42) rfl
theorem d_La_law_1142 : decode c_La_law 1142 = .ok (.lcmp, 1) := dc_of (x := (1142, .lcmp, 1)) t11_La_law_ok (i := 43) rfl
theorem d_La_law_1143 : decode c_La_law 1143 = .ok (.ifCond .eq 5, 3) := dc_of (x := (1143, .ifCond .eq 5, 3)) t11_La_law_ok (i := 44) rfl
theorem d_La_law_1146 : decode c_La_law 1146 = .ok (.iconst 0, 1) := dc_of (x := (1146, .iconst 0, 1)) t11_La_law_ok (i := 45) rfl
theorem d_La_law_1147 : decode c_La_law 1147 = .ok (.ireturn, 1) := dc_of (x := (1147, .ireturn, 1)) t11_La_law_ok (i := 46) rfl
theorem d_La_law_1148 : decode c_La_law 1148 = .ok (.goto 333, 3) := dc_of (x := (1148, .goto 333, 3)) t11_La_law_ok (i := 47) rfl
theorem d_La_law_1151 : decode c_La_law 1151 = .ok (.aload_n 1, 1) := dc_of (x := (1151, .aload_n 1, 1)) t11_La_law_ok (i := 48) rfl
theorem d_La_law_1152 : decode c_La_law 1152 = .ok (.aload_n 0, 1) := dc_of (x := (1152, .aload_n 0, 1)) t11_La_law_ok (i := 49) rfl
theorem d_La_law_1153 : decode c_La_law 1153 = .ok (.iload 4, 2) := dc_of (x := (1153, .iload 4, 2)) t11_La_law_ok (i := 50) rfl
theorem d_La_law_1155 : decode c_La_law 1155 = .ok (.iconst 1, 1) := dc_of (x := (1155, .iconst 1, 1)) t11_La_law_ok (i := 51) rfl
theorem d_La_law_1156 : decode c_La_law 1156 = .ok (.iadd, 1) := dc_of (x := (1156, .iadd, 1)) t11_La_law_ok (i := 52) rfl
theorem d_La_law_1157 : decode c_La_law 1157 = .ok (.iaload, 1) := dc_of (x := (1157, .iaload, 1)) t11_La_law_ok (i := 53) rfl
theorem d_La_law_1158 : decode c_La_law 1158 = .ok (.aload_n 0, 1) := dc_of (x := (1158, .aload_n 0, 1)) t11_La_law_ok (i := 54) rfl
theorem d_La_law_1159 : decode c_La_law 1159 = .ok (.iload 4, 2) := dc_of (x := (1159, .iload 4, 2)) t11_La_law_ok (i := 55) rfl
theorem d_La_law_1161 : decode c_La_law 1161 = .ok (.iconst 2, 1) := dc_of (x := (1161, .iconst 2, 1)) t11_La_law_ok (i := 56) rfl
theorem d_La_law_1162 : decode c_La_law 1162 = .ok (.iadd, 1) := dc_of (x := (1162, .iadd, 1)) t11_La_law_ok (i := 57) rfl
theorem d_La_law_1163 : decode c_La_law 1163 = .ok (.iaload, 1) := dc_of (x := (1163, .iaload, 1)) t11_La_law_ok (i := 58) rfl
theorem d_La_law_1164 : decode c_La_law 1164 = .ok (.aload_n 3, 1) := dc_of (x := (1164, .aload_n 3, 1)) t11_La_law_ok (i := 59) rfl
theorem d_La_law_1165 : decode c_La_law 1165 = .ok (.invokestatic 135, 3) := dc_of (x := (1165, .invokestatic 135, 3)) t12_La_law_ok (i := 0) rfl
theorem d_La_law_1168 : decode c_La_law 1168 = .ok (.istore 5, 2) := dc_of (x := (1168, .istore 5, 2)) t12_La_law_ok (i := 1) rfl
theorem d_La_law_1170 : decode c_La_law 1170 = .ok (.aload_n 2, 1) := dc_of (x := (1170, .aload_n 2, 1)) t12_La_law_ok (i := 2) rfl
theorem d_La_law_1171 : decode c_La_law 1171 = .ok (.aload_n 0, 1) := dc_of (x := (1171, .aload_n 0, 1)) t12_La_law_ok (i := 3) rfl
theorem d_La_law_1172 : decode c_La_law 1172 = .ok (.iload 4, 2) := dc_of (x := (1172, .iload 4, 2)) t12_La_law_ok (i := 4) rfl
theorem d_La_law_1174 : decode c_La_law 1174 = .ok (.iconst 1, 1) := dc_of (x := (1174, .iconst 1, 1)) t12_La_law_ok (i := 5) rfl
theorem d_La_law_1175 : decode c_La_law 1175 = .ok (.iadd, 1) := dc_of (x := (1175, .iadd, 1)) t12_La_law_ok (i := 6) rfl
theorem d_La_law_1176 : decode c_La_law 1176 = .ok (.iaload, 1) := dc_of (x := (1176, .iaload, 1)) t12_La_law_ok (i := 7) rfl
theorem d_La_law_1177 : decode c_La_law 1177 = .ok (.aload_n 0, 1) := dc_of (x := (1177, .aload_n 0, 1)) t12_La_law_ok (i := 8) rfl
theorem d_La_law_1178 : decode c_La_law 1178 = .ok (.iload 4, 2) := dc_of (x := (1178, .iload 4, 2)) t12_La_law_ok (i := 9) rfl
theorem d_La_law_1180 : decode c_La_law 1180 = .ok (.iconst 2, 1) := dc_of (x := (1180, .iconst 2, 1)) t12_La_law_ok (i := 10) rfl
theorem d_La_law_1181 : decode c_La_law 1181 = .ok (.iadd, 1) := dc_of (x := (1181, .iadd, 1)) t12_La_law_ok (i := 11) rfl
theorem d_La_law_1182 : decode c_La_law 1182 = .ok (.iaload, 1) := dc_of (x := (1182, .iaload, 1)) t12_La_law_ok (i := 12) rfl
theorem d_La_law_1183 : decode c_La_law 1183 = .ok (.invokevirtual 138, 3) := dc_of (x := (1183, .invokevirtual 138, 3)) t12_La_law_ok (i := 13) rfl
theorem d_La_law_1186 : decode c_La_law 1186 = .ok (.istore 6, 2) := dc_of (x := (1186, .istore 6, 2)) t12_La_law_ok (i := 14) rfl
theorem d_La_law_1188 : decode c_La_law 1188 = .ok (.aload_n 2, 1) := dc_of (x := (1188, .aload_n 2, 1)) t12_La_law_ok (i := 15) rfl
theorem d_La_law_1189 : decode c_La_law 1189 = .ok (.invokevirtual 86, 3) := dc_of (x := (1189, .invokevirtual 86, 3)) t12_La_law_ok (i := 16) rfl
theorem d_La_law_1192 : decode c_La_law 1192 = .ok (.iload 5, 2) := dc_of (x := (1192, .iload 5, 2)) t12_La_law_ok (i := 17) rfl
theorem d_La_law_1194 : decode c_La_law 1194 = .ok (.if_icmp .eq 5, 3) := dc_of (x := (1194, .if_icmp .eq 5, 3)) t12_La_law_ok (i := 18) rfl
theorem d_La_law_1197 : decode c_La_law 1197 = .ok (.iconst 0, 1) := dc_of (x := (1197, .iconst 0, 1)) t12_La_law_ok (i := 19) rfl
theorem d_La_law_1198 : decode c_La_law 1198 = .ok (.ireturn, 1) := dc_of (x := (1198, .ireturn, 1)) t12_La_law_ok (i := 20) rfl
theorem d_La_law_1199 : decode c_La_law 1199 = .ok (.iload 5, 2) := dc_of (x := (1199, .iload 5, 2)) t12_La_law_ok (i := 21) rfl
theorem d_La_law_1201 : decode c_La_law 1201 = .ok (.ifCond .ne 15, 3) := dc_of (x := (1201, .ifCond .ne 15, 3)) t12_La_law_ok (i := 22) rfl
theorem d_La_law_1204 : decode c_La_law 1204 = .ok (.aload_n 3, 1) := dc_of (x := (1204, .aload_n 3, 1)) t12_La_law_ok (i := 23) rfl
theorem d_La_law_1205 : decode c_La_law 1205 = .ok (.iconst 0, 1) := dc_of (x := (1205, .iconst 0, 1)) t12_La_law_ok (i := 24) rfl
theorem d_La_law_1206 : decode c_La_law 1206 = .ok (.laload, 1) := dc_of (x := (1206, .laload, 1)) t12_La_law_ok (i := 25) rfl
theorem d_La_law_1207 : decode c_La_law 1207 = .ok (.iload 6, 2) := dc_of (x := (1207, .iload 6, 2)) t12_La_law_ok (i := 26) rfl
theorem d_La_law_1209 : decode c_La_law 1209 = .ok (.i2l, 1) := dc_of (x := (1209, .i2l, 1)) t12_La_law_ok (i := 27) rfl
theorem d_La_law_1210 : decode c_La_law 1210 = .ok (.lcmp, 1) := dc_of (x := (1210, .lcmp, 1)) t12_La_law_ok (i := 28) rfl
theorem d_La_law_1211 : decode c_La_law 1211 = .ok (.ifCond .eq 5, 3) := dc_of (x := (1211, .ifCond .eq 5, 3)) t12_La_law_ok (i := 29) rfl
theorem d_La_law_1214 : decode c_La_law 1214 = .ok (.iconst 0, 1) := dc_of (x := (1214, .iconst 0, 1)) t12_La_law_ok (i := 30) rfl
theorem d_La_law_1215 : decode c_La_law 1215 = .ok (.ireturn, 1) := dc_of (x := (1215, .ireturn, 1)) t12_La_law_ok (i := 31) rfl
theorem d_La_law_1216 : decode c_La_law 1216 = .ok (.goto 265, 3) := dc_of (x := (1216, .goto 265, 3)) t12_La_law_ok (i := 32) rfl
theorem d_La_law_1219 : decode c_La_law 1219 = .ok (.aload_n 1, 1) := dc_of (x := (1219, .aload_n 1, 1)) t12_La_law_ok (i := 33) rfl
theorem d_La_law_1220 : decode c_La_law 1220 = .ok (.aload_n 0, 1) := dc_of (x := (1220, .aload_n 0, 1)) t12_La_law_ok (i := 34) rfl
theorem d_La_law_1221 : decode c_La_law 1221 = .ok (.iload 4, 2) := dc_of (x := (1221, .iload 4, 2)) t12_La_law_ok (i := 35) rfl
theorem d_La_law_1223 : decode c_La_law 1223 = .ok (.iconst 1, 1) := dc_of (x := (1223, .iconst 1, 1)) t12_La_law_ok (i := 36) rfl
theorem d_La_law_1224 : decode c_La_law 1224 = .ok (.iadd, 1) := dc_of (x := (1224, .iadd, 1)) t12_La_law_ok (i := 37) rfl
theorem d_La_law_1225 : decode c_La_law 1225 = .ok (.iaload, 1) := dc_of (x := (1225, .iaload, 1)) t12_La_law_ok (i := 38) rfl
theorem d_La_law_1226 : decode c_La_law 1226 = .ok (.aload_n 3, 1) := dc_of (x := (1226, .aload_n 3, 1)) t12_La_law_ok (i := 39) rfl
theorem d_La_law_1227 : decode c_La_law 1227 = .ok (.invokestatic 139, 3) := dc_of (x := (1227, .invokestatic 139, 3)) t12_La_law_ok (i := 40) rfl
theorem d_La_law_1230 : decode c_La_law 1230 = .ok (.istore 5, 2) := dc_of (x := (1230, .istore 5, 2)) t12_La_law_ok (i := 41) rfl
theorem d_La_law_1232 : decode c_La_law 1232 = .ok (.aload_n 2, 1) := dc_of (x := (1232, .aload_n 2, 1)) t12_La_law_ok (i := 42) rfl
theorem d_La_law_1233 : decode c_La_law 1233 = .ok (.aload_n 0, 1) := dc_of (x := (1233, .aload_n 0, 1)) t12_La_law_ok (i := 43) rfl
theorem d_La_law_1234 : decode c_La_law 1234 = .ok (.iload 4, 2) := dc_of (x := (1234, .iload 4, 2)) t12_La_law_ok (i := 44) rfl
theorem d_La_law_1236 : decode c_La_law 1236 = .ok (.iconst 1, 1) := dc_of (x := (1236, .iconst 1, 1)) t12_La_law_ok (i := 45) rfl
theorem d_La_law_1237 : decode c_La_law 1237 = .ok (.iadd, 1) := dc_of (x := (1237, .iadd, 1)) t12_La_law_ok (i := 46) rfl
theorem d_La_law_1238 : decode c_La_law 1238 = .ok (.iaload, 1) := dc_of (x := (1238, .iaload, 1)) t12_La_law_ok (i := 47) rfl
theorem d_La_law_1239 : decode c_La_law 1239 = .ok (.invokevirtual 141, 3) := dc_of (x := (1239, .invokevirtual 141, 3)) t12_La_law_ok (i := 48) rfl
theorem d_La_law_1242 : decode c_La_law 1242 = .ok (.lstore 6, 2) := dc_of (x := (1242, .lstore 6, 2)) t12_La_law_ok (i := 49) rfl
theorem d_La_law_1244 : decode c_La_law 1244 = .ok (.aload_n 2, 1) := dc_of (x := (1244, .aload_n 2, 1)) t12_La_law_ok (i := 50) rfl
theorem d_La_law_1245 : decode c_La_law 1245 = .ok (.invokevirtual 86, 3) := dc_of (x := (1245, .invokevirtual 86, 3)) t12_La_law_ok (i := 51) rfl
theorem d_La_law_1248 : decode c_La_law 1248 = .ok (.iload 5, 2) := dc_of (x := (1248, .iload 5, 2)) t12_La_law_ok (i := 52) rfl
theorem d_La_law_1250 : decode c_La_law 1250 = .ok (.if_icmp .eq 5, 3) := dc_of (x := (1250, .if_icmp .eq 5, 3)) t12_La_law_ok (i := 53) rfl
theorem d_La_law_1253 : decode c_La_law 1253 = .ok (.iconst 0, 1) := dc_of (x := (1253, .iconst 0, 1)) t12_La_law_ok (i := 54) rfl
theorem d_La_law_1254 : decode c_La_law 1254 = .ok (.ireturn, 1) := dc_of (x := (1254, .ireturn, 1)) t12_La_law_ok (i := 55) rfl
theorem d_La_law_1255 : decode c_La_law 1255 = .ok (.iload 5, 2) := dc_of (x := (1255, .iload 5, 2)) t12_La_law_ok (i := 56) rfl
theorem d_La_law_1257 : decode c_La_law 1257 = .ok (.ifCond .ne 14, 3) := dc_of (x := (1257, .ifCond .ne 14, 3)) t12_La_law_ok (i := 57) rfl
theorem d_La_law_1260 : decode c_La_law 1260 = .ok (.aload_n 3, 1) := dc_of (x := (1260, .aload_n 3, 1)) t12_La_law_ok (i := 58) rfl
theorem d_La_law_1261 : decode c_La_law 1261 = .ok (.iconst 0, 1) := dc_of (x := (1261, .iconst 0, 1)) t12_La_law_ok (i := 59) rfl
theorem d_La_law_1262 : decode c_La_law 1262 = .ok (.laload, 1) := dc_of (x := (1262, .laload, 1)) t13_La_law_ok (i := 0) rfl
theorem d_La_law_1263 : decode c_La_law 1263 = .ok (.lload 6, 2) := dc_of (x := (1263, .lload 6, 2)) t13_La_law_ok (i := 1) rfl
theorem d_La_law_1265 : decode c_La_law 1265 = .ok (.lcmp, 1) := dc_of (x := (1265, .lcmp, 1)) t13_La_law_ok (i := 2) rfl
theorem d_La_law_1266 : decode c_La_law 1266 = .ok (.ifCond .eq 5, 3) := dc_of (x := (1266, .ifCond .eq 5, 3)) t13_La_law_ok (i := 3) rfl
theorem d_La_law_1269 : decode c_La_law 1269 = .ok (.iconst 0, 1) := dc_of (x := (1269, .iconst 0, 1)) t13_La_law_ok (i := 4) rfl
theorem d_La_law_1270 : decode c_La_law 1270 = .ok (.ireturn, 1) := dc_of (x := (1270, .ireturn, 1)) t13_La_law_ok (i := 5) rfl
theorem d_La_law_1271 : decode c_La_law 1271 = .ok (.goto 210, 3) := dc_of (x := (1271, .goto 210, 3)) t13_La_law_ok (i := 6) rfl
theorem d_La_law_1274 : decode c_La_law 1274 = .ok (.aload_n 1, 1) := dc_of (x := (1274, .aload_n 1, 1)) t13_La_law_ok (i := 7) rfl
theorem d_La_law_1275 : decode c_La_law 1275 = .ok (.aload_n 0, 1) := dc_of (x := (1275, .aload_n 0, 1)) t13_La_law_ok (i := 8) rfl
theorem d_La_law_1276 : decode c_La_law 1276 = .ok (.iload 4, 2) := dc_of (x := (1276, .iload 4, 2)) t13_La_law_ok (i := 9) rfl
theorem d_La_law_1278 : decode c_La_law 1278 = .ok (.iconst 1, 1) := dc_of (x := (1278, .iconst 1, 1)) t13_La_law_ok (i := 10) rfl
theorem d_La_law_1279 : decode c_La_law 1279 = .ok (.iadd, 1) := dc_of (x := (1279, .iadd, 1)) t13_La_law_ok (i := 11) rfl
theorem d_La_law_1280 : decode c_La_law 1280 = .ok (.iaload, 1) := dc_of (x := (1280, .iaload, 1)) t13_La_law_ok (i := 12) rfl
theorem d_La_law_1281 : decode c_La_law 1281 = .ok (.invokevirtual 142, 3) := dc_of (x := (1281, .invokevirtual 142, 3)) t13_La_law_ok (i := 13) rfl
theorem d_La_law_1284 : decode c_La_law 1284 = .ok (.aload_n 2, 1) := dc_of (x := (1284, .aload_n 2, 1)) t13_La_law_ok (i := 14) rfl
theorem d_La_law_1285 : decode c_La_law 1285 = .ok (.aload_n 0, 1) := dc_of (x := (1285, .aload_n 0, 1)) t13_La_law_ok (i := 15) rfl
theorem d_La_law_1286 : decode c_La_law 1286 = .ok (.iload 4, 2) := dc_of (x := (1286, .iload 4, 2)) t13_La_law_ok (i := 16) rfl
theorem d_La_law_1288 : decode c_La_law 1288 = .ok (.iconst 1, 1) := dc_of (x := (1288, .iconst 1, 1)) t13_La_law_ok (i := 17) rfl
theorem d_La_law_1289 : decode c_La_law 1289 = .ok (.iadd, 1) := dc_of (x := (1289, .iadd, 1)) t13_La_law_ok (i := 18) rfl
theorem d_La_law_1290 : decode c_La_law 1290 = .ok (.iaload, 1) := dc_of (x := (1290, .iaload, 1)) t13_La_law_ok (i := 19) rfl
theorem d_La_law_1291 : decode c_La_law 1291 = .ok (.invokevirtual 145, 3) := dc_of (x := (1291, .invokevirtual 145, 3)) t13_La_law_ok (i := 20) rfl
theorem d_La_law_1294 : decode c_La_law 1294 = .ok (.if_icmp .eq 187, 3) := dc_of (x := (1294, .if_icmp .eq 187, 3)) t13_La_law_ok (i := 21) rfl
theorem d_La_law_1297 : decode c_La_law 1297 = .ok (.iconst 0, 1) := dc_of (x := (1297, .iconst 0, 1)) t13_La_law_ok (i := 22) rfl
theorem d_La_law_1298 : decode c_La_law 1298 = .ok (.ireturn, 1) := dc_of (x := (1298, .ireturn, 1)) t13_La_law_ok (i := 23) rfl
theorem d_La_law_1299 : decode c_La_law 1299 = .ok (.aload_n 1, 1) := dc_of (x := (1299, .aload_n 1, 1)) t13_La_law_ok (i := 24) rfl
theorem d_La_law_1300 : decode c_La_law 1300 = .ok (.aload_n 3, 1) := dc_of (x := (1300, .aload_n 3, 1)) t13_La_law_ok (i := 25) rfl
theorem d_La_law_1301 : decode c_La_law 1301 = .ok (.invokestatic 146, 3) := dc_of (x := (1301, .invokestatic 146, 3)) t13_La_law_ok (i := 26) rfl
theorem d_La_law_1304 : decode c_La_law 1304 = .ok (.istore 5, 2) := dc_of (x := (1304, .istore 5, 2)) t13_La_law_ok (i := 27) rfl
theorem d_La_law_1306 : decode c_La_law 1306 = .ok (.aload_n 2, 1) := dc_of (x := (1306, .aload_n 2, 1)) t13_La_law_ok (i := 28) rfl
theorem d_La_law_1307 : decode c_La_law 1307 = .ok (.invokevirtual 148, 3) := dc_of (x := (1307, .invokevirtual 148, 3)) t13_La_law_ok (i := 29) rfl
theorem d_La_law_1310 : decode c_La_law 1310 = .ok (.istore 6, 2) := dc_of (x := (1310, .istore 6, 2)) t13_La_law_ok (i := 30) rfl
theorem d_La_law_1312 : decode c_La_law 1312 = .ok (.aload_n 2, 1) := dc_of (x := (1312, .aload_n 2, 1)) t13_La_law_ok (i := 31) rfl
theorem d_La_law_1313 : decode c_La_law 1313 = .ok (.invokevirtual 86, 3) := dc_of (x := (1313, .invokevirtual 86, 3)) t13_La_law_ok (i := 32) rfl
theorem d_La_law_1316 : decode c_La_law 1316 = .ok (.iload 5, 2) := dc_of (x := (1316, .iload 5, 2)) t13_La_law_ok (i := 33) rfl
theorem d_La_law_1318 : decode c_La_law 1318 = .ok (.if_icmp .eq 5, 3) := dc_of (x := (1318, .if_icmp .eq 5, 3)) t13_La_law_ok (i := 34) rfl
theorem d_La_law_1321 : decode c_La_law 1321 = .ok (.iconst 0, 1) := dc_of (x := (1321, .iconst 0, 1)) t13_La_law_ok (i := 35) rfl
theorem d_La_law_1322 : decode c_La_law 1322 = .ok (.ireturn, 1) := dc_of (x := (1322, .ireturn, 1)) t13_La_law_ok (i := 36) rfl
theorem d_La_law_1323 : decode c_La_law 1323 = .ok (.iload 5, 2) := dc_of (x := (1323, .iload 5, 2)) t13_La_law_ok (i := 37) rfl
theorem d_La_law_1325 : decode c_La_law 1325 = .ok (.ifCond .ne 15, 3) := dc_of (x := (1325, .ifCond .ne 15, 3)) t13_La_law_ok (i := 38) rfl
theorem d_La_law_1328 : decode c_La_law 1328 = .ok (.aload_n 3, 1) := dc_of (x := (1328, .aload_n 3, 1)) t13_La_law_ok (i := 39) rfl
theorem d_La_law_1329 : decode c_La_law 1329 = .ok (.iconst 0, 1) := dc_of (x := (1329, .iconst 0, 1)) t13_La_law_ok (i := 40) rfl
theorem d_La_law_1330 : decode c_La_law 1330 = .ok (.laload, 1) := dc_of (x := (1330, .laload, 1)) t13_La_law_ok (i := 41) rfl
theorem d_La_law_1331 : decode c_La_law 1331 = .ok (.iload 6, 2) := dc_of (x := (1331, .iload 6, 2)) t13_La_law_ok (i := 42) rfl
theorem d_La_law_1333 : decode c_La_law 1333 = .ok (.i2l, 1) := dc_of (x := (1333, .i2l, 1)) t13_La_law_ok (i := 43) rfl
theorem d_La_law_1334 : decode c_La_law 1334 = .ok (.lcmp, 1) := dc_of (x := (1334, .lcmp, 1)) t13_La_law_ok (i := 44) rfl
theorem d_La_law_1335 : decode c_La_law 1335 = .ok (.ifCond .eq 5, 3) := dc_of (x := (1335, .ifCond .eq 5, 3)) t13_La_law_ok (i := 45) rfl
theorem d_La_law_1338 : decode c_La_law 1338 = .ok (.iconst 0, 1) := dc_of (x := (1338, .iconst 0, 1)) t13_La_law_ok (i := 46) rfl
theorem d_La_law_1339 : decode c_La_law 1339 = .ok (.ireturn, 1) := dc_of (x := (1339, .ireturn, 1)) t13_La_law_ok (i := 47) rfl
theorem d_La_law_1340 : decode c_La_law 1340 = .ok (.goto 141, 3) := dc_of (x := (1340, .goto 141, 3)) t13_La_law_ok (i := 48) rfl
theorem d_La_law_1343 : decode c_La_law 1343 = .ok (.aload_n 1, 1) := dc_of (x := (1343, .aload_n 1, 1)) t13_La_law_ok (i := 49) rfl
theorem d_La_law_1344 : decode c_La_law 1344 = .ok (.aload_n 0, 1) := dc_of (x := (1344, .aload_n 0, 1)) t13_La_law_ok (i := 50) rfl
theorem d_La_law_1345 : decode c_La_law 1345 = .ok (.iload 4, 2) := dc_of (x := (1345, .iload 4, 2)) t13_La_law_ok (i := 51) rfl
theorem d_La_law_1347 : decode c_La_law 1347 = .ok (.iconst 1, 1) := dc_of (x := (1347, .iconst 1, 1)) t13_La_law_ok (i := 52) rfl
theorem d_La_law_1348 : decode c_La_law 1348 = .ok (.iadd, 1) := dc_of (x := (1348, .iadd, 1)) t13_La_law_ok (i := 53) rfl
theorem d_La_law_1349 : decode c_La_law 1349 = .ok (.iaload, 1) := dc_of (x := (1349, .iaload, 1)) t13_La_law_ok (i := 54) rfl
theorem d_La_law_1350 : decode c_La_law 1350 = .ok (.aload_n 3, 1) := dc_of (x := (1350, .aload_n 3, 1)) t13_La_law_ok (i := 55) rfl
theorem d_La_law_1351 : decode c_La_law 1351 = .ok (.invokestatic 149, 3) := dc_of (x := (1351, .invokestatic 149, 3)) t13_La_law_ok (i := 56) rfl
theorem d_La_law_1354 : decode c_La_law 1354 = .ok (.istore 5, 2) := dc_of (x := (1354, .istore 5, 2)) t13_La_law_ok (i := 57) rfl
theorem d_La_law_1356 : decode c_La_law 1356 = .ok (.aload_n 2, 1) := dc_of (x := (1356, .aload_n 2, 1)) t13_La_law_ok (i := 58) rfl
theorem d_La_law_1357 : decode c_La_law 1357 = .ok (.aload_n 0, 1) := dc_of (x := (1357, .aload_n 0, 1)) t13_La_law_ok (i := 59) rfl
theorem d_La_law_1358 : decode c_La_law 1358 = .ok (.iload 4, 2) := dc_of (x := (1358, .iload 4, 2)) t14_La_law_ok (i := 0) rfl
theorem d_La_law_1360 : decode c_La_law 1360 = .ok (.iconst 1, 1) := dc_of (x := (1360, .iconst 1, 1)) t14_La_law_ok (i := 1) rfl
theorem d_La_law_1361 : decode c_La_law 1361 = .ok (.iadd, 1) := dc_of (x := (1361, .iadd, 1)) t14_La_law_ok (i := 2) rfl
theorem d_La_law_1362 : decode c_La_law 1362 = .ok (.iaload, 1) := dc_of (x := (1362, .iaload, 1)) t14_La_law_ok (i := 3) rfl
theorem d_La_law_1363 : decode c_La_law 1363 = .ok (.invokevirtual 151, 3) := dc_of (x := (1363, .invokevirtual 151, 3)) t14_La_law_ok (i := 4) rfl
theorem d_La_law_1366 : decode c_La_law 1366 = .ok (.istore 6, 2) := dc_of (x := (1366, .istore 6, 2)) t14_La_law_ok (i := 5) rfl
theorem d_La_law_1368 : decode c_La_law 1368 = .ok (.aload_n 2, 1) := dc_of (x := (1368, .aload_n 2, 1)) t14_La_law_ok (i := 6) rfl
theorem d_La_law_1369 : decode c_La_law 1369 = .ok (.invokevirtual 86, 3) := dc_of (x := (1369, .invokevirtual 86, 3)) t14_La_law_ok (i := 7) rfl
theorem d_La_law_1372 : decode c_La_law 1372 = .ok (.iload 5, 2) := dc_of (x := (1372, .iload 5, 2)) t14_La_law_ok (i := 8) rfl
theorem d_La_law_1374 : decode c_La_law 1374 = .ok (.if_icmp .eq 5, 3) := dc_of (x := (1374, .if_icmp .eq 5, 3)) t14_La_law_ok (i := 9) rfl
theorem d_La_law_1377 : decode c_La_law 1377 = .ok (.iconst 0, 1) := dc_of (x := (1377, .iconst 0, 1)) t14_La_law_ok (i := 10) rfl
theorem d_La_law_1378 : decode c_La_law 1378 = .ok (.ireturn, 1) := dc_of (x := (1378, .ireturn, 1)) t14_La_law_ok (i := 11) rfl
theorem d_La_law_1379 : decode c_La_law 1379 = .ok (.iload 5, 2) := dc_of (x := (1379, .iload 5, 2)) t14_La_law_ok (i := 12) rfl
theorem d_La_law_1381 : decode c_La_law 1381 = .ok (.ifCond .ne 15, 3) := dc_of (x := (1381, .ifCond .ne 15, 3)) t14_La_law_ok (i := 13) rfl
theorem d_La_law_1384 : decode c_La_law 1384 = .ok (.aload_n 3, 1) := dc_of (x := (1384, .aload_n 3, 1)) t14_La_law_ok (i := 14) rfl
theorem d_La_law_1385 : decode c_La_law 1385 = .ok (.iconst 0, 1) := dc_of (x := (1385, .iconst 0, 1)) t14_La_law_ok (i := 15) rfl
theorem d_La_law_1386 : decode c_La_law 1386 = .ok (.laload, 1) := dc_of (x := (1386, .laload, 1)) t14_La_law_ok (i := 16) rfl
theorem d_La_law_1387 : decode c_La_law 1387 = .ok (.iload 6, 2) := dc_of (x := (1387, .iload 6, 2)) t14_La_law_ok (i := 17) rfl
theorem d_La_law_1389 : decode c_La_law 1389 = .ok (.i2l, 1) := dc_of (x := (1389, .i2l, 1)) t14_La_law_ok (i := 18) rfl
theorem d_La_law_1390 : decode c_La_law 1390 = .ok (.lcmp, 1) := dc_of (x := (1390, .lcmp, 1)) t14_La_law_ok (i := 19) rfl
theorem d_La_law_1391 : decode c_La_law 1391 = .ok (.ifCond .eq 5, 3) := dc_of (x := (1391, .ifCond .eq 5, 3)) t14_La_law_ok (i := 20) rfl
theorem d_La_law_1394 : decode c_La_law 1394 = .ok (.iconst 0, 1) := dc_of (x := (1394, .iconst 0, 1)) t14_La_law_ok (i := 21) rfl
theorem d_La_law_1395 : decode c_La_law 1395 = .ok (.ireturn, 1) := dc_of (x := (1395, .ireturn, 1)) t14_La_law_ok (i := 22) rfl
theorem d_La_law_1396 : decode c_La_law 1396 = .ok (.goto 85, 3) := dc_of (x := (1396, .goto 85, 3)) t14_La_law_ok (i := 23) rfl
theorem d_La_law_1399 : decode c_La_law 1399 = .ok (.aload_n 1, 1) := dc_of (x := (1399, .aload_n 1, 1)) t14_La_law_ok (i := 24) rfl
theorem d_La_law_1400 : decode c_La_law 1400 = .ok (.invokevirtual 152, 3) := dc_of (x := (1400, .invokevirtual 152, 3)) t14_La_law_ok (i := 25) rfl
theorem d_La_law_1403 : decode c_La_law 1403 = .ok (.aload_n 2, 1) := dc_of (x := (1403, .aload_n 2, 1)) t14_La_law_ok (i := 26) rfl
theorem d_La_law_1404 : decode c_La_law 1404 = .ok (.invokevirtual 155, 3) := dc_of (x := (1404, .invokevirtual 155, 3)) t14_La_law_ok (i := 27) rfl
theorem d_La_law_1407 : decode c_La_law 1407 = .ok (.if_icmp .eq 74, 3) := dc_of (x := (1407, .if_icmp .eq 74, 3)) t14_La_law_ok (i := 28) rfl
theorem d_La_law_1410 : decode c_La_law 1410 = .ok (.iconst 0, 1) := dc_of (x := (1410, .iconst 0, 1)) t14_La_law_ok (i := 29) rfl
theorem d_La_law_1411 : decode c_La_law 1411 = .ok (.ireturn, 1) := dc_of (x := (1411, .ireturn, 1)) t14_La_law_ok (i := 30) rfl
theorem d_La_law_1412 : decode c_La_law 1412 = .ok (.aload_n 1, 1) := dc_of (x := (1412, .aload_n 1, 1)) t14_La_law_ok (i := 31) rfl
theorem d_La_law_1413 : decode c_La_law 1413 = .ok (.aload_n 3, 1) := dc_of (x := (1413, .aload_n 3, 1)) t14_La_law_ok (i := 32) rfl
theorem d_La_law_1414 : decode c_La_law 1414 = .ok (.invokestatic 156, 3) := dc_of (x := (1414, .invokestatic 156, 3)) t14_La_law_ok (i := 33) rfl
theorem d_La_law_1417 : decode c_La_law 1417 = .ok (.istore 5, 2) := dc_of (x := (1417, .istore 5, 2)) t14_La_law_ok (i := 34) rfl
theorem d_La_law_1419 : decode c_La_law 1419 = .ok (.aload_n 2, 1) := dc_of (x := (1419, .aload_n 2, 1)) t14_La_law_ok (i := 35) rfl
theorem d_La_law_1420 : decode c_La_law 1420 = .ok (.invokevirtual 158, 3) := dc_of (x := (1420, .invokevirtual 158, 3)) t14_La_law_ok (i := 36) rfl
theorem d_La_law_1423 : decode c_La_law 1423 = .ok (.istore 6, 2) := dc_of (x := (1423, .istore 6, 2)) t14_La_law_ok (i := 37) rfl
theorem d_La_law_1425 : decode c_La_law 1425 = .ok (.aload_n 2, 1) := dc_of (x := (1425, .aload_n 2, 1)) t14_La_law_ok (i := 38) rfl
theorem d_La_law_1426 : decode c_La_law 1426 = .ok (.invokevirtual 86, 3) := dc_of (x := (1426, .invokevirtual 86, 3)) t14_La_law_ok (i := 39) rfl
theorem d_La_law_1429 : decode c_La_law 1429 = .ok (.iload 5, 2) := dc_of (x := (1429, .iload 5, 2)) t14_La_law_ok (i := 40) rfl
theorem d_La_law_1431 : decode c_La_law 1431 = .ok (.if_icmp .eq 5, 3) := dc_of (x := (1431, .if_icmp .eq 5, 3)) t14_La_law_ok (i := 41) rfl
theorem d_La_law_1434 : decode c_La_law 1434 = .ok (.iconst 0, 1) := dc_of (x := (1434, .iconst 0, 1)) t14_La_law_ok (i := 42) rfl
theorem d_La_law_1435 : decode c_La_law 1435 = .ok (.ireturn, 1) := dc_of (x := (1435, .ireturn, 1)) t14_La_law_ok (i := 43) rfl
theorem d_La_law_1436 : decode c_La_law 1436 = .ok (.iload 5, 2) := dc_of (x := (1436, .iload 5, 2)) t14_La_law_ok (i := 44) rfl
theorem d_La_law_1438 : decode c_La_law 1438 = .ok (.ifCond .ne 15, 3) := dc_of (x := (1438, .ifCond .ne 15, 3)) t14_La_law_ok (i := 45) rfl
theorem d_La_law_1441 : decode c_La_law 1441 = .ok (.aload_n 3, 1) := dc_of (x := (1441, .aload_n 3, 1)) t14_La_law_ok (i := 46) rfl
theorem d_La_law_1442 : decode c_La_law 1442 = .ok (.iconst 0, 1) := dc_of (x := (1442, .iconst 0, 1)) t14_La_law_ok (i := 47) rfl
theorem d_La_law_1443 : decode c_La_law 1443 = .ok (.laload, 1) := dc_of (x := (1443, .laload, 1)) t14_La_law_ok (i := 48) rfl
theorem d_La_law_1444 : decode c_La_law 1444 = .ok (.iload 6, 2) := dc_of (x := (1444, .iload 6, 2)) t14_La_law_ok (i := 49) rfl
theorem d_La_law_1446 : decode c_La_law 1446 = .ok (.i2l, 1) := dc_of (x := (1446, .i2l, 1)) t14_La_law_ok (i := 50) rfl
theorem d_La_law_1447 : decode c_La_law 1447 = .ok (.lcmp, 1) := dc_of (x := (1447, .lcmp, 1)) t14_La_law_ok (i := 51) rfl
theorem d_La_law_1448 : decode c_La_law 1448 = .ok (.ifCond .eq 5, 3) := dc_of (x := (1448, .ifCond .eq 5, 3)) t14_La_law_ok (i := 52) rfl
theorem d_La_law_1451 : decode c_La_law 1451 = .ok (.iconst 0, 1) := dc_of (x := (1451, .iconst 0, 1)) t14_La_law_ok (i := 53) rfl
theorem d_La_law_1452 : decode c_La_law 1452 = .ok (.ireturn, 1) := dc_of (x := (1452, .ireturn, 1)) t14_La_law_ok (i := 54) rfl
theorem d_La_law_1453 : decode c_La_law 1453 = .ok (.goto 28, 3) := dc_of (x := (1453, .goto 28, 3)) t14_La_law_ok (i := 55) rfl
theorem d_La_law_1456 : decode c_La_law 1456 = .ok (.aload_n 1, 1) := dc_of (x := (1456, .aload_n 1, 1)) t14_La_law_ok (i := 56) rfl
theorem d_La_law_1457 : decode c_La_law 1457 = .ok (.aload_n 0, 1) := dc_of (x := (1457, .aload_n 0, 1)) t14_La_law_ok (i := 57) rfl
theorem d_La_law_1458 : decode c_La_law 1458 = .ok (.iload 4, 2) := dc_of (x := (1458, .iload 4, 2)) t14_La_law_ok (i := 58) rfl
theorem d_La_law_1460 : decode c_La_law 1460 = .ok (.iconst 1, 1) := dc_of (x := (1460, .iconst 1, 1)) t14_La_law_ok (i := 59) rfl
theorem d_La_law_1461 : decode c_La_law 1461 = .ok (.iadd, 1) := dc_of (x := (1461, .iadd, 1)) t15_La_law_ok (i := 0) rfl
theorem d_La_law_1462 : decode c_La_law 1462 = .ok (.iaload, 1) := dc_of (x := (1462, .iaload, 1)) t15_La_law_ok (i := 1) rfl
theorem d_La_law_1463 : decode c_La_law 1463 = .ok (.invokevirtual 159, 3) := dc_of (x := (1463, .invokevirtual 159, 3)) t15_La_law_ok (i := 2) rfl
theorem d_La_law_1466 : decode c_La_law 1466 = .ok (.aload_n 2, 1) := dc_of (x := (1466, .aload_n 2, 1)) t15_La_law_ok (i := 3) rfl
theorem d_La_law_1467 : decode c_La_law 1467 = .ok (.aload_n 0, 1) := dc_of (x := (1467, .aload_n 0, 1)) t15_La_law_ok (i := 4) rfl
theorem d_La_law_1468 : decode c_La_law 1468 = .ok (.iload 4, 2) := dc_of (x := (1468, .iload 4, 2)) t15_La_law_ok (i := 5) rfl
theorem d_La_law_1470 : decode c_La_law 1470 = .ok (.iconst 1, 1) := dc_of (x := (1470, .iconst 1, 1)) t15_La_law_ok (i := 6) rfl
theorem d_La_law_1471 : decode c_La_law 1471 = .ok (.iadd, 1) := dc_of (x := (1471, .iadd, 1)) t15_La_law_ok (i := 7) rfl
theorem d_La_law_1472 : decode c_La_law 1472 = .ok (.iaload, 1) := dc_of (x := (1472, .iaload, 1)) t15_La_law_ok (i := 8) rfl
theorem d_La_law_1473 : decode c_La_law 1473 = .ok (.invokevirtual 162, 3) := dc_of (x := (1473, .invokevirtual 162, 3)) t15_La_law_ok (i := 9) rfl
theorem d_La_law_1476 : decode c_La_law 1476 = .ok (.if_icmp .eq 5, 3) := dc_of (x := (1476, .if_icmp .eq 5, 3)) t15_La_law_ok (i := 10) rfl
theorem d_La_law_1479 : decode c_La_law 1479 = .ok (.iconst 0, 1) := dc_of (x := (1479, .iconst 0, 1)) t15_La_law_ok (i := 11) rfl
theorem d_La_law_1480 : decode c_La_law 1480 = .ok (.ireturn, 1) := dc_of (x := (1480, .ireturn, 1)) t15_La_law_ok (i := 12) rfl
theorem d_La_law_1481 : decode c_La_law 1481 = .ok (.iinc 4 5, 3) := dc_of (x := (1481, .iinc 4 5, 3)) t15_La_law_ok (i := 13) rfl
theorem d_La_law_1484 : decode c_La_law 1484 = .ok (.goto (-1461), 3) := dc_of (x := (1484, .goto (-1461), 3)) t15_La_law_ok (i := 14) rfl
theorem d_La_law_1487 : decode c_La_law 1487 = .ok (.iconst 1, 1) := dc_of (x := (1487, .iconst 1, 1)) t15_La_law_ok (i := 15) rfl
theorem d_La_law_1488 : decode c_La_law 1488 = .ok (.ireturn, 1) := dc_of (x := (1488, .ireturn, 1)) t15_La_law_ok (i := 16) rfl
