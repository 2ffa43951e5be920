def Y3_length : k_Y := (3, yX3_length, cX3_length, 2, (some .int), 3, 70, [])
def T3_length : List (Nat × Instr × Nat × Nat) := [(0, .aload_n 0, 1, 0), (1, .iconst 1, 2, 0), (2, .aload_n 0, 3, 0), (3, .iload_n 1, 4, 0), (7, .iconst 1, 8, 0), (8, .iconst 1, 9, 0), (9, .iconst 1, 10, 0), (13, .ifCond .ne 5, 16, 18), (16, .iconst 0, 17, 0), (18, .aload_n 0, 19, 0), (19, .aload_n 0, 20, 0), (20, .getfield 7, 23, 0), (23, .aload_n 0, 24, 0), (24, .getfield 49, 27, 0), (27, .iload_n 1, 28, 0), (28, .iaload, 29, 0), (29, .iaload, 30, 0), (33, .aload_n 0, 34, 0), (34, .getfield 65, 37, 0), (37, .iload_n 1, 38, 0), (38, .iaload, 39, 0)]
theorem T3_length_ok : (T3_length).all (k_dck (k_cc Y3_length)) = true := by decide +kernel
theorem d3_length_4 : decode (k_cc Y3_length) 4 = .ok (.invokevirtual 116, 3) := by decide +kernel
theorem d3_length_10 : decode (k_cc Y3_length) 10 = .ok (.invokevirtual 85, 3) := by decide +kernel
theorem d3_length_17 : decode (k_cc Y3_length) 17 = .ok (.ireturn, 1) := by decide +kernel
theorem d3_length_30 : decode (k_cc Y3_length) 30 = .ok (.invokevirtual 140, 3) := by decide +kernel
theorem d3_length_39 : decode (k_cc Y3_length) 39 = .ok (.ireturn, 1) := by decide +kernel
def Y3_unheard : k_Y := (3, yX3_unheard, cX3_unheard, 5, (some .int), 4, 94, [])
def T3_unheard : List (Nat × Instr × Nat × Nat) := [(0, .aload_n 0, 1, 0), (1, .iconst 3, 2, 0), (2, .aload_n 0, 3, 0), (3, .iload_n 1, 4, 0), (7, .iload_n 2, 8, 0), (8, .ifCond .lt 7, 11, 15), (11, .iconst 1, 12, 0), (12, .goto 4, 15, 16), (15, .iconst 0, 16, 0), (16, .iconst 1, 17, 0), (17, .iconst 1, 18, 0), (21, .ifCond .ne 5, 24, 26), (24, .iconst 0, 25, 0), (26, .iload_n 2, 27, 0), (27, .istore_n 3, 28, 0), (28, .iconst 0, 29, 0), (29, .istore 4, 31, 0), (31, .iload 4, 33, 0), (33, .aload_n 0, 34, 0), (34, .getfield 76, 37, 0), (37, .if_icmp .ge 69, 40, 106), (40, .aload_n 0, 41, 0), (41, .getfield 7, 44, 0), (44, .aload_n 0, 45, 0), (45, .getfield 22, 48, 0), (48, .iload 4, 50, 0), (50, .iaload, 51, 0), (51, .iaload, 52, 0), (52, .aload_n 0, 53, 0), (53, .getfield 7, 56, 0), (56, .aload_n 0, 57, 0), (57, .getfield 49, 60, 0), (60, .iload_n 1, 61, 0), (61, .iaload, 62, 0), (62, .iaload, 63, 0), (63, .if_icmp .ne 37, 66, 100), (66, .iload 4, 68, 0), (68, .aload_n 0, 69, 0), (69, .getfield 37, 72, 0), (72, .iload_n 1, 73, 0), (73, .iaload, 74, 0), (74, .if_icmp .eq 26, 77, 100), (77, .aload_n 0, 78, 0), (78, .iload 4, 80, 0), (80, .iload_n 1, 81, 0), (84, .ifCond .eq 6, 87, 90), (87, .goto 13, 90, 100), (90, .iload_n 3, 91, 0), (91, .ifCond .ne 6, 94, 97), (94, .iload 4, 96, 0), (97, .iinc 3 (-1), 100, 0), (100, .iinc 4 1, 103, 0), (103, .goto (-72), 106, 31), (106, .iconst (-1), 107, 0)]
theorem T3_unheard_ok : (T3_unheard).all (k_dck (k_cc Y3_unheard)) = true := by decide +kernel
theorem d3_unheard_4 : decode (k_cc Y3_unheard) 4 = .ok (.invokevirtual 116, 3) := by decide +kernel
theorem d3_unheard_18 : decode (k_cc Y3_unheard) 18 = .ok (.invokevirtual 85, 3) := by decide +kernel
theorem d3_unheard_25 : decode (k_cc Y3_unheard) 25 = .ok (.ireturn, 1) := by decide +kernel
theorem d3_unheard_81 : decode (k_cc Y3_unheard) 81 = .ok (.invokevirtual 119, 3) := by decide +kernel
theorem d3_unheard_96 : decode (k_cc Y3_unheard) 96 = .ok (.ireturn, 1) := by decide +kernel
theorem d3_unheard_107 : decode (k_cc Y3_unheard) 107 = .ok (.ireturn, 1) := by decide +kernel
def Y3_used : k_Y := (3, yX3_used, cX3_used, 6, (some .int), 3, 70, [])
def T3_used : List (Nat × Instr × Nat × Nat) := [(0, .aload_n 0, 1, 0), (1, .iconst 3, 2, 0), (2, .iload_n 1, 3, 0), (6, .iload_n 2, 7, 0), (7, .iconst 0, 8, 0), (8, .aload_n 0, 9, 0), (9, .getfield 82, 12, 0), (15, .ifCond .eq 19, 18, 34), (18, .iload_n 3, 19, 0), (19, .iload_n 2, 20, 0), (20, .aload_n 0, 21, 0), (21, .getfield 82, 24, 0), (27, .ifCond .eq 7, 30, 34), (30, .iconst 1, 31, 0), (31, .goto 4, 34, 35), (34, .iconst 0, 35, 0), (35, .iconst 1, 36, 0), (36, .iconst 1, 37, 0), (40, .ifCond .ne 5, 43, 45), (43, .iconst 0, 44, 0), (45, .aload_n 0, 46, 0), (46, .aload_n 0, 47, 0), (47, .getfield 7, 50, 0), (50, .iload_n 1, 51, 0), (51, .iaload, 52, 0), (55, .iconst 0, 56, 0), (56, .istore 4, 58, 0), (58, .iload_n 2, 59, 0), (59, .istore 5, 61, 0), (61, .iload 5, 63, 0), (63, .iload_n 3, 64, 0), (64, .if_icmp .ge 22, 67, 86), (67, .aload_n 0, 68, 0), (68, .getfield 56, 71, 0), (71, .iload 5, 73, 0), (73, .iaload, 74, 0), (74, .ifCond .lt 6, 77, 80), (77, .iinc 4 1, 80, 0), (80, .iinc 5 1, 83, 0), (83, .goto (-22), 86, 61), (86, .iload 4, 88, 0)]
theorem T3_used_ok : (T3_used).all (k_dck (k_cc Y3_used)) = true := by decide +kernel
theorem d3_used_3 : decode (k_cc Y3_used) 3 = .ok (.invokestatic 99, 3) := by decide +kernel
theorem d3_used_12 : decode (k_cc Y3_used) 12 = .ok (.invokestatic 72, 3) := by decide +kernel
theorem d3_used_24 : decode (k_cc Y3_used) 24 = .ok (.invokestatic 72, 3) := by decide +kernel
theorem d3_used_37 : decode (k_cc Y3_used) 37 = .ok (.invokevirtual 85, 3) := by decide +kernel
theorem d3_used_44 : decode (k_cc Y3_used) 44 = .ok (.ireturn, 1) := by decide +kernel
theorem d3_used_52 : decode (k_cc Y3_used) 52 = .ok (.invokevirtual 140, 3) := by decide +kernel
theorem d3_used_88 : decode (k_cc Y3_used) 88 = .ok (.ireturn, 1) := by decide +kernel
def Y5_fill : k_Y := (5, yJ7_fill_53178, cJ7_fill_53178, 4, none, 0, 0, [])
def T5_fill : List (Nat × Instr × Nat × Nat) := [(0, .iconst 0, 1, 0), (1, .istore_n 2, 2, 0), (2, .aload_n 0, 3, 0), (3, .arraylength, 4, 0), (4, .istore_n 3, 5, 0), (5, .iload_n 2, 6, 0), (6, .iload_n 3, 7, 0), (7, .if_icmp .ge 13, 10, 20), (10, .aload_n 0, 11, 0), (11, .iload_n 2, 12, 0), (12, .iload_n 1, 13, 0), (13, .iastore, 14, 0), (14, .iinc 2 1, 17, 0), (17, .goto (-12), 20, 5)]
theorem T5_fill_ok : (T5_fill).all (k_dck (k_cc Y5_fill)) = true := by decide +kernel
theorem d5_fill_20 : decode (k_cc Y5_fill) 20 = .ok (.return_, 1) := by decide +kernel
def Y4_day : k_Y := (4, yL_day, cL_day, 3, (some .int), 8, 124, [(0, 5, 8, 13), (0, 5, 11, 15)])
def T4_day : List (Nat × Instr × Nat × Nat) := [(0, .aload_n 0, 1, 0), (1, .iload_n 1, 2, 0), (5, .goto 9, 8, 14), (8, .astore_n 2, 9, 0), (9, .iconst 1, 10, 0), (11, .astore_n 2, 12, 0), (12, .iconst 2, 13, 0), (14, .iconst 0, 15, 0)]
theorem T4_day_ok : (T4_day).all (k_dck (k_cc Y4_day)) = true := by decide +kernel
theorem d4_day_2 : decode (k_cc Y4_day) 2 = .ok (.invokevirtual 7, 3) := by decide +kernel
theorem d4_day_10 : decode (k_cc Y4_day) 10 = .ok (.ireturn, 1) := by decide +kernel
theorem d4_day_13 : decode (k_cc Y4_day) 13 = .ok (.ireturn, 1) := by decide +kernel
theorem d4_day_15 : decode (k_cc Y4_day) 15 = .ok (.ireturn, 1) := by decide +kernel
def Y4_unit : k_Y := (4, yL_unit, cL_unit, 7, (some .int), 10, 175, [(0, 14, 17, 21), (0, 14, 21, 23)])
def T4_unit : List (Nat × Instr × Nat × Nat) := [(0, .aload 5, 2, 0), (2, .iconst 0, 3, 0), (3, .aload_n 0, 4, 0), (4, .iload_n 1, 5, 0), (5, .iload_n 2, 6, 0), (6, .iload_n 3, 7, 0), (7, .iload 4, 9, 0), (12, .i2l, 13, 0), (13, .lastore, 14, 0), (14, .goto 11, 17, 25), (17, .astore 6, 19, 0), (19, .iconst 1, 20, 0), (21, .astore 6, 23, 0), (23, .iconst 2, 24, 0), (25, .iconst 0, 26, 0)]
theorem T4_unit_ok : (T4_unit).all (k_dck (k_cc Y4_unit)) = true := by decide +kernel
theorem d4_unit_9 : decode (k_cc Y4_unit) 9 = .ok (.invokevirtual 17, 3) := by decide +kernel
theorem d4_unit_20 : decode (k_cc Y4_unit) 20 = .ok (.ireturn, 1) := by decide +kernel
theorem d4_unit_24 : decode (k_cc Y4_unit) 24 = .ok (.ireturn, 1) := by decide +kernel
theorem d4_unit_26 : decode (k_cc Y4_unit) 26 = .ok (.ireturn, 1) := by decide +kernel
def Y4_go : k_Y := (4, yL_go, cL_go, 6, (some .int), 9, 150, [(0, 9, 12, 13), (0, 9, 16, 21)])
def T4_go : List (Nat × Instr × Nat × Nat) := [(0, .aload_n 0, 1, 0), (1, .iload_n 1, 2, 0), (2, .iload_n 2, 3, 0), (3, .iload_n 3, 4, 0), (4, .iload 4, 6, 0), (9, .goto 11, 12, 20), (12, .astore 5, 14, 0), (14, .iconst 1, 15, 0), (16, .astore 5, 18, 0), (18, .iconst 2, 19, 0), (20, .iconst 0, 21, 0)]
theorem T4_go_ok : (T4_go).all (k_dck (k_cc Y4_go)) = true := by decide +kernel
theorem d4_go_6 : decode (k_cc Y4_go) 6 = .ok (.invokevirtual 25, 3) := by decide +kernel
theorem d4_go_15 : decode (k_cc Y4_go) 15 = .ok (.ireturn, 1) := by decide +kernel
theorem d4_go_19 : decode (k_cc Y4_go) 19 = .ok (.ireturn, 1) := by decide +kernel
theorem d4_go_21 : decode (k_cc Y4_go) 21 = .ok (.ireturn, 1) := by decide +kernel
def Y4_repeater : k_Y := (4, yL_repeater, cL_repeater, 7, (some .int), 10, 175, [(0, 14, 17, 21), (0, 14, 21, 23)])
def T4_repeater : List (Nat × Instr × Nat × Nat) := [(0, .aload 5, 2, 0), (2, .iconst 0, 3, 0), (3, .aload_n 0, 4, 0), (4, .iload_n 1, 5, 0), (5, .iload_n 2, 6, 0), (6, .iload_n 3, 7, 0), (7, .iload 4, 9, 0), (12, .i2l, 13, 0), (13, .lastore, 14, 0), (14, .goto 11, 17, 25), (17, .astore 6, 19, 0), (19, .iconst 1, 20, 0), (21, .astore 6, 23, 0), (23, .iconst 2, 24, 0), (25, .iconst 0, 26, 0)]
theorem T4_repeater_ok : (T4_repeater).all (k_dck (k_cc Y4_repeater)) = true := by decide +kernel
theorem d4_repeater_9 : decode (k_cc Y4_repeater) 9 = .ok (.invokevirtual 29, 3) := by decide +kernel
theorem d4_repeater_20 : decode (k_cc Y4_repeater) 20 = .ok (.ireturn, 1) := by decide +kernel
theorem d4_repeater_24 : decode (k_cc Y4_repeater) 24 = .ok (.ireturn, 1) := by decide +kernel
theorem d4_repeater_26 : decode (k_cc Y4_repeater) 26 = .ok (.ireturn, 1) := by decide +kernel
def Y4_patch : k_Y := (4, yL_patch, cL_patch, 5, (some .int), 8, 135, [(0, 17, 20, 21)])
def T4_patch : List (Nat × Instr × Nat × Nat) := [(0, .aload_n 3, 1, 0), (1, .iconst 0, 2, 0), (2, .aload_n 0, 3, 0), (3, .iload_n 1, 4, 0), (4, .iload_n 2, 5, 0), (8, .ifCond .eq 7, 11, 15), (11, .lconst 1, 12, 0), (12, .goto 4, 15, 16), (15, .lconst 0, 16, 0), (16, .lastore, 17, 0), (17, .goto 7, 20, 24), (20, .astore 4, 22, 0), (22, .iconst 1, 23, 0), (24, .iconst 0, 25, 0)]
theorem T4_patch_ok : (T4_patch).all (k_dck (k_cc Y4_patch)) = true := by decide +kernel
theorem d4_patch_5 : decode (k_cc Y4_patch) 5 = .ok (.invokevirtual 32, 3) := by decide +kernel
theorem d4_patch_23 : decode (k_cc Y4_patch) 23 = .ok (.ireturn, 1) := by decide +kernel
theorem d4_patch_25 : decode (k_cc Y4_patch) 25 = .ok (.ireturn, 1) := by decide +kernel
def Y4_limit : k_Y := (4, yL_limit, cL_limit, 3, (some .int), 8, 134, [(0, 5, 8, 21)])
def T4_limit : List (Nat × Instr × Nat × Nat) := [(0, .aload_n 0, 1, 0), (1, .iload_n 1, 2, 0), (5, .goto 6, 8, 11), (8, .astore_n 2, 9, 0), (9, .iconst 1, 10, 0), (11, .iconst 0, 12, 0)]
theorem T4_limit_ok : (T4_limit).all (k_dck (k_cc Y4_limit)) = true := by decide +kernel
theorem d4_limit_2 : decode (k_cc Y4_limit) 2 = .ok (.invokevirtual 36, 3) := by decide +kernel
theorem d4_limit_10 : decode (k_cc Y4_limit) 10 = .ok (.ireturn, 1) := by decide +kernel
theorem d4_limit_12 : decode (k_cc Y4_limit) 12 = .ok (.ireturn, 1) := by decide +kernel
def Y4_speak : k_Y := (4, yL_speak, cL_speak, 7, (some .int), 9, 162, [(0, 14, 17, 13), (0, 14, 21, 21), (0, 14, 25, 42), (0, 14, 29, 23)])
def T4_speak : List (Nat × Instr × Nat × Nat) := [(0, .aload 5, 2, 0), (2, .iconst 0, 3, 0), (3, .aload_n 0, 4, 0), (4, .iload_n 1, 5, 0), (5, .iload_n 2, 6, 0), (6, .iload_n 3, 7, 0), (7, .iload 4, 9, 0), (12, .i2l, 13, 0), (13, .lastore, 14, 0), (14, .goto 19, 17, 33), (17, .astore 6, 19, 0), (19, .iconst 1, 20, 0), (21, .astore 6, 23, 0), (23, .iconst 2, 24, 0), (25, .astore 6, 27, 0), (27, .iconst 3, 28, 0), (29, .astore 6, 31, 0), (31, .iconst 4, 32, 0), (33, .iconst 0, 34, 0)]
theorem T4_speak_ok : (T4_speak).all (k_dck (k_cc Y4_speak)) = true := by decide +kernel
theorem d4_speak_9 : decode (k_cc Y4_speak) 9 = .ok (.invokevirtual 39, 3) := by decide +kernel
theorem d4_speak_20 : decode (k_cc Y4_speak) 20 = .ok (.ireturn, 1) := by decide +kernel
theorem d4_speak_24 : decode (k_cc Y4_speak) 24 = .ok (.ireturn, 1) := by decide +kernel
theorem d4_speak_28 : decode (k_cc Y4_speak) 28 = .ok (.ireturn, 1) := by decide +kernel
theorem d4_speak_32 : decode (k_cc Y4_speak) 32 = .ok (.ireturn, 1) := by decide +kernel
theorem d4_speak_34 : decode (k_cc Y4_speak) 34 = .ok (.ireturn, 1) := by decide +kernel
def Y4_relay : k_Y := (4, yL_relay, cL_relay, 7, (some .int), 9, 162, [(0, 14, 17, 13), (0, 14, 21, 21), (0, 14, 25, 42), (0, 14, 29, 23)])
def T4_relay : List (Nat × Instr × Nat × Nat) := [(0, .aload 5, 2, 0), (2, .iconst 0, 3, 0), (3, .aload_n 0, 4, 0), (4, .iload_n 1, 5, 0), (5, .iload_n 2, 6, 0), (6, .iload_n 3, 7, 0), (7, .iload 4, 9, 0), (12, .i2l, 13, 0), (13, .lastore, 14, 0), (14, .goto 19, 17, 33), (17, .astore 6, 19, 0), (19, .iconst 1, 20, 0), (21, .astore 6, 23, 0), (23, .iconst 2, 24, 0), (25, .astore 6, 27, 0), (27, .iconst 3, 28, 0), (29, .astore 6, 31, 0), (31, .iconst 4, 32, 0), (33, .iconst 0, 34, 0)]
theorem T4_relay_ok : (T4_relay).all (k_dck (k_cc Y4_relay)) = true := by decide +kernel
theorem d4_relay_9 : decode (k_cc Y4_relay) 9 = .ok (.invokevirtual 44, 3) := by decide +kernel
theorem d4_relay_20 : decode (k_cc Y4_relay) 20 = .ok (.ireturn, 1) := by decide +kernel
theorem d4_relay_24 : decode (k_cc Y4_relay) 24 = .ok (.ireturn, 1) := by decide +kernel
theorem d4_relay_28 : decode (k_cc Y4_relay) 28 = .ok (.ireturn, 1) := by decide +kernel
theorem d4_relay_32 : decode (k_cc Y4_relay) 32 = .ok (.ireturn, 1) := by decide +kernel
theorem d4_relay_34 : decode (k_cc Y4_relay) 34 = .ok (.ireturn, 1) := by decide +kernel
def Y4_lose : k_Y := (4, yL_lose, cL_lose, 4, (some .int), 9, 145, [(0, 16, 19, 51)])
def T4_lose : List (Nat × Instr × Nat × Nat) := [(0, .aload_n 2, 1, 0), (1, .iconst 0, 2, 0), (2, .aload_n 0, 3, 0), (3, .iload_n 1, 4, 0), (7, .ifCond .eq 7, 10, 14), (10, .lconst 1, 11, 0), (11, .goto 4, 14, 15), (14, .lconst 0, 15, 0), (15, .lastore, 16, 0), (16, .goto 6, 19, 22), (19, .astore_n 3, 20, 0), (20, .iconst 1, 21, 0), (22, .iconst 0, 23, 0)]
theorem T4_lose_ok : (T4_lose).all (k_dck (k_cc Y4_lose)) = true := by decide +kernel
theorem d4_lose_4 : decode (k_cc Y4_lose) 4 = .ok (.invokevirtual 47, 3) := by decide +kernel
theorem d4_lose_21 : decode (k_cc Y4_lose) 21 = .ok (.ireturn, 1) := by decide +kernel
theorem d4_lose_23 : decode (k_cc Y4_lose) 23 = .ok (.ireturn, 1) := by decide +kernel
def Y4_hears : k_Y := (4, yL_hears, cL_hears, 5, (some .int), 9, 147, [(0, 10, 13, 13), (0, 10, 17, 51)])
def T4_hears : List (Nat × Instr × Nat × Nat) := [(0, .aload_n 3, 1, 0), (1, .iconst 0, 2, 0), (2, .aload_n 0, 3, 0), (3, .iload_n 1, 4, 0), (4, .iload_n 2, 5, 0), (8, .i2l, 9, 0), (9, .lastore, 10, 0), (10, .goto 11, 13, 21), (13, .astore 4, 15, 0), (15, .iconst 1, 16, 0), (17, .astore 4, 19, 0), (19, .iconst 2, 20, 0), (21, .iconst 0, 22, 0)]
theorem T4_hears_ok : (T4_hears).all (k_dck (k_cc Y4_hears)) = true := by decide +kernel
theorem d4_hears_5 : decode (k_cc Y4_hears) 5 = .ok (.invokevirtual 53, 3) := by decide +kernel
theorem d4_hears_16 : decode (k_cc Y4_hears) 16 = .ok (.ireturn, 1) := by decide +kernel
theorem d4_hears_20 : decode (k_cc Y4_hears) 20 = .ok (.ireturn, 1) := by decide +kernel
theorem d4_hears_22 : decode (k_cc Y4_hears) 22 = .ok (.ireturn, 1) := by decide +kernel
def Y4_on : k_Y := (4, yL_on, cL_on, 5, (some .int), 9, 146, [(0, 10, 13, 13), (0, 10, 17, 51)])
def T4_on : List (Nat × Instr × Nat × Nat) := [(0, .aload_n 3, 1, 0), (1, .iconst 0, 2, 0), (2, .aload_n 0, 3, 0), (3, .iload_n 1, 4, 0), (4, .iload_n 2, 5, 0), (8, .i2l, 9, 0), (9, .lastore, 10, 0), (10, .goto 11, 13, 21), (13, .astore 4, 15, 0), (15, .iconst 1, 16, 0), (17, .astore 4, 19, 0), (19, .iconst 2, 20, 0), (21, .iconst 0, 22, 0)]
theorem T4_on_ok : (T4_on).all (k_dck (k_cc Y4_on)) = true := by decide +kernel
theorem d4_on_5 : decode (k_cc Y4_on) 5 = .ok (.invokevirtual 57, 3) := by decide +kernel
theorem d4_on_16 : decode (k_cc Y4_on) 16 = .ok (.ireturn, 1) := by decide +kernel
theorem d4_on_20 : decode (k_cc Y4_on) 20 = .ok (.ireturn, 1) := by decide +kernel
theorem d4_on_22 : decode (k_cc Y4_on) 22 = .ok (.ireturn, 1) := by decide +kernel
def Y4_ended : k_Y := (4, yL_ended, cL_ended, 4, (some .int), 9, 145, [(0, 9, 12, 13)])
def T4_ended : List (Nat × Instr × Nat × Nat) := [(0, .aload_n 2, 1, 0), (1, .iconst 0, 2, 0), (2, .aload_n 0, 3, 0), (3, .iload_n 1, 4, 0), (7, .i2l, 8, 0), (8, .lastore, 9, 0), (9, .goto 6, 12, 15), (12, .astore_n 3, 13, 0), (13, .iconst 1, 14, 0), (15, .iconst 0, 16, 0)]
theorem T4_ended_ok : (T4_ended).all (k_dck (k_cc Y4_ended)) = true := by decide +kernel
theorem d4_ended_4 : decode (k_cc Y4_ended) 4 = .ok (.invokevirtual 60, 3) := by decide +kernel
theorem d4_ended_14 : decode (k_cc Y4_ended) 14 = .ok (.ireturn, 1) := by decide +kernel
theorem d4_ended_16 : decode (k_cc Y4_ended) 16 = .ok (.ireturn, 1) := by decide +kernel
def Y4_length : k_Y := (4, yL_length, cL_length, 4, (some .int), 9, 145, [(0, 9, 12, 13)])
def T4_length : List (Nat × Instr × Nat × Nat) := [(0, .aload_n 2, 1, 0), (1, .iconst 0, 2, 0), (2, .aload_n 0, 3, 0), (3, .iload_n 1, 4, 0), (7, .i2l, 8, 0), (8, .lastore, 9, 0), (9, .goto 6, 12, 15), (12, .astore_n 3, 13, 0), (13, .iconst 1, 14, 0), (15, .iconst 0, 16, 0)]
theorem T4_length_ok : (T4_length).all (k_dck (k_cc Y4_length)) = true := by decide +kernel
theorem d4_length_4 : decode (k_cc Y4_length) 4 = .ok (.invokevirtual 64, 3) := by decide +kernel
theorem d4_length_14 : decode (k_cc Y4_length) 14 = .ok (.ireturn, 1) := by decide +kernel
theorem d4_length_16 : decode (k_cc Y4_length) 16 = .ok (.ireturn, 1) := by decide +kernel
def Y4_unheard : k_Y := (4, yL_unheard, cL_unheard, 5, (some .int), 9, 148, [(0, 10, 13, 13), (0, 10, 17, 21)])
def T4_unheard : List (Nat × Instr × Nat × Nat) := [(0, .aload_n 3, 1, 0), (1, .iconst 0, 2, 0), (2, .aload_n 0, 3, 0), (3, .iload_n 1, 4, 0), (4, .iload_n 2, 5, 0), (8, .i2l, 9, 0), (9, .lastore, 10, 0), (10, .goto 11, 13, 21), (13, .astore 4, 15, 0), (15, .iconst 1, 16, 0), (17, .astore 4, 19, 0), (19, .iconst 2, 20, 0), (21, .iconst 0, 22, 0)]
theorem T4_unheard_ok : (T4_unheard).all (k_dck (k_cc Y4_unheard)) = true := by decide +kernel
theorem d4_unheard_5 : decode (k_cc Y4_unheard) 5 = .ok (.invokevirtual 67, 3) := by decide +kernel
theorem d4_unheard_16 : decode (k_cc Y4_unheard) 16 = .ok (.ireturn, 1) := by decide +kernel
theorem d4_unheard_20 : decode (k_cc Y4_unheard) 20 = .ok (.ireturn, 1) := by decide +kernel
theorem d4_unheard_22 : decode (k_cc Y4_unheard) 22 = .ok (.ireturn, 1) := by decide +kernel
def Y4_used : k_Y := (4, yL_used, cL_used, 6, (some .int), 9, 149, [(0, 12, 15, 13), (0, 12, 19, 21)])
def T4_used : List (Nat × Instr × Nat × Nat) := [(0, .aload 4, 2, 0), (2, .iconst 0, 3, 0), (3, .aload_n 0, 4, 0), (4, .iload_n 1, 5, 0), (5, .iload_n 2, 6, 0), (6, .iload_n 3, 7, 0), (10, .i2l, 11, 0), (11, .lastore, 12, 0), (12, .goto 11, 15, 23), (15, .astore 5, 17, 0), (17, .iconst 1, 18, 0), (19, .astore 5, 21, 0), (21, .iconst 2, 22, 0), (23, .iconst 0, 24, 0)]
theorem T4_used_ok : (T4_used).all (k_dck (k_cc Y4_used)) = true := by decide +kernel
theorem d4_used_7 : decode (k_cc Y4_used) 7 = .ok (.invokevirtual 70, 3) := by decide +kernel
theorem d4_used_18 : decode (k_cc Y4_used) 18 = .ok (.ireturn, 1) := by decide +kernel
theorem d4_used_22 : decode (k_cc Y4_used) 22 = .ok (.ireturn, 1) := by decide +kernel
theorem d4_used_24 : decode (k_cc Y4_used) 24 = .ok (.ireturn, 1) := by decide +kernel
