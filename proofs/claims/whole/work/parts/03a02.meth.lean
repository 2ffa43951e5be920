def Y2_messageOn : k_Y := (2, yX2_messageOn, cX2_messageOn, 4, (some .int), 1, 22, [])
def T2_messageOn : List (Nat × Instr × Nat × Nat) := [(0, .iconst 0, 1, 0), (1, .istore_n 3, 2, 0), (2, .iload_n 3, 3, 0), (3, .aload_n 0, 4, 0), (4, .getfield 24, 7, 0), (7, .getfield 162, 10, 0), (10, .if_icmp .ge 40, 13, 50), (13, .aload_n 0, 14, 0), (14, .getfield 24, 17, 0), (17, .iload_n 3, 18, 0), (18, .iload_n 2, 19, 0), (22, .ifCond .eq 22, 25, 44), (25, .aload_n 0, 26, 0), (26, .iload_n 1, 27, 0), (27, .aload_n 0, 28, 0), (28, .getfield 24, 31, 0), (31, .getfield 163, 34, 0), (34, .iload_n 3, 35, 0), (35, .iaload, 36, 0), (39, .ifCond .eq 5, 42, 44), (42, .iload_n 3, 43, 0), (44, .iinc 3 1, 47, 0), (47, .goto (-45), 50, 2), (50, .iconst (-1), 51, 0)]
theorem T2_messageOn_ok : (T2_messageOn).all (k_dck (k_cc Y2_messageOn)) = true := by decide +kernel
theorem d2_messageOn_19 : decode (k_cc Y2_messageOn) 19 = .ok (.invokevirtual 235, 3) := by decide +kernel
theorem d2_messageOn_36 : decode (k_cc Y2_messageOn) 36 = .ok (.invokevirtual 82, 3) := by decide +kernel
theorem d2_messageOn_43 : decode (k_cc Y2_messageOn) 43 = .ok (.ireturn, 1) := by decide +kernel
theorem d2_messageOn_51 : decode (k_cc Y2_messageOn) 51 = .ok (.ireturn, 1) := by decide +kernel
def Y2_listensTo : k_Y := (2, yX2_listensTo, cX2_listensTo, 3, (some .boolean), 1, 22, [])
def T2_listensTo : List (Nat × Instr × Nat × Nat) := [(0, .iload_n 1, 1, 0), (1, .aload_n 0, 2, 0), (2, .getfield 24, 5, 0), (5, .getfield 261, 8, 0), (8, .iload_n 2, 9, 0), (9, .iaload, 10, 0), (10, .if_icmp .eq 32, 13, 42), (13, .aload_n 0, 14, 0), (14, .aload_n 0, 15, 0), (15, .getfield 14, 18, 0), (18, .getfield 133, 21, 0), (21, .iload_n 1, 22, 0), (22, .iaload, 23, 0), (23, .aload_n 0, 24, 0), (24, .getfield 24, 27, 0), (27, .getfield 163, 30, 0), (30, .iload_n 2, 31, 0), (31, .iaload, 32, 0), (35, .ifCond .eq 7, 38, 42), (38, .iconst 1, 39, 0), (39, .goto 4, 42, 43), (42, .iconst 0, 43, 0)]
theorem T2_listensTo_ok : (T2_listensTo).all (k_dck (k_cc Y2_listensTo)) = true := by decide +kernel
theorem d2_listensTo_32 : decode (k_cc Y2_listensTo) 32 = .ok (.invokevirtual 82, 3) := by decide +kernel
theorem d2_listensTo_43 : decode (k_cc Y2_listensTo) 43 = .ok (.ireturn, 1) := by decide +kernel
def Y2_receives : k_Y := (2, yX2_receives, cX2_receives, 3, (some .boolean), 2, 49, [])
def T2_receives : List (Nat × Instr × Nat × Nat) := [(0, .aload_n 0, 1, 0), (1, .iload_n 1, 2, 0), (2, .iload_n 2, 3, 0), (6, .ifCond .eq 40, 9, 46), (9, .aload_n 0, 10, 0), (10, .getfield 14, 13, 0), (13, .aload_n 0, 14, 0), (14, .getfield 24, 17, 0), (17, .getfield 261, 20, 0), (20, .iload_n 2, 21, 0), (21, .iaload, 22, 0), (22, .aload_n 0, 23, 0), (23, .getfield 14, 26, 0), (26, .iload_n 1, 27, 0), (30, .ifCond .ne 12, 33, 42), (33, .aload_n 0, 34, 0), (34, .iload_n 1, 35, 0), (35, .iload_n 2, 36, 0), (39, .ifCond .eq 7, 42, 46), (42, .iconst 1, 43, 0), (43, .goto 4, 46, 47), (46, .iconst 0, 47, 0)]
theorem T2_receives_ok : (T2_receives).all (k_dck (k_cc Y2_receives)) = true := by decide +kernel
theorem d2_receives_3 : decode (k_cc Y2_receives) 3 = .ok (.invokevirtual 264, 3) := by decide +kernel
theorem d2_receives_27 : decode (k_cc Y2_receives) 27 = .ok (.invokevirtual 267, 3) := by decide +kernel
theorem d2_receives_36 : decode (k_cc Y2_receives) 36 = .ok (.invokevirtual 271, 3) := by decide +kernel
theorem d2_receives_47 : decode (k_cc Y2_receives) 47 = .ok (.ireturn, 1) := by decide +kernel
def Y2_receivesByRepeater : k_Y := (2, yX2_receivesByRepeater, cX2_receivesByRepeater, 5, (some .boolean), 1, 25, [])
def T2_receivesByRepeater : List (Nat × Instr × Nat × Nat) := [(0, .aload_n 0, 1, 0), (1, .getfield 24, 4, 0), (4, .getfield 261, 7, 0), (7, .iload_n 2, 8, 0), (8, .iaload, 9, 0), (9, .istore_n 3, 10, 0), (10, .iconst 0, 11, 0), (11, .istore 4, 13, 0), (13, .iload 4, 15, 0), (15, .aload_n 0, 16, 0), (16, .getfield 18, 19, 0), (19, .getfield 154, 22, 0), (22, .if_icmp .ge 71, 25, 93), (25, .aload_n 0, 26, 0), (26, .aload_n 0, 27, 0), (27, .getfield 18, 30, 0), (30, .getfield 133, 33, 0), (33, .iload 4, 35, 0), (35, .iaload, 36, 0), (36, .aload_n 0, 37, 0), (37, .getfield 24, 40, 0), (40, .getfield 163, 43, 0), (43, .iload_n 2, 44, 0), (44, .iaload, 45, 0), (48, .ifCond .eq 39, 51, 87), (51, .aload_n 0, 52, 0), (52, .getfield 14, 55, 0), (55, .iload_n 3, 56, 0), (56, .aload_n 0, 57, 0), (57, .getfield 18, 60, 0), (60, .iload 4, 62, 0), (65, .ifCond .eq 22, 68, 87), (68, .aload_n 0, 69, 0), (69, .getfield 18, 72, 0), (72, .iload 4, 74, 0), (74, .aload_n 0, 75, 0), (75, .getfield 14, 78, 0), (78, .iload_n 1, 79, 0), (82, .ifCond .eq 5, 85, 87), (85, .iconst 1, 86, 0), (87, .iinc 4 1, 90, 0), (90, .goto (-77), 93, 13), (93, .iconst 0, 94, 0)]
theorem T2_receivesByRepeater_ok : (T2_receivesByRepeater).all (k_dck (k_cc Y2_receivesByRepeater)) = true := by decide +kernel
theorem d2_receivesByRepeater_45 : decode (k_cc Y2_receivesByRepeater) 45 = .ok (.invokevirtual 82, 3) := by decide +kernel
theorem d2_receivesByRepeater_62 : decode (k_cc Y2_receivesByRepeater) 62 = .ok (.invokevirtual 267, 3) := by decide +kernel
theorem d2_receivesByRepeater_79 : decode (k_cc Y2_receivesByRepeater) 79 = .ok (.invokevirtual 267, 3) := by decide +kernel
theorem d2_receivesByRepeater_86 : decode (k_cc Y2_receivesByRepeater) 86 = .ok (.ireturn, 1) := by decide +kernel
theorem d2_receivesByRepeater_94 : decode (k_cc Y2_receivesByRepeater) 94 = .ok (.ireturn, 1) := by decide +kernel
def Y2_heardAllSlots : k_Y := (2, yX2_heardAllSlots, cX2_heardAllSlots, 3, (some .boolean), 3, 71, [])
def T2_heardAllSlots : List (Nat × Instr × Nat × Nat) := [(0, .aload_n 0, 1, 0), (1, .getfield 24, 4, 0), (4, .getfield 149, 7, 0), (7, .iload_n 2, 8, 0), (8, .iaload, 9, 0), (9, .ifCond .le 24, 12, 33), (12, .aload_n 0, 13, 0), (13, .iload_n 1, 14, 0), (14, .iload_n 2, 15, 0), (18, .ifCond .eq 15, 21, 33), (21, .aload_n 0, 22, 0), (22, .iload_n 2, 23, 0), (26, .ifCond .ne 7, 29, 33), (29, .iconst 1, 30, 0), (30, .goto 4, 33, 34), (33, .iconst 0, 34, 0)]
theorem T2_heardAllSlots_ok : (T2_heardAllSlots).all (k_dck (k_cc Y2_heardAllSlots)) = true := by decide +kernel
theorem d2_heardAllSlots_15 : decode (k_cc Y2_heardAllSlots) 15 = .ok (.invokevirtual 140, 3) := by decide +kernel
theorem d2_heardAllSlots_23 : decode (k_cc Y2_heardAllSlots) 23 = .ok (.invokevirtual 274, 3) := by decide +kernel
theorem d2_heardAllSlots_34 : decode (k_cc Y2_heardAllSlots) 34 = .ok (.ireturn, 1) := by decide +kernel
def Y2_missed : k_Y := (2, yX2_missed, cX2_missed, 3, (some .boolean), 4, 93, [])
def T2_missed : List (Nat × Instr × Nat × Nat) := [(0, .aload_n 0, 1, 0), (1, .iload_n 1, 2, 0), (2, .iload_n 2, 3, 0), (6, .ifCond .eq 16, 9, 22), (9, .aload_n 0, 10, 0), (10, .iload_n 1, 11, 0), (11, .iload_n 2, 12, 0), (15, .ifCond .ne 7, 18, 22), (18, .iconst 1, 19, 0), (19, .goto 4, 22, 23), (22, .iconst 0, 23, 0)]
theorem T2_missed_ok : (T2_missed).all (k_dck (k_cc Y2_missed)) = true := by decide +kernel
theorem d2_missed_3 : decode (k_cc Y2_missed) 3 = .ok (.invokevirtual 264, 3) := by decide +kernel
theorem d2_missed_12 : decode (k_cc Y2_missed) 12 = .ok (.invokevirtual 119, 3) := by decide +kernel
theorem d2_missed_23 : decode (k_cc Y2_missed) 23 = .ok (.ireturn, 1) := by decide +kernel
def Y2_hasNoise : k_Y := (2, yX2_hasNoise, cX2_hasNoise, 5, (some .boolean), 1, 21, [])
def T2_hasNoise : List (Nat × Instr × Nat × Nat) := [(0, .aload_n 0, 1, 0), (1, .getfield 24, 4, 0), (4, .getfield 277, 7, 0), (7, .iload_n 1, 8, 0), (8, .iaload, 9, 0), (9, .istore_n 2, 10, 0), (10, .iload_n 2, 11, 0), (11, .aload_n 0, 12, 0), (12, .getfield 24, 15, 0), (15, .getfield 149, 18, 0), (18, .iload_n 1, 19, 0), (19, .iaload, 20, 0), (20, .iadd, 21, 0), (21, .aload_n 0, 22, 0), (22, .getfield 54, 25, 0), (28, .istore_n 3, 29, 0), (29, .iload_n 2, 30, 0), (30, .istore 4, 32, 0), (32, .iload 4, 34, 0), (34, .iload_n 3, 35, 0), (35, .if_icmp .ge 21, 38, 56), (38, .aload_n 0, 39, 0), (39, .getfield 28, 42, 0), (42, .iload 4, 44, 0), (44, .baload, 45, 0), (45, .ifCond .eq 5, 48, 50), (48, .iconst 1, 49, 0), (50, .iinc 4 1, 53, 0), (53, .goto (-21), 56, 32), (56, .iconst 0, 57, 0)]
theorem T2_hasNoise_ok : (T2_hasNoise).all (k_dck (k_cc Y2_hasNoise)) = true := by decide +kernel
theorem d2_hasNoise_25 : decode (k_cc Y2_hasNoise) 25 = .ok (.invokestatic 280, 3) := by decide +kernel
theorem d2_hasNoise_49 : decode (k_cc Y2_hasNoise) 49 = .ok (.ireturn, 1) := by decide +kernel
theorem d2_hasNoise_57 : decode (k_cc Y2_hasNoise) 57 = .ok (.ireturn, 1) := by decide +kernel
def Y3_init : k_Y := (3, yX3_init, cX3_init, 2, none, 1, 20, [])
def T3_init : List (Nat × Instr × Nat × Nat) := [(0, .aload_n 0, 1, 0), (4, .aload_n 0, 5, 0), (5, .bipush 6, 7, 0), (9, .putfield 7, 12, 0), (12, .aload_n 0, 13, 0), (13, .bipush 20, 15, 0), (17, .putfield 13, 20, 0), (20, .aload_n 0, 21, 0), (21, .bipush 20, 23, 0), (25, .putfield 16, 28, 0), (28, .aload_n 0, 29, 0), (29, .bipush 20, 31, 0), (33, .putfield 19, 36, 0), (36, .aload_n 0, 37, 0), (37, .bipush 20, 39, 0), (41, .putfield 22, 44, 0), (44, .aload_n 0, 45, 0), (45, .bipush 8, 47, 0), (49, .putfield 25, 52, 0), (52, .aload_n 0, 53, 0), (53, .bipush 8, 55, 0), (57, .putfield 28, 60, 0), (60, .aload_n 0, 61, 0), (61, .bipush 8, 63, 0), (65, .putfield 31, 68, 0), (68, .aload_n 0, 69, 0), (69, .bipush 8, 71, 0), (73, .putfield 34, 76, 0), (76, .aload_n 0, 77, 0), (77, .bipush 60, 79, 0), (81, .putfield 37, 84, 0), (84, .aload_n 0, 85, 0), (85, .bipush 60, 87, 0), (89, .putfield 40, 92, 0), (92, .aload_n 0, 93, 0), (93, .bipush 60, 95, 0), (97, .putfield 43, 100, 0), (100, .aload_n 0, 101, 0), (101, .bipush 60, 103, 0), (105, .putfield 46, 108, 0), (108, .aload_n 0, 109, 0), (109, .bipush 60, 111, 0), (113, .putfield 49, 116, 0), (116, .aload_n 0, 117, 0), (117, .sipush 1000, 120, 0), (122, .putfield 52, 125, 0), (125, .aload_n 0, 126, 0), (126, .sipush 1000, 129, 0), (131, .putfield 56, 134, 0), (134, .aload_n 0, 135, 0), (135, .sipush 1000, 138, 0), (140, .putfield 59, 143, 0), (143, .aload_n 0, 144, 0), (144, .bipush 60, 146, 0), (148, .putfield 62, 151, 0), (151, .aload_n 0, 152, 0), (152, .bipush 60, 154, 0), (156, .putfield 65, 159, 0), (159, .iconst 0, 160, 0), (160, .istore_n 1, 161, 0), (161, .iload_n 1, 162, 0), (162, .bipush 6, 164, 0), (164, .if_icmp .ge 16, 167, 180), (167, .aload_n 0, 168, 0), (168, .getfield 7, 171, 0), (171, .iload_n 1, 172, 0), (172, .iload_n 1, 173, 0), (173, .iastore, 174, 0), (174, .iinc 1 1, 177, 0), (177, .goto (-16), 180, 161)]
theorem T3_init_ok : (T3_init).all (k_dck (k_cc Y3_init)) = true := by decide +kernel
theorem d3_init_1 : decode (k_cc Y3_init) 1 = .ok (.invokespecial 1, 3) := by decide +kernel
theorem d3_init_7 : decode (k_cc Y3_init) 7 = .ok (.newarray .int, 2) := by decide +kernel
theorem d3_init_15 : decode (k_cc Y3_init) 15 = .ok (.newarray .int, 2) := by decide +kernel
theorem d3_init_23 : decode (k_cc Y3_init) 23 = .ok (.newarray .int, 2) := by decide +kernel
theorem d3_init_31 : decode (k_cc Y3_init) 31 = .ok (.newarray .int, 2) := by decide +kernel
theorem d3_init_39 : decode (k_cc Y3_init) 39 = .ok (.newarray .int, 2) := by decide +kernel
theorem d3_init_47 : decode (k_cc Y3_init) 47 = .ok (.newarray .int, 2) := by decide +kernel
theorem d3_init_55 : decode (k_cc Y3_init) 55 = .ok (.newarray .int, 2) := by decide +kernel
theorem d3_init_63 : decode (k_cc Y3_init) 63 = .ok (.newarray .int, 2) := by decide +kernel
theorem d3_init_71 : decode (k_cc Y3_init) 71 = .ok (.newarray .int, 2) := by decide +kernel
theorem d3_init_79 : decode (k_cc Y3_init) 79 = .ok (.newarray .int, 2) := by decide +kernel
theorem d3_init_87 : decode (k_cc Y3_init) 87 = .ok (.newarray .int, 2) := by decide +kernel
theorem d3_init_95 : decode (k_cc Y3_init) 95 = .ok (.newarray .int, 2) := by decide +kernel
theorem d3_init_103 : decode (k_cc Y3_init) 103 = .ok (.newarray .int, 2) := by decide +kernel
theorem d3_init_111 : decode (k_cc Y3_init) 111 = .ok (.newarray .int, 2) := by decide +kernel
theorem d3_init_120 : decode (k_cc Y3_init) 120 = .ok (.newarray .boolean, 2) := by decide +kernel
theorem d3_init_129 : decode (k_cc Y3_init) 129 = .ok (.newarray .int, 2) := by decide +kernel
theorem d3_init_138 : decode (k_cc Y3_init) 138 = .ok (.newarray .int, 2) := by decide +kernel
theorem d3_init_146 : decode (k_cc Y3_init) 146 = .ok (.newarray .int, 2) := by decide +kernel
theorem d3_init_154 : decode (k_cc Y3_init) 154 = .ok (.newarray .int, 2) := by decide +kernel
theorem d3_init_180 : decode (k_cc Y3_init) 180 = .ok (.return_, 1) := by decide +kernel
def Y3_thrown : k_Y := (3, yX3_thrown, cX3_thrown, 1, (some .int), 0, 0, [])
def T3_thrown : List (Nat × Instr × Nat × Nat) := [(0, .aload_n 0, 1, 0), (1, .getfield 68, 4, 0)]
theorem T3_thrown_ok : (T3_thrown).all (k_dck (k_cc Y3_thrown)) = true := by decide +kernel
theorem d3_thrown_4 : decode (k_cc Y3_thrown) 4 = .ok (.ireturn, 1) := by decide +kernel
def Y3_in : k_Y := (3, yX3_in, cX3_in, 3, (some .boolean), 0, 0, [])
def T3_in : List (Nat × Instr × Nat × Nat) := [(0, .iload_n 0, 1, 0), (1, .iload_n 1, 2, 0), (2, .if_icmp .lt 12, 5, 14), (5, .iload_n 0, 6, 0), (6, .iload_n 2, 7, 0), (7, .if_icmp .gt 7, 10, 14), (10, .iconst 1, 11, 0), (11, .goto 4, 14, 15), (14, .iconst 0, 15, 0)]
theorem T3_in_ok : (T3_in).all (k_dck (k_cc Y3_in)) = true := by decide +kernel
theorem d3_in_15 : decode (k_cc Y3_in) 15 = .ok (.ireturn, 1) := by decide +kernel
def Y3_goes : k_Y := (3, yX3_goes, cX3_goes, 8, (some .boolean), 0, 0, [])
def T3_goes : List (Nat × Instr × Nat × Nat) := [(0, .iload_n 2, 1, 0), (1, .ifCond .ne 7, 4, 8), (4, .iconst 1, 5, 0), (5, .goto 31, 8, 36), (8, .iload_n 3, 9, 0), (9, .ifCond .ne 7, 12, 16), (12, .iconst 2, 13, 0), (13, .goto 23, 16, 36), (16, .iload 4, 18, 0), (18, .ifCond .ne 7, 21, 25), (21, .iconst 4, 22, 0), (22, .goto 14, 25, 36), (25, .iload 5, 27, 0), (27, .ifCond .ne 8, 30, 35), (30, .bipush 8, 32, 0), (32, .goto 4, 35, 36), (35, .iconst 0, 36, 0), (36, .istore 6, 38, 0), (38, .aload_n 0, 39, 0), (39, .iconst 0, 40, 0), (40, .putfield 68, 43, 0), (43, .iconst 1, 44, 0), (44, .istore 7, 46, 0), (46, .iload 7, 48, 0), (48, .iload 6, 50, 0), (50, .if_icmp .gt 29, 53, 79), (53, .iload_n 1, 54, 0), (54, .iload 7, 56, 0), (56, .iand, 57, 0), (57, .ifCond .le 13, 60, 70), (60, .aload_n 0, 61, 0), (61, .dup, 62, 0), (62, .getfield 68, 65, 0), (65, .iconst 1, 66, 0), (66, .iadd, 67, 0), (67, .putfield 68, 70, 0), (70, .iconst 2, 71, 0), (71, .iload 7, 73, 0), (73, .imul, 74, 0), (74, .istore 7, 76, 0), (76, .goto (-30), 79, 46), (79, .iload 6, 81, 0), (81, .ifCond .ne 7, 84, 88), (84, .iconst 1, 85, 0), (85, .goto 4, 88, 89), (88, .iconst 0, 89, 0)]
theorem T3_goes_ok : (T3_goes).all (k_dck (k_cc Y3_goes)) = true := by decide +kernel
theorem d3_goes_61 : decode (k_cc Y3_goes) 61 = .ok (.dup, 1) := by decide +kernel
theorem d3_goes_89 : decode (k_cc Y3_goes) 89 = .ok (.ireturn, 1) := by decide +kernel
def Y3_isPoint : k_Y := (3, yX3_isPoint, cX3_isPoint, 2, (some .boolean), 1, 22, [])
def T3_isPoint : List (Nat × Instr × Nat × Nat) := [(0, .iload_n 0, 1, 0), (1, .iconst 0, 2, 0), (2, .sipush 9999, 5, 0), (8, .ifCond .eq 18, 11, 26), (11, .iload_n 1, 12, 0), (12, .iconst 0, 13, 0), (13, .sipush 9999, 16, 0), (19, .ifCond .eq 7, 22, 26), (22, .iconst 1, 23, 0), (23, .goto 4, 26, 27), (26, .iconst 0, 27, 0)]
theorem T3_isPoint_ok : (T3_isPoint).all (k_dck (k_cc Y3_isPoint)) = true := by decide +kernel
theorem d3_isPoint_5 : decode (k_cc Y3_isPoint) 5 = .ok (.invokestatic 72, 3) := by decide +kernel
theorem d3_isPoint_16 : decode (k_cc Y3_isPoint) 16 = .ok (.invokestatic 72, 3) := by decide +kernel
theorem d3_isPoint_27 : decode (k_cc Y3_isPoint) 27 = .ok (.ireturn, 1) := by decide +kernel
def Y3_isChannel : k_Y := (3, yX3_isChannel, cX3_isChannel, 1, (some .boolean), 1, 22, [])
def T3_isChannel : List (Nat × Instr × Nat × Nat) := [(0, .iload_n 0, 1, 0), (1, .iconst 0, 2, 0), (2, .iconst 5, 3, 0)]
theorem T3_isChannel_ok : (T3_isChannel).all (k_dck (k_cc Y3_isChannel)) = true := by decide +kernel
theorem d3_isChannel_3 : decode (k_cc Y3_isChannel) 3 = .ok (.invokestatic 72, 3) := by decide +kernel
theorem d3_isChannel_6 : decode (k_cc Y3_isChannel) 6 = .ok (.ireturn, 1) := by decide +kernel
def Y3_isUnit : k_Y := (3, yX3_isUnit, cX3_isUnit, 2, (some .boolean), 1, 22, [])
def T3_isUnit : List (Nat × Instr × Nat × Nat) := [(0, .iload_n 1, 1, 0), (1, .iconst 0, 2, 0), (2, .aload_n 0, 3, 0), (3, .getfield 76, 6, 0), (6, .iconst 1, 7, 0), (7, .isub, 8, 0)]
theorem T3_isUnit_ok : (T3_isUnit).all (k_dck (k_cc Y3_isUnit)) = true := by decide +kernel
theorem d3_isUnit_8 : decode (k_cc Y3_isUnit) 8 = .ok (.invokestatic 72, 3) := by decide +kernel
theorem d3_isUnit_11 : decode (k_cc Y3_isUnit) 11 = .ok (.ireturn, 1) := by decide +kernel
def Y3_isMessage : k_Y := (3, yX3_isMessage, cX3_isMessage, 2, (some .boolean), 1, 22, [])
def T3_isMessage : List (Nat × Instr × Nat × Nat) := [(0, .iload_n 1, 1, 0), (1, .iconst 0, 2, 0), (2, .aload_n 0, 3, 0), (3, .getfield 79, 6, 0), (6, .iconst 1, 7, 0), (7, .isub, 8, 0)]
theorem T3_isMessage_ok : (T3_isMessage).all (k_dck (k_cc Y3_isMessage)) = true := by decide +kernel
theorem d3_isMessage_8 : decode (k_cc Y3_isMessage) 8 = .ok (.invokestatic 72, 3) := by decide +kernel
theorem d3_isMessage_11 : decode (k_cc Y3_isMessage) 11 = .ok (.ireturn, 1) := by decide +kernel
def Y3_isSlot : k_Y := (3, yX3_isSlot, cX3_isSlot, 2, (some .boolean), 1, 22, [])
def T3_isSlot : List (Nat × Instr × Nat × Nat) := [(0, .iload_n 1, 1, 0), (1, .iconst 0, 2, 0), (2, .aload_n 0, 3, 0), (3, .getfield 82, 6, 0), (6, .iconst 1, 7, 0), (7, .isub, 8, 0)]
theorem T3_isSlot_ok : (T3_isSlot).all (k_dck (k_cc Y3_isSlot)) = true := by decide +kernel
theorem d3_isSlot_8 : decode (k_cc Y3_isSlot) 8 = .ok (.invokestatic 72, 3) := by decide +kernel
theorem d3_isSlot_11 : decode (k_cc Y3_isSlot) 11 = .ok (.ireturn, 1) := by decide +kernel
def Y3_day : k_Y := (3, yX3_day, cX3_day, 3, none, 1, 27, [])
def T3_day : List (Nat × Instr × Nat × Nat) := [(0, .aload_n 0, 1, 0), (1, .iconst 3, 2, 0), (2, .iload_n 1, 3, 0), (3, .sipush 1000, 6, 0), (6, .if_icmp .gt 7, 9, 13), (9, .iconst 1, 10, 0), (10, .goto 4, 13, 14), (13, .iconst 0, 14, 0), (14, .iload_n 1, 15, 0), (15, .ifCond .lt 7, 18, 22), (18, .iconst 1, 19, 0), (19, .goto 4, 22, 23), (22, .iconst 0, 23, 0), (23, .iconst 1, 24, 0), (24, .iconst 1, 25, 0), (28, .ifCond .ne 4, 31, 32), (32, .aload_n 0, 33, 0), (33, .iload_n 1, 34, 0), (34, .putfield 82, 37, 0), (37, .aload_n 0, 38, 0), (38, .iconst 0, 39, 0), (39, .putfield 89, 42, 0), (42, .aload_n 0, 43, 0), (43, .iconst 0, 44, 0), (44, .putfield 76, 47, 0), (47, .aload_n 0, 48, 0), (48, .iconst 0, 49, 0), (49, .putfield 92, 52, 0), (52, .aload_n 0, 53, 0), (53, .iconst 0, 54, 0), (54, .putfield 79, 57, 0), (57, .iconst 0, 58, 0), (58, .istore_n 2, 59, 0), (59, .iload_n 2, 60, 0), (60, .bipush 6, 62, 0), (62, .if_icmp .ge 16, 65, 78), (65, .aload_n 0, 66, 0), (66, .getfield 7, 69, 0), (69, .iload_n 2, 70, 0), (70, .iload_n 2, 71, 0), (71, .iastore, 72, 0), (72, .iinc 2 1, 75, 0), (75, .goto (-16), 78, 59), (78, .iconst 0, 79, 0), (79, .istore_n 2, 80, 0), (80, .iload_n 2, 81, 0), (81, .sipush 1000, 84, 0), (84, .if_icmp .ge 16, 87, 100), (87, .aload_n 0, 88, 0), (88, .getfield 52, 91, 0), (91, .iload_n 2, 92, 0), (92, .iconst 0, 93, 0), (93, .bastore, 94, 0), (94, .iinc 2 1, 97, 0), (97, .goto (-17), 100, 80)]
theorem T3_day_ok : (T3_day).all (k_dck (k_cc Y3_day)) = true := by decide +kernel
theorem d3_day_25 : decode (k_cc Y3_day) 25 = .ok (.invokevirtual 85, 3) := by decide +kernel
theorem d3_day_31 : decode (k_cc Y3_day) 31 = .ok (.return_, 1) := by decide +kernel
theorem d3_day_100 : decode (k_cc Y3_day) 100 = .ok (.return_, 1) := by decide +kernel
def Y3_unit : k_Y := (3, yX3_unit, cX3_unit, 5, (some .int), 2, 43, [])
def T3_unit : List (Nat × Instr × Nat × Nat) := [(0, .aload_n 0, 1, 0), (1, .bipush 10, 3, 0), (3, .iconst 1, 4, 0), (4, .iload_n 1, 5, 0), (5, .iload_n 2, 6, 0), (9, .ifCond .eq 26, 12, 35), (12, .iload_n 3, 13, 0), (13, .iconst 0, 14, 0), (14, .sipush 9999, 17, 0), (20, .ifCond .eq 15, 23, 35), (23, .iload 4, 25, 0), (28, .ifCond .eq 7, 31, 35), (31, .iconst 1, 32, 0), (32, .goto 4, 35, 36), (35, .iconst 0, 36, 0), (36, .iconst 1, 37, 0), (37, .aload_n 0, 38, 0), (38, .getfield 76, 41, 0), (41, .bipush 20, 43, 0), (43, .if_icmp .ge 7, 46, 50), (46, .iconst 1, 47, 0), (47, .goto 4, 50, 51), (50, .iconst 0, 51, 0), (54, .ifCond .ne 5, 57, 59), (57, .iconst 0, 58, 0), (59, .aload_n 0, 60, 0), (60, .getfield 13, 63, 0), (63, .aload_n 0, 64, 0), (64, .getfield 76, 67, 0), (67, .iload_n 1, 68, 0), (68, .iastore, 69, 0), (69, .aload_n 0, 70, 0), (70, .getfield 16, 73, 0), (73, .aload_n 0, 74, 0), (74, .getfield 76, 77, 0), (77, .iload_n 2, 78, 0), (78, .iastore, 79, 0), (79, .aload_n 0, 80, 0), (80, .getfield 19, 83, 0), (83, .aload_n 0, 84, 0), (84, .getfield 76, 87, 0), (87, .iload_n 3, 88, 0), (88, .iastore, 89, 0), (89, .aload_n 0, 90, 0), (90, .getfield 22, 93, 0), (93, .aload_n 0, 94, 0), (94, .getfield 76, 97, 0), (97, .iload 4, 99, 0), (99, .iastore, 100, 0), (100, .aload_n 0, 101, 0), (101, .dup, 102, 0), (102, .getfield 76, 105, 0), (105, .iconst 1, 106, 0), (106, .iadd, 107, 0), (107, .putfield 76, 110, 0), (110, .aload_n 0, 111, 0), (111, .getfield 76, 114, 0), (114, .iconst 1, 115, 0), (115, .isub, 116, 0)]
theorem T3_unit_ok : (T3_unit).all (k_dck (k_cc Y3_unit)) = true := by decide +kernel
theorem d3_unit_6 : decode (k_cc Y3_unit) 6 = .ok (.invokestatic 95, 3) := by decide +kernel
theorem d3_unit_17 : decode (k_cc Y3_unit) 17 = .ok (.invokestatic 72, 3) := by decide +kernel
theorem d3_unit_25 : decode (k_cc Y3_unit) 25 = .ok (.invokestatic 99, 3) := by decide +kernel
theorem d3_unit_51 : decode (k_cc Y3_unit) 51 = .ok (.invokevirtual 85, 3) := by decide +kernel
theorem d3_unit_58 : decode (k_cc Y3_unit) 58 = .ok (.ireturn, 1) := by decide +kernel
theorem d3_unit_101 : decode (k_cc Y3_unit) 101 = .ok (.dup, 1) := by decide +kernel
theorem d3_unit_116 : decode (k_cc Y3_unit) 116 = .ok (.ireturn, 1) := by decide +kernel
def Y3_go : k_Y := (3, yX3_go, cX3_go, 5, none, 2, 43, [])
def T3_go : List (Nat × Instr × Nat × Nat) := [(0, .aload_n 0, 1, 0), (1, .iconst 3, 2, 0), (2, .aload_n 0, 3, 0), (3, .iload_n 1, 4, 0), (7, .iload_n 2, 8, 0), (8, .iload_n 3, 9, 0), (12, .ifCond .eq 15, 15, 27), (15, .iload 4, 17, 0), (20, .ifCond .eq 7, 23, 27), (23, .iconst 1, 24, 0), (24, .goto 4, 27, 28), (27, .iconst 0, 28, 0), (28, .iconst 1, 29, 0), (29, .iconst 1, 30, 0), (33, .ifCond .ne 4, 36, 37), (37, .aload_n 0, 38, 0), (38, .getfield 13, 41, 0), (41, .iload_n 1, 42, 0), (42, .iload_n 2, 43, 0), (43, .iastore, 44, 0), (44, .aload_n 0, 45, 0), (45, .getfield 16, 48, 0), (48, .iload_n 1, 49, 0), (49, .iload_n 3, 50, 0), (50, .iastore, 51, 0), (51, .aload_n 0, 52, 0), (52, .getfield 22, 55, 0), (55, .iload_n 1, 56, 0), (56, .iload 4, 58, 0), (58, .iastore, 59, 0)]
theorem T3_go_ok : (T3_go).all (k_dck (k_cc Y3_go)) = true := by decide +kernel
theorem d3_go_4 : decode (k_cc Y3_go) 4 = .ok (.invokevirtual 103, 3) := by decide +kernel
theorem d3_go_9 : decode (k_cc Y3_go) 9 = .ok (.invokestatic 95, 3) := by decide +kernel
theorem d3_go_17 : decode (k_cc Y3_go) 17 = .ok (.invokestatic 99, 3) := by decide +kernel
theorem d3_go_30 : decode (k_cc Y3_go) 30 = .ok (.invokevirtual 85, 3) := by decide +kernel
theorem d3_go_36 : decode (k_cc Y3_go) 36 = .ok (.return_, 1) := by decide +kernel
theorem d3_go_59 : decode (k_cc Y3_go) 59 = .ok (.return_, 1) := by decide +kernel
def Y3_repeater : k_Y := (3, yX3_repeater, cX3_repeater, 5, (some .int), 2, 43, [])
def T3_repeater : List (Nat × Instr × Nat × Nat) := [(0, .aload_n 0, 1, 0), (1, .bipush 10, 3, 0), (3, .iconst 1, 4, 0), (4, .iload_n 1, 5, 0), (5, .iload_n 2, 6, 0), (9, .ifCond .eq 26, 12, 35), (12, .iload_n 3, 13, 0), (13, .iconst 0, 14, 0), (14, .sipush 9999, 17, 0), (20, .ifCond .eq 15, 23, 35), (23, .iload 4, 25, 0), (28, .ifCond .eq 7, 31, 35), (31, .iconst 1, 32, 0), (32, .goto 4, 35, 36), (35, .iconst 0, 36, 0), (36, .iconst 1, 37, 0), (37, .aload_n 0, 38, 0), (38, .getfield 92, 41, 0), (41, .bipush 8, 43, 0), (43, .if_icmp .ge 7, 46, 50), (46, .iconst 1, 47, 0), (47, .goto 4, 50, 51), (50, .iconst 0, 51, 0), (54, .ifCond .ne 5, 57, 59), (57, .iconst 0, 58, 0), (59, .aload_n 0, 60, 0), (60, .getfield 25, 63, 0), (63, .aload_n 0, 64, 0), (64, .getfield 92, 67, 0), (67, .iload_n 1, 68, 0), (68, .iastore, 69, 0), (69, .aload_n 0, 70, 0), (70, .getfield 28, 73, 0), (73, .aload_n 0, 74, 0), (74, .getfield 92, 77, 0), (77, .iload_n 2, 78, 0), (78, .iastore, 79, 0), (79, .aload_n 0, 80, 0), (80, .getfield 31, 83, 0), (83, .aload_n 0, 84, 0), (84, .getfield 92, 87, 0), (87, .iload_n 3, 88, 0), (88, .iastore, 89, 0), (89, .aload_n 0, 90, 0), (90, .getfield 34, 93, 0), (93, .aload_n 0, 94, 0), (94, .getfield 92, 97, 0), (97, .iload 4, 99, 0), (99, .iastore, 100, 0), (100, .aload_n 0, 101, 0), (101, .dup, 102, 0), (102, .getfield 92, 105, 0), (105, .iconst 1, 106, 0), (106, .iadd, 107, 0), (107, .putfield 92, 110, 0), (110, .aload_n 0, 111, 0), (111, .getfield 92, 114, 0), (114, .iconst 1, 115, 0), (115, .isub, 116, 0)]
theorem T3_repeater_ok : (T3_repeater).all (k_dck (k_cc Y3_repeater)) = true := by decide +kernel
theorem d3_repeater_6 : decode (k_cc Y3_repeater) 6 = .ok (.invokestatic 95, 3) := by decide +kernel
theorem d3_repeater_17 : decode (k_cc Y3_repeater) 17 = .ok (.invokestatic 72, 3) := by decide +kernel
theorem d3_repeater_25 : decode (k_cc Y3_repeater) 25 = .ok (.invokestatic 99, 3) := by decide +kernel
theorem d3_repeater_51 : decode (k_cc Y3_repeater) 51 = .ok (.invokevirtual 85, 3) := by decide +kernel
theorem d3_repeater_58 : decode (k_cc Y3_repeater) 58 = .ok (.ireturn, 1) := by decide +kernel
theorem d3_repeater_101 : decode (k_cc Y3_repeater) 101 = .ok (.dup, 1) := by decide +kernel
theorem d3_repeater_116 : decode (k_cc Y3_repeater) 116 = .ok (.ireturn, 1) := by decide +kernel
def Y3_patch : k_Y := (3, yX3_patch, cX3_patch, 5, (some .boolean), 2, 42, [])
def T3_patch : List (Nat × Instr × Nat × Nat) := [(0, .aload_n 0, 1, 0), (1, .iconst 2, 2, 0), (2, .iconst 1, 3, 0), (3, .iload_n 1, 4, 0), (7, .ifCond .eq 14, 10, 21), (10, .iload_n 2, 11, 0), (14, .ifCond .eq 7, 17, 21), (17, .iconst 1, 18, 0), (18, .goto 4, 21, 22), (21, .iconst 0, 22, 0), (22, .iconst 1, 23, 0), (23, .iconst 1, 24, 0), (27, .ifCond .eq 18, 30, 45), (30, .aload_n 0, 31, 0), (31, .getfield 7, 34, 0), (34, .iload_n 1, 35, 0), (35, .iaload, 36, 0), (36, .aload_n 0, 37, 0), (37, .getfield 7, 40, 0), (40, .iload_n 2, 41, 0), (41, .iaload, 42, 0), (42, .if_icmp .ne 5, 45, 47), (45, .iconst 0, 46, 0), (47, .aload_n 0, 48, 0), (48, .getfield 7, 51, 0), (51, .iload_n 2, 52, 0), (52, .iaload, 53, 0), (53, .istore_n 3, 54, 0), (54, .iconst 0, 55, 0), (55, .istore 4, 57, 0), (57, .iload 4, 59, 0), (59, .bipush 6, 61, 0), (61, .if_icmp .ge 33, 64, 94), (64, .aload_n 0, 65, 0), (65, .getfield 7, 68, 0), (68, .iload 4, 70, 0), (70, .iaload, 71, 0), (71, .iload_n 3, 72, 0), (72, .if_icmp .ne 16, 75, 88), (75, .aload_n 0, 76, 0), (76, .getfield 7, 79, 0), (79, .iload 4, 81, 0), (81, .aload_n 0, 82, 0), (82, .getfield 7, 85, 0), (85, .iload_n 1, 86, 0), (86, .iaload, 87, 0), (87, .iastore, 88, 0), (88, .iinc 4 1, 91, 0), (91, .goto (-34), 94, 57), (94, .iconst 1, 95, 0)]
theorem T3_patch_ok : (T3_patch).all (k_dck (k_cc Y3_patch)) = true := by decide +kernel
theorem d3_patch_4 : decode (k_cc Y3_patch) 4 = .ok (.invokestatic 99, 3) := by decide +kernel
theorem d3_patch_11 : decode (k_cc Y3_patch) 11 = .ok (.invokestatic 99, 3) := by decide +kernel
theorem d3_patch_24 : decode (k_cc Y3_patch) 24 = .ok (.invokevirtual 85, 3) := by decide +kernel
theorem d3_patch_46 : decode (k_cc Y3_patch) 46 = .ok (.ireturn, 1) := by decide +kernel
theorem d3_patch_95 : decode (k_cc Y3_patch) 95 = .ok (.ireturn, 1) := by decide +kernel
def Y3_limit : k_Y := (3, yX3_limit, cX3_limit, 2, none, 1, 27, [])
def T3_limit : List (Nat × Instr × Nat × Nat) := [(0, .aload_n 0, 1, 0), (1, .iconst 2, 2, 0), (2, .iconst 1, 3, 0), (3, .iload_n 1, 4, 0), (4, .iconst 0, 5, 0), (5, .sipush 1000, 8, 0), (11, .iconst 1, 12, 0), (12, .iconst 1, 13, 0), (16, .ifCond .eq 8, 19, 24), (19, .aload_n 0, 20, 0), (20, .iload_n 1, 21, 0), (21, .putfield 89, 24, 0)]
theorem T3_limit_ok : (T3_limit).all (k_dck (k_cc Y3_limit)) = true := by decide +kernel
theorem d3_limit_8 : decode (k_cc Y3_limit) 8 = .ok (.invokestatic 72, 3) := by decide +kernel
theorem d3_limit_13 : decode (k_cc Y3_limit) 13 = .ok (.invokevirtual 85, 3) := by decide +kernel
theorem d3_limit_24 : decode (k_cc Y3_limit) 24 = .ok (.return_, 1) := by decide +kernel
