def Y0_init : k_Y := (0, yX0_init, cX0_init, 2, none, 1, 20, [])
def T0_init : List (Nat × Instr × Nat × Nat) := [(0, .aload_n 0, 1, 0), (4, .aload_n 0, 5, 0), (5, .iload_n 1, 6, 0), (8, .putfield 9, 11, 0), (11, .aload_n 0, 12, 0), (12, .iload_n 1, 13, 0), (15, .putfield 15, 18, 0), (18, .aload_n 0, 19, 0), (19, .iload_n 1, 20, 0), (22, .putfield 18, 25, 0), (25, .aload_n 0, 26, 0), (26, .iload_n 1, 27, 0), (29, .putfield 21, 32, 0), (32, .aload_n 0, 33, 0), (33, .iload_n 1, 34, 0), (36, .putfield 24, 39, 0), (39, .aload_n 0, 40, 0), (40, .iload_n 1, 41, 0), (43, .putfield 27, 46, 0), (46, .aload_n 0, 47, 0), (47, .iload_n 1, 48, 0), (50, .putfield 30, 53, 0), (53, .aload_n 0, 54, 0), (54, .iload_n 1, 55, 0), (57, .putfield 33, 60, 0), (60, .aload_n 0, 61, 0), (61, .iload_n 1, 62, 0), (64, .putfield 36, 67, 0)]
theorem T0_init_ok : (T0_init).all (k_dck (k_cc Y0_init)) = true := by decide +kernel
theorem d0_init_1 : decode (k_cc Y0_init) 1 = .ok (.invokespecial 3, 3) := by decide +kernel
theorem d0_init_6 : decode (k_cc Y0_init) 6 = .ok (.newarray .int, 2) := by decide +kernel
theorem d0_init_13 : decode (k_cc Y0_init) 13 = .ok (.newarray .int, 2) := by decide +kernel
theorem d0_init_20 : decode (k_cc Y0_init) 20 = .ok (.newarray .int, 2) := by decide +kernel
theorem d0_init_27 : decode (k_cc Y0_init) 27 = .ok (.newarray .int, 2) := by decide +kernel
theorem d0_init_34 : decode (k_cc Y0_init) 34 = .ok (.newarray .int, 2) := by decide +kernel
theorem d0_init_41 : decode (k_cc Y0_init) 41 = .ok (.newarray .int, 2) := by decide +kernel
theorem d0_init_48 : decode (k_cc Y0_init) 48 = .ok (.newarray .int, 2) := by decide +kernel
theorem d0_init_55 : decode (k_cc Y0_init) 55 = .ok (.newarray .int, 2) := by decide +kernel
theorem d0_init_62 : decode (k_cc Y0_init) 62 = .ok (.newarray .int, 2) := by decide +kernel
theorem d0_init_67 : decode (k_cc Y0_init) 67 = .ok (.return_, 1) := by decide +kernel
def Y0_add : k_Y := (0, yX0_add, cX0_add, 8, (some .int), 0, 0, [])
def T0_add : List (Nat × Instr × Nat × Nat) := [(0, .aload_n 0, 1, 0), (1, .getfield 39, 4, 0), (4, .istore 6, 6, 0), (6, .iload 6, 8, 0), (8, .istore 7, 10, 0), (10, .iload 7, 12, 0), (12, .ifCond .le 43, 15, 55), (15, .aload_n 0, 16, 0), (16, .getfield 18, 19, 0), (19, .aload_n 0, 20, 0), (20, .getfield 36, 23, 0), (23, .iload 7, 25, 0), (25, .iconst 1, 26, 0), (26, .isub, 27, 0), (27, .iaload, 28, 0), (28, .iaload, 29, 0), (29, .iload_n 3, 30, 0), (30, .if_icmp .le 25, 33, 55), (33, .aload_n 0, 34, 0), (34, .getfield 36, 37, 0), (37, .iload 7, 39, 0), (39, .aload_n 0, 40, 0), (40, .getfield 36, 43, 0), (43, .iload 7, 45, 0), (45, .iconst 1, 46, 0), (46, .isub, 47, 0), (47, .iaload, 48, 0), (48, .iastore, 49, 0), (49, .iinc 7 (-1), 52, 0), (52, .goto (-42), 55, 10), (55, .aload_n 0, 56, 0), (56, .getfield 36, 59, 0), (59, .iload 7, 61, 0), (61, .iload 6, 63, 0), (63, .iastore, 64, 0), (64, .aload_n 0, 65, 0), (65, .dup, 66, 0), (66, .getfield 39, 69, 0), (69, .iconst 1, 70, 0), (70, .iadd, 71, 0), (71, .putfield 39, 74, 0), (74, .aload_n 0, 75, 0), (75, .getfield 9, 78, 0), (78, .iload 6, 80, 0), (80, .iload_n 1, 81, 0), (81, .iastore, 82, 0), (82, .aload_n 0, 83, 0), (83, .getfield 15, 86, 0), (86, .iload 6, 88, 0), (88, .iload_n 2, 89, 0), (89, .iastore, 90, 0), (90, .aload_n 0, 91, 0), (91, .getfield 18, 94, 0), (94, .iload 6, 96, 0), (96, .iload_n 3, 97, 0), (97, .iastore, 98, 0), (98, .aload_n 0, 99, 0), (99, .getfield 21, 102, 0), (102, .iload 6, 104, 0), (104, .iload 4, 106, 0), (106, .iastore, 107, 0), (107, .aload_n 0, 108, 0), (108, .getfield 24, 111, 0), (111, .iload 6, 113, 0), (113, .iload 5, 115, 0), (115, .iastore, 116, 0), (116, .iload 6, 118, 0)]
theorem T0_add_ok : (T0_add).all (k_dck (k_cc Y0_add)) = true := by decide +kernel
theorem d0_add_65 : decode (k_cc Y0_add) 65 = .ok (.dup, 1) := by decide +kernel
theorem d0_add_118 : decode (k_cc Y0_add) 118 = .ok (.ireturn, 1) := by decide +kernel
def Y0_hasBegin : k_Y := (0, yX0_hasBegin, cX0_hasBegin, 4, (some .boolean), 0, 0, [])
def T0_hasBegin : List (Nat × Instr × Nat × Nat) := [(0, .iconst 0, 1, 0), (1, .istore_n 3, 2, 0), (2, .iload_n 3, 3, 0), (3, .aload_n 0, 4, 0), (4, .getfield 39, 7, 0), (7, .if_icmp .ge 31, 10, 38), (10, .aload_n 0, 11, 0), (11, .getfield 9, 14, 0), (14, .iload_n 3, 15, 0), (15, .iaload, 16, 0), (16, .iload_n 1, 17, 0), (17, .if_icmp .ne 15, 20, 32), (20, .aload_n 0, 21, 0), (21, .getfield 18, 24, 0), (24, .iload_n 3, 25, 0), (25, .iaload, 26, 0), (26, .iload_n 2, 27, 0), (27, .if_icmp .ne 5, 30, 32), (30, .iconst 1, 31, 0), (32, .iinc 3 1, 35, 0), (35, .goto (-33), 38, 2), (38, .iconst 0, 39, 0)]
theorem T0_hasBegin_ok : (T0_hasBegin).all (k_dck (k_cc Y0_hasBegin)) = true := by decide +kernel
theorem d0_hasBegin_31 : decode (k_cc Y0_hasBegin) 31 = .ok (.ireturn, 1) := by decide +kernel
theorem d0_hasBegin_39 : decode (k_cc Y0_hasBegin) 39 = .ok (.ireturn, 1) := by decide +kernel
def Y0_beginsWith : k_Y := (0, yX0_beginsWith, cX0_beginsWith, 3, (some .boolean), 0, 0, [])
def T0_beginsWith : List (Nat × Instr × Nat × Nat) := [(0, .aload_n 0, 1, 0), (1, .getfield 18, 4, 0), (4, .aload_n 0, 5, 0), (5, .getfield 36, 8, 0), (8, .iload_n 1, 9, 0), (9, .iaload, 10, 0), (10, .iaload, 11, 0), (11, .aload_n 0, 12, 0), (12, .getfield 18, 15, 0), (15, .iload_n 2, 16, 0), (16, .iaload, 17, 0), (17, .if_icmp .ne 7, 20, 24), (20, .iconst 1, 21, 0), (21, .goto 4, 24, 25), (24, .iconst 0, 25, 0)]
theorem T0_beginsWith_ok : (T0_beginsWith).all (k_dck (k_cc Y0_beginsWith)) = true := by decide +kernel
theorem d0_beginsWith_25 : decode (k_cc Y0_beginsWith) 25 = .ok (.ireturn, 1) := by decide +kernel
def Y0_setOn : k_Y := (0, yX0_setOn, cX0_setOn, 5, none, 0, 0, [])
def T0_setOn : List (Nat × Instr × Nat × Nat) := [(0, .aload_n 0, 1, 0), (1, .getfield 27, 4, 0), (4, .iload_n 1, 5, 0), (5, .iload_n 2, 6, 0), (6, .iastore, 7, 0), (7, .aload_n 0, 8, 0), (8, .getfield 30, 11, 0), (11, .iload_n 1, 12, 0), (12, .iload_n 3, 13, 0), (13, .iastore, 14, 0), (14, .aload_n 0, 15, 0), (15, .getfield 33, 18, 0), (18, .iload_n 1, 19, 0), (19, .iload 4, 21, 0), (21, .iastore, 22, 0)]
theorem T0_setOn_ok : (T0_setOn).all (k_dck (k_cc Y0_setOn)) = true := by decide +kernel
theorem d0_setOn_22 : decode (k_cc Y0_setOn) 22 = .ok (.return_, 1) := by decide +kernel
def Y0_markLost : k_Y := (0, yX0_markLost, cX0_markLost, 2, none, 1, 24, [])
def T0_markLost : List (Nat × Instr × Nat × Nat) := [(0, .aload_n 0, 1, 0), (1, .iload_n 1, 2, 0), (2, .aload_n 0, 3, 0), (3, .getfield 18, 6, 0), (6, .iload_n 1, 7, 0), (7, .iaload, 8, 0), (8, .iconst 0, 9, 0), (9, .iconst 3, 10, 0)]
theorem T0_markLost_ok : (T0_markLost).all (k_dck (k_cc Y0_markLost)) = true := by decide +kernel
theorem d0_markLost_10 : decode (k_cc Y0_markLost) 10 = .ok (.invokevirtual 43, 3) := by decide +kernel
theorem d0_markLost_13 : decode (k_cc Y0_markLost) 13 = .ok (.return_, 1) := by decide +kernel
def Y0_cutAfter : k_Y := (0, yX0_cutAfter, cX0_cutAfter, 4, none, 1, 24, [])
def T0_cutAfter : List (Nat × Instr × Nat × Nat) := [(0, .iload_n 2, 1, 0), (1, .aload_n 0, 2, 0), (2, .getfield 27, 5, 0), (5, .iload_n 1, 6, 0), (6, .iaload, 7, 0), (7, .isub, 8, 0), (8, .iconst 1, 9, 0), (9, .iadd, 10, 0), (10, .istore_n 3, 11, 0), (11, .iload_n 3, 12, 0), (12, .aload_n 0, 13, 0), (13, .getfield 30, 16, 0), (16, .iload_n 1, 17, 0), (17, .iaload, 18, 0), (18, .if_icmp .ge 16, 21, 34), (21, .aload_n 0, 22, 0), (22, .iload_n 1, 23, 0), (23, .aload_n 0, 24, 0), (24, .getfield 27, 27, 0), (27, .iload_n 1, 28, 0), (28, .iaload, 29, 0), (29, .iload_n 3, 30, 0), (30, .iconst 1, 31, 0)]
theorem T0_cutAfter_ok : (T0_cutAfter).all (k_dck (k_cc Y0_cutAfter)) = true := by decide +kernel
theorem d0_cutAfter_31 : decode (k_cc Y0_cutAfter) 31 = .ok (.invokevirtual 43, 3) := by decide +kernel
theorem d0_cutAfter_34 : decode (k_cc Y0_cutAfter) 34 = .ok (.return_, 1) := by decide +kernel
def Y0_isOn : k_Y := (0, yX0_isOn, cX0_isOn, 3, (some .boolean), 0, 0, [])
def T0_isOn : List (Nat × Instr × Nat × Nat) := [(0, .iload_n 2, 1, 0), (1, .aload_n 0, 2, 0), (2, .getfield 27, 5, 0), (5, .iload_n 1, 6, 0), (6, .iaload, 7, 0), (7, .if_icmp .lt 24, 10, 31), (10, .iload_n 2, 11, 0), (11, .aload_n 0, 12, 0), (12, .getfield 27, 15, 0), (15, .iload_n 1, 16, 0), (16, .iaload, 17, 0), (17, .isub, 18, 0), (18, .aload_n 0, 19, 0), (19, .getfield 30, 22, 0), (22, .iload_n 1, 23, 0), (23, .iaload, 24, 0), (24, .if_icmp .ge 7, 27, 31), (27, .iconst 1, 28, 0), (28, .goto 4, 31, 32), (31, .iconst 0, 32, 0)]
theorem T0_isOn_ok : (T0_isOn).all (k_dck (k_cc Y0_isOn)) = true := by decide +kernel
theorem d0_isOn_32 : decode (k_cc Y0_isOn) 32 = .ok (.ireturn, 1) := by decide +kernel
def Y0_wordIn : k_Y := (0, yX0_wordIn, cX0_wordIn, 3, (some .int), 0, 0, [])
def T0_wordIn : List (Nat × Instr × Nat × Nat) := [(0, .aload_n 0, 1, 0), (1, .getfield 21, 4, 0), (4, .iload_n 1, 5, 0), (5, .iaload, 6, 0), (6, .ifCond .ne 7, 9, 13), (9, .iconst 0, 10, 0), (10, .goto 13, 13, 23), (13, .iload_n 2, 14, 0), (14, .aload_n 0, 15, 0), (15, .getfield 27, 18, 0), (18, .iload_n 1, 19, 0), (19, .iaload, 20, 0), (20, .isub, 21, 0), (21, .iconst 1, 22, 0), (22, .iadd, 23, 0)]
theorem T0_wordIn_ok : (T0_wordIn).all (k_dck (k_cc Y0_wordIn)) = true := by decide +kernel
theorem d0_wordIn_23 : decode (k_cc Y0_wordIn) 23 = .ok (.ireturn, 1) := by decide +kernel
def Y0_slotsOnWithin : k_Y := (0, yX0_slotsOnWithin, cX0_slotsOnWithin, 6, (some .int), 1, 21, [])
def T0_slotsOnWithin : List (Nat × Instr × Nat × Nat) := [(0, .iload_n 2, 1, 0), (1, .aload_n 0, 2, 0), (2, .getfield 27, 5, 0), (5, .iload_n 1, 6, 0), (6, .iaload, 7, 0), (10, .istore 4, 12, 0), (12, .iload_n 3, 13, 0), (13, .aload_n 0, 14, 0), (14, .getfield 27, 17, 0), (17, .iload_n 1, 18, 0), (18, .iaload, 19, 0), (19, .aload_n 0, 20, 0), (20, .getfield 30, 23, 0), (23, .iload_n 1, 24, 0), (24, .iaload, 25, 0), (25, .iadd, 26, 0), (29, .istore 5, 31, 0), (31, .iconst 0, 32, 0), (32, .iload 5, 34, 0), (34, .iload 4, 36, 0), (36, .isub, 37, 0)]
theorem T0_slotsOnWithin_ok : (T0_slotsOnWithin).all (k_dck (k_cc Y0_slotsOnWithin)) = true := by decide +kernel
theorem d0_slotsOnWithin_7 : decode (k_cc Y0_slotsOnWithin) 7 = .ok (.invokestatic 47, 3) := by decide +kernel
theorem d0_slotsOnWithin_26 : decode (k_cc Y0_slotsOnWithin) 26 = .ok (.invokestatic 53, 3) := by decide +kernel
theorem d0_slotsOnWithin_37 : decode (k_cc Y0_slotsOnWithin) 37 = .ok (.invokestatic 47, 3) := by decide +kernel
theorem d0_slotsOnWithin_40 : decode (k_cc Y0_slotsOnWithin) 40 = .ok (.ireturn, 1) := by decide +kernel
def Y1_init : k_Y := (1, yX1_init, cX1_init, 2, none, 1, 20, [])
def T1_init : List (Nat × Instr × Nat × Nat) := [(0, .aload_n 0, 1, 0), (4, .aload_n 0, 5, 0), (5, .iload_n 1, 6, 0), (6, .putfield 7, 9, 0), (9, .aload_n 0, 10, 0), (10, .iload_n 1, 11, 0), (13, .putfield 13, 16, 0), (16, .aload_n 0, 17, 0), (17, .iload_n 1, 18, 0), (20, .putfield 17, 23, 0), (23, .aload_n 0, 24, 0), (24, .iload_n 1, 25, 0), (27, .putfield 20, 30, 0), (30, .aload_n 0, 31, 0), (31, .iload_n 1, 32, 0), (34, .putfield 23, 37, 0)]
theorem T1_init_ok : (T1_init).all (k_dck (k_cc Y1_init)) = true := by decide +kernel
theorem d1_init_1 : decode (k_cc Y1_init) 1 = .ok (.invokespecial 1, 3) := by decide +kernel
theorem d1_init_11 : decode (k_cc Y1_init) 11 = .ok (.newarray .int, 2) := by decide +kernel
theorem d1_init_18 : decode (k_cc Y1_init) 18 = .ok (.newarray .int, 2) := by decide +kernel
theorem d1_init_25 : decode (k_cc Y1_init) 25 = .ok (.newarray .int, 2) := by decide +kernel
theorem d1_init_32 : decode (k_cc Y1_init) 32 = .ok (.newarray .int, 2) := by decide +kernel
theorem d1_init_37 : decode (k_cc Y1_init) 37 = .ok (.return_, 1) := by decide +kernel
def Y1_isFull : k_Y := (1, yX1_isFull, cX1_isFull, 1, (some .boolean), 0, 0, [])
def T1_isFull : List (Nat × Instr × Nat × Nat) := [(0, .aload_n 0, 1, 0), (1, .getfield 26, 4, 0), (4, .aload_n 0, 5, 0), (5, .getfield 7, 8, 0), (8, .if_icmp .lt 7, 11, 15), (11, .iconst 1, 12, 0), (12, .goto 4, 15, 16), (15, .iconst 0, 16, 0)]
theorem T1_isFull_ok : (T1_isFull).all (k_dck (k_cc Y1_isFull)) = true := by decide +kernel
theorem d1_isFull_16 : decode (k_cc Y1_isFull) 16 = .ok (.ireturn, 1) := by decide +kernel
def Y1_add : k_Y := (1, yX1_add, cX1_add, 6, (some .int), 1, 24, [])
def T1_add : List (Nat × Instr × Nat × Nat) := [(0, .aload_n 0, 1, 0), (1, .getfield 26, 4, 0), (4, .istore 5, 6, 0), (6, .aload_n 0, 7, 0), (7, .dup, 8, 0), (8, .getfield 26, 11, 0), (11, .iconst 1, 12, 0), (12, .iadd, 13, 0), (13, .putfield 26, 16, 0), (16, .aload_n 0, 17, 0), (17, .getfield 20, 20, 0), (20, .iload 5, 22, 0), (22, .iload_n 3, 23, 0), (23, .iastore, 24, 0), (24, .aload_n 0, 25, 0), (25, .iload 5, 27, 0), (27, .iload_n 1, 28, 0), (28, .iload_n 2, 29, 0), (29, .iload 4, 31, 0), (34, .iload 5, 36, 0)]
theorem T1_add_ok : (T1_add).all (k_dck (k_cc Y1_add)) = true := by decide +kernel
theorem d1_add_7 : decode (k_cc Y1_add) 7 = .ok (.dup, 1) := by decide +kernel
theorem d1_add_31 : decode (k_cc Y1_add) 31 = .ok (.invokevirtual 29, 3) := by decide +kernel
theorem d1_add_36 : decode (k_cc Y1_add) 36 = .ok (.ireturn, 1) := by decide +kernel
def Y1_move : k_Y := (1, yX1_move, cX1_move, 5, none, 0, 0, [])
def T1_move : List (Nat × Instr × Nat × Nat) := [(0, .aload_n 0, 1, 0), (1, .getfield 13, 4, 0), (4, .iload_n 1, 5, 0), (5, .iload_n 2, 6, 0), (6, .iastore, 7, 0), (7, .aload_n 0, 8, 0), (8, .getfield 17, 11, 0), (11, .iload_n 1, 12, 0), (12, .iload_n 3, 13, 0), (13, .iastore, 14, 0), (14, .aload_n 0, 15, 0), (15, .getfield 23, 18, 0), (18, .iload_n 1, 19, 0), (19, .iload 4, 21, 0), (21, .iastore, 22, 0)]
theorem T1_move_ok : (T1_move).all (k_dck (k_cc Y1_move)) = true := by decide +kernel
theorem d1_move_22 : decode (k_cc Y1_move) 22 = .ok (.return_, 1) := by decide +kernel
def Y1_reaches : k_Y := (1, yX1_reaches, cX1_reaches, 6, (some .boolean), 0, 0, [])
def T1_reaches : List (Nat × Instr × Nat × Nat) := [(0, .aload_n 0, 1, 0), (1, .getfield 13, 4, 0), (4, .iload_n 1, 5, 0), (5, .iaload, 6, 0), (6, .aload_n 2, 7, 0), (7, .getfield 13, 10, 0), (10, .iload_n 3, 11, 0), (11, .iaload, 12, 0), (12, .isub, 13, 0), (13, .istore 4, 15, 0), (15, .aload_n 0, 16, 0), (16, .getfield 17, 19, 0), (19, .iload_n 1, 20, 0), (20, .iaload, 21, 0), (21, .aload_n 2, 22, 0), (22, .getfield 17, 25, 0), (25, .iload_n 3, 26, 0), (26, .iaload, 27, 0), (27, .isub, 28, 0), (28, .istore 5, 30, 0), (30, .iload 4, 32, 0), (32, .iload 4, 34, 0), (34, .imul, 35, 0), (35, .iload 5, 37, 0), (37, .iload 5, 39, 0), (39, .imul, 40, 0), (40, .iadd, 41, 0), (41, .aload_n 0, 42, 0), (42, .getfield 20, 45, 0), (45, .iload_n 1, 46, 0), (46, .iaload, 47, 0), (47, .aload_n 0, 48, 0), (48, .getfield 20, 51, 0), (51, .iload_n 1, 52, 0), (52, .iaload, 53, 0), (53, .imul, 54, 0), (54, .if_icmp .gt 7, 57, 61), (57, .iconst 1, 58, 0), (58, .goto 4, 61, 62), (61, .iconst 0, 62, 0)]
theorem T1_reaches_ok : (T1_reaches).all (k_dck (k_cc Y1_reaches)) = true := by decide +kernel
theorem d1_reaches_62 : decode (k_cc Y1_reaches) 62 = .ok (.ireturn, 1) := by decide +kernel
def Y2_init : k_Y := (2, yX2_init, cX2_init, 1, none, 2, 41, [])
def T2_init : List (Nat × Instr × Nat × Nat) := [(0, .aload_n 0, 1, 0), (4, .aload_n 0, 5, 0), (8, .dup, 9, 0), (9, .bipush 20, 11, 0), (14, .putfield 14, 17, 0), (17, .aload_n 0, 18, 0), (21, .dup, 22, 0), (22, .bipush 8, 24, 0), (27, .putfield 18, 30, 0), (30, .aload_n 0, 31, 0), (34, .dup, 35, 0), (35, .bipush 60, 37, 0), (40, .putfield 24, 43, 0), (43, .aload_n 0, 44, 0), (44, .sipush 1000, 47, 0), (49, .putfield 28, 52, 0), (52, .aload_n 0, 53, 0), (53, .bipush 6, 55, 0), (57, .putfield 32, 60, 0), (60, .aload_n 0, 61, 0), (61, .bipush 6, 63, 0), (65, .putfield 36, 68, 0), (68, .aload_n 0, 69, 0)]
theorem T2_init_ok : (T2_init).all (k_dck (k_cc Y2_init)) = true := by decide +kernel
theorem d2_init_1 : decode (k_cc Y2_init) 1 = .ok (.invokespecial 1, 3) := by decide +kernel
theorem d2_init_5 : decode (k_cc Y2_init) 5 = .ok (.new 7, 3) := by decide +kernel
theorem d2_init_8 : decode (k_cc Y2_init) 8 = .ok (.dup, 1) := by decide +kernel
theorem d2_init_11 : decode (k_cc Y2_init) 11 = .ok (.invokespecial 11, 3) := by decide +kernel
theorem d2_init_18 : decode (k_cc Y2_init) 18 = .ok (.new 7, 3) := by decide +kernel
theorem d2_init_21 : decode (k_cc Y2_init) 21 = .ok (.dup, 1) := by decide +kernel
theorem d2_init_24 : decode (k_cc Y2_init) 24 = .ok (.invokespecial 11, 3) := by decide +kernel
theorem d2_init_31 : decode (k_cc Y2_init) 31 = .ok (.new 21, 3) := by decide +kernel
theorem d2_init_34 : decode (k_cc Y2_init) 34 = .ok (.dup, 1) := by decide +kernel
theorem d2_init_37 : decode (k_cc Y2_init) 37 = .ok (.invokespecial 23, 3) := by decide +kernel
theorem d2_init_47 : decode (k_cc Y2_init) 47 = .ok (.newarray .boolean, 2) := by decide +kernel
theorem d2_init_55 : decode (k_cc Y2_init) 55 = .ok (.newarray .int, 2) := by decide +kernel
theorem d2_init_63 : decode (k_cc Y2_init) 63 = .ok (.newarray .int, 2) := by decide +kernel
theorem d2_init_69 : decode (k_cc Y2_init) 69 = .ok (.invokevirtual 39, 3) := by decide +kernel
theorem d2_init_72 : decode (k_cc Y2_init) 72 = .ok (.return_, 1) := by decide +kernel
def Y2_day : k_Y := (2, yX2_day, cX2_day, 2, none, 7, 103, [])
def T2_day : List (Nat × Instr × Nat × Nat) := [(0, .iload_n 1, 1, 0), (1, .sipush 1000, 4, 0), (4, .if_icmp .le 13, 7, 17), (10, .dup, 11, 0), (17, .iload_n 1, 18, 0), (18, .ifCond .ge 13, 21, 31), (24, .dup, 25, 0), (31, .aload_n 0, 32, 0), (35, .aload_n 0, 36, 0), (36, .iload_n 1, 37, 0), (37, .putfield 54, 40, 0)]
theorem T2_day_ok : (T2_day).all (k_dck (k_cc Y2_day)) = true := by decide +kernel
theorem d2_day_7 : decode (k_cc Y2_day) 7 = .ok (.new 42, 3) := by decide +kernel
theorem d2_day_10 : decode (k_cc Y2_day) 10 = .ok (.dup, 1) := by decide +kernel
theorem d2_day_11 : decode (k_cc Y2_day) 11 = .ok (.ldc 44, 2) := by decide +kernel
theorem d2_day_13 : decode (k_cc Y2_day) 13 = .ok (.invokespecial 46, 3) := by decide +kernel
theorem d2_day_16 : decode (k_cc Y2_day) 16 = .ok (.athrow, 1) := by decide +kernel
theorem d2_day_21 : decode (k_cc Y2_day) 21 = .ok (.new 49, 3) := by decide +kernel
theorem d2_day_24 : decode (k_cc Y2_day) 24 = .ok (.dup, 1) := by decide +kernel
theorem d2_day_25 : decode (k_cc Y2_day) 25 = .ok (.ldc 51, 2) := by decide +kernel
theorem d2_day_27 : decode (k_cc Y2_day) 27 = .ok (.invokespecial 53, 3) := by decide +kernel
theorem d2_day_30 : decode (k_cc Y2_day) 30 = .ok (.athrow, 1) := by decide +kernel
theorem d2_day_32 : decode (k_cc Y2_day) 32 = .ok (.invokevirtual 39, 3) := by decide +kernel
theorem d2_day_40 : decode (k_cc Y2_day) 40 = .ok (.return_, 1) := by decide +kernel
def Y2_unit : k_Y := (2, yX2_unit, cX2_unit, 5, (some .int), 9, 151, [])
def T2_unit : List (Nat × Instr × Nat × Nat) := [(0, .aload_n 0, 1, 0), (1, .aload_n 0, 2, 0), (2, .getfield 14, 5, 0), (5, .iload_n 1, 6, 0), (6, .iload_n 2, 7, 0), (7, .iload_n 3, 8, 0), (8, .iload 4, 10, 0)]
theorem T2_unit_ok : (T2_unit).all (k_dck (k_cc Y2_unit)) = true := by decide +kernel
theorem d2_unit_10 : decode (k_cc Y2_unit) 10 = .ok (.invokevirtual 58, 3) := by decide +kernel
theorem d2_unit_13 : decode (k_cc Y2_unit) 13 = .ok (.ireturn, 1) := by decide +kernel
def Y2_go : k_Y := (2, yX2_go, cX2_go, 5, none, 8, 126, [])
def T2_go : List (Nat × Instr × Nat × Nat) := [(0, .aload_n 0, 1, 0), (1, .iload_n 1, 2, 0), (5, .aload_n 0, 6, 0), (6, .iload_n 2, 7, 0), (7, .iload_n 3, 8, 0), (8, .iload 4, 10, 0), (13, .aload_n 0, 14, 0), (14, .getfield 14, 17, 0), (17, .iload_n 1, 18, 0), (18, .iload_n 2, 19, 0), (19, .iload_n 3, 20, 0), (20, .iload 4, 22, 0)]
theorem T2_go_ok : (T2_go).all (k_dck (k_cc Y2_go)) = true := by decide +kernel
theorem d2_go_2 : decode (k_cc Y2_go) 2 = .ok (.invokevirtual 62, 3) := by decide +kernel
theorem d2_go_10 : decode (k_cc Y2_go) 10 = .ok (.invokevirtual 65, 3) := by decide +kernel
theorem d2_go_22 : decode (k_cc Y2_go) 22 = .ok (.invokevirtual 69, 3) := by decide +kernel
theorem d2_go_25 : decode (k_cc Y2_go) 25 = .ok (.return_, 1) := by decide +kernel
def Y2_repeater : k_Y := (2, yX2_repeater, cX2_repeater, 5, (some .int), 9, 151, [])
def T2_repeater : List (Nat × Instr × Nat × Nat) := [(0, .aload_n 0, 1, 0), (1, .aload_n 0, 2, 0), (2, .getfield 18, 5, 0), (5, .iload_n 1, 6, 0), (6, .iload_n 2, 7, 0), (7, .iload_n 3, 8, 0), (8, .iload 4, 10, 0)]
theorem T2_repeater_ok : (T2_repeater).all (k_dck (k_cc Y2_repeater)) = true := by decide +kernel
theorem d2_repeater_10 : decode (k_cc Y2_repeater) 10 = .ok (.invokevirtual 58, 3) := by decide +kernel
theorem d2_repeater_13 : decode (k_cc Y2_repeater) 13 = .ok (.ireturn, 1) := by decide +kernel
def Y2_patch : k_Y := (2, yX2_patch, cX2_patch, 3, (some .boolean), 7, 113, [])
def T2_patch : List (Nat × Instr × Nat × Nat) := [(0, .aload_n 0, 1, 0), (1, .iload_n 1, 2, 0), (5, .ifCond .eq 11, 8, 16), (8, .aload_n 0, 9, 0), (9, .iload_n 2, 10, 0), (13, .ifCond .ne 13, 16, 26), (19, .dup, 20, 0), (26, .aload_n 0, 27, 0), (27, .iload_n 1, 28, 0), (28, .iload_n 2, 29, 0), (32, .ifCond .eq 5, 35, 37), (35, .iconst 0, 36, 0), (37, .aload_n 0, 38, 0), (38, .aload_n 0, 39, 0), (39, .getfield 32, 42, 0), (42, .iload_n 1, 43, 0), (43, .iaload, 44, 0), (44, .aload_n 0, 45, 0), (45, .getfield 32, 48, 0), (48, .iload_n 2, 49, 0), (49, .iaload, 50, 0), (53, .aload_n 0, 54, 0), (57, .iconst 1, 58, 0)]
theorem T2_patch_ok : (T2_patch).all (k_dck (k_cc Y2_patch)) = true := by decide +kernel
theorem d2_patch_2 : decode (k_cc Y2_patch) 2 = .ok (.invokevirtual 73, 3) := by decide +kernel
theorem d2_patch_10 : decode (k_cc Y2_patch) 10 = .ok (.invokevirtual 73, 3) := by decide +kernel
theorem d2_patch_16 : decode (k_cc Y2_patch) 16 = .ok (.new 77, 3) := by decide +kernel
theorem d2_patch_19 : decode (k_cc Y2_patch) 19 = .ok (.dup, 1) := by decide +kernel
theorem d2_patch_20 : decode (k_cc Y2_patch) 20 = .ok (.ldc 79, 2) := by decide +kernel
theorem d2_patch_22 : decode (k_cc Y2_patch) 22 = .ok (.invokespecial 81, 3) := by decide +kernel
theorem d2_patch_25 : decode (k_cc Y2_patch) 25 = .ok (.athrow, 1) := by decide +kernel
theorem d2_patch_29 : decode (k_cc Y2_patch) 29 = .ok (.invokevirtual 82, 3) := by decide +kernel
theorem d2_patch_36 : decode (k_cc Y2_patch) 36 = .ok (.ireturn, 1) := by decide +kernel
theorem d2_patch_50 : decode (k_cc Y2_patch) 50 = .ok (.invokevirtual 86, 3) := by decide +kernel
theorem d2_patch_54 : decode (k_cc Y2_patch) 54 = .ok (.invokevirtual 90, 3) := by decide +kernel
theorem d2_patch_58 : decode (k_cc Y2_patch) 58 = .ok (.ireturn, 1) := by decide +kernel
def Y2_limit : k_Y := (2, yX2_limit, cX2_limit, 2, none, 7, 113, [])
def T2_limit : List (Nat × Instr × Nat × Nat) := [(0, .iload_n 1, 1, 0), (1, .ifCond .lt 10, 4, 11), (4, .iload_n 1, 5, 0), (5, .sipush 1000, 8, 0), (8, .if_icmp .le 13, 11, 21), (14, .dup, 15, 0), (21, .aload_n 0, 22, 0), (22, .iload_n 1, 23, 0), (23, .putfield 95, 26, 0), (26, .aload_n 0, 27, 0)]
theorem T2_limit_ok : (T2_limit).all (k_dck (k_cc Y2_limit)) = true := by decide +kernel
theorem d2_limit_11 : decode (k_cc Y2_limit) 11 = .ok (.new 77, 3) := by decide +kernel
theorem d2_limit_14 : decode (k_cc Y2_limit) 14 = .ok (.dup, 1) := by decide +kernel
theorem d2_limit_15 : decode (k_cc Y2_limit) 15 = .ok (.ldc 93, 2) := by decide +kernel
theorem d2_limit_17 : decode (k_cc Y2_limit) 17 = .ok (.invokespecial 81, 3) := by decide +kernel
theorem d2_limit_20 : decode (k_cc Y2_limit) 20 = .ok (.athrow, 1) := by decide +kernel
theorem d2_limit_27 : decode (k_cc Y2_limit) 27 = .ok (.invokevirtual 90, 3) := by decide +kernel
theorem d2_limit_30 : decode (k_cc Y2_limit) 30 = .ok (.return_, 1) := by decide +kernel
def Y2_speak : k_Y := (2, yX2_speak, cX2_speak, 5, (some .int), 8, 138, [])
def T2_speak : List (Nat × Instr × Nat × Nat) := [(0, .aload_n 0, 1, 0), (1, .iload_n 1, 2, 0), (5, .aload_n 0, 6, 0), (6, .iload_n 2, 7, 0), (7, .iload 4, 9, 0), (12, .iload_n 3, 13, 0), (13, .ifCond .lt 9, 16, 22), (16, .iload_n 3, 17, 0), (17, .bipush 99, 19, 0), (19, .if_icmp .le 13, 22, 32), (25, .dup, 26, 0), (32, .aload_n 0, 33, 0), (33, .iload_n 1, 34, 0), (34, .iload_n 2, 35, 0), (38, .aload_n 0, 39, 0), (42, .aload_n 0, 43, 0), (43, .iload_n 1, 44, 0), (44, .iload_n 2, 45, 0), (45, .iload_n 3, 46, 0), (46, .iload 4, 48, 0)]
theorem T2_speak_ok : (T2_speak).all (k_dck (k_cc Y2_speak)) = true := by decide +kernel
theorem d2_speak_2 : decode (k_cc Y2_speak) 2 = .ok (.invokevirtual 62, 3) := by decide +kernel
theorem d2_speak_9 : decode (k_cc Y2_speak) 9 = .ok (.invokevirtual 98, 3) := by decide +kernel
theorem d2_speak_22 : decode (k_cc Y2_speak) 22 = .ok (.new 77, 3) := by decide +kernel
theorem d2_speak_25 : decode (k_cc Y2_speak) 25 = .ok (.dup, 1) := by decide +kernel
theorem d2_speak_26 : decode (k_cc Y2_speak) 26 = .ok (.ldc 101, 2) := by decide +kernel
theorem d2_speak_28 : decode (k_cc Y2_speak) 28 = .ok (.invokespecial 81, 3) := by decide +kernel
theorem d2_speak_31 : decode (k_cc Y2_speak) 31 = .ok (.athrow, 1) := by decide +kernel
theorem d2_speak_35 : decode (k_cc Y2_speak) 35 = .ok (.invokevirtual 103, 3) := by decide +kernel
theorem d2_speak_39 : decode (k_cc Y2_speak) 39 = .ok (.invokevirtual 106, 3) := by decide +kernel
theorem d2_speak_48 : decode (k_cc Y2_speak) 48 = .ok (.invokevirtual 109, 3) := by decide +kernel
theorem d2_speak_51 : decode (k_cc Y2_speak) 51 = .ok (.ireturn, 1) := by decide +kernel
def Y2_relay : k_Y := (2, yX2_relay, cX2_relay, 5, (some .int), 8, 138, [])
def T2_relay : List (Nat × Instr × Nat × Nat) := [(0, .aload_n 0, 1, 0), (1, .iload_n 1, 2, 0), (5, .aload_n 0, 6, 0), (6, .iload_n 2, 7, 0), (10, .aload_n 0, 11, 0), (11, .iload_n 3, 12, 0), (12, .iload 4, 14, 0), (17, .aload_n 0, 18, 0), (18, .iload_n 1, 19, 0), (19, .iload_n 3, 20, 0), (23, .aload_n 0, 24, 0), (24, .getfield 24, 27, 0), (27, .getfield 116, 30, 0), (30, .iload_n 2, 31, 0), (31, .iaload, 32, 0), (32, .ifCond .ne 12, 35, 44), (35, .aload_n 0, 36, 0), (36, .iload_n 1, 37, 0), (37, .iload_n 2, 38, 0), (41, .ifCond .ne 13, 44, 54), (47, .dup, 48, 0), (54, .aload_n 0, 55, 0), (58, .aload_n 0, 59, 0), (59, .iload_n 1, 60, 0), (60, .iload_n 3, 61, 0), (61, .aload_n 0, 62, 0), (62, .getfield 24, 65, 0), (65, .getfield 127, 68, 0), (68, .iload_n 2, 69, 0), (69, .iaload, 70, 0), (70, .iload 4, 72, 0)]
theorem T2_relay_ok : (T2_relay).all (k_dck (k_cc Y2_relay)) = true := by decide +kernel
theorem d2_relay_2 : decode (k_cc Y2_relay) 2 = .ok (.invokevirtual 62, 3) := by decide +kernel
theorem d2_relay_7 : decode (k_cc Y2_relay) 7 = .ok (.invokevirtual 113, 3) := by decide +kernel
theorem d2_relay_14 : decode (k_cc Y2_relay) 14 = .ok (.invokevirtual 98, 3) := by decide +kernel
theorem d2_relay_20 : decode (k_cc Y2_relay) 20 = .ok (.invokevirtual 103, 3) := by decide +kernel
theorem d2_relay_38 : decode (k_cc Y2_relay) 38 = .ok (.invokevirtual 119, 3) := by decide +kernel
theorem d2_relay_44 : decode (k_cc Y2_relay) 44 = .ok (.new 122, 3) := by decide +kernel
theorem d2_relay_47 : decode (k_cc Y2_relay) 47 = .ok (.dup, 1) := by decide +kernel
theorem d2_relay_48 : decode (k_cc Y2_relay) 48 = .ok (.ldc 124, 2) := by decide +kernel
theorem d2_relay_50 : decode (k_cc Y2_relay) 50 = .ok (.invokespecial 126, 3) := by decide +kernel
theorem d2_relay_53 : decode (k_cc Y2_relay) 53 = .ok (.athrow, 1) := by decide +kernel
theorem d2_relay_55 : decode (k_cc Y2_relay) 55 = .ok (.invokevirtual 106, 3) := by decide +kernel
theorem d2_relay_72 : decode (k_cc Y2_relay) 72 = .ok (.invokevirtual 109, 3) := by decide +kernel
theorem d2_relay_75 : decode (k_cc Y2_relay) 75 = .ok (.ireturn, 1) := by decide +kernel
def Y2_lose : k_Y := (2, yX2_lose, cX2_lose, 2, (some .boolean), 8, 124, [])
def T2_lose : List (Nat × Instr × Nat × Nat) := [(0, .aload_n 0, 1, 0), (1, .iload_n 1, 2, 0), (5, .aload_n 0, 6, 0), (6, .getfield 28, 9, 0), (9, .iload_n 1, 10, 0), (10, .aload_n 0, 11, 0), (11, .getfield 28, 14, 0), (14, .iload_n 1, 15, 0), (15, .baload, 16, 0), (16, .ifCond .ne 7, 19, 23), (19, .iconst 1, 20, 0), (20, .goto 4, 23, 24), (23, .iconst 0, 24, 0), (24, .bastore, 25, 0), (25, .aload_n 0, 26, 0), (26, .getfield 28, 29, 0), (29, .iload_n 1, 30, 0), (30, .baload, 31, 0)]
theorem T2_lose_ok : (T2_lose).all (k_dck (k_cc Y2_lose)) = true := by decide +kernel
theorem d2_lose_2 : decode (k_cc Y2_lose) 2 = .ok (.invokevirtual 130, 3) := by decide +kernel
theorem d2_lose_31 : decode (k_cc Y2_lose) 31 = .ok (.ireturn, 1) := by decide +kernel
def Y2_hears : k_Y := (2, yX2_hears, cX2_hears, 4, (some .int), 8, 124, [])
def T2_hears : List (Nat × Instr × Nat × Nat) := [(0, .aload_n 0, 1, 0), (1, .iload_n 1, 2, 0), (5, .aload_n 0, 6, 0), (6, .iload_n 2, 7, 0), (10, .aload_n 0, 11, 0), (11, .aload_n 0, 12, 0), (12, .getfield 14, 15, 0), (15, .getfield 133, 18, 0), (18, .iload_n 1, 19, 0), (19, .iaload, 20, 0), (20, .iload_n 2, 21, 0), (24, .istore_n 3, 25, 0), (25, .iload_n 3, 26, 0), (26, .iconst (-1), 27, 0), (27, .if_icmp .eq 21, 30, 48), (30, .aload_n 0, 31, 0), (31, .getfield 28, 34, 0), (34, .iload_n 2, 35, 0), (35, .baload, 36, 0), (36, .ifCond .ne 12, 39, 48), (39, .aload_n 0, 40, 0), (40, .iload_n 1, 41, 0), (41, .iload_n 3, 42, 0), (45, .ifCond .ne 5, 48, 50), (48, .iconst 0, 49, 0), (50, .bipush 100, 52, 0), (52, .iload_n 3, 53, 0), (53, .iconst 1, 54, 0), (54, .iadd, 55, 0), (55, .imul, 56, 0), (56, .aload_n 0, 57, 0), (57, .getfield 24, 60, 0), (60, .iload_n 3, 61, 0), (61, .iload_n 2, 62, 0), (65, .iadd, 66, 0)]
theorem T2_hears_ok : (T2_hears).all (k_dck (k_cc Y2_hears)) = true := by decide +kernel
theorem d2_hears_2 : decode (k_cc Y2_hears) 2 = .ok (.invokevirtual 62, 3) := by decide +kernel
theorem d2_hears_7 : decode (k_cc Y2_hears) 7 = .ok (.invokevirtual 130, 3) := by decide +kernel
theorem d2_hears_21 : decode (k_cc Y2_hears) 21 = .ok (.invokevirtual 136, 3) := by decide +kernel
theorem d2_hears_42 : decode (k_cc Y2_hears) 42 = .ok (.invokevirtual 140, 3) := by decide +kernel
theorem d2_hears_49 : decode (k_cc Y2_hears) 49 = .ok (.ireturn, 1) := by decide +kernel
theorem d2_hears_62 : decode (k_cc Y2_hears) 62 = .ok (.invokevirtual 143, 3) := by decide +kernel
theorem d2_hears_66 : decode (k_cc Y2_hears) 66 = .ok (.ireturn, 1) := by decide +kernel
