def Y2_on : k_Y := (2, yX2_on, cX2_on, 3, (some .int), 8, 124, [])
def T2_on : List (Nat × Instr × Nat × Nat) := [(0, .aload_n 0, 1, 0), (1, .iload_n 1, 2, 0), (5, .aload_n 0, 6, 0), (6, .iload_n 2, 7, 0), (10, .aload_n 0, 11, 0), (11, .iload_n 1, 12, 0), (12, .iload_n 2, 13, 0)]
theorem T2_on_ok : (T2_on).all (k_dck (k_cc Y2_on)) = true := by decide +kernel
theorem d2_on_2 : decode (k_cc Y2_on) 2 = .ok (.invokevirtual 146, 3) := by decide +kernel
theorem d2_on_7 : decode (k_cc Y2_on) 7 = .ok (.invokevirtual 130, 3) := by decide +kernel
theorem d2_on_13 : decode (k_cc Y2_on) 13 = .ok (.invokevirtual 136, 3) := by decide +kernel
theorem d2_on_16 : decode (k_cc Y2_on) 16 = .ok (.ireturn, 1) := by decide +kernel
def Y2_ended : k_Y := (2, yX2_ended, cX2_ended, 2, (some .int), 8, 124, [])
def T2_ended : List (Nat × Instr × Nat × Nat) := [(0, .aload_n 0, 1, 0), (1, .iload_n 1, 2, 0), (5, .aload_n 0, 6, 0), (6, .getfield 24, 9, 0), (9, .getfield 116, 12, 0), (12, .iload_n 1, 13, 0), (13, .iaload, 14, 0)]
theorem T2_ended_ok : (T2_ended).all (k_dck (k_cc Y2_ended)) = true := by decide +kernel
theorem d2_ended_2 : decode (k_cc Y2_ended) 2 = .ok (.invokevirtual 113, 3) := by decide +kernel
theorem d2_ended_14 : decode (k_cc Y2_ended) 14 = .ok (.ireturn, 1) := by decide +kernel
def Y2_length : k_Y := (2, yX2_length, cX2_length, 2, (some .int), 8, 124, [])
def T2_length : List (Nat × Instr × Nat × Nat) := [(0, .aload_n 0, 1, 0), (1, .iload_n 1, 2, 0), (5, .aload_n 0, 6, 0), (6, .getfield 24, 9, 0), (9, .getfield 149, 12, 0), (12, .iload_n 1, 13, 0), (13, .iaload, 14, 0)]
theorem T2_length_ok : (T2_length).all (k_dck (k_cc Y2_length)) = true := by decide +kernel
theorem d2_length_2 : decode (k_cc Y2_length) 2 = .ok (.invokevirtual 113, 3) := by decide +kernel
theorem d2_length_14 : decode (k_cc Y2_length) 14 = .ok (.ireturn, 1) := by decide +kernel
def Y2_unheard : k_Y := (2, yX2_unheard, cX2_unheard, 5, (some .int), 8, 124, [])
def T2_unheard : List (Nat × Instr × Nat × Nat) := [(0, .aload_n 0, 1, 0), (1, .iload_n 1, 2, 0), (5, .iload_n 2, 6, 0), (6, .ifCond .ge 13, 9, 19), (12, .dup, 13, 0), (19, .iconst 0, 20, 0), (20, .istore_n 3, 21, 0), (21, .iconst 0, 22, 0), (22, .istore 4, 24, 0), (24, .iload 4, 26, 0), (26, .aload_n 0, 27, 0), (27, .getfield 14, 30, 0), (30, .getfield 154, 33, 0), (33, .if_icmp .ge 30, 36, 63), (36, .aload_n 0, 37, 0), (37, .iload 4, 39, 0), (39, .iload_n 1, 40, 0), (43, .ifCond .eq 14, 46, 57), (46, .iload_n 3, 47, 0), (47, .iload_n 2, 48, 0), (48, .if_icmp .ne 6, 51, 54), (51, .iload 4, 53, 0), (54, .iinc 3 1, 57, 0), (57, .iinc 4 1, 60, 0), (60, .goto (-36), 63, 24), (63, .iconst (-1), 64, 0)]
theorem T2_unheard_ok : (T2_unheard).all (k_dck (k_cc Y2_unheard)) = true := by decide +kernel
theorem d2_unheard_2 : decode (k_cc Y2_unheard) 2 = .ok (.invokevirtual 113, 3) := by decide +kernel
theorem d2_unheard_9 : decode (k_cc Y2_unheard) 9 = .ok (.new 77, 3) := by decide +kernel
theorem d2_unheard_12 : decode (k_cc Y2_unheard) 12 = .ok (.dup, 1) := by decide +kernel
theorem d2_unheard_13 : decode (k_cc Y2_unheard) 13 = .ok (.ldc 152, 2) := by decide +kernel
theorem d2_unheard_15 : decode (k_cc Y2_unheard) 15 = .ok (.invokespecial 81, 3) := by decide +kernel
theorem d2_unheard_18 : decode (k_cc Y2_unheard) 18 = .ok (.athrow, 1) := by decide +kernel
theorem d2_unheard_40 : decode (k_cc Y2_unheard) 40 = .ok (.invokevirtual 157, 3) := by decide +kernel
theorem d2_unheard_53 : decode (k_cc Y2_unheard) 53 = .ok (.ireturn, 1) := by decide +kernel
theorem d2_unheard_64 : decode (k_cc Y2_unheard) 64 = .ok (.ireturn, 1) := by decide +kernel
def Y2_used : k_Y := (2, yX2_used, cX2_used, 6, (some .int), 8, 124, [])
def T2_used : List (Nat × Instr × Nat × Nat) := [(0, .aload_n 0, 1, 0), (1, .iload_n 1, 2, 0), (5, .iload_n 2, 6, 0), (6, .ifCond .lt 16, 9, 22), (9, .iload_n 3, 10, 0), (10, .aload_n 0, 11, 0), (11, .getfield 54, 14, 0), (14, .if_icmp .gt 8, 17, 22), (17, .iload_n 3, 18, 0), (18, .iload_n 2, 19, 0), (19, .if_icmp .ge 13, 22, 32), (25, .dup, 26, 0), (32, .iconst 0, 33, 0), (33, .istore 4, 35, 0), (35, .iconst 0, 36, 0), (36, .istore 5, 38, 0), (38, .iload 5, 40, 0), (40, .aload_n 0, 41, 0), (41, .getfield 24, 44, 0), (44, .getfield 162, 47, 0), (47, .if_icmp .ge 43, 50, 90), (50, .aload_n 0, 51, 0), (51, .iload_n 1, 52, 0), (52, .aload_n 0, 53, 0), (53, .getfield 24, 56, 0), (56, .getfield 163, 59, 0), (59, .iload 5, 61, 0), (61, .iaload, 62, 0), (65, .ifCond .eq 19, 68, 84), (68, .iload 4, 70, 0), (70, .aload_n 0, 71, 0), (71, .getfield 24, 74, 0), (74, .iload 5, 76, 0), (76, .iload_n 2, 77, 0), (77, .iload_n 3, 78, 0), (81, .iadd, 82, 0), (82, .istore 4, 84, 0), (84, .iinc 5 1, 87, 0), (87, .goto (-49), 90, 38), (90, .iload 4, 92, 0)]
theorem T2_used_ok : (T2_used).all (k_dck (k_cc Y2_used)) = true := by decide +kernel
theorem d2_used_2 : decode (k_cc Y2_used) 2 = .ok (.invokevirtual 146, 3) := by decide +kernel
theorem d2_used_22 : decode (k_cc Y2_used) 22 = .ok (.new 77, 3) := by decide +kernel
theorem d2_used_25 : decode (k_cc Y2_used) 25 = .ok (.dup, 1) := by decide +kernel
theorem d2_used_26 : decode (k_cc Y2_used) 26 = .ok (.ldc 160, 2) := by decide +kernel
theorem d2_used_28 : decode (k_cc Y2_used) 28 = .ok (.invokespecial 81, 3) := by decide +kernel
theorem d2_used_31 : decode (k_cc Y2_used) 31 = .ok (.athrow, 1) := by decide +kernel
theorem d2_used_62 : decode (k_cc Y2_used) 62 = .ok (.invokevirtual 82, 3) := by decide +kernel
theorem d2_used_78 : decode (k_cc Y2_used) 78 = .ok (.invokevirtual 164, 3) := by decide +kernel
theorem d2_used_92 : decode (k_cc Y2_used) 92 = .ok (.ireturn, 1) := by decide +kernel
def Y2_forgetAll : k_Y := (2, yX2_forgetAll, cX2_forgetAll, 2, none, 0, 0, [])
def T2_forgetAll : List (Nat × Instr × Nat × Nat) := [(0, .aload_n 0, 1, 0), (1, .iconst 0, 2, 0), (2, .putfield 54, 5, 0), (5, .aload_n 0, 6, 0), (6, .iconst 0, 7, 0), (7, .putfield 95, 10, 0), (10, .aload_n 0, 11, 0), (11, .getfield 14, 14, 0), (14, .iconst 0, 15, 0), (15, .putfield 154, 18, 0), (18, .aload_n 0, 19, 0), (19, .getfield 18, 22, 0), (22, .iconst 0, 23, 0), (23, .putfield 154, 26, 0), (26, .aload_n 0, 27, 0), (27, .getfield 24, 30, 0), (30, .iconst 0, 31, 0), (31, .putfield 162, 34, 0), (34, .iconst 0, 35, 0), (35, .istore_n 1, 36, 0), (36, .iload_n 1, 37, 0), (37, .sipush 1000, 40, 0), (40, .if_icmp .ge 16, 43, 56), (43, .aload_n 0, 44, 0), (44, .getfield 28, 47, 0), (47, .iload_n 1, 48, 0), (48, .iconst 0, 49, 0), (49, .bastore, 50, 0), (50, .iinc 1 1, 53, 0), (53, .goto (-17), 56, 36), (56, .iconst 0, 57, 0), (57, .istore_n 1, 58, 0), (58, .iload_n 1, 59, 0), (59, .bipush 6, 61, 0), (61, .if_icmp .ge 16, 64, 77), (64, .aload_n 0, 65, 0), (65, .getfield 32, 68, 0), (68, .iload_n 1, 69, 0), (69, .iload_n 1, 70, 0), (70, .iastore, 71, 0), (71, .iinc 1 1, 74, 0), (74, .goto (-16), 77, 58)]
theorem T2_forgetAll_ok : (T2_forgetAll).all (k_dck (k_cc Y2_forgetAll)) = true := by decide +kernel
theorem d2_forgetAll_77 : decode (k_cc Y2_forgetAll) 77 = .ok (.return_, 1) := by decide +kernel
def Y2_needUnit : k_Y := (2, yX2_needUnit, cX2_needUnit, 2, none, 7, 103, [])
def T2_needUnit : List (Nat × Instr × Nat × Nat) := [(0, .iload_n 1, 1, 0), (1, .ifCond .lt 14, 4, 15), (4, .iload_n 1, 5, 0), (5, .aload_n 0, 6, 0), (6, .getfield 14, 9, 0), (9, .getfield 154, 12, 0), (12, .if_icmp .lt 13, 15, 25), (18, .dup, 19, 0)]
theorem T2_needUnit_ok : (T2_needUnit).all (k_dck (k_cc Y2_needUnit)) = true := by decide +kernel
theorem d2_needUnit_15 : decode (k_cc Y2_needUnit) 15 = .ok (.new 42, 3) := by decide +kernel
theorem d2_needUnit_18 : decode (k_cc Y2_needUnit) 18 = .ok (.dup, 1) := by decide +kernel
theorem d2_needUnit_19 : decode (k_cc Y2_needUnit) 19 = .ok (.ldc 168, 2) := by decide +kernel
theorem d2_needUnit_21 : decode (k_cc Y2_needUnit) 21 = .ok (.invokespecial 46, 3) := by decide +kernel
theorem d2_needUnit_24 : decode (k_cc Y2_needUnit) 24 = .ok (.athrow, 1) := by decide +kernel
theorem d2_needUnit_25 : decode (k_cc Y2_needUnit) 25 = .ok (.return_, 1) := by decide +kernel
def Y2_needMessage : k_Y := (2, yX2_needMessage, cX2_needMessage, 2, none, 7, 103, [])
def T2_needMessage : List (Nat × Instr × Nat × Nat) := [(0, .iload_n 1, 1, 0), (1, .ifCond .lt 14, 4, 15), (4, .iload_n 1, 5, 0), (5, .aload_n 0, 6, 0), (6, .getfield 24, 9, 0), (9, .getfield 162, 12, 0), (12, .if_icmp .lt 13, 15, 25), (18, .dup, 19, 0)]
theorem T2_needMessage_ok : (T2_needMessage).all (k_dck (k_cc Y2_needMessage)) = true := by decide +kernel
theorem d2_needMessage_15 : decode (k_cc Y2_needMessage) 15 = .ok (.new 42, 3) := by decide +kernel
theorem d2_needMessage_18 : decode (k_cc Y2_needMessage) 18 = .ok (.dup, 1) := by decide +kernel
theorem d2_needMessage_19 : decode (k_cc Y2_needMessage) 19 = .ok (.ldc 170, 2) := by decide +kernel
theorem d2_needMessage_21 : decode (k_cc Y2_needMessage) 21 = .ok (.invokespecial 46, 3) := by decide +kernel
theorem d2_needMessage_24 : decode (k_cc Y2_needMessage) 24 = .ok (.athrow, 1) := by decide +kernel
theorem d2_needMessage_25 : decode (k_cc Y2_needMessage) 25 = .ok (.return_, 1) := by decide +kernel
def Y2_needChannel : k_Y := (2, yX2_needChannel, cX2_needChannel, 2, none, 7, 103, [])
def T2_needChannel : List (Nat × Instr × Nat × Nat) := [(0, .aload_n 0, 1, 0), (1, .iload_n 1, 2, 0), (5, .ifCond .ne 13, 8, 18), (11, .dup, 12, 0)]
theorem T2_needChannel_ok : (T2_needChannel).all (k_dck (k_cc Y2_needChannel)) = true := by decide +kernel
theorem d2_needChannel_2 : decode (k_cc Y2_needChannel) 2 = .ok (.invokevirtual 73, 3) := by decide +kernel
theorem d2_needChannel_8 : decode (k_cc Y2_needChannel) 8 = .ok (.new 42, 3) := by decide +kernel
theorem d2_needChannel_11 : decode (k_cc Y2_needChannel) 11 = .ok (.dup, 1) := by decide +kernel
theorem d2_needChannel_12 : decode (k_cc Y2_needChannel) 12 = .ok (.ldc 172, 2) := by decide +kernel
theorem d2_needChannel_14 : decode (k_cc Y2_needChannel) 14 = .ok (.invokespecial 46, 3) := by decide +kernel
theorem d2_needChannel_17 : decode (k_cc Y2_needChannel) 17 = .ok (.athrow, 1) := by decide +kernel
theorem d2_needChannel_18 : decode (k_cc Y2_needChannel) 18 = .ok (.return_, 1) := by decide +kernel
def Y2_needSlot : k_Y := (2, yX2_needSlot, cX2_needSlot, 2, none, 7, 103, [])
def T2_needSlot : List (Nat × Instr × Nat × Nat) := [(0, .aload_n 0, 1, 0), (1, .iload_n 1, 2, 0), (5, .ifCond .ne 13, 8, 18), (11, .dup, 12, 0)]
theorem T2_needSlot_ok : (T2_needSlot).all (k_dck (k_cc Y2_needSlot)) = true := by decide +kernel
theorem d2_needSlot_2 : decode (k_cc Y2_needSlot) 2 = .ok (.invokevirtual 174, 3) := by decide +kernel
theorem d2_needSlot_8 : decode (k_cc Y2_needSlot) 8 = .ok (.new 177, 3) := by decide +kernel
theorem d2_needSlot_11 : decode (k_cc Y2_needSlot) 11 = .ok (.dup, 1) := by decide +kernel
theorem d2_needSlot_12 : decode (k_cc Y2_needSlot) 12 = .ok (.ldc 179, 2) := by decide +kernel
theorem d2_needSlot_14 : decode (k_cc Y2_needSlot) 14 = .ok (.invokespecial 181, 3) := by decide +kernel
theorem d2_needSlot_17 : decode (k_cc Y2_needSlot) 17 = .ok (.athrow, 1) := by decide +kernel
theorem d2_needSlot_18 : decode (k_cc Y2_needSlot) 18 = .ok (.return_, 1) := by decide +kernel
def Y2_needPlace : k_Y := (2, yX2_needPlace, cX2_needPlace, 4, none, 7, 103, [])
def T2_needPlace : List (Nat × Instr × Nat × Nat) := [(0, .iload_n 1, 1, 0), (1, .ifCond .lt 21, 4, 22), (4, .iload_n 1, 5, 0), (5, .sipush 9999, 8, 0), (8, .if_icmp .gt 14, 11, 22), (11, .iload_n 2, 12, 0), (12, .ifCond .lt 10, 15, 22), (15, .iload_n 2, 16, 0), (16, .sipush 9999, 19, 0), (19, .if_icmp .le 13, 22, 32), (25, .dup, 26, 0), (32, .aload_n 0, 33, 0), (33, .iload_n 3, 34, 0), (37, .ifCond .ne 13, 40, 50), (43, .dup, 44, 0)]
theorem T2_needPlace_ok : (T2_needPlace).all (k_dck (k_cc Y2_needPlace)) = true := by decide +kernel
theorem d2_needPlace_22 : decode (k_cc Y2_needPlace) 22 = .ok (.new 77, 3) := by decide +kernel
theorem d2_needPlace_25 : decode (k_cc Y2_needPlace) 25 = .ok (.dup, 1) := by decide +kernel
theorem d2_needPlace_26 : decode (k_cc Y2_needPlace) 26 = .ok (.ldc 182, 2) := by decide +kernel
theorem d2_needPlace_28 : decode (k_cc Y2_needPlace) 28 = .ok (.invokespecial 81, 3) := by decide +kernel
theorem d2_needPlace_31 : decode (k_cc Y2_needPlace) 31 = .ok (.athrow, 1) := by decide +kernel
theorem d2_needPlace_34 : decode (k_cc Y2_needPlace) 34 = .ok (.invokevirtual 73, 3) := by decide +kernel
theorem d2_needPlace_40 : decode (k_cc Y2_needPlace) 40 = .ok (.new 77, 3) := by decide +kernel
theorem d2_needPlace_43 : decode (k_cc Y2_needPlace) 43 = .ok (.dup, 1) := by decide +kernel
theorem d2_needPlace_44 : decode (k_cc Y2_needPlace) 44 = .ok (.ldc 184, 2) := by decide +kernel
theorem d2_needPlace_46 : decode (k_cc Y2_needPlace) 46 = .ok (.invokespecial 81, 3) := by decide +kernel
theorem d2_needPlace_49 : decode (k_cc Y2_needPlace) 49 = .ok (.athrow, 1) := by decide +kernel
theorem d2_needPlace_50 : decode (k_cc Y2_needPlace) 50 = .ok (.return_, 1) := by decide +kernel
def Y2_needBegin : k_Y := (2, yX2_needBegin, cX2_needBegin, 3, none, 7, 103, [])
def T2_needBegin : List (Nat × Instr × Nat × Nat) := [(0, .aload_n 0, 1, 0), (1, .iload_n 1, 2, 0), (5, .ifCond .ne 13, 8, 18), (11, .dup, 12, 0), (18, .iload_n 2, 19, 0), (19, .ifCond .lt 9, 22, 28), (22, .iload_n 2, 23, 0), (23, .bipush 9, 25, 0), (25, .if_icmp .le 13, 28, 38), (31, .dup, 32, 0)]
theorem T2_needBegin_ok : (T2_needBegin).all (k_dck (k_cc Y2_needBegin)) = true := by decide +kernel
theorem d2_needBegin_2 : decode (k_cc Y2_needBegin) 2 = .ok (.invokevirtual 174, 3) := by decide +kernel
theorem d2_needBegin_8 : decode (k_cc Y2_needBegin) 8 = .ok (.new 77, 3) := by decide +kernel
theorem d2_needBegin_11 : decode (k_cc Y2_needBegin) 11 = .ok (.dup, 1) := by decide +kernel
theorem d2_needBegin_12 : decode (k_cc Y2_needBegin) 12 = .ok (.ldc 186, 2) := by decide +kernel
theorem d2_needBegin_14 : decode (k_cc Y2_needBegin) 14 = .ok (.invokespecial 81, 3) := by decide +kernel
theorem d2_needBegin_17 : decode (k_cc Y2_needBegin) 17 = .ok (.athrow, 1) := by decide +kernel
theorem d2_needBegin_28 : decode (k_cc Y2_needBegin) 28 = .ok (.new 77, 3) := by decide +kernel
theorem d2_needBegin_31 : decode (k_cc Y2_needBegin) 31 = .ok (.dup, 1) := by decide +kernel
theorem d2_needBegin_32 : decode (k_cc Y2_needBegin) 32 = .ok (.ldc 188, 2) := by decide +kernel
theorem d2_needBegin_34 : decode (k_cc Y2_needBegin) 34 = .ok (.invokespecial 81, 3) := by decide +kernel
theorem d2_needBegin_37 : decode (k_cc Y2_needBegin) 37 = .ok (.athrow, 1) := by decide +kernel
theorem d2_needBegin_38 : decode (k_cc Y2_needBegin) 38 = .ok (.return_, 1) := by decide +kernel
def Y2_needFreeBegin : k_Y := (2, yX2_needFreeBegin, cX2_needFreeBegin, 3, none, 7, 103, [])
def T2_needFreeBegin : List (Nat × Instr × Nat × Nat) := [(0, .aload_n 0, 1, 0), (1, .getfield 24, 4, 0), (4, .iload_n 1, 5, 0), (5, .iload_n 2, 6, 0), (9, .ifCond .eq 13, 12, 22), (15, .dup, 16, 0)]
theorem T2_needFreeBegin_ok : (T2_needFreeBegin).all (k_dck (k_cc Y2_needFreeBegin)) = true := by decide +kernel
theorem d2_needFreeBegin_6 : decode (k_cc Y2_needFreeBegin) 6 = .ok (.invokevirtual 190, 3) := by decide +kernel
theorem d2_needFreeBegin_12 : decode (k_cc Y2_needFreeBegin) 12 = .ok (.new 122, 3) := by decide +kernel
theorem d2_needFreeBegin_15 : decode (k_cc Y2_needFreeBegin) 15 = .ok (.dup, 1) := by decide +kernel
theorem d2_needFreeBegin_16 : decode (k_cc Y2_needFreeBegin) 16 = .ok (.ldc 193, 2) := by decide +kernel
theorem d2_needFreeBegin_18 : decode (k_cc Y2_needFreeBegin) 18 = .ok (.invokespecial 126, 3) := by decide +kernel
theorem d2_needFreeBegin_21 : decode (k_cc Y2_needFreeBegin) 21 = .ok (.athrow, 1) := by decide +kernel
theorem d2_needFreeBegin_22 : decode (k_cc Y2_needFreeBegin) 22 = .ok (.return_, 1) := by decide +kernel
def Y2_needRoomForMessage : k_Y := (2, yX2_needRoomForMessage, cX2_needRoomForMessage, 1, none, 7, 103, [])
def T2_needRoomForMessage : List (Nat × Instr × Nat × Nat) := [(0, .aload_n 0, 1, 0), (1, .getfield 24, 4, 0), (4, .getfield 162, 7, 0), (7, .bipush 60, 9, 0), (9, .if_icmp .lt 13, 12, 22), (15, .dup, 16, 0)]
theorem T2_needRoomForMessage_ok : (T2_needRoomForMessage).all (k_dck (k_cc Y2_needRoomForMessage)) = true := by decide +kernel
theorem d2_needRoomForMessage_12 : decode (k_cc Y2_needRoomForMessage) 12 = .ok (.new 195, 3) := by decide +kernel
theorem d2_needRoomForMessage_15 : decode (k_cc Y2_needRoomForMessage) 15 = .ok (.dup, 1) := by decide +kernel
theorem d2_needRoomForMessage_16 : decode (k_cc Y2_needRoomForMessage) 16 = .ok (.ldc 197, 2) := by decide +kernel
theorem d2_needRoomForMessage_18 : decode (k_cc Y2_needRoomForMessage) 18 = .ok (.invokespecial 199, 3) := by decide +kernel
theorem d2_needRoomForMessage_21 : decode (k_cc Y2_needRoomForMessage) 21 = .ok (.athrow, 1) := by decide +kernel
theorem d2_needRoomForMessage_22 : decode (k_cc Y2_needRoomForMessage) 22 = .ok (.return_, 1) := by decide +kernel
def Y2_isChannel : k_Y := (2, yX2_isChannel, cX2_isChannel, 2, (some .boolean), 0, 0, [])
def T2_isChannel : List (Nat × Instr × Nat × Nat) := [(0, .iload_n 1, 1, 0), (1, .ifCond .lt 13, 4, 14), (4, .iload_n 1, 5, 0), (5, .bipush 6, 7, 0), (7, .if_icmp .ge 7, 10, 14), (10, .iconst 1, 11, 0), (11, .goto 4, 14, 15), (14, .iconst 0, 15, 0)]
theorem T2_isChannel_ok : (T2_isChannel).all (k_dck (k_cc Y2_isChannel)) = true := by decide +kernel
theorem d2_isChannel_15 : decode (k_cc Y2_isChannel) 15 = .ok (.ireturn, 1) := by decide +kernel
def Y2_isSlot : k_Y := (2, yX2_isSlot, cX2_isSlot, 2, (some .boolean), 0, 0, [])
def T2_isSlot : List (Nat × Instr × Nat × Nat) := [(0, .iload_n 1, 1, 0), (1, .ifCond .lt 15, 4, 16), (4, .iload_n 1, 5, 0), (5, .aload_n 0, 6, 0), (6, .getfield 54, 9, 0), (9, .if_icmp .ge 7, 12, 16), (12, .iconst 1, 13, 0), (13, .goto 4, 16, 17), (16, .iconst 0, 17, 0)]
theorem T2_isSlot_ok : (T2_isSlot).all (k_dck (k_cc Y2_isSlot)) = true := by decide +kernel
theorem d2_isSlot_17 : decode (k_cc Y2_isSlot) 17 = .ok (.ireturn, 1) := by decide +kernel
def Y2_areJoined : k_Y := (2, yX2_areJoined, cX2_areJoined, 3, (some .boolean), 0, 0, [])
def T2_areJoined : List (Nat × Instr × Nat × Nat) := [(0, .aload_n 0, 1, 0), (1, .getfield 32, 4, 0), (4, .iload_n 1, 5, 0), (5, .iaload, 6, 0), (6, .aload_n 0, 7, 0), (7, .getfield 32, 10, 0), (10, .iload_n 2, 11, 0), (11, .iaload, 12, 0), (12, .if_icmp .ne 7, 15, 19), (15, .iconst 1, 16, 0), (16, .goto 4, 19, 20), (19, .iconst 0, 20, 0)]
theorem T2_areJoined_ok : (T2_areJoined).all (k_dck (k_cc Y2_areJoined)) = true := by decide +kernel
theorem d2_areJoined_20 : decode (k_cc Y2_areJoined) 20 = .ok (.ireturn, 1) := by decide +kernel
def Y2_joinGroups : k_Y := (2, yX2_joinGroups, cX2_joinGroups, 4, none, 0, 0, [])
def T2_joinGroups : List (Nat × Instr × Nat × Nat) := [(0, .iconst 0, 1, 0), (1, .istore_n 3, 2, 0), (2, .iload_n 3, 3, 0), (3, .bipush 6, 5, 0), (5, .if_icmp .ge 26, 8, 31), (8, .aload_n 0, 9, 0), (9, .getfield 32, 12, 0), (12, .iload_n 3, 13, 0), (13, .iaload, 14, 0), (14, .iload_n 2, 15, 0), (15, .if_icmp .ne 10, 18, 25), (18, .aload_n 0, 19, 0), (19, .getfield 32, 22, 0), (22, .iload_n 3, 23, 0), (23, .iload_n 1, 24, 0), (24, .iastore, 25, 0), (25, .iinc 3 1, 28, 0), (28, .goto (-26), 31, 2)]
theorem T2_joinGroups_ok : (T2_joinGroups).all (k_dck (k_cc Y2_joinGroups)) = true := by decide +kernel
theorem d2_joinGroups_31 : decode (k_cc Y2_joinGroups) 31 = .ok (.return_, 1) := by decide +kernel
def Y2_place : k_Y := (2, yX2_place, cX2_place, 6, (some .int), 8, 126, [])
def T2_place : List (Nat × Instr × Nat × Nat) := [(0, .aload_n 0, 1, 0), (1, .iload_n 2, 2, 0), (2, .iload_n 3, 3, 0), (3, .iload 5, 5, 0), (8, .iload 4, 10, 0), (10, .ifCond .lt 11, 13, 21), (13, .iload 4, 15, 0), (15, .sipush 9999, 18, 0), (18, .if_icmp .le 13, 21, 31), (24, .dup, 25, 0), (31, .aload_n 1, 32, 0), (35, .ifCond .eq 13, 38, 48), (41, .dup, 42, 0), (48, .aload_n 1, 49, 0), (49, .iload_n 2, 50, 0), (50, .iload_n 3, 51, 0), (51, .iload 4, 53, 0), (53, .iload 5, 55, 0)]
theorem T2_place_ok : (T2_place).all (k_dck (k_cc Y2_place)) = true := by decide +kernel
theorem d2_place_5 : decode (k_cc Y2_place) 5 = .ok (.invokevirtual 65, 3) := by decide +kernel
theorem d2_place_21 : decode (k_cc Y2_place) 21 = .ok (.new 77, 3) := by decide +kernel
theorem d2_place_24 : decode (k_cc Y2_place) 24 = .ok (.dup, 1) := by decide +kernel
theorem d2_place_25 : decode (k_cc Y2_place) 25 = .ok (.ldc 200, 2) := by decide +kernel
theorem d2_place_27 : decode (k_cc Y2_place) 27 = .ok (.invokespecial 81, 3) := by decide +kernel
theorem d2_place_30 : decode (k_cc Y2_place) 30 = .ok (.athrow, 1) := by decide +kernel
theorem d2_place_32 : decode (k_cc Y2_place) 32 = .ok (.invokevirtual 202, 3) := by decide +kernel
theorem d2_place_38 : decode (k_cc Y2_place) 38 = .ok (.new 195, 3) := by decide +kernel
theorem d2_place_41 : decode (k_cc Y2_place) 41 = .ok (.dup, 1) := by decide +kernel
theorem d2_place_42 : decode (k_cc Y2_place) 42 = .ok (.ldc 206, 2) := by decide +kernel
theorem d2_place_44 : decode (k_cc Y2_place) 44 = .ok (.invokespecial 199, 3) := by decide +kernel
theorem d2_place_47 : decode (k_cc Y2_place) 47 = .ok (.athrow, 1) := by decide +kernel
theorem d2_place_55 : decode (k_cc Y2_place) 55 = .ok (.invokevirtual 208, 3) := by decide +kernel
theorem d2_place_58 : decode (k_cc Y2_place) 58 = .ok (.ireturn, 1) := by decide +kernel
def Y2_tell : k_Y := (2, yX2_tell, cX2_tell, 6, (some .int), 5, 113, [])
def T2_tell : List (Nat × Instr × Nat × Nat) := [(0, .aload_n 0, 1, 0), (1, .getfield 24, 4, 0), (4, .iload_n 1, 5, 0), (5, .aload_n 0, 6, 0), (6, .getfield 14, 9, 0), (9, .getfield 133, 12, 0), (12, .iload_n 1, 13, 0), (13, .iaload, 14, 0), (14, .iload_n 2, 15, 0), (15, .iload_n 3, 16, 0), (16, .iload 4, 18, 0), (21, .istore 5, 23, 0), (23, .aload_n 0, 24, 0), (27, .iload 5, 29, 0)]
theorem T2_tell_ok : (T2_tell).all (k_dck (k_cc Y2_tell)) = true := by decide +kernel
theorem d2_tell_18 : decode (k_cc Y2_tell) 18 = .ok (.invokevirtual 211, 3) := by decide +kernel
theorem d2_tell_24 : decode (k_cc Y2_tell) 24 = .ok (.invokevirtual 90, 3) := by decide +kernel
theorem d2_tell_29 : decode (k_cc Y2_tell) 29 = .ok (.ireturn, 1) := by decide +kernel
def Y2_planAll : k_Y := (2, yX2_planAll, cX2_planAll, 2, none, 4, 92, [])
def T2_planAll : List (Nat × Instr × Nat × Nat) := [(0, .aload_n 0, 1, 0), (1, .getfield 36, 4, 0), (4, .iconst (-1), 5, 0), (8, .iconst 0, 9, 0), (9, .istore_n 1, 10, 0), (10, .iload_n 1, 11, 0), (11, .aload_n 0, 12, 0), (12, .getfield 24, 15, 0), (15, .getfield 162, 18, 0), (18, .if_icmp .ge 14, 21, 32), (21, .aload_n 0, 22, 0), (22, .iload_n 1, 23, 0), (26, .iinc 1 1, 29, 0), (29, .goto (-19), 32, 10)]
theorem T2_planAll_ok : (T2_planAll).all (k_dck (k_cc Y2_planAll)) = true := by decide +kernel
theorem d2_planAll_5 : decode (k_cc Y2_planAll) 5 = .ok (.invokestatic 214, 3) := by decide +kernel
theorem d2_planAll_23 : decode (k_cc Y2_planAll) 23 = .ok (.invokevirtual 220, 3) := by decide +kernel
theorem d2_planAll_32 : decode (k_cc Y2_planAll) 32 = .ok (.return_, 1) := by decide +kernel
def Y2_plan : k_Y := (2, yX2_plan, cX2_plan, 5, none, 3, 68, [])
def T2_plan : List (Nat × Instr × Nat × Nat) := [(0, .aload_n 0, 1, 0), (1, .getfield 24, 4, 0), (4, .getfield 223, 7, 0), (7, .iload_n 1, 8, 0), (8, .iaload, 9, 0), (9, .istore_n 2, 10, 0), (10, .aload_n 0, 11, 0), (11, .getfield 24, 14, 0), (14, .getfield 226, 17, 0), (17, .iload_n 2, 18, 0), (18, .iaload, 19, 0), (19, .istore_n 3, 20, 0), (20, .aload_n 0, 21, 0), (21, .getfield 36, 24, 0), (24, .aload_n 0, 25, 0), (25, .getfield 32, 28, 0), (28, .aload_n 0, 29, 0), (29, .getfield 24, 32, 0), (32, .getfield 163, 35, 0), (35, .iload_n 2, 36, 0), (36, .iaload, 37, 0), (37, .iaload, 38, 0), (38, .iaload, 39, 0), (39, .istore 4, 41, 0), (41, .aload_n 0, 42, 0), (42, .iload_n 1, 43, 0), (46, .ifCond .eq 14, 49, 60), (49, .aload_n 0, 50, 0), (50, .getfield 24, 53, 0), (53, .iload_n 2, 54, 0), (57, .goto 82, 60, 139), (60, .iload 4, 62, 0), (62, .iconst (-1), 63, 0), (63, .if_icmp .eq 16, 66, 79), (66, .aload_n 0, 67, 0), (67, .getfield 24, 70, 0), (70, .iload 4, 72, 0), (72, .iload_n 3, 73, 0), (76, .ifCond .ne 12, 79, 88), (79, .aload_n 0, 80, 0), (80, .iload_n 2, 81, 0), (81, .iload_n 3, 82, 0), (85, .goto 54, 88, 139), (88, .aload_n 0, 89, 0), (89, .getfield 24, 92, 0), (92, .getfield 241, 95, 0), (95, .iload 4, 97, 0), (97, .iaload, 98, 0), (98, .aload_n 0, 99, 0), (99, .getfield 24, 102, 0), (102, .getfield 241, 105, 0), (105, .iload_n 2, 106, 0), (106, .iaload, 107, 0), (107, .if_icmp .ge 24, 110, 131), (110, .aload_n 0, 111, 0), (111, .getfield 24, 114, 0), (114, .iload 4, 116, 0), (116, .iload_n 3, 117, 0), (120, .aload_n 0, 121, 0), (121, .iload_n 2, 122, 0), (122, .iload_n 3, 123, 0), (123, .iconst 1, 124, 0), (124, .iadd, 125, 0), (128, .goto 11, 131, 139), (131, .aload_n 0, 132, 0), (132, .getfield 24, 135, 0), (135, .iload_n 2, 136, 0)]
theorem T2_plan_ok : (T2_plan).all (k_dck (k_cc Y2_plan)) = true := by decide +kernel
theorem d2_plan_43 : decode (k_cc Y2_plan) 43 = .ok (.invokevirtual 229, 3) := by decide +kernel
theorem d2_plan_54 : decode (k_cc Y2_plan) 54 = .ok (.invokevirtual 232, 3) := by decide +kernel
theorem d2_plan_73 : decode (k_cc Y2_plan) 73 = .ok (.invokevirtual 235, 3) := by decide +kernel
theorem d2_plan_82 : decode (k_cc Y2_plan) 82 = .ok (.invokevirtual 238, 3) := by decide +kernel
theorem d2_plan_117 : decode (k_cc Y2_plan) 117 = .ok (.invokevirtual 244, 3) := by decide +kernel
theorem d2_plan_125 : decode (k_cc Y2_plan) 125 = .ok (.invokevirtual 238, 3) := by decide +kernel
theorem d2_plan_136 : decode (k_cc Y2_plan) 136 = .ok (.invokevirtual 232, 3) := by decide +kernel
theorem d2_plan_139 : decode (k_cc Y2_plan) 139 = .ok (.return_, 1) := by decide +kernel
def Y2_meetsItsBetter : k_Y := (2, yX2_meetsItsBetter, cX2_meetsItsBetter, 5, (some .boolean), 2, 44, [])
def T2_meetsItsBetter : List (Nat × Instr × Nat × Nat) := [(0, .aload_n 0, 1, 0), (1, .getfield 24, 4, 0), (4, .getfield 223, 7, 0), (7, .iload_n 1, 8, 0), (8, .iaload, 9, 0), (9, .istore_n 2, 10, 0), (10, .iconst 0, 11, 0), (11, .istore_n 3, 12, 0), (12, .iload_n 1, 13, 0), (13, .iconst 1, 14, 0), (14, .isub, 15, 0), (15, .istore 4, 17, 0), (17, .iload 4, 19, 0), (19, .ifCond .lt 50, 22, 69), (22, .aload_n 0, 23, 0), (23, .getfield 24, 26, 0), (26, .iload 4, 28, 0), (28, .iload_n 2, 29, 0), (32, .ifCond .eq 37, 35, 69), (35, .iload_n 3, 36, 0), (36, .ifCond .ne 21, 39, 57), (39, .aload_n 0, 40, 0), (40, .aload_n 0, 41, 0), (41, .getfield 24, 44, 0), (44, .getfield 223, 47, 0), (47, .iload 4, 49, 0), (49, .iaload, 50, 0), (50, .iload_n 2, 51, 0), (54, .ifCond .eq 7, 57, 61), (57, .iconst 1, 58, 0), (58, .goto 4, 61, 62), (61, .iconst 0, 62, 0), (62, .istore_n 3, 63, 0), (63, .iinc 4 (-1), 66, 0), (66, .goto (-49), 69, 17), (69, .iload_n 1, 70, 0), (70, .iconst 1, 71, 0), (71, .iadd, 72, 0), (72, .istore 4, 74, 0), (74, .iload 4, 76, 0), (76, .aload_n 0, 77, 0), (77, .getfield 24, 80, 0), (80, .getfield 162, 83, 0), (83, .if_icmp .ge 50, 86, 133), (86, .aload_n 0, 87, 0), (87, .getfield 24, 90, 0), (90, .iload 4, 92, 0), (92, .iload_n 2, 93, 0), (96, .ifCond .eq 37, 99, 133), (99, .iload_n 3, 100, 0), (100, .ifCond .ne 21, 103, 121), (103, .aload_n 0, 104, 0), (104, .aload_n 0, 105, 0), (105, .getfield 24, 108, 0), (108, .getfield 223, 111, 0), (111, .iload 4, 113, 0), (113, .iaload, 114, 0), (114, .iload_n 2, 115, 0), (118, .ifCond .eq 7, 121, 125), (121, .iconst 1, 122, 0), (122, .goto 4, 125, 126), (125, .iconst 0, 126, 0), (126, .istore_n 3, 127, 0), (127, .iinc 4 1, 130, 0), (130, .goto (-56), 133, 74), (133, .iload_n 3, 134, 0)]
theorem T2_meetsItsBetter_ok : (T2_meetsItsBetter).all (k_dck (k_cc Y2_meetsItsBetter)) = true := by decide +kernel
theorem d2_meetsItsBetter_29 : decode (k_cc Y2_meetsItsBetter) 29 = .ok (.invokevirtual 247, 3) := by decide +kernel
theorem d2_meetsItsBetter_51 : decode (k_cc Y2_meetsItsBetter) 51 = .ok (.invokevirtual 250, 3) := by decide +kernel
theorem d2_meetsItsBetter_93 : decode (k_cc Y2_meetsItsBetter) 93 = .ok (.invokevirtual 247, 3) := by decide +kernel
theorem d2_meetsItsBetter_115 : decode (k_cc Y2_meetsItsBetter) 115 = .ok (.invokevirtual 250, 3) := by decide +kernel
theorem d2_meetsItsBetter_134 : decode (k_cc Y2_meetsItsBetter) 134 = .ok (.ireturn, 1) := by decide +kernel
def Y2_keepsFromCalling : k_Y := (2, yX2_keepsFromCalling, cX2_keepsFromCalling, 3, (some .boolean), 1, 22, [])
def T2_keepsFromCalling : List (Nat × Instr × Nat × Nat) := [(0, .aload_n 0, 1, 0), (1, .aload_n 0, 2, 0), (2, .getfield 24, 5, 0), (5, .getfield 163, 8, 0), (8, .iload_n 1, 9, 0), (9, .iaload, 10, 0), (10, .aload_n 0, 11, 0), (11, .getfield 24, 14, 0), (14, .getfield 163, 17, 0), (17, .iload_n 2, 18, 0), (18, .iaload, 19, 0), (22, .ifCond .eq 28, 25, 50), (25, .aload_n 0, 26, 0), (26, .getfield 24, 29, 0), (29, .getfield 241, 32, 0), (32, .iload_n 1, 33, 0), (33, .iaload, 34, 0), (34, .aload_n 0, 35, 0), (35, .getfield 24, 38, 0), (38, .getfield 241, 41, 0), (41, .iload_n 2, 42, 0), (42, .iaload, 43, 0), (43, .if_icmp .lt 7, 46, 50), (46, .iconst 1, 47, 0), (47, .goto 4, 50, 51), (50, .iconst 0, 51, 0)]
theorem T2_keepsFromCalling_ok : (T2_keepsFromCalling).all (k_dck (k_cc Y2_keepsFromCalling)) = true := by decide +kernel
theorem d2_keepsFromCalling_19 : decode (k_cc Y2_keepsFromCalling) 19 = .ok (.invokevirtual 82, 3) := by decide +kernel
theorem d2_keepsFromCalling_51 : decode (k_cc Y2_keepsFromCalling) 51 = .ok (.ireturn, 1) := by decide +kernel
def Y2_putOn : k_Y := (2, yX2_putOn, cX2_putOn, 5, none, 1, 24, [])
def T2_putOn : List (Nat × Instr × Nat × Nat) := [(0, .aload_n 0, 1, 0), (1, .getfield 36, 4, 0), (4, .aload_n 0, 5, 0), (5, .getfield 32, 8, 0), (8, .aload_n 0, 9, 0), (9, .getfield 24, 12, 0), (12, .getfield 163, 15, 0), (15, .iload_n 1, 16, 0), (16, .iaload, 17, 0), (17, .iaload, 18, 0), (18, .iload_n 1, 19, 0), (19, .iastore, 20, 0), (20, .iconst 1, 21, 0), (21, .aload_n 0, 22, 0), (22, .getfield 24, 25, 0), (25, .getfield 127, 28, 0), (28, .iload_n 1, 29, 0), (29, .iaload, 30, 0), (33, .istore_n 3, 34, 0), (34, .aload_n 0, 35, 0), (35, .getfield 95, 38, 0), (38, .ifCond .le 28, 41, 66), (41, .aload_n 0, 42, 0), (42, .getfield 95, 45, 0), (45, .iload_n 3, 46, 0), (46, .if_icmp .ge 20, 49, 66), (49, .aload_n 0, 50, 0), (50, .getfield 24, 53, 0), (53, .iload_n 1, 54, 0), (54, .iload_n 2, 55, 0), (55, .aload_n 0, 56, 0), (56, .getfield 95, 59, 0), (59, .iconst 2, 60, 0), (63, .goto 14, 66, 77), (66, .aload_n 0, 67, 0), (67, .getfield 24, 70, 0), (70, .iload_n 1, 71, 0), (71, .iload_n 2, 72, 0), (72, .iload_n 3, 73, 0), (73, .iconst 0, 74, 0), (77, .aload_n 0, 78, 0), (78, .getfield 54, 81, 0), (81, .iload_n 2, 82, 0), (82, .isub, 83, 0), (83, .istore 4, 85, 0), (85, .aload_n 0, 86, 0), (86, .getfield 24, 89, 0), (89, .getfield 149, 92, 0), (92, .iload_n 1, 93, 0), (93, .iaload, 94, 0), (94, .iload 4, 96, 0), (96, .if_icmp .le 15, 99, 111), (99, .aload_n 0, 100, 0), (100, .getfield 24, 103, 0), (103, .iload_n 1, 104, 0), (104, .iload_n 2, 105, 0), (105, .iload 4, 107, 0), (107, .iconst 4, 108, 0)]
theorem T2_putOn_ok : (T2_putOn).all (k_dck (k_cc Y2_putOn)) = true := by decide +kernel
theorem d2_putOn_30 : decode (k_cc Y2_putOn) 30 = .ok (.invokestatic 253, 3) := by decide +kernel
theorem d2_putOn_60 : decode (k_cc Y2_putOn) 60 = .ok (.invokevirtual 258, 3) := by decide +kernel
theorem d2_putOn_74 : decode (k_cc Y2_putOn) 74 = .ok (.invokevirtual 258, 3) := by decide +kernel
theorem d2_putOn_108 : decode (k_cc Y2_putOn) 108 = .ok (.invokevirtual 258, 3) := by decide +kernel
theorem d2_putOn_111 : decode (k_cc Y2_putOn) 111 = .ok (.return_, 1) := by decide +kernel
