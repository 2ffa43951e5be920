def T4_law16 : List (Nat × Instr × Nat × Nat) := [(1078, .aload_n 1, 1079, 0), (1079, .aload_n 0, 1080, 0), (1080, .iload 4, 1082, 0), (1082, .iconst 1, 1083, 0), (1083, .iadd, 1084, 0), (1084, .iaload, 1085, 0), (1085, .aload_n 0, 1086, 0), (1086, .iload 4, 1088, 0), (1088, .iconst 2, 1089, 0), (1089, .iadd, 1090, 0), (1090, .iaload, 1091, 0), (1091, .aload_n 0, 1092, 0), (1092, .iload 4, 1094, 0), (1094, .iconst 3, 1095, 0), (1095, .iadd, 1096, 0), (1096, .iaload, 1097, 0), (1097, .aload_n 3, 1098, 0), (1101, .istore 5, 1103, 0), (1103, .aload_n 2, 1104, 0), (1104, .aload_n 0, 1105, 0), (1105, .iload 4, 1107, 0), (1107, .iconst 1, 1108, 0), (1108, .iadd, 1109, 0), (1109, .iaload, 1110, 0), (1110, .aload_n 0, 1111, 0), (1111, .iload 4, 1113, 0), (1113, .iconst 2, 1114, 0), (1114, .iadd, 1115, 0), (1115, .iaload, 1116, 0), (1116, .aload_n 0, 1117, 0), (1117, .iload 4, 1119, 0), (1119, .iconst 3, 1120, 0), (1120, .iadd, 1121, 0), (1121, .iaload, 1122, 0), (1125, .istore 6, 1127, 0), (1127, .aload_n 2, 1128, 0), (1131, .iload 5, 1133, 0), (1133, .if_icmp .eq 5, 1136, 1138), (1136, .iconst 0, 1137, 0), (1138, .iload 5, 1140, 0), (1140, .ifCond .ne 15, 1143, 1155), (1143, .aload_n 3, 1144, 0), (1144, .iconst 0, 1145, 0), (1145, .laload, 1146, 0), (1146, .iload 6, 1148, 0), (1148, .i2l, 1149, 0), (1149, .lcmp, 1150, 0), (1150, .ifCond .eq 5, 1153, 1155), (1153, .iconst 0, 1154, 0), (1155, .goto 3, 1158, 1158)]
theorem T4_law16_ok : (T4_law16).all (k_dck (k_cc Y4_law)) = true := by decide +kernel
def T4_law17 : List (Nat × Instr × Nat × Nat) := [(1158, .iinc 4 5, 1161, 0), (1161, .goto (-1138), 1164, 23), (1164, .iconst 1, 1165, 0)]
theorem T4_law17_ok : (T4_law17).all (k_dck (k_cc Y4_law)) = true := by decide +kernel
theorem d4_law_0 : decode (k_cc Y4_law) 0 = .ok (.new 8, 3) := by decide +kernel
theorem d4_law_3 : decode (k_cc Y4_law) 3 = .ok (.dup, 1) := by decide +kernel
theorem d4_law_4 : decode (k_cc Y4_law) 4 = .ok (.invokespecial 74, 3) := by decide +kernel
theorem d4_law_8 : decode (k_cc Y4_law) 8 = .ok (.new 75, 3) := by decide +kernel
theorem d4_law_11 : decode (k_cc Y4_law) 11 = .ok (.dup, 1) := by decide +kernel
theorem d4_law_12 : decode (k_cc Y4_law) 12 = .ok (.invokespecial 77, 3) := by decide +kernel
theorem d4_law_17 : decode (k_cc Y4_law) 17 = .ok (.newarray .long, 2) := by decide +kernel
theorem d4_law_39 : decode (k_cc Y4_law) 39 = .ok (.tableswitch 1119 0 14 #[73, 109, 201, 273, 365, 440, 476, 568, 660, 723, 791, 859, 915, 971, 1039], 73) := by decide +kernel
theorem d4_law_119 : decode (k_cc Y4_law) 119 = .ok (.invokestatic 78, 3) := by decide +kernel
theorem d4_law_131 : decode (k_cc Y4_law) 131 = .ok (.invokevirtual 83, 3) := by decide +kernel
theorem d4_law_135 : decode (k_cc Y4_law) 135 = .ok (.invokevirtual 84, 3) := by decide +kernel
theorem d4_law_144 : decode (k_cc Y4_law) 144 = .ok (.ireturn, 1) := by decide +kernel
