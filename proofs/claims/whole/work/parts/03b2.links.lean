set_option maxRecDepth 20000 in
theorem c4_17 : k_okV 4 17 4 Y2_unit = true := by decide +kernel
set_option maxRecDepth 20000 in
theorem c4_25 : k_okV 4 25 4 Y2_go = true := by decide +kernel
set_option maxRecDepth 20000 in
theorem c4_29 : k_okV 4 29 4 Y2_repeater = true := by decide +kernel
set_option maxRecDepth 20000 in
theorem c4_32 : k_okV 4 32 2 Y2_patch = true := by decide +kernel
set_option maxRecDepth 20000 in
theorem c4_36 : k_okV 4 36 1 Y2_limit = true := by decide +kernel
set_option maxRecDepth 20000 in
theorem c4_39 : k_okV 4 39 4 Y2_speak = true := by decide +kernel
set_option maxRecDepth 20000 in
theorem c4_44 : k_okV 4 44 4 Y2_relay = true := by decide +kernel
set_option maxRecDepth 20000 in
theorem c4_47 : k_okV 4 47 1 Y2_lose = true := by decide +kernel
set_option maxRecDepth 20000 in
theorem c4_53 : k_okV 4 53 2 Y2_hears = true := by decide +kernel
set_option maxRecDepth 20000 in
theorem c4_57 : k_okV 4 57 2 Y2_on = true := by decide +kernel
set_option maxRecDepth 20000 in
theorem c4_60 : k_okV 4 60 1 Y2_ended = true := by decide +kernel
set_option maxRecDepth 20000 in
theorem c4_64 : k_okV 4 64 1 Y2_length = true := by decide +kernel
set_option maxRecDepth 20000 in
theorem c4_67 : k_okV 4 67 2 Y2_unheard = true := by decide +kernel
set_option maxRecDepth 20000 in
theorem c4_70 : k_okV 4 70 3 Y2_used = true := by decide +kernel
set_option maxRecDepth 20000 in
theorem c4_74 : k_okI 4 74 0 Y2_init = true := by decide +kernel
set_option maxRecDepth 20000 in
theorem c4_77 : k_okI 4 77 0 Y3_init = true := by decide +kernel
set_option maxRecDepth 20000 in
theorem c4_83 : k_okV 4 83 1 Y3_day = true := by decide +kernel
set_option maxRecDepth 20000 in
theorem c4_84 : k_okV 4 84 0 Y3_thrown = true := by decide +kernel
set_option maxRecDepth 20000 in
theorem c4_91 : k_okV 4 91 4 Y3_unit = true := by decide +kernel
set_option maxRecDepth 20000 in
theorem c4_95 : k_okV 4 95 4 Y3_go = true := by decide +kernel
set_option maxRecDepth 20000 in
theorem c4_98 : k_okV 4 98 4 Y3_repeater = true := by decide +kernel
set_option maxRecDepth 20000 in
theorem c4_102 : k_okV 4 102 2 Y3_patch = true := by decide +kernel
set_option maxRecDepth 20000 in
theorem c4_105 : k_okV 4 105 1 Y3_limit = true := by decide +kernel
set_option maxRecDepth 20000 in
theorem c4_108 : k_okV 4 108 4 Y3_speak = true := by decide +kernel
set_option maxRecDepth 20000 in
theorem c4_111 : k_okV 4 111 4 Y3_relay = true := by decide +kernel
set_option maxRecDepth 20000 in
theorem c4_115 : k_okV 4 115 1 Y3_lose = true := by decide +kernel
set_option maxRecDepth 20000 in
theorem c4_118 : k_okV 4 118 2 Y3_hears = true := by decide +kernel
set_option maxRecDepth 20000 in
theorem c4_121 : k_okV 4 121 2 Y3_on = true := by decide +kernel
set_option maxRecDepth 20000 in
theorem c4_124 : k_okV 4 124 1 Y3_ended = true := by decide +kernel
set_option maxRecDepth 20000 in
theorem c4_127 : k_okV 4 127 1 Y3_length = true := by decide +kernel
set_option maxRecDepth 20000 in
theorem c4_130 : k_okV 4 130 2 Y3_unheard = true := by decide +kernel
set_option maxRecDepth 20000 in
theorem c4_134 : k_okV 4 134 3 Y3_used = true := by decide +kernel
