set_option maxRecDepth 20000 in
theorem c4_78 : k_okSW 4 78 2 Y4_day = true := by decide +kernel
set_option maxRecDepth 20000 in
theorem c4_88 : k_okSW 4 88 6 Y4_unit = true := by decide +kernel
set_option maxRecDepth 20000 in
theorem c4_92 : k_okSW 4 92 5 Y4_go = true := by decide +kernel
set_option maxRecDepth 20000 in
theorem c4_96 : k_okSW 4 96 6 Y4_repeater = true := by decide +kernel
set_option maxRecDepth 20000 in
theorem c4_99 : k_okSW 4 99 4 Y4_patch = true := by decide +kernel
set_option maxRecDepth 20000 in
theorem c4_103 : k_okSW 4 103 2 Y4_limit = true := by decide +kernel
set_option maxRecDepth 20000 in
theorem c4_106 : k_okSW 4 106 6 Y4_speak = true := by decide +kernel
set_option maxRecDepth 20000 in
theorem c4_109 : k_okSW 4 109 6 Y4_relay = true := by decide +kernel
set_option maxRecDepth 20000 in
theorem c4_112 : k_okSW 4 112 3 Y4_lose = true := by decide +kernel
set_option maxRecDepth 20000 in
theorem c4_116 : k_okSW 4 116 4 Y4_hears = true := by decide +kernel
set_option maxRecDepth 20000 in
theorem c4_119 : k_okSW 4 119 4 Y4_on = true := by decide +kernel
set_option maxRecDepth 20000 in
theorem c4_122 : k_okSW 4 122 3 Y4_ended = true := by decide +kernel
set_option maxRecDepth 20000 in
theorem c4_125 : k_okSW 4 125 3 Y4_length = true := by decide +kernel
set_option maxRecDepth 20000 in
theorem c4_128 : k_okSW 4 128 4 Y4_unheard = true := by decide +kernel
set_option maxRecDepth 20000 in
theorem c4_131 : k_okSW 4 131 5 Y4_used = true := by decide +kernel
