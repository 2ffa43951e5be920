set_option maxRecDepth 20000 in
theorem c2_214 : k_okSt 2 214 2 Y5_fill = true := by decide +kernel
set_option maxRecDepth 20000 in
theorem c2_220 : k_okV 2 220 1 Y2_plan = true := by decide +kernel
set_option maxRecDepth 20000 in
theorem c2_229 : k_okV 2 229 1 Y2_meetsItsBetter = true := by decide +kernel
set_option maxRecDepth 20000 in
theorem c2_232 : k_okV 2 232 1 Y0_markLost = true := by decide +kernel
set_option maxRecDepth 20000 in
theorem c2_235 : k_okV 2 235 2 Y0_isOn = true := by decide +kernel
set_option maxRecDepth 20000 in
theorem c2_238 : k_okV 2 238 2 Y2_putOn = true := by decide +kernel
set_option maxRecDepth 20000 in
theorem c2_244 : k_okV 2 244 2 Y0_cutAfter = true := by decide +kernel
set_option maxRecDepth 20000 in
theorem c2_247 : k_okV 2 247 2 Y0_beginsWith = true := by decide +kernel
set_option maxRecDepth 20000 in
theorem c2_250 : k_okV 2 250 2 Y2_keepsFromCalling = true := by decide +kernel
set_option maxRecDepth 20000 in
theorem c2_258 : k_okV 2 258 4 Y0_setOn = true := by decide +kernel
set_option maxRecDepth 20000 in
theorem c2_264 : k_okV 2 264 2 Y2_listensTo = true := by decide +kernel
set_option maxRecDepth 20000 in
theorem c2_267 : k_okV 2 267 3 Y1_reaches = true := by decide +kernel
set_option maxRecDepth 20000 in
theorem c2_271 : k_okV 2 271 2 Y2_receivesByRepeater = true := by decide +kernel
set_option maxRecDepth 20000 in
theorem c2_274 : k_okV 2 274 1 Y2_hasNoise = true := by decide +kernel
set_option maxRecDepth 20000 in
theorem c3_72 : k_okSt 3 72 3 Y3_in = true := by decide +kernel
set_option maxRecDepth 20000 in
theorem c3_85 : k_okV 3 85 5 Y3_goes = true := by decide +kernel
set_option maxRecDepth 20000 in
theorem c3_95 : k_okSt 3 95 2 Y3_isPoint = true := by decide +kernel
set_option maxRecDepth 20000 in
theorem c3_99 : k_okSt 3 99 1 Y3_isChannel = true := by decide +kernel
set_option maxRecDepth 20000 in
theorem c3_103 : k_okV 3 103 1 Y3_isUnit = true := by decide +kernel
set_option maxRecDepth 20000 in
theorem c3_106 : k_okV 3 106 1 Y3_isSlot = true := by decide +kernel
set_option maxRecDepth 20000 in
theorem c3_109 : k_okV 3 109 2 Y3_begins = true := by decide +kernel
set_option maxRecDepth 20000 in
theorem c3_112 : k_okV 3 112 4 Y3_add = true := by decide +kernel
set_option maxRecDepth 20000 in
theorem c3_116 : k_okV 3 116 1 Y3_isMessage = true := by decide +kernel
set_option maxRecDepth 20000 in
theorem c3_119 : k_okV 3 119 2 Y3_heardAll = true := by decide +kernel
set_option maxRecDepth 20000 in
theorem c3_122 : k_okV 3 122 1 Y3_most = true := by decide +kernel
set_option maxRecDepth 20000 in
theorem c3_126 : k_okV 3 126 2 Y3_caller = true := by decide +kernel
set_option maxRecDepth 20000 in
theorem c3_130 : k_okV 3 130 1 Y3_endOf = true := by decide +kernel
set_option maxRecDepth 20000 in
theorem c3_133 : k_okSt 3 133 5 Y3_isNear = true := by decide +kernel
set_option maxRecDepth 20000 in
theorem c3_137 : k_okV 3 137 3 Y3_reaches = true := by decide +kernel
set_option maxRecDepth 20000 in
theorem c3_140 : k_okV 3 140 1 Y3_day0 = true := by decide +kernel
set_option maxRecDepth 20000 in
theorem c3_144 : k_okV 3 144 2 Y3_gets = true := by decide +kernel
set_option maxRecDepth 20000 in
theorem c4_7 : k_okV 4 7 1 Y2_day = true := by decide +kernel
