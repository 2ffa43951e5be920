set_option maxRecDepth 20000 in
theorem c0_43 : k_okV 0 43 4 Y0_setOn = true := by decide +kernel
set_option maxRecDepth 20000 in
theorem c1_29 : k_okV 1 29 4 Y1_move = true := by decide +kernel
set_option maxRecDepth 20000 in
theorem c2_11 : k_okI 2 11 1 Y1_init = true := by decide +kernel
set_option maxRecDepth 20000 in
theorem c2_23 : k_okI 2 23 1 Y0_init = true := by decide +kernel
set_option maxRecDepth 20000 in
theorem c2_39 : k_okV 2 39 0 Y2_forgetAll = true := by decide +kernel
set_option maxRecDepth 20000 in
theorem c2_58 : k_okV 2 58 5 Y2_place = true := by decide +kernel
set_option maxRecDepth 20000 in
theorem c2_62 : k_okV 2 62 1 Y2_needUnit = true := by decide +kernel
set_option maxRecDepth 20000 in
theorem c2_65 : k_okV 2 65 3 Y2_needPlace = true := by decide +kernel
set_option maxRecDepth 20000 in
theorem c2_69 : k_okV 2 69 4 Y1_move = true := by decide +kernel
set_option maxRecDepth 20000 in
theorem c2_73 : k_okV 2 73 1 Y2_isChannel = true := by decide +kernel
set_option maxRecDepth 20000 in
theorem c2_82 : k_okV 2 82 2 Y2_areJoined = true := by decide +kernel
set_option maxRecDepth 20000 in
theorem c2_86 : k_okV 2 86 2 Y2_joinGroups = true := by decide +kernel
set_option maxRecDepth 20000 in
theorem c2_90 : k_okV 2 90 0 Y2_planAll = true := by decide +kernel
set_option maxRecDepth 20000 in
theorem c2_98 : k_okV 2 98 2 Y2_needBegin = true := by decide +kernel
set_option maxRecDepth 20000 in
theorem c2_103 : k_okV 2 103 2 Y2_needFreeBegin = true := by decide +kernel
set_option maxRecDepth 20000 in
theorem c2_106 : k_okV 2 106 0 Y2_needRoomForMessage = true := by decide +kernel
set_option maxRecDepth 20000 in
theorem c2_109 : k_okV 2 109 4 Y2_tell = true := by decide +kernel
set_option maxRecDepth 20000 in
theorem c2_113 : k_okV 2 113 1 Y2_needMessage = true := by decide +kernel
set_option maxRecDepth 20000 in
theorem c2_119 : k_okV 2 119 2 Y2_heardAllSlots = true := by decide +kernel
set_option maxRecDepth 20000 in
theorem c2_130 : k_okV 2 130 1 Y2_needSlot = true := by decide +kernel
set_option maxRecDepth 20000 in
theorem c2_136 : k_okV 2 136 2 Y2_messageOn = true := by decide +kernel
set_option maxRecDepth 20000 in
theorem c2_140 : k_okV 2 140 2 Y2_receives = true := by decide +kernel
set_option maxRecDepth 20000 in
theorem c2_143 : k_okV 2 143 2 Y0_wordIn = true := by decide +kernel
set_option maxRecDepth 20000 in
theorem c2_146 : k_okV 2 146 1 Y2_needChannel = true := by decide +kernel
set_option maxRecDepth 20000 in
theorem c2_157 : k_okV 2 157 2 Y2_missed = true := by decide +kernel
set_option maxRecDepth 20000 in
theorem c2_164 : k_okV 2 164 3 Y0_slotsOnWithin = true := by decide +kernel
set_option maxRecDepth 20000 in
theorem c2_174 : k_okV 2 174 1 Y2_isSlot = true := by decide +kernel
set_option maxRecDepth 20000 in
theorem c2_190 : k_okV 2 190 2 Y0_hasBegin = true := by decide +kernel
set_option maxRecDepth 20000 in
theorem c2_202 : k_okV 2 202 0 Y1_isFull = true := by decide +kernel
set_option maxRecDepth 20000 in
theorem c2_208 : k_okV 2 208 4 Y1_add = true := by decide +kernel
set_option maxRecDepth 20000 in
theorem c2_211 : k_okV 2 211 5 Y0_add = true := by decide +kernel
