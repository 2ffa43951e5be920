set_option maxRecDepth 20000 in
theorem kt_172 : k_okT 2 42 172 46 "java/lang/IllegalArgumentException" "no such channel" ["java/lang/RuntimeException", "java/lang/Exception"] = true := by decide +kernel
set_option maxRecDepth 20000 in
theorem kt_179 : k_okT 2 177 179 181 "java/lang/ArrayIndexOutOfBoundsException" "no such slot" ["java/lang/IndexOutOfBoundsException", "java/lang/RuntimeException", "java/lang/Exception"] = true := by decide +kernel
set_option maxRecDepth 20000 in
theorem kt_182 : k_okT 2 77 182 81 "java/lang/IndexOutOfBoundsException" "no such point" ["java/lang/RuntimeException", "java/lang/Exception"] = true := by decide +kernel
set_option maxRecDepth 20000 in
theorem kt_184 : k_okT 2 77 184 81 "java/lang/IndexOutOfBoundsException" "no channel of that number" ["java/lang/RuntimeException", "java/lang/Exception"] = true := by decide +kernel
set_option maxRecDepth 20000 in
theorem kt_186 : k_okT 2 77 186 81 "java/lang/IndexOutOfBoundsException" "no slot of that number" ["java/lang/RuntimeException", "java/lang/Exception"] = true := by decide +kernel
set_option maxRecDepth 20000 in
theorem kt_188 : k_okT 2 77 188 81 "java/lang/IndexOutOfBoundsException" "no such rank" ["java/lang/RuntimeException", "java/lang/Exception"] = true := by decide +kernel
set_option maxRecDepth 20000 in
theorem kt_193 : k_okT 2 122 193 126 "java/lang/IllegalStateException" "the unit has a message that begins in this slot" ["java/lang/RuntimeException", "java/lang/Exception"] = true := by decide +kernel
set_option maxRecDepth 20000 in
theorem kt_197 : k_okT 2 195 197 199 "java/lang/UnsupportedOperationException" "no room for one more message" ["java/lang/RuntimeException", "java/lang/Exception"] = true := by decide +kernel
set_option maxRecDepth 20000 in
theorem kt_200 : k_okT 2 77 200 81 "java/lang/IndexOutOfBoundsException" "no such reach" ["java/lang/RuntimeException", "java/lang/Exception"] = true := by decide +kernel
set_option maxRecDepth 20000 in
theorem kt_206 : k_okT 2 195 206 199 "java/lang/UnsupportedOperationException" "no room for one more" ["java/lang/RuntimeException", "java/lang/Exception"] = true := by decide +kernel
