set_option maxRecDepth 20000 in
theorem kt_44 : k_okT 2 42 44 46 "java/lang/IllegalArgumentException" "a day of too many slots" ["java/lang/RuntimeException", "java/lang/Exception"] = true := by decide +kernel
set_option maxRecDepth 20000 in
theorem kt_51 : k_okT 2 49 51 53 "java/lang/NegativeArraySizeException" "a day of fewer than no slots" ["java/lang/RuntimeException", "java/lang/Exception"] = true := by decide +kernel
set_option maxRecDepth 20000 in
theorem kt_79 : k_okT 2 77 79 81 "java/lang/IndexOutOfBoundsException" "no such channels" ["java/lang/RuntimeException", "java/lang/Exception"] = true := by decide +kernel
set_option maxRecDepth 20000 in
theorem kt_93 : k_okT 2 77 93 81 "java/lang/IndexOutOfBoundsException" "no such limit" ["java/lang/RuntimeException", "java/lang/Exception"] = true := by decide +kernel
set_option maxRecDepth 20000 in
theorem kt_101 : k_okT 2 77 101 81 "java/lang/IndexOutOfBoundsException" "no such words" ["java/lang/RuntimeException", "java/lang/Exception"] = true := by decide +kernel
set_option maxRecDepth 20000 in
theorem kt_124 : k_okT 2 122 124 126 "java/lang/IllegalStateException" "the unit has not heard the whole message" ["java/lang/RuntimeException", "java/lang/Exception"] = true := by decide +kernel
set_option maxRecDepth 20000 in
theorem kt_152 : k_okT 2 77 152 81 "java/lang/IndexOutOfBoundsException" "no such place among the units" ["java/lang/RuntimeException", "java/lang/Exception"] = true := by decide +kernel
set_option maxRecDepth 20000 in
theorem kt_160 : k_okT 2 77 160 81 "java/lang/IndexOutOfBoundsException" "no such part of the day" ["java/lang/RuntimeException", "java/lang/Exception"] = true := by decide +kernel
set_option maxRecDepth 20000 in
theorem kt_168 : k_okT 2 42 168 46 "java/lang/IllegalArgumentException" "no such unit" ["java/lang/RuntimeException", "java/lang/Exception"] = true := by decide +kernel
set_option maxRecDepth 20000 in
theorem kt_170 : k_okT 2 42 170 46 "java/lang/IllegalArgumentException" "no such message" ["java/lang/RuntimeException", "java/lang/Exception"] = true := by decide +kernel
