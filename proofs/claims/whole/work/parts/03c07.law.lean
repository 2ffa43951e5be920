theorem d4_law_734 : decode (k_cc Y4_law) 734 = .ok (.ireturn, 1) := by decide +kernel
theorem d4_law_758 : decode (k_cc Y4_law) 758 = .ok (.ireturn, 1) := by decide +kernel
theorem d4_law_776 : decode (k_cc Y4_law) 776 = .ok (.invokestatic 116, 3) := by decide +kernel
theorem d4_law_794 : decode (k_cc Y4_law) 794 = .ok (.invokevirtual 118, 3) := by decide +kernel
theorem d4_law_800 : decode (k_cc Y4_law) 800 = .ok (.invokevirtual 84, 3) := by decide +kernel
theorem d4_law_809 : decode (k_cc Y4_law) 809 = .ok (.ireturn, 1) := by decide +kernel
theorem d4_law_826 : decode (k_cc Y4_law) 826 = .ok (.ireturn, 1) := by decide +kernel
theorem d4_law_844 : decode (k_cc Y4_law) 844 = .ok (.invokestatic 119, 3) := by decide +kernel
theorem d4_law_862 : decode (k_cc Y4_law) 862 = .ok (.invokevirtual 121, 3) := by decide +kernel
theorem d4_law_868 : decode (k_cc Y4_law) 868 = .ok (.invokevirtual 84, 3) := by decide +kernel
theorem d4_law_877 : decode (k_cc Y4_law) 877 = .ok (.ireturn, 1) := by decide +kernel
theorem d4_law_894 : decode (k_cc Y4_law) 894 = .ok (.ireturn, 1) := by decide +kernel
theorem d4_law_906 : decode (k_cc Y4_law) 906 = .ok (.invokestatic 122, 3) := by decide +kernel
theorem d4_law_918 : decode (k_cc Y4_law) 918 = .ok (.invokevirtual 124, 3) := by decide +kernel
theorem d4_law_924 : decode (k_cc Y4_law) 924 = .ok (.invokevirtual 84, 3) := by decide +kernel
theorem d4_law_933 : decode (k_cc Y4_law) 933 = .ok (.ireturn, 1) := by decide +kernel
theorem d4_law_950 : decode (k_cc Y4_law) 950 = .ok (.ireturn, 1) := by decide +kernel
theorem d4_law_962 : decode (k_cc Y4_law) 962 = .ok (.invokestatic 125, 3) := by decide +kernel
theorem d4_law_974 : decode (k_cc Y4_law) 974 = .ok (.invokevirtual 127, 3) := by decide +kernel
theorem d4_law_980 : decode (k_cc Y4_law) 980 = .ok (.invokevirtual 84, 3) := by decide +kernel
theorem d4_law_989 : decode (k_cc Y4_law) 989 = .ok (.ireturn, 1) := by decide +kernel
theorem d4_law_1006 : decode (k_cc Y4_law) 1006 = .ok (.ireturn, 1) := by decide +kernel
theorem d4_law_1024 : decode (k_cc Y4_law) 1024 = .ok (.invokestatic 128, 3) := by decide +kernel
theorem d4_law_1042 : decode (k_cc Y4_law) 1042 = .ok (.invokevirtual 130, 3) := by decide +kernel
theorem d4_law_1048 : decode (k_cc Y4_law) 1048 = .ok (.invokevirtual 84, 3) := by decide +kernel
theorem d4_law_1057 : decode (k_cc Y4_law) 1057 = .ok (.ireturn, 1) := by decide +kernel
theorem d4_law_1074 : decode (k_cc Y4_law) 1074 = .ok (.ireturn, 1) := by decide +kernel
theorem d4_law_1098 : decode (k_cc Y4_law) 1098 = .ok (.invokestatic 131, 3) := by decide +kernel
theorem d4_law_1122 : decode (k_cc Y4_law) 1122 = .ok (.invokevirtual 134, 3) := by decide +kernel
theorem d4_law_1128 : decode (k_cc Y4_law) 1128 = .ok (.invokevirtual 84, 3) := by decide +kernel
theorem d4_law_1137 : decode (k_cc Y4_law) 1137 = .ok (.ireturn, 1) := by decide +kernel
theorem d4_law_1154 : decode (k_cc Y4_law) 1154 = .ok (.ireturn, 1) := by decide +kernel
theorem d4_law_1165 : decode (k_cc Y4_law) 1165 = .ok (.ireturn, 1) := by decide +kernel
