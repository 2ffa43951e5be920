theorem d4_law_174 : decode (k_cc Y4_law) 174 = .ok (.invokestatic 88, 3) := by decide +kernel
theorem d4_law_204 : decode (k_cc Y4_law) 204 = .ok (.invokevirtual 91, 3) := by decide +kernel
theorem d4_law_210 : decode (k_cc Y4_law) 210 = .ok (.invokevirtual 84, 3) := by decide +kernel
theorem d4_law_219 : decode (k_cc Y4_law) 219 = .ok (.ireturn, 1) := by decide +kernel
theorem d4_law_236 : decode (k_cc Y4_law) 236 = .ok (.ireturn, 1) := by decide +kernel
theorem d4_law_265 : decode (k_cc Y4_law) 265 = .ok (.invokestatic 92, 3) := by decide +kernel
theorem d4_law_295 : decode (k_cc Y4_law) 295 = .ok (.invokevirtual 95, 3) := by decide +kernel
theorem d4_law_299 : decode (k_cc Y4_law) 299 = .ok (.invokevirtual 84, 3) := by decide +kernel
theorem d4_law_308 : decode (k_cc Y4_law) 308 = .ok (.ireturn, 1) := by decide +kernel
theorem d4_law_338 : decode (k_cc Y4_law) 338 = .ok (.invokestatic 96, 3) := by decide +kernel
theorem d4_law_368 : decode (k_cc Y4_law) 368 = .ok (.invokevirtual 98, 3) := by decide +kernel
theorem d4_law_374 : decode (k_cc Y4_law) 374 = .ok (.invokevirtual 84, 3) := by decide +kernel
theorem d4_law_383 : decode (k_cc Y4_law) 383 = .ok (.ireturn, 1) := by decide +kernel
theorem d4_law_400 : decode (k_cc Y4_law) 400 = .ok (.ireturn, 1) := by decide +kernel
theorem d4_law_418 : decode (k_cc Y4_law) 418 = .ok (.invokestatic 99, 3) := by decide +kernel
theorem d4_law_436 : decode (k_cc Y4_law) 436 = .ok (.invokevirtual 102, 3) := by decide +kernel
theorem d4_law_442 : decode (k_cc Y4_law) 442 = .ok (.invokevirtual 84, 3) := by decide +kernel
theorem d4_law_451 : decode (k_cc Y4_law) 451 = .ok (.ireturn, 1) := by decide +kernel
theorem d4_law_475 : decode (k_cc Y4_law) 475 = .ok (.ireturn, 1) := by decide +kernel
theorem d4_law_486 : decode (k_cc Y4_law) 486 = .ok (.invokestatic 103, 3) := by decide +kernel
theorem d4_law_498 : decode (k_cc Y4_law) 498 = .ok (.invokevirtual 105, 3) := by decide +kernel
theorem d4_law_502 : decode (k_cc Y4_law) 502 = .ok (.invokevirtual 84, 3) := by decide +kernel
theorem d4_law_511 : decode (k_cc Y4_law) 511 = .ok (.ireturn, 1) := by decide +kernel
theorem d4_law_541 : decode (k_cc Y4_law) 541 = .ok (.invokestatic 106, 3) := by decide +kernel
theorem d4_law_571 : decode (k_cc Y4_law) 571 = .ok (.invokevirtual 108, 3) := by decide +kernel
theorem d4_law_577 : decode (k_cc Y4_law) 577 = .ok (.invokevirtual 84, 3) := by decide +kernel
theorem d4_law_586 : decode (k_cc Y4_law) 586 = .ok (.ireturn, 1) := by decide +kernel
theorem d4_law_603 : decode (k_cc Y4_law) 603 = .ok (.ireturn, 1) := by decide +kernel
theorem d4_law_633 : decode (k_cc Y4_law) 633 = .ok (.invokestatic 109, 3) := by decide +kernel
theorem d4_law_663 : decode (k_cc Y4_law) 663 = .ok (.invokevirtual 111, 3) := by decide +kernel
theorem d4_law_669 : decode (k_cc Y4_law) 669 = .ok (.invokevirtual 84, 3) := by decide +kernel
theorem d4_law_678 : decode (k_cc Y4_law) 678 = .ok (.ireturn, 1) := by decide +kernel
theorem d4_law_695 : decode (k_cc Y4_law) 695 = .ok (.ireturn, 1) := by decide +kernel
theorem d4_law_707 : decode (k_cc Y4_law) 707 = .ok (.invokestatic 112, 3) := by decide +kernel
theorem d4_law_719 : decode (k_cc Y4_law) 719 = .ok (.invokevirtual 115, 3) := by decide +kernel
theorem d4_law_725 : decode (k_cc Y4_law) 725 = .ok (.invokevirtual 84, 3) := by decide +kernel
