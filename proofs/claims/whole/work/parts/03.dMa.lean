/-! decode rows of java/lang/Math -/
theorem dMa_floorDiv_0 : decode bMa_floorDiv 0 = .ok (.lload_n 0, 1) := by decide +kernel
theorem dMa_floorDiv_1 : decode bMa_floorDiv 1 = .ok (.lload_n 2, 1) := by decide +kernel
theorem dMa_floorDiv_2 : decode bMa_floorDiv 2 = .ok (.ldiv, 1) := by decide +kernel
theorem dMa_floorDiv_3 : decode bMa_floorDiv 3 = .ok (.lstore 4, 2) := by decide +kernel
theorem dMa_floorDiv_5 : decode bMa_floorDiv 5 = .ok (.lload_n 0, 1) := by decide +kernel
theorem dMa_floorDiv_6 : decode bMa_floorDiv 6 = .ok (.lload_n 2, 1) := by decide +kernel
theorem dMa_floorDiv_7 : decode bMa_floorDiv 7 = .ok (.lxor, 1) := by decide +kernel
theorem dMa_floorDiv_8 : decode bMa_floorDiv 8 = .ok (.lconst 0, 1) := by decide +kernel
theorem dMa_floorDiv_9 : decode bMa_floorDiv 9 = .ok (.lcmp, 1) := by decide +kernel
theorem dMa_floorDiv_10 : decode bMa_floorDiv 10 = .ok (.ifCond .ge 17, 3) := by decide +kernel
theorem dMa_floorDiv_13 : decode bMa_floorDiv 13 = .ok (.lload 4, 2) := by decide +kernel
theorem dMa_floorDiv_15 : decode bMa_floorDiv 15 = .ok (.lload_n 2, 1) := by decide +kernel
theorem dMa_floorDiv_16 : decode bMa_floorDiv 16 = .ok (.lmul, 1) := by decide +kernel
theorem dMa_floorDiv_17 : decode bMa_floorDiv 17 = .ok (.lload_n 0, 1) := by decide +kernel
theorem dMa_floorDiv_18 : decode bMa_floorDiv 18 = .ok (.lcmp, 1) := by decide +kernel
theorem dMa_floorDiv_19 : decode bMa_floorDiv 19 = .ok (.ifCond .eq 8, 3) := by decide +kernel
theorem dMa_floorDiv_22 : decode bMa_floorDiv 22 = .ok (.lload 4, 2) := by decide +kernel
theorem dMa_floorDiv_24 : decode bMa_floorDiv 24 = .ok (.lconst 1, 1) := by decide +kernel
theorem dMa_floorDiv_25 : decode bMa_floorDiv 25 = .ok (.lsub, 1) := by decide +kernel
theorem dMa_floorDiv_26 : decode bMa_floorDiv 26 = .ok (.lreturn, 1) := by decide +kernel
theorem dMa_floorDiv_27 : decode bMa_floorDiv 27 = .ok (.lload 4, 2) := by decide +kernel
theorem dMa_floorDiv_29 : decode bMa_floorDiv 29 = .ok (.lreturn, 1) := by decide +kernel
