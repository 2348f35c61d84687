/-! 7 strands, by the end of the first -/
theorem en_70 : en 7 6 1 0 = true := by decide +kernel
theorem en_71 : en 7 6 1 1 = true := by decide +kernel
theorem en_72 : en 7 6 1 2 = true := by decide +kernel
theorem en_73 : en 7 6 1 3 = true := by decide +kernel
theorem en_74 : en 7 6 1 4 = true := by decide +kernel
theorem en_75 : en 7 6 1 5 = true := by decide +kernel
theorem en_76 : en 7 6 1 6 = true := by decide +kernel
