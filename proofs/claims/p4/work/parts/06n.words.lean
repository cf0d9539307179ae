theorem zmG_0 : zmG 0 zm_0 = true := by decide +kernel
theorem zmG_1 : zmG 16 zm_1 = true := by decide +kernel
theorem zmG_2 : zmG 32 zm_2 = true := by decide +kernel
theorem zmG_3 : zmG 48 zm_3 = true := by decide +kernel
theorem zmG_4 : zmG 64 zm_4 = true := by decide +kernel
theorem zmG_5 : zmG 80 zm_5 = true := by decide +kernel
theorem zmG_6 : zmG 96 zm_6 = true := by decide +kernel
theorem zmG_7 : zmG 112 zm_7 = true := by decide +kernel
