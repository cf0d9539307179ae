theorem zmG_8 : zmG 128 zm_8 = true := by decide +kernel
theorem zmG_9 : zmG 144 zm_9 = true := by decide +kernel
theorem zmG_10 : zmG 160 zm_10 = true := by decide +kernel
theorem zmG_11 : zmG 176 zm_11 = true := by decide +kernel
theorem zmG_12 : zmG 192 zm_12 = true := by decide +kernel
theorem zmG_13 : zmG 208 zm_13 = true := by decide +kernel
theorem zmG_14 : zmG 224 zm_14 = true := by decide +kernel
theorem zmG_15 : zmG 240 zm_15 = true := by decide +kernel
