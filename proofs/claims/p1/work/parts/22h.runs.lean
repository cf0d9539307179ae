theorem sl_3 : sx 3 60000 (scs (0, 4294967295) (0, 4294967295)) [] sfr0 sh0 = true := by decide +kernel
theorem sl_4 : sx 4 60000 (scs (0, 4294967295) (0, 4294967295)) [] sfr0 sh0 = true := by decide +kernel
theorem sl_5 : sx 5 60000 (scs (0, 4294967295) (0, 4294967295)) [] sfr0 sh0 = true := by decide +kernel
