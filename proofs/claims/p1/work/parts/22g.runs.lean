theorem sk_35 : sx 6 60000 (scs (0, 4294967295) (2147483683, 2147483683)) [] sfr0 sh0 = true := by decide +kernel
theorem sk_36 : sx 6 60000 (scs (0, 4294967295) (2147483684, 2147483684)) [] sfr0 sh0 = true := by decide +kernel
theorem sk_37 : sx 6 60000 (scs (0, 4294967295) (2147483685, 2147483685)) [] sfr0 sh0 = true := by decide +kernel
theorem sl_0 : sx 0 60000 (scs (0, 4294967295) (0, 4294967295)) [] sfr0 sh0 = true := by decide +kernel
theorem sl_1 : sx 1 60000 (scs (0, 4294967295) (0, 4294967295)) [] sfr0 sh0 = true := by decide +kernel
theorem sl_2 : sx 2 60000 (scs (0, 4294967295) (0, 4294967295)) [] sfr0 sh0 = true := by decide +kernel
