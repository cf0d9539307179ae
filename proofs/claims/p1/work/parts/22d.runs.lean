theorem sk_16 : sx 6 60000 (scs (0, 4294967295) (2147483664, 2147483664)) [] sfr0 sh0 = true := by decide +kernel
theorem sk_17 : sx 6 60000 (scs (0, 4294967295) (2147483665, 2147483665)) [] sfr0 sh0 = true := by decide +kernel
theorem sk_18 : sx 6 60000 (scs (0, 4294967295) (2147483666, 2147483666)) [] sfr0 sh0 = true := by decide +kernel
theorem sk_19 : sx 6 60000 (scs (0, 4294967295) (2147483667, 2147483667)) [] sfr0 sh0 = true := by decide +kernel
theorem sk_20 : sx 6 60000 (scs (0, 4294967295) (2147483668, 2147483668)) [] sfr0 sh0 = true := by decide +kernel
theorem sk_21 : sx 6 60000 (scs (0, 4294967295) (2147483669, 2147483669)) [] sfr0 sh0 = true := by decide +kernel
