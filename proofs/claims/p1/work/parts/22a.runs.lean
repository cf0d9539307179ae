theorem sk_lo : sx 6 60000 (scs (0, 4294967295) (0, 2147483647)) [] sfr0 sh0 = true := by decide +kernel
theorem sk_hi : sx 6 60000 (scs (0, 4294967295) (2147483686, 4294967295)) [] sfr0 sh0 = true := by decide +kernel
theorem sk_0 : sx 6 60000 (scs (0, 4294967295) (2147483648, 2147483648)) [] sfr0 sh0 = true := by decide +kernel
theorem sk_1 : sx 6 60000 (scs (0, 4294967295) (2147483649, 2147483649)) [] sfr0 sh0 = true := by decide +kernel
theorem sk_2 : sx 6 60000 (scs (0, 4294967295) (2147483650, 2147483650)) [] sfr0 sh0 = true := by decide +kernel
theorem sk_3 : sx 6 60000 (scs (0, 4294967295) (2147483651, 2147483651)) [] sfr0 sh0 = true := by decide +kernel
