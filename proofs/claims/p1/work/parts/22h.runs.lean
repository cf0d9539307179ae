theorem sk_32_1 : sx 6 60000 (scs (2147483649, 2147483649) (2147483680, 2147483680)) [] sfr0 sh0 = true := by decide +kernel
theorem sk_32_2 : sx 6 60000 (scs (2147483650, 2147483650) (2147483680, 2147483680)) [] sfr0 sh0 = true := by decide +kernel
theorem sk_32_3 : sx 6 60000 (scs (2147483651, 2147483651) (2147483680, 2147483680)) [] sfr0 sh0 = true := by decide +kernel
theorem sk_32_4 : sx 6 60000 (scs (2147483652, 2147483652) (2147483680, 2147483680)) [] sfr0 sh0 = true := by decide +kernel
theorem sk_32_5 : sx 6 60000 (scs (2147483653, 2147483653) (2147483680, 2147483680)) [] sfr0 sh0 = true := by decide +kernel
theorem sl_0 : sx 0 60000 (scs (0, 4294967295) (0, 4294967295)) [] sfr0 sh0 = true := by decide +kernel
