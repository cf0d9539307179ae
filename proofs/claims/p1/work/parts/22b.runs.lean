theorem sk_4 : sx 6 60000 (scs (0, 4294967295) (2147483652, 2147483652)) [] sfr0 sh0 = true := by decide +kernel
theorem sk_5 : sx 6 60000 (scs (0, 4294967295) (2147483653, 2147483653)) [] sfr0 sh0 = true := by decide +kernel
theorem sk_6 : sx 6 60000 (scs (0, 4294967295) (2147483654, 2147483654)) [] sfr0 sh0 = true := by decide +kernel
theorem sk_7 : sx 6 60000 (scs (0, 4294967295) (2147483655, 2147483655)) [] sfr0 sh0 = true := by decide +kernel
theorem sk_8 : sx 6 60000 (scs (0, 4294967295) (2147483656, 2147483656)) [] sfr0 sh0 = true := by decide +kernel
theorem sk_9 : sx 6 60000 (scs (0, 4294967295) (2147483657, 2147483657)) [] sfr0 sh0 = true := by decide +kernel
