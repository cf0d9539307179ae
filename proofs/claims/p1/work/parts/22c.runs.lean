theorem sk_10 : sx 6 60000 (scs (0, 4294967295) (2147483658, 2147483658)) [] sfr0 sh0 = true := by decide +kernel
theorem sk_11 : sx 6 60000 (scs (0, 4294967295) (2147483659, 2147483659)) [] sfr0 sh0 = true := by decide +kernel
theorem sk_12 : sx 6 60000 (scs (0, 4294967295) (2147483660, 2147483660)) [] sfr0 sh0 = true := by decide +kernel
theorem sk_13 : sx 6 60000 (scs (0, 4294967295) (2147483661, 2147483661)) [] sfr0 sh0 = true := by decide +kernel
theorem sk_14 : sx 6 60000 (scs (0, 4294967295) (2147483662, 2147483662)) [] sfr0 sh0 = true := by decide +kernel
theorem sk_15 : sx 6 60000 (scs (0, 4294967295) (2147483663, 2147483663)) [] sfr0 sh0 = true := by decide +kernel
