theorem sk_22 : sx 6 60000 (scs (0, 4294967295) (2147483670, 2147483670)) [] sfr0 sh0 = true := by decide +kernel
theorem sk_23 : sx 6 60000 (scs (0, 4294967295) (2147483671, 2147483671)) [] sfr0 sh0 = true := by decide +kernel
theorem sk_24 : sx 6 60000 (scs (0, 4294967295) (2147483672, 2147483672)) [] sfr0 sh0 = true := by decide +kernel
theorem sk_25 : sx 6 60000 (scs (0, 4294967295) (2147483673, 2147483673)) [] sfr0 sh0 = true := by decide +kernel
theorem sk_26 : sx 6 60000 (scs (0, 4294967295) (2147483674, 2147483674)) [] sfr0 sh0 = true := by decide +kernel
theorem sk_27 : sx 6 60000 (scs (0, 4294967295) (2147483675, 2147483675)) [] sfr0 sh0 = true := by decide +kernel
