theorem sk_28 : sx 6 60000 (scs (0, 4294967295) (2147483676, 2147483676)) [] sfr0 sh0 = true := by decide +kernel
theorem sk_29 : sx 6 60000 (scs (0, 4294967295) (2147483677, 2147483677)) [] sfr0 sh0 = true := by decide +kernel
theorem sk_30 : sx 6 60000 (scs (0, 4294967295) (2147483678, 2147483678)) [] sfr0 sh0 = true := by decide +kernel
theorem sk_31 : sx 6 60000 (scs (0, 4294967295) (2147483679, 2147483679)) [] sfr0 sh0 = true := by decide +kernel
theorem sk_33 : sx 6 60000 (scs (0, 4294967295) (2147483681, 2147483681)) [] sfr0 sh0 = true := by decide +kernel
theorem sk_34 : sx 6 60000 (scs (0, 4294967295) (2147483682, 2147483682)) [] sfr0 sh0 = true := by decide +kernel
