theorem sk_35 : sx 6 60000 (scs (0, 4294967295) (2147483683, 2147483683)) [] sfr0 sh0 = true := by decide +kernel
theorem sk_36 : sx 6 60000 (scs (0, 4294967295) (2147483684, 2147483684)) [] sfr0 sh0 = true := by decide +kernel
theorem sk_37 : sx 6 60000 (scs (0, 4294967295) (2147483685, 2147483685)) [] sfr0 sh0 = true := by decide +kernel
theorem sk_32_lo : sx 6 60000 (scs (0, 2147483647) (2147483680, 2147483680)) [] sfr0 sh0 = true := by decide +kernel
theorem sk_32_hi : sx 6 60000 (scs (2147483654, 4294967295) (2147483680, 2147483680)) [] sfr0 sh0 = true := by decide +kernel
theorem sk_32_0 : sx 6 60000 (scs (2147483648, 2147483648) (2147483680, 2147483680)) [] sfr0 sh0 = true := by decide +kernel
