/-- bounds: of the second and third int of the script, and of its first by 63 -/
def scs2 (v1 v2 v6 : Nat × Nat) : sI := [sfa, v1, v2, sfa, sfa, sfa, v6, sfa, sfa, sfa, sfa, sfa, sfa, sfa, sfa, sfa, sfa, sfa, sfa, sfa, sfa, sfa, sfa, sfa, sfa, sfa, sfa, sfa, sfa, sfa, sfa, sfa, sfa, sfa, sfa, sfa, sfa, sfa]
theorem sk_32_lo : sx 6 60000 (scs2 (0, 2147483647) (0, 4294967295) (2147483680, 2147483680)) [] sfr0 sh0 = true := by decide +kernel
theorem sk_32_hi : sx 6 60000 (scs2 (2147483654, 4294967295) (0, 4294967295) (2147483680, 2147483680)) [] sfr0 sh0 = true := by decide +kernel
theorem sk_32_slo : sx 6 60000 (scs2 (2147483648, 2147483653) (0, 2147483647) (2147483680, 2147483680)) [] sfr0 sh0 = true := by decide +kernel
theorem sk_32_shi : sx 6 60000 (scs2 (2147483648, 2147483653) (2147483653, 4294967295) (2147483680, 2147483680)) [] sfr0 sh0 = true := by decide +kernel
