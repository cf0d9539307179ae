/-! ENTRIES and their checks: printed by a program (wip/ai). -/
/-- ColdShod$LawText.readLevel(LColdShod$LawCode;II)Z -/
def kE1046 : aE := (65, 43, ([], [], 0, [kvR 40, kvR 17, kvN 0, kvN 1, none, none, none], []), ([], none), ([kvB 0 1], [], kvI 0, ([], [])), kvW88)
def kC1046_0 : aC := (([kvB 0 120], [], 42, [kvR 40, kvR 17, kvN 0, kvN 1, kvN 120, kvI 0, none], []), ([], []), (120, [(-1, 0)]))
theorem ks1046 : aseg kS krf kB [kE1045, kE1003] (ksp []) kE1046 [kC1046_0] 30000 (none) = true := by decide +kernel
theorem ks1046_0 : aseg kS krf kB [kE1045, kE1003] (ksp []) kE1046 [kC1046_0] 30000 (some kC1046_0) = true := by decide +kernel
theorem kok1046 : aOK kS krf kB kE1046 := aOK_of (kal1 kok1045 (kal1 kok1003 kal0)) (kcl1 ks1046_0 kcl0) ks1046
/-- ColdShod$LawText.readOperand(LColdShod$LawCode;I)Z -/
def kE1047 : aE := (66, 44, ([], [], 0, [kvR 40, kvR 17, kvN 0, none, none], []), ([], none), ([kvB 0 1], [], kvI 0, ([], [])), kvW88)
theorem ks1047 : aseg kS krf kB [kE1004, kE1003, kE1040, kE1046] (ksp []) kE1047 [] 30000 (none) = true := by decide +kernel
theorem kok1047 : aOK kS krf kB kE1047 := aOK_of (kal1 kok1004 (kal1 kok1003 (kal1 kok1040 (kal1 kok1046 kal0)))) kcl0 ks1047
/-- ColdShod$LawText.readLevel(LColdShod$LawCode;II)Z -/
def kE1048 : aE := (65, 45, ([], [], 0, [kvR 40, kvR 17, kvN 5, kvN 0, none, none, none], []), ([], none), ([kvB 0 1], [], kvI 0, ([], [])), kvW88)
theorem ks1048 : aseg kS krf kB [kE1047] (ksp []) kE1048 [] 30000 (none) = true := by decide +kernel
theorem kok1048 : aOK kS krf kB kE1048 := aOK_of (kal1 kok1047 kal0) kcl0 ks1048
/-- ColdShod$LawText.readLevel(LColdShod$LawCode;II)Z -/
def kE1049 : aE := (65, 46, ([], [], 0, [kvR 40, kvR 17, kvN 4, kvN 0, none, none, none], []), ([], none), ([kvB 0 1], [], kvI 0, ([], [])), kvW88)
def kC1049_0 : aC := (([kvB 0 120], [], 42, [kvR 40, kvR 17, kvN 4, kvN 0, kvN 120, kvI 0, none], []), ([], []), (120, [(-1, 0)]))
theorem ks1049 : aseg kS krf kB [kE1048, kE1003] (ksp []) kE1049 [kC1049_0] 30000 (none) = true := by decide +kernel
theorem ks1049_0 : aseg kS krf kB [kE1048, kE1003] (ksp []) kE1049 [kC1049_0] 30000 (some kC1049_0) = true := by decide +kernel
theorem kok1049 : aOK kS krf kB kE1049 := aOK_of (kal1 kok1048 (kal1 kok1003 kal0)) (kcl1 ks1049_0 kcl0) ks1049
/-- ColdShod$LawText.readLevel(LColdShod$LawCode;II)Z -/
def kE1050 : aE := (65, 47, ([], [], 0, [kvR 40, kvR 17, kvN 3, kvN 0, none, none, none], []), ([], none), ([kvB 0 1], [], kvI 0, ([], [])), kvW88)
def kC1050_0 : aC := (([kvB 0 120], [], 42, [kvR 40, kvR 17, kvN 3, kvN 0, kvN 120, kvI 0, none], []), ([], []), (120, [(-1, 0)]))
theorem ks1050 : aseg kS krf kB [kE1049, kE1003] (ksp []) kE1050 [kC1050_0] 30000 (none) = true := by decide +kernel
theorem ks1050_0 : aseg kS krf kB [kE1049, kE1003] (ksp []) kE1050 [kC1050_0] 30000 (some kC1050_0) = true := by decide +kernel
theorem kok1050 : aOK kS krf kB kE1050 := aOK_of (kal1 kok1049 (kal1 kok1003 kal0)) (kcl1 ks1050_0 kcl0) ks1050
/-- ColdShod$LawText.readLevel(LColdShod$LawCode;II)Z -/
def kE1051 : aE := (65, 48, ([], [], 0, [kvR 40, kvR 17, kvN 2, kvN 0, none, none, none], []), ([], none), ([kvB 0 1], [], kvI 0, ([], [])), kvW88)
def kC1051_0 : aC := (([kvB 0 1], [], 42, [kvR 40, kvR 17, kvN 2, kvN 0, kvN 1, kvI 0, none], []), ([], []), (1, [(-1, 0)]))
theorem ks1051 : aseg kS krf kB [kE1050, kE1003] (ksp []) kE1051 [kC1051_0] 30000 (none) = true := by decide +kernel
theorem ks1051_0 : aseg kS krf kB [kE1050, kE1003] (ksp []) kE1051 [kC1051_0] 30000 (some kC1051_0) = true := by decide +kernel
theorem kok1051 : aOK kS krf kB kE1051 := aOK_of (kal1 kok1050 (kal1 kok1003 kal0)) (kcl1 ks1051_0 kcl0) ks1051
/-- ColdShod$LawText.readLevel(LColdShod$LawCode;II)Z -/
def kE1052 : aE := (65, 49, ([], [], 0, [kvR 40, kvR 17, kvN 1, kvN 0, none, none, none], []), ([], none), ([kvB 0 1], [], kvI 0, ([], [])), kvW88)
def kC1052_0 : aC := (([kvB 0 120], [], 42, [kvR 40, kvR 17, kvN 1, kvN 0, kvN 120, kvI 0, none], []), ([], []), (120, [(-1, 0)]))
theorem ks1052 : aseg kS krf kB [kE1051, kE1003] (ksp []) kE1052 [kC1052_0] 30000 (none) = true := by decide +kernel
theorem ks1052_0 : aseg kS krf kB [kE1051, kE1003] (ksp []) kE1052 [kC1052_0] 30000 (some kC1052_0) = true := by decide +kernel
theorem kok1052 : aOK kS krf kB kE1052 := aOK_of (kal1 kok1051 (kal1 kok1003 kal0)) (kcl1 ks1052_0 kcl0) ks1052
/-- ColdShod$LawText.readLevel(LColdShod$LawCode;II)Z -/
def kE1053 : aE := (65, 50, ([], [], 0, [kvR 40, kvR 17, kvN 0, kvN 0, none, none, none], []), ([], none), ([kvB 0 1], [], kvI 0, ([], [])), kvW88)
def kC1053_0 : aC := (([kvB 0 120], [], 42, [kvR 40, kvR 17, kvN 0, kvN 0, kvN 120, kvI 0, none], []), ([], []), (120, [(-1, 0)]))
theorem ks1053 : aseg kS krf kB [kE1052, kE1003] (ksp []) kE1053 [kC1053_0] 30000 (none) = true := by decide +kernel
theorem ks1053_0 : aseg kS krf kB [kE1052, kE1003] (ksp []) kE1053 [kC1053_0] 30000 (some kC1053_0) = true := by decide +kernel
theorem kok1053 : aOK kS krf kB kE1053 := aOK_of (kal1 kok1052 (kal1 kok1003 kal0)) (kcl1 ks1053_0 kcl0) ks1053
/-- ColdShod$LawCode.add(I)V -/
def kE1054 : aE := (54, 0, ([kvA], [], 0, [kvR 14, kvI 0], []), ([], none), ([], [], none, ([], [])), kvW89)
theorem ks1054 : aseg kS krf kB [] (ksp []) kE1054 [] 30000 (none) = true := by decide +kernel
theorem kok1054 : aOK kS krf kB kE1054 := aOK_of kal0 kcl0 ks1054
/-- ColdShod$LawText.readNumber(LColdShod$LawCode;)Z -/
def kE1055 : aE := (67, 1, ([], [], 0, [kvR 40, kvR 14, none, none], []), ([], none), ([kvB 1 1], [], kvI 0, ([], [])), kvW90)
def kC1055_0 : aC := (([kvA, kvB 0 4], [], 4, [kvR 40, kvR 14, kvI 0, kvI 1], []), ([], []), (4, [(-1, 1)]))
theorem ks1055 : aseg kS krf kB [kE1054] (ksp []) kE1055 [kC1055_0] 30000 (none) = true := by decide +kernel
theorem ks1055_0 : aseg kS krf kB [kE1054] (ksp []) kE1055 [kC1055_0] 30000 (some kC1055_0) = true := by decide +kernel
theorem kok1055 : aOK kS krf kB kE1055 := aOK_of (kal1 kok1054 kal0) (kcl1 ks1055_0 kcl0) ks1055
/-- ColdShod$LawText.readOperand(LColdShod$LawCode;I)Z -/
def kE1056 : aE := (66, 2, ([], [], 0, [kvR 40, kvR 14, kvN 6, none, none], []), ([], none), ([kvB 0 1], [], kvI 0, ([], [])), kvW91)
theorem ks1056 : aseg kS krf kB [kE1055, kE1054] (ksp []) kE1056 [] 30000 (none) = true := by decide +kernel
theorem kok1056 : aOK kS krf kB kE1056 := aOK_of (kal1 kok1055 (kal1 kok1054 kal0)) kcl0 ks1056
/-- ColdShod$LawText.readLevel(LColdShod$LawCode;II)Z -/
def kE1057 : aE := (65, 3, ([], [], 0, [kvR 40, kvR 14, kvN 5, kvN 6, none, none, none], []), ([], none), ([kvB 0 1], [], kvI 0, ([], [])), kvW91)
theorem ks1057 : aseg kS krf kB [kE1056] (ksp []) kE1057 [] 30000 (none) = true := by decide +kernel
theorem kok1057 : aOK kS krf kB kE1057 := aOK_of (kal1 kok1056 kal0) kcl0 ks1057
/-- ColdShod$LawText.readLevel(LColdShod$LawCode;II)Z -/
def kE1058 : aE := (65, 4, ([], [], 0, [kvR 40, kvR 14, kvN 4, kvN 6, none, none, none], []), ([], none), ([kvB 0 1], [], kvI 0, ([], [])), kvW91)
def kC1058_0 : aC := (([kvB 0 120], [], 42, [kvR 40, kvR 14, kvN 4, kvN 6, kvN 120, kvI 0, none], []), ([], []), (120, [(-1, 0)]))
theorem ks1058 : aseg kS krf kB [kE1057, kE1054] (ksp []) kE1058 [kC1058_0] 30000 (none) = true := by decide +kernel
theorem ks1058_0 : aseg kS krf kB [kE1057, kE1054] (ksp []) kE1058 [kC1058_0] 30000 (some kC1058_0) = true := by decide +kernel
theorem kok1058 : aOK kS krf kB kE1058 := aOK_of (kal1 kok1057 (kal1 kok1054 kal0)) (kcl1 ks1058_0 kcl0) ks1058
/-- ColdShod$LawText.readLevel(LColdShod$LawCode;II)Z -/
def kE1059 : aE := (65, 5, ([], [], 0, [kvR 40, kvR 14, kvN 3, kvN 6, none, none, none], []), ([], none), ([kvB 0 1], [], kvI 0, ([], [])), kvW91)
def kC1059_0 : aC := (([kvB 0 120], [], 42, [kvR 40, kvR 14, kvN 3, kvN 6, kvN 120, kvI 0, none], []), ([], []), (120, [(-1, 0)]))
theorem ks1059 : aseg kS krf kB [kE1058, kE1054] (ksp []) kE1059 [kC1059_0] 30000 (none) = true := by decide +kernel
theorem ks1059_0 : aseg kS krf kB [kE1058, kE1054] (ksp []) kE1059 [kC1059_0] 30000 (some kC1059_0) = true := by decide +kernel
theorem kok1059 : aOK kS krf kB kE1059 := aOK_of (kal1 kok1058 (kal1 kok1054 kal0)) (kcl1 ks1059_0 kcl0) ks1059
/-- ColdShod$LawText.readLevel(LColdShod$LawCode;II)Z -/
def kE1060 : aE := (65, 6, ([], [], 0, [kvR 40, kvR 14, kvN 2, kvN 6, none, none, none], []), ([], none), ([kvB 0 1], [], kvI 0, ([], [])), kvW91)
def kC1060_0 : aC := (([kvB 0 1], [], 42, [kvR 40, kvR 14, kvN 2, kvN 6, kvN 1, kvI 0, none], []), ([], []), (1, [(-1, 0)]))
theorem ks1060 : aseg kS krf kB [kE1059, kE1054] (ksp []) kE1060 [kC1060_0] 30000 (none) = true := by decide +kernel
theorem ks1060_0 : aseg kS krf kB [kE1059, kE1054] (ksp []) kE1060 [kC1060_0] 30000 (some kC1060_0) = true := by decide +kernel
theorem kok1060 : aOK kS krf kB kE1060 := aOK_of (kal1 kok1059 (kal1 kok1054 kal0)) (kcl1 ks1060_0 kcl0) ks1060
/-- ColdShod$LawText.readLevel(LColdShod$LawCode;II)Z -/
def kE1061 : aE := (65, 7, ([], [], 0, [kvR 40, kvR 14, kvN 1, kvN 6, none, none, none], []), ([], none), ([kvB 0 1], [], kvI 0, ([], [])), kvW91)
def kC1061_0 : aC := (([kvB 0 120], [], 42, [kvR 40, kvR 14, kvN 1, kvN 6, kvN 120, kvI 0, none], []), ([], []), (120, [(-1, 0)]))
theorem ks1061 : aseg kS krf kB [kE1060, kE1054] (ksp []) kE1061 [kC1061_0] 30000 (none) = true := by decide +kernel
theorem ks1061_0 : aseg kS krf kB [kE1060, kE1054] (ksp []) kE1061 [kC1061_0] 30000 (some kC1061_0) = true := by decide +kernel
theorem kok1061 : aOK kS krf kB kE1061 := aOK_of (kal1 kok1060 (kal1 kok1054 kal0)) (kcl1 ks1061_0 kcl0) ks1061
/-- ColdShod$LawText.readLevel(LColdShod$LawCode;II)Z -/
def kE1062 : aE := (65, 8, ([], [], 0, [kvR 40, kvR 14, kvN 0, kvN 6, none, none, none], []), ([], none), ([kvB 0 1], [], kvI 0, ([], [])), kvW91)
def kC1062_0 : aC := (([kvB 0 120], [], 42, [kvR 40, kvR 14, kvN 0, kvN 6, kvN 120, kvI 0, none], []), ([], []), (120, [(-1, 0)]))
theorem ks1062 : aseg kS krf kB [kE1061, kE1054] (ksp []) kE1062 [kC1062_0] 30000 (none) = true := by decide +kernel
theorem ks1062_0 : aseg kS krf kB [kE1061, kE1054] (ksp []) kE1062 [kC1062_0] 30000 (some kC1062_0) = true := by decide +kernel
theorem kok1062 : aOK kS krf kB kE1062 := aOK_of (kal1 kok1061 (kal1 kok1054 kal0)) (kcl1 ks1062_0 kcl0) ks1062
/-- ColdShod$LawText.readOperand(LColdShod$LawCode;I)Z -/
def kE1063 : aE := (66, 9, ([], [], 0, [kvR 40, kvR 14, kvN 5, none, none], []), ([], none), ([kvB 0 1], [], kvI 0, ([], [])), kvW91)
theorem ks1063 : aseg kS krf kB [kE1055, kE1054, kE1056, kE1062] (ksp []) kE1063 [] 30000 (none) = true := by decide +kernel
theorem kok1063 : aOK kS krf kB kE1063 := aOK_of (kal1 kok1055 (kal1 kok1054 (kal1 kok1056 (kal1 kok1062 kal0)))) kcl0 ks1063
/-- ColdShod$LawText.readLevel(LColdShod$LawCode;II)Z -/
def kE1064 : aE := (65, 10, ([], [], 0, [kvR 40, kvR 14, kvN 5, kvN 5, none, none, none], []), ([], none), ([kvB 0 1], [], kvI 0, ([], [])), kvW91)
theorem ks1064 : aseg kS krf kB [kE1063] (ksp []) kE1064 [] 30000 (none) = true := by decide +kernel
theorem kok1064 : aOK kS krf kB kE1064 := aOK_of (kal1 kok1063 kal0) kcl0 ks1064
/-- ColdShod$LawText.readLevel(LColdShod$LawCode;II)Z -/
def kE1065 : aE := (65, 11, ([], [], 0, [kvR 40, kvR 14, kvN 4, kvN 5, none, none, none], []), ([], none), ([kvB 0 1], [], kvI 0, ([], [])), kvW91)
def kC1065_0 : aC := (([kvB 0 120], [], 42, [kvR 40, kvR 14, kvN 4, kvN 5, kvN 120, kvI 0, none], []), ([], []), (120, [(-1, 0)]))
theorem ks1065 : aseg kS krf kB [kE1064, kE1054] (ksp []) kE1065 [kC1065_0] 30000 (none) = true := by decide +kernel
theorem ks1065_0 : aseg kS krf kB [kE1064, kE1054] (ksp []) kE1065 [kC1065_0] 30000 (some kC1065_0) = true := by decide +kernel
theorem kok1065 : aOK kS krf kB kE1065 := aOK_of (kal1 kok1064 (kal1 kok1054 kal0)) (kcl1 ks1065_0 kcl0) ks1065
/-- ColdShod$LawText.readLevel(LColdShod$LawCode;II)Z -/
def kE1066 : aE := (65, 12, ([], [], 0, [kvR 40, kvR 14, kvN 3, kvN 5, none, none, none], []), ([], none), ([kvB 0 1], [], kvI 0, ([], [])), kvW91)
def kC1066_0 : aC := (([kvB 0 120], [], 42, [kvR 40, kvR 14, kvN 3, kvN 5, kvN 120, kvI 0, none], []), ([], []), (120, [(-1, 0)]))
theorem ks1066 : aseg kS krf kB [kE1065, kE1054] (ksp []) kE1066 [kC1066_0] 30000 (none) = true := by decide +kernel
theorem ks1066_0 : aseg kS krf kB [kE1065, kE1054] (ksp []) kE1066 [kC1066_0] 30000 (some kC1066_0) = true := by decide +kernel
theorem kok1066 : aOK kS krf kB kE1066 := aOK_of (kal1 kok1065 (kal1 kok1054 kal0)) (kcl1 ks1066_0 kcl0) ks1066
/-- ColdShod$LawText.readLevel(LColdShod$LawCode;II)Z -/
def kE1067 : aE := (65, 13, ([], [], 0, [kvR 40, kvR 14, kvN 2, kvN 5, none, none, none], []), ([], none), ([kvB 0 1], [], kvI 0, ([], [])), kvW91)
def kC1067_0 : aC := (([kvB 0 1], [], 42, [kvR 40, kvR 14, kvN 2, kvN 5, kvN 1, kvI 0, none], []), ([], []), (1, [(-1, 0)]))
theorem ks1067 : aseg kS krf kB [kE1066, kE1054] (ksp []) kE1067 [kC1067_0] 30000 (none) = true := by decide +kernel
theorem ks1067_0 : aseg kS krf kB [kE1066, kE1054] (ksp []) kE1067 [kC1067_0] 30000 (some kC1067_0) = true := by decide +kernel
theorem kok1067 : aOK kS krf kB kE1067 := aOK_of (kal1 kok1066 (kal1 kok1054 kal0)) (kcl1 ks1067_0 kcl0) ks1067
/-- ColdShod$LawText.readLevel(LColdShod$LawCode;II)Z -/
def kE1068 : aE := (65, 14, ([], [], 0, [kvR 40, kvR 14, kvN 1, kvN 5, none, none, none], []), ([], none), ([kvB 0 1], [], kvI 0, ([], [])), kvW91)
def kC1068_0 : aC := (([kvB 0 120], [], 42, [kvR 40, kvR 14, kvN 1, kvN 5, kvN 120, kvI 0, none], []), ([], []), (120, [(-1, 0)]))
theorem ks1068 : aseg kS krf kB [kE1067, kE1054] (ksp []) kE1068 [kC1068_0] 30000 (none) = true := by decide +kernel
theorem ks1068_0 : aseg kS krf kB [kE1067, kE1054] (ksp []) kE1068 [kC1068_0] 30000 (some kC1068_0) = true := by decide +kernel
theorem kok1068 : aOK kS krf kB kE1068 := aOK_of (kal1 kok1067 (kal1 kok1054 kal0)) (kcl1 ks1068_0 kcl0) ks1068
/-- ColdShod$LawText.readLevel(LColdShod$LawCode;II)Z -/
def kE1069 : aE := (65, 15, ([], [], 0, [kvR 40, kvR 14, kvN 0, kvN 5, none, none, none], []), ([], none), ([kvB 0 1], [], kvI 0, ([], [])), kvW91)
def kC1069_0 : aC := (([kvB 0 120], [], 42, [kvR 40, kvR 14, kvN 0, kvN 5, kvN 120, kvI 0, none], []), ([], []), (120, [(-1, 0)]))
theorem ks1069 : aseg kS krf kB [kE1068, kE1054] (ksp []) kE1069 [kC1069_0] 30000 (none) = true := by decide +kernel
theorem ks1069_0 : aseg kS krf kB [kE1068, kE1054] (ksp []) kE1069 [kC1069_0] 30000 (some kC1069_0) = true := by decide +kernel
theorem kok1069 : aOK kS krf kB kE1069 := aOK_of (kal1 kok1068 (kal1 kok1054 kal0)) (kcl1 ks1069_0 kcl0) ks1069
/-- ColdShod$LawText.readOperand(LColdShod$LawCode;I)Z -/
def kE1070 : aE := (66, 16, ([], [], 0, [kvR 40, kvR 14, kvN 4, none, none], []), ([], none), ([kvB 0 1], [], kvI 0, ([], [])), kvW91)
theorem ks1070 : aseg kS krf kB [kE1055, kE1054, kE1063, kE1069] (ksp []) kE1070 [] 30000 (none) = true := by decide +kernel
theorem kok1070 : aOK kS krf kB kE1070 := aOK_of (kal1 kok1055 (kal1 kok1054 (kal1 kok1063 (kal1 kok1069 kal0)))) kcl0 ks1070
/-- ColdShod$LawText.readLevel(LColdShod$LawCode;II)Z -/
def kE1071 : aE := (65, 17, ([], [], 0, [kvR 40, kvR 14, kvN 5, kvN 4, none, none, none], []), ([], none), ([kvB 0 1], [], kvI 0, ([], [])), kvW91)
theorem ks1071 : aseg kS krf kB [kE1070] (ksp []) kE1071 [] 30000 (none) = true := by decide +kernel
theorem kok1071 : aOK kS krf kB kE1071 := aOK_of (kal1 kok1070 kal0) kcl0 ks1071
/-- ColdShod$LawText.readLevel(LColdShod$LawCode;II)Z -/
def kE1072 : aE := (65, 18, ([], [], 0, [kvR 40, kvR 14, kvN 4, kvN 4, none, none, none], []), ([], none), ([kvB 0 1], [], kvI 0, ([], [])), kvW91)
def kC1072_0 : aC := (([kvB 0 120], [], 42, [kvR 40, kvR 14, kvN 4, kvN 4, kvN 120, kvI 0, none], []), ([], []), (120, [(-1, 0)]))
theorem ks1072 : aseg kS krf kB [kE1071, kE1054] (ksp []) kE1072 [kC1072_0] 30000 (none) = true := by decide +kernel
theorem ks1072_0 : aseg kS krf kB [kE1071, kE1054] (ksp []) kE1072 [kC1072_0] 30000 (some kC1072_0) = true := by decide +kernel
theorem kok1072 : aOK kS krf kB kE1072 := aOK_of (kal1 kok1071 (kal1 kok1054 kal0)) (kcl1 ks1072_0 kcl0) ks1072
/-- ColdShod$LawText.readLevel(LColdShod$LawCode;II)Z -/
def kE1073 : aE := (65, 19, ([], [], 0, [kvR 40, kvR 14, kvN 3, kvN 4, none, none, none], []), ([], none), ([kvB 0 1], [], kvI 0, ([], [])), kvW91)
def kC1073_0 : aC := (([kvB 0 120], [], 42, [kvR 40, kvR 14, kvN 3, kvN 4, kvN 120, kvI 0, none], []), ([], []), (120, [(-1, 0)]))
theorem ks1073 : aseg kS krf kB [kE1072, kE1054] (ksp []) kE1073 [kC1073_0] 30000 (none) = true := by decide +kernel
theorem ks1073_0 : aseg kS krf kB [kE1072, kE1054] (ksp []) kE1073 [kC1073_0] 30000 (some kC1073_0) = true := by decide +kernel
theorem kok1073 : aOK kS krf kB kE1073 := aOK_of (kal1 kok1072 (kal1 kok1054 kal0)) (kcl1 ks1073_0 kcl0) ks1073
/-- ColdShod$LawText.readLevel(LColdShod$LawCode;II)Z -/
def kE1074 : aE := (65, 20, ([], [], 0, [kvR 40, kvR 14, kvN 2, kvN 4, none, none, none], []), ([], none), ([kvB 0 1], [], kvI 0, ([], [])), kvW91)
def kC1074_0 : aC := (([kvB 0 1], [], 42, [kvR 40, kvR 14, kvN 2, kvN 4, kvN 1, kvI 0, none], []), ([], []), (1, [(-1, 0)]))
theorem ks1074 : aseg kS krf kB [kE1073, kE1054] (ksp []) kE1074 [kC1074_0] 30000 (none) = true := by decide +kernel
theorem ks1074_0 : aseg kS krf kB [kE1073, kE1054] (ksp []) kE1074 [kC1074_0] 30000 (some kC1074_0) = true := by decide +kernel
theorem kok1074 : aOK kS krf kB kE1074 := aOK_of (kal1 kok1073 (kal1 kok1054 kal0)) (kcl1 ks1074_0 kcl0) ks1074
/-- ColdShod$LawText.readLevel(LColdShod$LawCode;II)Z -/
def kE1075 : aE := (65, 21, ([], [], 0, [kvR 40, kvR 14, kvN 1, kvN 4, none, none, none], []), ([], none), ([kvB 0 1], [], kvI 0, ([], [])), kvW91)
def kC1075_0 : aC := (([kvB 0 120], [], 42, [kvR 40, kvR 14, kvN 1, kvN 4, kvN 120, kvI 0, none], []), ([], []), (120, [(-1, 0)]))
theorem ks1075 : aseg kS krf kB [kE1074, kE1054] (ksp []) kE1075 [kC1075_0] 30000 (none) = true := by decide +kernel
theorem ks1075_0 : aseg kS krf kB [kE1074, kE1054] (ksp []) kE1075 [kC1075_0] 30000 (some kC1075_0) = true := by decide +kernel
theorem kok1075 : aOK kS krf kB kE1075 := aOK_of (kal1 kok1074 (kal1 kok1054 kal0)) (kcl1 ks1075_0 kcl0) ks1075
/-- ColdShod$LawText.readLevel(LColdShod$LawCode;II)Z -/
def kE1076 : aE := (65, 22, ([], [], 0, [kvR 40, kvR 14, kvN 0, kvN 4, none, none, none], []), ([], none), ([kvB 0 1], [], kvI 0, ([], [])), kvW91)
def kC1076_0 : aC := (([kvB 0 120], [], 42, [kvR 40, kvR 14, kvN 0, kvN 4, kvN 120, kvI 0, none], []), ([], []), (120, [(-1, 0)]))
theorem ks1076 : aseg kS krf kB [kE1075, kE1054] (ksp []) kE1076 [kC1076_0] 30000 (none) = true := by decide +kernel
theorem ks1076_0 : aseg kS krf kB [kE1075, kE1054] (ksp []) kE1076 [kC1076_0] 30000 (some kC1076_0) = true := by decide +kernel
theorem kok1076 : aOK kS krf kB kE1076 := aOK_of (kal1 kok1075 (kal1 kok1054 kal0)) (kcl1 ks1076_0 kcl0) ks1076
/-- ColdShod$LawText.readOperand(LColdShod$LawCode;I)Z -/
def kE1077 : aE := (66, 23, ([], [], 0, [kvR 40, kvR 14, kvN 3, none, none], []), ([], none), ([kvB 0 1], [], kvI 0, ([], [])), kvW91)
theorem ks1077 : aseg kS krf kB [kE1055, kE1054, kE1070, kE1076] (ksp []) kE1077 [] 30000 (none) = true := by decide +kernel
theorem kok1077 : aOK kS krf kB kE1077 := aOK_of (kal1 kok1055 (kal1 kok1054 (kal1 kok1070 (kal1 kok1076 kal0)))) kcl0 ks1077
/-- ColdShod$LawText.readLevel(LColdShod$LawCode;II)Z -/
def kE1078 : aE := (65, 24, ([], [], 0, [kvR 40, kvR 14, kvN 5, kvN 3, none, none, none], []), ([], none), ([kvB 0 1], [], kvI 0, ([], [])), kvW91)
theorem ks1078 : aseg kS krf kB [kE1077] (ksp []) kE1078 [] 30000 (none) = true := by decide +kernel
theorem kok1078 : aOK kS krf kB kE1078 := aOK_of (kal1 kok1077 kal0) kcl0 ks1078
/-- ColdShod$LawText.readLevel(LColdShod$LawCode;II)Z -/
def kE1079 : aE := (65, 25, ([], [], 0, [kvR 40, kvR 14, kvN 4, kvN 3, none, none, none], []), ([], none), ([kvB 0 1], [], kvI 0, ([], [])), kvW91)
def kC1079_0 : aC := (([kvB 0 120], [], 42, [kvR 40, kvR 14, kvN 4, kvN 3, kvN 120, kvI 0, none], []), ([], []), (120, [(-1, 0)]))
theorem ks1079 : aseg kS krf kB [kE1078, kE1054] (ksp []) kE1079 [kC1079_0] 30000 (none) = true := by decide +kernel
theorem ks1079_0 : aseg kS krf kB [kE1078, kE1054] (ksp []) kE1079 [kC1079_0] 30000 (some kC1079_0) = true := by decide +kernel
theorem kok1079 : aOK kS krf kB kE1079 := aOK_of (kal1 kok1078 (kal1 kok1054 kal0)) (kcl1 ks1079_0 kcl0) ks1079
/-- ColdShod$LawText.readLevel(LColdShod$LawCode;II)Z -/
def kE1080 : aE := (65, 26, ([], [], 0, [kvR 40, kvR 14, kvN 3, kvN 3, none, none, none], []), ([], none), ([kvB 0 1], [], kvI 0, ([], [])), kvW91)
def kC1080_0 : aC := (([kvB 0 120], [], 42, [kvR 40, kvR 14, kvN 3, kvN 3, kvN 120, kvI 0, none], []), ([], []), (120, [(-1, 0)]))
theorem ks1080 : aseg kS krf kB [kE1079, kE1054] (ksp []) kE1080 [kC1080_0] 30000 (none) = true := by decide +kernel
theorem ks1080_0 : aseg kS krf kB [kE1079, kE1054] (ksp []) kE1080 [kC1080_0] 30000 (some kC1080_0) = true := by decide +kernel
theorem kok1080 : aOK kS krf kB kE1080 := aOK_of (kal1 kok1079 (kal1 kok1054 kal0)) (kcl1 ks1080_0 kcl0) ks1080
/-- ColdShod$LawText.readLevel(LColdShod$LawCode;II)Z -/
def kE1081 : aE := (65, 27, ([], [], 0, [kvR 40, kvR 14, kvN 2, kvN 3, none, none, none], []), ([], none), ([kvB 0 1], [], kvI 0, ([], [])), kvW91)
def kC1081_0 : aC := (([kvB 0 1], [], 42, [kvR 40, kvR 14, kvN 2, kvN 3, kvN 1, kvI 0, none], []), ([], []), (1, [(-1, 0)]))
theorem ks1081 : aseg kS krf kB [kE1080, kE1054] (ksp []) kE1081 [kC1081_0] 30000 (none) = true := by decide +kernel
theorem ks1081_0 : aseg kS krf kB [kE1080, kE1054] (ksp []) kE1081 [kC1081_0] 30000 (some kC1081_0) = true := by decide +kernel
theorem kok1081 : aOK kS krf kB kE1081 := aOK_of (kal1 kok1080 (kal1 kok1054 kal0)) (kcl1 ks1081_0 kcl0) ks1081
/-- ColdShod$LawText.readLevel(LColdShod$LawCode;II)Z -/
def kE1082 : aE := (65, 28, ([], [], 0, [kvR 40, kvR 14, kvN 1, kvN 3, none, none, none], []), ([], none), ([kvB 0 1], [], kvI 0, ([], [])), kvW91)
def kC1082_0 : aC := (([kvB 0 120], [], 42, [kvR 40, kvR 14, kvN 1, kvN 3, kvN 120, kvI 0, none], []), ([], []), (120, [(-1, 0)]))
theorem ks1082 : aseg kS krf kB [kE1081, kE1054] (ksp []) kE1082 [kC1082_0] 30000 (none) = true := by decide +kernel
theorem ks1082_0 : aseg kS krf kB [kE1081, kE1054] (ksp []) kE1082 [kC1082_0] 30000 (some kC1082_0) = true := by decide +kernel
theorem kok1082 : aOK kS krf kB kE1082 := aOK_of (kal1 kok1081 (kal1 kok1054 kal0)) (kcl1 ks1082_0 kcl0) ks1082
/-- ColdShod$LawText.readLevel(LColdShod$LawCode;II)Z -/
def kE1083 : aE := (65, 29, ([], [], 0, [kvR 40, kvR 14, kvN 0, kvN 3, none, none, none], []), ([], none), ([kvB 0 1], [], kvI 0, ([], [])), kvW91)
def kC1083_0 : aC := (([kvB 0 120], [], 42, [kvR 40, kvR 14, kvN 0, kvN 3, kvN 120, kvI 0, none], []), ([], []), (120, [(-1, 0)]))
theorem ks1083 : aseg kS krf kB [kE1082, kE1054] (ksp []) kE1083 [kC1083_0] 30000 (none) = true := by decide +kernel
theorem ks1083_0 : aseg kS krf kB [kE1082, kE1054] (ksp []) kE1083 [kC1083_0] 30000 (some kC1083_0) = true := by decide +kernel
theorem kok1083 : aOK kS krf kB kE1083 := aOK_of (kal1 kok1082 (kal1 kok1054 kal0)) (kcl1 ks1083_0 kcl0) ks1083
/-- ColdShod$LawText.readOperand(LColdShod$LawCode;I)Z -/
def kE1084 : aE := (66, 30, ([], [], 0, [kvR 40, kvR 14, kvN 2, none, none], []), ([], none), ([kvB 0 1], [], kvI 0, ([], [])), kvW91)
theorem ks1084 : aseg kS krf kB [kE1055, kE1054, kE1077, kE1083] (ksp []) kE1084 [] 30000 (none) = true := by decide +kernel
theorem kok1084 : aOK kS krf kB kE1084 := aOK_of (kal1 kok1055 (kal1 kok1054 (kal1 kok1077 (kal1 kok1083 kal0)))) kcl0 ks1084
/-- ColdShod$LawText.readLevel(LColdShod$LawCode;II)Z -/
def kE1085 : aE := (65, 31, ([], [], 0, [kvR 40, kvR 14, kvN 5, kvN 2, none, none, none], []), ([], none), ([kvB 0 1], [], kvI 0, ([], [])), kvW91)
theorem ks1085 : aseg kS krf kB [kE1084] (ksp []) kE1085 [] 30000 (none) = true := by decide +kernel
theorem kok1085 : aOK kS krf kB kE1085 := aOK_of (kal1 kok1084 kal0) kcl0 ks1085
/-- ColdShod$LawText.readLevel(LColdShod$LawCode;II)Z -/
def kE1086 : aE := (65, 32, ([], [], 0, [kvR 40, kvR 14, kvN 4, kvN 2, none, none, none], []), ([], none), ([kvB 0 1], [], kvI 0, ([], [])), kvW91)
def kC1086_0 : aC := (([kvB 0 120], [], 42, [kvR 40, kvR 14, kvN 4, kvN 2, kvN 120, kvI 0, none], []), ([], []), (120, [(-1, 0)]))
theorem ks1086 : aseg kS krf kB [kE1085, kE1054] (ksp []) kE1086 [kC1086_0] 30000 (none) = true := by decide +kernel
theorem ks1086_0 : aseg kS krf kB [kE1085, kE1054] (ksp []) kE1086 [kC1086_0] 30000 (some kC1086_0) = true := by decide +kernel
theorem kok1086 : aOK kS krf kB kE1086 := aOK_of (kal1 kok1085 (kal1 kok1054 kal0)) (kcl1 ks1086_0 kcl0) ks1086
/-- ColdShod$LawText.readLevel(LColdShod$LawCode;II)Z -/
def kE1087 : aE := (65, 33, ([], [], 0, [kvR 40, kvR 14, kvN 3, kvN 2, none, none, none], []), ([], none), ([kvB 0 1], [], kvI 0, ([], [])), kvW91)
def kC1087_0 : aC := (([kvB 0 120], [], 42, [kvR 40, kvR 14, kvN 3, kvN 2, kvN 120, kvI 0, none], []), ([], []), (120, [(-1, 0)]))
theorem ks1087 : aseg kS krf kB [kE1086, kE1054] (ksp []) kE1087 [kC1087_0] 30000 (none) = true := by decide +kernel
theorem ks1087_0 : aseg kS krf kB [kE1086, kE1054] (ksp []) kE1087 [kC1087_0] 30000 (some kC1087_0) = true := by decide +kernel
theorem kok1087 : aOK kS krf kB kE1087 := aOK_of (kal1 kok1086 (kal1 kok1054 kal0)) (kcl1 ks1087_0 kcl0) ks1087
/-- ColdShod$LawText.readLevel(LColdShod$LawCode;II)Z -/
def kE1088 : aE := (65, 34, ([], [], 0, [kvR 40, kvR 14, kvN 2, kvN 2, none, none, none], []), ([], none), ([kvB 0 1], [], kvI 0, ([], [])), kvW91)
def kC1088_0 : aC := (([kvB 0 1], [], 42, [kvR 40, kvR 14, kvN 2, kvN 2, kvN 1, kvI 0, none], []), ([], []), (1, [(-1, 0)]))
theorem ks1088 : aseg kS krf kB [kE1087, kE1054] (ksp []) kE1088 [kC1088_0] 30000 (none) = true := by decide +kernel
theorem ks1088_0 : aseg kS krf kB [kE1087, kE1054] (ksp []) kE1088 [kC1088_0] 30000 (some kC1088_0) = true := by decide +kernel
theorem kok1088 : aOK kS krf kB kE1088 := aOK_of (kal1 kok1087 (kal1 kok1054 kal0)) (kcl1 ks1088_0 kcl0) ks1088
/-- ColdShod$LawText.readLevel(LColdShod$LawCode;II)Z -/
def kE1089 : aE := (65, 35, ([], [], 0, [kvR 40, kvR 14, kvN 1, kvN 2, none, none, none], []), ([], none), ([kvB 0 1], [], kvI 0, ([], [])), kvW91)
def kC1089_0 : aC := (([kvB 0 120], [], 42, [kvR 40, kvR 14, kvN 1, kvN 2, kvN 120, kvI 0, none], []), ([], []), (120, [(-1, 0)]))
theorem ks1089 : aseg kS krf kB [kE1088, kE1054] (ksp []) kE1089 [kC1089_0] 30000 (none) = true := by decide +kernel
theorem ks1089_0 : aseg kS krf kB [kE1088, kE1054] (ksp []) kE1089 [kC1089_0] 30000 (some kC1089_0) = true := by decide +kernel
theorem kok1089 : aOK kS krf kB kE1089 := aOK_of (kal1 kok1088 (kal1 kok1054 kal0)) (kcl1 ks1089_0 kcl0) ks1089
/-- ColdShod$LawText.readLevel(LColdShod$LawCode;II)Z -/
def kE1090 : aE := (65, 36, ([], [], 0, [kvR 40, kvR 14, kvN 0, kvN 2, none, none, none], []), ([], none), ([kvB 0 1], [], kvI 0, ([], [])), kvW91)
def kC1090_0 : aC := (([kvB 0 120], [], 42, [kvR 40, kvR 14, kvN 0, kvN 2, kvN 120, kvI 0, none], []), ([], []), (120, [(-1, 0)]))
theorem ks1090 : aseg kS krf kB [kE1089, kE1054] (ksp []) kE1090 [kC1090_0] 30000 (none) = true := by decide +kernel
theorem ks1090_0 : aseg kS krf kB [kE1089, kE1054] (ksp []) kE1090 [kC1090_0] 30000 (some kC1090_0) = true := by decide +kernel
theorem kok1090 : aOK kS krf kB kE1090 := aOK_of (kal1 kok1089 (kal1 kok1054 kal0)) (kcl1 ks1090_0 kcl0) ks1090
/-- ColdShod$LawText.readOperand(LColdShod$LawCode;I)Z -/
def kE1091 : aE := (66, 37, ([], [], 0, [kvR 40, kvR 14, kvN 1, none, none], []), ([], none), ([kvB 0 1], [], kvI 0, ([], [])), kvW91)
theorem ks1091 : aseg kS krf kB [kE1055, kE1054, kE1084, kE1090] (ksp []) kE1091 [] 30000 (none) = true := by decide +kernel
theorem kok1091 : aOK kS krf kB kE1091 := aOK_of (kal1 kok1055 (kal1 kok1054 (kal1 kok1084 (kal1 kok1090 kal0)))) kcl0 ks1091
/-- ColdShod$LawText.readLevel(LColdShod$LawCode;II)Z -/
def kE1092 : aE := (65, 38, ([], [], 0, [kvR 40, kvR 14, kvN 5, kvN 1, none, none, none], []), ([], none), ([kvB 0 1], [], kvI 0, ([], [])), kvW91)
theorem ks1092 : aseg kS krf kB [kE1091] (ksp []) kE1092 [] 30000 (none) = true := by decide +kernel
theorem kok1092 : aOK kS krf kB kE1092 := aOK_of (kal1 kok1091 kal0) kcl0 ks1092
/-- ColdShod$LawText.readLevel(LColdShod$LawCode;II)Z -/
def kE1093 : aE := (65, 39, ([], [], 0, [kvR 40, kvR 14, kvN 4, kvN 1, none, none, none], []), ([], none), ([kvB 0 1], [], kvI 0, ([], [])), kvW91)
def kC1093_0 : aC := (([kvB 0 120], [], 42, [kvR 40, kvR 14, kvN 4, kvN 1, kvN 120, kvI 0, none], []), ([], []), (120, [(-1, 0)]))
theorem ks1093 : aseg kS krf kB [kE1092, kE1054] (ksp []) kE1093 [kC1093_0] 30000 (none) = true := by decide +kernel
theorem ks1093_0 : aseg kS krf kB [kE1092, kE1054] (ksp []) kE1093 [kC1093_0] 30000 (some kC1093_0) = true := by decide +kernel
theorem kok1093 : aOK kS krf kB kE1093 := aOK_of (kal1 kok1092 (kal1 kok1054 kal0)) (kcl1 ks1093_0 kcl0) ks1093
/-- ColdShod$LawText.readLevel(LColdShod$LawCode;II)Z -/
def kE1094 : aE := (65, 40, ([], [], 0, [kvR 40, kvR 14, kvN 3, kvN 1, none, none, none], []), ([], none), ([kvB 0 1], [], kvI 0, ([], [])), kvW91)
def kC1094_0 : aC := (([kvB 0 120], [], 42, [kvR 40, kvR 14, kvN 3, kvN 1, kvN 120, kvI 0, none], []), ([], []), (120, [(-1, 0)]))
theorem ks1094 : aseg kS krf kB [kE1093, kE1054] (ksp []) kE1094 [kC1094_0] 30000 (none) = true := by decide +kernel
theorem ks1094_0 : aseg kS krf kB [kE1093, kE1054] (ksp []) kE1094 [kC1094_0] 30000 (some kC1094_0) = true := by decide +kernel
theorem kok1094 : aOK kS krf kB kE1094 := aOK_of (kal1 kok1093 (kal1 kok1054 kal0)) (kcl1 ks1094_0 kcl0) ks1094
/-- ColdShod$LawText.readLevel(LColdShod$LawCode;II)Z -/
def kE1095 : aE := (65, 41, ([], [], 0, [kvR 40, kvR 14, kvN 2, kvN 1, none, none, none], []), ([], none), ([kvB 0 1], [], kvI 0, ([], [])), kvW91)
def kC1095_0 : aC := (([kvB 0 1], [], 42, [kvR 40, kvR 14, kvN 2, kvN 1, kvN 1, kvI 0, none], []), ([], []), (1, [(-1, 0)]))
theorem ks1095 : aseg kS krf kB [kE1094, kE1054] (ksp []) kE1095 [kC1095_0] 30000 (none) = true := by decide +kernel
theorem ks1095_0 : aseg kS krf kB [kE1094, kE1054] (ksp []) kE1095 [kC1095_0] 30000 (some kC1095_0) = true := by decide +kernel
theorem kok1095 : aOK kS krf kB kE1095 := aOK_of (kal1 kok1094 (kal1 kok1054 kal0)) (kcl1 ks1095_0 kcl0) ks1095
/-- ColdShod$LawText.readLevel(LColdShod$LawCode;II)Z -/
def kE1096 : aE := (65, 42, ([], [], 0, [kvR 40, kvR 14, kvN 1, kvN 1, none, none, none], []), ([], none), ([kvB 0 1], [], kvI 0, ([], [])), kvW91)
def kC1096_0 : aC := (([kvB 0 120], [], 42, [kvR 40, kvR 14, kvN 1, kvN 1, kvN 120, kvI 0, none], []), ([], []), (120, [(-1, 0)]))
theorem ks1096 : aseg kS krf kB [kE1095, kE1054] (ksp []) kE1096 [kC1096_0] 30000 (none) = true := by decide +kernel
theorem ks1096_0 : aseg kS krf kB [kE1095, kE1054] (ksp []) kE1096 [kC1096_0] 30000 (some kC1096_0) = true := by decide +kernel
theorem kok1096 : aOK kS krf kB kE1096 := aOK_of (kal1 kok1095 (kal1 kok1054 kal0)) (kcl1 ks1096_0 kcl0) ks1096
/-- ColdShod$LawText.readLevel(LColdShod$LawCode;II)Z -/
def kE1097 : aE := (65, 43, ([], [], 0, [kvR 40, kvR 14, kvN 0, kvN 1, none, none, none], []), ([], none), ([kvB 0 1], [], kvI 0, ([], [])), kvW91)
def kC1097_0 : aC := (([kvB 0 120], [], 42, [kvR 40, kvR 14, kvN 0, kvN 1, kvN 120, kvI 0, none], []), ([], []), (120, [(-1, 0)]))
theorem ks1097 : aseg kS krf kB [kE1096, kE1054] (ksp []) kE1097 [kC1097_0] 30000 (none) = true := by decide +kernel
theorem ks1097_0 : aseg kS krf kB [kE1096, kE1054] (ksp []) kE1097 [kC1097_0] 30000 (some kC1097_0) = true := by decide +kernel
theorem kok1097 : aOK kS krf kB kE1097 := aOK_of (kal1 kok1096 (kal1 kok1054 kal0)) (kcl1 ks1097_0 kcl0) ks1097
/-- ColdShod$LawText.readOperand(LColdShod$LawCode;I)Z -/
def kE1098 : aE := (66, 44, ([], [], 0, [kvR 40, kvR 14, kvN 0, none, none], []), ([], none), ([kvB 0 1], [], kvI 0, ([], [])), kvW91)
theorem ks1098 : aseg kS krf kB [kE1055, kE1054, kE1091, kE1097] (ksp []) kE1098 [] 30000 (none) = true := by decide +kernel
theorem kok1098 : aOK kS krf kB kE1098 := aOK_of (kal1 kok1055 (kal1 kok1054 (kal1 kok1091 (kal1 kok1097 kal0)))) kcl0 ks1098
/-- ColdShod$LawText.readLevel(LColdShod$LawCode;II)Z -/
def kE1099 : aE := (65, 45, ([], [], 0, [kvR 40, kvR 14, kvN 5, kvN 0, none, none, none], []), ([], none), ([kvB 0 1], [], kvI 0, ([], [])), kvW91)
theorem ks1099 : aseg kS krf kB [kE1098] (ksp []) kE1099 [] 30000 (none) = true := by decide +kernel
theorem kok1099 : aOK kS krf kB kE1099 := aOK_of (kal1 kok1098 kal0) kcl0 ks1099
/-- ColdShod$LawText.readLevel(LColdShod$LawCode;II)Z -/
def kE1100 : aE := (65, 46, ([], [], 0, [kvR 40, kvR 14, kvN 4, kvN 0, none, none, none], []), ([], none), ([kvB 0 1], [], kvI 0, ([], [])), kvW91)
def kC1100_0 : aC := (([kvB 0 120], [], 42, [kvR 40, kvR 14, kvN 4, kvN 0, kvN 120, kvI 0, none], []), ([], []), (120, [(-1, 0)]))
theorem ks1100 : aseg kS krf kB [kE1099, kE1054] (ksp []) kE1100 [kC1100_0] 30000 (none) = true := by decide +kernel
theorem ks1100_0 : aseg kS krf kB [kE1099, kE1054] (ksp []) kE1100 [kC1100_0] 30000 (some kC1100_0) = true := by decide +kernel
theorem kok1100 : aOK kS krf kB kE1100 := aOK_of (kal1 kok1099 (kal1 kok1054 kal0)) (kcl1 ks1100_0 kcl0) ks1100
/-- ColdShod$LawText.readLevel(LColdShod$LawCode;II)Z -/
def kE1101 : aE := (65, 47, ([], [], 0, [kvR 40, kvR 14, kvN 3, kvN 0, none, none, none], []), ([], none), ([kvB 0 1], [], kvI 0, ([], [])), kvW91)
def kC1101_0 : aC := (([kvB 0 120], [], 42, [kvR 40, kvR 14, kvN 3, kvN 0, kvN 120, kvI 0, none], []), ([], []), (120, [(-1, 0)]))
theorem ks1101 : aseg kS krf kB [kE1100, kE1054] (ksp []) kE1101 [kC1101_0] 30000 (none) = true := by decide +kernel
theorem ks1101_0 : aseg kS krf kB [kE1100, kE1054] (ksp []) kE1101 [kC1101_0] 30000 (some kC1101_0) = true := by decide +kernel
theorem kok1101 : aOK kS krf kB kE1101 := aOK_of (kal1 kok1100 (kal1 kok1054 kal0)) (kcl1 ks1101_0 kcl0) ks1101
/-- ColdShod$LawText.readLevel(LColdShod$LawCode;II)Z -/
def kE1102 : aE := (65, 48, ([], [], 0, [kvR 40, kvR 14, kvN 2, kvN 0, none, none, none], []), ([], none), ([kvB 0 1], [], kvI 0, ([], [])), kvW91)
def kC1102_0 : aC := (([kvB 0 1], [], 42, [kvR 40, kvR 14, kvN 2, kvN 0, kvN 1, kvI 0, none], []), ([], []), (1, [(-1, 0)]))
theorem ks1102 : aseg kS krf kB [kE1101, kE1054] (ksp []) kE1102 [kC1102_0] 30000 (none) = true := by decide +kernel
theorem ks1102_0 : aseg kS krf kB [kE1101, kE1054] (ksp []) kE1102 [kC1102_0] 30000 (some kC1102_0) = true := by decide +kernel
theorem kok1102 : aOK kS krf kB kE1102 := aOK_of (kal1 kok1101 (kal1 kok1054 kal0)) (kcl1 ks1102_0 kcl0) ks1102
/-- ColdShod$LawText.readLevel(LColdShod$LawCode;II)Z -/
def kE1103 : aE := (65, 49, ([], [], 0, [kvR 40, kvR 14, kvN 1, kvN 0, none, none, none], []), ([], none), ([kvB 0 1], [], kvI 0, ([], [])), kvW91)
def kC1103_0 : aC := (([kvB 0 120], [], 42, [kvR 40, kvR 14, kvN 1, kvN 0, kvN 120, kvI 0, none], []), ([], []), (120, [(-1, 0)]))
theorem ks1103 : aseg kS krf kB [kE1102, kE1054] (ksp []) kE1103 [kC1103_0] 30000 (none) = true := by decide +kernel
theorem ks1103_0 : aseg kS krf kB [kE1102, kE1054] (ksp []) kE1103 [kC1103_0] 30000 (some kC1103_0) = true := by decide +kernel
theorem kok1103 : aOK kS krf kB kE1103 := aOK_of (kal1 kok1102 (kal1 kok1054 kal0)) (kcl1 ks1103_0 kcl0) ks1103
/-- ColdShod$LawText.readLevel(LColdShod$LawCode;II)Z -/
def kE1104 : aE := (65, 50, ([], [], 0, [kvR 40, kvR 14, kvN 0, kvN 0, none, none, none], []), ([], none), ([kvB 0 1], [], kvI 0, ([], [])), kvW91)
def kC1104_0 : aC := (([kvB 0 120], [], 42, [kvR 40, kvR 14, kvN 0, kvN 0, kvN 120, kvI 0, none], []), ([], []), (120, [(-1, 0)]))
theorem ks1104 : aseg kS krf kB [kE1103, kE1054] (ksp []) kE1104 [kC1104_0] 30000 (none) = true := by decide +kernel
theorem ks1104_0 : aseg kS krf kB [kE1103, kE1054] (ksp []) kE1104 [kC1104_0] 30000 (some kC1104_0) = true := by decide +kernel
theorem kok1104 : aOK kS krf kB kE1104 := aOK_of (kal1 kok1103 (kal1 kok1054 kal0)) (kcl1 ks1104_0 kcl0) ks1104
/-- ColdShod$LawText.readInto(LColdShod$LawCode;)I -/
def kE1105 : aE := (63, 52, ([], [], 0, [kvR 40, some (.inr [14, 17]), none], []), ([], none), ([(.negSucc 0, .ofNat 120)], [], kvI 0, ([], [])), kvW92)
def kC1105_0 : aC := (([kvB 0 121], [], 11, [kvR 40, some (.inr [14, 17]), kvI 0], []), ([], []), (121, [(-1, 0)]))
theorem ks1105 : aseg kS krf kB [kE1053, kE1003, kE1104, kE1054] (ksp [(63, 0, 1, -1000, 1000, 0), (63, 11, 1, -1000, 1000, 0)]) kE1105 [kC1105_0] 30000 (none) = true := by decide +kernel
theorem ks1105_0 : aseg kS krf kB [kE1053, kE1003, kE1104, kE1054] (ksp [(63, 0, 1, -1000, 1000, 0), (63, 11, 1, -1000, 1000, 0)]) kE1105 [kC1105_0] 30000 (some kC1105_0) = true := by decide +kernel
theorem kok1105 : aOK kS krf kB kE1105 := aOK_of (kal1 kok1053 (kal1 kok1003 (kal1 kok1104 (kal1 kok1054 kal0)))) (kcl1 ks1105_0 kcl0) ks1105
