/-! ENTRIES and their checks: printed by a program (wip/ai). -/
/-- ColdShod$LawText.readLevel(LColdShod$LawCode;II)Z -/
def kE1066 : aE := (65, 49, ([], [], 0, [some (.inr [40]), some (.inr [17]), some (.inl (.inl (.inr (.ofNat 1)))), some (.inl (.inl (.inr (.ofNat 0)))), none, none, none], []), ([], none), ([(.ofNat 0, .ofNat 1)], [], some (.inl (.inl (.inl (0, .ofNat 0)))), ([], [])), ([(17, 0), (17, 2), (40, 2)], [18]))
def kC1066_0 : aC := (([(.ofNat 0, .ofNat 120)], [], 42, [some (.inr [40]), some (.inr [17]), some (.inl (.inl (.inr (.ofNat 1)))), some (.inl (.inl (.inr (.ofNat 0)))), some (.inl (.inl (.inr (.ofNat 120)))), some (.inl (.inl (.inl (0, .ofNat 0)))), none], []), ([], []), (120, [(-1, 0)]))
theorem ks1066 : aseg kS krf kB [kE1065, kE1015] (ksp []) kE1066 [kC1066_0] 30000 (none) = true := by decide +kernel
theorem ks1066_0 : aseg kS krf kB [kE1065, kE1015] (ksp []) kE1066 [kC1066_0] 30000 (some kC1066_0) = true := by decide +kernel
theorem kok1066 : aOK kS krf kB kE1066 := aOK_of (kal1 kok1065 (kal1 kok1015 kal0)) (kcl1 ks1066_0 kcl0) ks1066
/-- ColdShod$LawText.readLevel(LColdShod$LawCode;II)Z -/
def kE1067 : aE := (65, 50, ([], [], 0, [some (.inr [40]), some (.inr [17]), some (.inl (.inl (.inr (.ofNat 0)))), some (.inl (.inl (.inr (.ofNat 0)))), none, none, none], []), ([], none), ([(.ofNat 0, .ofNat 1)], [], some (.inl (.inl (.inl (0, .ofNat 0)))), ([], [])), ([(17, 0), (17, 2), (40, 2)], [18]))
def kC1067_0 : aC := (([(.ofNat 0, .ofNat 120)], [], 42, [some (.inr [40]), some (.inr [17]), some (.inl (.inl (.inr (.ofNat 0)))), some (.inl (.inl (.inr (.ofNat 0)))), some (.inl (.inl (.inr (.ofNat 120)))), some (.inl (.inl (.inl (0, .ofNat 0)))), none], []), ([], []), (120, [(-1, 0)]))
theorem ks1067 : aseg kS krf kB [kE1066, kE1015] (ksp []) kE1067 [kC1067_0] 30000 (none) = true := by decide +kernel
theorem ks1067_0 : aseg kS krf kB [kE1066, kE1015] (ksp []) kE1067 [kC1067_0] 30000 (some kC1067_0) = true := by decide +kernel
theorem kok1067 : aOK kS krf kB kE1067 := aOK_of (kal1 kok1066 (kal1 kok1015 kal0)) (kcl1 ks1067_0 kcl0) ks1067
/-- ColdShod$LawCode.add(I)V -/
def kE1068 : aE := (54, 0, ([(.negSucc 2147483647, .ofNat 2147483647)], [], 0, [some (.inr [14]), some (.inl (.inl (.inl (0, .ofNat 0))))], []), ([], none), ([], [], none, ([], [])), ([(14, 2)], [15]))
theorem ks1068 : aseg kS krf kB [] (ksp []) kE1068 [] 30000 (none) = true := by decide +kernel
theorem kok1068 : aOK kS krf kB kE1068 := aOK_of kal0 kcl0 ks1068
/-- ColdShod$LawText.readNumber(LColdShod$LawCode;)Z -/
def kE1069 : aE := (67, 1, ([], [], 0, [some (.inr [40]), some (.inr [14]), none, none], []), ([], none), ([(.ofNat 1, .ofNat 1)], [], some (.inl (.inl (.inl (0, .ofNat 0)))), ([], [])), ([(14, 2), (40, 2)], [15]))
def kC1069_0 : aC := (([(.negSucc 2147483647, .ofNat 2147483647), (.ofNat 0, .ofNat 4)], [], 4, [some (.inr [40]), some (.inr [14]), some (.inl (.inl (.inl (0, .ofNat 0)))), some (.inl (.inl (.inl (1, .ofNat 0))))], []), ([], []), (4, [(-1, 1)]))
theorem ks1069 : aseg kS krf kB [kE1068] (ksp []) kE1069 [kC1069_0] 30000 (none) = true := by decide +kernel
theorem ks1069_0 : aseg kS krf kB [kE1068] (ksp []) kE1069 [kC1069_0] 30000 (some kC1069_0) = true := by decide +kernel
theorem kok1069 : aOK kS krf kB kE1069 := aOK_of (kal1 kok1068 kal0) (kcl1 ks1069_0 kcl0) ks1069
/-- ColdShod$LawCode.addName(I)V -/
def kE1070 : aE := (55, 1, ([(.ofNat 0, .ofNat 5)], [], 0, [some (.inr [14]), some (.inl (.inl (.inl (0, .ofNat 0))))], []), ([], none), ([], [], none, ([], [])), ([(14, 0), (14, 2)], [15]))
theorem ks1070 : aseg kS krf kB [kE1068] (ksp []) kE1070 [] 30000 (none) = true := by decide +kernel
theorem kok1070 : aOK kS krf kB kE1070 := aOK_of (kal1 kok1068 kal0) kcl0 ks1070
/-- ColdShod$LawText.readOperand(LColdShod$LawCode;I)Z -/
def kE1071 : aE := (66, 2, ([], [], 0, [some (.inr [40]), some (.inr [14]), some (.inl (.inl (.inr (.ofNat 6)))), none, none], []), ([], none), ([(.ofNat 0, .ofNat 1)], [], some (.inl (.inl (.inl (0, .ofNat 0)))), ([], [])), ([(14, 0), (14, 2), (40, 2)], [15]))
def kC1071_0 : aC := (([(.ofNat 33, .ofNat 45), (.ofNat 0, .ofNat 119), (.ofNat 1, .ofNat 120)], [(40, 2, .inl (1, .ofNat 0)), (40, 1, .inl (2, .ofNat 0))], 65, [some (.inr [40]), some (.inr [14]), some (.inl (.inl (.inr (.ofNat 6)))), some (.inl (.inl (.inl (0, .ofNat 0)))), some (.inl (.inl (.inr (.negSucc 0))))], []), ([], []), (0, []))
theorem ks1071 : aseg kS krf kB [kE1069, kE1070] (ksp []) kE1071 [kC1071_0] 30000 (none) = true := by decide +kernel
theorem ks1071_0 : aseg kS krf kB [kE1069, kE1070] (ksp []) kE1071 [kC1071_0] 30000 (some kC1071_0) = true := by decide +kernel
theorem kok1071 : aOK kS krf kB kE1071 := aOK_of (kal1 kok1069 (kal1 kok1070 kal0)) (kcl1 ks1071_0 kcl0) ks1071
/-- ColdShod$LawText.readLevel(LColdShod$LawCode;II)Z -/
def kE1072 : aE := (65, 3, ([], [], 0, [some (.inr [40]), some (.inr [14]), some (.inl (.inl (.inr (.ofNat 5)))), some (.inl (.inl (.inr (.ofNat 6)))), none, none, none], []), ([], none), ([(.ofNat 0, .ofNat 1)], [], some (.inl (.inl (.inl (0, .ofNat 0)))), ([], [])), ([(14, 0), (14, 2), (40, 2)], [15]))
theorem ks1072 : aseg kS krf kB [kE1071] (ksp []) kE1072 [] 30000 (none) = true := by decide +kernel
theorem kok1072 : aOK kS krf kB kE1072 := aOK_of (kal1 kok1071 kal0) kcl0 ks1072
/-- ColdShod$LawText.readLevel(LColdShod$LawCode;II)Z -/
def kE1073 : aE := (65, 4, ([], [], 0, [some (.inr [40]), some (.inr [14]), some (.inl (.inl (.inr (.ofNat 4)))), some (.inl (.inl (.inr (.ofNat 6)))), none, none, none], []), ([], none), ([(.ofNat 0, .ofNat 1)], [], some (.inl (.inl (.inl (0, .ofNat 0)))), ([], [])), ([(14, 0), (14, 2), (40, 2)], [15]))
def kC1073_0 : aC := (([(.ofNat 0, .ofNat 120)], [], 42, [some (.inr [40]), some (.inr [14]), some (.inl (.inl (.inr (.ofNat 4)))), some (.inl (.inl (.inr (.ofNat 6)))), some (.inl (.inl (.inr (.ofNat 120)))), some (.inl (.inl (.inl (0, .ofNat 0)))), none], []), ([], []), (120, [(-1, 0)]))
theorem ks1073 : aseg kS krf kB [kE1072, kE1068] (ksp []) kE1073 [kC1073_0] 30000 (none) = true := by decide +kernel
theorem ks1073_0 : aseg kS krf kB [kE1072, kE1068] (ksp []) kE1073 [kC1073_0] 30000 (some kC1073_0) = true := by decide +kernel
theorem kok1073 : aOK kS krf kB kE1073 := aOK_of (kal1 kok1072 (kal1 kok1068 kal0)) (kcl1 ks1073_0 kcl0) ks1073
/-- ColdShod$LawText.readLevel(LColdShod$LawCode;II)Z -/
def kE1074 : aE := (65, 5, ([], [], 0, [some (.inr [40]), some (.inr [14]), some (.inl (.inl (.inr (.ofNat 3)))), some (.inl (.inl (.inr (.ofNat 6)))), none, none, none], []), ([], none), ([(.ofNat 0, .ofNat 1)], [], some (.inl (.inl (.inl (0, .ofNat 0)))), ([], [])), ([(14, 0), (14, 2), (40, 2)], [15]))
def kC1074_0 : aC := (([(.ofNat 0, .ofNat 120)], [], 42, [some (.inr [40]), some (.inr [14]), some (.inl (.inl (.inr (.ofNat 3)))), some (.inl (.inl (.inr (.ofNat 6)))), some (.inl (.inl (.inr (.ofNat 120)))), some (.inl (.inl (.inl (0, .ofNat 0)))), none], []), ([], []), (120, [(-1, 0)]))
theorem ks1074 : aseg kS krf kB [kE1073, kE1068] (ksp []) kE1074 [kC1074_0] 30000 (none) = true := by decide +kernel
theorem ks1074_0 : aseg kS krf kB [kE1073, kE1068] (ksp []) kE1074 [kC1074_0] 30000 (some kC1074_0) = true := by decide +kernel
theorem kok1074 : aOK kS krf kB kE1074 := aOK_of (kal1 kok1073 (kal1 kok1068 kal0)) (kcl1 ks1074_0 kcl0) ks1074
/-- ColdShod$LawText.readLevel(LColdShod$LawCode;II)Z -/
def kE1075 : aE := (65, 6, ([], [], 0, [some (.inr [40]), some (.inr [14]), some (.inl (.inl (.inr (.ofNat 2)))), some (.inl (.inl (.inr (.ofNat 6)))), none, none, none], []), ([], none), ([(.ofNat 0, .ofNat 1)], [], some (.inl (.inl (.inl (0, .ofNat 0)))), ([], [])), ([(14, 0), (14, 2), (40, 2)], [15]))
def kC1075_0 : aC := (([(.ofNat 0, .ofNat 1)], [], 42, [some (.inr [40]), some (.inr [14]), some (.inl (.inl (.inr (.ofNat 2)))), some (.inl (.inl (.inr (.ofNat 6)))), some (.inl (.inl (.inr (.ofNat 1)))), some (.inl (.inl (.inl (0, .ofNat 0)))), none], []), ([], []), (1, [(-1, 0)]))
theorem ks1075 : aseg kS krf kB [kE1074, kE1068] (ksp []) kE1075 [kC1075_0] 30000 (none) = true := by decide +kernel
theorem ks1075_0 : aseg kS krf kB [kE1074, kE1068] (ksp []) kE1075 [kC1075_0] 30000 (some kC1075_0) = true := by decide +kernel
theorem kok1075 : aOK kS krf kB kE1075 := aOK_of (kal1 kok1074 (kal1 kok1068 kal0)) (kcl1 ks1075_0 kcl0) ks1075
/-- ColdShod$LawText.readLevel(LColdShod$LawCode;II)Z -/
def kE1076 : aE := (65, 7, ([], [], 0, [some (.inr [40]), some (.inr [14]), some (.inl (.inl (.inr (.ofNat 1)))), some (.inl (.inl (.inr (.ofNat 6)))), none, none, none], []), ([], none), ([(.ofNat 0, .ofNat 1)], [], some (.inl (.inl (.inl (0, .ofNat 0)))), ([], [])), ([(14, 0), (14, 2), (40, 2)], [15]))
def kC1076_0 : aC := (([(.ofNat 0, .ofNat 120)], [], 42, [some (.inr [40]), some (.inr [14]), some (.inl (.inl (.inr (.ofNat 1)))), some (.inl (.inl (.inr (.ofNat 6)))), some (.inl (.inl (.inr (.ofNat 120)))), some (.inl (.inl (.inl (0, .ofNat 0)))), none], []), ([], []), (120, [(-1, 0)]))
theorem ks1076 : aseg kS krf kB [kE1075, kE1068] (ksp []) kE1076 [kC1076_0] 30000 (none) = true := by decide +kernel
theorem ks1076_0 : aseg kS krf kB [kE1075, kE1068] (ksp []) kE1076 [kC1076_0] 30000 (some kC1076_0) = true := by decide +kernel
theorem kok1076 : aOK kS krf kB kE1076 := aOK_of (kal1 kok1075 (kal1 kok1068 kal0)) (kcl1 ks1076_0 kcl0) ks1076
/-- ColdShod$LawText.readLevel(LColdShod$LawCode;II)Z -/
def kE1077 : aE := (65, 8, ([], [], 0, [some (.inr [40]), some (.inr [14]), some (.inl (.inl (.inr (.ofNat 0)))), some (.inl (.inl (.inr (.ofNat 6)))), none, none, none], []), ([], none), ([(.ofNat 0, .ofNat 1)], [], some (.inl (.inl (.inl (0, .ofNat 0)))), ([], [])), ([(14, 0), (14, 2), (40, 2)], [15]))
def kC1077_0 : aC := (([(.ofNat 0, .ofNat 120)], [], 42, [some (.inr [40]), some (.inr [14]), some (.inl (.inl (.inr (.ofNat 0)))), some (.inl (.inl (.inr (.ofNat 6)))), some (.inl (.inl (.inr (.ofNat 120)))), some (.inl (.inl (.inl (0, .ofNat 0)))), none], []), ([], []), (120, [(-1, 0)]))
theorem ks1077 : aseg kS krf kB [kE1076, kE1068] (ksp []) kE1077 [kC1077_0] 30000 (none) = true := by decide +kernel
theorem ks1077_0 : aseg kS krf kB [kE1076, kE1068] (ksp []) kE1077 [kC1077_0] 30000 (some kC1077_0) = true := by decide +kernel
theorem kok1077 : aOK kS krf kB kE1077 := aOK_of (kal1 kok1076 (kal1 kok1068 kal0)) (kcl1 ks1077_0 kcl0) ks1077
/-- ColdShod$LawText.readOperand(LColdShod$LawCode;I)Z -/
def kE1078 : aE := (66, 9, ([], [], 0, [some (.inr [40]), some (.inr [14]), some (.inl (.inl (.inr (.ofNat 5)))), none, none], []), ([], none), ([(.ofNat 0, .ofNat 1)], [], some (.inl (.inl (.inl (0, .ofNat 0)))), ([], [])), ([(14, 0), (14, 2), (40, 2)], [15]))
def kC1078_0 : aC := (([(.ofNat 33, .ofNat 45), (.ofNat 0, .ofNat 119), (.ofNat 1, .ofNat 120)], [(40, 2, .inl (1, .ofNat 0)), (40, 1, .inl (2, .ofNat 0))], 65, [some (.inr [40]), some (.inr [14]), some (.inl (.inl (.inr (.ofNat 5)))), some (.inl (.inl (.inl (0, .ofNat 0)))), some (.inl (.inl (.inr (.negSucc 0))))], []), ([], []), (0, []))
theorem ks1078 : aseg kS krf kB [kE1069, kE1070, kE1077, kE1025, kE1071, kE1068] (ksp []) kE1078 [kC1078_0] 30000 (none) = true := by decide +kernel
theorem ks1078_0 : aseg kS krf kB [kE1069, kE1070, kE1077, kE1025, kE1071, kE1068] (ksp []) kE1078 [kC1078_0] 30000 (some kC1078_0) = true := by decide +kernel
theorem kok1078 : aOK kS krf kB kE1078 := aOK_of (kal1 kok1069 (kal1 kok1070 (kal1 kok1077 (kal1 kok1025 (kal1 kok1071 (kal1 kok1068 kal0)))))) (kcl1 ks1078_0 kcl0) ks1078
/-- ColdShod$LawText.readLevel(LColdShod$LawCode;II)Z -/
def kE1079 : aE := (65, 10, ([], [], 0, [some (.inr [40]), some (.inr [14]), some (.inl (.inl (.inr (.ofNat 5)))), some (.inl (.inl (.inr (.ofNat 5)))), none, none, none], []), ([], none), ([(.ofNat 0, .ofNat 1)], [], some (.inl (.inl (.inl (0, .ofNat 0)))), ([], [])), ([(14, 0), (14, 2), (40, 2)], [15]))
theorem ks1079 : aseg kS krf kB [kE1078] (ksp []) kE1079 [] 30000 (none) = true := by decide +kernel
theorem kok1079 : aOK kS krf kB kE1079 := aOK_of (kal1 kok1078 kal0) kcl0 ks1079
/-- ColdShod$LawText.readLevel(LColdShod$LawCode;II)Z -/
def kE1080 : aE := (65, 11, ([], [], 0, [some (.inr [40]), some (.inr [14]), some (.inl (.inl (.inr (.ofNat 4)))), some (.inl (.inl (.inr (.ofNat 5)))), none, none, none], []), ([], none), ([(.ofNat 0, .ofNat 1)], [], some (.inl (.inl (.inl (0, .ofNat 0)))), ([], [])), ([(14, 0), (14, 2), (40, 2)], [15]))
def kC1080_0 : aC := (([(.ofNat 0, .ofNat 120)], [], 42, [some (.inr [40]), some (.inr [14]), some (.inl (.inl (.inr (.ofNat 4)))), some (.inl (.inl (.inr (.ofNat 5)))), some (.inl (.inl (.inr (.ofNat 120)))), some (.inl (.inl (.inl (0, .ofNat 0)))), none], []), ([], []), (120, [(-1, 0)]))
theorem ks1080 : aseg kS krf kB [kE1079, kE1068] (ksp []) kE1080 [kC1080_0] 30000 (none) = true := by decide +kernel
theorem ks1080_0 : aseg kS krf kB [kE1079, kE1068] (ksp []) kE1080 [kC1080_0] 30000 (some kC1080_0) = true := by decide +kernel
theorem kok1080 : aOK kS krf kB kE1080 := aOK_of (kal1 kok1079 (kal1 kok1068 kal0)) (kcl1 ks1080_0 kcl0) ks1080
/-- ColdShod$LawText.readLevel(LColdShod$LawCode;II)Z -/
def kE1081 : aE := (65, 12, ([], [], 0, [some (.inr [40]), some (.inr [14]), some (.inl (.inl (.inr (.ofNat 3)))), some (.inl (.inl (.inr (.ofNat 5)))), none, none, none], []), ([], none), ([(.ofNat 0, .ofNat 1)], [], some (.inl (.inl (.inl (0, .ofNat 0)))), ([], [])), ([(14, 0), (14, 2), (40, 2)], [15]))
def kC1081_0 : aC := (([(.ofNat 0, .ofNat 120)], [], 42, [some (.inr [40]), some (.inr [14]), some (.inl (.inl (.inr (.ofNat 3)))), some (.inl (.inl (.inr (.ofNat 5)))), some (.inl (.inl (.inr (.ofNat 120)))), some (.inl (.inl (.inl (0, .ofNat 0)))), none], []), ([], []), (120, [(-1, 0)]))
theorem ks1081 : aseg kS krf kB [kE1080, kE1068] (ksp []) kE1081 [kC1081_0] 30000 (none) = true := by decide +kernel
theorem ks1081_0 : aseg kS krf kB [kE1080, kE1068] (ksp []) kE1081 [kC1081_0] 30000 (some kC1081_0) = true := by decide +kernel
theorem kok1081 : aOK kS krf kB kE1081 := aOK_of (kal1 kok1080 (kal1 kok1068 kal0)) (kcl1 ks1081_0 kcl0) ks1081
/-- ColdShod$LawText.readLevel(LColdShod$LawCode;II)Z -/
def kE1082 : aE := (65, 13, ([], [], 0, [some (.inr [40]), some (.inr [14]), some (.inl (.inl (.inr (.ofNat 2)))), some (.inl (.inl (.inr (.ofNat 5)))), none, none, none], []), ([], none), ([(.ofNat 0, .ofNat 1)], [], some (.inl (.inl (.inl (0, .ofNat 0)))), ([], [])), ([(14, 0), (14, 2), (40, 2)], [15]))
def kC1082_0 : aC := (([(.ofNat 0, .ofNat 1)], [], 42, [some (.inr [40]), some (.inr [14]), some (.inl (.inl (.inr (.ofNat 2)))), some (.inl (.inl (.inr (.ofNat 5)))), some (.inl (.inl (.inr (.ofNat 1)))), some (.inl (.inl (.inl (0, .ofNat 0)))), none], []), ([], []), (1, [(-1, 0)]))
theorem ks1082 : aseg kS krf kB [kE1081, kE1068] (ksp []) kE1082 [kC1082_0] 30000 (none) = true := by decide +kernel
theorem ks1082_0 : aseg kS krf kB [kE1081, kE1068] (ksp []) kE1082 [kC1082_0] 30000 (some kC1082_0) = true := by decide +kernel
theorem kok1082 : aOK kS krf kB kE1082 := aOK_of (kal1 kok1081 (kal1 kok1068 kal0)) (kcl1 ks1082_0 kcl0) ks1082
/-- ColdShod$LawText.readLevel(LColdShod$LawCode;II)Z -/
def kE1083 : aE := (65, 14, ([], [], 0, [some (.inr [40]), some (.inr [14]), some (.inl (.inl (.inr (.ofNat 1)))), some (.inl (.inl (.inr (.ofNat 5)))), none, none, none], []), ([], none), ([(.ofNat 0, .ofNat 1)], [], some (.inl (.inl (.inl (0, .ofNat 0)))), ([], [])), ([(14, 0), (14, 2), (40, 2)], [15]))
def kC1083_0 : aC := (([(.ofNat 0, .ofNat 120)], [], 42, [some (.inr [40]), some (.inr [14]), some (.inl (.inl (.inr (.ofNat 1)))), some (.inl (.inl (.inr (.ofNat 5)))), some (.inl (.inl (.inr (.ofNat 120)))), some (.inl (.inl (.inl (0, .ofNat 0)))), none], []), ([], []), (120, [(-1, 0)]))
theorem ks1083 : aseg kS krf kB [kE1082, kE1068] (ksp []) kE1083 [kC1083_0] 30000 (none) = true := by decide +kernel
theorem ks1083_0 : aseg kS krf kB [kE1082, kE1068] (ksp []) kE1083 [kC1083_0] 30000 (some kC1083_0) = true := by decide +kernel
theorem kok1083 : aOK kS krf kB kE1083 := aOK_of (kal1 kok1082 (kal1 kok1068 kal0)) (kcl1 ks1083_0 kcl0) ks1083
/-- ColdShod$LawText.readLevel(LColdShod$LawCode;II)Z -/
def kE1084 : aE := (65, 15, ([], [], 0, [some (.inr [40]), some (.inr [14]), some (.inl (.inl (.inr (.ofNat 0)))), some (.inl (.inl (.inr (.ofNat 5)))), none, none, none], []), ([], none), ([(.ofNat 0, .ofNat 1)], [], some (.inl (.inl (.inl (0, .ofNat 0)))), ([], [])), ([(14, 0), (14, 2), (40, 2)], [15]))
def kC1084_0 : aC := (([(.ofNat 0, .ofNat 120)], [], 42, [some (.inr [40]), some (.inr [14]), some (.inl (.inl (.inr (.ofNat 0)))), some (.inl (.inl (.inr (.ofNat 5)))), some (.inl (.inl (.inr (.ofNat 120)))), some (.inl (.inl (.inl (0, .ofNat 0)))), none], []), ([], []), (120, [(-1, 0)]))
theorem ks1084 : aseg kS krf kB [kE1083, kE1068] (ksp []) kE1084 [kC1084_0] 30000 (none) = true := by decide +kernel
theorem ks1084_0 : aseg kS krf kB [kE1083, kE1068] (ksp []) kE1084 [kC1084_0] 30000 (some kC1084_0) = true := by decide +kernel
theorem kok1084 : aOK kS krf kB kE1084 := aOK_of (kal1 kok1083 (kal1 kok1068 kal0)) (kcl1 ks1084_0 kcl0) ks1084
/-- ColdShod$LawText.readOperand(LColdShod$LawCode;I)Z -/
def kE1085 : aE := (66, 16, ([], [], 0, [some (.inr [40]), some (.inr [14]), some (.inl (.inl (.inr (.ofNat 4)))), none, none], []), ([], none), ([(.ofNat 0, .ofNat 1)], [], some (.inl (.inl (.inl (0, .ofNat 0)))), ([], [])), ([(14, 0), (14, 2), (40, 2)], [15]))
def kC1085_0 : aC := (([(.ofNat 33, .ofNat 45), (.ofNat 0, .ofNat 119), (.ofNat 1, .ofNat 120)], [(40, 2, .inl (1, .ofNat 0)), (40, 1, .inl (2, .ofNat 0))], 65, [some (.inr [40]), some (.inr [14]), some (.inl (.inl (.inr (.ofNat 4)))), some (.inl (.inl (.inl (0, .ofNat 0)))), some (.inl (.inl (.inr (.negSucc 0))))], []), ([], []), (0, []))
theorem ks1085 : aseg kS krf kB [kE1069, kE1070, kE1084, kE1025, kE1078, kE1068] (ksp []) kE1085 [kC1085_0] 30000 (none) = true := by decide +kernel
theorem ks1085_0 : aseg kS krf kB [kE1069, kE1070, kE1084, kE1025, kE1078, kE1068] (ksp []) kE1085 [kC1085_0] 30000 (some kC1085_0) = true := by decide +kernel
theorem kok1085 : aOK kS krf kB kE1085 := aOK_of (kal1 kok1069 (kal1 kok1070 (kal1 kok1084 (kal1 kok1025 (kal1 kok1078 (kal1 kok1068 kal0)))))) (kcl1 ks1085_0 kcl0) ks1085
/-- ColdShod$LawText.readLevel(LColdShod$LawCode;II)Z -/
def kE1086 : aE := (65, 17, ([], [], 0, [some (.inr [40]), some (.inr [14]), some (.inl (.inl (.inr (.ofNat 5)))), some (.inl (.inl (.inr (.ofNat 4)))), none, none, none], []), ([], none), ([(.ofNat 0, .ofNat 1)], [], some (.inl (.inl (.inl (0, .ofNat 0)))), ([], [])), ([(14, 0), (14, 2), (40, 2)], [15]))
theorem ks1086 : aseg kS krf kB [kE1085] (ksp []) kE1086 [] 30000 (none) = true := by decide +kernel
theorem kok1086 : aOK kS krf kB kE1086 := aOK_of (kal1 kok1085 kal0) kcl0 ks1086
/-- ColdShod$LawText.readLevel(LColdShod$LawCode;II)Z -/
def kE1087 : aE := (65, 18, ([], [], 0, [some (.inr [40]), some (.inr [14]), some (.inl (.inl (.inr (.ofNat 4)))), some (.inl (.inl (.inr (.ofNat 4)))), none, none, none], []), ([], none), ([(.ofNat 0, .ofNat 1)], [], some (.inl (.inl (.inl (0, .ofNat 0)))), ([], [])), ([(14, 0), (14, 2), (40, 2)], [15]))
def kC1087_0 : aC := (([(.ofNat 0, .ofNat 120)], [], 42, [some (.inr [40]), some (.inr [14]), some (.inl (.inl (.inr (.ofNat 4)))), some (.inl (.inl (.inr (.ofNat 4)))), some (.inl (.inl (.inr (.ofNat 120)))), some (.inl (.inl (.inl (0, .ofNat 0)))), none], []), ([], []), (120, [(-1, 0)]))
theorem ks1087 : aseg kS krf kB [kE1086, kE1068] (ksp []) kE1087 [kC1087_0] 30000 (none) = true := by decide +kernel
theorem ks1087_0 : aseg kS krf kB [kE1086, kE1068] (ksp []) kE1087 [kC1087_0] 30000 (some kC1087_0) = true := by decide +kernel
theorem kok1087 : aOK kS krf kB kE1087 := aOK_of (kal1 kok1086 (kal1 kok1068 kal0)) (kcl1 ks1087_0 kcl0) ks1087
/-- ColdShod$LawText.readLevel(LColdShod$LawCode;II)Z -/
def kE1088 : aE := (65, 19, ([], [], 0, [some (.inr [40]), some (.inr [14]), some (.inl (.inl (.inr (.ofNat 3)))), some (.inl (.inl (.inr (.ofNat 4)))), none, none, none], []), ([], none), ([(.ofNat 0, .ofNat 1)], [], some (.inl (.inl (.inl (0, .ofNat 0)))), ([], [])), ([(14, 0), (14, 2), (40, 2)], [15]))
def kC1088_0 : aC := (([(.ofNat 0, .ofNat 120)], [], 42, [some (.inr [40]), some (.inr [14]), some (.inl (.inl (.inr (.ofNat 3)))), some (.inl (.inl (.inr (.ofNat 4)))), some (.inl (.inl (.inr (.ofNat 120)))), some (.inl (.inl (.inl (0, .ofNat 0)))), none], []), ([], []), (120, [(-1, 0)]))
theorem ks1088 : aseg kS krf kB [kE1087, kE1068] (ksp []) kE1088 [kC1088_0] 30000 (none) = true := by decide +kernel
theorem ks1088_0 : aseg kS krf kB [kE1087, kE1068] (ksp []) kE1088 [kC1088_0] 30000 (some kC1088_0) = true := by decide +kernel
theorem kok1088 : aOK kS krf kB kE1088 := aOK_of (kal1 kok1087 (kal1 kok1068 kal0)) (kcl1 ks1088_0 kcl0) ks1088
/-- ColdShod$LawText.readLevel(LColdShod$LawCode;II)Z -/
def kE1089 : aE := (65, 20, ([], [], 0, [some (.inr [40]), some (.inr [14]), some (.inl (.inl (.inr (.ofNat 2)))), some (.inl (.inl (.inr (.ofNat 4)))), none, none, none], []), ([], none), ([(.ofNat 0, .ofNat 1)], [], some (.inl (.inl (.inl (0, .ofNat 0)))), ([], [])), ([(14, 0), (14, 2), (40, 2)], [15]))
def kC1089_0 : aC := (([(.ofNat 0, .ofNat 1)], [], 42, [some (.inr [40]), some (.inr [14]), some (.inl (.inl (.inr (.ofNat 2)))), some (.inl (.inl (.inr (.ofNat 4)))), some (.inl (.inl (.inr (.ofNat 1)))), some (.inl (.inl (.inl (0, .ofNat 0)))), none], []), ([], []), (1, [(-1, 0)]))
theorem ks1089 : aseg kS krf kB [kE1088, kE1068] (ksp []) kE1089 [kC1089_0] 30000 (none) = true := by decide +kernel
theorem ks1089_0 : aseg kS krf kB [kE1088, kE1068] (ksp []) kE1089 [kC1089_0] 30000 (some kC1089_0) = true := by decide +kernel
theorem kok1089 : aOK kS krf kB kE1089 := aOK_of (kal1 kok1088 (kal1 kok1068 kal0)) (kcl1 ks1089_0 kcl0) ks1089
/-- ColdShod$LawText.readLevel(LColdShod$LawCode;II)Z -/
def kE1090 : aE := (65, 21, ([], [], 0, [some (.inr [40]), some (.inr [14]), some (.inl (.inl (.inr (.ofNat 1)))), some (.inl (.inl (.inr (.ofNat 4)))), none, none, none], []), ([], none), ([(.ofNat 0, .ofNat 1)], [], some (.inl (.inl (.inl (0, .ofNat 0)))), ([], [])), ([(14, 0), (14, 2), (40, 2)], [15]))
def kC1090_0 : aC := (([(.ofNat 0, .ofNat 120)], [], 42, [some (.inr [40]), some (.inr [14]), some (.inl (.inl (.inr (.ofNat 1)))), some (.inl (.inl (.inr (.ofNat 4)))), some (.inl (.inl (.inr (.ofNat 120)))), some (.inl (.inl (.inl (0, .ofNat 0)))), none], []), ([], []), (120, [(-1, 0)]))
theorem ks1090 : aseg kS krf kB [kE1089, kE1068] (ksp []) kE1090 [kC1090_0] 30000 (none) = true := by decide +kernel
theorem ks1090_0 : aseg kS krf kB [kE1089, kE1068] (ksp []) kE1090 [kC1090_0] 30000 (some kC1090_0) = true := by decide +kernel
theorem kok1090 : aOK kS krf kB kE1090 := aOK_of (kal1 kok1089 (kal1 kok1068 kal0)) (kcl1 ks1090_0 kcl0) ks1090
/-- ColdShod$LawText.readLevel(LColdShod$LawCode;II)Z -/
def kE1091 : aE := (65, 22, ([], [], 0, [some (.inr [40]), some (.inr [14]), some (.inl (.inl (.inr (.ofNat 0)))), some (.inl (.inl (.inr (.ofNat 4)))), none, none, none], []), ([], none), ([(.ofNat 0, .ofNat 1)], [], some (.inl (.inl (.inl (0, .ofNat 0)))), ([], [])), ([(14, 0), (14, 2), (40, 2)], [15]))
def kC1091_0 : aC := (([(.ofNat 0, .ofNat 120)], [], 42, [some (.inr [40]), some (.inr [14]), some (.inl (.inl (.inr (.ofNat 0)))), some (.inl (.inl (.inr (.ofNat 4)))), some (.inl (.inl (.inr (.ofNat 120)))), some (.inl (.inl (.inl (0, .ofNat 0)))), none], []), ([], []), (120, [(-1, 0)]))
theorem ks1091 : aseg kS krf kB [kE1090, kE1068] (ksp []) kE1091 [kC1091_0] 30000 (none) = true := by decide +kernel
theorem ks1091_0 : aseg kS krf kB [kE1090, kE1068] (ksp []) kE1091 [kC1091_0] 30000 (some kC1091_0) = true := by decide +kernel
theorem kok1091 : aOK kS krf kB kE1091 := aOK_of (kal1 kok1090 (kal1 kok1068 kal0)) (kcl1 ks1091_0 kcl0) ks1091
/-- ColdShod$LawText.readOperand(LColdShod$LawCode;I)Z -/
def kE1092 : aE := (66, 23, ([], [], 0, [some (.inr [40]), some (.inr [14]), some (.inl (.inl (.inr (.ofNat 3)))), none, none], []), ([], none), ([(.ofNat 0, .ofNat 1)], [], some (.inl (.inl (.inl (0, .ofNat 0)))), ([], [])), ([(14, 0), (14, 2), (40, 2)], [15]))
def kC1092_0 : aC := (([(.ofNat 33, .ofNat 45), (.ofNat 0, .ofNat 119), (.ofNat 1, .ofNat 120)], [(40, 2, .inl (1, .ofNat 0)), (40, 1, .inl (2, .ofNat 0))], 65, [some (.inr [40]), some (.inr [14]), some (.inl (.inl (.inr (.ofNat 3)))), some (.inl (.inl (.inl (0, .ofNat 0)))), some (.inl (.inl (.inr (.negSucc 0))))], []), ([], []), (0, []))
theorem ks1092 : aseg kS krf kB [kE1069, kE1070, kE1091, kE1025, kE1085, kE1068] (ksp []) kE1092 [kC1092_0] 30000 (none) = true := by decide +kernel
theorem ks1092_0 : aseg kS krf kB [kE1069, kE1070, kE1091, kE1025, kE1085, kE1068] (ksp []) kE1092 [kC1092_0] 30000 (some kC1092_0) = true := by decide +kernel
theorem kok1092 : aOK kS krf kB kE1092 := aOK_of (kal1 kok1069 (kal1 kok1070 (kal1 kok1091 (kal1 kok1025 (kal1 kok1085 (kal1 kok1068 kal0)))))) (kcl1 ks1092_0 kcl0) ks1092
/-- ColdShod$LawText.readLevel(LColdShod$LawCode;II)Z -/
def kE1093 : aE := (65, 24, ([], [], 0, [some (.inr [40]), some (.inr [14]), some (.inl (.inl (.inr (.ofNat 5)))), some (.inl (.inl (.inr (.ofNat 3)))), none, none, none], []), ([], none), ([(.ofNat 0, .ofNat 1)], [], some (.inl (.inl (.inl (0, .ofNat 0)))), ([], [])), ([(14, 0), (14, 2), (40, 2)], [15]))
theorem ks1093 : aseg kS krf kB [kE1092] (ksp []) kE1093 [] 30000 (none) = true := by decide +kernel
theorem kok1093 : aOK kS krf kB kE1093 := aOK_of (kal1 kok1092 kal0) kcl0 ks1093
/-- ColdShod$LawText.readLevel(LColdShod$LawCode;II)Z -/
def kE1094 : aE := (65, 25, ([], [], 0, [some (.inr [40]), some (.inr [14]), some (.inl (.inl (.inr (.ofNat 4)))), some (.inl (.inl (.inr (.ofNat 3)))), none, none, none], []), ([], none), ([(.ofNat 0, .ofNat 1)], [], some (.inl (.inl (.inl (0, .ofNat 0)))), ([], [])), ([(14, 0), (14, 2), (40, 2)], [15]))
def kC1094_0 : aC := (([(.ofNat 0, .ofNat 120)], [], 42, [some (.inr [40]), some (.inr [14]), some (.inl (.inl (.inr (.ofNat 4)))), some (.inl (.inl (.inr (.ofNat 3)))), some (.inl (.inl (.inr (.ofNat 120)))), some (.inl (.inl (.inl (0, .ofNat 0)))), none], []), ([], []), (120, [(-1, 0)]))
theorem ks1094 : aseg kS krf kB [kE1093, kE1068] (ksp []) kE1094 [kC1094_0] 30000 (none) = true := by decide +kernel
theorem ks1094_0 : aseg kS krf kB [kE1093, kE1068] (ksp []) kE1094 [kC1094_0] 30000 (some kC1094_0) = true := by decide +kernel
theorem kok1094 : aOK kS krf kB kE1094 := aOK_of (kal1 kok1093 (kal1 kok1068 kal0)) (kcl1 ks1094_0 kcl0) ks1094
/-- ColdShod$LawText.readLevel(LColdShod$LawCode;II)Z -/
def kE1095 : aE := (65, 26, ([], [], 0, [some (.inr [40]), some (.inr [14]), some (.inl (.inl (.inr (.ofNat 3)))), some (.inl (.inl (.inr (.ofNat 3)))), none, none, none], []), ([], none), ([(.ofNat 0, .ofNat 1)], [], some (.inl (.inl (.inl (0, .ofNat 0)))), ([], [])), ([(14, 0), (14, 2), (40, 2)], [15]))
def kC1095_0 : aC := (([(.ofNat 0, .ofNat 120)], [], 42, [some (.inr [40]), some (.inr [14]), some (.inl (.inl (.inr (.ofNat 3)))), some (.inl (.inl (.inr (.ofNat 3)))), some (.inl (.inl (.inr (.ofNat 120)))), some (.inl (.inl (.inl (0, .ofNat 0)))), none], []), ([], []), (120, [(-1, 0)]))
theorem ks1095 : aseg kS krf kB [kE1094, kE1068] (ksp []) kE1095 [kC1095_0] 30000 (none) = true := by decide +kernel
theorem ks1095_0 : aseg kS krf kB [kE1094, kE1068] (ksp []) kE1095 [kC1095_0] 30000 (some kC1095_0) = true := by decide +kernel
theorem kok1095 : aOK kS krf kB kE1095 := aOK_of (kal1 kok1094 (kal1 kok1068 kal0)) (kcl1 ks1095_0 kcl0) ks1095
/-- ColdShod$LawText.readLevel(LColdShod$LawCode;II)Z -/
def kE1096 : aE := (65, 27, ([], [], 0, [some (.inr [40]), some (.inr [14]), some (.inl (.inl (.inr (.ofNat 2)))), some (.inl (.inl (.inr (.ofNat 3)))), none, none, none], []), ([], none), ([(.ofNat 0, .ofNat 1)], [], some (.inl (.inl (.inl (0, .ofNat 0)))), ([], [])), ([(14, 0), (14, 2), (40, 2)], [15]))
def kC1096_0 : aC := (([(.ofNat 0, .ofNat 1)], [], 42, [some (.inr [40]), some (.inr [14]), some (.inl (.inl (.inr (.ofNat 2)))), some (.inl (.inl (.inr (.ofNat 3)))), some (.inl (.inl (.inr (.ofNat 1)))), some (.inl (.inl (.inl (0, .ofNat 0)))), none], []), ([], []), (1, [(-1, 0)]))
theorem ks1096 : aseg kS krf kB [kE1095, kE1068] (ksp []) kE1096 [kC1096_0] 30000 (none) = true := by decide +kernel
theorem ks1096_0 : aseg kS krf kB [kE1095, kE1068] (ksp []) kE1096 [kC1096_0] 30000 (some kC1096_0) = true := by decide +kernel
theorem kok1096 : aOK kS krf kB kE1096 := aOK_of (kal1 kok1095 (kal1 kok1068 kal0)) (kcl1 ks1096_0 kcl0) ks1096
/-- ColdShod$LawText.readLevel(LColdShod$LawCode;II)Z -/
def kE1097 : aE := (65, 28, ([], [], 0, [some (.inr [40]), some (.inr [14]), some (.inl (.inl (.inr (.ofNat 1)))), some (.inl (.inl (.inr (.ofNat 3)))), none, none, none], []), ([], none), ([(.ofNat 0, .ofNat 1)], [], some (.inl (.inl (.inl (0, .ofNat 0)))), ([], [])), ([(14, 0), (14, 2), (40, 2)], [15]))
def kC1097_0 : aC := (([(.ofNat 0, .ofNat 120)], [], 42, [some (.inr [40]), some (.inr [14]), some (.inl (.inl (.inr (.ofNat 1)))), some (.inl (.inl (.inr (.ofNat 3)))), some (.inl (.inl (.inr (.ofNat 120)))), some (.inl (.inl (.inl (0, .ofNat 0)))), none], []), ([], []), (120, [(-1, 0)]))
theorem ks1097 : aseg kS krf kB [kE1096, kE1068] (ksp []) kE1097 [kC1097_0] 30000 (none) = true := by decide +kernel
theorem ks1097_0 : aseg kS krf kB [kE1096, kE1068] (ksp []) kE1097 [kC1097_0] 30000 (some kC1097_0) = true := by decide +kernel
theorem kok1097 : aOK kS krf kB kE1097 := aOK_of (kal1 kok1096 (kal1 kok1068 kal0)) (kcl1 ks1097_0 kcl0) ks1097
/-- ColdShod$LawText.readLevel(LColdShod$LawCode;II)Z -/
def kE1098 : aE := (65, 29, ([], [], 0, [some (.inr [40]), some (.inr [14]), some (.inl (.inl (.inr (.ofNat 0)))), some (.inl (.inl (.inr (.ofNat 3)))), none, none, none], []), ([], none), ([(.ofNat 0, .ofNat 1)], [], some (.inl (.inl (.inl (0, .ofNat 0)))), ([], [])), ([(14, 0), (14, 2), (40, 2)], [15]))
def kC1098_0 : aC := (([(.ofNat 0, .ofNat 120)], [], 42, [some (.inr [40]), some (.inr [14]), some (.inl (.inl (.inr (.ofNat 0)))), some (.inl (.inl (.inr (.ofNat 3)))), some (.inl (.inl (.inr (.ofNat 120)))), some (.inl (.inl (.inl (0, .ofNat 0)))), none], []), ([], []), (120, [(-1, 0)]))
theorem ks1098 : aseg kS krf kB [kE1097, kE1068] (ksp []) kE1098 [kC1098_0] 30000 (none) = true := by decide +kernel
theorem ks1098_0 : aseg kS krf kB [kE1097, kE1068] (ksp []) kE1098 [kC1098_0] 30000 (some kC1098_0) = true := by decide +kernel
theorem kok1098 : aOK kS krf kB kE1098 := aOK_of (kal1 kok1097 (kal1 kok1068 kal0)) (kcl1 ks1098_0 kcl0) ks1098
/-- ColdShod$LawText.readOperand(LColdShod$LawCode;I)Z -/
def kE1099 : aE := (66, 30, ([], [], 0, [some (.inr [40]), some (.inr [14]), some (.inl (.inl (.inr (.ofNat 2)))), none, none], []), ([], none), ([(.ofNat 0, .ofNat 1)], [], some (.inl (.inl (.inl (0, .ofNat 0)))), ([], [])), ([(14, 0), (14, 2), (40, 2)], [15]))
def kC1099_0 : aC := (([(.ofNat 33, .ofNat 45), (.ofNat 0, .ofNat 119), (.ofNat 1, .ofNat 120)], [(40, 2, .inl (1, .ofNat 0)), (40, 1, .inl (2, .ofNat 0))], 65, [some (.inr [40]), some (.inr [14]), some (.inl (.inl (.inr (.ofNat 2)))), some (.inl (.inl (.inl (0, .ofNat 0)))), some (.inl (.inl (.inr (.negSucc 0))))], []), ([], []), (0, []))
theorem ks1099 : aseg kS krf kB [kE1069, kE1070, kE1098, kE1025, kE1092, kE1068] (ksp []) kE1099 [kC1099_0] 30000 (none) = true := by decide +kernel
theorem ks1099_0 : aseg kS krf kB [kE1069, kE1070, kE1098, kE1025, kE1092, kE1068] (ksp []) kE1099 [kC1099_0] 30000 (some kC1099_0) = true := by decide +kernel
theorem kok1099 : aOK kS krf kB kE1099 := aOK_of (kal1 kok1069 (kal1 kok1070 (kal1 kok1098 (kal1 kok1025 (kal1 kok1092 (kal1 kok1068 kal0)))))) (kcl1 ks1099_0 kcl0) ks1099
/-- ColdShod$LawText.readLevel(LColdShod$LawCode;II)Z -/
def kE1100 : aE := (65, 31, ([], [], 0, [some (.inr [40]), some (.inr [14]), some (.inl (.inl (.inr (.ofNat 5)))), some (.inl (.inl (.inr (.ofNat 2)))), none, none, none], []), ([], none), ([(.ofNat 0, .ofNat 1)], [], some (.inl (.inl (.inl (0, .ofNat 0)))), ([], [])), ([(14, 0), (14, 2), (40, 2)], [15]))
theorem ks1100 : aseg kS krf kB [kE1099] (ksp []) kE1100 [] 30000 (none) = true := by decide +kernel
theorem kok1100 : aOK kS krf kB kE1100 := aOK_of (kal1 kok1099 kal0) kcl0 ks1100
/-- ColdShod$LawText.readLevel(LColdShod$LawCode;II)Z -/
def kE1101 : aE := (65, 32, ([], [], 0, [some (.inr [40]), some (.inr [14]), some (.inl (.inl (.inr (.ofNat 4)))), some (.inl (.inl (.inr (.ofNat 2)))), none, none, none], []), ([], none), ([(.ofNat 0, .ofNat 1)], [], some (.inl (.inl (.inl (0, .ofNat 0)))), ([], [])), ([(14, 0), (14, 2), (40, 2)], [15]))
def kC1101_0 : aC := (([(.ofNat 0, .ofNat 120)], [], 42, [some (.inr [40]), some (.inr [14]), some (.inl (.inl (.inr (.ofNat 4)))), some (.inl (.inl (.inr (.ofNat 2)))), some (.inl (.inl (.inr (.ofNat 120)))), some (.inl (.inl (.inl (0, .ofNat 0)))), none], []), ([], []), (120, [(-1, 0)]))
theorem ks1101 : aseg kS krf kB [kE1100, kE1068] (ksp []) kE1101 [kC1101_0] 30000 (none) = true := by decide +kernel
theorem ks1101_0 : aseg kS krf kB [kE1100, kE1068] (ksp []) kE1101 [kC1101_0] 30000 (some kC1101_0) = true := by decide +kernel
theorem kok1101 : aOK kS krf kB kE1101 := aOK_of (kal1 kok1100 (kal1 kok1068 kal0)) (kcl1 ks1101_0 kcl0) ks1101
/-- ColdShod$LawText.readLevel(LColdShod$LawCode;II)Z -/
def kE1102 : aE := (65, 33, ([], [], 0, [some (.inr [40]), some (.inr [14]), some (.inl (.inl (.inr (.ofNat 3)))), some (.inl (.inl (.inr (.ofNat 2)))), none, none, none], []), ([], none), ([(.ofNat 0, .ofNat 1)], [], some (.inl (.inl (.inl (0, .ofNat 0)))), ([], [])), ([(14, 0), (14, 2), (40, 2)], [15]))
def kC1102_0 : aC := (([(.ofNat 0, .ofNat 120)], [], 42, [some (.inr [40]), some (.inr [14]), some (.inl (.inl (.inr (.ofNat 3)))), some (.inl (.inl (.inr (.ofNat 2)))), some (.inl (.inl (.inr (.ofNat 120)))), some (.inl (.inl (.inl (0, .ofNat 0)))), none], []), ([], []), (120, [(-1, 0)]))
theorem ks1102 : aseg kS krf kB [kE1101, kE1068] (ksp []) kE1102 [kC1102_0] 30000 (none) = true := by decide +kernel
theorem ks1102_0 : aseg kS krf kB [kE1101, kE1068] (ksp []) kE1102 [kC1102_0] 30000 (some kC1102_0) = true := by decide +kernel
theorem kok1102 : aOK kS krf kB kE1102 := aOK_of (kal1 kok1101 (kal1 kok1068 kal0)) (kcl1 ks1102_0 kcl0) ks1102
/-- ColdShod$LawText.readLevel(LColdShod$LawCode;II)Z -/
def kE1103 : aE := (65, 34, ([], [], 0, [some (.inr [40]), some (.inr [14]), some (.inl (.inl (.inr (.ofNat 2)))), some (.inl (.inl (.inr (.ofNat 2)))), none, none, none], []), ([], none), ([(.ofNat 0, .ofNat 1)], [], some (.inl (.inl (.inl (0, .ofNat 0)))), ([], [])), ([(14, 0), (14, 2), (40, 2)], [15]))
def kC1103_0 : aC := (([(.ofNat 0, .ofNat 1)], [], 42, [some (.inr [40]), some (.inr [14]), some (.inl (.inl (.inr (.ofNat 2)))), some (.inl (.inl (.inr (.ofNat 2)))), some (.inl (.inl (.inr (.ofNat 1)))), some (.inl (.inl (.inl (0, .ofNat 0)))), none], []), ([], []), (1, [(-1, 0)]))
theorem ks1103 : aseg kS krf kB [kE1102, kE1068] (ksp []) kE1103 [kC1103_0] 30000 (none) = true := by decide +kernel
theorem ks1103_0 : aseg kS krf kB [kE1102, kE1068] (ksp []) kE1103 [kC1103_0] 30000 (some kC1103_0) = true := by decide +kernel
theorem kok1103 : aOK kS krf kB kE1103 := aOK_of (kal1 kok1102 (kal1 kok1068 kal0)) (kcl1 ks1103_0 kcl0) ks1103
/-- ColdShod$LawText.readLevel(LColdShod$LawCode;II)Z -/
def kE1104 : aE := (65, 35, ([], [], 0, [some (.inr [40]), some (.inr [14]), some (.inl (.inl (.inr (.ofNat 1)))), some (.inl (.inl (.inr (.ofNat 2)))), none, none, none], []), ([], none), ([(.ofNat 0, .ofNat 1)], [], some (.inl (.inl (.inl (0, .ofNat 0)))), ([], [])), ([(14, 0), (14, 2), (40, 2)], [15]))
def kC1104_0 : aC := (([(.ofNat 0, .ofNat 120)], [], 42, [some (.inr [40]), some (.inr [14]), some (.inl (.inl (.inr (.ofNat 1)))), some (.inl (.inl (.inr (.ofNat 2)))), some (.inl (.inl (.inr (.ofNat 120)))), some (.inl (.inl (.inl (0, .ofNat 0)))), none], []), ([], []), (120, [(-1, 0)]))
theorem ks1104 : aseg kS krf kB [kE1103, kE1068] (ksp []) kE1104 [kC1104_0] 30000 (none) = true := by decide +kernel
theorem ks1104_0 : aseg kS krf kB [kE1103, kE1068] (ksp []) kE1104 [kC1104_0] 30000 (some kC1104_0) = true := by decide +kernel
theorem kok1104 : aOK kS krf kB kE1104 := aOK_of (kal1 kok1103 (kal1 kok1068 kal0)) (kcl1 ks1104_0 kcl0) ks1104
/-- ColdShod$LawText.readLevel(LColdShod$LawCode;II)Z -/
def kE1105 : aE := (65, 36, ([], [], 0, [some (.inr [40]), some (.inr [14]), some (.inl (.inl (.inr (.ofNat 0)))), some (.inl (.inl (.inr (.ofNat 2)))), none, none, none], []), ([], none), ([(.ofNat 0, .ofNat 1)], [], some (.inl (.inl (.inl (0, .ofNat 0)))), ([], [])), ([(14, 0), (14, 2), (40, 2)], [15]))
def kC1105_0 : aC := (([(.ofNat 0, .ofNat 120)], [], 42, [some (.inr [40]), some (.inr [14]), some (.inl (.inl (.inr (.ofNat 0)))), some (.inl (.inl (.inr (.ofNat 2)))), some (.inl (.inl (.inr (.ofNat 120)))), some (.inl (.inl (.inl (0, .ofNat 0)))), none], []), ([], []), (120, [(-1, 0)]))
theorem ks1105 : aseg kS krf kB [kE1104, kE1068] (ksp []) kE1105 [kC1105_0] 30000 (none) = true := by decide +kernel
theorem ks1105_0 : aseg kS krf kB [kE1104, kE1068] (ksp []) kE1105 [kC1105_0] 30000 (some kC1105_0) = true := by decide +kernel
theorem kok1105 : aOK kS krf kB kE1105 := aOK_of (kal1 kok1104 (kal1 kok1068 kal0)) (kcl1 ks1105_0 kcl0) ks1105
/-- ColdShod$LawText.readOperand(LColdShod$LawCode;I)Z -/
def kE1106 : aE := (66, 37, ([], [], 0, [some (.inr [40]), some (.inr [14]), some (.inl (.inl (.inr (.ofNat 1)))), none, none], []), ([], none), ([(.ofNat 0, .ofNat 1)], [], some (.inl (.inl (.inl (0, .ofNat 0)))), ([], [])), ([(14, 0), (14, 2), (40, 2)], [15]))
def kC1106_0 : aC := (([(.ofNat 33, .ofNat 45), (.ofNat 0, .ofNat 119), (.ofNat 1, .ofNat 120)], [(40, 2, .inl (1, .ofNat 0)), (40, 1, .inl (2, .ofNat 0))], 65, [some (.inr [40]), some (.inr [14]), some (.inl (.inl (.inr (.ofNat 1)))), some (.inl (.inl (.inl (0, .ofNat 0)))), some (.inl (.inl (.inr (.negSucc 0))))], []), ([], []), (0, []))
theorem ks1106 : aseg kS krf kB [kE1069, kE1070, kE1105, kE1025, kE1099, kE1068] (ksp []) kE1106 [kC1106_0] 30000 (none) = true := by decide +kernel
theorem ks1106_0 : aseg kS krf kB [kE1069, kE1070, kE1105, kE1025, kE1099, kE1068] (ksp []) kE1106 [kC1106_0] 30000 (some kC1106_0) = true := by decide +kernel
theorem kok1106 : aOK kS krf kB kE1106 := aOK_of (kal1 kok1069 (kal1 kok1070 (kal1 kok1105 (kal1 kok1025 (kal1 kok1099 (kal1 kok1068 kal0)))))) (kcl1 ks1106_0 kcl0) ks1106
/-- ColdShod$LawText.readLevel(LColdShod$LawCode;II)Z -/
def kE1107 : aE := (65, 38, ([], [], 0, [some (.inr [40]), some (.inr [14]), some (.inl (.inl (.inr (.ofNat 5)))), some (.inl (.inl (.inr (.ofNat 1)))), none, none, none], []), ([], none), ([(.ofNat 0, .ofNat 1)], [], some (.inl (.inl (.inl (0, .ofNat 0)))), ([], [])), ([(14, 0), (14, 2), (40, 2)], [15]))
theorem ks1107 : aseg kS krf kB [kE1106] (ksp []) kE1107 [] 30000 (none) = true := by decide +kernel
theorem kok1107 : aOK kS krf kB kE1107 := aOK_of (kal1 kok1106 kal0) kcl0 ks1107
/-- ColdShod$LawText.readLevel(LColdShod$LawCode;II)Z -/
def kE1108 : aE := (65, 39, ([], [], 0, [some (.inr [40]), some (.inr [14]), some (.inl (.inl (.inr (.ofNat 4)))), some (.inl (.inl (.inr (.ofNat 1)))), none, none, none], []), ([], none), ([(.ofNat 0, .ofNat 1)], [], some (.inl (.inl (.inl (0, .ofNat 0)))), ([], [])), ([(14, 0), (14, 2), (40, 2)], [15]))
def kC1108_0 : aC := (([(.ofNat 0, .ofNat 120)], [], 42, [some (.inr [40]), some (.inr [14]), some (.inl (.inl (.inr (.ofNat 4)))), some (.inl (.inl (.inr (.ofNat 1)))), some (.inl (.inl (.inr (.ofNat 120)))), some (.inl (.inl (.inl (0, .ofNat 0)))), none], []), ([], []), (120, [(-1, 0)]))
theorem ks1108 : aseg kS krf kB [kE1107, kE1068] (ksp []) kE1108 [kC1108_0] 30000 (none) = true := by decide +kernel
theorem ks1108_0 : aseg kS krf kB [kE1107, kE1068] (ksp []) kE1108 [kC1108_0] 30000 (some kC1108_0) = true := by decide +kernel
theorem kok1108 : aOK kS krf kB kE1108 := aOK_of (kal1 kok1107 (kal1 kok1068 kal0)) (kcl1 ks1108_0 kcl0) ks1108
/-- ColdShod$LawText.readLevel(LColdShod$LawCode;II)Z -/
def kE1109 : aE := (65, 40, ([], [], 0, [some (.inr [40]), some (.inr [14]), some (.inl (.inl (.inr (.ofNat 3)))), some (.inl (.inl (.inr (.ofNat 1)))), none, none, none], []), ([], none), ([(.ofNat 0, .ofNat 1)], [], some (.inl (.inl (.inl (0, .ofNat 0)))), ([], [])), ([(14, 0), (14, 2), (40, 2)], [15]))
def kC1109_0 : aC := (([(.ofNat 0, .ofNat 120)], [], 42, [some (.inr [40]), some (.inr [14]), some (.inl (.inl (.inr (.ofNat 3)))), some (.inl (.inl (.inr (.ofNat 1)))), some (.inl (.inl (.inr (.ofNat 120)))), some (.inl (.inl (.inl (0, .ofNat 0)))), none], []), ([], []), (120, [(-1, 0)]))
theorem ks1109 : aseg kS krf kB [kE1108, kE1068] (ksp []) kE1109 [kC1109_0] 30000 (none) = true := by decide +kernel
theorem ks1109_0 : aseg kS krf kB [kE1108, kE1068] (ksp []) kE1109 [kC1109_0] 30000 (some kC1109_0) = true := by decide +kernel
theorem kok1109 : aOK kS krf kB kE1109 := aOK_of (kal1 kok1108 (kal1 kok1068 kal0)) (kcl1 ks1109_0 kcl0) ks1109
/-- ColdShod$LawText.readLevel(LColdShod$LawCode;II)Z -/
def kE1110 : aE := (65, 41, ([], [], 0, [some (.inr [40]), some (.inr [14]), some (.inl (.inl (.inr (.ofNat 2)))), some (.inl (.inl (.inr (.ofNat 1)))), none, none, none], []), ([], none), ([(.ofNat 0, .ofNat 1)], [], some (.inl (.inl (.inl (0, .ofNat 0)))), ([], [])), ([(14, 0), (14, 2), (40, 2)], [15]))
def kC1110_0 : aC := (([(.ofNat 0, .ofNat 1)], [], 42, [some (.inr [40]), some (.inr [14]), some (.inl (.inl (.inr (.ofNat 2)))), some (.inl (.inl (.inr (.ofNat 1)))), some (.inl (.inl (.inr (.ofNat 1)))), some (.inl (.inl (.inl (0, .ofNat 0)))), none], []), ([], []), (1, [(-1, 0)]))
theorem ks1110 : aseg kS krf kB [kE1109, kE1068] (ksp []) kE1110 [kC1110_0] 30000 (none) = true := by decide +kernel
theorem ks1110_0 : aseg kS krf kB [kE1109, kE1068] (ksp []) kE1110 [kC1110_0] 30000 (some kC1110_0) = true := by decide +kernel
theorem kok1110 : aOK kS krf kB kE1110 := aOK_of (kal1 kok1109 (kal1 kok1068 kal0)) (kcl1 ks1110_0 kcl0) ks1110
/-- ColdShod$LawText.readLevel(LColdShod$LawCode;II)Z -/
def kE1111 : aE := (65, 42, ([], [], 0, [some (.inr [40]), some (.inr [14]), some (.inl (.inl (.inr (.ofNat 1)))), some (.inl (.inl (.inr (.ofNat 1)))), none, none, none], []), ([], none), ([(.ofNat 0, .ofNat 1)], [], some (.inl (.inl (.inl (0, .ofNat 0)))), ([], [])), ([(14, 0), (14, 2), (40, 2)], [15]))
def kC1111_0 : aC := (([(.ofNat 0, .ofNat 120)], [], 42, [some (.inr [40]), some (.inr [14]), some (.inl (.inl (.inr (.ofNat 1)))), some (.inl (.inl (.inr (.ofNat 1)))), some (.inl (.inl (.inr (.ofNat 120)))), some (.inl (.inl (.inl (0, .ofNat 0)))), none], []), ([], []), (120, [(-1, 0)]))
theorem ks1111 : aseg kS krf kB [kE1110, kE1068] (ksp []) kE1111 [kC1111_0] 30000 (none) = true := by decide +kernel
theorem ks1111_0 : aseg kS krf kB [kE1110, kE1068] (ksp []) kE1111 [kC1111_0] 30000 (some kC1111_0) = true := by decide +kernel
theorem kok1111 : aOK kS krf kB kE1111 := aOK_of (kal1 kok1110 (kal1 kok1068 kal0)) (kcl1 ks1111_0 kcl0) ks1111
/-- ColdShod$LawText.readLevel(LColdShod$LawCode;II)Z -/
def kE1112 : aE := (65, 43, ([], [], 0, [some (.inr [40]), some (.inr [14]), some (.inl (.inl (.inr (.ofNat 0)))), some (.inl (.inl (.inr (.ofNat 1)))), none, none, none], []), ([], none), ([(.ofNat 0, .ofNat 1)], [], some (.inl (.inl (.inl (0, .ofNat 0)))), ([], [])), ([(14, 0), (14, 2), (40, 2)], [15]))
def kC1112_0 : aC := (([(.ofNat 0, .ofNat 120)], [], 42, [some (.inr [40]), some (.inr [14]), some (.inl (.inl (.inr (.ofNat 0)))), some (.inl (.inl (.inr (.ofNat 1)))), some (.inl (.inl (.inr (.ofNat 120)))), some (.inl (.inl (.inl (0, .ofNat 0)))), none], []), ([], []), (120, [(-1, 0)]))
theorem ks1112 : aseg kS krf kB [kE1111, kE1068] (ksp []) kE1112 [kC1112_0] 30000 (none) = true := by decide +kernel
theorem ks1112_0 : aseg kS krf kB [kE1111, kE1068] (ksp []) kE1112 [kC1112_0] 30000 (some kC1112_0) = true := by decide +kernel
theorem kok1112 : aOK kS krf kB kE1112 := aOK_of (kal1 kok1111 (kal1 kok1068 kal0)) (kcl1 ks1112_0 kcl0) ks1112
/-- ColdShod$LawText.readOperand(LColdShod$LawCode;I)Z -/
def kE1113 : aE := (66, 44, ([], [], 0, [some (.inr [40]), some (.inr [14]), some (.inl (.inl (.inr (.ofNat 0)))), none, none], []), ([], none), ([(.ofNat 0, .ofNat 1)], [], some (.inl (.inl (.inl (0, .ofNat 0)))), ([], [])), ([(14, 0), (14, 2), (40, 2)], [15]))
def kC1113_0 : aC := (([(.ofNat 33, .ofNat 45), (.ofNat 0, .ofNat 119), (.ofNat 1, .ofNat 120)], [(40, 2, .inl (1, .ofNat 0)), (40, 1, .inl (2, .ofNat 0))], 65, [some (.inr [40]), some (.inr [14]), some (.inl (.inl (.inr (.ofNat 0)))), some (.inl (.inl (.inl (0, .ofNat 0)))), some (.inl (.inl (.inr (.negSucc 0))))], []), ([], []), (0, []))
theorem ks1113 : aseg kS krf kB [kE1069, kE1070, kE1112, kE1025, kE1106, kE1068] (ksp []) kE1113 [kC1113_0] 30000 (none) = true := by decide +kernel
theorem ks1113_0 : aseg kS krf kB [kE1069, kE1070, kE1112, kE1025, kE1106, kE1068] (ksp []) kE1113 [kC1113_0] 30000 (some kC1113_0) = true := by decide +kernel
theorem kok1113 : aOK kS krf kB kE1113 := aOK_of (kal1 kok1069 (kal1 kok1070 (kal1 kok1112 (kal1 kok1025 (kal1 kok1106 (kal1 kok1068 kal0)))))) (kcl1 ks1113_0 kcl0) ks1113
/-- ColdShod$LawText.readLevel(LColdShod$LawCode;II)Z -/
def kE1114 : aE := (65, 45, ([], [], 0, [some (.inr [40]), some (.inr [14]), some (.inl (.inl (.inr (.ofNat 5)))), some (.inl (.inl (.inr (.ofNat 0)))), none, none, none], []), ([], none), ([(.ofNat 0, .ofNat 1)], [], some (.inl (.inl (.inl (0, .ofNat 0)))), ([], [])), ([(14, 0), (14, 2), (40, 2)], [15]))
theorem ks1114 : aseg kS krf kB [kE1113] (ksp []) kE1114 [] 30000 (none) = true := by decide +kernel
theorem kok1114 : aOK kS krf kB kE1114 := aOK_of (kal1 kok1113 kal0) kcl0 ks1114
/-- ColdShod$LawText.readLevel(LColdShod$LawCode;II)Z -/
def kE1115 : aE := (65, 46, ([], [], 0, [some (.inr [40]), some (.inr [14]), some (.inl (.inl (.inr (.ofNat 4)))), some (.inl (.inl (.inr (.ofNat 0)))), none, none, none], []), ([], none), ([(.ofNat 0, .ofNat 1)], [], some (.inl (.inl (.inl (0, .ofNat 0)))), ([], [])), ([(14, 0), (14, 2), (40, 2)], [15]))
def kC1115_0 : aC := (([(.ofNat 0, .ofNat 120)], [], 42, [some (.inr [40]), some (.inr [14]), some (.inl (.inl (.inr (.ofNat 4)))), some (.inl (.inl (.inr (.ofNat 0)))), some (.inl (.inl (.inr (.ofNat 120)))), some (.inl (.inl (.inl (0, .ofNat 0)))), none], []), ([], []), (120, [(-1, 0)]))
theorem ks1115 : aseg kS krf kB [kE1114, kE1068] (ksp []) kE1115 [kC1115_0] 30000 (none) = true := by decide +kernel
theorem ks1115_0 : aseg kS krf kB [kE1114, kE1068] (ksp []) kE1115 [kC1115_0] 30000 (some kC1115_0) = true := by decide +kernel
theorem kok1115 : aOK kS krf kB kE1115 := aOK_of (kal1 kok1114 (kal1 kok1068 kal0)) (kcl1 ks1115_0 kcl0) ks1115
/-- ColdShod$LawText.readLevel(LColdShod$LawCode;II)Z -/
def kE1116 : aE := (65, 47, ([], [], 0, [some (.inr [40]), some (.inr [14]), some (.inl (.inl (.inr (.ofNat 3)))), some (.inl (.inl (.inr (.ofNat 0)))), none, none, none], []), ([], none), ([(.ofNat 0, .ofNat 1)], [], some (.inl (.inl (.inl (0, .ofNat 0)))), ([], [])), ([(14, 0), (14, 2), (40, 2)], [15]))
def kC1116_0 : aC := (([(.ofNat 0, .ofNat 120)], [], 42, [some (.inr [40]), some (.inr [14]), some (.inl (.inl (.inr (.ofNat 3)))), some (.inl (.inl (.inr (.ofNat 0)))), some (.inl (.inl (.inr (.ofNat 120)))), some (.inl (.inl (.inl (0, .ofNat 0)))), none], []), ([], []), (120, [(-1, 0)]))
theorem ks1116 : aseg kS krf kB [kE1115, kE1068] (ksp []) kE1116 [kC1116_0] 30000 (none) = true := by decide +kernel
theorem ks1116_0 : aseg kS krf kB [kE1115, kE1068] (ksp []) kE1116 [kC1116_0] 30000 (some kC1116_0) = true := by decide +kernel
theorem kok1116 : aOK kS krf kB kE1116 := aOK_of (kal1 kok1115 (kal1 kok1068 kal0)) (kcl1 ks1116_0 kcl0) ks1116
/-- ColdShod$LawText.readLevel(LColdShod$LawCode;II)Z -/
def kE1117 : aE := (65, 48, ([], [], 0, [some (.inr [40]), some (.inr [14]), some (.inl (.inl (.inr (.ofNat 2)))), some (.inl (.inl (.inr (.ofNat 0)))), none, none, none], []), ([], none), ([(.ofNat 0, .ofNat 1)], [], some (.inl (.inl (.inl (0, .ofNat 0)))), ([], [])), ([(14, 0), (14, 2), (40, 2)], [15]))
def kC1117_0 : aC := (([(.ofNat 0, .ofNat 1)], [], 42, [some (.inr [40]), some (.inr [14]), some (.inl (.inl (.inr (.ofNat 2)))), some (.inl (.inl (.inr (.ofNat 0)))), some (.inl (.inl (.inr (.ofNat 1)))), some (.inl (.inl (.inl (0, .ofNat 0)))), none], []), ([], []), (1, [(-1, 0)]))
theorem ks1117 : aseg kS krf kB [kE1116, kE1068] (ksp []) kE1117 [kC1117_0] 30000 (none) = true := by decide +kernel
theorem ks1117_0 : aseg kS krf kB [kE1116, kE1068] (ksp []) kE1117 [kC1117_0] 30000 (some kC1117_0) = true := by decide +kernel
theorem kok1117 : aOK kS krf kB kE1117 := aOK_of (kal1 kok1116 (kal1 kok1068 kal0)) (kcl1 ks1117_0 kcl0) ks1117
/-- ColdShod$LawText.readLevel(LColdShod$LawCode;II)Z -/
def kE1118 : aE := (65, 49, ([], [], 0, [some (.inr [40]), some (.inr [14]), some (.inl (.inl (.inr (.ofNat 1)))), some (.inl (.inl (.inr (.ofNat 0)))), none, none, none], []), ([], none), ([(.ofNat 0, .ofNat 1)], [], some (.inl (.inl (.inl (0, .ofNat 0)))), ([], [])), ([(14, 0), (14, 2), (40, 2)], [15]))
def kC1118_0 : aC := (([(.ofNat 0, .ofNat 120)], [], 42, [some (.inr [40]), some (.inr [14]), some (.inl (.inl (.inr (.ofNat 1)))), some (.inl (.inl (.inr (.ofNat 0)))), some (.inl (.inl (.inr (.ofNat 120)))), some (.inl (.inl (.inl (0, .ofNat 0)))), none], []), ([], []), (120, [(-1, 0)]))
theorem ks1118 : aseg kS krf kB [kE1117, kE1068] (ksp []) kE1118 [kC1118_0] 30000 (none) = true := by decide +kernel
theorem ks1118_0 : aseg kS krf kB [kE1117, kE1068] (ksp []) kE1118 [kC1118_0] 30000 (some kC1118_0) = true := by decide +kernel
theorem kok1118 : aOK kS krf kB kE1118 := aOK_of (kal1 kok1117 (kal1 kok1068 kal0)) (kcl1 ks1118_0 kcl0) ks1118
/-- ColdShod$LawText.readLevel(LColdShod$LawCode;II)Z -/
def kE1119 : aE := (65, 50, ([], [], 0, [some (.inr [40]), some (.inr [14]), some (.inl (.inl (.inr (.ofNat 0)))), some (.inl (.inl (.inr (.ofNat 0)))), none, none, none], []), ([], none), ([(.ofNat 0, .ofNat 1)], [], some (.inl (.inl (.inl (0, .ofNat 0)))), ([], [])), ([(14, 0), (14, 2), (40, 2)], [15]))
def kC1119_0 : aC := (([(.ofNat 0, .ofNat 120)], [], 42, [some (.inr [40]), some (.inr [14]), some (.inl (.inl (.inr (.ofNat 0)))), some (.inl (.inl (.inr (.ofNat 0)))), some (.inl (.inl (.inr (.ofNat 120)))), some (.inl (.inl (.inl (0, .ofNat 0)))), none], []), ([], []), (120, [(-1, 0)]))
theorem ks1119 : aseg kS krf kB [kE1118, kE1068] (ksp []) kE1119 [kC1119_0] 30000 (none) = true := by decide +kernel
theorem ks1119_0 : aseg kS krf kB [kE1118, kE1068] (ksp []) kE1119 [kC1119_0] 30000 (some kC1119_0) = true := by decide +kernel
theorem kok1119 : aOK kS krf kB kE1119 := aOK_of (kal1 kok1118 (kal1 kok1068 kal0)) (kcl1 ks1119_0 kcl0) ks1119
/-- ColdShod$LawText.readInto(LColdShod$LawCode;)I -/
def kE1120 : aE := (63, 52, ([], [], 0, [some (.inr [40]), some (.inr [14, 17]), none], []), ([], none), ([(.negSucc 0, .ofNat 120)], [], some (.inl (.inl (.inl (0, .ofNat 0)))), ([], [])), ([(14, 0), (14, 2), (17, 0), (17, 2), (40, 2)], [15, 18]))
def kC1120_0 : aC := (([(.ofNat 0, .ofNat 121)], [], 11, [some (.inr [40]), some (.inr [14, 17]), some (.inl (.inl (.inl (0, .ofNat 0))))], []), ([], []), (121, [(-1, 0)]))
theorem ks1120 : aseg kS krf kB [kE1067, kE1025, kE1015, kE1119, kE1068] (ksp [(63, 0, 1, -1000, 1000, 0), (63, 11, 1, -1000, 1000, 0)]) kE1120 [kC1120_0] 30000 (none) = true := by decide +kernel
theorem ks1120_0 : aseg kS krf kB [kE1067, kE1025, kE1015, kE1119, kE1068] (ksp [(63, 0, 1, -1000, 1000, 0), (63, 11, 1, -1000, 1000, 0)]) kE1120 [kC1120_0] 30000 (some kC1120_0) = true := by decide +kernel
theorem kok1120 : aOK kS krf kB kE1120 := aOK_of (kal1 kok1067 (kal1 kok1025 (kal1 kok1015 (kal1 kok1119 (kal1 kok1068 kal0))))) (kcl1 ks1120_0 kcl0) ks1120
/-- ColdShod.law()I -/
def kE1121 : aE := (101, 53, ([], [], 0, [some (.inr [6]), none, none], []), ([], none), ([(.negSucc 219, .ofNat 1)], [], some (.inl (.inl (.inl (0, .ofNat 0)))), ([], [])), ([(14, 0), (14, 2), (17, 0), (17, 2), (40, 1), (40, 2)], [15, 18]))
theorem ks1121 : aseg kS krf kB [kE1120] (ksp []) kE1121 [] 30000 (none) = true := by decide +kernel
theorem kok1121 : aOK kS krf kB kE1121 := aOK_of (kal1 kok1120 kal0) kcl0 ks1121
/-- ColdShodModel.law()I -/
def kE1122 : aE := (177, 44, ([], [], 0, [some (.inr [102]), none, none, none], []), ([], none), ([(.negSucc 219, .ofNat 1)], [], some (.inl (.inl (.inl (0, .ofNat 0)))), ([], [])), ([(102, 12), (102, 14), (102, 15), (102, 16), (102, 17), (102, 18), (102, 19)], [110]))
def kC1122_0 : aC := (([(.negSucc 2147483647, .ofNat 2147483647), (.ofNat 0, .ofNat 120), (.ofNat 0, .ofNat 120)], [(102, 12, .inr (.ofNat 0)), (102, 18, .inr (.negSucc 0))], 37, [some (.inr [102]), some (.inl (.inl (.inl (0, .ofNat 0)))), some (.inl (.inl (.inl (1, .ofNat 0)))), some (.inl (.inl (.inl (2, .ofNat 0))))], []), ([], []), (120, [(-1, 2)]))
theorem ks1122 : aseg kS krf kB [kE87] (ksp []) kE1122 [kC1122_0] 30000 (none) = true := by decide +kernel
theorem ks1122_0 : aseg kS krf kB [kE87] (ksp []) kE1122 [kC1122_0] 30000 (some kC1122_0) = true := by decide +kernel
theorem kok1122 : aOK kS krf kB kE1122 := aOK_of (kal1 kok87 kal0) (kcl1 ks1122_0 kcl0) ks1122
/-- ColdShod.feed(I)I -/
def kE1123 : aE := (100, 1, ([(.negSucc 2147483647, .ofNat 2147483647)], [], 0, [some (.inr [6]), some (.inl (.inl (.inl (0, .ofNat 0))))], []), ([], none), ([(.negSucc 2, .ofNat 120)], [], some (.inl (.inl (.inl (1, .ofNat 0)))), ([], [])), ([(40, 1)], [41]))
theorem ks1123 : aseg kS krf kB [] (ksp []) kE1123 [] 30000 (none) = true := by decide +kernel
theorem kok1123 : aOK kS krf kB kE1123 := aOK_of kal0 kcl0 ks1123
/-- ColdShodModel.feed(I)I -/
def kE1124 : aE := (165, 1, ([(.negSucc 2147483647, .ofNat 2147483647)], [], 0, [some (.inr [102]), some (.inl (.inl (.inl (0, .ofNat 0))))], []), ([], none), ([(.negSucc 2, .ofNat 120)], [], some (.inl (.inl (.inl (1, .ofNat 0)))), ([], [])), ([(102, 12)], [109]))
theorem ks1124 : aseg kS krf kB [] (ksp []) kE1124 [] 30000 (none) = true := by decide +kernel
theorem kok1124 : aOK kS krf kB kE1124 := aOK_of kal0 kcl0 ks1124
/-- ColdShod.of(II)I -/
def kE1125 : aE := (99, 3, ([(.negSucc 2147483647, .ofNat 2147483647), (.negSucc 2147483647, .ofNat 2147483647)], [], 0, [some (.inr [6]), some (.inl (.inl (.inl (0, .ofNat 0)))), some (.inl (.inl (.inl (1, .ofNat 0))))], []), ([], none), ([(.negSucc 2147483647, .ofNat 2147483647)], [], some (.inl (.inl (.inl (2, .ofNat 0)))), ([], [])), ([], []))
theorem ks1125 : aseg kS krf kB [] (ksp []) kE1125 [] 30000 (none) = true := by decide +kernel
theorem kok1125 : aOK kS krf kB kE1125 := aOK_of kal0 kcl0 ks1125
/-- ColdShodModel.of(II)I -/
def kE1126 : aE := (164, 3, ([(.negSucc 2147483647, .ofNat 2147483647), (.negSucc 2147483647, .ofNat 2147483647)], [], 0, [some (.inr [102]), some (.inl (.inl (.inl (0, .ofNat 0)))), some (.inl (.inl (.inl (1, .ofNat 0)))), none], []), ([], none), ([(.negSucc 1999999999, .ofNat 99)], [], some (.inl (.inl (.inl (2, .ofNat 0)))), ([], [])), ([], []))
theorem ks1126 : aseg kS krf kB [] (ksp []) kE1126 [] 30000 (none) = true := by decide +kernel
theorem kok1126 : aOK kS krf kB kE1126 := aOK_of kal0 kcl0 ks1126
/-- ColdShod$Changes.note(IIII)V -/
def kE1127 : aE := (9, 1, ([(.ofNat 0, .ofNat 11), (.ofNat 0, .ofNat 11), (.negSucc 1999999999, .ofNat 100000000), (.negSucc 0, .ofNat 99)], [], 0, [some (.inr [42]), some (.inl (.inl (.inl (0, .ofNat 0)))), some (.inl (.inl (.inl (1, .ofNat 0)))), some (.inl (.inl (.inl (2, .ofNat 0)))), some (.inl (.inl (.inl (3, .ofNat 0))))], []), ([], none), ([], [], none, ([], [])), ([(42, 0), (42, 1)], [43, 44, 45, 46, 1000]))
theorem ks1127 : aseg kS krf kB [] (ksp []) kE1127 [] 30000 (none) = true := by decide +kernel
theorem kok1127 : aOK kS krf kB kE1127 := aOK_of kal0 kcl0 ks1127
/-- ColdShod.mend(III)I -/
def kE1128 : aE := (98, 3, ([(.negSucc 2147483647, .ofNat 2147483647), (.negSucc 2147483647, .ofNat 2147483647), (.negSucc 2147483647, .ofNat 2147483647)], [], 0, [some (.inr [6]), some (.inl (.inl (.inl (0, .ofNat 0)))), some (.inl (.inl (.inl (1, .ofNat 0)))), some (.inl (.inl (.inl (2, .ofNat 0)))), none], []), ([], none), ([(.negSucc 1999999999, .ofNat 100000000)], [], some (.inl (.inl (.inl (3, .ofNat 0)))), ([], [])), ([(20, 0), (20, 1), (20, 2), (20, 3), (20, 4), (20, 5), (20, 6), (21, 0), (21, 1), (21, 2), (21, 3), (21, 4), (21, 5), (21, 6), (22, 0), (22, 1), (22, 2), (22, 3), (22, 4), (22, 5), (22, 6), (23, 0), (23, 1), (23, 2), (23, 3), (23, 4), (23, 5), (23, 6), (24, 0), (24, 1), (24, 2), (24, 3), (24, 4), (24, 5), (24, 6), (25, 0), (25, 1), (25, 2), (25, 3), (25, 4), (25, 5), (25, 6), (26, 0), (26, 1), (26, 2), (26, 3), (26, 4), (26, 5), (26, 6), (27, 0), (27, 1), (27, 2), (27, 3), (27, 4), (27, 5), (27, 6), (28, 2), (28, 3), (28, 4), (29, 2), (29, 3), (29, 4), (30, 2), (30, 3), (30, 4), (31, 2), (31, 3), (31, 4), (32, 2), (32, 3), (32, 4), (33, 2), (33, 3), (33, 4), (34, 2), (34, 3), (34, 4), (35, 2), (35, 3), (35, 4), (36, 2), (36, 3), (36, 4), (37, 2), (37, 3), (37, 4), (38, 2), (38, 3), (38, 4), (39, 2), (39, 3), (39, 4), (42, 0), (42, 1)], [8, 9, 43, 44, 45, 46, 1000]))
def kC1128_0 : aC := (([(.ofNat 0, .ofNat 11), (.ofNat 0, .ofNat 11), (.negSucc 0, .ofNat 99), (.negSucc 1999999999, .ofNat 100000000)], [], 66, [some (.inr [6]), some (.inl (.inl (.inl (0, .ofNat 0)))), some (.inl (.inl (.inl (1, .ofNat 0)))), some (.inl (.inl (.inl (2, .ofNat 0)))), some (.inl (.inl (.inl (3, .ofNat 0))))], []), ([], []), (0, []))
theorem ks1128 : aseg kS krf kB [kE1127] (ksp []) kE1128 [kC1128_0] 30000 (none) = true := by decide +kernel
theorem ks1128_0 : aseg kS krf kB [kE1127] (ksp []) kE1128 [kC1128_0] 30000 (some kC1128_0) = true := by decide +kernel
theorem kok1128 : aOK kS krf kB kE1128 := aOK_of (kal1 kok1127 kal0) (kcl1 ks1128_0 kcl0) ks1128
