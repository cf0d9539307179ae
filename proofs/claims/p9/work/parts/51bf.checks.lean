/-! ENTRIES and their checks: printed by a program (wip/ai). -/
/-- ColdShod$LawText.readLevel(LColdShod$LawCode;II)Z -/
def kE1065 : aE := (65, 27, ([], [], 0, [some (.inr [40]), some (.inr [14]), some (.inl (.inl (.inr (.ofNat 2)))), some (.inl (.inl (.inr (.ofNat 3)))), none, none, none], []), ([], none), ([(.ofNat 0, .ofNat 1)], [], some (.inl (.inl (.inl (0, .ofNat 0)))), ([], [])), ([(14, 0), (14, 2), (40, 2)], [15]))
def kC1065_0 : aC := (([(.ofNat 0, .ofNat 1)], [], 42, [some (.inr [40]), some (.inr [14]), some (.inl (.inl (.inr (.ofNat 2)))), some (.inl (.inl (.inr (.ofNat 3)))), some (.inl (.inl (.inr (.ofNat 1)))), some (.inl (.inl (.inl (0, .ofNat 0)))), none], []), ([], []), (1, [(-1, 0)]))
theorem ks1065 : aseg kS krf kB [kE1064] (ksp []) kE1065 [kC1065_0] 30000 (none) = true := by decide +kernel
theorem ks1065_0 : aseg kS krf kB [kE1064] (ksp []) kE1065 [kC1065_0] 30000 (some kC1065_0) = true := by decide +kernel
theorem kok1065 : aOK kS krf kB kE1065 := aOK_of (kal1 kok1064 kal0) (kcl1 ks1065_0 kcl0) ks1065
/-- ColdShod$LawText.readLevel(LColdShod$LawCode;II)Z -/
def kE1066 : aE := (65, 28, ([], [], 0, [some (.inr [40]), some (.inr [14]), some (.inl (.inl (.inr (.ofNat 1)))), some (.inl (.inl (.inr (.ofNat 3)))), none, none, none], []), ([], none), ([(.ofNat 0, .ofNat 1)], [], some (.inl (.inl (.inl (0, .ofNat 0)))), ([], [])), ([(14, 0), (14, 2), (40, 2)], [15]))
def kC1066_0 : aC := (([(.ofNat 0, .ofNat 120)], [], 42, [some (.inr [40]), some (.inr [14]), some (.inl (.inl (.inr (.ofNat 1)))), some (.inl (.inl (.inr (.ofNat 3)))), some (.inl (.inl (.inr (.ofNat 120)))), some (.inl (.inl (.inl (0, .ofNat 0)))), none], []), ([], []), (120, [(-1, 0)]))
theorem ks1066 : aseg kS krf kB [kE1065] (ksp []) kE1066 [kC1066_0] 30000 (none) = true := by decide +kernel
theorem ks1066_0 : aseg kS krf kB [kE1065] (ksp []) kE1066 [kC1066_0] 30000 (some kC1066_0) = true := by decide +kernel
theorem kok1066 : aOK kS krf kB kE1066 := aOK_of (kal1 kok1065 kal0) (kcl1 ks1066_0 kcl0) ks1066
/-- ColdShod$LawText.readLevel(LColdShod$LawCode;II)Z -/
def kE1067 : aE := (65, 29, ([], [], 0, [some (.inr [40]), some (.inr [14]), some (.inl (.inl (.inr (.ofNat 0)))), some (.inl (.inl (.inr (.ofNat 3)))), none, none, none], []), ([], none), ([(.ofNat 0, .ofNat 1)], [], some (.inl (.inl (.inl (0, .ofNat 0)))), ([], [])), ([(14, 0), (14, 2), (40, 2)], [15]))
def kC1067_0 : aC := (([(.ofNat 0, .ofNat 120)], [], 42, [some (.inr [40]), some (.inr [14]), some (.inl (.inl (.inr (.ofNat 0)))), some (.inl (.inl (.inr (.ofNat 3)))), some (.inl (.inl (.inr (.ofNat 120)))), some (.inl (.inl (.inl (0, .ofNat 0)))), none], []), ([], []), (120, [(-1, 0)]))
theorem ks1067 : aseg kS krf kB [kE1066] (ksp []) kE1067 [kC1067_0] 30000 (none) = true := by decide +kernel
theorem ks1067_0 : aseg kS krf kB [kE1066] (ksp []) kE1067 [kC1067_0] 30000 (some kC1067_0) = true := by decide +kernel
theorem kok1067 : aOK kS krf kB kE1067 := aOK_of (kal1 kok1066 kal0) (kcl1 ks1067_0 kcl0) ks1067
/-- ColdShod$LawText.readOperand(LColdShod$LawCode;I)Z -/
def kE1068 : aE := (66, 30, ([], [], 0, [some (.inr [40]), some (.inr [14]), some (.inl (.inl (.inr (.ofNat 2)))), none, none], []), ([], none), ([(.ofNat 0, .ofNat 1)], [], some (.inl (.inl (.inl (0, .ofNat 0)))), ([], [])), ([(14, 0), (14, 2), (40, 2)], [15]))
theorem ks1068 : aseg kS krf kB [kE1039, kE1061, kE1067] (ksp []) kE1068 [] 30000 (none) = true := by decide +kernel
theorem kok1068 : aOK kS krf kB kE1068 := aOK_of (kal1 kok1039 (kal1 kok1061 (kal1 kok1067 kal0))) kcl0 ks1068
/-- ColdShod$LawText.readLevel(LColdShod$LawCode;II)Z -/
def kE1069 : aE := (65, 31, ([], [], 0, [some (.inr [40]), some (.inr [14]), some (.inl (.inl (.inr (.ofNat 5)))), some (.inl (.inl (.inr (.ofNat 2)))), none, none, none], []), ([], none), ([(.ofNat 0, .ofNat 1)], [], some (.inl (.inl (.inl (0, .ofNat 0)))), ([], [])), ([(14, 0), (14, 2), (40, 2)], [15]))
theorem ks1069 : aseg kS krf kB [kE1068] (ksp []) kE1069 [] 30000 (none) = true := by decide +kernel
theorem kok1069 : aOK kS krf kB kE1069 := aOK_of (kal1 kok1068 kal0) kcl0 ks1069
/-- ColdShod$LawText.readLevel(LColdShod$LawCode;II)Z -/
def kE1070 : aE := (65, 32, ([], [], 0, [some (.inr [40]), some (.inr [14]), some (.inl (.inl (.inr (.ofNat 4)))), some (.inl (.inl (.inr (.ofNat 2)))), none, none, none], []), ([], none), ([(.ofNat 0, .ofNat 1)], [], some (.inl (.inl (.inl (0, .ofNat 0)))), ([], [])), ([(14, 0), (14, 2), (40, 2)], [15]))
def kC1070_0 : aC := (([(.ofNat 0, .ofNat 120)], [], 42, [some (.inr [40]), some (.inr [14]), some (.inl (.inl (.inr (.ofNat 4)))), some (.inl (.inl (.inr (.ofNat 2)))), some (.inl (.inl (.inr (.ofNat 120)))), some (.inl (.inl (.inl (0, .ofNat 0)))), none], []), ([], []), (120, [(-1, 0)]))
theorem ks1070 : aseg kS krf kB [kE1069] (ksp []) kE1070 [kC1070_0] 30000 (none) = true := by decide +kernel
theorem ks1070_0 : aseg kS krf kB [kE1069] (ksp []) kE1070 [kC1070_0] 30000 (some kC1070_0) = true := by decide +kernel
theorem kok1070 : aOK kS krf kB kE1070 := aOK_of (kal1 kok1069 kal0) (kcl1 ks1070_0 kcl0) ks1070
/-- ColdShod$LawText.readLevel(LColdShod$LawCode;II)Z -/
def kE1071 : aE := (65, 33, ([], [], 0, [some (.inr [40]), some (.inr [14]), some (.inl (.inl (.inr (.ofNat 3)))), some (.inl (.inl (.inr (.ofNat 2)))), none, none, none], []), ([], none), ([(.ofNat 0, .ofNat 1)], [], some (.inl (.inl (.inl (0, .ofNat 0)))), ([], [])), ([(14, 0), (14, 2), (40, 2)], [15]))
def kC1071_0 : aC := (([(.ofNat 0, .ofNat 120)], [], 42, [some (.inr [40]), some (.inr [14]), some (.inl (.inl (.inr (.ofNat 3)))), some (.inl (.inl (.inr (.ofNat 2)))), some (.inl (.inl (.inr (.ofNat 120)))), some (.inl (.inl (.inl (0, .ofNat 0)))), none], []), ([], []), (120, [(-1, 0)]))
theorem ks1071 : aseg kS krf kB [kE1070] (ksp []) kE1071 [kC1071_0] 30000 (none) = true := by decide +kernel
theorem ks1071_0 : aseg kS krf kB [kE1070] (ksp []) kE1071 [kC1071_0] 30000 (some kC1071_0) = true := by decide +kernel
theorem kok1071 : aOK kS krf kB kE1071 := aOK_of (kal1 kok1070 kal0) (kcl1 ks1071_0 kcl0) ks1071
/-- ColdShod$LawText.readLevel(LColdShod$LawCode;II)Z -/
def kE1072 : aE := (65, 34, ([], [], 0, [some (.inr [40]), some (.inr [14]), some (.inl (.inl (.inr (.ofNat 2)))), some (.inl (.inl (.inr (.ofNat 2)))), none, none, none], []), ([], none), ([(.ofNat 0, .ofNat 1)], [], some (.inl (.inl (.inl (0, .ofNat 0)))), ([], [])), ([(14, 0), (14, 2), (40, 2)], [15]))
def kC1072_0 : aC := (([(.ofNat 0, .ofNat 1)], [], 42, [some (.inr [40]), some (.inr [14]), some (.inl (.inl (.inr (.ofNat 2)))), some (.inl (.inl (.inr (.ofNat 2)))), some (.inl (.inl (.inr (.ofNat 1)))), some (.inl (.inl (.inl (0, .ofNat 0)))), none], []), ([], []), (1, [(-1, 0)]))
theorem ks1072 : aseg kS krf kB [kE1071] (ksp []) kE1072 [kC1072_0] 30000 (none) = true := by decide +kernel
theorem ks1072_0 : aseg kS krf kB [kE1071] (ksp []) kE1072 [kC1072_0] 30000 (some kC1072_0) = true := by decide +kernel
theorem kok1072 : aOK kS krf kB kE1072 := aOK_of (kal1 kok1071 kal0) (kcl1 ks1072_0 kcl0) ks1072
/-- ColdShod$LawText.readLevel(LColdShod$LawCode;II)Z -/
def kE1073 : aE := (65, 35, ([], [], 0, [some (.inr [40]), some (.inr [14]), some (.inl (.inl (.inr (.ofNat 1)))), some (.inl (.inl (.inr (.ofNat 2)))), none, none, none], []), ([], none), ([(.ofNat 0, .ofNat 1)], [], some (.inl (.inl (.inl (0, .ofNat 0)))), ([], [])), ([(14, 0), (14, 2), (40, 2)], [15]))
def kC1073_0 : aC := (([(.ofNat 0, .ofNat 120)], [], 42, [some (.inr [40]), some (.inr [14]), some (.inl (.inl (.inr (.ofNat 1)))), some (.inl (.inl (.inr (.ofNat 2)))), some (.inl (.inl (.inr (.ofNat 120)))), some (.inl (.inl (.inl (0, .ofNat 0)))), none], []), ([], []), (120, [(-1, 0)]))
theorem ks1073 : aseg kS krf kB [kE1072] (ksp []) kE1073 [kC1073_0] 30000 (none) = true := by decide +kernel
theorem ks1073_0 : aseg kS krf kB [kE1072] (ksp []) kE1073 [kC1073_0] 30000 (some kC1073_0) = true := by decide +kernel
theorem kok1073 : aOK kS krf kB kE1073 := aOK_of (kal1 kok1072 kal0) (kcl1 ks1073_0 kcl0) ks1073
/-- ColdShod$LawText.readLevel(LColdShod$LawCode;II)Z -/
def kE1074 : aE := (65, 36, ([], [], 0, [some (.inr [40]), some (.inr [14]), some (.inl (.inl (.inr (.ofNat 0)))), some (.inl (.inl (.inr (.ofNat 2)))), none, none, none], []), ([], none), ([(.ofNat 0, .ofNat 1)], [], some (.inl (.inl (.inl (0, .ofNat 0)))), ([], [])), ([(14, 0), (14, 2), (40, 2)], [15]))
def kC1074_0 : aC := (([(.ofNat 0, .ofNat 120)], [], 42, [some (.inr [40]), some (.inr [14]), some (.inl (.inl (.inr (.ofNat 0)))), some (.inl (.inl (.inr (.ofNat 2)))), some (.inl (.inl (.inr (.ofNat 120)))), some (.inl (.inl (.inl (0, .ofNat 0)))), none], []), ([], []), (120, [(-1, 0)]))
theorem ks1074 : aseg kS krf kB [kE1073] (ksp []) kE1074 [kC1074_0] 30000 (none) = true := by decide +kernel
theorem ks1074_0 : aseg kS krf kB [kE1073] (ksp []) kE1074 [kC1074_0] 30000 (some kC1074_0) = true := by decide +kernel
theorem kok1074 : aOK kS krf kB kE1074 := aOK_of (kal1 kok1073 kal0) (kcl1 ks1074_0 kcl0) ks1074
/-- ColdShod$LawText.readOperand(LColdShod$LawCode;I)Z -/
def kE1075 : aE := (66, 37, ([], [], 0, [some (.inr [40]), some (.inr [14]), some (.inl (.inl (.inr (.ofNat 1)))), none, none], []), ([], none), ([(.ofNat 0, .ofNat 1)], [], some (.inl (.inl (.inl (0, .ofNat 0)))), ([], [])), ([(14, 0), (14, 2), (40, 2)], [15]))
theorem ks1075 : aseg kS krf kB [kE1039, kE1068, kE1074] (ksp []) kE1075 [] 30000 (none) = true := by decide +kernel
theorem kok1075 : aOK kS krf kB kE1075 := aOK_of (kal1 kok1039 (kal1 kok1068 (kal1 kok1074 kal0))) kcl0 ks1075
/-- ColdShod$LawText.readLevel(LColdShod$LawCode;II)Z -/
def kE1076 : aE := (65, 38, ([], [], 0, [some (.inr [40]), some (.inr [14]), some (.inl (.inl (.inr (.ofNat 5)))), some (.inl (.inl (.inr (.ofNat 1)))), none, none, none], []), ([], none), ([(.ofNat 0, .ofNat 1)], [], some (.inl (.inl (.inl (0, .ofNat 0)))), ([], [])), ([(14, 0), (14, 2), (40, 2)], [15]))
theorem ks1076 : aseg kS krf kB [kE1075] (ksp []) kE1076 [] 30000 (none) = true := by decide +kernel
theorem kok1076 : aOK kS krf kB kE1076 := aOK_of (kal1 kok1075 kal0) kcl0 ks1076
/-- ColdShod$LawText.readLevel(LColdShod$LawCode;II)Z -/
def kE1077 : aE := (65, 39, ([], [], 0, [some (.inr [40]), some (.inr [14]), some (.inl (.inl (.inr (.ofNat 4)))), some (.inl (.inl (.inr (.ofNat 1)))), none, none, none], []), ([], none), ([(.ofNat 0, .ofNat 1)], [], some (.inl (.inl (.inl (0, .ofNat 0)))), ([], [])), ([(14, 0), (14, 2), (40, 2)], [15]))
def kC1077_0 : aC := (([(.ofNat 0, .ofNat 120)], [], 42, [some (.inr [40]), some (.inr [14]), some (.inl (.inl (.inr (.ofNat 4)))), some (.inl (.inl (.inr (.ofNat 1)))), some (.inl (.inl (.inr (.ofNat 120)))), some (.inl (.inl (.inl (0, .ofNat 0)))), none], []), ([], []), (120, [(-1, 0)]))
theorem ks1077 : aseg kS krf kB [kE1076] (ksp []) kE1077 [kC1077_0] 30000 (none) = true := by decide +kernel
theorem ks1077_0 : aseg kS krf kB [kE1076] (ksp []) kE1077 [kC1077_0] 30000 (some kC1077_0) = true := by decide +kernel
theorem kok1077 : aOK kS krf kB kE1077 := aOK_of (kal1 kok1076 kal0) (kcl1 ks1077_0 kcl0) ks1077
/-- ColdShod$LawText.readLevel(LColdShod$LawCode;II)Z -/
def kE1078 : aE := (65, 40, ([], [], 0, [some (.inr [40]), some (.inr [14]), some (.inl (.inl (.inr (.ofNat 3)))), some (.inl (.inl (.inr (.ofNat 1)))), none, none, none], []), ([], none), ([(.ofNat 0, .ofNat 1)], [], some (.inl (.inl (.inl (0, .ofNat 0)))), ([], [])), ([(14, 0), (14, 2), (40, 2)], [15]))
def kC1078_0 : aC := (([(.ofNat 0, .ofNat 120)], [], 42, [some (.inr [40]), some (.inr [14]), some (.inl (.inl (.inr (.ofNat 3)))), some (.inl (.inl (.inr (.ofNat 1)))), some (.inl (.inl (.inr (.ofNat 120)))), some (.inl (.inl (.inl (0, .ofNat 0)))), none], []), ([], []), (120, [(-1, 0)]))
theorem ks1078 : aseg kS krf kB [kE1077] (ksp []) kE1078 [kC1078_0] 30000 (none) = true := by decide +kernel
theorem ks1078_0 : aseg kS krf kB [kE1077] (ksp []) kE1078 [kC1078_0] 30000 (some kC1078_0) = true := by decide +kernel
theorem kok1078 : aOK kS krf kB kE1078 := aOK_of (kal1 kok1077 kal0) (kcl1 ks1078_0 kcl0) ks1078
/-- ColdShod$LawText.readLevel(LColdShod$LawCode;II)Z -/
def kE1079 : aE := (65, 41, ([], [], 0, [some (.inr [40]), some (.inr [14]), some (.inl (.inl (.inr (.ofNat 2)))), some (.inl (.inl (.inr (.ofNat 1)))), none, none, none], []), ([], none), ([(.ofNat 0, .ofNat 1)], [], some (.inl (.inl (.inl (0, .ofNat 0)))), ([], [])), ([(14, 0), (14, 2), (40, 2)], [15]))
def kC1079_0 : aC := (([(.ofNat 0, .ofNat 1)], [], 42, [some (.inr [40]), some (.inr [14]), some (.inl (.inl (.inr (.ofNat 2)))), some (.inl (.inl (.inr (.ofNat 1)))), some (.inl (.inl (.inr (.ofNat 1)))), some (.inl (.inl (.inl (0, .ofNat 0)))), none], []), ([], []), (1, [(-1, 0)]))
theorem ks1079 : aseg kS krf kB [kE1078] (ksp []) kE1079 [kC1079_0] 30000 (none) = true := by decide +kernel
theorem ks1079_0 : aseg kS krf kB [kE1078] (ksp []) kE1079 [kC1079_0] 30000 (some kC1079_0) = true := by decide +kernel
theorem kok1079 : aOK kS krf kB kE1079 := aOK_of (kal1 kok1078 kal0) (kcl1 ks1079_0 kcl0) ks1079
/-- ColdShod$LawText.readLevel(LColdShod$LawCode;II)Z -/
def kE1080 : aE := (65, 42, ([], [], 0, [some (.inr [40]), some (.inr [14]), some (.inl (.inl (.inr (.ofNat 1)))), some (.inl (.inl (.inr (.ofNat 1)))), none, none, none], []), ([], none), ([(.ofNat 0, .ofNat 1)], [], some (.inl (.inl (.inl (0, .ofNat 0)))), ([], [])), ([(14, 0), (14, 2), (40, 2)], [15]))
def kC1080_0 : aC := (([(.ofNat 0, .ofNat 120)], [], 42, [some (.inr [40]), some (.inr [14]), some (.inl (.inl (.inr (.ofNat 1)))), some (.inl (.inl (.inr (.ofNat 1)))), some (.inl (.inl (.inr (.ofNat 120)))), some (.inl (.inl (.inl (0, .ofNat 0)))), none], []), ([], []), (120, [(-1, 0)]))
theorem ks1080 : aseg kS krf kB [kE1079] (ksp []) kE1080 [kC1080_0] 30000 (none) = true := by decide +kernel
theorem ks1080_0 : aseg kS krf kB [kE1079] (ksp []) kE1080 [kC1080_0] 30000 (some kC1080_0) = true := by decide +kernel
theorem kok1080 : aOK kS krf kB kE1080 := aOK_of (kal1 kok1079 kal0) (kcl1 ks1080_0 kcl0) ks1080
/-- ColdShod$LawText.readLevel(LColdShod$LawCode;II)Z -/
def kE1081 : aE := (65, 43, ([], [], 0, [some (.inr [40]), some (.inr [14]), some (.inl (.inl (.inr (.ofNat 0)))), some (.inl (.inl (.inr (.ofNat 1)))), none, none, none], []), ([], none), ([(.ofNat 0, .ofNat 1)], [], some (.inl (.inl (.inl (0, .ofNat 0)))), ([], [])), ([(14, 0), (14, 2), (40, 2)], [15]))
def kC1081_0 : aC := (([(.ofNat 0, .ofNat 120)], [], 42, [some (.inr [40]), some (.inr [14]), some (.inl (.inl (.inr (.ofNat 0)))), some (.inl (.inl (.inr (.ofNat 1)))), some (.inl (.inl (.inr (.ofNat 120)))), some (.inl (.inl (.inl (0, .ofNat 0)))), none], []), ([], []), (120, [(-1, 0)]))
theorem ks1081 : aseg kS krf kB [kE1080] (ksp []) kE1081 [kC1081_0] 30000 (none) = true := by decide +kernel
theorem ks1081_0 : aseg kS krf kB [kE1080] (ksp []) kE1081 [kC1081_0] 30000 (some kC1081_0) = true := by decide +kernel
theorem kok1081 : aOK kS krf kB kE1081 := aOK_of (kal1 kok1080 kal0) (kcl1 ks1081_0 kcl0) ks1081
/-- ColdShod$LawText.readOperand(LColdShod$LawCode;I)Z -/
def kE1082 : aE := (66, 44, ([], [], 0, [some (.inr [40]), some (.inr [14]), some (.inl (.inl (.inr (.ofNat 0)))), none, none], []), ([], none), ([(.ofNat 0, .ofNat 1)], [], some (.inl (.inl (.inl (0, .ofNat 0)))), ([], [])), ([(14, 0), (14, 2), (40, 2)], [15]))
theorem ks1082 : aseg kS krf kB [kE1039, kE1075, kE1081] (ksp []) kE1082 [] 30000 (none) = true := by decide +kernel
theorem kok1082 : aOK kS krf kB kE1082 := aOK_of (kal1 kok1039 (kal1 kok1075 (kal1 kok1081 kal0))) kcl0 ks1082
/-- ColdShod$LawText.readLevel(LColdShod$LawCode;II)Z -/
def kE1083 : aE := (65, 45, ([], [], 0, [some (.inr [40]), some (.inr [14]), some (.inl (.inl (.inr (.ofNat 5)))), some (.inl (.inl (.inr (.ofNat 0)))), none, none, none], []), ([], none), ([(.ofNat 0, .ofNat 1)], [], some (.inl (.inl (.inl (0, .ofNat 0)))), ([], [])), ([(14, 0), (14, 2), (40, 2)], [15]))
theorem ks1083 : aseg kS krf kB [kE1082] (ksp []) kE1083 [] 30000 (none) = true := by decide +kernel
theorem kok1083 : aOK kS krf kB kE1083 := aOK_of (kal1 kok1082 kal0) kcl0 ks1083
/-- ColdShod$LawText.readLevel(LColdShod$LawCode;II)Z -/
def kE1084 : aE := (65, 46, ([], [], 0, [some (.inr [40]), some (.inr [14]), some (.inl (.inl (.inr (.ofNat 4)))), some (.inl (.inl (.inr (.ofNat 0)))), none, none, none], []), ([], none), ([(.ofNat 0, .ofNat 1)], [], some (.inl (.inl (.inl (0, .ofNat 0)))), ([], [])), ([(14, 0), (14, 2), (40, 2)], [15]))
def kC1084_0 : aC := (([(.ofNat 0, .ofNat 120)], [], 42, [some (.inr [40]), some (.inr [14]), some (.inl (.inl (.inr (.ofNat 4)))), some (.inl (.inl (.inr (.ofNat 0)))), some (.inl (.inl (.inr (.ofNat 120)))), some (.inl (.inl (.inl (0, .ofNat 0)))), none], []), ([], []), (120, [(-1, 0)]))
theorem ks1084 : aseg kS krf kB [kE1083] (ksp []) kE1084 [kC1084_0] 30000 (none) = true := by decide +kernel
theorem ks1084_0 : aseg kS krf kB [kE1083] (ksp []) kE1084 [kC1084_0] 30000 (some kC1084_0) = true := by decide +kernel
theorem kok1084 : aOK kS krf kB kE1084 := aOK_of (kal1 kok1083 kal0) (kcl1 ks1084_0 kcl0) ks1084
/-- ColdShod$LawText.readLevel(LColdShod$LawCode;II)Z -/
def kE1085 : aE := (65, 47, ([], [], 0, [some (.inr [40]), some (.inr [14]), some (.inl (.inl (.inr (.ofNat 3)))), some (.inl (.inl (.inr (.ofNat 0)))), none, none, none], []), ([], none), ([(.ofNat 0, .ofNat 1)], [], some (.inl (.inl (.inl (0, .ofNat 0)))), ([], [])), ([(14, 0), (14, 2), (40, 2)], [15]))
def kC1085_0 : aC := (([(.ofNat 0, .ofNat 120)], [], 42, [some (.inr [40]), some (.inr [14]), some (.inl (.inl (.inr (.ofNat 3)))), some (.inl (.inl (.inr (.ofNat 0)))), some (.inl (.inl (.inr (.ofNat 120)))), some (.inl (.inl (.inl (0, .ofNat 0)))), none], []), ([], []), (120, [(-1, 0)]))
theorem ks1085 : aseg kS krf kB [kE1084] (ksp []) kE1085 [kC1085_0] 30000 (none) = true := by decide +kernel
theorem ks1085_0 : aseg kS krf kB [kE1084] (ksp []) kE1085 [kC1085_0] 30000 (some kC1085_0) = true := by decide +kernel
theorem kok1085 : aOK kS krf kB kE1085 := aOK_of (kal1 kok1084 kal0) (kcl1 ks1085_0 kcl0) ks1085
/-- ColdShod$LawText.readLevel(LColdShod$LawCode;II)Z -/
def kE1086 : aE := (65, 48, ([], [], 0, [some (.inr [40]), some (.inr [14]), some (.inl (.inl (.inr (.ofNat 2)))), some (.inl (.inl (.inr (.ofNat 0)))), none, none, none], []), ([], none), ([(.ofNat 0, .ofNat 1)], [], some (.inl (.inl (.inl (0, .ofNat 0)))), ([], [])), ([(14, 0), (14, 2), (40, 2)], [15]))
def kC1086_0 : aC := (([(.ofNat 0, .ofNat 1)], [], 42, [some (.inr [40]), some (.inr [14]), some (.inl (.inl (.inr (.ofNat 2)))), some (.inl (.inl (.inr (.ofNat 0)))), some (.inl (.inl (.inr (.ofNat 1)))), some (.inl (.inl (.inl (0, .ofNat 0)))), none], []), ([], []), (1, [(-1, 0)]))
theorem ks1086 : aseg kS krf kB [kE1085] (ksp []) kE1086 [kC1086_0] 30000 (none) = true := by decide +kernel
theorem ks1086_0 : aseg kS krf kB [kE1085] (ksp []) kE1086 [kC1086_0] 30000 (some kC1086_0) = true := by decide +kernel
theorem kok1086 : aOK kS krf kB kE1086 := aOK_of (kal1 kok1085 kal0) (kcl1 ks1086_0 kcl0) ks1086
/-- ColdShod$LawText.readLevel(LColdShod$LawCode;II)Z -/
def kE1087 : aE := (65, 49, ([], [], 0, [some (.inr [40]), some (.inr [14]), some (.inl (.inl (.inr (.ofNat 1)))), some (.inl (.inl (.inr (.ofNat 0)))), none, none, none], []), ([], none), ([(.ofNat 0, .ofNat 1)], [], some (.inl (.inl (.inl (0, .ofNat 0)))), ([], [])), ([(14, 0), (14, 2), (40, 2)], [15]))
def kC1087_0 : aC := (([(.ofNat 0, .ofNat 120)], [], 42, [some (.inr [40]), some (.inr [14]), some (.inl (.inl (.inr (.ofNat 1)))), some (.inl (.inl (.inr (.ofNat 0)))), some (.inl (.inl (.inr (.ofNat 120)))), some (.inl (.inl (.inl (0, .ofNat 0)))), none], []), ([], []), (120, [(-1, 0)]))
theorem ks1087 : aseg kS krf kB [kE1086] (ksp []) kE1087 [kC1087_0] 30000 (none) = true := by decide +kernel
theorem ks1087_0 : aseg kS krf kB [kE1086] (ksp []) kE1087 [kC1087_0] 30000 (some kC1087_0) = true := by decide +kernel
theorem kok1087 : aOK kS krf kB kE1087 := aOK_of (kal1 kok1086 kal0) (kcl1 ks1087_0 kcl0) ks1087
/-- ColdShod$LawText.readLevel(LColdShod$LawCode;II)Z -/
def kE1088 : aE := (65, 50, ([], [], 0, [some (.inr [40]), some (.inr [14]), some (.inl (.inl (.inr (.ofNat 0)))), some (.inl (.inl (.inr (.ofNat 0)))), none, none, none], []), ([], none), ([(.ofNat 0, .ofNat 1)], [], some (.inl (.inl (.inl (0, .ofNat 0)))), ([], [])), ([(14, 0), (14, 2), (40, 2)], [15]))
def kC1088_0 : aC := (([(.ofNat 0, .ofNat 120)], [], 42, [some (.inr [40]), some (.inr [14]), some (.inl (.inl (.inr (.ofNat 0)))), some (.inl (.inl (.inr (.ofNat 0)))), some (.inl (.inl (.inr (.ofNat 120)))), some (.inl (.inl (.inl (0, .ofNat 0)))), none], []), ([], []), (120, [(-1, 0)]))
theorem ks1088 : aseg kS krf kB [kE1087] (ksp []) kE1088 [kC1088_0] 30000 (none) = true := by decide +kernel
theorem ks1088_0 : aseg kS krf kB [kE1087] (ksp []) kE1088 [kC1088_0] 30000 (some kC1088_0) = true := by decide +kernel
theorem kok1088 : aOK kS krf kB kE1088 := aOK_of (kal1 kok1087 kal0) (kcl1 ks1088_0 kcl0) ks1088
/-- ColdShod$LawText.readInto(LColdShod$LawCode;)I -/
def kE1089 : aE := (63, 52, ([], [], 0, [some (.inr [40]), some (.inr [14, 17]), none], []), ([], none), ([(.negSucc 0, .ofNat 120)], [], some (.inl (.inl (.inl (0, .ofNat 0)))), ([], [])), ([(14, 0), (14, 2), (17, 0), (17, 2), (40, 2)], [15, 18]))
def kC1089_0 : aC := (([(.ofNat 0, .ofNat 121)], [], 11, [some (.inr [40]), some (.inr [14, 17]), some (.inl (.inl (.inl (0, .ofNat 0))))], []), ([], []), (121, [(-1, 0)]))
theorem ks1089 : aseg kS krf kB [kE1038, kE1088] (ksp [(63, 0, 1, -1000, 1000, 0), (63, 11, 1, -1000, 1000, 0)]) kE1089 [kC1089_0] 30000 (none) = true := by decide +kernel
theorem ks1089_0 : aseg kS krf kB [kE1038, kE1088] (ksp [(63, 0, 1, -1000, 1000, 0), (63, 11, 1, -1000, 1000, 0)]) kE1089 [kC1089_0] 30000 (some kC1089_0) = true := by decide +kernel
theorem kok1089 : aOK kS krf kB kE1089 := aOK_of (kal1 kok1038 (kal1 kok1088 kal0)) (kcl1 ks1089_0 kcl0) ks1089
/-- ColdShod.law()I -/
def kE1090 : aE := (101, 53, ([], [], 0, [some (.inr [6]), none, none], []), ([], none), ([(.negSucc 219, .ofNat 1)], [], some (.inl (.inl (.inl (0, .ofNat 0)))), ([], [])), ([(14, 0), (14, 2), (17, 0), (17, 2), (40, 1), (40, 2)], [15, 18]))
theorem ks1090 : aseg kS krf kB [kE1089] (ksp []) kE1090 [] 30000 (none) = true := by decide +kernel
theorem kok1090 : aOK kS krf kB kE1090 := aOK_of (kal1 kok1089 kal0) kcl0 ks1090
/-- ColdShodModel.law()I -/
def kE1091 : aE := (177, 44, ([], [], 0, [some (.inr [102]), none, none, none], []), ([], none), ([(.negSucc 219, .ofNat 1)], [], some (.inl (.inl (.inl (0, .ofNat 0)))), ([], [])), ([(102, 12), (102, 14), (102, 15), (102, 16), (102, 17), (102, 18), (102, 19)], [110]))
def kC1091_0 : aC := (([(.negSucc 2147483647, .ofNat 2147483647), (.ofNat 0, .ofNat 120), (.ofNat 0, .ofNat 120)], [(102, 12, .inr (.ofNat 0)), (102, 18, .inr (.negSucc 0))], 37, [some (.inr [102]), some (.inl (.inl (.inl (0, .ofNat 0)))), some (.inl (.inl (.inl (1, .ofNat 0)))), some (.inl (.inl (.inl (2, .ofNat 0))))], []), ([], []), (120, [(-1, 2)]))
theorem ks1091 : aseg kS krf kB [kE85] (ksp []) kE1091 [kC1091_0] 30000 (none) = true := by decide +kernel
theorem ks1091_0 : aseg kS krf kB [kE85] (ksp []) kE1091 [kC1091_0] 30000 (some kC1091_0) = true := by decide +kernel
theorem kok1091 : aOK kS krf kB kE1091 := aOK_of (kal1 kok85 kal0) (kcl1 ks1091_0 kcl0) ks1091
/-- ColdShod.feed(I)I -/
def kE1092 : aE := (100, 1, ([(.negSucc 2147483647, .ofNat 2147483647)], [], 0, [some (.inr [6]), some (.inl (.inl (.inl (0, .ofNat 0))))], []), ([], none), ([(.negSucc 2, .ofNat 120)], [], some (.inl (.inl (.inl (1, .ofNat 0)))), ([], [])), ([(40, 1)], [41]))
theorem ks1092 : aseg kS krf kB [] (ksp []) kE1092 [] 30000 (none) = true := by decide +kernel
theorem kok1092 : aOK kS krf kB kE1092 := aOK_of kal0 kcl0 ks1092
/-- ColdShodModel.feed(I)I -/
def kE1093 : aE := (165, 1, ([(.negSucc 2147483647, .ofNat 2147483647)], [], 0, [some (.inr [102]), some (.inl (.inl (.inl (0, .ofNat 0))))], []), ([], none), ([(.negSucc 2, .ofNat 120)], [], some (.inl (.inl (.inl (1, .ofNat 0)))), ([], [])), ([(102, 12)], [109]))
theorem ks1093 : aseg kS krf kB [] (ksp []) kE1093 [] 30000 (none) = true := by decide +kernel
theorem kok1093 : aOK kS krf kB kE1093 := aOK_of kal0 kcl0 ks1093
/-- ColdShod.of(II)I -/
def kE1094 : aE := (99, 3, ([(.negSucc 2147483647, .ofNat 2147483647), (.negSucc 2147483647, .ofNat 2147483647)], [], 0, [some (.inr [6]), some (.inl (.inl (.inl (0, .ofNat 0)))), some (.inl (.inl (.inl (1, .ofNat 0))))], []), ([], none), ([(.negSucc 2147483647, .ofNat 2147483647)], [], some (.inl (.inl (.inl (2, .ofNat 0)))), ([], [])), ([], []))
theorem ks1094 : aseg kS krf kB [] (ksp []) kE1094 [] 30000 (none) = true := by decide +kernel
theorem kok1094 : aOK kS krf kB kE1094 := aOK_of kal0 kcl0 ks1094
/-- ColdShodModel.of(II)I -/
def kE1095 : aE := (164, 3, ([(.negSucc 2147483647, .ofNat 2147483647), (.negSucc 2147483647, .ofNat 2147483647)], [], 0, [some (.inr [102]), some (.inl (.inl (.inl (0, .ofNat 0)))), some (.inl (.inl (.inl (1, .ofNat 0)))), none], []), ([], none), ([(.negSucc 1999999999, .ofNat 99)], [], some (.inl (.inl (.inl (2, .ofNat 0)))), ([], [])), ([], []))
theorem ks1095 : aseg kS krf kB [] (ksp []) kE1095 [] 30000 (none) = true := by decide +kernel
theorem kok1095 : aOK kS krf kB kE1095 := aOK_of kal0 kcl0 ks1095
/-- ColdShod.mend(III)I -/
def kE1096 : aE := (98, 3, ([(.negSucc 2147483647, .ofNat 2147483647), (.negSucc 2147483647, .ofNat 2147483647), (.negSucc 2147483647, .ofNat 2147483647)], [], 0, [some (.inr [6]), some (.inl (.inl (.inl (0, .ofNat 0)))), some (.inl (.inl (.inl (1, .ofNat 0)))), some (.inl (.inl (.inl (2, .ofNat 0)))), none], []), ([], none), ([(.negSucc 1999999999, .ofNat 100000000)], [], some (.inl (.inl (.inl (3, .ofNat 0)))), ([], [])), ([(20, 0), (20, 1), (20, 2), (20, 3), (20, 4), (20, 5), (20, 6), (21, 0), (21, 1), (21, 2), (21, 3), (21, 4), (21, 5), (21, 6), (22, 0), (22, 1), (22, 2), (22, 3), (22, 4), (22, 5), (22, 6), (23, 0), (23, 1), (23, 2), (23, 3), (23, 4), (23, 5), (23, 6), (24, 0), (24, 1), (24, 2), (24, 3), (24, 4), (24, 5), (24, 6), (25, 0), (25, 1), (25, 2), (25, 3), (25, 4), (25, 5), (25, 6), (26, 0), (26, 1), (26, 2), (26, 3), (26, 4), (26, 5), (26, 6), (27, 0), (27, 1), (27, 2), (27, 3), (27, 4), (27, 5), (27, 6), (28, 2), (28, 3), (28, 4), (29, 2), (29, 3), (29, 4), (30, 2), (30, 3), (30, 4), (31, 2), (31, 3), (31, 4), (32, 2), (32, 3), (32, 4), (33, 2), (33, 3), (33, 4), (34, 2), (34, 3), (34, 4), (35, 2), (35, 3), (35, 4), (36, 2), (36, 3), (36, 4), (37, 2), (37, 3), (37, 4), (38, 2), (38, 3), (38, 4), (39, 2), (39, 3), (39, 4), (42, 0), (42, 1)], [8, 9, 43, 44, 45, 46, 1000]))
theorem ks1096 : aseg kS krf kB [] (ksp []) kE1096 [] 30000 (none) = true := by decide +kernel
theorem kok1096 : aOK kS krf kB kE1096 := aOK_of kal0 kcl0 ks1096
