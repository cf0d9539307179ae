/-! ENTRIES and their checks: printed by a program (wip/ai). -/
/-- ColdShod$Journey.allGone(LColdShod$Idea;LColdShod$Country;)Z -/
def kE1010 : aE := (49, 5, ([], [], 0, [some (.inr [50]), some (.inr [88]), some (.inr [7]), none], []), ([], none), ([(.ofNat 0, .ofNat 1)], [], some (.inl (.inl (.inl (0, .ofNat 0)))), ([], [])), ([(13, 0), (13, 1), (13, 2), (13, 3), (13, 4), (13, 5), (50, 2), (50, 3), (88, 2), (88, 3)], [16, 19]))
def kC1010_0 : aC := (([(.ofNat 0, .ofNat 20)], [], 12, [some (.inr [50]), some (.inr [88]), some (.inr [7]), some (.inl (.inl (.inl (0, .ofNat 0))))], []), ([], []), (20, [(-1, 0)]))
theorem ks1010 : aseg kS krf kB [kE99] (ksp []) kE1010 [kC1010_0] 30000 (none) = true := by decide +kernel
theorem ks1010_0 : aseg kS krf kB [kE99] (ksp []) kE1010 [kC1010_0] 30000 (some kC1010_0) = true := by decide +kernel
theorem kok1010 : aOK kS krf kB kE1010 := aOK_of (kal1 kok99 kal0) (kcl1 ks1010_0 kcl0) ks1010
/-- ColdShod.journey(III)I -/
def kE1011 : aE := (103, 6, ([(.negSucc 2147483647, .ofNat 2147483647), (.negSucc 2147483647, .ofNat 2147483647), (.negSucc 2147483647, .ofNat 2147483647)], [], 0, [some (.inr [6]), some (.inl (.inl (.inl (0, .ofNat 0)))), some (.inl (.inl (.inl (1, .ofNat 0)))), some (.inl (.inl (.inl (2, .ofNat 0)))), none, none, none], []), ([], none), ([(.negSucc 2147483647, .ofNat 2147483647)], [], some (.inl (.inl (.inl (3, .ofNat 0)))), ([], [])), ([(13, 0), (13, 1), (13, 2), (13, 3), (13, 4), (13, 5), (50, 1), (50, 2), (50, 3), (88, 0), (88, 1), (88, 2), (88, 3), (88, 4), (88, 5), (88, 6)], [16, 19, 51]))
theorem ks1011 : aseg kS krf kB [kE262, kE263, kE96, kE1010] (ksp []) kE1011 [] 30000 (none) = true := by decide +kernel
theorem kok1011 : aOK kS krf kB kE1011 := aOK_of (kal1 kok262 (kal1 kok263 (kal1 kok96 (kal1 kok1010 kal0)))) kcl0 ks1011
/-- ColdShodModel.journey(III)I -/
def kE1012 : aE := (189, 47, ([(.negSucc 2147483647, .ofNat 2147483647), (.negSucc 2147483647, .ofNat 2147483647), (.negSucc 2147483647, .ofNat 2147483647)], [], 0, [some (.inr [102]), some (.inl (.inl (.inl (0, .ofNat 0)))), some (.inl (.inl (.inl (1, .ofNat 0)))), some (.inl (.inl (.inl (2, .ofNat 0))))], []), ([], none), ([(.negSucc 2147483647, .ofNat 2147483647)], [], some (.inl (.inl (.inl (3, .ofNat 0)))), ([], [])), ([(102, 15), (102, 16), (102, 17), (102, 18), (102, 19), (102, 22), (102, 23), (102, 24), (102, 25), (111, 0), (111, 1), (111, 2), (111, 3), (111, 4), (111, 5)], [112]))
theorem ks1012 : aseg kS krf kB [kE43, kE913, kE219, kE929, kE226, kE945, kE233, kE961, kE240, kE977, kE247, kE993, kE254] (ksp [(189, 0, 1, 0, 5, 0)]) kE1012 [] 30000 (none) = true := by decide +kernel
theorem kok1012 : aOK kS krf kB kE1012 := aOK_of (kal1 kok43 (kal1 kok913 (kal1 kok219 (kal1 kok929 (kal1 kok226 (kal1 kok945 (kal1 kok233 (kal1 kok961 (kal1 kok240 (kal1 kok977 (kal1 kok247 (kal1 kok993 (kal1 kok254 kal0))))))))))))) kcl0 ks1012
/-- ColdShod.wears(II)I -/
def kE1013 : aE := (102, 3, ([(.negSucc 2147483647, .ofNat 2147483647), (.negSucc 2147483647, .ofNat 2147483647)], [], 0, [some (.inr [6]), some (.inl (.inl (.inl (0, .ofNat 0)))), some (.inl (.inl (.inl (1, .ofNat 0))))], []), ([], none), ([(.negSucc 0, .ofNat 9)], [], some (.inl (.inl (.inl (2, .ofNat 0)))), ([], [])), ([(13, 0), (13, 1), (13, 2), (13, 3), (13, 4), (13, 5)], [16, 19]))
theorem ks1013 : aseg kS krf kB [kE40] (ksp []) kE1013 [] 30000 (none) = true := by decide +kernel
theorem kok1013 : aOK kS krf kB kE1013 := aOK_of (kal1 kok40 kal0) kcl0 ks1013
/-- ColdShodModel.wears(II)I -/
def kE1014 : aE := (181, 45, ([(.negSucc 2147483647, .ofNat 2147483647), (.negSucc 2147483647, .ofNat 2147483647)], [], 0, [some (.inr [102]), some (.inl (.inl (.inl (0, .ofNat 0)))), some (.inl (.inl (.inl (1, .ofNat 0))))], []), ([], none), ([(.negSucc 0, .ofNat 9)], [], some (.inl (.inl (.inl (2, .ofNat 0)))), ([], [])), ([(102, 15), (102, 16), (102, 17), (102, 18), (102, 19), (111, 0), (111, 1), (111, 2), (111, 3), (111, 4), (111, 5)], [112]))
theorem ks1014 : aseg kS krf kB [kE43, kE88] (ksp []) kE1014 [] 30000 (none) = true := by decide +kernel
theorem kok1014 : aOK kS krf kB kE1014 := aOK_of (kal1 kok43 (kal1 kok88 kal0)) kcl0 ks1014
/-- ColdShod$LawCode.add(I)V -/
def kE1015 : aE := (54, 0, ([(.negSucc 2147483647, .ofNat 2147483647)], [], 0, [some (.inr [17]), some (.inl (.inl (.inl (0, .ofNat 0))))], []), ([], none), ([], [], none, ([], [])), ([(17, 2)], [18]))
theorem ks1015 : aseg kS krf kB [] (ksp []) kE1015 [] 30000 (none) = true := by decide +kernel
theorem kok1015 : aOK kS krf kB kE1015 := aOK_of kal0 kcl0 ks1015
/-- ColdShod$LawText.readNumber(LColdShod$LawCode;)Z -/
def kE1016 : aE := (67, 1, ([], [], 0, [some (.inr [40]), some (.inr [17]), none, none], []), ([], none), ([(.ofNat 1, .ofNat 1)], [], some (.inl (.inl (.inl (0, .ofNat 0)))), ([], [])), ([(17, 2), (40, 2)], [18]))
def kC1016_0 : aC := (([(.negSucc 2147483647, .ofNat 2147483647), (.ofNat 0, .ofNat 4)], [], 4, [some (.inr [40]), some (.inr [17]), some (.inl (.inl (.inl (0, .ofNat 0)))), some (.inl (.inl (.inl (1, .ofNat 0))))], []), ([], []), (4, [(-1, 1)]))
theorem ks1016 : aseg kS krf kB [kE1015] (ksp []) kE1016 [kC1016_0] 30000 (none) = true := by decide +kernel
theorem ks1016_0 : aseg kS krf kB [kE1015] (ksp []) kE1016 [kC1016_0] 30000 (some kC1016_0) = true := by decide +kernel
theorem kok1016 : aOK kS krf kB kE1016 := aOK_of (kal1 kok1015 kal0) (kcl1 ks1016_0 kcl0) ks1016
/-- ColdShod$LawCode.addName(I)V -/
def kE1017 : aE := (55, 1, ([(.ofNat 0, .ofNat 5)], [], 0, [some (.inr [17]), some (.inl (.inl (.inl (0, .ofNat 0))))], []), ([], none), ([], [], none, ([], [])), ([(17, 0), (17, 2)], [18]))
theorem ks1017 : aseg kS krf kB [kE1015] (ksp []) kE1017 [] 30000 (none) = true := by decide +kernel
theorem kok1017 : aOK kS krf kB kE1017 := aOK_of (kal1 kok1015 kal0) kcl0 ks1017
/-- ColdShod$LawText.readOperand(LColdShod$LawCode;I)Z -/
def kE1018 : aE := (66, 2, ([], [], 0, [some (.inr [40]), some (.inr [17]), some (.inl (.inl (.inr (.ofNat 6)))), none, none], []), ([], none), ([(.ofNat 0, .ofNat 1)], [], some (.inl (.inl (.inl (0, .ofNat 0)))), ([], [])), ([(17, 0), (17, 2), (40, 2)], [18]))
def kC1018_0 : aC := (([(.ofNat 33, .ofNat 45), (.ofNat 0, .ofNat 119), (.ofNat 1, .ofNat 120)], [(40, 2, .inl (1, .ofNat 0)), (40, 1, .inl (2, .ofNat 0))], 65, [some (.inr [40]), some (.inr [17]), some (.inl (.inl (.inr (.ofNat 6)))), some (.inl (.inl (.inl (0, .ofNat 0)))), some (.inl (.inl (.inr (.negSucc 0))))], []), ([], []), (0, []))
theorem ks1018 : aseg kS krf kB [kE1016, kE1017] (ksp []) kE1018 [kC1018_0] 30000 (none) = true := by decide +kernel
theorem ks1018_0 : aseg kS krf kB [kE1016, kE1017] (ksp []) kE1018 [kC1018_0] 30000 (some kC1018_0) = true := by decide +kernel
theorem kok1018 : aOK kS krf kB kE1018 := aOK_of (kal1 kok1016 (kal1 kok1017 kal0)) (kcl1 ks1018_0 kcl0) ks1018
/-- ColdShod$LawText.readLevel(LColdShod$LawCode;II)Z -/
def kE1019 : aE := (65, 3, ([], [], 0, [some (.inr [40]), some (.inr [17]), some (.inl (.inl (.inr (.ofNat 5)))), some (.inl (.inl (.inr (.ofNat 6)))), none, none, none], []), ([], none), ([(.ofNat 0, .ofNat 1)], [], some (.inl (.inl (.inl (0, .ofNat 0)))), ([], [])), ([(17, 0), (17, 2), (40, 2)], [18]))
theorem ks1019 : aseg kS krf kB [kE1018] (ksp []) kE1019 [] 30000 (none) = true := by decide +kernel
theorem kok1019 : aOK kS krf kB kE1019 := aOK_of (kal1 kok1018 kal0) kcl0 ks1019
/-- ColdShod$LawText.readLevel(LColdShod$LawCode;II)Z -/
def kE1020 : aE := (65, 4, ([], [], 0, [some (.inr [40]), some (.inr [17]), some (.inl (.inl (.inr (.ofNat 4)))), some (.inl (.inl (.inr (.ofNat 6)))), none, none, none], []), ([], none), ([(.ofNat 0, .ofNat 1)], [], some (.inl (.inl (.inl (0, .ofNat 0)))), ([], [])), ([(17, 0), (17, 2), (40, 2)], [18]))
def kC1020_0 : aC := (([(.ofNat 0, .ofNat 120)], [], 42, [some (.inr [40]), some (.inr [17]), some (.inl (.inl (.inr (.ofNat 4)))), some (.inl (.inl (.inr (.ofNat 6)))), some (.inl (.inl (.inr (.ofNat 120)))), some (.inl (.inl (.inl (0, .ofNat 0)))), none], []), ([], []), (120, [(-1, 0)]))
theorem ks1020 : aseg kS krf kB [kE1019, kE1015] (ksp []) kE1020 [kC1020_0] 30000 (none) = true := by decide +kernel
theorem ks1020_0 : aseg kS krf kB [kE1019, kE1015] (ksp []) kE1020 [kC1020_0] 30000 (some kC1020_0) = true := by decide +kernel
theorem kok1020 : aOK kS krf kB kE1020 := aOK_of (kal1 kok1019 (kal1 kok1015 kal0)) (kcl1 ks1020_0 kcl0) ks1020
/-- ColdShod$LawText.readLevel(LColdShod$LawCode;II)Z -/
def kE1021 : aE := (65, 5, ([], [], 0, [some (.inr [40]), some (.inr [17]), some (.inl (.inl (.inr (.ofNat 3)))), some (.inl (.inl (.inr (.ofNat 6)))), none, none, none], []), ([], none), ([(.ofNat 0, .ofNat 1)], [], some (.inl (.inl (.inl (0, .ofNat 0)))), ([], [])), ([(17, 0), (17, 2), (40, 2)], [18]))
def kC1021_0 : aC := (([(.ofNat 0, .ofNat 120)], [], 42, [some (.inr [40]), some (.inr [17]), some (.inl (.inl (.inr (.ofNat 3)))), some (.inl (.inl (.inr (.ofNat 6)))), some (.inl (.inl (.inr (.ofNat 120)))), some (.inl (.inl (.inl (0, .ofNat 0)))), none], []), ([], []), (120, [(-1, 0)]))
theorem ks1021 : aseg kS krf kB [kE1020, kE1015] (ksp []) kE1021 [kC1021_0] 30000 (none) = true := by decide +kernel
theorem ks1021_0 : aseg kS krf kB [kE1020, kE1015] (ksp []) kE1021 [kC1021_0] 30000 (some kC1021_0) = true := by decide +kernel
theorem kok1021 : aOK kS krf kB kE1021 := aOK_of (kal1 kok1020 (kal1 kok1015 kal0)) (kcl1 ks1021_0 kcl0) ks1021
/-- ColdShod$LawText.readLevel(LColdShod$LawCode;II)Z -/
def kE1022 : aE := (65, 6, ([], [], 0, [some (.inr [40]), some (.inr [17]), some (.inl (.inl (.inr (.ofNat 2)))), some (.inl (.inl (.inr (.ofNat 6)))), none, none, none], []), ([], none), ([(.ofNat 0, .ofNat 1)], [], some (.inl (.inl (.inl (0, .ofNat 0)))), ([], [])), ([(17, 0), (17, 2), (40, 2)], [18]))
def kC1022_0 : aC := (([(.ofNat 0, .ofNat 1)], [], 42, [some (.inr [40]), some (.inr [17]), some (.inl (.inl (.inr (.ofNat 2)))), some (.inl (.inl (.inr (.ofNat 6)))), some (.inl (.inl (.inr (.ofNat 1)))), some (.inl (.inl (.inl (0, .ofNat 0)))), none], []), ([], []), (1, [(-1, 0)]))
theorem ks1022 : aseg kS krf kB [kE1021, kE1015] (ksp []) kE1022 [kC1022_0] 30000 (none) = true := by decide +kernel
theorem ks1022_0 : aseg kS krf kB [kE1021, kE1015] (ksp []) kE1022 [kC1022_0] 30000 (some kC1022_0) = true := by decide +kernel
theorem kok1022 : aOK kS krf kB kE1022 := aOK_of (kal1 kok1021 (kal1 kok1015 kal0)) (kcl1 ks1022_0 kcl0) ks1022
/-- ColdShod$LawText.readLevel(LColdShod$LawCode;II)Z -/
def kE1023 : aE := (65, 7, ([], [], 0, [some (.inr [40]), some (.inr [17]), some (.inl (.inl (.inr (.ofNat 1)))), some (.inl (.inl (.inr (.ofNat 6)))), none, none, none], []), ([], none), ([(.ofNat 0, .ofNat 1)], [], some (.inl (.inl (.inl (0, .ofNat 0)))), ([], [])), ([(17, 0), (17, 2), (40, 2)], [18]))
def kC1023_0 : aC := (([(.ofNat 0, .ofNat 120)], [], 42, [some (.inr [40]), some (.inr [17]), some (.inl (.inl (.inr (.ofNat 1)))), some (.inl (.inl (.inr (.ofNat 6)))), some (.inl (.inl (.inr (.ofNat 120)))), some (.inl (.inl (.inl (0, .ofNat 0)))), none], []), ([], []), (120, [(-1, 0)]))
theorem ks1023 : aseg kS krf kB [kE1022, kE1015] (ksp []) kE1023 [kC1023_0] 30000 (none) = true := by decide +kernel
theorem ks1023_0 : aseg kS krf kB [kE1022, kE1015] (ksp []) kE1023 [kC1023_0] 30000 (some kC1023_0) = true := by decide +kernel
theorem kok1023 : aOK kS krf kB kE1023 := aOK_of (kal1 kok1022 (kal1 kok1015 kal0)) (kcl1 ks1023_0 kcl0) ks1023
/-- ColdShod$LawText.readLevel(LColdShod$LawCode;II)Z -/
def kE1024 : aE := (65, 8, ([], [], 0, [some (.inr [40]), some (.inr [17]), some (.inl (.inl (.inr (.ofNat 0)))), some (.inl (.inl (.inr (.ofNat 6)))), none, none, none], []), ([], none), ([(.ofNat 0, .ofNat 1)], [], some (.inl (.inl (.inl (0, .ofNat 0)))), ([], [])), ([(17, 0), (17, 2), (40, 2)], [18]))
def kC1024_0 : aC := (([(.ofNat 0, .ofNat 120)], [], 42, [some (.inr [40]), some (.inr [17]), some (.inl (.inl (.inr (.ofNat 0)))), some (.inl (.inl (.inr (.ofNat 6)))), some (.inl (.inl (.inr (.ofNat 120)))), some (.inl (.inl (.inl (0, .ofNat 0)))), none], []), ([], []), (120, [(-1, 0)]))
theorem ks1024 : aseg kS krf kB [kE1023, kE1015] (ksp []) kE1024 [kC1024_0] 30000 (none) = true := by decide +kernel
theorem ks1024_0 : aseg kS krf kB [kE1023, kE1015] (ksp []) kE1024 [kC1024_0] 30000 (some kC1024_0) = true := by decide +kernel
theorem kok1024 : aOK kS krf kB kE1024 := aOK_of (kal1 kok1023 (kal1 kok1015 kal0)) (kcl1 ks1024_0 kcl0) ks1024
/-- ColdShod$LawText.passes(I)Z -/
def kE1025 : aE := (69, 1, ([(.ofNat 41, .ofNat 63)], [], 0, [some (.inr [40]), some (.inl (.inl (.inl (0, .ofNat 0))))], []), ([], none), ([(.ofNat 0, .ofNat 1)], [], some (.inl (.inl (.inl (1, .ofNat 0)))), ([], [])), ([(40, 2)], []))
theorem ks1025 : aseg kS krf kB [] (ksp []) kE1025 [] 30000 (none) = true := by decide +kernel
theorem kok1025 : aOK kS krf kB kE1025 := aOK_of kal0 kcl0 ks1025
/-- ColdShod$LawText.readOperand(LColdShod$LawCode;I)Z -/
def kE1026 : aE := (66, 9, ([], [], 0, [some (.inr [40]), some (.inr [17]), some (.inl (.inl (.inr (.ofNat 5)))), none, none], []), ([], none), ([(.ofNat 0, .ofNat 1)], [], some (.inl (.inl (.inl (0, .ofNat 0)))), ([], [])), ([(17, 0), (17, 2), (40, 2)], [18]))
def kC1026_0 : aC := (([(.ofNat 33, .ofNat 45), (.ofNat 0, .ofNat 119), (.ofNat 1, .ofNat 120)], [(40, 2, .inl (1, .ofNat 0)), (40, 1, .inl (2, .ofNat 0))], 65, [some (.inr [40]), some (.inr [17]), some (.inl (.inl (.inr (.ofNat 5)))), some (.inl (.inl (.inl (0, .ofNat 0)))), some (.inl (.inl (.inr (.negSucc 0))))], []), ([], []), (0, []))
theorem ks1026 : aseg kS krf kB [kE1016, kE1017, kE1024, kE1025, kE1018, kE1015] (ksp []) kE1026 [kC1026_0] 30000 (none) = true := by decide +kernel
theorem ks1026_0 : aseg kS krf kB [kE1016, kE1017, kE1024, kE1025, kE1018, kE1015] (ksp []) kE1026 [kC1026_0] 30000 (some kC1026_0) = true := by decide +kernel
theorem kok1026 : aOK kS krf kB kE1026 := aOK_of (kal1 kok1016 (kal1 kok1017 (kal1 kok1024 (kal1 kok1025 (kal1 kok1018 (kal1 kok1015 kal0)))))) (kcl1 ks1026_0 kcl0) ks1026
/-- ColdShod$LawText.readLevel(LColdShod$LawCode;II)Z -/
def kE1027 : aE := (65, 10, ([], [], 0, [some (.inr [40]), some (.inr [17]), some (.inl (.inl (.inr (.ofNat 5)))), some (.inl (.inl (.inr (.ofNat 5)))), none, none, none], []), ([], none), ([(.ofNat 0, .ofNat 1)], [], some (.inl (.inl (.inl (0, .ofNat 0)))), ([], [])), ([(17, 0), (17, 2), (40, 2)], [18]))
theorem ks1027 : aseg kS krf kB [kE1026] (ksp []) kE1027 [] 30000 (none) = true := by decide +kernel
theorem kok1027 : aOK kS krf kB kE1027 := aOK_of (kal1 kok1026 kal0) kcl0 ks1027
/-- ColdShod$LawText.readLevel(LColdShod$LawCode;II)Z -/
def kE1028 : aE := (65, 11, ([], [], 0, [some (.inr [40]), some (.inr [17]), some (.inl (.inl (.inr (.ofNat 4)))), some (.inl (.inl (.inr (.ofNat 5)))), none, none, none], []), ([], none), ([(.ofNat 0, .ofNat 1)], [], some (.inl (.inl (.inl (0, .ofNat 0)))), ([], [])), ([(17, 0), (17, 2), (40, 2)], [18]))
def kC1028_0 : aC := (([(.ofNat 0, .ofNat 120)], [], 42, [some (.inr [40]), some (.inr [17]), some (.inl (.inl (.inr (.ofNat 4)))), some (.inl (.inl (.inr (.ofNat 5)))), some (.inl (.inl (.inr (.ofNat 120)))), some (.inl (.inl (.inl (0, .ofNat 0)))), none], []), ([], []), (120, [(-1, 0)]))
theorem ks1028 : aseg kS krf kB [kE1027, kE1015] (ksp []) kE1028 [kC1028_0] 30000 (none) = true := by decide +kernel
theorem ks1028_0 : aseg kS krf kB [kE1027, kE1015] (ksp []) kE1028 [kC1028_0] 30000 (some kC1028_0) = true := by decide +kernel
theorem kok1028 : aOK kS krf kB kE1028 := aOK_of (kal1 kok1027 (kal1 kok1015 kal0)) (kcl1 ks1028_0 kcl0) ks1028
/-- ColdShod$LawText.readLevel(LColdShod$LawCode;II)Z -/
def kE1029 : aE := (65, 12, ([], [], 0, [some (.inr [40]), some (.inr [17]), some (.inl (.inl (.inr (.ofNat 3)))), some (.inl (.inl (.inr (.ofNat 5)))), none, none, none], []), ([], none), ([(.ofNat 0, .ofNat 1)], [], some (.inl (.inl (.inl (0, .ofNat 0)))), ([], [])), ([(17, 0), (17, 2), (40, 2)], [18]))
def kC1029_0 : aC := (([(.ofNat 0, .ofNat 120)], [], 42, [some (.inr [40]), some (.inr [17]), some (.inl (.inl (.inr (.ofNat 3)))), some (.inl (.inl (.inr (.ofNat 5)))), some (.inl (.inl (.inr (.ofNat 120)))), some (.inl (.inl (.inl (0, .ofNat 0)))), none], []), ([], []), (120, [(-1, 0)]))
theorem ks1029 : aseg kS krf kB [kE1028, kE1015] (ksp []) kE1029 [kC1029_0] 30000 (none) = true := by decide +kernel
theorem ks1029_0 : aseg kS krf kB [kE1028, kE1015] (ksp []) kE1029 [kC1029_0] 30000 (some kC1029_0) = true := by decide +kernel
theorem kok1029 : aOK kS krf kB kE1029 := aOK_of (kal1 kok1028 (kal1 kok1015 kal0)) (kcl1 ks1029_0 kcl0) ks1029
/-- ColdShod$LawText.readLevel(LColdShod$LawCode;II)Z -/
def kE1030 : aE := (65, 13, ([], [], 0, [some (.inr [40]), some (.inr [17]), some (.inl (.inl (.inr (.ofNat 2)))), some (.inl (.inl (.inr (.ofNat 5)))), none, none, none], []), ([], none), ([(.ofNat 0, .ofNat 1)], [], some (.inl (.inl (.inl (0, .ofNat 0)))), ([], [])), ([(17, 0), (17, 2), (40, 2)], [18]))
def kC1030_0 : aC := (([(.ofNat 0, .ofNat 1)], [], 42, [some (.inr [40]), some (.inr [17]), some (.inl (.inl (.inr (.ofNat 2)))), some (.inl (.inl (.inr (.ofNat 5)))), some (.inl (.inl (.inr (.ofNat 1)))), some (.inl (.inl (.inl (0, .ofNat 0)))), none], []), ([], []), (1, [(-1, 0)]))
theorem ks1030 : aseg kS krf kB [kE1029, kE1015] (ksp []) kE1030 [kC1030_0] 30000 (none) = true := by decide +kernel
theorem ks1030_0 : aseg kS krf kB [kE1029, kE1015] (ksp []) kE1030 [kC1030_0] 30000 (some kC1030_0) = true := by decide +kernel
theorem kok1030 : aOK kS krf kB kE1030 := aOK_of (kal1 kok1029 (kal1 kok1015 kal0)) (kcl1 ks1030_0 kcl0) ks1030
/-- ColdShod$LawText.readLevel(LColdShod$LawCode;II)Z -/
def kE1031 : aE := (65, 14, ([], [], 0, [some (.inr [40]), some (.inr [17]), some (.inl (.inl (.inr (.ofNat 1)))), some (.inl (.inl (.inr (.ofNat 5)))), none, none, none], []), ([], none), ([(.ofNat 0, .ofNat 1)], [], some (.inl (.inl (.inl (0, .ofNat 0)))), ([], [])), ([(17, 0), (17, 2), (40, 2)], [18]))
def kC1031_0 : aC := (([(.ofNat 0, .ofNat 120)], [], 42, [some (.inr [40]), some (.inr [17]), some (.inl (.inl (.inr (.ofNat 1)))), some (.inl (.inl (.inr (.ofNat 5)))), some (.inl (.inl (.inr (.ofNat 120)))), some (.inl (.inl (.inl (0, .ofNat 0)))), none], []), ([], []), (120, [(-1, 0)]))
theorem ks1031 : aseg kS krf kB [kE1030, kE1015] (ksp []) kE1031 [kC1031_0] 30000 (none) = true := by decide +kernel
theorem ks1031_0 : aseg kS krf kB [kE1030, kE1015] (ksp []) kE1031 [kC1031_0] 30000 (some kC1031_0) = true := by decide +kernel
theorem kok1031 : aOK kS krf kB kE1031 := aOK_of (kal1 kok1030 (kal1 kok1015 kal0)) (kcl1 ks1031_0 kcl0) ks1031
/-- ColdShod$LawText.readLevel(LColdShod$LawCode;II)Z -/
def kE1032 : aE := (65, 15, ([], [], 0, [some (.inr [40]), some (.inr [17]), some (.inl (.inl (.inr (.ofNat 0)))), some (.inl (.inl (.inr (.ofNat 5)))), none, none, none], []), ([], none), ([(.ofNat 0, .ofNat 1)], [], some (.inl (.inl (.inl (0, .ofNat 0)))), ([], [])), ([(17, 0), (17, 2), (40, 2)], [18]))
def kC1032_0 : aC := (([(.ofNat 0, .ofNat 120)], [], 42, [some (.inr [40]), some (.inr [17]), some (.inl (.inl (.inr (.ofNat 0)))), some (.inl (.inl (.inr (.ofNat 5)))), some (.inl (.inl (.inr (.ofNat 120)))), some (.inl (.inl (.inl (0, .ofNat 0)))), none], []), ([], []), (120, [(-1, 0)]))
theorem ks1032 : aseg kS krf kB [kE1031, kE1015] (ksp []) kE1032 [kC1032_0] 30000 (none) = true := by decide +kernel
theorem ks1032_0 : aseg kS krf kB [kE1031, kE1015] (ksp []) kE1032 [kC1032_0] 30000 (some kC1032_0) = true := by decide +kernel
theorem kok1032 : aOK kS krf kB kE1032 := aOK_of (kal1 kok1031 (kal1 kok1015 kal0)) (kcl1 ks1032_0 kcl0) ks1032
/-- ColdShod$LawText.readOperand(LColdShod$LawCode;I)Z -/
def kE1033 : aE := (66, 16, ([], [], 0, [some (.inr [40]), some (.inr [17]), some (.inl (.inl (.inr (.ofNat 4)))), none, none], []), ([], none), ([(.ofNat 0, .ofNat 1)], [], some (.inl (.inl (.inl (0, .ofNat 0)))), ([], [])), ([(17, 0), (17, 2), (40, 2)], [18]))
def kC1033_0 : aC := (([(.ofNat 33, .ofNat 45), (.ofNat 0, .ofNat 119), (.ofNat 1, .ofNat 120)], [(40, 2, .inl (1, .ofNat 0)), (40, 1, .inl (2, .ofNat 0))], 65, [some (.inr [40]), some (.inr [17]), some (.inl (.inl (.inr (.ofNat 4)))), some (.inl (.inl (.inl (0, .ofNat 0)))), some (.inl (.inl (.inr (.negSucc 0))))], []), ([], []), (0, []))
theorem ks1033 : aseg kS krf kB [kE1016, kE1017, kE1032, kE1025, kE1026, kE1015] (ksp []) kE1033 [kC1033_0] 30000 (none) = true := by decide +kernel
theorem ks1033_0 : aseg kS krf kB [kE1016, kE1017, kE1032, kE1025, kE1026, kE1015] (ksp []) kE1033 [kC1033_0] 30000 (some kC1033_0) = true := by decide +kernel
theorem kok1033 : aOK kS krf kB kE1033 := aOK_of (kal1 kok1016 (kal1 kok1017 (kal1 kok1032 (kal1 kok1025 (kal1 kok1026 (kal1 kok1015 kal0)))))) (kcl1 ks1033_0 kcl0) ks1033
/-- ColdShod$LawText.readLevel(LColdShod$LawCode;II)Z -/
def kE1034 : aE := (65, 17, ([], [], 0, [some (.inr [40]), some (.inr [17]), some (.inl (.inl (.inr (.ofNat 5)))), some (.inl (.inl (.inr (.ofNat 4)))), none, none, none], []), ([], none), ([(.ofNat 0, .ofNat 1)], [], some (.inl (.inl (.inl (0, .ofNat 0)))), ([], [])), ([(17, 0), (17, 2), (40, 2)], [18]))
theorem ks1034 : aseg kS krf kB [kE1033] (ksp []) kE1034 [] 30000 (none) = true := by decide +kernel
theorem kok1034 : aOK kS krf kB kE1034 := aOK_of (kal1 kok1033 kal0) kcl0 ks1034
/-- ColdShod$LawText.readLevel(LColdShod$LawCode;II)Z -/
def kE1035 : aE := (65, 18, ([], [], 0, [some (.inr [40]), some (.inr [17]), some (.inl (.inl (.inr (.ofNat 4)))), some (.inl (.inl (.inr (.ofNat 4)))), none, none, none], []), ([], none), ([(.ofNat 0, .ofNat 1)], [], some (.inl (.inl (.inl (0, .ofNat 0)))), ([], [])), ([(17, 0), (17, 2), (40, 2)], [18]))
def kC1035_0 : aC := (([(.ofNat 0, .ofNat 120)], [], 42, [some (.inr [40]), some (.inr [17]), some (.inl (.inl (.inr (.ofNat 4)))), some (.inl (.inl (.inr (.ofNat 4)))), some (.inl (.inl (.inr (.ofNat 120)))), some (.inl (.inl (.inl (0, .ofNat 0)))), none], []), ([], []), (120, [(-1, 0)]))
theorem ks1035 : aseg kS krf kB [kE1034, kE1015] (ksp []) kE1035 [kC1035_0] 30000 (none) = true := by decide +kernel
theorem ks1035_0 : aseg kS krf kB [kE1034, kE1015] (ksp []) kE1035 [kC1035_0] 30000 (some kC1035_0) = true := by decide +kernel
theorem kok1035 : aOK kS krf kB kE1035 := aOK_of (kal1 kok1034 (kal1 kok1015 kal0)) (kcl1 ks1035_0 kcl0) ks1035
/-- ColdShod$LawText.readLevel(LColdShod$LawCode;II)Z -/
def kE1036 : aE := (65, 19, ([], [], 0, [some (.inr [40]), some (.inr [17]), some (.inl (.inl (.inr (.ofNat 3)))), some (.inl (.inl (.inr (.ofNat 4)))), none, none, none], []), ([], none), ([(.ofNat 0, .ofNat 1)], [], some (.inl (.inl (.inl (0, .ofNat 0)))), ([], [])), ([(17, 0), (17, 2), (40, 2)], [18]))
def kC1036_0 : aC := (([(.ofNat 0, .ofNat 120)], [], 42, [some (.inr [40]), some (.inr [17]), some (.inl (.inl (.inr (.ofNat 3)))), some (.inl (.inl (.inr (.ofNat 4)))), some (.inl (.inl (.inr (.ofNat 120)))), some (.inl (.inl (.inl (0, .ofNat 0)))), none], []), ([], []), (120, [(-1, 0)]))
theorem ks1036 : aseg kS krf kB [kE1035, kE1015] (ksp []) kE1036 [kC1036_0] 30000 (none) = true := by decide +kernel
theorem ks1036_0 : aseg kS krf kB [kE1035, kE1015] (ksp []) kE1036 [kC1036_0] 30000 (some kC1036_0) = true := by decide +kernel
theorem kok1036 : aOK kS krf kB kE1036 := aOK_of (kal1 kok1035 (kal1 kok1015 kal0)) (kcl1 ks1036_0 kcl0) ks1036
/-- ColdShod$LawText.readLevel(LColdShod$LawCode;II)Z -/
def kE1037 : aE := (65, 20, ([], [], 0, [some (.inr [40]), some (.inr [17]), some (.inl (.inl (.inr (.ofNat 2)))), some (.inl (.inl (.inr (.ofNat 4)))), none, none, none], []), ([], none), ([(.ofNat 0, .ofNat 1)], [], some (.inl (.inl (.inl (0, .ofNat 0)))), ([], [])), ([(17, 0), (17, 2), (40, 2)], [18]))
def kC1037_0 : aC := (([(.ofNat 0, .ofNat 1)], [], 42, [some (.inr [40]), some (.inr [17]), some (.inl (.inl (.inr (.ofNat 2)))), some (.inl (.inl (.inr (.ofNat 4)))), some (.inl (.inl (.inr (.ofNat 1)))), some (.inl (.inl (.inl (0, .ofNat 0)))), none], []), ([], []), (1, [(-1, 0)]))
theorem ks1037 : aseg kS krf kB [kE1036, kE1015] (ksp []) kE1037 [kC1037_0] 30000 (none) = true := by decide +kernel
theorem ks1037_0 : aseg kS krf kB [kE1036, kE1015] (ksp []) kE1037 [kC1037_0] 30000 (some kC1037_0) = true := by decide +kernel
theorem kok1037 : aOK kS krf kB kE1037 := aOK_of (kal1 kok1036 (kal1 kok1015 kal0)) (kcl1 ks1037_0 kcl0) ks1037
/-- ColdShod$LawText.readLevel(LColdShod$LawCode;II)Z -/
def kE1038 : aE := (65, 21, ([], [], 0, [some (.inr [40]), some (.inr [17]), some (.inl (.inl (.inr (.ofNat 1)))), some (.inl (.inl (.inr (.ofNat 4)))), none, none, none], []), ([], none), ([(.ofNat 0, .ofNat 1)], [], some (.inl (.inl (.inl (0, .ofNat 0)))), ([], [])), ([(17, 0), (17, 2), (40, 2)], [18]))
def kC1038_0 : aC := (([(.ofNat 0, .ofNat 120)], [], 42, [some (.inr [40]), some (.inr [17]), some (.inl (.inl (.inr (.ofNat 1)))), some (.inl (.inl (.inr (.ofNat 4)))), some (.inl (.inl (.inr (.ofNat 120)))), some (.inl (.inl (.inl (0, .ofNat 0)))), none], []), ([], []), (120, [(-1, 0)]))
theorem ks1038 : aseg kS krf kB [kE1037, kE1015] (ksp []) kE1038 [kC1038_0] 30000 (none) = true := by decide +kernel
theorem ks1038_0 : aseg kS krf kB [kE1037, kE1015] (ksp []) kE1038 [kC1038_0] 30000 (some kC1038_0) = true := by decide +kernel
theorem kok1038 : aOK kS krf kB kE1038 := aOK_of (kal1 kok1037 (kal1 kok1015 kal0)) (kcl1 ks1038_0 kcl0) ks1038
/-- ColdShod$LawText.readLevel(LColdShod$LawCode;II)Z -/
def kE1039 : aE := (65, 22, ([], [], 0, [some (.inr [40]), some (.inr [17]), some (.inl (.inl (.inr (.ofNat 0)))), some (.inl (.inl (.inr (.ofNat 4)))), none, none, none], []), ([], none), ([(.ofNat 0, .ofNat 1)], [], some (.inl (.inl (.inl (0, .ofNat 0)))), ([], [])), ([(17, 0), (17, 2), (40, 2)], [18]))
def kC1039_0 : aC := (([(.ofNat 0, .ofNat 120)], [], 42, [some (.inr [40]), some (.inr [17]), some (.inl (.inl (.inr (.ofNat 0)))), some (.inl (.inl (.inr (.ofNat 4)))), some (.inl (.inl (.inr (.ofNat 120)))), some (.inl (.inl (.inl (0, .ofNat 0)))), none], []), ([], []), (120, [(-1, 0)]))
theorem ks1039 : aseg kS krf kB [kE1038, kE1015] (ksp []) kE1039 [kC1039_0] 30000 (none) = true := by decide +kernel
theorem ks1039_0 : aseg kS krf kB [kE1038, kE1015] (ksp []) kE1039 [kC1039_0] 30000 (some kC1039_0) = true := by decide +kernel
theorem kok1039 : aOK kS krf kB kE1039 := aOK_of (kal1 kok1038 (kal1 kok1015 kal0)) (kcl1 ks1039_0 kcl0) ks1039
/-- ColdShod$LawText.readOperand(LColdShod$LawCode;I)Z -/
def kE1040 : aE := (66, 23, ([], [], 0, [some (.inr [40]), some (.inr [17]), some (.inl (.inl (.inr (.ofNat 3)))), none, none], []), ([], none), ([(.ofNat 0, .ofNat 1)], [], some (.inl (.inl (.inl (0, .ofNat 0)))), ([], [])), ([(17, 0), (17, 2), (40, 2)], [18]))
def kC1040_0 : aC := (([(.ofNat 33, .ofNat 45), (.ofNat 0, .ofNat 119), (.ofNat 1, .ofNat 120)], [(40, 2, .inl (1, .ofNat 0)), (40, 1, .inl (2, .ofNat 0))], 65, [some (.inr [40]), some (.inr [17]), some (.inl (.inl (.inr (.ofNat 3)))), some (.inl (.inl (.inl (0, .ofNat 0)))), some (.inl (.inl (.inr (.negSucc 0))))], []), ([], []), (0, []))
theorem ks1040 : aseg kS krf kB [kE1016, kE1017, kE1039, kE1025, kE1033, kE1015] (ksp []) kE1040 [kC1040_0] 30000 (none) = true := by decide +kernel
theorem ks1040_0 : aseg kS krf kB [kE1016, kE1017, kE1039, kE1025, kE1033, kE1015] (ksp []) kE1040 [kC1040_0] 30000 (some kC1040_0) = true := by decide +kernel
theorem kok1040 : aOK kS krf kB kE1040 := aOK_of (kal1 kok1016 (kal1 kok1017 (kal1 kok1039 (kal1 kok1025 (kal1 kok1033 (kal1 kok1015 kal0)))))) (kcl1 ks1040_0 kcl0) ks1040
/-- ColdShod$LawText.readLevel(LColdShod$LawCode;II)Z -/
def kE1041 : aE := (65, 24, ([], [], 0, [some (.inr [40]), some (.inr [17]), some (.inl (.inl (.inr (.ofNat 5)))), some (.inl (.inl (.inr (.ofNat 3)))), none, none, none], []), ([], none), ([(.ofNat 0, .ofNat 1)], [], some (.inl (.inl (.inl (0, .ofNat 0)))), ([], [])), ([(17, 0), (17, 2), (40, 2)], [18]))
theorem ks1041 : aseg kS krf kB [kE1040] (ksp []) kE1041 [] 30000 (none) = true := by decide +kernel
theorem kok1041 : aOK kS krf kB kE1041 := aOK_of (kal1 kok1040 kal0) kcl0 ks1041
/-- ColdShod$LawText.readLevel(LColdShod$LawCode;II)Z -/
def kE1042 : aE := (65, 25, ([], [], 0, [some (.inr [40]), some (.inr [17]), some (.inl (.inl (.inr (.ofNat 4)))), some (.inl (.inl (.inr (.ofNat 3)))), none, none, none], []), ([], none), ([(.ofNat 0, .ofNat 1)], [], some (.inl (.inl (.inl (0, .ofNat 0)))), ([], [])), ([(17, 0), (17, 2), (40, 2)], [18]))
def kC1042_0 : aC := (([(.ofNat 0, .ofNat 120)], [], 42, [some (.inr [40]), some (.inr [17]), some (.inl (.inl (.inr (.ofNat 4)))), some (.inl (.inl (.inr (.ofNat 3)))), some (.inl (.inl (.inr (.ofNat 120)))), some (.inl (.inl (.inl (0, .ofNat 0)))), none], []), ([], []), (120, [(-1, 0)]))
theorem ks1042 : aseg kS krf kB [kE1041, kE1015] (ksp []) kE1042 [kC1042_0] 30000 (none) = true := by decide +kernel
theorem ks1042_0 : aseg kS krf kB [kE1041, kE1015] (ksp []) kE1042 [kC1042_0] 30000 (some kC1042_0) = true := by decide +kernel
theorem kok1042 : aOK kS krf kB kE1042 := aOK_of (kal1 kok1041 (kal1 kok1015 kal0)) (kcl1 ks1042_0 kcl0) ks1042
/-- ColdShod$LawText.readLevel(LColdShod$LawCode;II)Z -/
def kE1043 : aE := (65, 26, ([], [], 0, [some (.inr [40]), some (.inr [17]), some (.inl (.inl (.inr (.ofNat 3)))), some (.inl (.inl (.inr (.ofNat 3)))), none, none, none], []), ([], none), ([(.ofNat 0, .ofNat 1)], [], some (.inl (.inl (.inl (0, .ofNat 0)))), ([], [])), ([(17, 0), (17, 2), (40, 2)], [18]))
def kC1043_0 : aC := (([(.ofNat 0, .ofNat 120)], [], 42, [some (.inr [40]), some (.inr [17]), some (.inl (.inl (.inr (.ofNat 3)))), some (.inl (.inl (.inr (.ofNat 3)))), some (.inl (.inl (.inr (.ofNat 120)))), some (.inl (.inl (.inl (0, .ofNat 0)))), none], []), ([], []), (120, [(-1, 0)]))
theorem ks1043 : aseg kS krf kB [kE1042, kE1015] (ksp []) kE1043 [kC1043_0] 30000 (none) = true := by decide +kernel
theorem ks1043_0 : aseg kS krf kB [kE1042, kE1015] (ksp []) kE1043 [kC1043_0] 30000 (some kC1043_0) = true := by decide +kernel
theorem kok1043 : aOK kS krf kB kE1043 := aOK_of (kal1 kok1042 (kal1 kok1015 kal0)) (kcl1 ks1043_0 kcl0) ks1043
/-- ColdShod$LawText.readLevel(LColdShod$LawCode;II)Z -/
def kE1044 : aE := (65, 27, ([], [], 0, [some (.inr [40]), some (.inr [17]), some (.inl (.inl (.inr (.ofNat 2)))), some (.inl (.inl (.inr (.ofNat 3)))), none, none, none], []), ([], none), ([(.ofNat 0, .ofNat 1)], [], some (.inl (.inl (.inl (0, .ofNat 0)))), ([], [])), ([(17, 0), (17, 2), (40, 2)], [18]))
def kC1044_0 : aC := (([(.ofNat 0, .ofNat 1)], [], 42, [some (.inr [40]), some (.inr [17]), some (.inl (.inl (.inr (.ofNat 2)))), some (.inl (.inl (.inr (.ofNat 3)))), some (.inl (.inl (.inr (.ofNat 1)))), some (.inl (.inl (.inl (0, .ofNat 0)))), none], []), ([], []), (1, [(-1, 0)]))
theorem ks1044 : aseg kS krf kB [kE1043, kE1015] (ksp []) kE1044 [kC1044_0] 30000 (none) = true := by decide +kernel
theorem ks1044_0 : aseg kS krf kB [kE1043, kE1015] (ksp []) kE1044 [kC1044_0] 30000 (some kC1044_0) = true := by decide +kernel
theorem kok1044 : aOK kS krf kB kE1044 := aOK_of (kal1 kok1043 (kal1 kok1015 kal0)) (kcl1 ks1044_0 kcl0) ks1044
/-- ColdShod$LawText.readLevel(LColdShod$LawCode;II)Z -/
def kE1045 : aE := (65, 28, ([], [], 0, [some (.inr [40]), some (.inr [17]), some (.inl (.inl (.inr (.ofNat 1)))), some (.inl (.inl (.inr (.ofNat 3)))), none, none, none], []), ([], none), ([(.ofNat 0, .ofNat 1)], [], some (.inl (.inl (.inl (0, .ofNat 0)))), ([], [])), ([(17, 0), (17, 2), (40, 2)], [18]))
def kC1045_0 : aC := (([(.ofNat 0, .ofNat 120)], [], 42, [some (.inr [40]), some (.inr [17]), some (.inl (.inl (.inr (.ofNat 1)))), some (.inl (.inl (.inr (.ofNat 3)))), some (.inl (.inl (.inr (.ofNat 120)))), some (.inl (.inl (.inl (0, .ofNat 0)))), none], []), ([], []), (120, [(-1, 0)]))
theorem ks1045 : aseg kS krf kB [kE1044, kE1015] (ksp []) kE1045 [kC1045_0] 30000 (none) = true := by decide +kernel
theorem ks1045_0 : aseg kS krf kB [kE1044, kE1015] (ksp []) kE1045 [kC1045_0] 30000 (some kC1045_0) = true := by decide +kernel
theorem kok1045 : aOK kS krf kB kE1045 := aOK_of (kal1 kok1044 (kal1 kok1015 kal0)) (kcl1 ks1045_0 kcl0) ks1045
/-- ColdShod$LawText.readLevel(LColdShod$LawCode;II)Z -/
def kE1046 : aE := (65, 29, ([], [], 0, [some (.inr [40]), some (.inr [17]), some (.inl (.inl (.inr (.ofNat 0)))), some (.inl (.inl (.inr (.ofNat 3)))), none, none, none], []), ([], none), ([(.ofNat 0, .ofNat 1)], [], some (.inl (.inl (.inl (0, .ofNat 0)))), ([], [])), ([(17, 0), (17, 2), (40, 2)], [18]))
def kC1046_0 : aC := (([(.ofNat 0, .ofNat 120)], [], 42, [some (.inr [40]), some (.inr [17]), some (.inl (.inl (.inr (.ofNat 0)))), some (.inl (.inl (.inr (.ofNat 3)))), some (.inl (.inl (.inr (.ofNat 120)))), some (.inl (.inl (.inl (0, .ofNat 0)))), none], []), ([], []), (120, [(-1, 0)]))
theorem ks1046 : aseg kS krf kB [kE1045, kE1015] (ksp []) kE1046 [kC1046_0] 30000 (none) = true := by decide +kernel
theorem ks1046_0 : aseg kS krf kB [kE1045, kE1015] (ksp []) kE1046 [kC1046_0] 30000 (some kC1046_0) = true := by decide +kernel
theorem kok1046 : aOK kS krf kB kE1046 := aOK_of (kal1 kok1045 (kal1 kok1015 kal0)) (kcl1 ks1046_0 kcl0) ks1046
/-- ColdShod$LawText.readOperand(LColdShod$LawCode;I)Z -/
def kE1047 : aE := (66, 30, ([], [], 0, [some (.inr [40]), some (.inr [17]), some (.inl (.inl (.inr (.ofNat 2)))), none, none], []), ([], none), ([(.ofNat 0, .ofNat 1)], [], some (.inl (.inl (.inl (0, .ofNat 0)))), ([], [])), ([(17, 0), (17, 2), (40, 2)], [18]))
def kC1047_0 : aC := (([(.ofNat 33, .ofNat 45), (.ofNat 0, .ofNat 119), (.ofNat 1, .ofNat 120)], [(40, 2, .inl (1, .ofNat 0)), (40, 1, .inl (2, .ofNat 0))], 65, [some (.inr [40]), some (.inr [17]), some (.inl (.inl (.inr (.ofNat 2)))), some (.inl (.inl (.inl (0, .ofNat 0)))), some (.inl (.inl (.inr (.negSucc 0))))], []), ([], []), (0, []))
theorem ks1047 : aseg kS krf kB [kE1016, kE1017, kE1046, kE1025, kE1040, kE1015] (ksp []) kE1047 [kC1047_0] 30000 (none) = true := by decide +kernel
theorem ks1047_0 : aseg kS krf kB [kE1016, kE1017, kE1046, kE1025, kE1040, kE1015] (ksp []) kE1047 [kC1047_0] 30000 (some kC1047_0) = true := by decide +kernel
theorem kok1047 : aOK kS krf kB kE1047 := aOK_of (kal1 kok1016 (kal1 kok1017 (kal1 kok1046 (kal1 kok1025 (kal1 kok1040 (kal1 kok1015 kal0)))))) (kcl1 ks1047_0 kcl0) ks1047
/-- ColdShod$LawText.readLevel(LColdShod$LawCode;II)Z -/
def kE1048 : aE := (65, 31, ([], [], 0, [some (.inr [40]), some (.inr [17]), some (.inl (.inl (.inr (.ofNat 5)))), some (.inl (.inl (.inr (.ofNat 2)))), none, none, none], []), ([], none), ([(.ofNat 0, .ofNat 1)], [], some (.inl (.inl (.inl (0, .ofNat 0)))), ([], [])), ([(17, 0), (17, 2), (40, 2)], [18]))
theorem ks1048 : aseg kS krf kB [kE1047] (ksp []) kE1048 [] 30000 (none) = true := by decide +kernel
theorem kok1048 : aOK kS krf kB kE1048 := aOK_of (kal1 kok1047 kal0) kcl0 ks1048
/-- ColdShod$LawText.readLevel(LColdShod$LawCode;II)Z -/
def kE1049 : aE := (65, 32, ([], [], 0, [some (.inr [40]), some (.inr [17]), some (.inl (.inl (.inr (.ofNat 4)))), some (.inl (.inl (.inr (.ofNat 2)))), none, none, none], []), ([], none), ([(.ofNat 0, .ofNat 1)], [], some (.inl (.inl (.inl (0, .ofNat 0)))), ([], [])), ([(17, 0), (17, 2), (40, 2)], [18]))
def kC1049_0 : aC := (([(.ofNat 0, .ofNat 120)], [], 42, [some (.inr [40]), some (.inr [17]), some (.inl (.inl (.inr (.ofNat 4)))), some (.inl (.inl (.inr (.ofNat 2)))), some (.inl (.inl (.inr (.ofNat 120)))), some (.inl (.inl (.inl (0, .ofNat 0)))), none], []), ([], []), (120, [(-1, 0)]))
theorem ks1049 : aseg kS krf kB [kE1048, kE1015] (ksp []) kE1049 [kC1049_0] 30000 (none) = true := by decide +kernel
theorem ks1049_0 : aseg kS krf kB [kE1048, kE1015] (ksp []) kE1049 [kC1049_0] 30000 (some kC1049_0) = true := by decide +kernel
theorem kok1049 : aOK kS krf kB kE1049 := aOK_of (kal1 kok1048 (kal1 kok1015 kal0)) (kcl1 ks1049_0 kcl0) ks1049
/-- ColdShod$LawText.readLevel(LColdShod$LawCode;II)Z -/
def kE1050 : aE := (65, 33, ([], [], 0, [some (.inr [40]), some (.inr [17]), some (.inl (.inl (.inr (.ofNat 3)))), some (.inl (.inl (.inr (.ofNat 2)))), none, none, none], []), ([], none), ([(.ofNat 0, .ofNat 1)], [], some (.inl (.inl (.inl (0, .ofNat 0)))), ([], [])), ([(17, 0), (17, 2), (40, 2)], [18]))
def kC1050_0 : aC := (([(.ofNat 0, .ofNat 120)], [], 42, [some (.inr [40]), some (.inr [17]), some (.inl (.inl (.inr (.ofNat 3)))), some (.inl (.inl (.inr (.ofNat 2)))), some (.inl (.inl (.inr (.ofNat 120)))), some (.inl (.inl (.inl (0, .ofNat 0)))), none], []), ([], []), (120, [(-1, 0)]))
theorem ks1050 : aseg kS krf kB [kE1049, kE1015] (ksp []) kE1050 [kC1050_0] 30000 (none) = true := by decide +kernel
theorem ks1050_0 : aseg kS krf kB [kE1049, kE1015] (ksp []) kE1050 [kC1050_0] 30000 (some kC1050_0) = true := by decide +kernel
theorem kok1050 : aOK kS krf kB kE1050 := aOK_of (kal1 kok1049 (kal1 kok1015 kal0)) (kcl1 ks1050_0 kcl0) ks1050
/-- ColdShod$LawText.readLevel(LColdShod$LawCode;II)Z -/
def kE1051 : aE := (65, 34, ([], [], 0, [some (.inr [40]), some (.inr [17]), some (.inl (.inl (.inr (.ofNat 2)))), some (.inl (.inl (.inr (.ofNat 2)))), none, none, none], []), ([], none), ([(.ofNat 0, .ofNat 1)], [], some (.inl (.inl (.inl (0, .ofNat 0)))), ([], [])), ([(17, 0), (17, 2), (40, 2)], [18]))
def kC1051_0 : aC := (([(.ofNat 0, .ofNat 1)], [], 42, [some (.inr [40]), some (.inr [17]), some (.inl (.inl (.inr (.ofNat 2)))), some (.inl (.inl (.inr (.ofNat 2)))), some (.inl (.inl (.inr (.ofNat 1)))), some (.inl (.inl (.inl (0, .ofNat 0)))), none], []), ([], []), (1, [(-1, 0)]))
theorem ks1051 : aseg kS krf kB [kE1050, kE1015] (ksp []) kE1051 [kC1051_0] 30000 (none) = true := by decide +kernel
theorem ks1051_0 : aseg kS krf kB [kE1050, kE1015] (ksp []) kE1051 [kC1051_0] 30000 (some kC1051_0) = true := by decide +kernel
theorem kok1051 : aOK kS krf kB kE1051 := aOK_of (kal1 kok1050 (kal1 kok1015 kal0)) (kcl1 ks1051_0 kcl0) ks1051
/-- ColdShod$LawText.readLevel(LColdShod$LawCode;II)Z -/
def kE1052 : aE := (65, 35, ([], [], 0, [some (.inr [40]), some (.inr [17]), some (.inl (.inl (.inr (.ofNat 1)))), some (.inl (.inl (.inr (.ofNat 2)))), none, none, none], []), ([], none), ([(.ofNat 0, .ofNat 1)], [], some (.inl (.inl (.inl (0, .ofNat 0)))), ([], [])), ([(17, 0), (17, 2), (40, 2)], [18]))
def kC1052_0 : aC := (([(.ofNat 0, .ofNat 120)], [], 42, [some (.inr [40]), some (.inr [17]), some (.inl (.inl (.inr (.ofNat 1)))), some (.inl (.inl (.inr (.ofNat 2)))), some (.inl (.inl (.inr (.ofNat 120)))), some (.inl (.inl (.inl (0, .ofNat 0)))), none], []), ([], []), (120, [(-1, 0)]))
theorem ks1052 : aseg kS krf kB [kE1051, kE1015] (ksp []) kE1052 [kC1052_0] 30000 (none) = true := by decide +kernel
theorem ks1052_0 : aseg kS krf kB [kE1051, kE1015] (ksp []) kE1052 [kC1052_0] 30000 (some kC1052_0) = true := by decide +kernel
theorem kok1052 : aOK kS krf kB kE1052 := aOK_of (kal1 kok1051 (kal1 kok1015 kal0)) (kcl1 ks1052_0 kcl0) ks1052
/-- ColdShod$LawText.readLevel(LColdShod$LawCode;II)Z -/
def kE1053 : aE := (65, 36, ([], [], 0, [some (.inr [40]), some (.inr [17]), some (.inl (.inl (.inr (.ofNat 0)))), some (.inl (.inl (.inr (.ofNat 2)))), none, none, none], []), ([], none), ([(.ofNat 0, .ofNat 1)], [], some (.inl (.inl (.inl (0, .ofNat 0)))), ([], [])), ([(17, 0), (17, 2), (40, 2)], [18]))
def kC1053_0 : aC := (([(.ofNat 0, .ofNat 120)], [], 42, [some (.inr [40]), some (.inr [17]), some (.inl (.inl (.inr (.ofNat 0)))), some (.inl (.inl (.inr (.ofNat 2)))), some (.inl (.inl (.inr (.ofNat 120)))), some (.inl (.inl (.inl (0, .ofNat 0)))), none], []), ([], []), (120, [(-1, 0)]))
theorem ks1053 : aseg kS krf kB [kE1052, kE1015] (ksp []) kE1053 [kC1053_0] 30000 (none) = true := by decide +kernel
theorem ks1053_0 : aseg kS krf kB [kE1052, kE1015] (ksp []) kE1053 [kC1053_0] 30000 (some kC1053_0) = true := by decide +kernel
theorem kok1053 : aOK kS krf kB kE1053 := aOK_of (kal1 kok1052 (kal1 kok1015 kal0)) (kcl1 ks1053_0 kcl0) ks1053
/-- ColdShod$LawText.readOperand(LColdShod$LawCode;I)Z -/
def kE1054 : aE := (66, 37, ([], [], 0, [some (.inr [40]), some (.inr [17]), some (.inl (.inl (.inr (.ofNat 1)))), none, none], []), ([], none), ([(.ofNat 0, .ofNat 1)], [], some (.inl (.inl (.inl (0, .ofNat 0)))), ([], [])), ([(17, 0), (17, 2), (40, 2)], [18]))
def kC1054_0 : aC := (([(.ofNat 33, .ofNat 45), (.ofNat 0, .ofNat 119), (.ofNat 1, .ofNat 120)], [(40, 2, .inl (1, .ofNat 0)), (40, 1, .inl (2, .ofNat 0))], 65, [some (.inr [40]), some (.inr [17]), some (.inl (.inl (.inr (.ofNat 1)))), some (.inl (.inl (.inl (0, .ofNat 0)))), some (.inl (.inl (.inr (.negSucc 0))))], []), ([], []), (0, []))
theorem ks1054 : aseg kS krf kB [kE1016, kE1017, kE1053, kE1025, kE1047, kE1015] (ksp []) kE1054 [kC1054_0] 30000 (none) = true := by decide +kernel
theorem ks1054_0 : aseg kS krf kB [kE1016, kE1017, kE1053, kE1025, kE1047, kE1015] (ksp []) kE1054 [kC1054_0] 30000 (some kC1054_0) = true := by decide +kernel
theorem kok1054 : aOK kS krf kB kE1054 := aOK_of (kal1 kok1016 (kal1 kok1017 (kal1 kok1053 (kal1 kok1025 (kal1 kok1047 (kal1 kok1015 kal0)))))) (kcl1 ks1054_0 kcl0) ks1054
/-- ColdShod$LawText.readLevel(LColdShod$LawCode;II)Z -/
def kE1055 : aE := (65, 38, ([], [], 0, [some (.inr [40]), some (.inr [17]), some (.inl (.inl (.inr (.ofNat 5)))), some (.inl (.inl (.inr (.ofNat 1)))), none, none, none], []), ([], none), ([(.ofNat 0, .ofNat 1)], [], some (.inl (.inl (.inl (0, .ofNat 0)))), ([], [])), ([(17, 0), (17, 2), (40, 2)], [18]))
theorem ks1055 : aseg kS krf kB [kE1054] (ksp []) kE1055 [] 30000 (none) = true := by decide +kernel
theorem kok1055 : aOK kS krf kB kE1055 := aOK_of (kal1 kok1054 kal0) kcl0 ks1055
/-- ColdShod$LawText.readLevel(LColdShod$LawCode;II)Z -/
def kE1056 : aE := (65, 39, ([], [], 0, [some (.inr [40]), some (.inr [17]), some (.inl (.inl (.inr (.ofNat 4)))), some (.inl (.inl (.inr (.ofNat 1)))), none, none, none], []), ([], none), ([(.ofNat 0, .ofNat 1)], [], some (.inl (.inl (.inl (0, .ofNat 0)))), ([], [])), ([(17, 0), (17, 2), (40, 2)], [18]))
def kC1056_0 : aC := (([(.ofNat 0, .ofNat 120)], [], 42, [some (.inr [40]), some (.inr [17]), some (.inl (.inl (.inr (.ofNat 4)))), some (.inl (.inl (.inr (.ofNat 1)))), some (.inl (.inl (.inr (.ofNat 120)))), some (.inl (.inl (.inl (0, .ofNat 0)))), none], []), ([], []), (120, [(-1, 0)]))
theorem ks1056 : aseg kS krf kB [kE1055, kE1015] (ksp []) kE1056 [kC1056_0] 30000 (none) = true := by decide +kernel
theorem ks1056_0 : aseg kS krf kB [kE1055, kE1015] (ksp []) kE1056 [kC1056_0] 30000 (some kC1056_0) = true := by decide +kernel
theorem kok1056 : aOK kS krf kB kE1056 := aOK_of (kal1 kok1055 (kal1 kok1015 kal0)) (kcl1 ks1056_0 kcl0) ks1056
/-- ColdShod$LawText.readLevel(LColdShod$LawCode;II)Z -/
def kE1057 : aE := (65, 40, ([], [], 0, [some (.inr [40]), some (.inr [17]), some (.inl (.inl (.inr (.ofNat 3)))), some (.inl (.inl (.inr (.ofNat 1)))), none, none, none], []), ([], none), ([(.ofNat 0, .ofNat 1)], [], some (.inl (.inl (.inl (0, .ofNat 0)))), ([], [])), ([(17, 0), (17, 2), (40, 2)], [18]))
def kC1057_0 : aC := (([(.ofNat 0, .ofNat 120)], [], 42, [some (.inr [40]), some (.inr [17]), some (.inl (.inl (.inr (.ofNat 3)))), some (.inl (.inl (.inr (.ofNat 1)))), some (.inl (.inl (.inr (.ofNat 120)))), some (.inl (.inl (.inl (0, .ofNat 0)))), none], []), ([], []), (120, [(-1, 0)]))
theorem ks1057 : aseg kS krf kB [kE1056, kE1015] (ksp []) kE1057 [kC1057_0] 30000 (none) = true := by decide +kernel
theorem ks1057_0 : aseg kS krf kB [kE1056, kE1015] (ksp []) kE1057 [kC1057_0] 30000 (some kC1057_0) = true := by decide +kernel
theorem kok1057 : aOK kS krf kB kE1057 := aOK_of (kal1 kok1056 (kal1 kok1015 kal0)) (kcl1 ks1057_0 kcl0) ks1057
/-- ColdShod$LawText.readLevel(LColdShod$LawCode;II)Z -/
def kE1058 : aE := (65, 41, ([], [], 0, [some (.inr [40]), some (.inr [17]), some (.inl (.inl (.inr (.ofNat 2)))), some (.inl (.inl (.inr (.ofNat 1)))), none, none, none], []), ([], none), ([(.ofNat 0, .ofNat 1)], [], some (.inl (.inl (.inl (0, .ofNat 0)))), ([], [])), ([(17, 0), (17, 2), (40, 2)], [18]))
def kC1058_0 : aC := (([(.ofNat 0, .ofNat 1)], [], 42, [some (.inr [40]), some (.inr [17]), some (.inl (.inl (.inr (.ofNat 2)))), some (.inl (.inl (.inr (.ofNat 1)))), some (.inl (.inl (.inr (.ofNat 1)))), some (.inl (.inl (.inl (0, .ofNat 0)))), none], []), ([], []), (1, [(-1, 0)]))
theorem ks1058 : aseg kS krf kB [kE1057, kE1015] (ksp []) kE1058 [kC1058_0] 30000 (none) = true := by decide +kernel
theorem ks1058_0 : aseg kS krf kB [kE1057, kE1015] (ksp []) kE1058 [kC1058_0] 30000 (some kC1058_0) = true := by decide +kernel
theorem kok1058 : aOK kS krf kB kE1058 := aOK_of (kal1 kok1057 (kal1 kok1015 kal0)) (kcl1 ks1058_0 kcl0) ks1058
/-- ColdShod$LawText.readLevel(LColdShod$LawCode;II)Z -/
def kE1059 : aE := (65, 42, ([], [], 0, [some (.inr [40]), some (.inr [17]), some (.inl (.inl (.inr (.ofNat 1)))), some (.inl (.inl (.inr (.ofNat 1)))), none, none, none], []), ([], none), ([(.ofNat 0, .ofNat 1)], [], some (.inl (.inl (.inl (0, .ofNat 0)))), ([], [])), ([(17, 0), (17, 2), (40, 2)], [18]))
def kC1059_0 : aC := (([(.ofNat 0, .ofNat 120)], [], 42, [some (.inr [40]), some (.inr [17]), some (.inl (.inl (.inr (.ofNat 1)))), some (.inl (.inl (.inr (.ofNat 1)))), some (.inl (.inl (.inr (.ofNat 120)))), some (.inl (.inl (.inl (0, .ofNat 0)))), none], []), ([], []), (120, [(-1, 0)]))
theorem ks1059 : aseg kS krf kB [kE1058, kE1015] (ksp []) kE1059 [kC1059_0] 30000 (none) = true := by decide +kernel
theorem ks1059_0 : aseg kS krf kB [kE1058, kE1015] (ksp []) kE1059 [kC1059_0] 30000 (some kC1059_0) = true := by decide +kernel
theorem kok1059 : aOK kS krf kB kE1059 := aOK_of (kal1 kok1058 (kal1 kok1015 kal0)) (kcl1 ks1059_0 kcl0) ks1059
/-- ColdShod$LawText.readLevel(LColdShod$LawCode;II)Z -/
def kE1060 : aE := (65, 43, ([], [], 0, [some (.inr [40]), some (.inr [17]), some (.inl (.inl (.inr (.ofNat 0)))), some (.inl (.inl (.inr (.ofNat 1)))), none, none, none], []), ([], none), ([(.ofNat 0, .ofNat 1)], [], some (.inl (.inl (.inl (0, .ofNat 0)))), ([], [])), ([(17, 0), (17, 2), (40, 2)], [18]))
def kC1060_0 : aC := (([(.ofNat 0, .ofNat 120)], [], 42, [some (.inr [40]), some (.inr [17]), some (.inl (.inl (.inr (.ofNat 0)))), some (.inl (.inl (.inr (.ofNat 1)))), some (.inl (.inl (.inr (.ofNat 120)))), some (.inl (.inl (.inl (0, .ofNat 0)))), none], []), ([], []), (120, [(-1, 0)]))
theorem ks1060 : aseg kS krf kB [kE1059, kE1015] (ksp []) kE1060 [kC1060_0] 30000 (none) = true := by decide +kernel
theorem ks1060_0 : aseg kS krf kB [kE1059, kE1015] (ksp []) kE1060 [kC1060_0] 30000 (some kC1060_0) = true := by decide +kernel
theorem kok1060 : aOK kS krf kB kE1060 := aOK_of (kal1 kok1059 (kal1 kok1015 kal0)) (kcl1 ks1060_0 kcl0) ks1060
/-- ColdShod$LawText.readOperand(LColdShod$LawCode;I)Z -/
def kE1061 : aE := (66, 44, ([], [], 0, [some (.inr [40]), some (.inr [17]), some (.inl (.inl (.inr (.ofNat 0)))), none, none], []), ([], none), ([(.ofNat 0, .ofNat 1)], [], some (.inl (.inl (.inl (0, .ofNat 0)))), ([], [])), ([(17, 0), (17, 2), (40, 2)], [18]))
def kC1061_0 : aC := (([(.ofNat 33, .ofNat 45), (.ofNat 0, .ofNat 119), (.ofNat 1, .ofNat 120)], [(40, 2, .inl (1, .ofNat 0)), (40, 1, .inl (2, .ofNat 0))], 65, [some (.inr [40]), some (.inr [17]), some (.inl (.inl (.inr (.ofNat 0)))), some (.inl (.inl (.inl (0, .ofNat 0)))), some (.inl (.inl (.inr (.negSucc 0))))], []), ([], []), (0, []))
theorem ks1061 : aseg kS krf kB [kE1016, kE1017, kE1060, kE1025, kE1054, kE1015] (ksp []) kE1061 [kC1061_0] 30000 (none) = true := by decide +kernel
theorem ks1061_0 : aseg kS krf kB [kE1016, kE1017, kE1060, kE1025, kE1054, kE1015] (ksp []) kE1061 [kC1061_0] 30000 (some kC1061_0) = true := by decide +kernel
theorem kok1061 : aOK kS krf kB kE1061 := aOK_of (kal1 kok1016 (kal1 kok1017 (kal1 kok1060 (kal1 kok1025 (kal1 kok1054 (kal1 kok1015 kal0)))))) (kcl1 ks1061_0 kcl0) ks1061
/-- ColdShod$LawText.readLevel(LColdShod$LawCode;II)Z -/
def kE1062 : aE := (65, 45, ([], [], 0, [some (.inr [40]), some (.inr [17]), some (.inl (.inl (.inr (.ofNat 5)))), some (.inl (.inl (.inr (.ofNat 0)))), none, none, none], []), ([], none), ([(.ofNat 0, .ofNat 1)], [], some (.inl (.inl (.inl (0, .ofNat 0)))), ([], [])), ([(17, 0), (17, 2), (40, 2)], [18]))
theorem ks1062 : aseg kS krf kB [kE1061] (ksp []) kE1062 [] 30000 (none) = true := by decide +kernel
theorem kok1062 : aOK kS krf kB kE1062 := aOK_of (kal1 kok1061 kal0) kcl0 ks1062
/-- ColdShod$LawText.readLevel(LColdShod$LawCode;II)Z -/
def kE1063 : aE := (65, 46, ([], [], 0, [some (.inr [40]), some (.inr [17]), some (.inl (.inl (.inr (.ofNat 4)))), some (.inl (.inl (.inr (.ofNat 0)))), none, none, none], []), ([], none), ([(.ofNat 0, .ofNat 1)], [], some (.inl (.inl (.inl (0, .ofNat 0)))), ([], [])), ([(17, 0), (17, 2), (40, 2)], [18]))
def kC1063_0 : aC := (([(.ofNat 0, .ofNat 120)], [], 42, [some (.inr [40]), some (.inr [17]), some (.inl (.inl (.inr (.ofNat 4)))), some (.inl (.inl (.inr (.ofNat 0)))), some (.inl (.inl (.inr (.ofNat 120)))), some (.inl (.inl (.inl (0, .ofNat 0)))), none], []), ([], []), (120, [(-1, 0)]))
theorem ks1063 : aseg kS krf kB [kE1062, kE1015] (ksp []) kE1063 [kC1063_0] 30000 (none) = true := by decide +kernel
theorem ks1063_0 : aseg kS krf kB [kE1062, kE1015] (ksp []) kE1063 [kC1063_0] 30000 (some kC1063_0) = true := by decide +kernel
theorem kok1063 : aOK kS krf kB kE1063 := aOK_of (kal1 kok1062 (kal1 kok1015 kal0)) (kcl1 ks1063_0 kcl0) ks1063
/-- ColdShod$LawText.readLevel(LColdShod$LawCode;II)Z -/
def kE1064 : aE := (65, 47, ([], [], 0, [some (.inr [40]), some (.inr [17]), some (.inl (.inl (.inr (.ofNat 3)))), some (.inl (.inl (.inr (.ofNat 0)))), none, none, none], []), ([], none), ([(.ofNat 0, .ofNat 1)], [], some (.inl (.inl (.inl (0, .ofNat 0)))), ([], [])), ([(17, 0), (17, 2), (40, 2)], [18]))
def kC1064_0 : aC := (([(.ofNat 0, .ofNat 120)], [], 42, [some (.inr [40]), some (.inr [17]), some (.inl (.inl (.inr (.ofNat 3)))), some (.inl (.inl (.inr (.ofNat 0)))), some (.inl (.inl (.inr (.ofNat 120)))), some (.inl (.inl (.inl (0, .ofNat 0)))), none], []), ([], []), (120, [(-1, 0)]))
theorem ks1064 : aseg kS krf kB [kE1063, kE1015] (ksp []) kE1064 [kC1064_0] 30000 (none) = true := by decide +kernel
theorem ks1064_0 : aseg kS krf kB [kE1063, kE1015] (ksp []) kE1064 [kC1064_0] 30000 (some kC1064_0) = true := by decide +kernel
theorem kok1064 : aOK kS krf kB kE1064 := aOK_of (kal1 kok1063 (kal1 kok1015 kal0)) (kcl1 ks1064_0 kcl0) ks1064
/-- ColdShod$LawText.readLevel(LColdShod$LawCode;II)Z -/
def kE1065 : aE := (65, 48, ([], [], 0, [some (.inr [40]), some (.inr [17]), some (.inl (.inl (.inr (.ofNat 2)))), some (.inl (.inl (.inr (.ofNat 0)))), none, none, none], []), ([], none), ([(.ofNat 0, .ofNat 1)], [], some (.inl (.inl (.inl (0, .ofNat 0)))), ([], [])), ([(17, 0), (17, 2), (40, 2)], [18]))
def kC1065_0 : aC := (([(.ofNat 0, .ofNat 1)], [], 42, [some (.inr [40]), some (.inr [17]), some (.inl (.inl (.inr (.ofNat 2)))), some (.inl (.inl (.inr (.ofNat 0)))), some (.inl (.inl (.inr (.ofNat 1)))), some (.inl (.inl (.inl (0, .ofNat 0)))), none], []), ([], []), (1, [(-1, 0)]))
theorem ks1065 : aseg kS krf kB [kE1064, kE1015] (ksp []) kE1065 [kC1065_0] 30000 (none) = true := by decide +kernel
theorem ks1065_0 : aseg kS krf kB [kE1064, kE1015] (ksp []) kE1065 [kC1065_0] 30000 (some kC1065_0) = true := by decide +kernel
theorem kok1065 : aOK kS krf kB kE1065 := aOK_of (kal1 kok1064 (kal1 kok1015 kal0)) (kcl1 ks1065_0 kcl0) ks1065
