/-! ENTRIES and their checks: printed by a program (wip/ai). -/
/-- ColdShod.wears(II)I -/
def kE987 : aE := (102, 3, ([(.negSucc 2147483647, .ofNat 2147483647), (.negSucc 2147483647, .ofNat 2147483647)], [], 0, [some (.inr [6]), some (.inl (.inl (.inl (0, .ofNat 0)))), some (.inl (.inl (.inl (1, .ofNat 0))))], []), ([], none), ([(.negSucc 0, .ofNat 9)], [], some (.inl (.inl (.inl (2, .ofNat 0)))), ([], [])), ([(13, 0), (13, 1), (13, 2), (13, 3), (13, 4), (13, 5)], [16, 19]))
theorem ks987 : aseg kS krf kB [kE39] (ksp [(23, 0, 1, -1000, 1000, 0)]) kE987 [] 30000 (none) = true := by decide +kernel
theorem kok987 : aOK kS krf kB kE987 := aOK_of (kal1 kok39 kal0) kcl0 ks987
/-- ColdShodModel.wears(II)I -/
def kE988 : aE := (181, 45, ([(.negSucc 2147483647, .ofNat 2147483647), (.negSucc 2147483647, .ofNat 2147483647)], [], 0, [some (.inr [102]), some (.inl (.inl (.inl (0, .ofNat 0)))), some (.inl (.inl (.inl (1, .ofNat 0))))], []), ([], none), ([(.negSucc 0, .ofNat 9)], [], some (.inl (.inl (.inl (2, .ofNat 0)))), ([], [])), ([(102, 15), (102, 16), (102, 17), (102, 18), (102, 19), (111, 0), (111, 1), (111, 2), (111, 3), (111, 4), (111, 5)], [112]))
theorem ks988 : aseg kS krf kB [kE42, kE85] (ksp []) kE988 [] 30000 (none) = true := by decide +kernel
theorem kok988 : aOK kS krf kB kE988 := aOK_of (kal1 kok42 (kal1 kok85 kal0)) kcl0 ks988
/-- ColdShod$LawText.readNumber(LColdShod$LawCode;)Z -/
def kE989 : aE := (67, 1, ([], [], 0, [some (.inr [40]), some (.inr [17]), none, none], []), ([], none), ([(.ofNat 1, .ofNat 1)], [], some (.inl (.inl (.inl (0, .ofNat 0)))), ([], [])), ([(17, 2), (40, 2)], [18]))
def kC989_0 : aC := (([(.negSucc 2147483647, .ofNat 2147483647), (.ofNat 0, .ofNat 4)], [], 4, [some (.inr [40]), some (.inr [17]), some (.inl (.inl (.inl (0, .ofNat 0)))), some (.inl (.inl (.inl (1, .ofNat 0))))], []), ([], []), (4, [(-1, 1)]))
theorem ks989 : aseg kS krf kB [] (ksp []) kE989 [kC989_0] 30000 (none) = true := by decide +kernel
theorem ks989_0 : aseg kS krf kB [] (ksp []) kE989 [kC989_0] 30000 (some kC989_0) = true := by decide +kernel
theorem kok989 : aOK kS krf kB kE989 := aOK_of kal0 (kcl1 ks989_0 kcl0) ks989
/-- ColdShod$LawText.readOperand(LColdShod$LawCode;I)Z -/
def kE990 : aE := (66, 2, ([], [], 0, [some (.inr [40]), some (.inr [17]), some (.inl (.inl (.inr (.ofNat 6)))), none, none], []), ([], none), ([(.ofNat 0, .ofNat 1)], [], some (.inl (.inl (.inl (0, .ofNat 0)))), ([], [])), ([(17, 0), (17, 2), (40, 2)], [18]))
theorem ks990 : aseg kS krf kB [kE989] (ksp []) kE990 [] 30000 (none) = true := by decide +kernel
theorem kok990 : aOK kS krf kB kE990 := aOK_of (kal1 kok989 kal0) kcl0 ks990
/-- ColdShod$LawText.readLevel(LColdShod$LawCode;II)Z -/
def kE991 : aE := (65, 3, ([], [], 0, [some (.inr [40]), some (.inr [17]), some (.inl (.inl (.inr (.ofNat 5)))), some (.inl (.inl (.inr (.ofNat 6)))), none, none, none], []), ([], none), ([(.ofNat 0, .ofNat 1)], [], some (.inl (.inl (.inl (0, .ofNat 0)))), ([], [])), ([(17, 0), (17, 2), (40, 2)], [18]))
theorem ks991 : aseg kS krf kB [kE990] (ksp []) kE991 [] 30000 (none) = true := by decide +kernel
theorem kok991 : aOK kS krf kB kE991 := aOK_of (kal1 kok990 kal0) kcl0 ks991
/-- ColdShod$LawText.readLevel(LColdShod$LawCode;II)Z -/
def kE992 : aE := (65, 4, ([], [], 0, [some (.inr [40]), some (.inr [17]), some (.inl (.inl (.inr (.ofNat 4)))), some (.inl (.inl (.inr (.ofNat 6)))), none, none, none], []), ([], none), ([(.ofNat 0, .ofNat 1)], [], some (.inl (.inl (.inl (0, .ofNat 0)))), ([], [])), ([(17, 0), (17, 2), (40, 2)], [18]))
def kC992_0 : aC := (([(.ofNat 0, .ofNat 120)], [], 42, [some (.inr [40]), some (.inr [17]), some (.inl (.inl (.inr (.ofNat 4)))), some (.inl (.inl (.inr (.ofNat 6)))), some (.inl (.inl (.inr (.ofNat 120)))), some (.inl (.inl (.inl (0, .ofNat 0)))), none], []), ([], []), (120, [(-1, 0)]))
theorem ks992 : aseg kS krf kB [kE991] (ksp []) kE992 [kC992_0] 30000 (none) = true := by decide +kernel
theorem ks992_0 : aseg kS krf kB [kE991] (ksp []) kE992 [kC992_0] 30000 (some kC992_0) = true := by decide +kernel
theorem kok992 : aOK kS krf kB kE992 := aOK_of (kal1 kok991 kal0) (kcl1 ks992_0 kcl0) ks992
/-- ColdShod$LawText.readLevel(LColdShod$LawCode;II)Z -/
def kE993 : aE := (65, 5, ([], [], 0, [some (.inr [40]), some (.inr [17]), some (.inl (.inl (.inr (.ofNat 3)))), some (.inl (.inl (.inr (.ofNat 6)))), none, none, none], []), ([], none), ([(.ofNat 0, .ofNat 1)], [], some (.inl (.inl (.inl (0, .ofNat 0)))), ([], [])), ([(17, 0), (17, 2), (40, 2)], [18]))
def kC993_0 : aC := (([(.ofNat 0, .ofNat 120)], [], 42, [some (.inr [40]), some (.inr [17]), some (.inl (.inl (.inr (.ofNat 3)))), some (.inl (.inl (.inr (.ofNat 6)))), some (.inl (.inl (.inr (.ofNat 120)))), some (.inl (.inl (.inl (0, .ofNat 0)))), none], []), ([], []), (120, [(-1, 0)]))
theorem ks993 : aseg kS krf kB [kE992] (ksp []) kE993 [kC993_0] 30000 (none) = true := by decide +kernel
theorem ks993_0 : aseg kS krf kB [kE992] (ksp []) kE993 [kC993_0] 30000 (some kC993_0) = true := by decide +kernel
theorem kok993 : aOK kS krf kB kE993 := aOK_of (kal1 kok992 kal0) (kcl1 ks993_0 kcl0) ks993
/-- ColdShod$LawText.readLevel(LColdShod$LawCode;II)Z -/
def kE994 : aE := (65, 6, ([], [], 0, [some (.inr [40]), some (.inr [17]), some (.inl (.inl (.inr (.ofNat 2)))), some (.inl (.inl (.inr (.ofNat 6)))), none, none, none], []), ([], none), ([(.ofNat 0, .ofNat 1)], [], some (.inl (.inl (.inl (0, .ofNat 0)))), ([], [])), ([(17, 0), (17, 2), (40, 2)], [18]))
def kC994_0 : aC := (([(.ofNat 0, .ofNat 1)], [], 42, [some (.inr [40]), some (.inr [17]), some (.inl (.inl (.inr (.ofNat 2)))), some (.inl (.inl (.inr (.ofNat 6)))), some (.inl (.inl (.inr (.ofNat 1)))), some (.inl (.inl (.inl (0, .ofNat 0)))), none], []), ([], []), (1, [(-1, 0)]))
theorem ks994 : aseg kS krf kB [kE993] (ksp []) kE994 [kC994_0] 30000 (none) = true := by decide +kernel
theorem ks994_0 : aseg kS krf kB [kE993] (ksp []) kE994 [kC994_0] 30000 (some kC994_0) = true := by decide +kernel
theorem kok994 : aOK kS krf kB kE994 := aOK_of (kal1 kok993 kal0) (kcl1 ks994_0 kcl0) ks994
/-- ColdShod$LawText.readLevel(LColdShod$LawCode;II)Z -/
def kE995 : aE := (65, 7, ([], [], 0, [some (.inr [40]), some (.inr [17]), some (.inl (.inl (.inr (.ofNat 1)))), some (.inl (.inl (.inr (.ofNat 6)))), none, none, none], []), ([], none), ([(.ofNat 0, .ofNat 1)], [], some (.inl (.inl (.inl (0, .ofNat 0)))), ([], [])), ([(17, 0), (17, 2), (40, 2)], [18]))
def kC995_0 : aC := (([(.ofNat 0, .ofNat 120)], [], 42, [some (.inr [40]), some (.inr [17]), some (.inl (.inl (.inr (.ofNat 1)))), some (.inl (.inl (.inr (.ofNat 6)))), some (.inl (.inl (.inr (.ofNat 120)))), some (.inl (.inl (.inl (0, .ofNat 0)))), none], []), ([], []), (120, [(-1, 0)]))
theorem ks995 : aseg kS krf kB [kE994] (ksp []) kE995 [kC995_0] 30000 (none) = true := by decide +kernel
theorem ks995_0 : aseg kS krf kB [kE994] (ksp []) kE995 [kC995_0] 30000 (some kC995_0) = true := by decide +kernel
theorem kok995 : aOK kS krf kB kE995 := aOK_of (kal1 kok994 kal0) (kcl1 ks995_0 kcl0) ks995
/-- ColdShod$LawText.readLevel(LColdShod$LawCode;II)Z -/
def kE996 : aE := (65, 8, ([], [], 0, [some (.inr [40]), some (.inr [17]), some (.inl (.inl (.inr (.ofNat 0)))), some (.inl (.inl (.inr (.ofNat 6)))), none, none, none], []), ([], none), ([(.ofNat 0, .ofNat 1)], [], some (.inl (.inl (.inl (0, .ofNat 0)))), ([], [])), ([(17, 0), (17, 2), (40, 2)], [18]))
def kC996_0 : aC := (([(.ofNat 0, .ofNat 120)], [], 42, [some (.inr [40]), some (.inr [17]), some (.inl (.inl (.inr (.ofNat 0)))), some (.inl (.inl (.inr (.ofNat 6)))), some (.inl (.inl (.inr (.ofNat 120)))), some (.inl (.inl (.inl (0, .ofNat 0)))), none], []), ([], []), (120, [(-1, 0)]))
theorem ks996 : aseg kS krf kB [kE995] (ksp []) kE996 [kC996_0] 30000 (none) = true := by decide +kernel
theorem ks996_0 : aseg kS krf kB [kE995] (ksp []) kE996 [kC996_0] 30000 (some kC996_0) = true := by decide +kernel
theorem kok996 : aOK kS krf kB kE996 := aOK_of (kal1 kok995 kal0) (kcl1 ks996_0 kcl0) ks996
/-- ColdShod$LawText.readOperand(LColdShod$LawCode;I)Z -/
def kE997 : aE := (66, 9, ([], [], 0, [some (.inr [40]), some (.inr [17]), some (.inl (.inl (.inr (.ofNat 5)))), none, none], []), ([], none), ([(.ofNat 0, .ofNat 1)], [], some (.inl (.inl (.inl (0, .ofNat 0)))), ([], [])), ([(17, 0), (17, 2), (40, 2)], [18]))
theorem ks997 : aseg kS krf kB [kE989, kE990, kE996] (ksp []) kE997 [] 30000 (none) = true := by decide +kernel
theorem kok997 : aOK kS krf kB kE997 := aOK_of (kal1 kok989 (kal1 kok990 (kal1 kok996 kal0))) kcl0 ks997
/-- ColdShod$LawText.readLevel(LColdShod$LawCode;II)Z -/
def kE998 : aE := (65, 10, ([], [], 0, [some (.inr [40]), some (.inr [17]), some (.inl (.inl (.inr (.ofNat 5)))), some (.inl (.inl (.inr (.ofNat 5)))), none, none, none], []), ([], none), ([(.ofNat 0, .ofNat 1)], [], some (.inl (.inl (.inl (0, .ofNat 0)))), ([], [])), ([(17, 0), (17, 2), (40, 2)], [18]))
theorem ks998 : aseg kS krf kB [kE997] (ksp []) kE998 [] 30000 (none) = true := by decide +kernel
theorem kok998 : aOK kS krf kB kE998 := aOK_of (kal1 kok997 kal0) kcl0 ks998
/-- ColdShod$LawText.readLevel(LColdShod$LawCode;II)Z -/
def kE999 : aE := (65, 11, ([], [], 0, [some (.inr [40]), some (.inr [17]), some (.inl (.inl (.inr (.ofNat 4)))), some (.inl (.inl (.inr (.ofNat 5)))), none, none, none], []), ([], none), ([(.ofNat 0, .ofNat 1)], [], some (.inl (.inl (.inl (0, .ofNat 0)))), ([], [])), ([(17, 0), (17, 2), (40, 2)], [18]))
def kC999_0 : aC := (([(.ofNat 0, .ofNat 120)], [], 42, [some (.inr [40]), some (.inr [17]), some (.inl (.inl (.inr (.ofNat 4)))), some (.inl (.inl (.inr (.ofNat 5)))), some (.inl (.inl (.inr (.ofNat 120)))), some (.inl (.inl (.inl (0, .ofNat 0)))), none], []), ([], []), (120, [(-1, 0)]))
theorem ks999 : aseg kS krf kB [kE998] (ksp []) kE999 [kC999_0] 30000 (none) = true := by decide +kernel
theorem ks999_0 : aseg kS krf kB [kE998] (ksp []) kE999 [kC999_0] 30000 (some kC999_0) = true := by decide +kernel
theorem kok999 : aOK kS krf kB kE999 := aOK_of (kal1 kok998 kal0) (kcl1 ks999_0 kcl0) ks999
/-- ColdShod$LawText.readLevel(LColdShod$LawCode;II)Z -/
def kE1000 : aE := (65, 12, ([], [], 0, [some (.inr [40]), some (.inr [17]), some (.inl (.inl (.inr (.ofNat 3)))), some (.inl (.inl (.inr (.ofNat 5)))), none, none, none], []), ([], none), ([(.ofNat 0, .ofNat 1)], [], some (.inl (.inl (.inl (0, .ofNat 0)))), ([], [])), ([(17, 0), (17, 2), (40, 2)], [18]))
def kC1000_0 : aC := (([(.ofNat 0, .ofNat 120)], [], 42, [some (.inr [40]), some (.inr [17]), some (.inl (.inl (.inr (.ofNat 3)))), some (.inl (.inl (.inr (.ofNat 5)))), some (.inl (.inl (.inr (.ofNat 120)))), some (.inl (.inl (.inl (0, .ofNat 0)))), none], []), ([], []), (120, [(-1, 0)]))
theorem ks1000 : aseg kS krf kB [kE999] (ksp []) kE1000 [kC1000_0] 30000 (none) = true := by decide +kernel
theorem ks1000_0 : aseg kS krf kB [kE999] (ksp []) kE1000 [kC1000_0] 30000 (some kC1000_0) = true := by decide +kernel
theorem kok1000 : aOK kS krf kB kE1000 := aOK_of (kal1 kok999 kal0) (kcl1 ks1000_0 kcl0) ks1000
/-- ColdShod$LawText.readLevel(LColdShod$LawCode;II)Z -/
def kE1001 : aE := (65, 13, ([], [], 0, [some (.inr [40]), some (.inr [17]), some (.inl (.inl (.inr (.ofNat 2)))), some (.inl (.inl (.inr (.ofNat 5)))), none, none, none], []), ([], none), ([(.ofNat 0, .ofNat 1)], [], some (.inl (.inl (.inl (0, .ofNat 0)))), ([], [])), ([(17, 0), (17, 2), (40, 2)], [18]))
def kC1001_0 : aC := (([(.ofNat 0, .ofNat 1)], [], 42, [some (.inr [40]), some (.inr [17]), some (.inl (.inl (.inr (.ofNat 2)))), some (.inl (.inl (.inr (.ofNat 5)))), some (.inl (.inl (.inr (.ofNat 1)))), some (.inl (.inl (.inl (0, .ofNat 0)))), none], []), ([], []), (1, [(-1, 0)]))
theorem ks1001 : aseg kS krf kB [kE1000] (ksp []) kE1001 [kC1001_0] 30000 (none) = true := by decide +kernel
theorem ks1001_0 : aseg kS krf kB [kE1000] (ksp []) kE1001 [kC1001_0] 30000 (some kC1001_0) = true := by decide +kernel
theorem kok1001 : aOK kS krf kB kE1001 := aOK_of (kal1 kok1000 kal0) (kcl1 ks1001_0 kcl0) ks1001
/-- ColdShod$LawText.readLevel(LColdShod$LawCode;II)Z -/
def kE1002 : aE := (65, 14, ([], [], 0, [some (.inr [40]), some (.inr [17]), some (.inl (.inl (.inr (.ofNat 1)))), some (.inl (.inl (.inr (.ofNat 5)))), none, none, none], []), ([], none), ([(.ofNat 0, .ofNat 1)], [], some (.inl (.inl (.inl (0, .ofNat 0)))), ([], [])), ([(17, 0), (17, 2), (40, 2)], [18]))
def kC1002_0 : aC := (([(.ofNat 0, .ofNat 120)], [], 42, [some (.inr [40]), some (.inr [17]), some (.inl (.inl (.inr (.ofNat 1)))), some (.inl (.inl (.inr (.ofNat 5)))), some (.inl (.inl (.inr (.ofNat 120)))), some (.inl (.inl (.inl (0, .ofNat 0)))), none], []), ([], []), (120, [(-1, 0)]))
theorem ks1002 : aseg kS krf kB [kE1001] (ksp []) kE1002 [kC1002_0] 30000 (none) = true := by decide +kernel
theorem ks1002_0 : aseg kS krf kB [kE1001] (ksp []) kE1002 [kC1002_0] 30000 (some kC1002_0) = true := by decide +kernel
theorem kok1002 : aOK kS krf kB kE1002 := aOK_of (kal1 kok1001 kal0) (kcl1 ks1002_0 kcl0) ks1002
/-- ColdShod$LawText.readLevel(LColdShod$LawCode;II)Z -/
def kE1003 : aE := (65, 15, ([], [], 0, [some (.inr [40]), some (.inr [17]), some (.inl (.inl (.inr (.ofNat 0)))), some (.inl (.inl (.inr (.ofNat 5)))), none, none, none], []), ([], none), ([(.ofNat 0, .ofNat 1)], [], some (.inl (.inl (.inl (0, .ofNat 0)))), ([], [])), ([(17, 0), (17, 2), (40, 2)], [18]))
def kC1003_0 : aC := (([(.ofNat 0, .ofNat 120)], [], 42, [some (.inr [40]), some (.inr [17]), some (.inl (.inl (.inr (.ofNat 0)))), some (.inl (.inl (.inr (.ofNat 5)))), some (.inl (.inl (.inr (.ofNat 120)))), some (.inl (.inl (.inl (0, .ofNat 0)))), none], []), ([], []), (120, [(-1, 0)]))
theorem ks1003 : aseg kS krf kB [kE1002] (ksp []) kE1003 [kC1003_0] 30000 (none) = true := by decide +kernel
theorem ks1003_0 : aseg kS krf kB [kE1002] (ksp []) kE1003 [kC1003_0] 30000 (some kC1003_0) = true := by decide +kernel
theorem kok1003 : aOK kS krf kB kE1003 := aOK_of (kal1 kok1002 kal0) (kcl1 ks1003_0 kcl0) ks1003
/-- ColdShod$LawText.readOperand(LColdShod$LawCode;I)Z -/
def kE1004 : aE := (66, 16, ([], [], 0, [some (.inr [40]), some (.inr [17]), some (.inl (.inl (.inr (.ofNat 4)))), none, none], []), ([], none), ([(.ofNat 0, .ofNat 1)], [], some (.inl (.inl (.inl (0, .ofNat 0)))), ([], [])), ([(17, 0), (17, 2), (40, 2)], [18]))
theorem ks1004 : aseg kS krf kB [kE989, kE997, kE1003] (ksp []) kE1004 [] 30000 (none) = true := by decide +kernel
theorem kok1004 : aOK kS krf kB kE1004 := aOK_of (kal1 kok989 (kal1 kok997 (kal1 kok1003 kal0))) kcl0 ks1004
/-- ColdShod$LawText.readLevel(LColdShod$LawCode;II)Z -/
def kE1005 : aE := (65, 17, ([], [], 0, [some (.inr [40]), some (.inr [17]), some (.inl (.inl (.inr (.ofNat 5)))), some (.inl (.inl (.inr (.ofNat 4)))), none, none, none], []), ([], none), ([(.ofNat 0, .ofNat 1)], [], some (.inl (.inl (.inl (0, .ofNat 0)))), ([], [])), ([(17, 0), (17, 2), (40, 2)], [18]))
theorem ks1005 : aseg kS krf kB [kE1004] (ksp []) kE1005 [] 30000 (none) = true := by decide +kernel
theorem kok1005 : aOK kS krf kB kE1005 := aOK_of (kal1 kok1004 kal0) kcl0 ks1005
/-- ColdShod$LawText.readLevel(LColdShod$LawCode;II)Z -/
def kE1006 : aE := (65, 18, ([], [], 0, [some (.inr [40]), some (.inr [17]), some (.inl (.inl (.inr (.ofNat 4)))), some (.inl (.inl (.inr (.ofNat 4)))), none, none, none], []), ([], none), ([(.ofNat 0, .ofNat 1)], [], some (.inl (.inl (.inl (0, .ofNat 0)))), ([], [])), ([(17, 0), (17, 2), (40, 2)], [18]))
def kC1006_0 : aC := (([(.ofNat 0, .ofNat 120)], [], 42, [some (.inr [40]), some (.inr [17]), some (.inl (.inl (.inr (.ofNat 4)))), some (.inl (.inl (.inr (.ofNat 4)))), some (.inl (.inl (.inr (.ofNat 120)))), some (.inl (.inl (.inl (0, .ofNat 0)))), none], []), ([], []), (120, [(-1, 0)]))
theorem ks1006 : aseg kS krf kB [kE1005] (ksp []) kE1006 [kC1006_0] 30000 (none) = true := by decide +kernel
theorem ks1006_0 : aseg kS krf kB [kE1005] (ksp []) kE1006 [kC1006_0] 30000 (some kC1006_0) = true := by decide +kernel
theorem kok1006 : aOK kS krf kB kE1006 := aOK_of (kal1 kok1005 kal0) (kcl1 ks1006_0 kcl0) ks1006
/-- ColdShod$LawText.readLevel(LColdShod$LawCode;II)Z -/
def kE1007 : aE := (65, 19, ([], [], 0, [some (.inr [40]), some (.inr [17]), some (.inl (.inl (.inr (.ofNat 3)))), some (.inl (.inl (.inr (.ofNat 4)))), none, none, none], []), ([], none), ([(.ofNat 0, .ofNat 1)], [], some (.inl (.inl (.inl (0, .ofNat 0)))), ([], [])), ([(17, 0), (17, 2), (40, 2)], [18]))
def kC1007_0 : aC := (([(.ofNat 0, .ofNat 120)], [], 42, [some (.inr [40]), some (.inr [17]), some (.inl (.inl (.inr (.ofNat 3)))), some (.inl (.inl (.inr (.ofNat 4)))), some (.inl (.inl (.inr (.ofNat 120)))), some (.inl (.inl (.inl (0, .ofNat 0)))), none], []), ([], []), (120, [(-1, 0)]))
theorem ks1007 : aseg kS krf kB [kE1006] (ksp []) kE1007 [kC1007_0] 30000 (none) = true := by decide +kernel
theorem ks1007_0 : aseg kS krf kB [kE1006] (ksp []) kE1007 [kC1007_0] 30000 (some kC1007_0) = true := by decide +kernel
theorem kok1007 : aOK kS krf kB kE1007 := aOK_of (kal1 kok1006 kal0) (kcl1 ks1007_0 kcl0) ks1007
/-- ColdShod$LawText.readLevel(LColdShod$LawCode;II)Z -/
def kE1008 : aE := (65, 20, ([], [], 0, [some (.inr [40]), some (.inr [17]), some (.inl (.inl (.inr (.ofNat 2)))), some (.inl (.inl (.inr (.ofNat 4)))), none, none, none], []), ([], none), ([(.ofNat 0, .ofNat 1)], [], some (.inl (.inl (.inl (0, .ofNat 0)))), ([], [])), ([(17, 0), (17, 2), (40, 2)], [18]))
def kC1008_0 : aC := (([(.ofNat 0, .ofNat 1)], [], 42, [some (.inr [40]), some (.inr [17]), some (.inl (.inl (.inr (.ofNat 2)))), some (.inl (.inl (.inr (.ofNat 4)))), some (.inl (.inl (.inr (.ofNat 1)))), some (.inl (.inl (.inl (0, .ofNat 0)))), none], []), ([], []), (1, [(-1, 0)]))
theorem ks1008 : aseg kS krf kB [kE1007] (ksp []) kE1008 [kC1008_0] 30000 (none) = true := by decide +kernel
theorem ks1008_0 : aseg kS krf kB [kE1007] (ksp []) kE1008 [kC1008_0] 30000 (some kC1008_0) = true := by decide +kernel
theorem kok1008 : aOK kS krf kB kE1008 := aOK_of (kal1 kok1007 kal0) (kcl1 ks1008_0 kcl0) ks1008
/-- ColdShod$LawText.readLevel(LColdShod$LawCode;II)Z -/
def kE1009 : aE := (65, 21, ([], [], 0, [some (.inr [40]), some (.inr [17]), some (.inl (.inl (.inr (.ofNat 1)))), some (.inl (.inl (.inr (.ofNat 4)))), none, none, none], []), ([], none), ([(.ofNat 0, .ofNat 1)], [], some (.inl (.inl (.inl (0, .ofNat 0)))), ([], [])), ([(17, 0), (17, 2), (40, 2)], [18]))
def kC1009_0 : aC := (([(.ofNat 0, .ofNat 120)], [], 42, [some (.inr [40]), some (.inr [17]), some (.inl (.inl (.inr (.ofNat 1)))), some (.inl (.inl (.inr (.ofNat 4)))), some (.inl (.inl (.inr (.ofNat 120)))), some (.inl (.inl (.inl (0, .ofNat 0)))), none], []), ([], []), (120, [(-1, 0)]))
theorem ks1009 : aseg kS krf kB [kE1008] (ksp []) kE1009 [kC1009_0] 30000 (none) = true := by decide +kernel
theorem ks1009_0 : aseg kS krf kB [kE1008] (ksp []) kE1009 [kC1009_0] 30000 (some kC1009_0) = true := by decide +kernel
theorem kok1009 : aOK kS krf kB kE1009 := aOK_of (kal1 kok1008 kal0) (kcl1 ks1009_0 kcl0) ks1009
/-- ColdShod$LawText.readLevel(LColdShod$LawCode;II)Z -/
def kE1010 : aE := (65, 22, ([], [], 0, [some (.inr [40]), some (.inr [17]), some (.inl (.inl (.inr (.ofNat 0)))), some (.inl (.inl (.inr (.ofNat 4)))), none, none, none], []), ([], none), ([(.ofNat 0, .ofNat 1)], [], some (.inl (.inl (.inl (0, .ofNat 0)))), ([], [])), ([(17, 0), (17, 2), (40, 2)], [18]))
def kC1010_0 : aC := (([(.ofNat 0, .ofNat 120)], [], 42, [some (.inr [40]), some (.inr [17]), some (.inl (.inl (.inr (.ofNat 0)))), some (.inl (.inl (.inr (.ofNat 4)))), some (.inl (.inl (.inr (.ofNat 120)))), some (.inl (.inl (.inl (0, .ofNat 0)))), none], []), ([], []), (120, [(-1, 0)]))
theorem ks1010 : aseg kS krf kB [kE1009] (ksp []) kE1010 [kC1010_0] 30000 (none) = true := by decide +kernel
theorem ks1010_0 : aseg kS krf kB [kE1009] (ksp []) kE1010 [kC1010_0] 30000 (some kC1010_0) = true := by decide +kernel
theorem kok1010 : aOK kS krf kB kE1010 := aOK_of (kal1 kok1009 kal0) (kcl1 ks1010_0 kcl0) ks1010
/-- ColdShod$LawText.readOperand(LColdShod$LawCode;I)Z -/
def kE1011 : aE := (66, 23, ([], [], 0, [some (.inr [40]), some (.inr [17]), some (.inl (.inl (.inr (.ofNat 3)))), none, none], []), ([], none), ([(.ofNat 0, .ofNat 1)], [], some (.inl (.inl (.inl (0, .ofNat 0)))), ([], [])), ([(17, 0), (17, 2), (40, 2)], [18]))
theorem ks1011 : aseg kS krf kB [kE989, kE1004, kE1010] (ksp []) kE1011 [] 30000 (none) = true := by decide +kernel
theorem kok1011 : aOK kS krf kB kE1011 := aOK_of (kal1 kok989 (kal1 kok1004 (kal1 kok1010 kal0))) kcl0 ks1011
/-- ColdShod$LawText.readLevel(LColdShod$LawCode;II)Z -/
def kE1012 : aE := (65, 24, ([], [], 0, [some (.inr [40]), some (.inr [17]), some (.inl (.inl (.inr (.ofNat 5)))), some (.inl (.inl (.inr (.ofNat 3)))), none, none, none], []), ([], none), ([(.ofNat 0, .ofNat 1)], [], some (.inl (.inl (.inl (0, .ofNat 0)))), ([], [])), ([(17, 0), (17, 2), (40, 2)], [18]))
theorem ks1012 : aseg kS krf kB [kE1011] (ksp []) kE1012 [] 30000 (none) = true := by decide +kernel
theorem kok1012 : aOK kS krf kB kE1012 := aOK_of (kal1 kok1011 kal0) kcl0 ks1012
/-- ColdShod$LawText.readLevel(LColdShod$LawCode;II)Z -/
def kE1013 : aE := (65, 25, ([], [], 0, [some (.inr [40]), some (.inr [17]), some (.inl (.inl (.inr (.ofNat 4)))), some (.inl (.inl (.inr (.ofNat 3)))), none, none, none], []), ([], none), ([(.ofNat 0, .ofNat 1)], [], some (.inl (.inl (.inl (0, .ofNat 0)))), ([], [])), ([(17, 0), (17, 2), (40, 2)], [18]))
def kC1013_0 : aC := (([(.ofNat 0, .ofNat 120)], [], 42, [some (.inr [40]), some (.inr [17]), some (.inl (.inl (.inr (.ofNat 4)))), some (.inl (.inl (.inr (.ofNat 3)))), some (.inl (.inl (.inr (.ofNat 120)))), some (.inl (.inl (.inl (0, .ofNat 0)))), none], []), ([], []), (120, [(-1, 0)]))
theorem ks1013 : aseg kS krf kB [kE1012] (ksp []) kE1013 [kC1013_0] 30000 (none) = true := by decide +kernel
theorem ks1013_0 : aseg kS krf kB [kE1012] (ksp []) kE1013 [kC1013_0] 30000 (some kC1013_0) = true := by decide +kernel
theorem kok1013 : aOK kS krf kB kE1013 := aOK_of (kal1 kok1012 kal0) (kcl1 ks1013_0 kcl0) ks1013
/-- ColdShod$LawText.readLevel(LColdShod$LawCode;II)Z -/
def kE1014 : aE := (65, 26, ([], [], 0, [some (.inr [40]), some (.inr [17]), some (.inl (.inl (.inr (.ofNat 3)))), some (.inl (.inl (.inr (.ofNat 3)))), none, none, none], []), ([], none), ([(.ofNat 0, .ofNat 1)], [], some (.inl (.inl (.inl (0, .ofNat 0)))), ([], [])), ([(17, 0), (17, 2), (40, 2)], [18]))
def kC1014_0 : aC := (([(.ofNat 0, .ofNat 120)], [], 42, [some (.inr [40]), some (.inr [17]), some (.inl (.inl (.inr (.ofNat 3)))), some (.inl (.inl (.inr (.ofNat 3)))), some (.inl (.inl (.inr (.ofNat 120)))), some (.inl (.inl (.inl (0, .ofNat 0)))), none], []), ([], []), (120, [(-1, 0)]))
theorem ks1014 : aseg kS krf kB [kE1013] (ksp []) kE1014 [kC1014_0] 30000 (none) = true := by decide +kernel
theorem ks1014_0 : aseg kS krf kB [kE1013] (ksp []) kE1014 [kC1014_0] 30000 (some kC1014_0) = true := by decide +kernel
theorem kok1014 : aOK kS krf kB kE1014 := aOK_of (kal1 kok1013 kal0) (kcl1 ks1014_0 kcl0) ks1014
/-- ColdShod$LawText.readLevel(LColdShod$LawCode;II)Z -/
def kE1015 : aE := (65, 27, ([], [], 0, [some (.inr [40]), some (.inr [17]), some (.inl (.inl (.inr (.ofNat 2)))), some (.inl (.inl (.inr (.ofNat 3)))), none, none, none], []), ([], none), ([(.ofNat 0, .ofNat 1)], [], some (.inl (.inl (.inl (0, .ofNat 0)))), ([], [])), ([(17, 0), (17, 2), (40, 2)], [18]))
def kC1015_0 : aC := (([(.ofNat 0, .ofNat 1)], [], 42, [some (.inr [40]), some (.inr [17]), some (.inl (.inl (.inr (.ofNat 2)))), some (.inl (.inl (.inr (.ofNat 3)))), some (.inl (.inl (.inr (.ofNat 1)))), some (.inl (.inl (.inl (0, .ofNat 0)))), none], []), ([], []), (1, [(-1, 0)]))
theorem ks1015 : aseg kS krf kB [kE1014] (ksp []) kE1015 [kC1015_0] 30000 (none) = true := by decide +kernel
theorem ks1015_0 : aseg kS krf kB [kE1014] (ksp []) kE1015 [kC1015_0] 30000 (some kC1015_0) = true := by decide +kernel
theorem kok1015 : aOK kS krf kB kE1015 := aOK_of (kal1 kok1014 kal0) (kcl1 ks1015_0 kcl0) ks1015
/-- ColdShod$LawText.readLevel(LColdShod$LawCode;II)Z -/
def kE1016 : aE := (65, 28, ([], [], 0, [some (.inr [40]), some (.inr [17]), some (.inl (.inl (.inr (.ofNat 1)))), some (.inl (.inl (.inr (.ofNat 3)))), none, none, none], []), ([], none), ([(.ofNat 0, .ofNat 1)], [], some (.inl (.inl (.inl (0, .ofNat 0)))), ([], [])), ([(17, 0), (17, 2), (40, 2)], [18]))
def kC1016_0 : aC := (([(.ofNat 0, .ofNat 120)], [], 42, [some (.inr [40]), some (.inr [17]), some (.inl (.inl (.inr (.ofNat 1)))), some (.inl (.inl (.inr (.ofNat 3)))), some (.inl (.inl (.inr (.ofNat 120)))), some (.inl (.inl (.inl (0, .ofNat 0)))), none], []), ([], []), (120, [(-1, 0)]))
theorem ks1016 : aseg kS krf kB [kE1015] (ksp []) kE1016 [kC1016_0] 30000 (none) = true := by decide +kernel
theorem ks1016_0 : aseg kS krf kB [kE1015] (ksp []) kE1016 [kC1016_0] 30000 (some kC1016_0) = true := by decide +kernel
theorem kok1016 : aOK kS krf kB kE1016 := aOK_of (kal1 kok1015 kal0) (kcl1 ks1016_0 kcl0) ks1016
/-- ColdShod$LawText.readLevel(LColdShod$LawCode;II)Z -/
def kE1017 : aE := (65, 29, ([], [], 0, [some (.inr [40]), some (.inr [17]), some (.inl (.inl (.inr (.ofNat 0)))), some (.inl (.inl (.inr (.ofNat 3)))), none, none, none], []), ([], none), ([(.ofNat 0, .ofNat 1)], [], some (.inl (.inl (.inl (0, .ofNat 0)))), ([], [])), ([(17, 0), (17, 2), (40, 2)], [18]))
def kC1017_0 : aC := (([(.ofNat 0, .ofNat 120)], [], 42, [some (.inr [40]), some (.inr [17]), some (.inl (.inl (.inr (.ofNat 0)))), some (.inl (.inl (.inr (.ofNat 3)))), some (.inl (.inl (.inr (.ofNat 120)))), some (.inl (.inl (.inl (0, .ofNat 0)))), none], []), ([], []), (120, [(-1, 0)]))
theorem ks1017 : aseg kS krf kB [kE1016] (ksp []) kE1017 [kC1017_0] 30000 (none) = true := by decide +kernel
theorem ks1017_0 : aseg kS krf kB [kE1016] (ksp []) kE1017 [kC1017_0] 30000 (some kC1017_0) = true := by decide +kernel
theorem kok1017 : aOK kS krf kB kE1017 := aOK_of (kal1 kok1016 kal0) (kcl1 ks1017_0 kcl0) ks1017
/-- ColdShod$LawText.readOperand(LColdShod$LawCode;I)Z -/
def kE1018 : aE := (66, 30, ([], [], 0, [some (.inr [40]), some (.inr [17]), some (.inl (.inl (.inr (.ofNat 2)))), none, none], []), ([], none), ([(.ofNat 0, .ofNat 1)], [], some (.inl (.inl (.inl (0, .ofNat 0)))), ([], [])), ([(17, 0), (17, 2), (40, 2)], [18]))
theorem ks1018 : aseg kS krf kB [kE989, kE1011, kE1017] (ksp []) kE1018 [] 30000 (none) = true := by decide +kernel
theorem kok1018 : aOK kS krf kB kE1018 := aOK_of (kal1 kok989 (kal1 kok1011 (kal1 kok1017 kal0))) kcl0 ks1018
/-- ColdShod$LawText.readLevel(LColdShod$LawCode;II)Z -/
def kE1019 : aE := (65, 31, ([], [], 0, [some (.inr [40]), some (.inr [17]), some (.inl (.inl (.inr (.ofNat 5)))), some (.inl (.inl (.inr (.ofNat 2)))), none, none, none], []), ([], none), ([(.ofNat 0, .ofNat 1)], [], some (.inl (.inl (.inl (0, .ofNat 0)))), ([], [])), ([(17, 0), (17, 2), (40, 2)], [18]))
theorem ks1019 : aseg kS krf kB [kE1018] (ksp []) kE1019 [] 30000 (none) = true := by decide +kernel
theorem kok1019 : aOK kS krf kB kE1019 := aOK_of (kal1 kok1018 kal0) kcl0 ks1019
/-- ColdShod$LawText.readLevel(LColdShod$LawCode;II)Z -/
def kE1020 : aE := (65, 32, ([], [], 0, [some (.inr [40]), some (.inr [17]), some (.inl (.inl (.inr (.ofNat 4)))), some (.inl (.inl (.inr (.ofNat 2)))), none, none, none], []), ([], none), ([(.ofNat 0, .ofNat 1)], [], some (.inl (.inl (.inl (0, .ofNat 0)))), ([], [])), ([(17, 0), (17, 2), (40, 2)], [18]))
def kC1020_0 : aC := (([(.ofNat 0, .ofNat 120)], [], 42, [some (.inr [40]), some (.inr [17]), some (.inl (.inl (.inr (.ofNat 4)))), some (.inl (.inl (.inr (.ofNat 2)))), some (.inl (.inl (.inr (.ofNat 120)))), some (.inl (.inl (.inl (0, .ofNat 0)))), none], []), ([], []), (120, [(-1, 0)]))
theorem ks1020 : aseg kS krf kB [kE1019] (ksp []) kE1020 [kC1020_0] 30000 (none) = true := by decide +kernel
theorem ks1020_0 : aseg kS krf kB [kE1019] (ksp []) kE1020 [kC1020_0] 30000 (some kC1020_0) = true := by decide +kernel
theorem kok1020 : aOK kS krf kB kE1020 := aOK_of (kal1 kok1019 kal0) (kcl1 ks1020_0 kcl0) ks1020
/-- ColdShod$LawText.readLevel(LColdShod$LawCode;II)Z -/
def kE1021 : aE := (65, 33, ([], [], 0, [some (.inr [40]), some (.inr [17]), some (.inl (.inl (.inr (.ofNat 3)))), some (.inl (.inl (.inr (.ofNat 2)))), none, none, none], []), ([], none), ([(.ofNat 0, .ofNat 1)], [], some (.inl (.inl (.inl (0, .ofNat 0)))), ([], [])), ([(17, 0), (17, 2), (40, 2)], [18]))
def kC1021_0 : aC := (([(.ofNat 0, .ofNat 120)], [], 42, [some (.inr [40]), some (.inr [17]), some (.inl (.inl (.inr (.ofNat 3)))), some (.inl (.inl (.inr (.ofNat 2)))), some (.inl (.inl (.inr (.ofNat 120)))), some (.inl (.inl (.inl (0, .ofNat 0)))), none], []), ([], []), (120, [(-1, 0)]))
theorem ks1021 : aseg kS krf kB [kE1020] (ksp []) kE1021 [kC1021_0] 30000 (none) = true := by decide +kernel
theorem ks1021_0 : aseg kS krf kB [kE1020] (ksp []) kE1021 [kC1021_0] 30000 (some kC1021_0) = true := by decide +kernel
theorem kok1021 : aOK kS krf kB kE1021 := aOK_of (kal1 kok1020 kal0) (kcl1 ks1021_0 kcl0) ks1021
/-- ColdShod$LawText.readLevel(LColdShod$LawCode;II)Z -/
def kE1022 : aE := (65, 34, ([], [], 0, [some (.inr [40]), some (.inr [17]), some (.inl (.inl (.inr (.ofNat 2)))), some (.inl (.inl (.inr (.ofNat 2)))), none, none, none], []), ([], none), ([(.ofNat 0, .ofNat 1)], [], some (.inl (.inl (.inl (0, .ofNat 0)))), ([], [])), ([(17, 0), (17, 2), (40, 2)], [18]))
def kC1022_0 : aC := (([(.ofNat 0, .ofNat 1)], [], 42, [some (.inr [40]), some (.inr [17]), some (.inl (.inl (.inr (.ofNat 2)))), some (.inl (.inl (.inr (.ofNat 2)))), some (.inl (.inl (.inr (.ofNat 1)))), some (.inl (.inl (.inl (0, .ofNat 0)))), none], []), ([], []), (1, [(-1, 0)]))
theorem ks1022 : aseg kS krf kB [kE1021] (ksp []) kE1022 [kC1022_0] 30000 (none) = true := by decide +kernel
theorem ks1022_0 : aseg kS krf kB [kE1021] (ksp []) kE1022 [kC1022_0] 30000 (some kC1022_0) = true := by decide +kernel
theorem kok1022 : aOK kS krf kB kE1022 := aOK_of (kal1 kok1021 kal0) (kcl1 ks1022_0 kcl0) ks1022
/-- ColdShod$LawText.readLevel(LColdShod$LawCode;II)Z -/
def kE1023 : aE := (65, 35, ([], [], 0, [some (.inr [40]), some (.inr [17]), some (.inl (.inl (.inr (.ofNat 1)))), some (.inl (.inl (.inr (.ofNat 2)))), none, none, none], []), ([], none), ([(.ofNat 0, .ofNat 1)], [], some (.inl (.inl (.inl (0, .ofNat 0)))), ([], [])), ([(17, 0), (17, 2), (40, 2)], [18]))
def kC1023_0 : aC := (([(.ofNat 0, .ofNat 120)], [], 42, [some (.inr [40]), some (.inr [17]), some (.inl (.inl (.inr (.ofNat 1)))), some (.inl (.inl (.inr (.ofNat 2)))), some (.inl (.inl (.inr (.ofNat 120)))), some (.inl (.inl (.inl (0, .ofNat 0)))), none], []), ([], []), (120, [(-1, 0)]))
theorem ks1023 : aseg kS krf kB [kE1022] (ksp []) kE1023 [kC1023_0] 30000 (none) = true := by decide +kernel
theorem ks1023_0 : aseg kS krf kB [kE1022] (ksp []) kE1023 [kC1023_0] 30000 (some kC1023_0) = true := by decide +kernel
theorem kok1023 : aOK kS krf kB kE1023 := aOK_of (kal1 kok1022 kal0) (kcl1 ks1023_0 kcl0) ks1023
/-- ColdShod$LawText.readLevel(LColdShod$LawCode;II)Z -/
def kE1024 : aE := (65, 36, ([], [], 0, [some (.inr [40]), some (.inr [17]), some (.inl (.inl (.inr (.ofNat 0)))), some (.inl (.inl (.inr (.ofNat 2)))), none, none, none], []), ([], none), ([(.ofNat 0, .ofNat 1)], [], some (.inl (.inl (.inl (0, .ofNat 0)))), ([], [])), ([(17, 0), (17, 2), (40, 2)], [18]))
def kC1024_0 : aC := (([(.ofNat 0, .ofNat 120)], [], 42, [some (.inr [40]), some (.inr [17]), some (.inl (.inl (.inr (.ofNat 0)))), some (.inl (.inl (.inr (.ofNat 2)))), some (.inl (.inl (.inr (.ofNat 120)))), some (.inl (.inl (.inl (0, .ofNat 0)))), none], []), ([], []), (120, [(-1, 0)]))
theorem ks1024 : aseg kS krf kB [kE1023] (ksp []) kE1024 [kC1024_0] 30000 (none) = true := by decide +kernel
theorem ks1024_0 : aseg kS krf kB [kE1023] (ksp []) kE1024 [kC1024_0] 30000 (some kC1024_0) = true := by decide +kernel
theorem kok1024 : aOK kS krf kB kE1024 := aOK_of (kal1 kok1023 kal0) (kcl1 ks1024_0 kcl0) ks1024
