/-! ENTRIES and their checks: printed by a program (wip/ai). -/
/-- ColdShod$Journey.allGone(LColdShod$Idea;LColdShod$Country;)Z -/
def kE998 : aE := (49, 5, ([], [], 0, [kvR 50, kvR 88, kvR 7, none], []), ([], none), ([kvB 0 1], [], kvI 0, ([], [])), kvW41)
def kC998_0 : aC := (([kvB 0 20], [], 12, [kvR 50, kvR 88, kvR 7, kvI 0], []), ([], []), (20, [(-1, 0)]))
theorem ks998 : aseg kS krf kB [kE96] (ksp []) kE998 [kC998_0] 30000 (none) = true := by decide +kernel
theorem ks998_0 : aseg kS krf kB [kE96] (ksp []) kE998 [kC998_0] 30000 (some kC998_0) = true := by decide +kernel
theorem kok998 : aOK kS krf kB kE998 := aOK_of (kal1 kok96 kal0) (kcl1 ks998_0 kcl0) ks998
/-- ColdShod.journey(III)I -/
def kE999 : aE := (103, 6, ([(.negSucc 2147483647, .ofNat 2147483647), (.negSucc 2147483647, .ofNat 2147483647), (.negSucc 2147483647, .ofNat 2147483647)], [], 0, [some (.inr [6]), some (.inl (.inl (.inl (0, .ofNat 0)))), some (.inl (.inl (.inl (1, .ofNat 0)))), some (.inl (.inl (.inl (2, .ofNat 0)))), none, none, none], []), ([], none), ([(.negSucc 2147483647, .ofNat 2147483647)], [], some (.inl (.inl (.inl (3, .ofNat 0)))), ([], [])), ([(13, 0), (13, 1), (13, 2), (13, 3), (13, 4), (13, 5), (50, 1), (50, 2), (50, 3), (88, 0), (88, 1), (88, 2), (88, 3), (88, 4), (88, 5), (88, 6)], [16, 19, 51]))
theorem ks999 : aseg kS krf kB [kE548, kE998] (ksp []) kE999 [] 30000 (none) = true := by decide +kernel
theorem kok999 : aOK kS krf kB kE999 := aOK_of (kal1 kok548 (kal1 kok998 kal0)) kcl0 ks999
/-- ColdShodModel.journey(III)I -/
def kE1000 : aE := (189, 47, ([(.negSucc 2147483647, .ofNat 2147483647), (.negSucc 2147483647, .ofNat 2147483647), (.negSucc 2147483647, .ofNat 2147483647)], [], 0, [some (.inr [102]), some (.inl (.inl (.inl (0, .ofNat 0)))), some (.inl (.inl (.inl (1, .ofNat 0)))), some (.inl (.inl (.inl (2, .ofNat 0))))], []), ([], none), ([(.negSucc 2147483647, .ofNat 2147483647)], [], some (.inl (.inl (.inl (3, .ofNat 0)))), ([], [])), ([(102, 15), (102, 16), (102, 17), (102, 18), (102, 19), (102, 22), (102, 23), (102, 24), (102, 25), (111, 0), (111, 1), (111, 2), (111, 3), (111, 4), (111, 5)], [112]))
theorem ks1000 : aseg kS krf kB [kE43, kE901, kE210, kE917, kE217, kE933, kE224, kE949, kE231, kE965, kE238, kE981, kE245] (ksp [(189, 0, 1, 0, 5, 0)]) kE1000 [] 30000 (none) = true := by decide +kernel
theorem kok1000 : aOK kS krf kB kE1000 := aOK_of (kal1 kok43 (kal1 kok901 (kal1 kok210 (kal1 kok917 (kal1 kok217 (kal1 kok933 (kal1 kok224 (kal1 kok949 (kal1 kok231 (kal1 kok965 (kal1 kok238 (kal1 kok981 (kal1 kok245 kal0))))))))))))) kcl0 ks1000
/-- ColdShod.wears(II)I -/
def kE1001 : aE := (102, 3, ([(.negSucc 2147483647, .ofNat 2147483647), (.negSucc 2147483647, .ofNat 2147483647)], [], 0, [some (.inr [6]), some (.inl (.inl (.inl (0, .ofNat 0)))), some (.inl (.inl (.inl (1, .ofNat 0))))], []), ([], none), ([(.negSucc 0, .ofNat 9)], [], some (.inl (.inl (.inl (2, .ofNat 0)))), ([], [])), ([(13, 0), (13, 1), (13, 2), (13, 3), (13, 4), (13, 5)], [16, 19]))
theorem ks1001 : aseg kS krf kB [kE40] (ksp []) kE1001 [] 30000 (none) = true := by decide +kernel
theorem kok1001 : aOK kS krf kB kE1001 := aOK_of (kal1 kok40 kal0) kcl0 ks1001
/-- ColdShodModel.wears(II)I -/
def kE1002 : aE := (181, 45, ([(.negSucc 2147483647, .ofNat 2147483647), (.negSucc 2147483647, .ofNat 2147483647)], [], 0, [some (.inr [102]), some (.inl (.inl (.inl (0, .ofNat 0)))), some (.inl (.inl (.inl (1, .ofNat 0))))], []), ([], none), ([(.negSucc 0, .ofNat 9)], [], some (.inl (.inl (.inl (2, .ofNat 0)))), ([], [])), ([(102, 15), (102, 16), (102, 17), (102, 18), (102, 19), (111, 0), (111, 1), (111, 2), (111, 3), (111, 4), (111, 5)], [112]))
theorem ks1002 : aseg kS krf kB [kE43, kE86] (ksp []) kE1002 [] 30000 (none) = true := by decide +kernel
theorem kok1002 : aOK kS krf kB kE1002 := aOK_of (kal1 kok43 (kal1 kok86 kal0)) kcl0 ks1002
/-- ColdShod$LawCode.add(I)V -/
def kE1003 : aE := (54, 0, ([kvA], [], 0, [kvR 17, kvI 0], []), ([], none), ([], [], none, ([], [])), kvW86)
theorem ks1003 : aseg kS krf kB [] (ksp []) kE1003 [] 30000 (none) = true := by decide +kernel
theorem kok1003 : aOK kS krf kB kE1003 := aOK_of kal0 kcl0 ks1003
/-- ColdShod$LawText.readNumber(LColdShod$LawCode;)Z -/
def kE1004 : aE := (67, 1, ([], [], 0, [kvR 40, kvR 17, none, none], []), ([], none), ([kvB 1 1], [], kvI 0, ([], [])), kvW87)
def kC1004_0 : aC := (([kvA, kvB 0 4], [], 4, [kvR 40, kvR 17, kvI 0, kvI 1], []), ([], []), (4, [(-1, 1)]))
theorem ks1004 : aseg kS krf kB [kE1003] (ksp []) kE1004 [kC1004_0] 30000 (none) = true := by decide +kernel
theorem ks1004_0 : aseg kS krf kB [kE1003] (ksp []) kE1004 [kC1004_0] 30000 (some kC1004_0) = true := by decide +kernel
theorem kok1004 : aOK kS krf kB kE1004 := aOK_of (kal1 kok1003 kal0) (kcl1 ks1004_0 kcl0) ks1004
/-- ColdShod$LawText.readOperand(LColdShod$LawCode;I)Z -/
def kE1005 : aE := (66, 2, ([], [], 0, [kvR 40, kvR 17, kvN 6, none, none], []), ([], none), ([kvB 0 1], [], kvI 0, ([], [])), kvW88)
theorem ks1005 : aseg kS krf kB [kE1004, kE1003] (ksp []) kE1005 [] 30000 (none) = true := by decide +kernel
theorem kok1005 : aOK kS krf kB kE1005 := aOK_of (kal1 kok1004 (kal1 kok1003 kal0)) kcl0 ks1005
/-- ColdShod$LawText.readLevel(LColdShod$LawCode;II)Z -/
def kE1006 : aE := (65, 3, ([], [], 0, [kvR 40, kvR 17, kvN 5, kvN 6, none, none, none], []), ([], none), ([kvB 0 1], [], kvI 0, ([], [])), kvW88)
theorem ks1006 : aseg kS krf kB [kE1005] (ksp []) kE1006 [] 30000 (none) = true := by decide +kernel
theorem kok1006 : aOK kS krf kB kE1006 := aOK_of (kal1 kok1005 kal0) kcl0 ks1006
/-- ColdShod$LawText.readLevel(LColdShod$LawCode;II)Z -/
def kE1007 : aE := (65, 4, ([], [], 0, [kvR 40, kvR 17, kvN 4, kvN 6, none, none, none], []), ([], none), ([kvB 0 1], [], kvI 0, ([], [])), kvW88)
def kC1007_0 : aC := (([kvB 0 120], [], 42, [kvR 40, kvR 17, kvN 4, kvN 6, kvN 120, kvI 0, none], []), ([], []), (120, [(-1, 0)]))
theorem ks1007 : aseg kS krf kB [kE1006, kE1003] (ksp []) kE1007 [kC1007_0] 30000 (none) = true := by decide +kernel
theorem ks1007_0 : aseg kS krf kB [kE1006, kE1003] (ksp []) kE1007 [kC1007_0] 30000 (some kC1007_0) = true := by decide +kernel
theorem kok1007 : aOK kS krf kB kE1007 := aOK_of (kal1 kok1006 (kal1 kok1003 kal0)) (kcl1 ks1007_0 kcl0) ks1007
/-- ColdShod$LawText.readLevel(LColdShod$LawCode;II)Z -/
def kE1008 : aE := (65, 5, ([], [], 0, [kvR 40, kvR 17, kvN 3, kvN 6, none, none, none], []), ([], none), ([kvB 0 1], [], kvI 0, ([], [])), kvW88)
def kC1008_0 : aC := (([kvB 0 120], [], 42, [kvR 40, kvR 17, kvN 3, kvN 6, kvN 120, kvI 0, none], []), ([], []), (120, [(-1, 0)]))
theorem ks1008 : aseg kS krf kB [kE1007, kE1003] (ksp []) kE1008 [kC1008_0] 30000 (none) = true := by decide +kernel
theorem ks1008_0 : aseg kS krf kB [kE1007, kE1003] (ksp []) kE1008 [kC1008_0] 30000 (some kC1008_0) = true := by decide +kernel
theorem kok1008 : aOK kS krf kB kE1008 := aOK_of (kal1 kok1007 (kal1 kok1003 kal0)) (kcl1 ks1008_0 kcl0) ks1008
/-- ColdShod$LawText.readLevel(LColdShod$LawCode;II)Z -/
def kE1009 : aE := (65, 6, ([], [], 0, [kvR 40, kvR 17, kvN 2, kvN 6, none, none, none], []), ([], none), ([kvB 0 1], [], kvI 0, ([], [])), kvW88)
def kC1009_0 : aC := (([kvB 0 1], [], 42, [kvR 40, kvR 17, kvN 2, kvN 6, kvN 1, kvI 0, none], []), ([], []), (1, [(-1, 0)]))
theorem ks1009 : aseg kS krf kB [kE1008, kE1003] (ksp []) kE1009 [kC1009_0] 30000 (none) = true := by decide +kernel
theorem ks1009_0 : aseg kS krf kB [kE1008, kE1003] (ksp []) kE1009 [kC1009_0] 30000 (some kC1009_0) = true := by decide +kernel
theorem kok1009 : aOK kS krf kB kE1009 := aOK_of (kal1 kok1008 (kal1 kok1003 kal0)) (kcl1 ks1009_0 kcl0) ks1009
/-- ColdShod$LawText.readLevel(LColdShod$LawCode;II)Z -/
def kE1010 : aE := (65, 7, ([], [], 0, [kvR 40, kvR 17, kvN 1, kvN 6, none, none, none], []), ([], none), ([kvB 0 1], [], kvI 0, ([], [])), kvW88)
def kC1010_0 : aC := (([kvB 0 120], [], 42, [kvR 40, kvR 17, kvN 1, kvN 6, kvN 120, kvI 0, none], []), ([], []), (120, [(-1, 0)]))
theorem ks1010 : aseg kS krf kB [kE1009, kE1003] (ksp []) kE1010 [kC1010_0] 30000 (none) = true := by decide +kernel
theorem ks1010_0 : aseg kS krf kB [kE1009, kE1003] (ksp []) kE1010 [kC1010_0] 30000 (some kC1010_0) = true := by decide +kernel
theorem kok1010 : aOK kS krf kB kE1010 := aOK_of (kal1 kok1009 (kal1 kok1003 kal0)) (kcl1 ks1010_0 kcl0) ks1010
/-- ColdShod$LawText.readLevel(LColdShod$LawCode;II)Z -/
def kE1011 : aE := (65, 8, ([], [], 0, [kvR 40, kvR 17, kvN 0, kvN 6, none, none, none], []), ([], none), ([kvB 0 1], [], kvI 0, ([], [])), kvW88)
def kC1011_0 : aC := (([kvB 0 120], [], 42, [kvR 40, kvR 17, kvN 0, kvN 6, kvN 120, kvI 0, none], []), ([], []), (120, [(-1, 0)]))
theorem ks1011 : aseg kS krf kB [kE1010, kE1003] (ksp []) kE1011 [kC1011_0] 30000 (none) = true := by decide +kernel
theorem ks1011_0 : aseg kS krf kB [kE1010, kE1003] (ksp []) kE1011 [kC1011_0] 30000 (some kC1011_0) = true := by decide +kernel
theorem kok1011 : aOK kS krf kB kE1011 := aOK_of (kal1 kok1010 (kal1 kok1003 kal0)) (kcl1 ks1011_0 kcl0) ks1011
/-- ColdShod$LawText.readOperand(LColdShod$LawCode;I)Z -/
def kE1012 : aE := (66, 9, ([], [], 0, [kvR 40, kvR 17, kvN 5, none, none], []), ([], none), ([kvB 0 1], [], kvI 0, ([], [])), kvW88)
theorem ks1012 : aseg kS krf kB [kE1004, kE1003, kE1005, kE1011] (ksp []) kE1012 [] 30000 (none) = true := by decide +kernel
theorem kok1012 : aOK kS krf kB kE1012 := aOK_of (kal1 kok1004 (kal1 kok1003 (kal1 kok1005 (kal1 kok1011 kal0)))) kcl0 ks1012
/-- ColdShod$LawText.readLevel(LColdShod$LawCode;II)Z -/
def kE1013 : aE := (65, 10, ([], [], 0, [kvR 40, kvR 17, kvN 5, kvN 5, none, none, none], []), ([], none), ([kvB 0 1], [], kvI 0, ([], [])), kvW88)
theorem ks1013 : aseg kS krf kB [kE1012] (ksp []) kE1013 [] 30000 (none) = true := by decide +kernel
theorem kok1013 : aOK kS krf kB kE1013 := aOK_of (kal1 kok1012 kal0) kcl0 ks1013
/-- ColdShod$LawText.readLevel(LColdShod$LawCode;II)Z -/
def kE1014 : aE := (65, 11, ([], [], 0, [kvR 40, kvR 17, kvN 4, kvN 5, none, none, none], []), ([], none), ([kvB 0 1], [], kvI 0, ([], [])), kvW88)
def kC1014_0 : aC := (([kvB 0 120], [], 42, [kvR 40, kvR 17, kvN 4, kvN 5, kvN 120, kvI 0, none], []), ([], []), (120, [(-1, 0)]))
theorem ks1014 : aseg kS krf kB [kE1013, kE1003] (ksp []) kE1014 [kC1014_0] 30000 (none) = true := by decide +kernel
theorem ks1014_0 : aseg kS krf kB [kE1013, kE1003] (ksp []) kE1014 [kC1014_0] 30000 (some kC1014_0) = true := by decide +kernel
theorem kok1014 : aOK kS krf kB kE1014 := aOK_of (kal1 kok1013 (kal1 kok1003 kal0)) (kcl1 ks1014_0 kcl0) ks1014
/-- ColdShod$LawText.readLevel(LColdShod$LawCode;II)Z -/
def kE1015 : aE := (65, 12, ([], [], 0, [kvR 40, kvR 17, kvN 3, kvN 5, none, none, none], []), ([], none), ([kvB 0 1], [], kvI 0, ([], [])), kvW88)
def kC1015_0 : aC := (([kvB 0 120], [], 42, [kvR 40, kvR 17, kvN 3, kvN 5, kvN 120, kvI 0, none], []), ([], []), (120, [(-1, 0)]))
theorem ks1015 : aseg kS krf kB [kE1014, kE1003] (ksp []) kE1015 [kC1015_0] 30000 (none) = true := by decide +kernel
theorem ks1015_0 : aseg kS krf kB [kE1014, kE1003] (ksp []) kE1015 [kC1015_0] 30000 (some kC1015_0) = true := by decide +kernel
theorem kok1015 : aOK kS krf kB kE1015 := aOK_of (kal1 kok1014 (kal1 kok1003 kal0)) (kcl1 ks1015_0 kcl0) ks1015
/-- ColdShod$LawText.readLevel(LColdShod$LawCode;II)Z -/
def kE1016 : aE := (65, 13, ([], [], 0, [kvR 40, kvR 17, kvN 2, kvN 5, none, none, none], []), ([], none), ([kvB 0 1], [], kvI 0, ([], [])), kvW88)
def kC1016_0 : aC := (([kvB 0 1], [], 42, [kvR 40, kvR 17, kvN 2, kvN 5, kvN 1, kvI 0, none], []), ([], []), (1, [(-1, 0)]))
theorem ks1016 : aseg kS krf kB [kE1015, kE1003] (ksp []) kE1016 [kC1016_0] 30000 (none) = true := by decide +kernel
theorem ks1016_0 : aseg kS krf kB [kE1015, kE1003] (ksp []) kE1016 [kC1016_0] 30000 (some kC1016_0) = true := by decide +kernel
theorem kok1016 : aOK kS krf kB kE1016 := aOK_of (kal1 kok1015 (kal1 kok1003 kal0)) (kcl1 ks1016_0 kcl0) ks1016
/-- ColdShod$LawText.readLevel(LColdShod$LawCode;II)Z -/
def kE1017 : aE := (65, 14, ([], [], 0, [kvR 40, kvR 17, kvN 1, kvN 5, none, none, none], []), ([], none), ([kvB 0 1], [], kvI 0, ([], [])), kvW88)
def kC1017_0 : aC := (([kvB 0 120], [], 42, [kvR 40, kvR 17, kvN 1, kvN 5, kvN 120, kvI 0, none], []), ([], []), (120, [(-1, 0)]))
theorem ks1017 : aseg kS krf kB [kE1016, kE1003] (ksp []) kE1017 [kC1017_0] 30000 (none) = true := by decide +kernel
theorem ks1017_0 : aseg kS krf kB [kE1016, kE1003] (ksp []) kE1017 [kC1017_0] 30000 (some kC1017_0) = true := by decide +kernel
theorem kok1017 : aOK kS krf kB kE1017 := aOK_of (kal1 kok1016 (kal1 kok1003 kal0)) (kcl1 ks1017_0 kcl0) ks1017
/-- ColdShod$LawText.readLevel(LColdShod$LawCode;II)Z -/
def kE1018 : aE := (65, 15, ([], [], 0, [kvR 40, kvR 17, kvN 0, kvN 5, none, none, none], []), ([], none), ([kvB 0 1], [], kvI 0, ([], [])), kvW88)
def kC1018_0 : aC := (([kvB 0 120], [], 42, [kvR 40, kvR 17, kvN 0, kvN 5, kvN 120, kvI 0, none], []), ([], []), (120, [(-1, 0)]))
theorem ks1018 : aseg kS krf kB [kE1017, kE1003] (ksp []) kE1018 [kC1018_0] 30000 (none) = true := by decide +kernel
theorem ks1018_0 : aseg kS krf kB [kE1017, kE1003] (ksp []) kE1018 [kC1018_0] 30000 (some kC1018_0) = true := by decide +kernel
theorem kok1018 : aOK kS krf kB kE1018 := aOK_of (kal1 kok1017 (kal1 kok1003 kal0)) (kcl1 ks1018_0 kcl0) ks1018
/-- ColdShod$LawText.readOperand(LColdShod$LawCode;I)Z -/
def kE1019 : aE := (66, 16, ([], [], 0, [kvR 40, kvR 17, kvN 4, none, none], []), ([], none), ([kvB 0 1], [], kvI 0, ([], [])), kvW88)
theorem ks1019 : aseg kS krf kB [kE1004, kE1003, kE1012, kE1018] (ksp []) kE1019 [] 30000 (none) = true := by decide +kernel
theorem kok1019 : aOK kS krf kB kE1019 := aOK_of (kal1 kok1004 (kal1 kok1003 (kal1 kok1012 (kal1 kok1018 kal0)))) kcl0 ks1019
/-- ColdShod$LawText.readLevel(LColdShod$LawCode;II)Z -/
def kE1020 : aE := (65, 17, ([], [], 0, [kvR 40, kvR 17, kvN 5, kvN 4, none, none, none], []), ([], none), ([kvB 0 1], [], kvI 0, ([], [])), kvW88)
theorem ks1020 : aseg kS krf kB [kE1019] (ksp []) kE1020 [] 30000 (none) = true := by decide +kernel
theorem kok1020 : aOK kS krf kB kE1020 := aOK_of (kal1 kok1019 kal0) kcl0 ks1020
/-- ColdShod$LawText.readLevel(LColdShod$LawCode;II)Z -/
def kE1021 : aE := (65, 18, ([], [], 0, [kvR 40, kvR 17, kvN 4, kvN 4, none, none, none], []), ([], none), ([kvB 0 1], [], kvI 0, ([], [])), kvW88)
def kC1021_0 : aC := (([kvB 0 120], [], 42, [kvR 40, kvR 17, kvN 4, kvN 4, kvN 120, kvI 0, none], []), ([], []), (120, [(-1, 0)]))
theorem ks1021 : aseg kS krf kB [kE1020, kE1003] (ksp []) kE1021 [kC1021_0] 30000 (none) = true := by decide +kernel
theorem ks1021_0 : aseg kS krf kB [kE1020, kE1003] (ksp []) kE1021 [kC1021_0] 30000 (some kC1021_0) = true := by decide +kernel
theorem kok1021 : aOK kS krf kB kE1021 := aOK_of (kal1 kok1020 (kal1 kok1003 kal0)) (kcl1 ks1021_0 kcl0) ks1021
/-- ColdShod$LawText.readLevel(LColdShod$LawCode;II)Z -/
def kE1022 : aE := (65, 19, ([], [], 0, [kvR 40, kvR 17, kvN 3, kvN 4, none, none, none], []), ([], none), ([kvB 0 1], [], kvI 0, ([], [])), kvW88)
def kC1022_0 : aC := (([kvB 0 120], [], 42, [kvR 40, kvR 17, kvN 3, kvN 4, kvN 120, kvI 0, none], []), ([], []), (120, [(-1, 0)]))
theorem ks1022 : aseg kS krf kB [kE1021, kE1003] (ksp []) kE1022 [kC1022_0] 30000 (none) = true := by decide +kernel
theorem ks1022_0 : aseg kS krf kB [kE1021, kE1003] (ksp []) kE1022 [kC1022_0] 30000 (some kC1022_0) = true := by decide +kernel
theorem kok1022 : aOK kS krf kB kE1022 := aOK_of (kal1 kok1021 (kal1 kok1003 kal0)) (kcl1 ks1022_0 kcl0) ks1022
/-- ColdShod$LawText.readLevel(LColdShod$LawCode;II)Z -/
def kE1023 : aE := (65, 20, ([], [], 0, [kvR 40, kvR 17, kvN 2, kvN 4, none, none, none], []), ([], none), ([kvB 0 1], [], kvI 0, ([], [])), kvW88)
def kC1023_0 : aC := (([kvB 0 1], [], 42, [kvR 40, kvR 17, kvN 2, kvN 4, kvN 1, kvI 0, none], []), ([], []), (1, [(-1, 0)]))
theorem ks1023 : aseg kS krf kB [kE1022, kE1003] (ksp []) kE1023 [kC1023_0] 30000 (none) = true := by decide +kernel
theorem ks1023_0 : aseg kS krf kB [kE1022, kE1003] (ksp []) kE1023 [kC1023_0] 30000 (some kC1023_0) = true := by decide +kernel
theorem kok1023 : aOK kS krf kB kE1023 := aOK_of (kal1 kok1022 (kal1 kok1003 kal0)) (kcl1 ks1023_0 kcl0) ks1023
/-- ColdShod$LawText.readLevel(LColdShod$LawCode;II)Z -/
def kE1024 : aE := (65, 21, ([], [], 0, [kvR 40, kvR 17, kvN 1, kvN 4, none, none, none], []), ([], none), ([kvB 0 1], [], kvI 0, ([], [])), kvW88)
def kC1024_0 : aC := (([kvB 0 120], [], 42, [kvR 40, kvR 17, kvN 1, kvN 4, kvN 120, kvI 0, none], []), ([], []), (120, [(-1, 0)]))
theorem ks1024 : aseg kS krf kB [kE1023, kE1003] (ksp []) kE1024 [kC1024_0] 30000 (none) = true := by decide +kernel
theorem ks1024_0 : aseg kS krf kB [kE1023, kE1003] (ksp []) kE1024 [kC1024_0] 30000 (some kC1024_0) = true := by decide +kernel
theorem kok1024 : aOK kS krf kB kE1024 := aOK_of (kal1 kok1023 (kal1 kok1003 kal0)) (kcl1 ks1024_0 kcl0) ks1024
/-- ColdShod$LawText.readLevel(LColdShod$LawCode;II)Z -/
def kE1025 : aE := (65, 22, ([], [], 0, [kvR 40, kvR 17, kvN 0, kvN 4, none, none, none], []), ([], none), ([kvB 0 1], [], kvI 0, ([], [])), kvW88)
def kC1025_0 : aC := (([kvB 0 120], [], 42, [kvR 40, kvR 17, kvN 0, kvN 4, kvN 120, kvI 0, none], []), ([], []), (120, [(-1, 0)]))
theorem ks1025 : aseg kS krf kB [kE1024, kE1003] (ksp []) kE1025 [kC1025_0] 30000 (none) = true := by decide +kernel
theorem ks1025_0 : aseg kS krf kB [kE1024, kE1003] (ksp []) kE1025 [kC1025_0] 30000 (some kC1025_0) = true := by decide +kernel
theorem kok1025 : aOK kS krf kB kE1025 := aOK_of (kal1 kok1024 (kal1 kok1003 kal0)) (kcl1 ks1025_0 kcl0) ks1025
/-- ColdShod$LawText.readOperand(LColdShod$LawCode;I)Z -/
def kE1026 : aE := (66, 23, ([], [], 0, [kvR 40, kvR 17, kvN 3, none, none], []), ([], none), ([kvB 0 1], [], kvI 0, ([], [])), kvW88)
theorem ks1026 : aseg kS krf kB [kE1004, kE1003, kE1019, kE1025] (ksp []) kE1026 [] 30000 (none) = true := by decide +kernel
theorem kok1026 : aOK kS krf kB kE1026 := aOK_of (kal1 kok1004 (kal1 kok1003 (kal1 kok1019 (kal1 kok1025 kal0)))) kcl0 ks1026
/-- ColdShod$LawText.readLevel(LColdShod$LawCode;II)Z -/
def kE1027 : aE := (65, 24, ([], [], 0, [kvR 40, kvR 17, kvN 5, kvN 3, none, none, none], []), ([], none), ([kvB 0 1], [], kvI 0, ([], [])), kvW88)
theorem ks1027 : aseg kS krf kB [kE1026] (ksp []) kE1027 [] 30000 (none) = true := by decide +kernel
theorem kok1027 : aOK kS krf kB kE1027 := aOK_of (kal1 kok1026 kal0) kcl0 ks1027
/-- ColdShod$LawText.readLevel(LColdShod$LawCode;II)Z -/
def kE1028 : aE := (65, 25, ([], [], 0, [kvR 40, kvR 17, kvN 4, kvN 3, none, none, none], []), ([], none), ([kvB 0 1], [], kvI 0, ([], [])), kvW88)
def kC1028_0 : aC := (([kvB 0 120], [], 42, [kvR 40, kvR 17, kvN 4, kvN 3, kvN 120, kvI 0, none], []), ([], []), (120, [(-1, 0)]))
theorem ks1028 : aseg kS krf kB [kE1027, kE1003] (ksp []) kE1028 [kC1028_0] 30000 (none) = true := by decide +kernel
theorem ks1028_0 : aseg kS krf kB [kE1027, kE1003] (ksp []) kE1028 [kC1028_0] 30000 (some kC1028_0) = true := by decide +kernel
theorem kok1028 : aOK kS krf kB kE1028 := aOK_of (kal1 kok1027 (kal1 kok1003 kal0)) (kcl1 ks1028_0 kcl0) ks1028
/-- ColdShod$LawText.readLevel(LColdShod$LawCode;II)Z -/
def kE1029 : aE := (65, 26, ([], [], 0, [kvR 40, kvR 17, kvN 3, kvN 3, none, none, none], []), ([], none), ([kvB 0 1], [], kvI 0, ([], [])), kvW88)
def kC1029_0 : aC := (([kvB 0 120], [], 42, [kvR 40, kvR 17, kvN 3, kvN 3, kvN 120, kvI 0, none], []), ([], []), (120, [(-1, 0)]))
theorem ks1029 : aseg kS krf kB [kE1028, kE1003] (ksp []) kE1029 [kC1029_0] 30000 (none) = true := by decide +kernel
theorem ks1029_0 : aseg kS krf kB [kE1028, kE1003] (ksp []) kE1029 [kC1029_0] 30000 (some kC1029_0) = true := by decide +kernel
theorem kok1029 : aOK kS krf kB kE1029 := aOK_of (kal1 kok1028 (kal1 kok1003 kal0)) (kcl1 ks1029_0 kcl0) ks1029
/-- ColdShod$LawText.readLevel(LColdShod$LawCode;II)Z -/
def kE1030 : aE := (65, 27, ([], [], 0, [kvR 40, kvR 17, kvN 2, kvN 3, none, none, none], []), ([], none), ([kvB 0 1], [], kvI 0, ([], [])), kvW88)
def kC1030_0 : aC := (([kvB 0 1], [], 42, [kvR 40, kvR 17, kvN 2, kvN 3, kvN 1, kvI 0, none], []), ([], []), (1, [(-1, 0)]))
theorem ks1030 : aseg kS krf kB [kE1029, kE1003] (ksp []) kE1030 [kC1030_0] 30000 (none) = true := by decide +kernel
theorem ks1030_0 : aseg kS krf kB [kE1029, kE1003] (ksp []) kE1030 [kC1030_0] 30000 (some kC1030_0) = true := by decide +kernel
theorem kok1030 : aOK kS krf kB kE1030 := aOK_of (kal1 kok1029 (kal1 kok1003 kal0)) (kcl1 ks1030_0 kcl0) ks1030
/-- ColdShod$LawText.readLevel(LColdShod$LawCode;II)Z -/
def kE1031 : aE := (65, 28, ([], [], 0, [kvR 40, kvR 17, kvN 1, kvN 3, none, none, none], []), ([], none), ([kvB 0 1], [], kvI 0, ([], [])), kvW88)
def kC1031_0 : aC := (([kvB 0 120], [], 42, [kvR 40, kvR 17, kvN 1, kvN 3, kvN 120, kvI 0, none], []), ([], []), (120, [(-1, 0)]))
theorem ks1031 : aseg kS krf kB [kE1030, kE1003] (ksp []) kE1031 [kC1031_0] 30000 (none) = true := by decide +kernel
theorem ks1031_0 : aseg kS krf kB [kE1030, kE1003] (ksp []) kE1031 [kC1031_0] 30000 (some kC1031_0) = true := by decide +kernel
theorem kok1031 : aOK kS krf kB kE1031 := aOK_of (kal1 kok1030 (kal1 kok1003 kal0)) (kcl1 ks1031_0 kcl0) ks1031
/-- ColdShod$LawText.readLevel(LColdShod$LawCode;II)Z -/
def kE1032 : aE := (65, 29, ([], [], 0, [kvR 40, kvR 17, kvN 0, kvN 3, none, none, none], []), ([], none), ([kvB 0 1], [], kvI 0, ([], [])), kvW88)
def kC1032_0 : aC := (([kvB 0 120], [], 42, [kvR 40, kvR 17, kvN 0, kvN 3, kvN 120, kvI 0, none], []), ([], []), (120, [(-1, 0)]))
theorem ks1032 : aseg kS krf kB [kE1031, kE1003] (ksp []) kE1032 [kC1032_0] 30000 (none) = true := by decide +kernel
theorem ks1032_0 : aseg kS krf kB [kE1031, kE1003] (ksp []) kE1032 [kC1032_0] 30000 (some kC1032_0) = true := by decide +kernel
theorem kok1032 : aOK kS krf kB kE1032 := aOK_of (kal1 kok1031 (kal1 kok1003 kal0)) (kcl1 ks1032_0 kcl0) ks1032
/-- ColdShod$LawText.readOperand(LColdShod$LawCode;I)Z -/
def kE1033 : aE := (66, 30, ([], [], 0, [kvR 40, kvR 17, kvN 2, none, none], []), ([], none), ([kvB 0 1], [], kvI 0, ([], [])), kvW88)
theorem ks1033 : aseg kS krf kB [kE1004, kE1003, kE1026, kE1032] (ksp []) kE1033 [] 30000 (none) = true := by decide +kernel
theorem kok1033 : aOK kS krf kB kE1033 := aOK_of (kal1 kok1004 (kal1 kok1003 (kal1 kok1026 (kal1 kok1032 kal0)))) kcl0 ks1033
/-- ColdShod$LawText.readLevel(LColdShod$LawCode;II)Z -/
def kE1034 : aE := (65, 31, ([], [], 0, [kvR 40, kvR 17, kvN 5, kvN 2, none, none, none], []), ([], none), ([kvB 0 1], [], kvI 0, ([], [])), kvW88)
theorem ks1034 : aseg kS krf kB [kE1033] (ksp []) kE1034 [] 30000 (none) = true := by decide +kernel
theorem kok1034 : aOK kS krf kB kE1034 := aOK_of (kal1 kok1033 kal0) kcl0 ks1034
/-- ColdShod$LawText.readLevel(LColdShod$LawCode;II)Z -/
def kE1035 : aE := (65, 32, ([], [], 0, [kvR 40, kvR 17, kvN 4, kvN 2, none, none, none], []), ([], none), ([kvB 0 1], [], kvI 0, ([], [])), kvW88)
def kC1035_0 : aC := (([kvB 0 120], [], 42, [kvR 40, kvR 17, kvN 4, kvN 2, kvN 120, kvI 0, none], []), ([], []), (120, [(-1, 0)]))
theorem ks1035 : aseg kS krf kB [kE1034, kE1003] (ksp []) kE1035 [kC1035_0] 30000 (none) = true := by decide +kernel
theorem ks1035_0 : aseg kS krf kB [kE1034, kE1003] (ksp []) kE1035 [kC1035_0] 30000 (some kC1035_0) = true := by decide +kernel
theorem kok1035 : aOK kS krf kB kE1035 := aOK_of (kal1 kok1034 (kal1 kok1003 kal0)) (kcl1 ks1035_0 kcl0) ks1035
/-- ColdShod$LawText.readLevel(LColdShod$LawCode;II)Z -/
def kE1036 : aE := (65, 33, ([], [], 0, [kvR 40, kvR 17, kvN 3, kvN 2, none, none, none], []), ([], none), ([kvB 0 1], [], kvI 0, ([], [])), kvW88)
def kC1036_0 : aC := (([kvB 0 120], [], 42, [kvR 40, kvR 17, kvN 3, kvN 2, kvN 120, kvI 0, none], []), ([], []), (120, [(-1, 0)]))
theorem ks1036 : aseg kS krf kB [kE1035, kE1003] (ksp []) kE1036 [kC1036_0] 30000 (none) = true := by decide +kernel
theorem ks1036_0 : aseg kS krf kB [kE1035, kE1003] (ksp []) kE1036 [kC1036_0] 30000 (some kC1036_0) = true := by decide +kernel
theorem kok1036 : aOK kS krf kB kE1036 := aOK_of (kal1 kok1035 (kal1 kok1003 kal0)) (kcl1 ks1036_0 kcl0) ks1036
/-- ColdShod$LawText.readLevel(LColdShod$LawCode;II)Z -/
def kE1037 : aE := (65, 34, ([], [], 0, [kvR 40, kvR 17, kvN 2, kvN 2, none, none, none], []), ([], none), ([kvB 0 1], [], kvI 0, ([], [])), kvW88)
def kC1037_0 : aC := (([kvB 0 1], [], 42, [kvR 40, kvR 17, kvN 2, kvN 2, kvN 1, kvI 0, none], []), ([], []), (1, [(-1, 0)]))
theorem ks1037 : aseg kS krf kB [kE1036, kE1003] (ksp []) kE1037 [kC1037_0] 30000 (none) = true := by decide +kernel
theorem ks1037_0 : aseg kS krf kB [kE1036, kE1003] (ksp []) kE1037 [kC1037_0] 30000 (some kC1037_0) = true := by decide +kernel
theorem kok1037 : aOK kS krf kB kE1037 := aOK_of (kal1 kok1036 (kal1 kok1003 kal0)) (kcl1 ks1037_0 kcl0) ks1037
/-- ColdShod$LawText.readLevel(LColdShod$LawCode;II)Z -/
def kE1038 : aE := (65, 35, ([], [], 0, [kvR 40, kvR 17, kvN 1, kvN 2, none, none, none], []), ([], none), ([kvB 0 1], [], kvI 0, ([], [])), kvW88)
def kC1038_0 : aC := (([kvB 0 120], [], 42, [kvR 40, kvR 17, kvN 1, kvN 2, kvN 120, kvI 0, none], []), ([], []), (120, [(-1, 0)]))
theorem ks1038 : aseg kS krf kB [kE1037, kE1003] (ksp []) kE1038 [kC1038_0] 30000 (none) = true := by decide +kernel
theorem ks1038_0 : aseg kS krf kB [kE1037, kE1003] (ksp []) kE1038 [kC1038_0] 30000 (some kC1038_0) = true := by decide +kernel
theorem kok1038 : aOK kS krf kB kE1038 := aOK_of (kal1 kok1037 (kal1 kok1003 kal0)) (kcl1 ks1038_0 kcl0) ks1038
/-- ColdShod$LawText.readLevel(LColdShod$LawCode;II)Z -/
def kE1039 : aE := (65, 36, ([], [], 0, [kvR 40, kvR 17, kvN 0, kvN 2, none, none, none], []), ([], none), ([kvB 0 1], [], kvI 0, ([], [])), kvW88)
def kC1039_0 : aC := (([kvB 0 120], [], 42, [kvR 40, kvR 17, kvN 0, kvN 2, kvN 120, kvI 0, none], []), ([], []), (120, [(-1, 0)]))
theorem ks1039 : aseg kS krf kB [kE1038, kE1003] (ksp []) kE1039 [kC1039_0] 30000 (none) = true := by decide +kernel
theorem ks1039_0 : aseg kS krf kB [kE1038, kE1003] (ksp []) kE1039 [kC1039_0] 30000 (some kC1039_0) = true := by decide +kernel
theorem kok1039 : aOK kS krf kB kE1039 := aOK_of (kal1 kok1038 (kal1 kok1003 kal0)) (kcl1 ks1039_0 kcl0) ks1039
/-- ColdShod$LawText.readOperand(LColdShod$LawCode;I)Z -/
def kE1040 : aE := (66, 37, ([], [], 0, [kvR 40, kvR 17, kvN 1, none, none], []), ([], none), ([kvB 0 1], [], kvI 0, ([], [])), kvW88)
theorem ks1040 : aseg kS krf kB [kE1004, kE1003, kE1033, kE1039] (ksp []) kE1040 [] 30000 (none) = true := by decide +kernel
theorem kok1040 : aOK kS krf kB kE1040 := aOK_of (kal1 kok1004 (kal1 kok1003 (kal1 kok1033 (kal1 kok1039 kal0)))) kcl0 ks1040
/-- ColdShod$LawText.readLevel(LColdShod$LawCode;II)Z -/
def kE1041 : aE := (65, 38, ([], [], 0, [kvR 40, kvR 17, kvN 5, kvN 1, none, none, none], []), ([], none), ([kvB 0 1], [], kvI 0, ([], [])), kvW88)
theorem ks1041 : aseg kS krf kB [kE1040] (ksp []) kE1041 [] 30000 (none) = true := by decide +kernel
theorem kok1041 : aOK kS krf kB kE1041 := aOK_of (kal1 kok1040 kal0) kcl0 ks1041
/-- ColdShod$LawText.readLevel(LColdShod$LawCode;II)Z -/
def kE1042 : aE := (65, 39, ([], [], 0, [kvR 40, kvR 17, kvN 4, kvN 1, none, none, none], []), ([], none), ([kvB 0 1], [], kvI 0, ([], [])), kvW88)
def kC1042_0 : aC := (([kvB 0 120], [], 42, [kvR 40, kvR 17, kvN 4, kvN 1, kvN 120, kvI 0, none], []), ([], []), (120, [(-1, 0)]))
theorem ks1042 : aseg kS krf kB [kE1041, kE1003] (ksp []) kE1042 [kC1042_0] 30000 (none) = true := by decide +kernel
theorem ks1042_0 : aseg kS krf kB [kE1041, kE1003] (ksp []) kE1042 [kC1042_0] 30000 (some kC1042_0) = true := by decide +kernel
theorem kok1042 : aOK kS krf kB kE1042 := aOK_of (kal1 kok1041 (kal1 kok1003 kal0)) (kcl1 ks1042_0 kcl0) ks1042
/-- ColdShod$LawText.readLevel(LColdShod$LawCode;II)Z -/
def kE1043 : aE := (65, 40, ([], [], 0, [kvR 40, kvR 17, kvN 3, kvN 1, none, none, none], []), ([], none), ([kvB 0 1], [], kvI 0, ([], [])), kvW88)
def kC1043_0 : aC := (([kvB 0 120], [], 42, [kvR 40, kvR 17, kvN 3, kvN 1, kvN 120, kvI 0, none], []), ([], []), (120, [(-1, 0)]))
theorem ks1043 : aseg kS krf kB [kE1042, kE1003] (ksp []) kE1043 [kC1043_0] 30000 (none) = true := by decide +kernel
theorem ks1043_0 : aseg kS krf kB [kE1042, kE1003] (ksp []) kE1043 [kC1043_0] 30000 (some kC1043_0) = true := by decide +kernel
theorem kok1043 : aOK kS krf kB kE1043 := aOK_of (kal1 kok1042 (kal1 kok1003 kal0)) (kcl1 ks1043_0 kcl0) ks1043
/-- ColdShod$LawText.readLevel(LColdShod$LawCode;II)Z -/
def kE1044 : aE := (65, 41, ([], [], 0, [kvR 40, kvR 17, kvN 2, kvN 1, none, none, none], []), ([], none), ([kvB 0 1], [], kvI 0, ([], [])), kvW88)
def kC1044_0 : aC := (([kvB 0 1], [], 42, [kvR 40, kvR 17, kvN 2, kvN 1, kvN 1, kvI 0, none], []), ([], []), (1, [(-1, 0)]))
theorem ks1044 : aseg kS krf kB [kE1043, kE1003] (ksp []) kE1044 [kC1044_0] 30000 (none) = true := by decide +kernel
theorem ks1044_0 : aseg kS krf kB [kE1043, kE1003] (ksp []) kE1044 [kC1044_0] 30000 (some kC1044_0) = true := by decide +kernel
theorem kok1044 : aOK kS krf kB kE1044 := aOK_of (kal1 kok1043 (kal1 kok1003 kal0)) (kcl1 ks1044_0 kcl0) ks1044
/-- ColdShod$LawText.readLevel(LColdShod$LawCode;II)Z -/
def kE1045 : aE := (65, 42, ([], [], 0, [kvR 40, kvR 17, kvN 1, kvN 1, none, none, none], []), ([], none), ([kvB 0 1], [], kvI 0, ([], [])), kvW88)
def kC1045_0 : aC := (([kvB 0 120], [], 42, [kvR 40, kvR 17, kvN 1, kvN 1, kvN 120, kvI 0, none], []), ([], []), (120, [(-1, 0)]))
theorem ks1045 : aseg kS krf kB [kE1044, kE1003] (ksp []) kE1045 [kC1045_0] 30000 (none) = true := by decide +kernel
theorem ks1045_0 : aseg kS krf kB [kE1044, kE1003] (ksp []) kE1045 [kC1045_0] 30000 (some kC1045_0) = true := by decide +kernel
theorem kok1045 : aOK kS krf kB kE1045 := aOK_of (kal1 kok1044 (kal1 kok1003 kal0)) (kcl1 ks1045_0 kcl0) ks1045
