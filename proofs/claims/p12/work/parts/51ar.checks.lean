/-! ENTRIES and their checks: printed by a program (wip/ai). -/
/-- ColdShod$Journey.allGone(LColdShod$Idea;LColdShod$Country;)Z -/
noncomputable def kE1010 : aE := (49, 5, ([], [], 0, [kvR 50, kvR 88, kvR 7, none], []), ([], none), ([kvB 0 1], [], kvI 0, ([], [])), kvW44)
noncomputable def kC1010_0 : aC := (([kvB 0 20], [], 12, [kvR 50, kvR 88, kvR 7, kvI 0], []), ([], []), (20, [(-1, 0)]))
theorem ks1010 : aseg kS krf kB [kE99] (ksp []) kE1010 [kC1010_0] 30000 (none) = true := asgqk (by decide +kernel)
theorem ks1010_0 : aseg kS krf kB [kE99] (ksp []) kE1010 [kC1010_0] 30000 (some kC1010_0) = true := asgqk (by decide +kernel)
theorem kok1010 : aOK kS krf kB kE1010 := aOK_of (kal1 kok99 kal0) (kcl1 ks1010_0 kcl0) ks1010
/-- ColdShod.journey(III)I -/
noncomputable def kE1011 : aE := (103, 6, ([(.negSucc 2147483647, .ofNat 2147483647), (.negSucc 2147483647, .ofNat 2147483647), (.negSucc 2147483647, .ofNat 2147483647)], [], 0, [some (.inr [6]), some (.inl (.inl (.inl (0, .ofNat 0)))), some (.inl (.inl (.inl (1, .ofNat 0)))), some (.inl (.inl (.inl (2, .ofNat 0)))), none, none, none], []), ([], none), ([(.negSucc 2147483647, .ofNat 2147483647)], [], some (.inl (.inl (.inl (3, .ofNat 0)))), ([], [])), ([(13, 0), (13, 1), (13, 2), (13, 3), (13, 4), (13, 5), (50, 1), (50, 2), (50, 3), (88, 0), (88, 1), (88, 2), (88, 3), (88, 4), (88, 5), (88, 6)], [16, 19, 51]))
theorem ks1011 : aseg kS krf kB [kE262, kE263, kE96, kE1010] (ksp []) kE1011 [] 30000 (none) = true := asgqk (by decide +kernel)
theorem kok1011 : aOK kS krf kB kE1011 := aOK_of (kal1 kok262 (kal1 kok263 (kal1 kok96 (kal1 kok1010 kal0)))) kcl0 ks1011
/-- ColdShodModel.journey(III)I -/
noncomputable def kE1012 : aE := (189, 47, ([(.negSucc 2147483647, .ofNat 2147483647), (.negSucc 2147483647, .ofNat 2147483647), (.negSucc 2147483647, .ofNat 2147483647)], [], 0, [some (.inr [102]), some (.inl (.inl (.inl (0, .ofNat 0)))), some (.inl (.inl (.inl (1, .ofNat 0)))), some (.inl (.inl (.inl (2, .ofNat 0))))], []), ([], none), ([(.negSucc 2147483647, .ofNat 2147483647)], [], some (.inl (.inl (.inl (3, .ofNat 0)))), ([], [])), ([(102, 15), (102, 16), (102, 17), (102, 18), (102, 19), (102, 22), (102, 23), (102, 24), (102, 25), (111, 0), (111, 1), (111, 2), (111, 3), (111, 4), (111, 5)], [112]))
theorem ks1012 : aseg kS krf kB [kE43, kE913, kE219, kE929, kE226, kE945, kE233, kE961, kE240, kE977, kE247, kE993, kE254] (ksp [(189, 0, 1, 0, 5, 0)]) kE1012 [] 30000 (none) = true := asgqk (by decide +kernel)
theorem kok1012 : aOK kS krf kB kE1012 := aOK_of (kal1 kok43 (kal1 kok913 (kal1 kok219 (kal1 kok929 (kal1 kok226 (kal1 kok945 (kal1 kok233 (kal1 kok961 (kal1 kok240 (kal1 kok977 (kal1 kok247 (kal1 kok993 (kal1 kok254 kal0))))))))))))) kcl0 ks1012
/-- ColdShod.wears(II)I -/
noncomputable def kE1013 : aE := (102, 3, ([(.negSucc 2147483647, .ofNat 2147483647), (.negSucc 2147483647, .ofNat 2147483647)], [], 0, [some (.inr [6]), some (.inl (.inl (.inl (0, .ofNat 0)))), some (.inl (.inl (.inl (1, .ofNat 0))))], []), ([], none), ([(.negSucc 0, .ofNat 9)], [], some (.inl (.inl (.inl (2, .ofNat 0)))), ([], [])), ([(13, 0), (13, 1), (13, 2), (13, 3), (13, 4), (13, 5)], [16, 19]))
theorem ks1013 : aseg kS krf kB [kE40] (ksp []) kE1013 [] 30000 (none) = true := asgqk (by decide +kernel)
theorem kok1013 : aOK kS krf kB kE1013 := aOK_of (kal1 kok40 kal0) kcl0 ks1013
/-- ColdShodModel.wears(II)I -/
noncomputable def kE1014 : aE := (181, 45, ([(.negSucc 2147483647, .ofNat 2147483647), (.negSucc 2147483647, .ofNat 2147483647)], [], 0, [some (.inr [102]), some (.inl (.inl (.inl (0, .ofNat 0)))), some (.inl (.inl (.inl (1, .ofNat 0))))], []), ([], none), ([(.negSucc 0, .ofNat 9)], [], some (.inl (.inl (.inl (2, .ofNat 0)))), ([], [])), ([(102, 15), (102, 16), (102, 17), (102, 18), (102, 19), (111, 0), (111, 1), (111, 2), (111, 3), (111, 4), (111, 5)], [112]))
theorem ks1014 : aseg kS krf kB [kE43, kE88] (ksp []) kE1014 [] 30000 (none) = true := asgqk (by decide +kernel)
theorem kok1014 : aOK kS krf kB kE1014 := aOK_of (kal1 kok43 (kal1 kok88 kal0)) kcl0 ks1014
/-- ColdShod$LawCode.add(I)V -/
noncomputable def kE1015 : aE := (54, 0, ([kvA], [], 0, [kvR 17, kvI 0], []), ([], none), ([], [], none, ([], [])), kvW89)
theorem ks1015 : aseg kS krf kB [] (ksp []) kE1015 [] 30000 (none) = true := asgqk (by decide +kernel)
theorem kok1015 : aOK kS krf kB kE1015 := aOK_of kal0 kcl0 ks1015
/-- ColdShod$LawText.readNumber(LColdShod$LawCode;)Z -/
noncomputable def kE1016 : aE := (67, 1, ([], [], 0, [kvR 40, kvR 17, none, none], []), ([], none), ([kvB 1 1], [], kvI 0, ([], [])), kvW90)
noncomputable def kC1016_0 : aC := (([kvA, kvB 0 4], [], 4, [kvR 40, kvR 17, kvI 0, kvI 1], []), ([], []), (4, [(-1, 1)]))
theorem ks1016 : aseg kS krf kB [kE1015] (ksp []) kE1016 [kC1016_0] 30000 (none) = true := asgqk (by decide +kernel)
theorem ks1016_0 : aseg kS krf kB [kE1015] (ksp []) kE1016 [kC1016_0] 30000 (some kC1016_0) = true := asgqk (by decide +kernel)
theorem kok1016 : aOK kS krf kB kE1016 := aOK_of (kal1 kok1015 kal0) (kcl1 ks1016_0 kcl0) ks1016
/-- ColdShod$LawCode.addName(I)V -/
noncomputable def kE1017 : aE := (55, 1, ([kvB 0 5], [], 0, [kvR 17, kvI 0], []), ([], none), ([], [], none, ([], [])), kvW91)
theorem ks1017 : aseg kS krf kB [kE1015] (ksp []) kE1017 [] 30000 (none) = true := asgqk (by decide +kernel)
theorem kok1017 : aOK kS krf kB kE1017 := aOK_of (kal1 kok1015 kal0) kcl0 ks1017
/-- ColdShod$LawText.readOperand(LColdShod$LawCode;I)Z -/
noncomputable def kE1018 : aE := (66, 2, ([], [], 0, [kvR 40, kvR 17, kvN 6, none, none], []), ([], none), ([kvB 0 1], [], kvI 0, ([], [])), kvW92)
noncomputable def kC1018_0 : aC := (([kvB 33 45, kvB 0 119, kvB 1 120], [(40, 2, .inl (1, .ofNat 0)), (40, 1, .inl (2, .ofNat 0))], 65, [kvR 40, kvR 17, kvN 6, kvI 0, some (.inl (.inl (.inr (.negSucc 0))))], []), ([], []), (0, []))
theorem ks1018 : aseg kS krf kB [kE1016, kE1017] (ksp []) kE1018 [kC1018_0] 30000 (none) = true := asgqk (by decide +kernel)
theorem ks1018_0 : aseg kS krf kB [kE1016, kE1017] (ksp []) kE1018 [kC1018_0] 30000 (some kC1018_0) = true := asgqk (by decide +kernel)
theorem kok1018 : aOK kS krf kB kE1018 := aOK_of (kal1 kok1016 (kal1 kok1017 kal0)) (kcl1 ks1018_0 kcl0) ks1018
/-- ColdShod$LawText.readLevel(LColdShod$LawCode;II)Z -/
noncomputable def kE1019 : aE := (65, 3, ([], [], 0, [kvR 40, kvR 17, kvN 5, kvN 6, none, none, none], []), ([], none), ([kvB 0 1], [], kvI 0, ([], [])), kvW92)
theorem ks1019 : aseg kS krf kB [kE1018] (ksp []) kE1019 [] 30000 (none) = true := asgqk (by decide +kernel)
theorem kok1019 : aOK kS krf kB kE1019 := aOK_of (kal1 kok1018 kal0) kcl0 ks1019
/-- ColdShod$LawText.readLevel(LColdShod$LawCode;II)Z -/
noncomputable def kE1020 : aE := (65, 4, ([], [], 0, [kvR 40, kvR 17, kvN 4, kvN 6, none, none, none], []), ([], none), ([kvB 0 1], [], kvI 0, ([], [])), kvW92)
noncomputable def kC1020_0 : aC := (([kvB 0 120], [], 42, [kvR 40, kvR 17, kvN 4, kvN 6, kvN 120, kvI 0, none], []), ([], []), (120, [(-1, 0)]))
theorem ks1020 : aseg kS krf kB [kE1019, kE1015] (ksp []) kE1020 [kC1020_0] 30000 (none) = true := asgqk (by decide +kernel)
theorem ks1020_0 : aseg kS krf kB [kE1019, kE1015] (ksp []) kE1020 [kC1020_0] 30000 (some kC1020_0) = true := asgqk (by decide +kernel)
theorem kok1020 : aOK kS krf kB kE1020 := aOK_of (kal1 kok1019 (kal1 kok1015 kal0)) (kcl1 ks1020_0 kcl0) ks1020
/-- ColdShod$LawText.readLevel(LColdShod$LawCode;II)Z -/
noncomputable def kE1021 : aE := (65, 5, ([], [], 0, [kvR 40, kvR 17, kvN 3, kvN 6, none, none, none], []), ([], none), ([kvB 0 1], [], kvI 0, ([], [])), kvW92)
noncomputable def kC1021_0 : aC := (([kvB 0 120], [], 42, [kvR 40, kvR 17, kvN 3, kvN 6, kvN 120, kvI 0, none], []), ([], []), (120, [(-1, 0)]))
theorem ks1021 : aseg kS krf kB [kE1020, kE1015] (ksp []) kE1021 [kC1021_0] 30000 (none) = true := asgqk (by decide +kernel)
theorem ks1021_0 : aseg kS krf kB [kE1020, kE1015] (ksp []) kE1021 [kC1021_0] 30000 (some kC1021_0) = true := asgqk (by decide +kernel)
theorem kok1021 : aOK kS krf kB kE1021 := aOK_of (kal1 kok1020 (kal1 kok1015 kal0)) (kcl1 ks1021_0 kcl0) ks1021
/-- ColdShod$LawText.readLevel(LColdShod$LawCode;II)Z -/
noncomputable def kE1022 : aE := (65, 6, ([], [], 0, [kvR 40, kvR 17, kvN 2, kvN 6, none, none, none], []), ([], none), ([kvB 0 1], [], kvI 0, ([], [])), kvW92)
noncomputable def kC1022_0 : aC := (([kvB 0 1], [], 42, [kvR 40, kvR 17, kvN 2, kvN 6, kvN 1, kvI 0, none], []), ([], []), (1, [(-1, 0)]))
theorem ks1022 : aseg kS krf kB [kE1021, kE1015] (ksp []) kE1022 [kC1022_0] 30000 (none) = true := asgqk (by decide +kernel)
theorem ks1022_0 : aseg kS krf kB [kE1021, kE1015] (ksp []) kE1022 [kC1022_0] 30000 (some kC1022_0) = true := asgqk (by decide +kernel)
theorem kok1022 : aOK kS krf kB kE1022 := aOK_of (kal1 kok1021 (kal1 kok1015 kal0)) (kcl1 ks1022_0 kcl0) ks1022
/-- ColdShod$LawText.readLevel(LColdShod$LawCode;II)Z -/
noncomputable def kE1023 : aE := (65, 7, ([], [], 0, [kvR 40, kvR 17, kvN 1, kvN 6, none, none, none], []), ([], none), ([kvB 0 1], [], kvI 0, ([], [])), kvW92)
noncomputable def kC1023_0 : aC := (([kvB 0 120], [], 42, [kvR 40, kvR 17, kvN 1, kvN 6, kvN 120, kvI 0, none], []), ([], []), (120, [(-1, 0)]))
theorem ks1023 : aseg kS krf kB [kE1022, kE1015] (ksp []) kE1023 [kC1023_0] 30000 (none) = true := asgqk (by decide +kernel)
theorem ks1023_0 : aseg kS krf kB [kE1022, kE1015] (ksp []) kE1023 [kC1023_0] 30000 (some kC1023_0) = true := asgqk (by decide +kernel)
theorem kok1023 : aOK kS krf kB kE1023 := aOK_of (kal1 kok1022 (kal1 kok1015 kal0)) (kcl1 ks1023_0 kcl0) ks1023
/-- ColdShod$LawText.readLevel(LColdShod$LawCode;II)Z -/
noncomputable def kE1024 : aE := (65, 8, ([], [], 0, [kvR 40, kvR 17, kvN 0, kvN 6, none, none, none], []), ([], none), ([kvB 0 1], [], kvI 0, ([], [])), kvW92)
noncomputable def kC1024_0 : aC := (([kvB 0 120], [], 42, [kvR 40, kvR 17, kvN 0, kvN 6, kvN 120, kvI 0, none], []), ([], []), (120, [(-1, 0)]))
theorem ks1024 : aseg kS krf kB [kE1023, kE1015] (ksp []) kE1024 [kC1024_0] 30000 (none) = true := asgqk (by decide +kernel)
theorem ks1024_0 : aseg kS krf kB [kE1023, kE1015] (ksp []) kE1024 [kC1024_0] 30000 (some kC1024_0) = true := asgqk (by decide +kernel)
theorem kok1024 : aOK kS krf kB kE1024 := aOK_of (kal1 kok1023 (kal1 kok1015 kal0)) (kcl1 ks1024_0 kcl0) ks1024
/-- ColdShod$LawText.passes(I)Z -/
noncomputable def kE1025 : aE := (69, 1, ([kvB 41 63], [], 0, [kvR 40, kvI 0], []), ([], none), ([kvB 0 1], [], kvI 1, ([], [])), kvW93)
theorem ks1025 : aseg kS krf kB [] (ksp []) kE1025 [] 30000 (none) = true := asgqk (by decide +kernel)
theorem kok1025 : aOK kS krf kB kE1025 := aOK_of kal0 kcl0 ks1025
/-- ColdShod$LawText.readOperand(LColdShod$LawCode;I)Z -/
noncomputable def kE1026 : aE := (66, 9, ([], [], 0, [kvR 40, kvR 17, kvN 5, none, none], []), ([], none), ([kvB 0 1], [], kvI 0, ([], [])), kvW92)
noncomputable def kC1026_0 : aC := (([kvB 33 45, kvB 0 119, kvB 1 120], [(40, 2, .inl (1, .ofNat 0)), (40, 1, .inl (2, .ofNat 0))], 65, [kvR 40, kvR 17, kvN 5, kvI 0, some (.inl (.inl (.inr (.negSucc 0))))], []), ([], []), (0, []))
theorem ks1026 : aseg kS krf kB [kE1016, kE1017, kE1024, kE1025, kE1018, kE1015] (ksp []) kE1026 [kC1026_0] 30000 (none) = true := asgqk (by decide +kernel)
theorem ks1026_0 : aseg kS krf kB [kE1016, kE1017, kE1024, kE1025, kE1018, kE1015] (ksp []) kE1026 [kC1026_0] 30000 (some kC1026_0) = true := asgqk (by decide +kernel)
theorem kok1026 : aOK kS krf kB kE1026 := aOK_of (kal1 kok1016 (kal1 kok1017 (kal1 kok1024 (kal1 kok1025 (kal1 kok1018 (kal1 kok1015 kal0)))))) (kcl1 ks1026_0 kcl0) ks1026
/-- ColdShod$LawText.readLevel(LColdShod$LawCode;II)Z -/
noncomputable def kE1027 : aE := (65, 10, ([], [], 0, [kvR 40, kvR 17, kvN 5, kvN 5, none, none, none], []), ([], none), ([kvB 0 1], [], kvI 0, ([], [])), kvW92)
theorem ks1027 : aseg kS krf kB [kE1026] (ksp []) kE1027 [] 30000 (none) = true := asgqk (by decide +kernel)
theorem kok1027 : aOK kS krf kB kE1027 := aOK_of (kal1 kok1026 kal0) kcl0 ks1027
/-- ColdShod$LawText.readLevel(LColdShod$LawCode;II)Z -/
noncomputable def kE1028 : aE := (65, 11, ([], [], 0, [kvR 40, kvR 17, kvN 4, kvN 5, none, none, none], []), ([], none), ([kvB 0 1], [], kvI 0, ([], [])), kvW92)
noncomputable def kC1028_0 : aC := (([kvB 0 120], [], 42, [kvR 40, kvR 17, kvN 4, kvN 5, kvN 120, kvI 0, none], []), ([], []), (120, [(-1, 0)]))
theorem ks1028 : aseg kS krf kB [kE1027, kE1015] (ksp []) kE1028 [kC1028_0] 30000 (none) = true := asgqk (by decide +kernel)
theorem ks1028_0 : aseg kS krf kB [kE1027, kE1015] (ksp []) kE1028 [kC1028_0] 30000 (some kC1028_0) = true := asgqk (by decide +kernel)
theorem kok1028 : aOK kS krf kB kE1028 := aOK_of (kal1 kok1027 (kal1 kok1015 kal0)) (kcl1 ks1028_0 kcl0) ks1028
/-- ColdShod$LawText.readLevel(LColdShod$LawCode;II)Z -/
noncomputable def kE1029 : aE := (65, 12, ([], [], 0, [kvR 40, kvR 17, kvN 3, kvN 5, none, none, none], []), ([], none), ([kvB 0 1], [], kvI 0, ([], [])), kvW92)
noncomputable def kC1029_0 : aC := (([kvB 0 120], [], 42, [kvR 40, kvR 17, kvN 3, kvN 5, kvN 120, kvI 0, none], []), ([], []), (120, [(-1, 0)]))
theorem ks1029 : aseg kS krf kB [kE1028, kE1015] (ksp []) kE1029 [kC1029_0] 30000 (none) = true := asgqk (by decide +kernel)
theorem ks1029_0 : aseg kS krf kB [kE1028, kE1015] (ksp []) kE1029 [kC1029_0] 30000 (some kC1029_0) = true := asgqk (by decide +kernel)
theorem kok1029 : aOK kS krf kB kE1029 := aOK_of (kal1 kok1028 (kal1 kok1015 kal0)) (kcl1 ks1029_0 kcl0) ks1029
/-- ColdShod$LawText.readLevel(LColdShod$LawCode;II)Z -/
noncomputable def kE1030 : aE := (65, 13, ([], [], 0, [kvR 40, kvR 17, kvN 2, kvN 5, none, none, none], []), ([], none), ([kvB 0 1], [], kvI 0, ([], [])), kvW92)
noncomputable def kC1030_0 : aC := (([kvB 0 1], [], 42, [kvR 40, kvR 17, kvN 2, kvN 5, kvN 1, kvI 0, none], []), ([], []), (1, [(-1, 0)]))
theorem ks1030 : aseg kS krf kB [kE1029, kE1015] (ksp []) kE1030 [kC1030_0] 30000 (none) = true := asgqk (by decide +kernel)
theorem ks1030_0 : aseg kS krf kB [kE1029, kE1015] (ksp []) kE1030 [kC1030_0] 30000 (some kC1030_0) = true := asgqk (by decide +kernel)
theorem kok1030 : aOK kS krf kB kE1030 := aOK_of (kal1 kok1029 (kal1 kok1015 kal0)) (kcl1 ks1030_0 kcl0) ks1030
/-- ColdShod$LawText.readLevel(LColdShod$LawCode;II)Z -/
noncomputable def kE1031 : aE := (65, 14, ([], [], 0, [kvR 40, kvR 17, kvN 1, kvN 5, none, none, none], []), ([], none), ([kvB 0 1], [], kvI 0, ([], [])), kvW92)
noncomputable def kC1031_0 : aC := (([kvB 0 120], [], 42, [kvR 40, kvR 17, kvN 1, kvN 5, kvN 120, kvI 0, none], []), ([], []), (120, [(-1, 0)]))
theorem ks1031 : aseg kS krf kB [kE1030, kE1015] (ksp []) kE1031 [kC1031_0] 30000 (none) = true := asgqk (by decide +kernel)
theorem ks1031_0 : aseg kS krf kB [kE1030, kE1015] (ksp []) kE1031 [kC1031_0] 30000 (some kC1031_0) = true := asgqk (by decide +kernel)
theorem kok1031 : aOK kS krf kB kE1031 := aOK_of (kal1 kok1030 (kal1 kok1015 kal0)) (kcl1 ks1031_0 kcl0) ks1031
/-- ColdShod$LawText.readLevel(LColdShod$LawCode;II)Z -/
noncomputable def kE1032 : aE := (65, 15, ([], [], 0, [kvR 40, kvR 17, kvN 0, kvN 5, none, none, none], []), ([], none), ([kvB 0 1], [], kvI 0, ([], [])), kvW92)
noncomputable def kC1032_0 : aC := (([kvB 0 120], [], 42, [kvR 40, kvR 17, kvN 0, kvN 5, kvN 120, kvI 0, none], []), ([], []), (120, [(-1, 0)]))
theorem ks1032 : aseg kS krf kB [kE1031, kE1015] (ksp []) kE1032 [kC1032_0] 30000 (none) = true := asgqk (by decide +kernel)
theorem ks1032_0 : aseg kS krf kB [kE1031, kE1015] (ksp []) kE1032 [kC1032_0] 30000 (some kC1032_0) = true := asgqk (by decide +kernel)
theorem kok1032 : aOK kS krf kB kE1032 := aOK_of (kal1 kok1031 (kal1 kok1015 kal0)) (kcl1 ks1032_0 kcl0) ks1032
/-- ColdShod$LawText.readOperand(LColdShod$LawCode;I)Z -/
noncomputable def kE1033 : aE := (66, 16, ([], [], 0, [kvR 40, kvR 17, kvN 4, none, none], []), ([], none), ([kvB 0 1], [], kvI 0, ([], [])), kvW92)
noncomputable def kC1033_0 : aC := (([kvB 33 45, kvB 0 119, kvB 1 120], [(40, 2, .inl (1, .ofNat 0)), (40, 1, .inl (2, .ofNat 0))], 65, [kvR 40, kvR 17, kvN 4, kvI 0, some (.inl (.inl (.inr (.negSucc 0))))], []), ([], []), (0, []))
theorem ks1033 : aseg kS krf kB [kE1016, kE1017, kE1032, kE1025, kE1026, kE1015] (ksp []) kE1033 [kC1033_0] 30000 (none) = true := asgqk (by decide +kernel)
theorem ks1033_0 : aseg kS krf kB [kE1016, kE1017, kE1032, kE1025, kE1026, kE1015] (ksp []) kE1033 [kC1033_0] 30000 (some kC1033_0) = true := asgqk (by decide +kernel)
theorem kok1033 : aOK kS krf kB kE1033 := aOK_of (kal1 kok1016 (kal1 kok1017 (kal1 kok1032 (kal1 kok1025 (kal1 kok1026 (kal1 kok1015 kal0)))))) (kcl1 ks1033_0 kcl0) ks1033
/-- ColdShod$LawText.readLevel(LColdShod$LawCode;II)Z -/
noncomputable def kE1034 : aE := (65, 17, ([], [], 0, [kvR 40, kvR 17, kvN 5, kvN 4, none, none, none], []), ([], none), ([kvB 0 1], [], kvI 0, ([], [])), kvW92)
theorem ks1034 : aseg kS krf kB [kE1033] (ksp []) kE1034 [] 30000 (none) = true := asgqk (by decide +kernel)
theorem kok1034 : aOK kS krf kB kE1034 := aOK_of (kal1 kok1033 kal0) kcl0 ks1034
/-- ColdShod$LawText.readLevel(LColdShod$LawCode;II)Z -/
noncomputable def kE1035 : aE := (65, 18, ([], [], 0, [kvR 40, kvR 17, kvN 4, kvN 4, none, none, none], []), ([], none), ([kvB 0 1], [], kvI 0, ([], [])), kvW92)
noncomputable def kC1035_0 : aC := (([kvB 0 120], [], 42, [kvR 40, kvR 17, kvN 4, kvN 4, kvN 120, kvI 0, none], []), ([], []), (120, [(-1, 0)]))
theorem ks1035 : aseg kS krf kB [kE1034, kE1015] (ksp []) kE1035 [kC1035_0] 30000 (none) = true := asgqk (by decide +kernel)
theorem ks1035_0 : aseg kS krf kB [kE1034, kE1015] (ksp []) kE1035 [kC1035_0] 30000 (some kC1035_0) = true := asgqk (by decide +kernel)
theorem kok1035 : aOK kS krf kB kE1035 := aOK_of (kal1 kok1034 (kal1 kok1015 kal0)) (kcl1 ks1035_0 kcl0) ks1035
/-- ColdShod$LawText.readLevel(LColdShod$LawCode;II)Z -/
noncomputable def kE1036 : aE := (65, 19, ([], [], 0, [kvR 40, kvR 17, kvN 3, kvN 4, none, none, none], []), ([], none), ([kvB 0 1], [], kvI 0, ([], [])), kvW92)
noncomputable def kC1036_0 : aC := (([kvB 0 120], [], 42, [kvR 40, kvR 17, kvN 3, kvN 4, kvN 120, kvI 0, none], []), ([], []), (120, [(-1, 0)]))
theorem ks1036 : aseg kS krf kB [kE1035, kE1015] (ksp []) kE1036 [kC1036_0] 30000 (none) = true := asgqk (by decide +kernel)
theorem ks1036_0 : aseg kS krf kB [kE1035, kE1015] (ksp []) kE1036 [kC1036_0] 30000 (some kC1036_0) = true := asgqk (by decide +kernel)
theorem kok1036 : aOK kS krf kB kE1036 := aOK_of (kal1 kok1035 (kal1 kok1015 kal0)) (kcl1 ks1036_0 kcl0) ks1036
/-- ColdShod$LawText.readLevel(LColdShod$LawCode;II)Z -/
noncomputable def kE1037 : aE := (65, 20, ([], [], 0, [kvR 40, kvR 17, kvN 2, kvN 4, none, none, none], []), ([], none), ([kvB 0 1], [], kvI 0, ([], [])), kvW92)
noncomputable def kC1037_0 : aC := (([kvB 0 1], [], 42, [kvR 40, kvR 17, kvN 2, kvN 4, kvN 1, kvI 0, none], []), ([], []), (1, [(-1, 0)]))
theorem ks1037 : aseg kS krf kB [kE1036, kE1015] (ksp []) kE1037 [kC1037_0] 30000 (none) = true := asgqk (by decide +kernel)
theorem ks1037_0 : aseg kS krf kB [kE1036, kE1015] (ksp []) kE1037 [kC1037_0] 30000 (some kC1037_0) = true := asgqk (by decide +kernel)
theorem kok1037 : aOK kS krf kB kE1037 := aOK_of (kal1 kok1036 (kal1 kok1015 kal0)) (kcl1 ks1037_0 kcl0) ks1037
/-- ColdShod$LawText.readLevel(LColdShod$LawCode;II)Z -/
noncomputable def kE1038 : aE := (65, 21, ([], [], 0, [kvR 40, kvR 17, kvN 1, kvN 4, none, none, none], []), ([], none), ([kvB 0 1], [], kvI 0, ([], [])), kvW92)
noncomputable def kC1038_0 : aC := (([kvB 0 120], [], 42, [kvR 40, kvR 17, kvN 1, kvN 4, kvN 120, kvI 0, none], []), ([], []), (120, [(-1, 0)]))
theorem ks1038 : aseg kS krf kB [kE1037, kE1015] (ksp []) kE1038 [kC1038_0] 30000 (none) = true := asgqk (by decide +kernel)
theorem ks1038_0 : aseg kS krf kB [kE1037, kE1015] (ksp []) kE1038 [kC1038_0] 30000 (some kC1038_0) = true := asgqk (by decide +kernel)
theorem kok1038 : aOK kS krf kB kE1038 := aOK_of (kal1 kok1037 (kal1 kok1015 kal0)) (kcl1 ks1038_0 kcl0) ks1038
/-- ColdShod$LawText.readLevel(LColdShod$LawCode;II)Z -/
noncomputable def kE1039 : aE := (65, 22, ([], [], 0, [kvR 40, kvR 17, kvN 0, kvN 4, none, none, none], []), ([], none), ([kvB 0 1], [], kvI 0, ([], [])), kvW92)
noncomputable def kC1039_0 : aC := (([kvB 0 120], [], 42, [kvR 40, kvR 17, kvN 0, kvN 4, kvN 120, kvI 0, none], []), ([], []), (120, [(-1, 0)]))
theorem ks1039 : aseg kS krf kB [kE1038, kE1015] (ksp []) kE1039 [kC1039_0] 30000 (none) = true := asgqk (by decide +kernel)
theorem ks1039_0 : aseg kS krf kB [kE1038, kE1015] (ksp []) kE1039 [kC1039_0] 30000 (some kC1039_0) = true := asgqk (by decide +kernel)
theorem kok1039 : aOK kS krf kB kE1039 := aOK_of (kal1 kok1038 (kal1 kok1015 kal0)) (kcl1 ks1039_0 kcl0) ks1039
/-- ColdShod$LawText.readOperand(LColdShod$LawCode;I)Z -/
noncomputable def kE1040 : aE := (66, 23, ([], [], 0, [kvR 40, kvR 17, kvN 3, none, none], []), ([], none), ([kvB 0 1], [], kvI 0, ([], [])), kvW92)
noncomputable def kC1040_0 : aC := (([kvB 33 45, kvB 0 119, kvB 1 120], [(40, 2, .inl (1, .ofNat 0)), (40, 1, .inl (2, .ofNat 0))], 65, [kvR 40, kvR 17, kvN 3, kvI 0, some (.inl (.inl (.inr (.negSucc 0))))], []), ([], []), (0, []))
theorem ks1040 : aseg kS krf kB [kE1016, kE1017, kE1039, kE1025, kE1033, kE1015] (ksp []) kE1040 [kC1040_0] 30000 (none) = true := asgqk (by decide +kernel)
theorem ks1040_0 : aseg kS krf kB [kE1016, kE1017, kE1039, kE1025, kE1033, kE1015] (ksp []) kE1040 [kC1040_0] 30000 (some kC1040_0) = true := asgqk (by decide +kernel)
theorem kok1040 : aOK kS krf kB kE1040 := aOK_of (kal1 kok1016 (kal1 kok1017 (kal1 kok1039 (kal1 kok1025 (kal1 kok1033 (kal1 kok1015 kal0)))))) (kcl1 ks1040_0 kcl0) ks1040
/-- ColdShod$LawText.readLevel(LColdShod$LawCode;II)Z -/
noncomputable def kE1041 : aE := (65, 24, ([], [], 0, [kvR 40, kvR 17, kvN 5, kvN 3, none, none, none], []), ([], none), ([kvB 0 1], [], kvI 0, ([], [])), kvW92)
theorem ks1041 : aseg kS krf kB [kE1040] (ksp []) kE1041 [] 30000 (none) = true := asgqk (by decide +kernel)
theorem kok1041 : aOK kS krf kB kE1041 := aOK_of (kal1 kok1040 kal0) kcl0 ks1041
/-- ColdShod$LawText.readLevel(LColdShod$LawCode;II)Z -/
noncomputable def kE1042 : aE := (65, 25, ([], [], 0, [kvR 40, kvR 17, kvN 4, kvN 3, none, none, none], []), ([], none), ([kvB 0 1], [], kvI 0, ([], [])), kvW92)
noncomputable def kC1042_0 : aC := (([kvB 0 120], [], 42, [kvR 40, kvR 17, kvN 4, kvN 3, kvN 120, kvI 0, none], []), ([], []), (120, [(-1, 0)]))
theorem ks1042 : aseg kS krf kB [kE1041, kE1015] (ksp []) kE1042 [kC1042_0] 30000 (none) = true := asgqk (by decide +kernel)
theorem ks1042_0 : aseg kS krf kB [kE1041, kE1015] (ksp []) kE1042 [kC1042_0] 30000 (some kC1042_0) = true := asgqk (by decide +kernel)
theorem kok1042 : aOK kS krf kB kE1042 := aOK_of (kal1 kok1041 (kal1 kok1015 kal0)) (kcl1 ks1042_0 kcl0) ks1042
/-- ColdShod$LawText.readLevel(LColdShod$LawCode;II)Z -/
noncomputable def kE1043 : aE := (65, 26, ([], [], 0, [kvR 40, kvR 17, kvN 3, kvN 3, none, none, none], []), ([], none), ([kvB 0 1], [], kvI 0, ([], [])), kvW92)
noncomputable def kC1043_0 : aC := (([kvB 0 120], [], 42, [kvR 40, kvR 17, kvN 3, kvN 3, kvN 120, kvI 0, none], []), ([], []), (120, [(-1, 0)]))
theorem ks1043 : aseg kS krf kB [kE1042, kE1015] (ksp []) kE1043 [kC1043_0] 30000 (none) = true := asgqk (by decide +kernel)
theorem ks1043_0 : aseg kS krf kB [kE1042, kE1015] (ksp []) kE1043 [kC1043_0] 30000 (some kC1043_0) = true := asgqk (by decide +kernel)
theorem kok1043 : aOK kS krf kB kE1043 := aOK_of (kal1 kok1042 (kal1 kok1015 kal0)) (kcl1 ks1043_0 kcl0) ks1043
/-- ColdShod$LawText.readLevel(LColdShod$LawCode;II)Z -/
noncomputable def kE1044 : aE := (65, 27, ([], [], 0, [kvR 40, kvR 17, kvN 2, kvN 3, none, none, none], []), ([], none), ([kvB 0 1], [], kvI 0, ([], [])), kvW92)
noncomputable def kC1044_0 : aC := (([kvB 0 1], [], 42, [kvR 40, kvR 17, kvN 2, kvN 3, kvN 1, kvI 0, none], []), ([], []), (1, [(-1, 0)]))
theorem ks1044 : aseg kS krf kB [kE1043, kE1015] (ksp []) kE1044 [kC1044_0] 30000 (none) = true := asgqk (by decide +kernel)
theorem ks1044_0 : aseg kS krf kB [kE1043, kE1015] (ksp []) kE1044 [kC1044_0] 30000 (some kC1044_0) = true := asgqk (by decide +kernel)
theorem kok1044 : aOK kS krf kB kE1044 := aOK_of (kal1 kok1043 (kal1 kok1015 kal0)) (kcl1 ks1044_0 kcl0) ks1044
/-- ColdShod$LawText.readLevel(LColdShod$LawCode;II)Z -/
noncomputable def kE1045 : aE := (65, 28, ([], [], 0, [kvR 40, kvR 17, kvN 1, kvN 3, none, none, none], []), ([], none), ([kvB 0 1], [], kvI 0, ([], [])), kvW92)
noncomputable def kC1045_0 : aC := (([kvB 0 120], [], 42, [kvR 40, kvR 17, kvN 1, kvN 3, kvN 120, kvI 0, none], []), ([], []), (120, [(-1, 0)]))
theorem ks1045 : aseg kS krf kB [kE1044, kE1015] (ksp []) kE1045 [kC1045_0] 30000 (none) = true := asgqk (by decide +kernel)
theorem ks1045_0 : aseg kS krf kB [kE1044, kE1015] (ksp []) kE1045 [kC1045_0] 30000 (some kC1045_0) = true := asgqk (by decide +kernel)
theorem kok1045 : aOK kS krf kB kE1045 := aOK_of (kal1 kok1044 (kal1 kok1015 kal0)) (kcl1 ks1045_0 kcl0) ks1045
/-- ColdShod$LawText.readLevel(LColdShod$LawCode;II)Z -/
noncomputable def kE1046 : aE := (65, 29, ([], [], 0, [kvR 40, kvR 17, kvN 0, kvN 3, none, none, none], []), ([], none), ([kvB 0 1], [], kvI 0, ([], [])), kvW92)
noncomputable def kC1046_0 : aC := (([kvB 0 120], [], 42, [kvR 40, kvR 17, kvN 0, kvN 3, kvN 120, kvI 0, none], []), ([], []), (120, [(-1, 0)]))
theorem ks1046 : aseg kS krf kB [kE1045, kE1015] (ksp []) kE1046 [kC1046_0] 30000 (none) = true := asgqk (by decide +kernel)
theorem ks1046_0 : aseg kS krf kB [kE1045, kE1015] (ksp []) kE1046 [kC1046_0] 30000 (some kC1046_0) = true := asgqk (by decide +kernel)
theorem kok1046 : aOK kS krf kB kE1046 := aOK_of (kal1 kok1045 (kal1 kok1015 kal0)) (kcl1 ks1046_0 kcl0) ks1046
/-- ColdShod$LawText.readOperand(LColdShod$LawCode;I)Z -/
noncomputable def kE1047 : aE := (66, 30, ([], [], 0, [kvR 40, kvR 17, kvN 2, none, none], []), ([], none), ([kvB 0 1], [], kvI 0, ([], [])), kvW92)
noncomputable def kC1047_0 : aC := (([kvB 33 45, kvB 0 119, kvB 1 120], [(40, 2, .inl (1, .ofNat 0)), (40, 1, .inl (2, .ofNat 0))], 65, [kvR 40, kvR 17, kvN 2, kvI 0, some (.inl (.inl (.inr (.negSucc 0))))], []), ([], []), (0, []))
theorem ks1047 : aseg kS krf kB [kE1016, kE1017, kE1046, kE1025, kE1040, kE1015] (ksp []) kE1047 [kC1047_0] 30000 (none) = true := asgqk (by decide +kernel)
theorem ks1047_0 : aseg kS krf kB [kE1016, kE1017, kE1046, kE1025, kE1040, kE1015] (ksp []) kE1047 [kC1047_0] 30000 (some kC1047_0) = true := asgqk (by decide +kernel)
theorem kok1047 : aOK kS krf kB kE1047 := aOK_of (kal1 kok1016 (kal1 kok1017 (kal1 kok1046 (kal1 kok1025 (kal1 kok1040 (kal1 kok1015 kal0)))))) (kcl1 ks1047_0 kcl0) ks1047
/-- ColdShod$LawText.readLevel(LColdShod$LawCode;II)Z -/
noncomputable def kE1048 : aE := (65, 31, ([], [], 0, [kvR 40, kvR 17, kvN 5, kvN 2, none, none, none], []), ([], none), ([kvB 0 1], [], kvI 0, ([], [])), kvW92)
theorem ks1048 : aseg kS krf kB [kE1047] (ksp []) kE1048 [] 30000 (none) = true := asgqk (by decide +kernel)
theorem kok1048 : aOK kS krf kB kE1048 := aOK_of (kal1 kok1047 kal0) kcl0 ks1048
/-- ColdShod$LawText.readLevel(LColdShod$LawCode;II)Z -/
noncomputable def kE1049 : aE := (65, 32, ([], [], 0, [kvR 40, kvR 17, kvN 4, kvN 2, none, none, none], []), ([], none), ([kvB 0 1], [], kvI 0, ([], [])), kvW92)
noncomputable def kC1049_0 : aC := (([kvB 0 120], [], 42, [kvR 40, kvR 17, kvN 4, kvN 2, kvN 120, kvI 0, none], []), ([], []), (120, [(-1, 0)]))
theorem ks1049 : aseg kS krf kB [kE1048, kE1015] (ksp []) kE1049 [kC1049_0] 30000 (none) = true := asgqk (by decide +kernel)
theorem ks1049_0 : aseg kS krf kB [kE1048, kE1015] (ksp []) kE1049 [kC1049_0] 30000 (some kC1049_0) = true := asgqk (by decide +kernel)
theorem kok1049 : aOK kS krf kB kE1049 := aOK_of (kal1 kok1048 (kal1 kok1015 kal0)) (kcl1 ks1049_0 kcl0) ks1049
/-- ColdShod$LawText.readLevel(LColdShod$LawCode;II)Z -/
noncomputable def kE1050 : aE := (65, 33, ([], [], 0, [kvR 40, kvR 17, kvN 3, kvN 2, none, none, none], []), ([], none), ([kvB 0 1], [], kvI 0, ([], [])), kvW92)
noncomputable def kC1050_0 : aC := (([kvB 0 120], [], 42, [kvR 40, kvR 17, kvN 3, kvN 2, kvN 120, kvI 0, none], []), ([], []), (120, [(-1, 0)]))
theorem ks1050 : aseg kS krf kB [kE1049, kE1015] (ksp []) kE1050 [kC1050_0] 30000 (none) = true := asgqk (by decide +kernel)
theorem ks1050_0 : aseg kS krf kB [kE1049, kE1015] (ksp []) kE1050 [kC1050_0] 30000 (some kC1050_0) = true := asgqk (by decide +kernel)
theorem kok1050 : aOK kS krf kB kE1050 := aOK_of (kal1 kok1049 (kal1 kok1015 kal0)) (kcl1 ks1050_0 kcl0) ks1050
/-- ColdShod$LawText.readLevel(LColdShod$LawCode;II)Z -/
noncomputable def kE1051 : aE := (65, 34, ([], [], 0, [kvR 40, kvR 17, kvN 2, kvN 2, none, none, none], []), ([], none), ([kvB 0 1], [], kvI 0, ([], [])), kvW92)
noncomputable def kC1051_0 : aC := (([kvB 0 1], [], 42, [kvR 40, kvR 17, kvN 2, kvN 2, kvN 1, kvI 0, none], []), ([], []), (1, [(-1, 0)]))
theorem ks1051 : aseg kS krf kB [kE1050, kE1015] (ksp []) kE1051 [kC1051_0] 30000 (none) = true := asgqk (by decide +kernel)
theorem ks1051_0 : aseg kS krf kB [kE1050, kE1015] (ksp []) kE1051 [kC1051_0] 30000 (some kC1051_0) = true := asgqk (by decide +kernel)
theorem kok1051 : aOK kS krf kB kE1051 := aOK_of (kal1 kok1050 (kal1 kok1015 kal0)) (kcl1 ks1051_0 kcl0) ks1051
/-- ColdShod$LawText.readLevel(LColdShod$LawCode;II)Z -/
noncomputable def kE1052 : aE := (65, 35, ([], [], 0, [kvR 40, kvR 17, kvN 1, kvN 2, none, none, none], []), ([], none), ([kvB 0 1], [], kvI 0, ([], [])), kvW92)
noncomputable def kC1052_0 : aC := (([kvB 0 120], [], 42, [kvR 40, kvR 17, kvN 1, kvN 2, kvN 120, kvI 0, none], []), ([], []), (120, [(-1, 0)]))
theorem ks1052 : aseg kS krf kB [kE1051, kE1015] (ksp []) kE1052 [kC1052_0] 30000 (none) = true := asgqk (by decide +kernel)
theorem ks1052_0 : aseg kS krf kB [kE1051, kE1015] (ksp []) kE1052 [kC1052_0] 30000 (some kC1052_0) = true := asgqk (by decide +kernel)
theorem kok1052 : aOK kS krf kB kE1052 := aOK_of (kal1 kok1051 (kal1 kok1015 kal0)) (kcl1 ks1052_0 kcl0) ks1052
/-- ColdShod$LawText.readLevel(LColdShod$LawCode;II)Z -/
noncomputable def kE1053 : aE := (65, 36, ([], [], 0, [kvR 40, kvR 17, kvN 0, kvN 2, none, none, none], []), ([], none), ([kvB 0 1], [], kvI 0, ([], [])), kvW92)
noncomputable def kC1053_0 : aC := (([kvB 0 120], [], 42, [kvR 40, kvR 17, kvN 0, kvN 2, kvN 120, kvI 0, none], []), ([], []), (120, [(-1, 0)]))
theorem ks1053 : aseg kS krf kB [kE1052, kE1015] (ksp []) kE1053 [kC1053_0] 30000 (none) = true := asgqk (by decide +kernel)
theorem ks1053_0 : aseg kS krf kB [kE1052, kE1015] (ksp []) kE1053 [kC1053_0] 30000 (some kC1053_0) = true := asgqk (by decide +kernel)
theorem kok1053 : aOK kS krf kB kE1053 := aOK_of (kal1 kok1052 (kal1 kok1015 kal0)) (kcl1 ks1053_0 kcl0) ks1053
/-- ColdShod$LawText.readOperand(LColdShod$LawCode;I)Z -/
noncomputable def kE1054 : aE := (66, 37, ([], [], 0, [kvR 40, kvR 17, kvN 1, none, none], []), ([], none), ([kvB 0 1], [], kvI 0, ([], [])), kvW92)
noncomputable def kC1054_0 : aC := (([kvB 33 45, kvB 0 119, kvB 1 120], [(40, 2, .inl (1, .ofNat 0)), (40, 1, .inl (2, .ofNat 0))], 65, [kvR 40, kvR 17, kvN 1, kvI 0, some (.inl (.inl (.inr (.negSucc 0))))], []), ([], []), (0, []))
theorem ks1054 : aseg kS krf kB [kE1016, kE1017, kE1053, kE1025, kE1047, kE1015] (ksp []) kE1054 [kC1054_0] 30000 (none) = true := asgqk (by decide +kernel)
theorem ks1054_0 : aseg kS krf kB [kE1016, kE1017, kE1053, kE1025, kE1047, kE1015] (ksp []) kE1054 [kC1054_0] 30000 (some kC1054_0) = true := asgqk (by decide +kernel)
theorem kok1054 : aOK kS krf kB kE1054 := aOK_of (kal1 kok1016 (kal1 kok1017 (kal1 kok1053 (kal1 kok1025 (kal1 kok1047 (kal1 kok1015 kal0)))))) (kcl1 ks1054_0 kcl0) ks1054
/-- ColdShod$LawText.readLevel(LColdShod$LawCode;II)Z -/
noncomputable def kE1055 : aE := (65, 38, ([], [], 0, [kvR 40, kvR 17, kvN 5, kvN 1, none, none, none], []), ([], none), ([kvB 0 1], [], kvI 0, ([], [])), kvW92)
theorem ks1055 : aseg kS krf kB [kE1054] (ksp []) kE1055 [] 30000 (none) = true := asgqk (by decide +kernel)
theorem kok1055 : aOK kS krf kB kE1055 := aOK_of (kal1 kok1054 kal0) kcl0 ks1055
/-- ColdShod$LawText.readLevel(LColdShod$LawCode;II)Z -/
noncomputable def kE1056 : aE := (65, 39, ([], [], 0, [kvR 40, kvR 17, kvN 4, kvN 1, none, none, none], []), ([], none), ([kvB 0 1], [], kvI 0, ([], [])), kvW92)
noncomputable def kC1056_0 : aC := (([kvB 0 120], [], 42, [kvR 40, kvR 17, kvN 4, kvN 1, kvN 120, kvI 0, none], []), ([], []), (120, [(-1, 0)]))
theorem ks1056 : aseg kS krf kB [kE1055, kE1015] (ksp []) kE1056 [kC1056_0] 30000 (none) = true := asgqk (by decide +kernel)
theorem ks1056_0 : aseg kS krf kB [kE1055, kE1015] (ksp []) kE1056 [kC1056_0] 30000 (some kC1056_0) = true := asgqk (by decide +kernel)
theorem kok1056 : aOK kS krf kB kE1056 := aOK_of (kal1 kok1055 (kal1 kok1015 kal0)) (kcl1 ks1056_0 kcl0) ks1056
/-- ColdShod$LawText.readLevel(LColdShod$LawCode;II)Z -/
noncomputable def kE1057 : aE := (65, 40, ([], [], 0, [kvR 40, kvR 17, kvN 3, kvN 1, none, none, none], []), ([], none), ([kvB 0 1], [], kvI 0, ([], [])), kvW92)
noncomputable def kC1057_0 : aC := (([kvB 0 120], [], 42, [kvR 40, kvR 17, kvN 3, kvN 1, kvN 120, kvI 0, none], []), ([], []), (120, [(-1, 0)]))
theorem ks1057 : aseg kS krf kB [kE1056, kE1015] (ksp []) kE1057 [kC1057_0] 30000 (none) = true := asgqk (by decide +kernel)
theorem ks1057_0 : aseg kS krf kB [kE1056, kE1015] (ksp []) kE1057 [kC1057_0] 30000 (some kC1057_0) = true := asgqk (by decide +kernel)
theorem kok1057 : aOK kS krf kB kE1057 := aOK_of (kal1 kok1056 (kal1 kok1015 kal0)) (kcl1 ks1057_0 kcl0) ks1057
/-- ColdShod$LawText.readLevel(LColdShod$LawCode;II)Z -/
noncomputable def kE1058 : aE := (65, 41, ([], [], 0, [kvR 40, kvR 17, kvN 2, kvN 1, none, none, none], []), ([], none), ([kvB 0 1], [], kvI 0, ([], [])), kvW92)
noncomputable def kC1058_0 : aC := (([kvB 0 1], [], 42, [kvR 40, kvR 17, kvN 2, kvN 1, kvN 1, kvI 0, none], []), ([], []), (1, [(-1, 0)]))
theorem ks1058 : aseg kS krf kB [kE1057, kE1015] (ksp []) kE1058 [kC1058_0] 30000 (none) = true := asgqk (by decide +kernel)
theorem ks1058_0 : aseg kS krf kB [kE1057, kE1015] (ksp []) kE1058 [kC1058_0] 30000 (some kC1058_0) = true := asgqk (by decide +kernel)
theorem kok1058 : aOK kS krf kB kE1058 := aOK_of (kal1 kok1057 (kal1 kok1015 kal0)) (kcl1 ks1058_0 kcl0) ks1058
/-- ColdShod$LawText.readLevel(LColdShod$LawCode;II)Z -/
noncomputable def kE1059 : aE := (65, 42, ([], [], 0, [kvR 40, kvR 17, kvN 1, kvN 1, none, none, none], []), ([], none), ([kvB 0 1], [], kvI 0, ([], [])), kvW92)
noncomputable def kC1059_0 : aC := (([kvB 0 120], [], 42, [kvR 40, kvR 17, kvN 1, kvN 1, kvN 120, kvI 0, none], []), ([], []), (120, [(-1, 0)]))
theorem ks1059 : aseg kS krf kB [kE1058, kE1015] (ksp []) kE1059 [kC1059_0] 30000 (none) = true := asgqk (by decide +kernel)
theorem ks1059_0 : aseg kS krf kB [kE1058, kE1015] (ksp []) kE1059 [kC1059_0] 30000 (some kC1059_0) = true := asgqk (by decide +kernel)
theorem kok1059 : aOK kS krf kB kE1059 := aOK_of (kal1 kok1058 (kal1 kok1015 kal0)) (kcl1 ks1059_0 kcl0) ks1059
/-- ColdShod$LawText.readLevel(LColdShod$LawCode;II)Z -/
noncomputable def kE1060 : aE := (65, 43, ([], [], 0, [kvR 40, kvR 17, kvN 0, kvN 1, none, none, none], []), ([], none), ([kvB 0 1], [], kvI 0, ([], [])), kvW92)
noncomputable def kC1060_0 : aC := (([kvB 0 120], [], 42, [kvR 40, kvR 17, kvN 0, kvN 1, kvN 120, kvI 0, none], []), ([], []), (120, [(-1, 0)]))
theorem ks1060 : aseg kS krf kB [kE1059, kE1015] (ksp []) kE1060 [kC1060_0] 30000 (none) = true := asgqk (by decide +kernel)
theorem ks1060_0 : aseg kS krf kB [kE1059, kE1015] (ksp []) kE1060 [kC1060_0] 30000 (some kC1060_0) = true := asgqk (by decide +kernel)
theorem kok1060 : aOK kS krf kB kE1060 := aOK_of (kal1 kok1059 (kal1 kok1015 kal0)) (kcl1 ks1060_0 kcl0) ks1060
/-- ColdShod$LawText.readOperand(LColdShod$LawCode;I)Z -/
noncomputable def kE1061 : aE := (66, 44, ([], [], 0, [kvR 40, kvR 17, kvN 0, none, none], []), ([], none), ([kvB 0 1], [], kvI 0, ([], [])), kvW92)
noncomputable def kC1061_0 : aC := (([kvB 33 45, kvB 0 119, kvB 1 120], [(40, 2, .inl (1, .ofNat 0)), (40, 1, .inl (2, .ofNat 0))], 65, [kvR 40, kvR 17, kvN 0, kvI 0, some (.inl (.inl (.inr (.negSucc 0))))], []), ([], []), (0, []))
theorem ks1061 : aseg kS krf kB [kE1016, kE1017, kE1060, kE1025, kE1054, kE1015] (ksp []) kE1061 [kC1061_0] 30000 (none) = true := asgqk (by decide +kernel)
theorem ks1061_0 : aseg kS krf kB [kE1016, kE1017, kE1060, kE1025, kE1054, kE1015] (ksp []) kE1061 [kC1061_0] 30000 (some kC1061_0) = true := asgqk (by decide +kernel)
theorem kok1061 : aOK kS krf kB kE1061 := aOK_of (kal1 kok1016 (kal1 kok1017 (kal1 kok1060 (kal1 kok1025 (kal1 kok1054 (kal1 kok1015 kal0)))))) (kcl1 ks1061_0 kcl0) ks1061
/-- ColdShod$LawText.readLevel(LColdShod$LawCode;II)Z -/
noncomputable def kE1062 : aE := (65, 45, ([], [], 0, [kvR 40, kvR 17, kvN 5, kvN 0, none, none, none], []), ([], none), ([kvB 0 1], [], kvI 0, ([], [])), kvW92)
theorem ks1062 : aseg kS krf kB [kE1061] (ksp []) kE1062 [] 30000 (none) = true := asgqk (by decide +kernel)
theorem kok1062 : aOK kS krf kB kE1062 := aOK_of (kal1 kok1061 kal0) kcl0 ks1062
/-- ColdShod$LawText.readLevel(LColdShod$LawCode;II)Z -/
noncomputable def kE1063 : aE := (65, 46, ([], [], 0, [kvR 40, kvR 17, kvN 4, kvN 0, none, none, none], []), ([], none), ([kvB 0 1], [], kvI 0, ([], [])), kvW92)
noncomputable def kC1063_0 : aC := (([kvB 0 120], [], 42, [kvR 40, kvR 17, kvN 4, kvN 0, kvN 120, kvI 0, none], []), ([], []), (120, [(-1, 0)]))
theorem ks1063 : aseg kS krf kB [kE1062, kE1015] (ksp []) kE1063 [kC1063_0] 30000 (none) = true := asgqk (by decide +kernel)
theorem ks1063_0 : aseg kS krf kB [kE1062, kE1015] (ksp []) kE1063 [kC1063_0] 30000 (some kC1063_0) = true := asgqk (by decide +kernel)
theorem kok1063 : aOK kS krf kB kE1063 := aOK_of (kal1 kok1062 (kal1 kok1015 kal0)) (kcl1 ks1063_0 kcl0) ks1063
/-- ColdShod$LawText.readLevel(LColdShod$LawCode;II)Z -/
noncomputable def kE1064 : aE := (65, 47, ([], [], 0, [kvR 40, kvR 17, kvN 3, kvN 0, none, none, none], []), ([], none), ([kvB 0 1], [], kvI 0, ([], [])), kvW92)
noncomputable def kC1064_0 : aC := (([kvB 0 120], [], 42, [kvR 40, kvR 17, kvN 3, kvN 0, kvN 120, kvI 0, none], []), ([], []), (120, [(-1, 0)]))
theorem ks1064 : aseg kS krf kB [kE1063, kE1015] (ksp []) kE1064 [kC1064_0] 30000 (none) = true := asgqk (by decide +kernel)
theorem ks1064_0 : aseg kS krf kB [kE1063, kE1015] (ksp []) kE1064 [kC1064_0] 30000 (some kC1064_0) = true := asgqk (by decide +kernel)
theorem kok1064 : aOK kS krf kB kE1064 := aOK_of (kal1 kok1063 (kal1 kok1015 kal0)) (kcl1 ks1064_0 kcl0) ks1064
/-- ColdShod$LawText.readLevel(LColdShod$LawCode;II)Z -/
noncomputable def kE1065 : aE := (65, 48, ([], [], 0, [kvR 40, kvR 17, kvN 2, kvN 0, none, none, none], []), ([], none), ([kvB 0 1], [], kvI 0, ([], [])), kvW92)
noncomputable def kC1065_0 : aC := (([kvB 0 1], [], 42, [kvR 40, kvR 17, kvN 2, kvN 0, kvN 1, kvI 0, none], []), ([], []), (1, [(-1, 0)]))
theorem ks1065 : aseg kS krf kB [kE1064, kE1015] (ksp []) kE1065 [kC1065_0] 30000 (none) = true := asgqk (by decide +kernel)
theorem ks1065_0 : aseg kS krf kB [kE1064, kE1015] (ksp []) kE1065 [kC1065_0] 30000 (some kC1065_0) = true := asgqk (by decide +kernel)
theorem kok1065 : aOK kS krf kB kE1065 := aOK_of (kal1 kok1064 (kal1 kok1015 kal0)) (kcl1 ks1065_0 kcl0) ks1065
/-! ENTRIES and their checks: printed by a program (wip/ai). -/
/-- ColdShod$LawText.readLevel(LColdShod$LawCode;II)Z -/
noncomputable def kE1066 : aE := (65, 49, ([], [], 0, [kvR 40, kvR 17, kvN 1, kvN 0, none, none, none], []), ([], none), ([kvB 0 1], [], kvI 0, ([], [])), kvW92)
noncomputable def kC1066_0 : aC := (([kvB 0 120], [], 42, [kvR 40, kvR 17, kvN 1, kvN 0, kvN 120, kvI 0, none], []), ([], []), (120, [(-1, 0)]))
theorem ks1066 : aseg kS krf kB [kE1065, kE1015] (ksp []) kE1066 [kC1066_0] 30000 (none) = true := asgqk (by decide +kernel)
theorem ks1066_0 : aseg kS krf kB [kE1065, kE1015] (ksp []) kE1066 [kC1066_0] 30000 (some kC1066_0) = true := asgqk (by decide +kernel)
theorem kok1066 : aOK kS krf kB kE1066 := aOK_of (kal1 kok1065 (kal1 kok1015 kal0)) (kcl1 ks1066_0 kcl0) ks1066
/-- ColdShod$LawText.readLevel(LColdShod$LawCode;II)Z -/
noncomputable def kE1067 : aE := (65, 50, ([], [], 0, [kvR 40, kvR 17, kvN 0, kvN 0, none, none, none], []), ([], none), ([kvB 0 1], [], kvI 0, ([], [])), kvW92)
noncomputable def kC1067_0 : aC := (([kvB 0 120], [], 42, [kvR 40, kvR 17, kvN 0, kvN 0, kvN 120, kvI 0, none], []), ([], []), (120, [(-1, 0)]))
theorem ks1067 : aseg kS krf kB [kE1066, kE1015] (ksp []) kE1067 [kC1067_0] 30000 (none) = true := asgqk (by decide +kernel)
theorem ks1067_0 : aseg kS krf kB [kE1066, kE1015] (ksp []) kE1067 [kC1067_0] 30000 (some kC1067_0) = true := asgqk (by decide +kernel)
theorem kok1067 : aOK kS krf kB kE1067 := aOK_of (kal1 kok1066 (kal1 kok1015 kal0)) (kcl1 ks1067_0 kcl0) ks1067
/-- ColdShod$LawCode.add(I)V -/
noncomputable def kE1068 : aE := (54, 0, ([kvA], [], 0, [kvR 14, kvI 0], []), ([], none), ([], [], none, ([], [])), kvW94)
theorem ks1068 : aseg kS krf kB [] (ksp []) kE1068 [] 30000 (none) = true := asgqk (by decide +kernel)
theorem kok1068 : aOK kS krf kB kE1068 := aOK_of kal0 kcl0 ks1068
/-- ColdShod$LawText.readNumber(LColdShod$LawCode;)Z -/
noncomputable def kE1069 : aE := (67, 1, ([], [], 0, [kvR 40, kvR 14, none, none], []), ([], none), ([kvB 1 1], [], kvI 0, ([], [])), kvW95)
noncomputable def kC1069_0 : aC := (([kvA, kvB 0 4], [], 4, [kvR 40, kvR 14, kvI 0, kvI 1], []), ([], []), (4, [(-1, 1)]))
theorem ks1069 : aseg kS krf kB [kE1068] (ksp []) kE1069 [kC1069_0] 30000 (none) = true := asgqk (by decide +kernel)
theorem ks1069_0 : aseg kS krf kB [kE1068] (ksp []) kE1069 [kC1069_0] 30000 (some kC1069_0) = true := asgqk (by decide +kernel)
theorem kok1069 : aOK kS krf kB kE1069 := aOK_of (kal1 kok1068 kal0) (kcl1 ks1069_0 kcl0) ks1069
/-- ColdShod$LawCode.addName(I)V -/
noncomputable def kE1070 : aE := (55, 1, ([kvB 0 5], [], 0, [kvR 14, kvI 0], []), ([], none), ([], [], none, ([], [])), kvW96)
theorem ks1070 : aseg kS krf kB [kE1068] (ksp []) kE1070 [] 30000 (none) = true := asgqk (by decide +kernel)
theorem kok1070 : aOK kS krf kB kE1070 := aOK_of (kal1 kok1068 kal0) kcl0 ks1070
/-- ColdShod$LawText.readOperand(LColdShod$LawCode;I)Z -/
noncomputable def kE1071 : aE := (66, 2, ([], [], 0, [kvR 40, kvR 14, kvN 6, none, none], []), ([], none), ([kvB 0 1], [], kvI 0, ([], [])), kvW97)
noncomputable def kC1071_0 : aC := (([kvB 33 45, kvB 0 119, kvB 1 120], [(40, 2, .inl (1, .ofNat 0)), (40, 1, .inl (2, .ofNat 0))], 65, [kvR 40, kvR 14, kvN 6, kvI 0, some (.inl (.inl (.inr (.negSucc 0))))], []), ([], []), (0, []))
theorem ks1071 : aseg kS krf kB [kE1069, kE1070] (ksp []) kE1071 [kC1071_0] 30000 (none) = true := asgqk (by decide +kernel)
theorem ks1071_0 : aseg kS krf kB [kE1069, kE1070] (ksp []) kE1071 [kC1071_0] 30000 (some kC1071_0) = true := asgqk (by decide +kernel)
theorem kok1071 : aOK kS krf kB kE1071 := aOK_of (kal1 kok1069 (kal1 kok1070 kal0)) (kcl1 ks1071_0 kcl0) ks1071
/-- ColdShod$LawText.readLevel(LColdShod$LawCode;II)Z -/
noncomputable def kE1072 : aE := (65, 3, ([], [], 0, [kvR 40, kvR 14, kvN 5, kvN 6, none, none, none], []), ([], none), ([kvB 0 1], [], kvI 0, ([], [])), kvW97)
theorem ks1072 : aseg kS krf kB [kE1071] (ksp []) kE1072 [] 30000 (none) = true := asgqk (by decide +kernel)
theorem kok1072 : aOK kS krf kB kE1072 := aOK_of (kal1 kok1071 kal0) kcl0 ks1072
/-- ColdShod$LawText.readLevel(LColdShod$LawCode;II)Z -/
noncomputable def kE1073 : aE := (65, 4, ([], [], 0, [kvR 40, kvR 14, kvN 4, kvN 6, none, none, none], []), ([], none), ([kvB 0 1], [], kvI 0, ([], [])), kvW97)
noncomputable def kC1073_0 : aC := (([kvB 0 120], [], 42, [kvR 40, kvR 14, kvN 4, kvN 6, kvN 120, kvI 0, none], []), ([], []), (120, [(-1, 0)]))
theorem ks1073 : aseg kS krf kB [kE1072, kE1068] (ksp []) kE1073 [kC1073_0] 30000 (none) = true := asgqk (by decide +kernel)
theorem ks1073_0 : aseg kS krf kB [kE1072, kE1068] (ksp []) kE1073 [kC1073_0] 30000 (some kC1073_0) = true := asgqk (by decide +kernel)
theorem kok1073 : aOK kS krf kB kE1073 := aOK_of (kal1 kok1072 (kal1 kok1068 kal0)) (kcl1 ks1073_0 kcl0) ks1073
/-- ColdShod$LawText.readLevel(LColdShod$LawCode;II)Z -/
noncomputable def kE1074 : aE := (65, 5, ([], [], 0, [kvR 40, kvR 14, kvN 3, kvN 6, none, none, none], []), ([], none), ([kvB 0 1], [], kvI 0, ([], [])), kvW97)
noncomputable def kC1074_0 : aC := (([kvB 0 120], [], 42, [kvR 40, kvR 14, kvN 3, kvN 6, kvN 120, kvI 0, none], []), ([], []), (120, [(-1, 0)]))
theorem ks1074 : aseg kS krf kB [kE1073, kE1068] (ksp []) kE1074 [kC1074_0] 30000 (none) = true := asgqk (by decide +kernel)
theorem ks1074_0 : aseg kS krf kB [kE1073, kE1068] (ksp []) kE1074 [kC1074_0] 30000 (some kC1074_0) = true := asgqk (by decide +kernel)
theorem kok1074 : aOK kS krf kB kE1074 := aOK_of (kal1 kok1073 (kal1 kok1068 kal0)) (kcl1 ks1074_0 kcl0) ks1074
/-- ColdShod$LawText.readLevel(LColdShod$LawCode;II)Z -/
noncomputable def kE1075 : aE := (65, 6, ([], [], 0, [kvR 40, kvR 14, kvN 2, kvN 6, none, none, none], []), ([], none), ([kvB 0 1], [], kvI 0, ([], [])), kvW97)
noncomputable def kC1075_0 : aC := (([kvB 0 1], [], 42, [kvR 40, kvR 14, kvN 2, kvN 6, kvN 1, kvI 0, none], []), ([], []), (1, [(-1, 0)]))
theorem ks1075 : aseg kS krf kB [kE1074, kE1068] (ksp []) kE1075 [kC1075_0] 30000 (none) = true := asgqk (by decide +kernel)
theorem ks1075_0 : aseg kS krf kB [kE1074, kE1068] (ksp []) kE1075 [kC1075_0] 30000 (some kC1075_0) = true := asgqk (by decide +kernel)
theorem kok1075 : aOK kS krf kB kE1075 := aOK_of (kal1 kok1074 (kal1 kok1068 kal0)) (kcl1 ks1075_0 kcl0) ks1075
/-- ColdShod$LawText.readLevel(LColdShod$LawCode;II)Z -/
noncomputable def kE1076 : aE := (65, 7, ([], [], 0, [kvR 40, kvR 14, kvN 1, kvN 6, none, none, none], []), ([], none), ([kvB 0 1], [], kvI 0, ([], [])), kvW97)
noncomputable def kC1076_0 : aC := (([kvB 0 120], [], 42, [kvR 40, kvR 14, kvN 1, kvN 6, kvN 120, kvI 0, none], []), ([], []), (120, [(-1, 0)]))
theorem ks1076 : aseg kS krf kB [kE1075, kE1068] (ksp []) kE1076 [kC1076_0] 30000 (none) = true := asgqk (by decide +kernel)
theorem ks1076_0 : aseg kS krf kB [kE1075, kE1068] (ksp []) kE1076 [kC1076_0] 30000 (some kC1076_0) = true := asgqk (by decide +kernel)
theorem kok1076 : aOK kS krf kB kE1076 := aOK_of (kal1 kok1075 (kal1 kok1068 kal0)) (kcl1 ks1076_0 kcl0) ks1076
/-- ColdShod$LawText.readLevel(LColdShod$LawCode;II)Z -/
noncomputable def kE1077 : aE := (65, 8, ([], [], 0, [kvR 40, kvR 14, kvN 0, kvN 6, none, none, none], []), ([], none), ([kvB 0 1], [], kvI 0, ([], [])), kvW97)
noncomputable def kC1077_0 : aC := (([kvB 0 120], [], 42, [kvR 40, kvR 14, kvN 0, kvN 6, kvN 120, kvI 0, none], []), ([], []), (120, [(-1, 0)]))
theorem ks1077 : aseg kS krf kB [kE1076, kE1068] (ksp []) kE1077 [kC1077_0] 30000 (none) = true := asgqk (by decide +kernel)
theorem ks1077_0 : aseg kS krf kB [kE1076, kE1068] (ksp []) kE1077 [kC1077_0] 30000 (some kC1077_0) = true := asgqk (by decide +kernel)
theorem kok1077 : aOK kS krf kB kE1077 := aOK_of (kal1 kok1076 (kal1 kok1068 kal0)) (kcl1 ks1077_0 kcl0) ks1077
/-- ColdShod$LawText.readOperand(LColdShod$LawCode;I)Z -/
noncomputable def kE1078 : aE := (66, 9, ([], [], 0, [kvR 40, kvR 14, kvN 5, none, none], []), ([], none), ([kvB 0 1], [], kvI 0, ([], [])), kvW97)
noncomputable def kC1078_0 : aC := (([kvB 33 45, kvB 0 119, kvB 1 120], [(40, 2, .inl (1, .ofNat 0)), (40, 1, .inl (2, .ofNat 0))], 65, [kvR 40, kvR 14, kvN 5, kvI 0, some (.inl (.inl (.inr (.negSucc 0))))], []), ([], []), (0, []))
theorem ks1078 : aseg kS krf kB [kE1069, kE1070, kE1077, kE1025, kE1071, kE1068] (ksp []) kE1078 [kC1078_0] 30000 (none) = true := asgqk (by decide +kernel)
theorem ks1078_0 : aseg kS krf kB [kE1069, kE1070, kE1077, kE1025, kE1071, kE1068] (ksp []) kE1078 [kC1078_0] 30000 (some kC1078_0) = true := asgqk (by decide +kernel)
theorem kok1078 : aOK kS krf kB kE1078 := aOK_of (kal1 kok1069 (kal1 kok1070 (kal1 kok1077 (kal1 kok1025 (kal1 kok1071 (kal1 kok1068 kal0)))))) (kcl1 ks1078_0 kcl0) ks1078
/-- ColdShod$LawText.readLevel(LColdShod$LawCode;II)Z -/
noncomputable def kE1079 : aE := (65, 10, ([], [], 0, [kvR 40, kvR 14, kvN 5, kvN 5, none, none, none], []), ([], none), ([kvB 0 1], [], kvI 0, ([], [])), kvW97)
theorem ks1079 : aseg kS krf kB [kE1078] (ksp []) kE1079 [] 30000 (none) = true := asgqk (by decide +kernel)
theorem kok1079 : aOK kS krf kB kE1079 := aOK_of (kal1 kok1078 kal0) kcl0 ks1079
/-- ColdShod$LawText.readLevel(LColdShod$LawCode;II)Z -/
noncomputable def kE1080 : aE := (65, 11, ([], [], 0, [kvR 40, kvR 14, kvN 4, kvN 5, none, none, none], []), ([], none), ([kvB 0 1], [], kvI 0, ([], [])), kvW97)
noncomputable def kC1080_0 : aC := (([kvB 0 120], [], 42, [kvR 40, kvR 14, kvN 4, kvN 5, kvN 120, kvI 0, none], []), ([], []), (120, [(-1, 0)]))
theorem ks1080 : aseg kS krf kB [kE1079, kE1068] (ksp []) kE1080 [kC1080_0] 30000 (none) = true := asgqk (by decide +kernel)
theorem ks1080_0 : aseg kS krf kB [kE1079, kE1068] (ksp []) kE1080 [kC1080_0] 30000 (some kC1080_0) = true := asgqk (by decide +kernel)
theorem kok1080 : aOK kS krf kB kE1080 := aOK_of (kal1 kok1079 (kal1 kok1068 kal0)) (kcl1 ks1080_0 kcl0) ks1080
/-- ColdShod$LawText.readLevel(LColdShod$LawCode;II)Z -/
noncomputable def kE1081 : aE := (65, 12, ([], [], 0, [kvR 40, kvR 14, kvN 3, kvN 5, none, none, none], []), ([], none), ([kvB 0 1], [], kvI 0, ([], [])), kvW97)
noncomputable def kC1081_0 : aC := (([kvB 0 120], [], 42, [kvR 40, kvR 14, kvN 3, kvN 5, kvN 120, kvI 0, none], []), ([], []), (120, [(-1, 0)]))
theorem ks1081 : aseg kS krf kB [kE1080, kE1068] (ksp []) kE1081 [kC1081_0] 30000 (none) = true := asgqk (by decide +kernel)
theorem ks1081_0 : aseg kS krf kB [kE1080, kE1068] (ksp []) kE1081 [kC1081_0] 30000 (some kC1081_0) = true := asgqk (by decide +kernel)
theorem kok1081 : aOK kS krf kB kE1081 := aOK_of (kal1 kok1080 (kal1 kok1068 kal0)) (kcl1 ks1081_0 kcl0) ks1081
/-- ColdShod$LawText.readLevel(LColdShod$LawCode;II)Z -/
noncomputable def kE1082 : aE := (65, 13, ([], [], 0, [kvR 40, kvR 14, kvN 2, kvN 5, none, none, none], []), ([], none), ([kvB 0 1], [], kvI 0, ([], [])), kvW97)
noncomputable def kC1082_0 : aC := (([kvB 0 1], [], 42, [kvR 40, kvR 14, kvN 2, kvN 5, kvN 1, kvI 0, none], []), ([], []), (1, [(-1, 0)]))
theorem ks1082 : aseg kS krf kB [kE1081, kE1068] (ksp []) kE1082 [kC1082_0] 30000 (none) = true := asgqk (by decide +kernel)
theorem ks1082_0 : aseg kS krf kB [kE1081, kE1068] (ksp []) kE1082 [kC1082_0] 30000 (some kC1082_0) = true := asgqk (by decide +kernel)
theorem kok1082 : aOK kS krf kB kE1082 := aOK_of (kal1 kok1081 (kal1 kok1068 kal0)) (kcl1 ks1082_0 kcl0) ks1082
/-- ColdShod$LawText.readLevel(LColdShod$LawCode;II)Z -/
noncomputable def kE1083 : aE := (65, 14, ([], [], 0, [kvR 40, kvR 14, kvN 1, kvN 5, none, none, none], []), ([], none), ([kvB 0 1], [], kvI 0, ([], [])), kvW97)
noncomputable def kC1083_0 : aC := (([kvB 0 120], [], 42, [kvR 40, kvR 14, kvN 1, kvN 5, kvN 120, kvI 0, none], []), ([], []), (120, [(-1, 0)]))
theorem ks1083 : aseg kS krf kB [kE1082, kE1068] (ksp []) kE1083 [kC1083_0] 30000 (none) = true := asgqk (by decide +kernel)
theorem ks1083_0 : aseg kS krf kB [kE1082, kE1068] (ksp []) kE1083 [kC1083_0] 30000 (some kC1083_0) = true := asgqk (by decide +kernel)
theorem kok1083 : aOK kS krf kB kE1083 := aOK_of (kal1 kok1082 (kal1 kok1068 kal0)) (kcl1 ks1083_0 kcl0) ks1083
/-- ColdShod$LawText.readLevel(LColdShod$LawCode;II)Z -/
noncomputable def kE1084 : aE := (65, 15, ([], [], 0, [kvR 40, kvR 14, kvN 0, kvN 5, none, none, none], []), ([], none), ([kvB 0 1], [], kvI 0, ([], [])), kvW97)
noncomputable def kC1084_0 : aC := (([kvB 0 120], [], 42, [kvR 40, kvR 14, kvN 0, kvN 5, kvN 120, kvI 0, none], []), ([], []), (120, [(-1, 0)]))
theorem ks1084 : aseg kS krf kB [kE1083, kE1068] (ksp []) kE1084 [kC1084_0] 30000 (none) = true := asgqk (by decide +kernel)
theorem ks1084_0 : aseg kS krf kB [kE1083, kE1068] (ksp []) kE1084 [kC1084_0] 30000 (some kC1084_0) = true := asgqk (by decide +kernel)
theorem kok1084 : aOK kS krf kB kE1084 := aOK_of (kal1 kok1083 (kal1 kok1068 kal0)) (kcl1 ks1084_0 kcl0) ks1084
/-- ColdShod$LawText.readOperand(LColdShod$LawCode;I)Z -/
noncomputable def kE1085 : aE := (66, 16, ([], [], 0, [kvR 40, kvR 14, kvN 4, none, none], []), ([], none), ([kvB 0 1], [], kvI 0, ([], [])), kvW97)
noncomputable def kC1085_0 : aC := (([kvB 33 45, kvB 0 119, kvB 1 120], [(40, 2, .inl (1, .ofNat 0)), (40, 1, .inl (2, .ofNat 0))], 65, [kvR 40, kvR 14, kvN 4, kvI 0, some (.inl (.inl (.inr (.negSucc 0))))], []), ([], []), (0, []))
theorem ks1085 : aseg kS krf kB [kE1069, kE1070, kE1084, kE1025, kE1078, kE1068] (ksp []) kE1085 [kC1085_0] 30000 (none) = true := asgqk (by decide +kernel)
theorem ks1085_0 : aseg kS krf kB [kE1069, kE1070, kE1084, kE1025, kE1078, kE1068] (ksp []) kE1085 [kC1085_0] 30000 (some kC1085_0) = true := asgqk (by decide +kernel)
theorem kok1085 : aOK kS krf kB kE1085 := aOK_of (kal1 kok1069 (kal1 kok1070 (kal1 kok1084 (kal1 kok1025 (kal1 kok1078 (kal1 kok1068 kal0)))))) (kcl1 ks1085_0 kcl0) ks1085
/-- ColdShod$LawText.readLevel(LColdShod$LawCode;II)Z -/
noncomputable def kE1086 : aE := (65, 17, ([], [], 0, [kvR 40, kvR 14, kvN 5, kvN 4, none, none, none], []), ([], none), ([kvB 0 1], [], kvI 0, ([], [])), kvW97)
theorem ks1086 : aseg kS krf kB [kE1085] (ksp []) kE1086 [] 30000 (none) = true := asgqk (by decide +kernel)
theorem kok1086 : aOK kS krf kB kE1086 := aOK_of (kal1 kok1085 kal0) kcl0 ks1086
/-- ColdShod$LawText.readLevel(LColdShod$LawCode;II)Z -/
noncomputable def kE1087 : aE := (65, 18, ([], [], 0, [kvR 40, kvR 14, kvN 4, kvN 4, none, none, none], []), ([], none), ([kvB 0 1], [], kvI 0, ([], [])), kvW97)
noncomputable def kC1087_0 : aC := (([kvB 0 120], [], 42, [kvR 40, kvR 14, kvN 4, kvN 4, kvN 120, kvI 0, none], []), ([], []), (120, [(-1, 0)]))
theorem ks1087 : aseg kS krf kB [kE1086, kE1068] (ksp []) kE1087 [kC1087_0] 30000 (none) = true := asgqk (by decide +kernel)
theorem ks1087_0 : aseg kS krf kB [kE1086, kE1068] (ksp []) kE1087 [kC1087_0] 30000 (some kC1087_0) = true := asgqk (by decide +kernel)
theorem kok1087 : aOK kS krf kB kE1087 := aOK_of (kal1 kok1086 (kal1 kok1068 kal0)) (kcl1 ks1087_0 kcl0) ks1087
/-- ColdShod$LawText.readLevel(LColdShod$LawCode;II)Z -/
noncomputable def kE1088 : aE := (65, 19, ([], [], 0, [kvR 40, kvR 14, kvN 3, kvN 4, none, none, none], []), ([], none), ([kvB 0 1], [], kvI 0, ([], [])), kvW97)
noncomputable def kC1088_0 : aC := (([kvB 0 120], [], 42, [kvR 40, kvR 14, kvN 3, kvN 4, kvN 120, kvI 0, none], []), ([], []), (120, [(-1, 0)]))
theorem ks1088 : aseg kS krf kB [kE1087, kE1068] (ksp []) kE1088 [kC1088_0] 30000 (none) = true := asgqk (by decide +kernel)
theorem ks1088_0 : aseg kS krf kB [kE1087, kE1068] (ksp []) kE1088 [kC1088_0] 30000 (some kC1088_0) = true := asgqk (by decide +kernel)
theorem kok1088 : aOK kS krf kB kE1088 := aOK_of (kal1 kok1087 (kal1 kok1068 kal0)) (kcl1 ks1088_0 kcl0) ks1088
/-- ColdShod$LawText.readLevel(LColdShod$LawCode;II)Z -/
noncomputable def kE1089 : aE := (65, 20, ([], [], 0, [kvR 40, kvR 14, kvN 2, kvN 4, none, none, none], []), ([], none), ([kvB 0 1], [], kvI 0, ([], [])), kvW97)
noncomputable def kC1089_0 : aC := (([kvB 0 1], [], 42, [kvR 40, kvR 14, kvN 2, kvN 4, kvN 1, kvI 0, none], []), ([], []), (1, [(-1, 0)]))
theorem ks1089 : aseg kS krf kB [kE1088, kE1068] (ksp []) kE1089 [kC1089_0] 30000 (none) = true := asgqk (by decide +kernel)
theorem ks1089_0 : aseg kS krf kB [kE1088, kE1068] (ksp []) kE1089 [kC1089_0] 30000 (some kC1089_0) = true := asgqk (by decide +kernel)
theorem kok1089 : aOK kS krf kB kE1089 := aOK_of (kal1 kok1088 (kal1 kok1068 kal0)) (kcl1 ks1089_0 kcl0) ks1089
/-- ColdShod$LawText.readLevel(LColdShod$LawCode;II)Z -/
noncomputable def kE1090 : aE := (65, 21, ([], [], 0, [kvR 40, kvR 14, kvN 1, kvN 4, none, none, none], []), ([], none), ([kvB 0 1], [], kvI 0, ([], [])), kvW97)
noncomputable def kC1090_0 : aC := (([kvB 0 120], [], 42, [kvR 40, kvR 14, kvN 1, kvN 4, kvN 120, kvI 0, none], []), ([], []), (120, [(-1, 0)]))
theorem ks1090 : aseg kS krf kB [kE1089, kE1068] (ksp []) kE1090 [kC1090_0] 30000 (none) = true := asgqk (by decide +kernel)
theorem ks1090_0 : aseg kS krf kB [kE1089, kE1068] (ksp []) kE1090 [kC1090_0] 30000 (some kC1090_0) = true := asgqk (by decide +kernel)
theorem kok1090 : aOK kS krf kB kE1090 := aOK_of (kal1 kok1089 (kal1 kok1068 kal0)) (kcl1 ks1090_0 kcl0) ks1090
/-- ColdShod$LawText.readLevel(LColdShod$LawCode;II)Z -/
noncomputable def kE1091 : aE := (65, 22, ([], [], 0, [kvR 40, kvR 14, kvN 0, kvN 4, none, none, none], []), ([], none), ([kvB 0 1], [], kvI 0, ([], [])), kvW97)
noncomputable def kC1091_0 : aC := (([kvB 0 120], [], 42, [kvR 40, kvR 14, kvN 0, kvN 4, kvN 120, kvI 0, none], []), ([], []), (120, [(-1, 0)]))
theorem ks1091 : aseg kS krf kB [kE1090, kE1068] (ksp []) kE1091 [kC1091_0] 30000 (none) = true := asgqk (by decide +kernel)
theorem ks1091_0 : aseg kS krf kB [kE1090, kE1068] (ksp []) kE1091 [kC1091_0] 30000 (some kC1091_0) = true := asgqk (by decide +kernel)
theorem kok1091 : aOK kS krf kB kE1091 := aOK_of (kal1 kok1090 (kal1 kok1068 kal0)) (kcl1 ks1091_0 kcl0) ks1091
/-- ColdShod$LawText.readOperand(LColdShod$LawCode;I)Z -/
noncomputable def kE1092 : aE := (66, 23, ([], [], 0, [kvR 40, kvR 14, kvN 3, none, none], []), ([], none), ([kvB 0 1], [], kvI 0, ([], [])), kvW97)
noncomputable def kC1092_0 : aC := (([kvB 33 45, kvB 0 119, kvB 1 120], [(40, 2, .inl (1, .ofNat 0)), (40, 1, .inl (2, .ofNat 0))], 65, [kvR 40, kvR 14, kvN 3, kvI 0, some (.inl (.inl (.inr (.negSucc 0))))], []), ([], []), (0, []))
theorem ks1092 : aseg kS krf kB [kE1069, kE1070, kE1091, kE1025, kE1085, kE1068] (ksp []) kE1092 [kC1092_0] 30000 (none) = true := asgqk (by decide +kernel)
theorem ks1092_0 : aseg kS krf kB [kE1069, kE1070, kE1091, kE1025, kE1085, kE1068] (ksp []) kE1092 [kC1092_0] 30000 (some kC1092_0) = true := asgqk (by decide +kernel)
theorem kok1092 : aOK kS krf kB kE1092 := aOK_of (kal1 kok1069 (kal1 kok1070 (kal1 kok1091 (kal1 kok1025 (kal1 kok1085 (kal1 kok1068 kal0)))))) (kcl1 ks1092_0 kcl0) ks1092
/-- ColdShod$LawText.readLevel(LColdShod$LawCode;II)Z -/
noncomputable def kE1093 : aE := (65, 24, ([], [], 0, [kvR 40, kvR 14, kvN 5, kvN 3, none, none, none], []), ([], none), ([kvB 0 1], [], kvI 0, ([], [])), kvW97)
theorem ks1093 : aseg kS krf kB [kE1092] (ksp []) kE1093 [] 30000 (none) = true := asgqk (by decide +kernel)
theorem kok1093 : aOK kS krf kB kE1093 := aOK_of (kal1 kok1092 kal0) kcl0 ks1093
/-- ColdShod$LawText.readLevel(LColdShod$LawCode;II)Z -/
noncomputable def kE1094 : aE := (65, 25, ([], [], 0, [kvR 40, kvR 14, kvN 4, kvN 3, none, none, none], []), ([], none), ([kvB 0 1], [], kvI 0, ([], [])), kvW97)
noncomputable def kC1094_0 : aC := (([kvB 0 120], [], 42, [kvR 40, kvR 14, kvN 4, kvN 3, kvN 120, kvI 0, none], []), ([], []), (120, [(-1, 0)]))
theorem ks1094 : aseg kS krf kB [kE1093, kE1068] (ksp []) kE1094 [kC1094_0] 30000 (none) = true := asgqk (by decide +kernel)
theorem ks1094_0 : aseg kS krf kB [kE1093, kE1068] (ksp []) kE1094 [kC1094_0] 30000 (some kC1094_0) = true := asgqk (by decide +kernel)
theorem kok1094 : aOK kS krf kB kE1094 := aOK_of (kal1 kok1093 (kal1 kok1068 kal0)) (kcl1 ks1094_0 kcl0) ks1094
/-- ColdShod$LawText.readLevel(LColdShod$LawCode;II)Z -/
noncomputable def kE1095 : aE := (65, 26, ([], [], 0, [kvR 40, kvR 14, kvN 3, kvN 3, none, none, none], []), ([], none), ([kvB 0 1], [], kvI 0, ([], [])), kvW97)
noncomputable def kC1095_0 : aC := (([kvB 0 120], [], 42, [kvR 40, kvR 14, kvN 3, kvN 3, kvN 120, kvI 0, none], []), ([], []), (120, [(-1, 0)]))
theorem ks1095 : aseg kS krf kB [kE1094, kE1068] (ksp []) kE1095 [kC1095_0] 30000 (none) = true := asgqk (by decide +kernel)
theorem ks1095_0 : aseg kS krf kB [kE1094, kE1068] (ksp []) kE1095 [kC1095_0] 30000 (some kC1095_0) = true := asgqk (by decide +kernel)
theorem kok1095 : aOK kS krf kB kE1095 := aOK_of (kal1 kok1094 (kal1 kok1068 kal0)) (kcl1 ks1095_0 kcl0) ks1095
/-- ColdShod$LawText.readLevel(LColdShod$LawCode;II)Z -/
noncomputable def kE1096 : aE := (65, 27, ([], [], 0, [kvR 40, kvR 14, kvN 2, kvN 3, none, none, none], []), ([], none), ([kvB 0 1], [], kvI 0, ([], [])), kvW97)
noncomputable def kC1096_0 : aC := (([kvB 0 1], [], 42, [kvR 40, kvR 14, kvN 2, kvN 3, kvN 1, kvI 0, none], []), ([], []), (1, [(-1, 0)]))
theorem ks1096 : aseg kS krf kB [kE1095, kE1068] (ksp []) kE1096 [kC1096_0] 30000 (none) = true := asgqk (by decide +kernel)
theorem ks1096_0 : aseg kS krf kB [kE1095, kE1068] (ksp []) kE1096 [kC1096_0] 30000 (some kC1096_0) = true := asgqk (by decide +kernel)
theorem kok1096 : aOK kS krf kB kE1096 := aOK_of (kal1 kok1095 (kal1 kok1068 kal0)) (kcl1 ks1096_0 kcl0) ks1096
/-- ColdShod$LawText.readLevel(LColdShod$LawCode;II)Z -/
noncomputable def kE1097 : aE := (65, 28, ([], [], 0, [kvR 40, kvR 14, kvN 1, kvN 3, none, none, none], []), ([], none), ([kvB 0 1], [], kvI 0, ([], [])), kvW97)
noncomputable def kC1097_0 : aC := (([kvB 0 120], [], 42, [kvR 40, kvR 14, kvN 1, kvN 3, kvN 120, kvI 0, none], []), ([], []), (120, [(-1, 0)]))
theorem ks1097 : aseg kS krf kB [kE1096, kE1068] (ksp []) kE1097 [kC1097_0] 30000 (none) = true := asgqk (by decide +kernel)
theorem ks1097_0 : aseg kS krf kB [kE1096, kE1068] (ksp []) kE1097 [kC1097_0] 30000 (some kC1097_0) = true := asgqk (by decide +kernel)
theorem kok1097 : aOK kS krf kB kE1097 := aOK_of (kal1 kok1096 (kal1 kok1068 kal0)) (kcl1 ks1097_0 kcl0) ks1097
/-- ColdShod$LawText.readLevel(LColdShod$LawCode;II)Z -/
noncomputable def kE1098 : aE := (65, 29, ([], [], 0, [kvR 40, kvR 14, kvN 0, kvN 3, none, none, none], []), ([], none), ([kvB 0 1], [], kvI 0, ([], [])), kvW97)
noncomputable def kC1098_0 : aC := (([kvB 0 120], [], 42, [kvR 40, kvR 14, kvN 0, kvN 3, kvN 120, kvI 0, none], []), ([], []), (120, [(-1, 0)]))
theorem ks1098 : aseg kS krf kB [kE1097, kE1068] (ksp []) kE1098 [kC1098_0] 30000 (none) = true := asgqk (by decide +kernel)
theorem ks1098_0 : aseg kS krf kB [kE1097, kE1068] (ksp []) kE1098 [kC1098_0] 30000 (some kC1098_0) = true := asgqk (by decide +kernel)
theorem kok1098 : aOK kS krf kB kE1098 := aOK_of (kal1 kok1097 (kal1 kok1068 kal0)) (kcl1 ks1098_0 kcl0) ks1098
/-- ColdShod$LawText.readOperand(LColdShod$LawCode;I)Z -/
noncomputable def kE1099 : aE := (66, 30, ([], [], 0, [kvR 40, kvR 14, kvN 2, none, none], []), ([], none), ([kvB 0 1], [], kvI 0, ([], [])), kvW97)
noncomputable def kC1099_0 : aC := (([kvB 33 45, kvB 0 119, kvB 1 120], [(40, 2, .inl (1, .ofNat 0)), (40, 1, .inl (2, .ofNat 0))], 65, [kvR 40, kvR 14, kvN 2, kvI 0, some (.inl (.inl (.inr (.negSucc 0))))], []), ([], []), (0, []))
theorem ks1099 : aseg kS krf kB [kE1069, kE1070, kE1098, kE1025, kE1092, kE1068] (ksp []) kE1099 [kC1099_0] 30000 (none) = true := asgqk (by decide +kernel)
theorem ks1099_0 : aseg kS krf kB [kE1069, kE1070, kE1098, kE1025, kE1092, kE1068] (ksp []) kE1099 [kC1099_0] 30000 (some kC1099_0) = true := asgqk (by decide +kernel)
theorem kok1099 : aOK kS krf kB kE1099 := aOK_of (kal1 kok1069 (kal1 kok1070 (kal1 kok1098 (kal1 kok1025 (kal1 kok1092 (kal1 kok1068 kal0)))))) (kcl1 ks1099_0 kcl0) ks1099
/-- ColdShod$LawText.readLevel(LColdShod$LawCode;II)Z -/
noncomputable def kE1100 : aE := (65, 31, ([], [], 0, [kvR 40, kvR 14, kvN 5, kvN 2, none, none, none], []), ([], none), ([kvB 0 1], [], kvI 0, ([], [])), kvW97)
theorem ks1100 : aseg kS krf kB [kE1099] (ksp []) kE1100 [] 30000 (none) = true := asgqk (by decide +kernel)
theorem kok1100 : aOK kS krf kB kE1100 := aOK_of (kal1 kok1099 kal0) kcl0 ks1100
/-- ColdShod$LawText.readLevel(LColdShod$LawCode;II)Z -/
noncomputable def kE1101 : aE := (65, 32, ([], [], 0, [kvR 40, kvR 14, kvN 4, kvN 2, none, none, none], []), ([], none), ([kvB 0 1], [], kvI 0, ([], [])), kvW97)
noncomputable def kC1101_0 : aC := (([kvB 0 120], [], 42, [kvR 40, kvR 14, kvN 4, kvN 2, kvN 120, kvI 0, none], []), ([], []), (120, [(-1, 0)]))
theorem ks1101 : aseg kS krf kB [kE1100, kE1068] (ksp []) kE1101 [kC1101_0] 30000 (none) = true := asgqk (by decide +kernel)
theorem ks1101_0 : aseg kS krf kB [kE1100, kE1068] (ksp []) kE1101 [kC1101_0] 30000 (some kC1101_0) = true := asgqk (by decide +kernel)
theorem kok1101 : aOK kS krf kB kE1101 := aOK_of (kal1 kok1100 (kal1 kok1068 kal0)) (kcl1 ks1101_0 kcl0) ks1101
/-- ColdShod$LawText.readLevel(LColdShod$LawCode;II)Z -/
noncomputable def kE1102 : aE := (65, 33, ([], [], 0, [kvR 40, kvR 14, kvN 3, kvN 2, none, none, none], []), ([], none), ([kvB 0 1], [], kvI 0, ([], [])), kvW97)
noncomputable def kC1102_0 : aC := (([kvB 0 120], [], 42, [kvR 40, kvR 14, kvN 3, kvN 2, kvN 120, kvI 0, none], []), ([], []), (120, [(-1, 0)]))
theorem ks1102 : aseg kS krf kB [kE1101, kE1068] (ksp []) kE1102 [kC1102_0] 30000 (none) = true := asgqk (by decide +kernel)
theorem ks1102_0 : aseg kS krf kB [kE1101, kE1068] (ksp []) kE1102 [kC1102_0] 30000 (some kC1102_0) = true := asgqk (by decide +kernel)
theorem kok1102 : aOK kS krf kB kE1102 := aOK_of (kal1 kok1101 (kal1 kok1068 kal0)) (kcl1 ks1102_0 kcl0) ks1102
/-- ColdShod$LawText.readLevel(LColdShod$LawCode;II)Z -/
noncomputable def kE1103 : aE := (65, 34, ([], [], 0, [kvR 40, kvR 14, kvN 2, kvN 2, none, none, none], []), ([], none), ([kvB 0 1], [], kvI 0, ([], [])), kvW97)
noncomputable def kC1103_0 : aC := (([kvB 0 1], [], 42, [kvR 40, kvR 14, kvN 2, kvN 2, kvN 1, kvI 0, none], []), ([], []), (1, [(-1, 0)]))
theorem ks1103 : aseg kS krf kB [kE1102, kE1068] (ksp []) kE1103 [kC1103_0] 30000 (none) = true := asgqk (by decide +kernel)
theorem ks1103_0 : aseg kS krf kB [kE1102, kE1068] (ksp []) kE1103 [kC1103_0] 30000 (some kC1103_0) = true := asgqk (by decide +kernel)
theorem kok1103 : aOK kS krf kB kE1103 := aOK_of (kal1 kok1102 (kal1 kok1068 kal0)) (kcl1 ks1103_0 kcl0) ks1103
/-- ColdShod$LawText.readLevel(LColdShod$LawCode;II)Z -/
noncomputable def kE1104 : aE := (65, 35, ([], [], 0, [kvR 40, kvR 14, kvN 1, kvN 2, none, none, none], []), ([], none), ([kvB 0 1], [], kvI 0, ([], [])), kvW97)
noncomputable def kC1104_0 : aC := (([kvB 0 120], [], 42, [kvR 40, kvR 14, kvN 1, kvN 2, kvN 120, kvI 0, none], []), ([], []), (120, [(-1, 0)]))
theorem ks1104 : aseg kS krf kB [kE1103, kE1068] (ksp []) kE1104 [kC1104_0] 30000 (none) = true := asgqk (by decide +kernel)
theorem ks1104_0 : aseg kS krf kB [kE1103, kE1068] (ksp []) kE1104 [kC1104_0] 30000 (some kC1104_0) = true := asgqk (by decide +kernel)
theorem kok1104 : aOK kS krf kB kE1104 := aOK_of (kal1 kok1103 (kal1 kok1068 kal0)) (kcl1 ks1104_0 kcl0) ks1104
/-- ColdShod$LawText.readLevel(LColdShod$LawCode;II)Z -/
noncomputable def kE1105 : aE := (65, 36, ([], [], 0, [kvR 40, kvR 14, kvN 0, kvN 2, none, none, none], []), ([], none), ([kvB 0 1], [], kvI 0, ([], [])), kvW97)
noncomputable def kC1105_0 : aC := (([kvB 0 120], [], 42, [kvR 40, kvR 14, kvN 0, kvN 2, kvN 120, kvI 0, none], []), ([], []), (120, [(-1, 0)]))
theorem ks1105 : aseg kS krf kB [kE1104, kE1068] (ksp []) kE1105 [kC1105_0] 30000 (none) = true := asgqk (by decide +kernel)
theorem ks1105_0 : aseg kS krf kB [kE1104, kE1068] (ksp []) kE1105 [kC1105_0] 30000 (some kC1105_0) = true := asgqk (by decide +kernel)
theorem kok1105 : aOK kS krf kB kE1105 := aOK_of (kal1 kok1104 (kal1 kok1068 kal0)) (kcl1 ks1105_0 kcl0) ks1105
/-- ColdShod$LawText.readOperand(LColdShod$LawCode;I)Z -/
noncomputable def kE1106 : aE := (66, 37, ([], [], 0, [kvR 40, kvR 14, kvN 1, none, none], []), ([], none), ([kvB 0 1], [], kvI 0, ([], [])), kvW97)
noncomputable def kC1106_0 : aC := (([kvB 33 45, kvB 0 119, kvB 1 120], [(40, 2, .inl (1, .ofNat 0)), (40, 1, .inl (2, .ofNat 0))], 65, [kvR 40, kvR 14, kvN 1, kvI 0, some (.inl (.inl (.inr (.negSucc 0))))], []), ([], []), (0, []))
theorem ks1106 : aseg kS krf kB [kE1069, kE1070, kE1105, kE1025, kE1099, kE1068] (ksp []) kE1106 [kC1106_0] 30000 (none) = true := asgqk (by decide +kernel)
theorem ks1106_0 : aseg kS krf kB [kE1069, kE1070, kE1105, kE1025, kE1099, kE1068] (ksp []) kE1106 [kC1106_0] 30000 (some kC1106_0) = true := asgqk (by decide +kernel)
theorem kok1106 : aOK kS krf kB kE1106 := aOK_of (kal1 kok1069 (kal1 kok1070 (kal1 kok1105 (kal1 kok1025 (kal1 kok1099 (kal1 kok1068 kal0)))))) (kcl1 ks1106_0 kcl0) ks1106
/-- ColdShod$LawText.readLevel(LColdShod$LawCode;II)Z -/
noncomputable def kE1107 : aE := (65, 38, ([], [], 0, [kvR 40, kvR 14, kvN 5, kvN 1, none, none, none], []), ([], none), ([kvB 0 1], [], kvI 0, ([], [])), kvW97)
theorem ks1107 : aseg kS krf kB [kE1106] (ksp []) kE1107 [] 30000 (none) = true := asgqk (by decide +kernel)
theorem kok1107 : aOK kS krf kB kE1107 := aOK_of (kal1 kok1106 kal0) kcl0 ks1107
/-- ColdShod$LawText.readLevel(LColdShod$LawCode;II)Z -/
noncomputable def kE1108 : aE := (65, 39, ([], [], 0, [kvR 40, kvR 14, kvN 4, kvN 1, none, none, none], []), ([], none), ([kvB 0 1], [], kvI 0, ([], [])), kvW97)
noncomputable def kC1108_0 : aC := (([kvB 0 120], [], 42, [kvR 40, kvR 14, kvN 4, kvN 1, kvN 120, kvI 0, none], []), ([], []), (120, [(-1, 0)]))
theorem ks1108 : aseg kS krf kB [kE1107, kE1068] (ksp []) kE1108 [kC1108_0] 30000 (none) = true := asgqk (by decide +kernel)
theorem ks1108_0 : aseg kS krf kB [kE1107, kE1068] (ksp []) kE1108 [kC1108_0] 30000 (some kC1108_0) = true := asgqk (by decide +kernel)
theorem kok1108 : aOK kS krf kB kE1108 := aOK_of (kal1 kok1107 (kal1 kok1068 kal0)) (kcl1 ks1108_0 kcl0) ks1108
/-- ColdShod$LawText.readLevel(LColdShod$LawCode;II)Z -/
noncomputable def kE1109 : aE := (65, 40, ([], [], 0, [kvR 40, kvR 14, kvN 3, kvN 1, none, none, none], []), ([], none), ([kvB 0 1], [], kvI 0, ([], [])), kvW97)
noncomputable def kC1109_0 : aC := (([kvB 0 120], [], 42, [kvR 40, kvR 14, kvN 3, kvN 1, kvN 120, kvI 0, none], []), ([], []), (120, [(-1, 0)]))
theorem ks1109 : aseg kS krf kB [kE1108, kE1068] (ksp []) kE1109 [kC1109_0] 30000 (none) = true := asgqk (by decide +kernel)
theorem ks1109_0 : aseg kS krf kB [kE1108, kE1068] (ksp []) kE1109 [kC1109_0] 30000 (some kC1109_0) = true := asgqk (by decide +kernel)
theorem kok1109 : aOK kS krf kB kE1109 := aOK_of (kal1 kok1108 (kal1 kok1068 kal0)) (kcl1 ks1109_0 kcl0) ks1109
/-- ColdShod$LawText.readLevel(LColdShod$LawCode;II)Z -/
noncomputable def kE1110 : aE := (65, 41, ([], [], 0, [kvR 40, kvR 14, kvN 2, kvN 1, none, none, none], []), ([], none), ([kvB 0 1], [], kvI 0, ([], [])), kvW97)
noncomputable def kC1110_0 : aC := (([kvB 0 1], [], 42, [kvR 40, kvR 14, kvN 2, kvN 1, kvN 1, kvI 0, none], []), ([], []), (1, [(-1, 0)]))
theorem ks1110 : aseg kS krf kB [kE1109, kE1068] (ksp []) kE1110 [kC1110_0] 30000 (none) = true := asgqk (by decide +kernel)
theorem ks1110_0 : aseg kS krf kB [kE1109, kE1068] (ksp []) kE1110 [kC1110_0] 30000 (some kC1110_0) = true := asgqk (by decide +kernel)
theorem kok1110 : aOK kS krf kB kE1110 := aOK_of (kal1 kok1109 (kal1 kok1068 kal0)) (kcl1 ks1110_0 kcl0) ks1110
/-- ColdShod$LawText.readLevel(LColdShod$LawCode;II)Z -/
noncomputable def kE1111 : aE := (65, 42, ([], [], 0, [kvR 40, kvR 14, kvN 1, kvN 1, none, none, none], []), ([], none), ([kvB 0 1], [], kvI 0, ([], [])), kvW97)
noncomputable def kC1111_0 : aC := (([kvB 0 120], [], 42, [kvR 40, kvR 14, kvN 1, kvN 1, kvN 120, kvI 0, none], []), ([], []), (120, [(-1, 0)]))
theorem ks1111 : aseg kS krf kB [kE1110, kE1068] (ksp []) kE1111 [kC1111_0] 30000 (none) = true := asgqk (by decide +kernel)
theorem ks1111_0 : aseg kS krf kB [kE1110, kE1068] (ksp []) kE1111 [kC1111_0] 30000 (some kC1111_0) = true := asgqk (by decide +kernel)
theorem kok1111 : aOK kS krf kB kE1111 := aOK_of (kal1 kok1110 (kal1 kok1068 kal0)) (kcl1 ks1111_0 kcl0) ks1111
/-- ColdShod$LawText.readLevel(LColdShod$LawCode;II)Z -/
noncomputable def kE1112 : aE := (65, 43, ([], [], 0, [kvR 40, kvR 14, kvN 0, kvN 1, none, none, none], []), ([], none), ([kvB 0 1], [], kvI 0, ([], [])), kvW97)
noncomputable def kC1112_0 : aC := (([kvB 0 120], [], 42, [kvR 40, kvR 14, kvN 0, kvN 1, kvN 120, kvI 0, none], []), ([], []), (120, [(-1, 0)]))
theorem ks1112 : aseg kS krf kB [kE1111, kE1068] (ksp []) kE1112 [kC1112_0] 30000 (none) = true := asgqk (by decide +kernel)
theorem ks1112_0 : aseg kS krf kB [kE1111, kE1068] (ksp []) kE1112 [kC1112_0] 30000 (some kC1112_0) = true := asgqk (by decide +kernel)
theorem kok1112 : aOK kS krf kB kE1112 := aOK_of (kal1 kok1111 (kal1 kok1068 kal0)) (kcl1 ks1112_0 kcl0) ks1112
/-- ColdShod$LawText.readOperand(LColdShod$LawCode;I)Z -/
noncomputable def kE1113 : aE := (66, 44, ([], [], 0, [kvR 40, kvR 14, kvN 0, none, none], []), ([], none), ([kvB 0 1], [], kvI 0, ([], [])), kvW97)
noncomputable def kC1113_0 : aC := (([kvB 33 45, kvB 0 119, kvB 1 120], [(40, 2, .inl (1, .ofNat 0)), (40, 1, .inl (2, .ofNat 0))], 65, [kvR 40, kvR 14, kvN 0, kvI 0, some (.inl (.inl (.inr (.negSucc 0))))], []), ([], []), (0, []))
theorem ks1113 : aseg kS krf kB [kE1069, kE1070, kE1112, kE1025, kE1106, kE1068] (ksp []) kE1113 [kC1113_0] 30000 (none) = true := asgqk (by decide +kernel)
theorem ks1113_0 : aseg kS krf kB [kE1069, kE1070, kE1112, kE1025, kE1106, kE1068] (ksp []) kE1113 [kC1113_0] 30000 (some kC1113_0) = true := asgqk (by decide +kernel)
theorem kok1113 : aOK kS krf kB kE1113 := aOK_of (kal1 kok1069 (kal1 kok1070 (kal1 kok1112 (kal1 kok1025 (kal1 kok1106 (kal1 kok1068 kal0)))))) (kcl1 ks1113_0 kcl0) ks1113
/-- ColdShod$LawText.readLevel(LColdShod$LawCode;II)Z -/
noncomputable def kE1114 : aE := (65, 45, ([], [], 0, [kvR 40, kvR 14, kvN 5, kvN 0, none, none, none], []), ([], none), ([kvB 0 1], [], kvI 0, ([], [])), kvW97)
theorem ks1114 : aseg kS krf kB [kE1113] (ksp []) kE1114 [] 30000 (none) = true := asgqk (by decide +kernel)
theorem kok1114 : aOK kS krf kB kE1114 := aOK_of (kal1 kok1113 kal0) kcl0 ks1114
/-- ColdShod$LawText.readLevel(LColdShod$LawCode;II)Z -/
noncomputable def kE1115 : aE := (65, 46, ([], [], 0, [kvR 40, kvR 14, kvN 4, kvN 0, none, none, none], []), ([], none), ([kvB 0 1], [], kvI 0, ([], [])), kvW97)
noncomputable def kC1115_0 : aC := (([kvB 0 120], [], 42, [kvR 40, kvR 14, kvN 4, kvN 0, kvN 120, kvI 0, none], []), ([], []), (120, [(-1, 0)]))
theorem ks1115 : aseg kS krf kB [kE1114, kE1068] (ksp []) kE1115 [kC1115_0] 30000 (none) = true := asgqk (by decide +kernel)
theorem ks1115_0 : aseg kS krf kB [kE1114, kE1068] (ksp []) kE1115 [kC1115_0] 30000 (some kC1115_0) = true := asgqk (by decide +kernel)
theorem kok1115 : aOK kS krf kB kE1115 := aOK_of (kal1 kok1114 (kal1 kok1068 kal0)) (kcl1 ks1115_0 kcl0) ks1115
/-- ColdShod$LawText.readLevel(LColdShod$LawCode;II)Z -/
noncomputable def kE1116 : aE := (65, 47, ([], [], 0, [kvR 40, kvR 14, kvN 3, kvN 0, none, none, none], []), ([], none), ([kvB 0 1], [], kvI 0, ([], [])), kvW97)
noncomputable def kC1116_0 : aC := (([kvB 0 120], [], 42, [kvR 40, kvR 14, kvN 3, kvN 0, kvN 120, kvI 0, none], []), ([], []), (120, [(-1, 0)]))
theorem ks1116 : aseg kS krf kB [kE1115, kE1068] (ksp []) kE1116 [kC1116_0] 30000 (none) = true := asgqk (by decide +kernel)
theorem ks1116_0 : aseg kS krf kB [kE1115, kE1068] (ksp []) kE1116 [kC1116_0] 30000 (some kC1116_0) = true := asgqk (by decide +kernel)
theorem kok1116 : aOK kS krf kB kE1116 := aOK_of (kal1 kok1115 (kal1 kok1068 kal0)) (kcl1 ks1116_0 kcl0) ks1116
/-- ColdShod$LawText.readLevel(LColdShod$LawCode;II)Z -/
noncomputable def kE1117 : aE := (65, 48, ([], [], 0, [kvR 40, kvR 14, kvN 2, kvN 0, none, none, none], []), ([], none), ([kvB 0 1], [], kvI 0, ([], [])), kvW97)
noncomputable def kC1117_0 : aC := (([kvB 0 1], [], 42, [kvR 40, kvR 14, kvN 2, kvN 0, kvN 1, kvI 0, none], []), ([], []), (1, [(-1, 0)]))
theorem ks1117 : aseg kS krf kB [kE1116, kE1068] (ksp []) kE1117 [kC1117_0] 30000 (none) = true := asgqk (by decide +kernel)
theorem ks1117_0 : aseg kS krf kB [kE1116, kE1068] (ksp []) kE1117 [kC1117_0] 30000 (some kC1117_0) = true := asgqk (by decide +kernel)
theorem kok1117 : aOK kS krf kB kE1117 := aOK_of (kal1 kok1116 (kal1 kok1068 kal0)) (kcl1 ks1117_0 kcl0) ks1117
/-- ColdShod$LawText.readLevel(LColdShod$LawCode;II)Z -/
noncomputable def kE1118 : aE := (65, 49, ([], [], 0, [kvR 40, kvR 14, kvN 1, kvN 0, none, none, none], []), ([], none), ([kvB 0 1], [], kvI 0, ([], [])), kvW97)
noncomputable def kC1118_0 : aC := (([kvB 0 120], [], 42, [kvR 40, kvR 14, kvN 1, kvN 0, kvN 120, kvI 0, none], []), ([], []), (120, [(-1, 0)]))
theorem ks1118 : aseg kS krf kB [kE1117, kE1068] (ksp []) kE1118 [kC1118_0] 30000 (none) = true := asgqk (by decide +kernel)
theorem ks1118_0 : aseg kS krf kB [kE1117, kE1068] (ksp []) kE1118 [kC1118_0] 30000 (some kC1118_0) = true := asgqk (by decide +kernel)
theorem kok1118 : aOK kS krf kB kE1118 := aOK_of (kal1 kok1117 (kal1 kok1068 kal0)) (kcl1 ks1118_0 kcl0) ks1118
/-- ColdShod$LawText.readLevel(LColdShod$LawCode;II)Z -/
noncomputable def kE1119 : aE := (65, 50, ([], [], 0, [kvR 40, kvR 14, kvN 0, kvN 0, none, none, none], []), ([], none), ([kvB 0 1], [], kvI 0, ([], [])), kvW97)
noncomputable def kC1119_0 : aC := (([kvB 0 120], [], 42, [kvR 40, kvR 14, kvN 0, kvN 0, kvN 120, kvI 0, none], []), ([], []), (120, [(-1, 0)]))
theorem ks1119 : aseg kS krf kB [kE1118, kE1068] (ksp []) kE1119 [kC1119_0] 30000 (none) = true := asgqk (by decide +kernel)
theorem ks1119_0 : aseg kS krf kB [kE1118, kE1068] (ksp []) kE1119 [kC1119_0] 30000 (some kC1119_0) = true := asgqk (by decide +kernel)
theorem kok1119 : aOK kS krf kB kE1119 := aOK_of (kal1 kok1118 (kal1 kok1068 kal0)) (kcl1 ks1119_0 kcl0) ks1119
/-- ColdShod$LawText.readInto(LColdShod$LawCode;)I -/
noncomputable def kE1120 : aE := (63, 52, ([], [], 0, [kvR 40, some (.inr [14, 17]), none], []), ([], none), ([(.negSucc 0, .ofNat 120)], [], kvI 0, ([], [])), kvW98)
noncomputable def kC1120_0 : aC := (([kvB 0 121], [], 11, [kvR 40, some (.inr [14, 17]), kvI 0], []), ([], []), (121, [(-1, 0)]))
theorem ks1120 : aseg kS krf kB [kE1067, kE1025, kE1015, kE1119, kE1068] (ksp [(63, 0, 1, -1000, 1000, 0), (63, 11, 1, -1000, 1000, 0)]) kE1120 [kC1120_0] 30000 (none) = true := asgqk (by decide +kernel)
theorem ks1120_0 : aseg kS krf kB [kE1067, kE1025, kE1015, kE1119, kE1068] (ksp [(63, 0, 1, -1000, 1000, 0), (63, 11, 1, -1000, 1000, 0)]) kE1120 [kC1120_0] 30000 (some kC1120_0) = true := asgqk (by decide +kernel)
theorem kok1120 : aOK kS krf kB kE1120 := aOK_of (kal1 kok1067 (kal1 kok1025 (kal1 kok1015 (kal1 kok1119 (kal1 kok1068 kal0))))) (kcl1 ks1120_0 kcl0) ks1120
/-- ColdShod.law()I -/
noncomputable def kE1121 : aE := (101, 53, ([], [], 0, [some (.inr [6]), none, none], []), ([], none), ([(.negSucc 219, .ofNat 1)], [], some (.inl (.inl (.inl (0, .ofNat 0)))), ([], [])), ([(14, 0), (14, 2), (17, 0), (17, 2), (40, 1), (40, 2)], [15, 18]))
theorem ks1121 : aseg kS krf kB [kE1120] (ksp []) kE1121 [] 30000 (none) = true := asgqk (by decide +kernel)
theorem kok1121 : aOK kS krf kB kE1121 := aOK_of (kal1 kok1120 kal0) kcl0 ks1121
/-- ColdShodModel.law()I -/
noncomputable def kE1122 : aE := (177, 44, ([], [], 0, [some (.inr [102]), none, none, none], []), ([], none), ([(.negSucc 219, .ofNat 1)], [], some (.inl (.inl (.inl (0, .ofNat 0)))), ([], [])), ([(102, 12), (102, 14), (102, 15), (102, 16), (102, 17), (102, 18), (102, 19)], [110]))
noncomputable def kC1122_0 : aC := (([kvA, kvB 0 120, kvB 0 120], [(102, 12, .inr (.ofNat 0)), (102, 18, .inr (.negSucc 0))], 37, [kvR 102, kvI 0, kvI 1, kvI 2], []), ([], []), (120, [(-1, 2)]))
theorem ks1122 : aseg kS krf kB [kE87] (ksp []) kE1122 [kC1122_0] 30000 (none) = true := asgqk (by decide +kernel)
theorem ks1122_0 : aseg kS krf kB [kE87] (ksp []) kE1122 [kC1122_0] 30000 (some kC1122_0) = true := asgqk (by decide +kernel)
theorem kok1122 : aOK kS krf kB kE1122 := aOK_of (kal1 kok87 kal0) (kcl1 ks1122_0 kcl0) ks1122
/-- ColdShod.feed(I)I -/
noncomputable def kE1123 : aE := (100, 1, ([(.negSucc 2147483647, .ofNat 2147483647)], [], 0, [some (.inr [6]), some (.inl (.inl (.inl (0, .ofNat 0))))], []), ([], none), ([(.negSucc 2, .ofNat 120)], [], some (.inl (.inl (.inl (1, .ofNat 0)))), ([], [])), ([(40, 1)], [41]))
theorem ks1123 : aseg kS krf kB [] (ksp []) kE1123 [] 30000 (none) = true := asgqk (by decide +kernel)
theorem kok1123 : aOK kS krf kB kE1123 := aOK_of kal0 kcl0 ks1123
/-- ColdShodModel.feed(I)I -/
noncomputable def kE1124 : aE := (165, 1, ([(.negSucc 2147483647, .ofNat 2147483647)], [], 0, [some (.inr [102]), some (.inl (.inl (.inl (0, .ofNat 0))))], []), ([], none), ([(.negSucc 2, .ofNat 120)], [], some (.inl (.inl (.inl (1, .ofNat 0)))), ([], [])), ([(102, 12)], [109]))
theorem ks1124 : aseg kS krf kB [] (ksp []) kE1124 [] 30000 (none) = true := asgqk (by decide +kernel)
theorem kok1124 : aOK kS krf kB kE1124 := aOK_of kal0 kcl0 ks1124
/-- ColdShod.of(II)I -/
noncomputable def kE1125 : aE := (99, 3, ([(.negSucc 2147483647, .ofNat 2147483647), (.negSucc 2147483647, .ofNat 2147483647)], [], 0, [some (.inr [6]), some (.inl (.inl (.inl (0, .ofNat 0)))), some (.inl (.inl (.inl (1, .ofNat 0))))], []), ([], none), ([(.negSucc 2147483647, .ofNat 2147483647)], [], some (.inl (.inl (.inl (2, .ofNat 0)))), ([], [])), ([], []))
theorem ks1125 : aseg kS krf kB [] (ksp []) kE1125 [] 30000 (none) = true := asgqk (by decide +kernel)
theorem kok1125 : aOK kS krf kB kE1125 := aOK_of kal0 kcl0 ks1125
/-- ColdShodModel.of(II)I -/
noncomputable def kE1126 : aE := (164, 3, ([(.negSucc 2147483647, .ofNat 2147483647), (.negSucc 2147483647, .ofNat 2147483647)], [], 0, [some (.inr [102]), some (.inl (.inl (.inl (0, .ofNat 0)))), some (.inl (.inl (.inl (1, .ofNat 0)))), none], []), ([], none), ([(.negSucc 1999999999, .ofNat 99)], [], some (.inl (.inl (.inl (2, .ofNat 0)))), ([], [])), ([], []))
theorem ks1126 : aseg kS krf kB [] (ksp []) kE1126 [] 30000 (none) = true := asgqk (by decide +kernel)
theorem kok1126 : aOK kS krf kB kE1126 := aOK_of kal0 kcl0 ks1126
/-- ColdShod$Changes.note(IIII)V -/
noncomputable def kE1127 : aE := (9, 1, ([kvB 0 11, kvB 0 11, (.negSucc 1999999999, .ofNat 100000000), (.negSucc 0, .ofNat 99)], [], 0, [kvR 42, kvI 0, kvI 1, kvI 2, kvI 3], []), ([], none), ([], [], none, ([], [])), kvW99)
theorem ks1127 : aseg kS krf kB [] (ksp []) kE1127 [] 30000 (none) = true := asgqk (by decide +kernel)
theorem kok1127 : aOK kS krf kB kE1127 := aOK_of kal0 kcl0 ks1127
/-- ColdShod.mend(III)I -/
noncomputable def kE1128 : aE := (98, 3, ([(.negSucc 2147483647, .ofNat 2147483647), (.negSucc 2147483647, .ofNat 2147483647), (.negSucc 2147483647, .ofNat 2147483647)], [], 0, [some (.inr [6]), some (.inl (.inl (.inl (0, .ofNat 0)))), some (.inl (.inl (.inl (1, .ofNat 0)))), some (.inl (.inl (.inl (2, .ofNat 0)))), none], []), ([], none), ([(.negSucc 1999999999, .ofNat 100000000)], [], some (.inl (.inl (.inl (3, .ofNat 0)))), ([], [])), ([(20, 0), (20, 1), (20, 2), (20, 3), (20, 4), (20, 5), (20, 6), (21, 0), (21, 1), (21, 2), (21, 3), (21, 4), (21, 5), (21, 6), (22, 0), (22, 1), (22, 2), (22, 3), (22, 4), (22, 5), (22, 6), (23, 0), (23, 1), (23, 2), (23, 3), (23, 4), (23, 5), (23, 6), (24, 0), (24, 1), (24, 2), (24, 3), (24, 4), (24, 5), (24, 6), (25, 0), (25, 1), (25, 2), (25, 3), (25, 4), (25, 5), (25, 6), (26, 0), (26, 1), (26, 2), (26, 3), (26, 4), (26, 5), (26, 6), (27, 0), (27, 1), (27, 2), (27, 3), (27, 4), (27, 5), (27, 6), (28, 2), (28, 3), (28, 4), (29, 2), (29, 3), (29, 4), (30, 2), (30, 3), (30, 4), (31, 2), (31, 3), (31, 4), (32, 2), (32, 3), (32, 4), (33, 2), (33, 3), (33, 4), (34, 2), (34, 3), (34, 4), (35, 2), (35, 3), (35, 4), (36, 2), (36, 3), (36, 4), (37, 2), (37, 3), (37, 4), (38, 2), (38, 3), (38, 4), (39, 2), (39, 3), (39, 4), (42, 0), (42, 1)], [8, 9, 43, 44, 45, 46, 1000]))
noncomputable def kC1128_0 : aC := (([kvB 0 11, kvB 0 11, (.negSucc 0, .ofNat 99), (.negSucc 1999999999, .ofNat 100000000)], [], 66, [kvR 6, kvI 0, kvI 1, kvI 2, kvI 3], []), ([], []), (0, []))
theorem ks1128 : aseg kS krf kB [kE1127] (ksp []) kE1128 [kC1128_0] 30000 (none) = true := asgqk (by decide +kernel)
theorem ks1128_0 : aseg kS krf kB [kE1127] (ksp []) kE1128 [kC1128_0] 30000 (some kC1128_0) = true := asgqk (by decide +kernel)
theorem kok1128 : aOK kS krf kB kE1128 := aOK_of (kal1 kok1127 kal0) (kcl1 ks1128_0 kcl0) ks1128
/-! ENTRIES and their checks: printed by a program (wip/ai). -/
/-- ColdShodModel.becomes(II)I -/
noncomputable def kE1129 : aE := (148, 0, ([kvB 92 103, kvB 0 2], [], 0, [kvR 102, kvI 0, kvI 1, none, none], []), ([], none), ([(.negSucc 0, .ofNat 99)], [], kvI 2, ([], [])), kvW100)
theorem kok1129 : aOK kS krf kB kE1129 := hand_becomes (wb := (.ofNat 92, .ofNat 103)) (vb := (.ofNat 0, .ofNat 2)) (by decide +kernel)
/-- ColdShodModel.becomes(II)I -/
noncomputable def kE1130 : aE := (148, 0, ([kvB 80 91, kvB 0 9], [], 0, [kvR 102, kvI 0, kvI 1, none, none], []), ([], none), ([(.negSucc 0, .ofNat 99)], [], kvI 2, ([], [])), kvW100)
theorem kok1130 : aOK kS krf kB kE1130 := hand_becomes (wb := (.ofNat 80, .ofNat 91)) (vb := (.ofNat 0, .ofNat 9)) (by decide +kernel)
/-- ColdShodModel.becomes(II)I -/
noncomputable def kE1131 : aE := (148, 0, ([kvB 68 79, kvB 1 9], [], 0, [kvR 102, kvI 0, kvI 1, none, none], []), ([], none), ([(.negSucc 0, .ofNat 99)], [], kvI 2, ([], [])), kvW100)
theorem kok1131 : aOK kS krf kB kE1131 := hand_becomes (wb := (.ofNat 68, .ofNat 79)) (vb := (.ofNat 1, .ofNat 9)) (by decide +kernel)
/-- ColdShodModel.becomes(II)I -/
noncomputable def kE1132 : aE := (148, 0, ([kvB 60 67, (.negSucc 0, .ofNat 5)], [], 0, [kvR 102, kvI 0, kvI 1, none, none], []), ([], none), ([(.negSucc 0, .ofNat 99)], [], kvI 2, ([], [])), kvW100)
theorem kok1132 : aOK kS krf kB kE1132 := hand_becomes (wb := (.ofNat 60, .ofNat 67)) (vb := (.negSucc 0, .ofNat 5)) (by decide +kernel)
/-- ColdShodModel.becomes(II)I -/
noncomputable def kE1133 : aE := (148, 0, ([kvB 52 59, kvB 0 9], [], 0, [kvR 102, kvI 0, kvI 1, none, none], []), ([], none), ([(.negSucc 0, .ofNat 99)], [], kvI 2, ([], [])), kvW100)
theorem kok1133 : aOK kS krf kB kE1133 := hand_becomes (wb := (.ofNat 52, .ofNat 59)) (vb := (.ofNat 0, .ofNat 9)) (by decide +kernel)
/-- ColdShodModel.becomes(II)I -/
noncomputable def kE1134 : aE := (148, 0, ([kvB 44 51, kvB 0 1], [], 0, [kvR 102, kvI 0, kvI 1, none, none], []), ([], none), ([(.negSucc 0, .ofNat 99)], [], kvI 2, ([], [])), kvW100)
theorem kok1134 : aOK kS krf kB kE1134 := hand_becomes (wb := (.ofNat 44, .ofNat 51)) (vb := (.ofNat 0, .ofNat 1)) (by decide +kernel)
/-- ColdShodModel.becomes(II)I -/
noncomputable def kE1135 : aE := (148, 0, ([kvB 36 43, kvB 0 9], [], 0, [kvR 102, kvI 0, kvI 1, none, none], []), ([], none), ([(.negSucc 0, .ofNat 99)], [], kvI 2, ([], [])), kvW100)
theorem kok1135 : aOK kS krf kB kE1135 := hand_becomes (wb := (.ofNat 36, .ofNat 43)) (vb := (.ofNat 0, .ofNat 9)) (by decide +kernel)
/-- ColdShodModel.becomes(II)I -/
noncomputable def kE1136 : aE := (148, 0, ([kvB 28 35, kvB 0 99], [], 0, [kvR 102, kvI 0, kvI 1, none, none], []), ([], none), ([(.negSucc 0, .ofNat 99)], [], kvI 2, ([], [])), kvW100)
theorem kok1136 : aOK kS krf kB kE1136 := hand_becomes (wb := (.ofNat 28, .ofNat 35)) (vb := (.ofNat 0, .ofNat 99)) (by decide +kernel)
/-- ColdShodModel.becomes(II)I -/
noncomputable def kE1137 : aE := (148, 0, ([kvB 20 27, kvB 0 5], [], 0, [kvR 102, kvI 0, kvI 1, none, none], []), ([], none), ([(.negSucc 0, .ofNat 99)], [], kvI 2, ([], [])), kvW100)
theorem kok1137 : aOK kS krf kB kE1137 := hand_becomes (wb := (.ofNat 20, .ofNat 27)) (vb := (.ofNat 0, .ofNat 5)) (by decide +kernel)
/-- ColdShodModel.becomes(II)I -/
noncomputable def kE1138 : aE := (148, 0, ([kvB 12 19, kvB 0 3], [], 0, [kvR 102, kvI 0, kvI 1, none, none], []), ([], none), ([(.negSucc 0, .ofNat 99)], [], kvI 2, ([], [])), kvW100)
theorem kok1138 : aOK kS krf kB kE1138 := hand_becomes (wb := (.ofNat 12, .ofNat 19)) (vb := (.ofNat 0, .ofNat 3)) (by decide +kernel)
/-- ColdShodModel.becomes(II)I -/
noncomputable def kE1139 : aE := (148, 0, ([kvB 6 11, kvB 0 12], [], 0, [kvR 102, kvI 0, kvI 1, none, none], []), ([], none), ([(.negSucc 0, .ofNat 99)], [], kvI 2, ([], [])), kvW100)
theorem kok1139 : aOK kS krf kB kE1139 := hand_becomes (wb := (.ofNat 6, .ofNat 11)) (vb := (.ofNat 0, .ofNat 12)) (by decide +kernel)
/-- ColdShodModel.becomes(II)I -/
noncomputable def kE1140 : aE := (148, 0, ([kvB 0 5, kvB 0 5], [], 0, [kvR 102, kvI 0, kvI 1, none, none], []), ([], none), ([(.negSucc 0, .ofNat 99)], [], kvI 2, ([], [])), kvW100)
theorem kok1140 : aOK kS krf kB kE1140 := hand_becomes (wb := (.ofNat 0, .ofNat 5)) (vb := (.ofNat 0, .ofNat 5)) (by decide +kernel)
/-- ColdShodModel.mend(III)I -/
noncomputable def kE1141 : aE := (163, 3, ([(.negSucc 2147483647, .ofNat 2147483647), (.negSucc 2147483647, .ofNat 2147483647), (.negSucc 2147483647, .ofNat 2147483647)], [], 0, [some (.inr [102]), some (.inl (.inl (.inl (0, .ofNat 0)))), some (.inl (.inl (.inl (1, .ofNat 0)))), some (.inl (.inl (.inl (2, .ofNat 0)))), none], []), ([], none), ([(.negSucc 1999999999, .ofNat 99)], [], some (.inl (.inl (.inl (3, .ofNat 0)))), ([], [])), ([(102, 4), (102, 5)], [103, 104, 105, 106]))
noncomputable def kC1141_0 : aC := (([kvA, kvA, kvA, (.negSucc 0, .ofNat 103)], [], 32, [kvR 102, kvI 0, kvI 1, kvI 2, kvI 3], []), ([], []), (0, []))
theorem ks1141 : aseg kS krf kB [kE1129, kE1130, kE1131, kE1132, kE1133, kE1134, kE1135, kE1136, kE1137, kE1138, kE1139, kE1140] (ksp [(163, 0, 2, 0, 11, 0)]) kE1141 [kC1141_0] 30000 (none) = true := asgqk (by decide +kernel)
theorem ks1141_0 : aseg kS krf kB [kE1129, kE1130, kE1131, kE1132, kE1133, kE1134, kE1135, kE1136, kE1137, kE1138, kE1139, kE1140] (ksp [(163, 0, 2, 0, 11, 0)]) kE1141 [kC1141_0] 30000 (some kC1141_0) = true := asgqk (by decide +kernel)
theorem kok1141 : aOK kS krf kB kE1141 := aOK_of (kal1 kok1129 (kal1 kok1130 (kal1 kok1131 (kal1 kok1132 (kal1 kok1133 (kal1 kok1134 (kal1 kok1135 (kal1 kok1136 (kal1 kok1137 (kal1 kok1138 (kal1 kok1139 (kal1 kok1140 kal0)))))))))))) (kcl1 ks1141_0 kcl0) ks1141
/-- ColdShod.roads(III)I -/
noncomputable def kE1142 : aE := (96, 2, ([(.negSucc 2147483647, .ofNat 2147483647), (.negSucc 2147483647, .ofNat 2147483647), (.negSucc 2147483647, .ofNat 2147483647)], [], 0, [some (.inr [6]), some (.inl (.inl (.inl (0, .ofNat 0)))), some (.inl (.inl (.inl (1, .ofNat 0)))), some (.inl (.inl (.inl (2, .ofNat 0)))), none, none, none], []), ([], none), ([(.negSucc 11, .ofNat 12)], [], some (.inl (.inl (.inl (3, .ofNat 0)))), ([], [])), ([(7, 8), (28, 0), (28, 1), (28, 2), (29, 0), (29, 1), (29, 2), (30, 0), (30, 1), (30, 2), (31, 0), (31, 1), (31, 2), (32, 0), (32, 1), (32, 2), (33, 0), (33, 1), (33, 2), (34, 0), (34, 1), (34, 2), (35, 0), (35, 1), (35, 2), (36, 0), (36, 1), (36, 2), (37, 0), (37, 1), (37, 2), (38, 0), (38, 1), (38, 2), (39, 0), (39, 1), (39, 2)], []))
noncomputable def kC1142_0 : aC := (([kvB 0 5, kvB 0 2147483647, kvB 1 12, kvB 0 12, kvB 0 2147483647], [], 61, [kvR 6, kvI 0, kvI 1, kvI 2, some (.inr [76, 78, 80, 82, 84, 86]), kvI 3, kvI 4], []), ([], []), (12, [(-1, 3)]))
theorem ks1142 : aseg kS krf kB [] (ksp []) kE1142 [kC1142_0] 30000 (none) = true := asgqk (by decide +kernel)
theorem ks1142_0 : aseg kS krf kB [] (ksp []) kE1142 [kC1142_0] 30000 (some kC1142_0) = true := asgqk (by decide +kernel)
theorem kok1142 : aOK kS krf kB kE1142 := aOK_of kal0 (kcl1 ks1142_0 kcl0) ks1142
/-- ColdShodModel.roads(III)I -/
noncomputable def kE1143 : aE := (160, 3, ([(.negSucc 2147483647, .ofNat 2147483647), (.negSucc 2147483647, .ofNat 2147483647), (.negSucc 2147483647, .ofNat 2147483647)], [], 0, [some (.inr [102]), some (.inl (.inl (.inl (0, .ofNat 0)))), some (.inl (.inl (.inl (1, .ofNat 0)))), some (.inl (.inl (.inl (2, .ofNat 0)))), none, none, none], []), ([], none), ([(.negSucc 11, .ofNat 12)], [], some (.inl (.inl (.inl (3, .ofNat 0)))), ([], [])), ([(102, 8)], [103, 107, 108]))
noncomputable def kC1143_0 : aC := (([kvB 0 5, kvB 0 2147483647, kvB 1 12, kvB 0 12], [], 69, [kvR 102, kvI 0, kvI 1, kvI 2, kvI 3, kvN 1, none], []), ([], []), (60, [(-1, 3)]))
noncomputable def kC1143_1 : aC := (([kvB 0 5, kvA, kvB 1 12, kvB 0 11], [], 69, [kvR 102, kvI 0, kvI 1, kvI 2, kvI 3, kvN 0, none], []), ([], []), (0, []))
noncomputable def kC1143_2 : aC := (([kvB 0 5, kvB 0 2147483647, kvB 1 12, kvB 0 11, kvB 0 1, kvA], [], 166, [kvR 102, kvI 0, kvI 1, kvI 2, kvI 3, kvI 4, kvI 5], []), ([], []), (16, []))
noncomputable def kC1143_3 : aC := (([kvB 0 5, kvB 0 2147483647, kvB 1 12, kvB 0 11], [], 110, [kvR 102, kvI 0, kvI 1, kvI 2, kvI 3, kvN 1, none], []), ([], []), (32, []))
theorem ks1143 : aseg kS krf kB [] (ksp [(160, 80, 4, -1000, 1000, 0)]) kE1143 [kC1143_0, kC1143_1, kC1143_2, kC1143_3] 30000 (none) = true := asgqk (by decide +kernel)
theorem ks1143_0 : aseg kS krf kB [] (ksp [(160, 80, 4, -1000, 1000, 0)]) kE1143 [kC1143_0, kC1143_1, kC1143_2, kC1143_3] 30000 (some kC1143_0) = true := asgqk (by decide +kernel)
theorem ks1143_1 : aseg kS krf kB [] (ksp [(160, 80, 4, -1000, 1000, 0)]) kE1143 [kC1143_0, kC1143_1, kC1143_2, kC1143_3] 30000 (some kC1143_1) = true := asgqk (by decide +kernel)
theorem ks1143_2 : aseg kS krf kB [] (ksp [(160, 80, 4, -1000, 1000, 0)]) kE1143 [kC1143_0, kC1143_1, kC1143_2, kC1143_3] 30000 (some kC1143_2) = true := asgqk (by decide +kernel)
theorem ks1143_3 : aseg kS krf kB [] (ksp [(160, 80, 4, -1000, 1000, 0)]) kE1143 [kC1143_0, kC1143_1, kC1143_2, kC1143_3] 30000 (some kC1143_3) = true := asgqk (by decide +kernel)
theorem kok1143 : aOK kS krf kB kE1143 := aOK_of kal0 (kcl1 ks1143_0 (kcl1 ks1143_1 (kcl1 ks1143_2 (kcl1 ks1143_3 kcl0)))) ks1143
/-- ColdShod.road(II)I -/
noncomputable def kE1144 : aE := (95, 2, ([(.negSucc 2147483647, .ofNat 2147483647), (.negSucc 2147483647, .ofNat 2147483647)], [], 0, [some (.inr [6]), some (.inl (.inl (.inl (0, .ofNat 0)))), some (.inl (.inl (.inl (1, .ofNat 0))))], []), ([], none), ([(.negSucc 2, .ofNat 11)], [], some (.inl (.inl (.inl (2, .ofNat 0)))), ([], [])), ([(7, 8), (28, 0), (28, 1), (28, 2), (29, 0), (29, 1), (29, 2), (30, 0), (30, 1), (30, 2), (31, 0), (31, 1), (31, 2), (32, 0), (32, 1), (32, 2), (33, 0), (33, 1), (33, 2), (34, 0), (34, 1), (34, 2), (35, 0), (35, 1), (35, 2), (36, 0), (36, 1), (36, 2), (37, 0), (37, 1), (37, 2), (38, 0), (38, 1), (38, 2), (39, 0), (39, 1), (39, 2)], []))
theorem ks1144 : aseg kS krf kB [] (ksp []) kE1144 [] 30000 (none) = true := asgqk (by decide +kernel)
theorem kok1144 : aOK kS krf kB kE1144 := aOK_of kal0 kcl0 ks1144
/-- ColdShodModel.road(II)I -/
noncomputable def kE1145 : aE := (159, 3, ([(.negSucc 2147483647, .ofNat 2147483647), (.negSucc 2147483647, .ofNat 2147483647)], [], 0, [some (.inr [102]), some (.inl (.inl (.inl (0, .ofNat 0)))), some (.inl (.inl (.inl (1, .ofNat 0))))], []), ([], none), ([(.negSucc 2, .ofNat 11)], [], some (.inl (.inl (.inl (2, .ofNat 0)))), ([], [])), ([(102, 8)], [103, 107, 108]))
theorem ks1145 : aseg kS krf kB [] (ksp []) kE1145 [] 30000 (none) = true := asgqk (by decide +kernel)
theorem kok1145 : aOK kS krf kB kE1145 := aOK_of kal0 kcl0 ks1145
/-- ColdShod.idea(II)I -/
noncomputable def kE1146 : aE := (94, 0, ([(.negSucc 2147483647, .ofNat 2147483647), (.negSucc 2147483647, .ofNat 2147483647)], [], 0, [some (.inr [6]), some (.inl (.inl (.inl (0, .ofNat 0)))), some (.inl (.inl (.inl (1, .ofNat 0)))), none], []), ([], none), ([(.negSucc 2, .ofNat 7)], [], some (.inl (.inl (.inl (2, .ofNat 0)))), ([], [])), ([(7, 7), (20, 0), (20, 1), (21, 0), (21, 1), (22, 0), (22, 1), (23, 0), (23, 1), (24, 0), (24, 1), (25, 0), (25, 1), (26, 0), (26, 1), (27, 0), (27, 1)], []))
theorem ks1146 : aseg kS krf kB [] (ksp []) kE1146 [] 30000 (none) = true := asgqk (by decide +kernel)
theorem kok1146 : aOK kS krf kB kE1146 := aOK_of kal0 kcl0 ks1146
/-- ColdShodModel.idea(II)I -/
noncomputable def kE1147 : aE := (156, 1, ([(.negSucc 2147483647, .ofNat 2147483647), (.negSucc 2147483647, .ofNat 2147483647)], [], 0, [some (.inr [102]), some (.inl (.inl (.inl (0, .ofNat 0)))), some (.inl (.inl (.inl (1, .ofNat 0))))], []), ([], none), ([(.negSucc 2, .ofNat 7)], [], some (.inl (.inl (.inl (2, .ofNat 0)))), ([], [])), ([(102, 7)], [103]))
theorem ks1147 : aseg kS krf kB [] (ksp []) kE1147 [] 30000 (none) = true := asgqk (by decide +kernel)
theorem kok1147 : aOK kS krf kB kE1147 := aOK_of kal0 kcl0 ks1147
/-- ColdShod.head(I)I -/
noncomputable def kE1148 : aE := (93, 0, ([(.negSucc 2147483647, .ofNat 2147483647)], [], 0, [some (.inr [6]), some (.inl (.inl (.inl (0, .ofNat 0))))], []), ([], none), ([(.negSucc 2, .ofNat 5)], [], some (.inl (.inl (.inl (1, .ofNat 0)))), ([], [])), ([(7, 6)], [8, 9]))
theorem ks1148 : aseg kS krf kB [] (ksp []) kE1148 [] 30000 (none) = true := asgqk (by decide +kernel)
theorem kok1148 : aOK kS krf kB kE1148 := aOK_of kal0 kcl0 ks1148
/-- ColdShodModel.head(I)I -/
noncomputable def kE1149 : aE := (155, 1, ([(.negSucc 2147483647, .ofNat 2147483647)], [], 0, [some (.inr [102]), some (.inl (.inl (.inl (0, .ofNat 0))))], []), ([], none), ([(.negSucc 2, .ofNat 5)], [], some (.inl (.inl (.inl (1, .ofNat 0)))), ([], [])), ([(102, 6)], [103]))
theorem ks1149 : aseg kS krf kB [] (ksp []) kE1149 [] 30000 (none) = true := asgqk (by decide +kernel)
theorem kok1149 : aOK kS krf kB kE1149 := aOK_of kal0 kcl0 ks1149
/-- ColdShodLaw.law([I)Z -/
noncomputable def kE1150 : aE := (241, 55, ([kvB 0 3072], [], 18, [kvR 0, kvR 6, kvR 102, kvN 0], []), ([], some 0), ([kvB 0 1], [], kvI 1, ([], [])), kvW101)
noncomputable def kC1150_0 : aC := (([kvB 6 3072, kvB 6 3072], [], 18, [kvR 0, kvR 6, kvR 102, kvI 1], []), ([], []), (3072, [(-1, 1)]))
theorem ks1150 : aseg kS krf kB [kE0, kE1, kE3, kE4, kE5, kE6, kE7, kE8, kE9, kE10, kE12, kE13, kE14, kE15, kE16, kE17, kE18, kE19, kE20, kE21, kE22, kE23, kE24, kE25, kE26, kE27, kE28, kE29, kE30, kE31, kE36, kE38, kE42, kE91, kE93, kE95, kE100, kE101, kE116, kE137, kE156, kE261, kE265, kE266, kE270, kE272, kE274, kE276, kE277, kE278, kE279, kE280, kE304, kE560, kE912, kE1009, kE1011, kE1012, kE1013, kE1014, kE1121, kE1122, kE1123, kE1124, kE1125, kE1126, kE1128, kE1141, kE1142, kE1143, kE1144, kE1145, kE1146, kE1147, kE1148, kE1149] (ksp []) kE1150 [kC1150_0] 30000 (none) = true := asgqk (by decide +kernel)
theorem ks1150_0 : aseg kS krf kB [kE0, kE1, kE3, kE4, kE5, kE6, kE7, kE8, kE9, kE10, kE12, kE13, kE14, kE15, kE16, kE17, kE18, kE19, kE20, kE21, kE22, kE23, kE24, kE25, kE26, kE27, kE28, kE29, kE30, kE31, kE36, kE38, kE42, kE91, kE93, kE95, kE100, kE101, kE116, kE137, kE156, kE261, kE265, kE266, kE270, kE272, kE274, kE276, kE277, kE278, kE279, kE280, kE304, kE560, kE912, kE1009, kE1011, kE1012, kE1013, kE1014, kE1121, kE1122, kE1123, kE1124, kE1125, kE1126, kE1128, kE1141, kE1142, kE1143, kE1144, kE1145, kE1146, kE1147, kE1148, kE1149] (ksp []) kE1150 [kC1150_0] 30000 (some kC1150_0) = true := asgqk (by decide +kernel)
set_option maxRecDepth 100000 in
theorem kok1150 : aOK kS krf kB kE1150 := aOK_of (kal1 kok0 (kal1 kok1 (kal1 kok3 (kal1 kok4 (kal1 kok5 (kal1 kok6 (kal1 kok7 (kal1 kok8 (kal1 kok9 (kal1 kok10 (kal1 kok12 (kal1 kok13 (kal1 kok14 (kal1 kok15 (kal1 kok16 (kal1 kok17 (kal1 kok18 (kal1 kok19 (kal1 kok20 (kal1 kok21 (kal1 kok22 (kal1 kok23 (kal1 kok24 (kal1 kok25 (kal1 kok26 (kal1 kok27 (kal1 kok28 (kal1 kok29 (kal1 kok30 (kal1 kok31 (kal1 kok36 (kal1 kok38 (kal1 kok42 (kal1 kok91 (kal1 kok93 (kal1 kok95 (kal1 kok100 (kal1 kok101 (kal1 kok116 (kal1 kok137 (kal1 kok156 (kal1 kok261 (kal1 kok265 (kal1 kok266 (kal1 kok270 (kal1 kok272 (kal1 kok274 (kal1 kok276 (kal1 kok277 (kal1 kok278 (kal1 kok279 (kal1 kok280 (kal1 kok304 (kal1 kok560 (kal1 kok912 (kal1 kok1009 (kal1 kok1011 (kal1 kok1012 (kal1 kok1013 (kal1 kok1014 (kal1 kok1121 (kal1 kok1122 (kal1 kok1123 (kal1 kok1124 (kal1 kok1125 (kal1 kok1126 (kal1 kok1128 (kal1 kok1141 (kal1 kok1142 (kal1 kok1143 (kal1 kok1144 (kal1 kok1145 (kal1 kok1146 (kal1 kok1147 (kal1 kok1148 (kal1 kok1149 kal0)))))))))))))))))))))))))))))))))))))))))))))))))))))))))))))))))))))))))))) (kcl1 ks1150_0 kcl0) ks1150
