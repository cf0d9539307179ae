/-! ENTRIES and their checks: printed by a program (wip/ai). -/
/-- ColdShodModel.triesWay(IIIII)V -/
def kE372 : aE := (192, 49, ([kvB 0 7, kvB 0 7, kvB 0 7], [], 0, [kvR 102, kvI 0, kvI 1, kvI 2, kvN 188, kvN 4, none, none], []), ([], none), ([], [], none, ([], [])), kvW64)
def kC372_0 : aC := (([kvB 0 7, kvB 0 7, kvB 0 7, kvB 0 1, kvB 0 4], [], 16, [kvR 102, kvI 0, kvI 1, kvI 2, kvN 188, kvN 4, kvI 3, kvI 4], []), ([], []), (336, [(-1, 4)]))
def kC372_1 : aC := (([kvB 0 7, kvB 0 7, kvB 0 7, kvB 0 12], [], 141, [kvR 102, kvI 0, kvI 1, kvI 2, kvN 188, kvN 4, kvI 3, none], []), ([], []), (141, [(-11, 3)]))
def kC372_2 : aC := (([kvB 0 7, kvB 0 7, kvB 0 7, kvB 0 11, (.negSucc 0, .ofNat 7), kvB 1 12], [(102, 8, .inl (5, .ofNat 0))], 195, [kvR 102, kvI 0, kvI 1, kvI 2, kvN 188, kvN 4, kvI 3, kvI 4], []), ([], []), (139, [(-11, 3), (-1, 4)]))
def kC372_3 : aC := (([kvB 0 7, kvB 0 7, kvB 0 7, (.negSucc 0, .ofNat 2147483647)], [(102, 29, .inl (3, .ofNat 0))], 91, [kvR 102, kvI 0, kvI 1, kvI 2, kvN 188, kvN 4, kvN 1, kvN 4], []), ([], []), (166, []))
def kC372_4 : aC := (([kvB 0 7, kvB 0 7, kvB 0 7, kvB 0 4, (.negSucc 0, .ofNat 99)], [(102, 29, .inl (4, .ofNat 0)), (102, 30, .inr (.ofNat 4))], 110, [kvR 102, kvI 0, kvI 1, kvI 2, kvN 188, kvN 4, kvN 1, kvI 3], []), ([], []), (4, [(-1, 3)]))
theorem ks372 : aseg kS krf kB [kE43, kE89, kE308, kE370, kE371] (ksp [(192, 200, 7, 0, 7, 0)]) kE372 [kC372_0, kC372_1, kC372_2, kC372_3, kC372_4] 30000 (none) = true := by decide +kernel
theorem ks372_0 : aseg kS krf kB [kE43, kE89, kE308, kE370, kE371] (ksp [(192, 200, 7, 0, 7, 0)]) kE372 [kC372_0, kC372_1, kC372_2, kC372_3, kC372_4] 30000 (some kC372_0) = true := by decide +kernel
theorem ks372_1 : aseg kS krf kB [kE43, kE89, kE308, kE370, kE371] (ksp [(192, 200, 7, 0, 7, 0)]) kE372 [kC372_0, kC372_1, kC372_2, kC372_3, kC372_4] 30000 (some kC372_1) = true := by decide +kernel
theorem ks372_2 : aseg kS krf kB [kE43, kE89, kE308, kE370, kE371] (ksp [(192, 200, 7, 0, 7, 0)]) kE372 [kC372_0, kC372_1, kC372_2, kC372_3, kC372_4] 30000 (some kC372_2) = true := by decide +kernel
theorem ks372_3 : aseg kS krf kB [kE43, kE89, kE308, kE370, kE371] (ksp [(192, 200, 7, 0, 7, 0)]) kE372 [kC372_0, kC372_1, kC372_2, kC372_3, kC372_4] 30000 (some kC372_3) = true := by decide +kernel
theorem ks372_4 : aseg kS krf kB [kE43, kE89, kE308, kE370, kE371] (ksp [(192, 200, 7, 0, 7, 0)]) kE372 [kC372_0, kC372_1, kC372_2, kC372_3, kC372_4] 30000 (some kC372_4) = true := by decide +kernel
theorem kok372 : aOK kS krf kB kE372 := aOK_of (kal1 kok43 (kal1 kok89 (kal1 kok308 (kal1 kok370 (kal1 kok371 kal0))))) (kcl1 ks372_0 (kcl1 ks372_1 (kcl1 ks372_2 (kcl1 ks372_3 (kcl1 ks372_4 kcl0))))) ks372
/-- ColdShodModel.triesWay(IIIII)V -/
def kE373 : aE := (192, 48, ([kvB 0 7, kvB 0 7, kvB 0 7], [], 0, [kvR 102, kvI 0, kvI 1, kvI 2, kvN 187, kvN 5, none, none], []), ([], none), ([], [], none, ([], [])), kvW63)
def kC373_0 : aC := (([kvB 0 7, kvB 0 7, kvB 0 7, kvB 0 1, kvB 0 5], [], 16, [kvR 102, kvI 0, kvI 1, kvI 2, kvN 187, kvN 5, kvI 3, kvI 4], []), ([], []), (337, [(-1, 4)]))
def kC373_1 : aC := (([kvB 0 7, kvB 0 7, kvB 0 7, kvB 0 12], [], 141, [kvR 102, kvI 0, kvI 1, kvI 2, kvN 187, kvN 5, kvI 3, none], []), ([], []), (141, [(-11, 3)]))
def kC373_2 : aC := (([kvB 0 7, kvB 0 7, kvB 0 7, kvB 0 11, (.negSucc 0, .ofNat 7), kvB 1 12], [(102, 8, .inl (5, .ofNat 0))], 195, [kvR 102, kvI 0, kvI 1, kvI 2, kvN 187, kvN 5, kvI 3, kvI 4], []), ([], []), (139, [(-11, 3), (-1, 4)]))
def kC373_3 : aC := (([kvB 0 7, kvB 0 7, kvB 0 7, (.negSucc 0, .ofNat 2147483647)], [(102, 29, .inl (3, .ofNat 0))], 91, [kvR 102, kvI 0, kvI 1, kvI 2, kvN 187, kvN 5, kvN 1, kvN 5], []), ([], []), (166, []))
def kC373_4 : aC := (([kvB 0 7, kvB 0 7, kvB 0 7, kvB 0 5, (.negSucc 0, .ofNat 99)], [(102, 29, .inl (4, .ofNat 0)), (102, 30, .inr (.ofNat 5))], 110, [kvR 102, kvI 0, kvI 1, kvI 2, kvN 187, kvN 5, kvN 1, kvI 3], []), ([], []), (5, [(-1, 3)]))
theorem ks373 : aseg kS krf kB [kE43, kE89, kE309, kE369] (ksp [(192, 200, 7, 0, 7, 0)]) kE373 [kC373_0, kC373_1, kC373_2, kC373_3, kC373_4] 30000 (none) = true := by decide +kernel
theorem ks373_0 : aseg kS krf kB [kE43, kE89, kE309, kE369] (ksp [(192, 200, 7, 0, 7, 0)]) kE373 [kC373_0, kC373_1, kC373_2, kC373_3, kC373_4] 30000 (some kC373_0) = true := by decide +kernel
theorem ks373_1 : aseg kS krf kB [kE43, kE89, kE309, kE369] (ksp [(192, 200, 7, 0, 7, 0)]) kE373 [kC373_0, kC373_1, kC373_2, kC373_3, kC373_4] 30000 (some kC373_1) = true := by decide +kernel
theorem ks373_2 : aseg kS krf kB [kE43, kE89, kE309, kE369] (ksp [(192, 200, 7, 0, 7, 0)]) kE373 [kC373_0, kC373_1, kC373_2, kC373_3, kC373_4] 30000 (some kC373_2) = true := by decide +kernel
theorem ks373_3 : aseg kS krf kB [kE43, kE89, kE309, kE369] (ksp [(192, 200, 7, 0, 7, 0)]) kE373 [kC373_0, kC373_1, kC373_2, kC373_3, kC373_4] 30000 (some kC373_3) = true := by decide +kernel
theorem ks373_4 : aseg kS krf kB [kE43, kE89, kE309, kE369] (ksp [(192, 200, 7, 0, 7, 0)]) kE373 [kC373_0, kC373_1, kC373_2, kC373_3, kC373_4] 30000 (some kC373_4) = true := by decide +kernel
theorem kok373 : aOK kS krf kB kE373 := aOK_of (kal1 kok43 (kal1 kok89 (kal1 kok309 (kal1 kok369 kal0)))) (kcl1 ks373_0 (kcl1 ks373_1 (kcl1 ks373_2 (kcl1 ks373_3 (kcl1 ks373_4 kcl0))))) ks373
/-- ColdShodModel.triesWay(IIIII)V -/
def kE374 : aE := (192, 49, ([kvB 0 7, kvB 0 7, kvB 0 7], [], 0, [kvR 102, kvI 0, kvI 1, kvI 2, kvN 186, kvN 4, none, none], []), ([], none), ([], [], none, ([], [])), kvW64)
def kC374_0 : aC := (([kvB 0 7, kvB 0 7, kvB 0 7, kvB 0 1, kvB 0 4], [], 16, [kvR 102, kvI 0, kvI 1, kvI 2, kvN 186, kvN 4, kvI 3, kvI 4], []), ([], []), (336, [(-1, 4)]))
def kC374_1 : aC := (([kvB 0 7, kvB 0 7, kvB 0 7, kvB 0 12], [], 141, [kvR 102, kvI 0, kvI 1, kvI 2, kvN 186, kvN 4, kvI 3, none], []), ([], []), (141, [(-11, 3)]))
def kC374_2 : aC := (([kvB 0 7, kvB 0 7, kvB 0 7, kvB 0 11, (.negSucc 0, .ofNat 7), kvB 1 12], [(102, 8, .inl (5, .ofNat 0))], 195, [kvR 102, kvI 0, kvI 1, kvI 2, kvN 186, kvN 4, kvI 3, kvI 4], []), ([], []), (139, [(-11, 3), (-1, 4)]))
def kC374_3 : aC := (([kvB 0 7, kvB 0 7, kvB 0 7, (.negSucc 0, .ofNat 2147483647)], [(102, 29, .inl (3, .ofNat 0))], 91, [kvR 102, kvI 0, kvI 1, kvI 2, kvN 186, kvN 4, kvN 1, kvN 4], []), ([], []), (166, []))
def kC374_4 : aC := (([kvB 0 7, kvB 0 7, kvB 0 7, kvB 0 4, (.negSucc 0, .ofNat 99)], [(102, 29, .inl (4, .ofNat 0)), (102, 30, .inr (.ofNat 4))], 110, [kvR 102, kvI 0, kvI 1, kvI 2, kvN 186, kvN 4, kvN 1, kvI 3], []), ([], []), (4, [(-1, 3)]))
theorem ks374 : aseg kS krf kB [kE43, kE89, kE310, kE370, kE373] (ksp [(192, 200, 7, 0, 7, 0)]) kE374 [kC374_0, kC374_1, kC374_2, kC374_3, kC374_4] 30000 (none) = true := by decide +kernel
theorem ks374_0 : aseg kS krf kB [kE43, kE89, kE310, kE370, kE373] (ksp [(192, 200, 7, 0, 7, 0)]) kE374 [kC374_0, kC374_1, kC374_2, kC374_3, kC374_4] 30000 (some kC374_0) = true := by decide +kernel
theorem ks374_1 : aseg kS krf kB [kE43, kE89, kE310, kE370, kE373] (ksp [(192, 200, 7, 0, 7, 0)]) kE374 [kC374_0, kC374_1, kC374_2, kC374_3, kC374_4] 30000 (some kC374_1) = true := by decide +kernel
theorem ks374_2 : aseg kS krf kB [kE43, kE89, kE310, kE370, kE373] (ksp [(192, 200, 7, 0, 7, 0)]) kE374 [kC374_0, kC374_1, kC374_2, kC374_3, kC374_4] 30000 (some kC374_2) = true := by decide +kernel
theorem ks374_3 : aseg kS krf kB [kE43, kE89, kE310, kE370, kE373] (ksp [(192, 200, 7, 0, 7, 0)]) kE374 [kC374_0, kC374_1, kC374_2, kC374_3, kC374_4] 30000 (some kC374_3) = true := by decide +kernel
theorem ks374_4 : aseg kS krf kB [kE43, kE89, kE310, kE370, kE373] (ksp [(192, 200, 7, 0, 7, 0)]) kE374 [kC374_0, kC374_1, kC374_2, kC374_3, kC374_4] 30000 (some kC374_4) = true := by decide +kernel
theorem kok374 : aOK kS krf kB kE374 := aOK_of (kal1 kok43 (kal1 kok89 (kal1 kok310 (kal1 kok370 (kal1 kok373 kal0))))) (kcl1 ks374_0 (kcl1 ks374_1 (kcl1 ks374_2 (kcl1 ks374_3 (kcl1 ks374_4 kcl0))))) ks374
/-- ColdShodModel.triesWay(IIIII)V -/
def kE375 : aE := (192, 49, ([kvB 0 7, kvB 0 7, kvB 0 7], [], 0, [kvR 102, kvI 0, kvI 1, kvI 2, kvN 185, kvN 4, none, none], []), ([], none), ([], [], none, ([], [])), kvW64)
def kC375_0 : aC := (([kvB 0 7, kvB 0 7, kvB 0 7, kvB 0 1, kvB 0 4], [], 16, [kvR 102, kvI 0, kvI 1, kvI 2, kvN 185, kvN 4, kvI 3, kvI 4], []), ([], []), (336, [(-1, 4)]))
def kC375_1 : aC := (([kvB 0 7, kvB 0 7, kvB 0 7, kvB 0 12], [], 141, [kvR 102, kvI 0, kvI 1, kvI 2, kvN 185, kvN 4, kvI 3, none], []), ([], []), (141, [(-11, 3)]))
def kC375_2 : aC := (([kvB 0 7, kvB 0 7, kvB 0 7, kvB 0 11, (.negSucc 0, .ofNat 7), kvB 1 12], [(102, 8, .inl (5, .ofNat 0))], 195, [kvR 102, kvI 0, kvI 1, kvI 2, kvN 185, kvN 4, kvI 3, kvI 4], []), ([], []), (139, [(-11, 3), (-1, 4)]))
def kC375_3 : aC := (([kvB 0 7, kvB 0 7, kvB 0 7, (.negSucc 0, .ofNat 2147483647)], [(102, 29, .inl (3, .ofNat 0))], 91, [kvR 102, kvI 0, kvI 1, kvI 2, kvN 185, kvN 4, kvN 1, kvN 4], []), ([], []), (166, []))
def kC375_4 : aC := (([kvB 0 7, kvB 0 7, kvB 0 7, kvB 0 4, (.negSucc 0, .ofNat 99)], [(102, 29, .inl (4, .ofNat 0)), (102, 30, .inr (.ofNat 4))], 110, [kvR 102, kvI 0, kvI 1, kvI 2, kvN 185, kvN 4, kvN 1, kvI 3], []), ([], []), (4, [(-1, 3)]))
theorem ks375 : aseg kS krf kB [kE43, kE89, kE311, kE371, kE373] (ksp [(192, 200, 7, 0, 7, 0)]) kE375 [kC375_0, kC375_1, kC375_2, kC375_3, kC375_4] 30000 (none) = true := by decide +kernel
theorem ks375_0 : aseg kS krf kB [kE43, kE89, kE311, kE371, kE373] (ksp [(192, 200, 7, 0, 7, 0)]) kE375 [kC375_0, kC375_1, kC375_2, kC375_3, kC375_4] 30000 (some kC375_0) = true := by decide +kernel
theorem ks375_1 : aseg kS krf kB [kE43, kE89, kE311, kE371, kE373] (ksp [(192, 200, 7, 0, 7, 0)]) kE375 [kC375_0, kC375_1, kC375_2, kC375_3, kC375_4] 30000 (some kC375_1) = true := by decide +kernel
theorem ks375_2 : aseg kS krf kB [kE43, kE89, kE311, kE371, kE373] (ksp [(192, 200, 7, 0, 7, 0)]) kE375 [kC375_0, kC375_1, kC375_2, kC375_3, kC375_4] 30000 (some kC375_2) = true := by decide +kernel
theorem ks375_3 : aseg kS krf kB [kE43, kE89, kE311, kE371, kE373] (ksp [(192, 200, 7, 0, 7, 0)]) kE375 [kC375_0, kC375_1, kC375_2, kC375_3, kC375_4] 30000 (some kC375_3) = true := by decide +kernel
theorem ks375_4 : aseg kS krf kB [kE43, kE89, kE311, kE371, kE373] (ksp [(192, 200, 7, 0, 7, 0)]) kE375 [kC375_0, kC375_1, kC375_2, kC375_3, kC375_4] 30000 (some kC375_4) = true := by decide +kernel
theorem kok375 : aOK kS krf kB kE375 := aOK_of (kal1 kok43 (kal1 kok89 (kal1 kok311 (kal1 kok371 (kal1 kok373 kal0))))) (kcl1 ks375_0 (kcl1 ks375_1 (kcl1 ks375_2 (kcl1 ks375_3 (kcl1 ks375_4 kcl0))))) ks375
/-- ColdShodModel.triesWay(IIIII)V -/
def kE376 : aE := (192, 50, ([kvB 0 7, kvB 0 7, kvB 0 7], [], 0, [kvR 102, kvI 0, kvI 1, kvI 2, kvN 184, kvN 3, none, none], []), ([], none), ([], [], none, ([], [])), kvW65)
def kC376_0 : aC := (([kvB 0 7, kvB 0 7, kvB 0 7, kvB 0 1, kvB 0 3], [], 16, [kvR 102, kvI 0, kvI 1, kvI 2, kvN 184, kvN 3, kvI 3, kvI 4], []), ([], []), (335, [(-1, 4)]))
def kC376_1 : aC := (([kvB 0 7, kvB 0 7, kvB 0 7, kvB 0 12], [], 141, [kvR 102, kvI 0, kvI 1, kvI 2, kvN 184, kvN 3, kvI 3, none], []), ([], []), (141, [(-11, 3)]))
def kC376_2 : aC := (([kvB 0 7, kvB 0 7, kvB 0 7, kvB 0 11, (.negSucc 0, .ofNat 7), kvB 1 12], [(102, 8, .inl (5, .ofNat 0))], 195, [kvR 102, kvI 0, kvI 1, kvI 2, kvN 184, kvN 3, kvI 3, kvI 4], []), ([], []), (139, [(-11, 3), (-1, 4)]))
def kC376_3 : aC := (([kvB 0 7, kvB 0 7, kvB 0 7, (.negSucc 0, .ofNat 2147483647)], [(102, 29, .inl (3, .ofNat 0))], 91, [kvR 102, kvI 0, kvI 1, kvI 2, kvN 184, kvN 3, kvN 1, kvN 3], []), ([], []), (166, []))
def kC376_4 : aC := (([kvB 0 7, kvB 0 7, kvB 0 7, kvB 0 3, (.negSucc 0, .ofNat 99)], [(102, 29, .inl (4, .ofNat 0)), (102, 30, .inr (.ofNat 3))], 110, [kvR 102, kvI 0, kvI 1, kvI 2, kvN 184, kvN 3, kvN 1, kvI 3], []), ([], []), (3, [(-1, 3)]))
theorem ks376 : aseg kS krf kB [kE43, kE89, kE312, kE372, kE374, kE375] (ksp [(192, 200, 7, 0, 7, 0)]) kE376 [kC376_0, kC376_1, kC376_2, kC376_3, kC376_4] 30000 (none) = true := by decide +kernel
theorem ks376_0 : aseg kS krf kB [kE43, kE89, kE312, kE372, kE374, kE375] (ksp [(192, 200, 7, 0, 7, 0)]) kE376 [kC376_0, kC376_1, kC376_2, kC376_3, kC376_4] 30000 (some kC376_0) = true := by decide +kernel
theorem ks376_1 : aseg kS krf kB [kE43, kE89, kE312, kE372, kE374, kE375] (ksp [(192, 200, 7, 0, 7, 0)]) kE376 [kC376_0, kC376_1, kC376_2, kC376_3, kC376_4] 30000 (some kC376_1) = true := by decide +kernel
theorem ks376_2 : aseg kS krf kB [kE43, kE89, kE312, kE372, kE374, kE375] (ksp [(192, 200, 7, 0, 7, 0)]) kE376 [kC376_0, kC376_1, kC376_2, kC376_3, kC376_4] 30000 (some kC376_2) = true := by decide +kernel
theorem ks376_3 : aseg kS krf kB [kE43, kE89, kE312, kE372, kE374, kE375] (ksp [(192, 200, 7, 0, 7, 0)]) kE376 [kC376_0, kC376_1, kC376_2, kC376_3, kC376_4] 30000 (some kC376_3) = true := by decide +kernel
theorem ks376_4 : aseg kS krf kB [kE43, kE89, kE312, kE372, kE374, kE375] (ksp [(192, 200, 7, 0, 7, 0)]) kE376 [kC376_0, kC376_1, kC376_2, kC376_3, kC376_4] 30000 (some kC376_4) = true := by decide +kernel
theorem kok376 : aOK kS krf kB kE376 := aOK_of (kal1 kok43 (kal1 kok89 (kal1 kok312 (kal1 kok372 (kal1 kok374 (kal1 kok375 kal0)))))) (kcl1 ks376_0 (kcl1 ks376_1 (kcl1 ks376_2 (kcl1 ks376_3 (kcl1 ks376_4 kcl0))))) ks376
/-- ColdShodModel.triesWay(IIIII)V -/
def kE377 : aE := (192, 48, ([kvB 0 7, kvB 0 7, kvB 0 7], [], 0, [kvR 102, kvI 0, kvI 1, kvI 2, kvN 183, kvN 5, none, none], []), ([], none), ([], [], none, ([], [])), kvW63)
def kC377_0 : aC := (([kvB 0 7, kvB 0 7, kvB 0 7, kvB 0 1, kvB 0 5], [], 16, [kvR 102, kvI 0, kvI 1, kvI 2, kvN 183, kvN 5, kvI 3, kvI 4], []), ([], []), (337, [(-1, 4)]))
def kC377_1 : aC := (([kvB 0 7, kvB 0 7, kvB 0 7, kvB 0 12], [], 141, [kvR 102, kvI 0, kvI 1, kvI 2, kvN 183, kvN 5, kvI 3, none], []), ([], []), (141, [(-11, 3)]))
def kC377_2 : aC := (([kvB 0 7, kvB 0 7, kvB 0 7, kvB 0 11, (.negSucc 0, .ofNat 7), kvB 1 12], [(102, 8, .inl (5, .ofNat 0))], 195, [kvR 102, kvI 0, kvI 1, kvI 2, kvN 183, kvN 5, kvI 3, kvI 4], []), ([], []), (139, [(-11, 3), (-1, 4)]))
def kC377_3 : aC := (([kvB 0 7, kvB 0 7, kvB 0 7, (.negSucc 0, .ofNat 2147483647)], [(102, 29, .inl (3, .ofNat 0))], 91, [kvR 102, kvI 0, kvI 1, kvI 2, kvN 183, kvN 5, kvN 1, kvN 5], []), ([], []), (166, []))
def kC377_4 : aC := (([kvB 0 7, kvB 0 7, kvB 0 7, kvB 0 5, (.negSucc 0, .ofNat 99)], [(102, 29, .inl (4, .ofNat 0)), (102, 30, .inr (.ofNat 5))], 110, [kvR 102, kvI 0, kvI 1, kvI 2, kvN 183, kvN 5, kvN 1, kvI 3], []), ([], []), (5, [(-1, 3)]))
theorem ks377 : aseg kS krf kB [kE43, kE89, kE313, kE369] (ksp [(192, 200, 7, 0, 7, 0)]) kE377 [kC377_0, kC377_1, kC377_2, kC377_3, kC377_4] 30000 (none) = true := by decide +kernel
theorem ks377_0 : aseg kS krf kB [kE43, kE89, kE313, kE369] (ksp [(192, 200, 7, 0, 7, 0)]) kE377 [kC377_0, kC377_1, kC377_2, kC377_3, kC377_4] 30000 (some kC377_0) = true := by decide +kernel
theorem ks377_1 : aseg kS krf kB [kE43, kE89, kE313, kE369] (ksp [(192, 200, 7, 0, 7, 0)]) kE377 [kC377_0, kC377_1, kC377_2, kC377_3, kC377_4] 30000 (some kC377_1) = true := by decide +kernel
theorem ks377_2 : aseg kS krf kB [kE43, kE89, kE313, kE369] (ksp [(192, 200, 7, 0, 7, 0)]) kE377 [kC377_0, kC377_1, kC377_2, kC377_3, kC377_4] 30000 (some kC377_2) = true := by decide +kernel
theorem ks377_3 : aseg kS krf kB [kE43, kE89, kE313, kE369] (ksp [(192, 200, 7, 0, 7, 0)]) kE377 [kC377_0, kC377_1, kC377_2, kC377_3, kC377_4] 30000 (some kC377_3) = true := by decide +kernel
theorem ks377_4 : aseg kS krf kB [kE43, kE89, kE313, kE369] (ksp [(192, 200, 7, 0, 7, 0)]) kE377 [kC377_0, kC377_1, kC377_2, kC377_3, kC377_4] 30000 (some kC377_4) = true := by decide +kernel
theorem kok377 : aOK kS krf kB kE377 := aOK_of (kal1 kok43 (kal1 kok89 (kal1 kok313 (kal1 kok369 kal0)))) (kcl1 ks377_0 (kcl1 ks377_1 (kcl1 ks377_2 (kcl1 ks377_3 (kcl1 ks377_4 kcl0))))) ks377
/-- ColdShodModel.triesWay(IIIII)V -/
def kE378 : aE := (192, 49, ([kvB 0 7, kvB 0 7, kvB 0 7], [], 0, [kvR 102, kvI 0, kvI 1, kvI 2, kvN 182, kvN 4, none, none], []), ([], none), ([], [], none, ([], [])), kvW64)
def kC378_0 : aC := (([kvB 0 7, kvB 0 7, kvB 0 7, kvB 0 1, kvB 0 4], [], 16, [kvR 102, kvI 0, kvI 1, kvI 2, kvN 182, kvN 4, kvI 3, kvI 4], []), ([], []), (336, [(-1, 4)]))
def kC378_1 : aC := (([kvB 0 7, kvB 0 7, kvB 0 7, kvB 0 12], [], 141, [kvR 102, kvI 0, kvI 1, kvI 2, kvN 182, kvN 4, kvI 3, none], []), ([], []), (141, [(-11, 3)]))
def kC378_2 : aC := (([kvB 0 7, kvB 0 7, kvB 0 7, kvB 0 11, (.negSucc 0, .ofNat 7), kvB 1 12], [(102, 8, .inl (5, .ofNat 0))], 195, [kvR 102, kvI 0, kvI 1, kvI 2, kvN 182, kvN 4, kvI 3, kvI 4], []), ([], []), (139, [(-11, 3), (-1, 4)]))
def kC378_3 : aC := (([kvB 0 7, kvB 0 7, kvB 0 7, (.negSucc 0, .ofNat 2147483647)], [(102, 29, .inl (3, .ofNat 0))], 91, [kvR 102, kvI 0, kvI 1, kvI 2, kvN 182, kvN 4, kvN 1, kvN 4], []), ([], []), (166, []))
def kC378_4 : aC := (([kvB 0 7, kvB 0 7, kvB 0 7, kvB 0 4, (.negSucc 0, .ofNat 99)], [(102, 29, .inl (4, .ofNat 0)), (102, 30, .inr (.ofNat 4))], 110, [kvR 102, kvI 0, kvI 1, kvI 2, kvN 182, kvN 4, kvN 1, kvI 3], []), ([], []), (4, [(-1, 3)]))
theorem ks378 : aseg kS krf kB [kE43, kE89, kE314, kE370, kE377] (ksp [(192, 200, 7, 0, 7, 0)]) kE378 [kC378_0, kC378_1, kC378_2, kC378_3, kC378_4] 30000 (none) = true := by decide +kernel
theorem ks378_0 : aseg kS krf kB [kE43, kE89, kE314, kE370, kE377] (ksp [(192, 200, 7, 0, 7, 0)]) kE378 [kC378_0, kC378_1, kC378_2, kC378_3, kC378_4] 30000 (some kC378_0) = true := by decide +kernel
theorem ks378_1 : aseg kS krf kB [kE43, kE89, kE314, kE370, kE377] (ksp [(192, 200, 7, 0, 7, 0)]) kE378 [kC378_0, kC378_1, kC378_2, kC378_3, kC378_4] 30000 (some kC378_1) = true := by decide +kernel
theorem ks378_2 : aseg kS krf kB [kE43, kE89, kE314, kE370, kE377] (ksp [(192, 200, 7, 0, 7, 0)]) kE378 [kC378_0, kC378_1, kC378_2, kC378_3, kC378_4] 30000 (some kC378_2) = true := by decide +kernel
theorem ks378_3 : aseg kS krf kB [kE43, kE89, kE314, kE370, kE377] (ksp [(192, 200, 7, 0, 7, 0)]) kE378 [kC378_0, kC378_1, kC378_2, kC378_3, kC378_4] 30000 (some kC378_3) = true := by decide +kernel
theorem ks378_4 : aseg kS krf kB [kE43, kE89, kE314, kE370, kE377] (ksp [(192, 200, 7, 0, 7, 0)]) kE378 [kC378_0, kC378_1, kC378_2, kC378_3, kC378_4] 30000 (some kC378_4) = true := by decide +kernel
theorem kok378 : aOK kS krf kB kE378 := aOK_of (kal1 kok43 (kal1 kok89 (kal1 kok314 (kal1 kok370 (kal1 kok377 kal0))))) (kcl1 ks378_0 (kcl1 ks378_1 (kcl1 ks378_2 (kcl1 ks378_3 (kcl1 ks378_4 kcl0))))) ks378
/-- ColdShodModel.triesWay(IIIII)V -/
def kE379 : aE := (192, 49, ([kvB 0 7, kvB 0 7, kvB 0 7], [], 0, [kvR 102, kvI 0, kvI 1, kvI 2, kvN 181, kvN 4, none, none], []), ([], none), ([], [], none, ([], [])), kvW64)
def kC379_0 : aC := (([kvB 0 7, kvB 0 7, kvB 0 7, kvB 0 1, kvB 0 4], [], 16, [kvR 102, kvI 0, kvI 1, kvI 2, kvN 181, kvN 4, kvI 3, kvI 4], []), ([], []), (336, [(-1, 4)]))
def kC379_1 : aC := (([kvB 0 7, kvB 0 7, kvB 0 7, kvB 0 12], [], 141, [kvR 102, kvI 0, kvI 1, kvI 2, kvN 181, kvN 4, kvI 3, none], []), ([], []), (141, [(-11, 3)]))
def kC379_2 : aC := (([kvB 0 7, kvB 0 7, kvB 0 7, kvB 0 11, (.negSucc 0, .ofNat 7), kvB 1 12], [(102, 8, .inl (5, .ofNat 0))], 195, [kvR 102, kvI 0, kvI 1, kvI 2, kvN 181, kvN 4, kvI 3, kvI 4], []), ([], []), (139, [(-11, 3), (-1, 4)]))
def kC379_3 : aC := (([kvB 0 7, kvB 0 7, kvB 0 7, (.negSucc 0, .ofNat 2147483647)], [(102, 29, .inl (3, .ofNat 0))], 91, [kvR 102, kvI 0, kvI 1, kvI 2, kvN 181, kvN 4, kvN 1, kvN 4], []), ([], []), (166, []))
def kC379_4 : aC := (([kvB 0 7, kvB 0 7, kvB 0 7, kvB 0 4, (.negSucc 0, .ofNat 99)], [(102, 29, .inl (4, .ofNat 0)), (102, 30, .inr (.ofNat 4))], 110, [kvR 102, kvI 0, kvI 1, kvI 2, kvN 181, kvN 4, kvN 1, kvI 3], []), ([], []), (4, [(-1, 3)]))
theorem ks379 : aseg kS krf kB [kE43, kE89, kE315, kE371, kE377] (ksp [(192, 200, 7, 0, 7, 0)]) kE379 [kC379_0, kC379_1, kC379_2, kC379_3, kC379_4] 30000 (none) = true := by decide +kernel
theorem ks379_0 : aseg kS krf kB [kE43, kE89, kE315, kE371, kE377] (ksp [(192, 200, 7, 0, 7, 0)]) kE379 [kC379_0, kC379_1, kC379_2, kC379_3, kC379_4] 30000 (some kC379_0) = true := by decide +kernel
theorem ks379_1 : aseg kS krf kB [kE43, kE89, kE315, kE371, kE377] (ksp [(192, 200, 7, 0, 7, 0)]) kE379 [kC379_0, kC379_1, kC379_2, kC379_3, kC379_4] 30000 (some kC379_1) = true := by decide +kernel
theorem ks379_2 : aseg kS krf kB [kE43, kE89, kE315, kE371, kE377] (ksp [(192, 200, 7, 0, 7, 0)]) kE379 [kC379_0, kC379_1, kC379_2, kC379_3, kC379_4] 30000 (some kC379_2) = true := by decide +kernel
theorem ks379_3 : aseg kS krf kB [kE43, kE89, kE315, kE371, kE377] (ksp [(192, 200, 7, 0, 7, 0)]) kE379 [kC379_0, kC379_1, kC379_2, kC379_3, kC379_4] 30000 (some kC379_3) = true := by decide +kernel
theorem ks379_4 : aseg kS krf kB [kE43, kE89, kE315, kE371, kE377] (ksp [(192, 200, 7, 0, 7, 0)]) kE379 [kC379_0, kC379_1, kC379_2, kC379_3, kC379_4] 30000 (some kC379_4) = true := by decide +kernel
theorem kok379 : aOK kS krf kB kE379 := aOK_of (kal1 kok43 (kal1 kok89 (kal1 kok315 (kal1 kok371 (kal1 kok377 kal0))))) (kcl1 ks379_0 (kcl1 ks379_1 (kcl1 ks379_2 (kcl1 ks379_3 (kcl1 ks379_4 kcl0))))) ks379
/-- ColdShodModel.triesWay(IIIII)V -/
def kE380 : aE := (192, 50, ([kvB 0 7, kvB 0 7, kvB 0 7], [], 0, [kvR 102, kvI 0, kvI 1, kvI 2, kvN 180, kvN 3, none, none], []), ([], none), ([], [], none, ([], [])), kvW65)
def kC380_0 : aC := (([kvB 0 7, kvB 0 7, kvB 0 7, kvB 0 1, kvB 0 3], [], 16, [kvR 102, kvI 0, kvI 1, kvI 2, kvN 180, kvN 3, kvI 3, kvI 4], []), ([], []), (335, [(-1, 4)]))
def kC380_1 : aC := (([kvB 0 7, kvB 0 7, kvB 0 7, kvB 0 12], [], 141, [kvR 102, kvI 0, kvI 1, kvI 2, kvN 180, kvN 3, kvI 3, none], []), ([], []), (141, [(-11, 3)]))
def kC380_2 : aC := (([kvB 0 7, kvB 0 7, kvB 0 7, kvB 0 11, (.negSucc 0, .ofNat 7), kvB 1 12], [(102, 8, .inl (5, .ofNat 0))], 195, [kvR 102, kvI 0, kvI 1, kvI 2, kvN 180, kvN 3, kvI 3, kvI 4], []), ([], []), (139, [(-11, 3), (-1, 4)]))
def kC380_3 : aC := (([kvB 0 7, kvB 0 7, kvB 0 7, (.negSucc 0, .ofNat 2147483647)], [(102, 29, .inl (3, .ofNat 0))], 91, [kvR 102, kvI 0, kvI 1, kvI 2, kvN 180, kvN 3, kvN 1, kvN 3], []), ([], []), (166, []))
def kC380_4 : aC := (([kvB 0 7, kvB 0 7, kvB 0 7, kvB 0 3, (.negSucc 0, .ofNat 99)], [(102, 29, .inl (4, .ofNat 0)), (102, 30, .inr (.ofNat 3))], 110, [kvR 102, kvI 0, kvI 1, kvI 2, kvN 180, kvN 3, kvN 1, kvI 3], []), ([], []), (3, [(-1, 3)]))
theorem ks380 : aseg kS krf kB [kE43, kE89, kE316, kE372, kE378, kE379] (ksp [(192, 200, 7, 0, 7, 0)]) kE380 [kC380_0, kC380_1, kC380_2, kC380_3, kC380_4] 30000 (none) = true := by decide +kernel
theorem ks380_0 : aseg kS krf kB [kE43, kE89, kE316, kE372, kE378, kE379] (ksp [(192, 200, 7, 0, 7, 0)]) kE380 [kC380_0, kC380_1, kC380_2, kC380_3, kC380_4] 30000 (some kC380_0) = true := by decide +kernel
theorem ks380_1 : aseg kS krf kB [kE43, kE89, kE316, kE372, kE378, kE379] (ksp [(192, 200, 7, 0, 7, 0)]) kE380 [kC380_0, kC380_1, kC380_2, kC380_3, kC380_4] 30000 (some kC380_1) = true := by decide +kernel
theorem ks380_2 : aseg kS krf kB [kE43, kE89, kE316, kE372, kE378, kE379] (ksp [(192, 200, 7, 0, 7, 0)]) kE380 [kC380_0, kC380_1, kC380_2, kC380_3, kC380_4] 30000 (some kC380_2) = true := by decide +kernel
theorem ks380_3 : aseg kS krf kB [kE43, kE89, kE316, kE372, kE378, kE379] (ksp [(192, 200, 7, 0, 7, 0)]) kE380 [kC380_0, kC380_1, kC380_2, kC380_3, kC380_4] 30000 (some kC380_3) = true := by decide +kernel
theorem ks380_4 : aseg kS krf kB [kE43, kE89, kE316, kE372, kE378, kE379] (ksp [(192, 200, 7, 0, 7, 0)]) kE380 [kC380_0, kC380_1, kC380_2, kC380_3, kC380_4] 30000 (some kC380_4) = true := by decide +kernel
theorem kok380 : aOK kS krf kB kE380 := aOK_of (kal1 kok43 (kal1 kok89 (kal1 kok316 (kal1 kok372 (kal1 kok378 (kal1 kok379 kal0)))))) (kcl1 ks380_0 (kcl1 ks380_1 (kcl1 ks380_2 (kcl1 ks380_3 (kcl1 ks380_4 kcl0))))) ks380
/-- ColdShodModel.triesWay(IIIII)V -/
def kE381 : aE := (192, 49, ([kvB 0 7, kvB 0 7, kvB 0 7], [], 0, [kvR 102, kvI 0, kvI 1, kvI 2, kvN 179, kvN 4, none, none], []), ([], none), ([], [], none, ([], [])), kvW64)
def kC381_0 : aC := (([kvB 0 7, kvB 0 7, kvB 0 7, kvB 0 1, kvB 0 4], [], 16, [kvR 102, kvI 0, kvI 1, kvI 2, kvN 179, kvN 4, kvI 3, kvI 4], []), ([], []), (336, [(-1, 4)]))
def kC381_1 : aC := (([kvB 0 7, kvB 0 7, kvB 0 7, kvB 0 12], [], 141, [kvR 102, kvI 0, kvI 1, kvI 2, kvN 179, kvN 4, kvI 3, none], []), ([], []), (141, [(-11, 3)]))
def kC381_2 : aC := (([kvB 0 7, kvB 0 7, kvB 0 7, kvB 0 11, (.negSucc 0, .ofNat 7), kvB 1 12], [(102, 8, .inl (5, .ofNat 0))], 195, [kvR 102, kvI 0, kvI 1, kvI 2, kvN 179, kvN 4, kvI 3, kvI 4], []), ([], []), (139, [(-11, 3), (-1, 4)]))
def kC381_3 : aC := (([kvB 0 7, kvB 0 7, kvB 0 7, (.negSucc 0, .ofNat 2147483647)], [(102, 29, .inl (3, .ofNat 0))], 91, [kvR 102, kvI 0, kvI 1, kvI 2, kvN 179, kvN 4, kvN 1, kvN 4], []), ([], []), (166, []))
def kC381_4 : aC := (([kvB 0 7, kvB 0 7, kvB 0 7, kvB 0 4, (.negSucc 0, .ofNat 99)], [(102, 29, .inl (4, .ofNat 0)), (102, 30, .inr (.ofNat 4))], 110, [kvR 102, kvI 0, kvI 1, kvI 2, kvN 179, kvN 4, kvN 1, kvI 3], []), ([], []), (4, [(-1, 3)]))
theorem ks381 : aseg kS krf kB [kE43, kE89, kE317, kE373, kE377] (ksp [(192, 200, 7, 0, 7, 0)]) kE381 [kC381_0, kC381_1, kC381_2, kC381_3, kC381_4] 30000 (none) = true := by decide +kernel
theorem ks381_0 : aseg kS krf kB [kE43, kE89, kE317, kE373, kE377] (ksp [(192, 200, 7, 0, 7, 0)]) kE381 [kC381_0, kC381_1, kC381_2, kC381_3, kC381_4] 30000 (some kC381_0) = true := by decide +kernel
theorem ks381_1 : aseg kS krf kB [kE43, kE89, kE317, kE373, kE377] (ksp [(192, 200, 7, 0, 7, 0)]) kE381 [kC381_0, kC381_1, kC381_2, kC381_3, kC381_4] 30000 (some kC381_1) = true := by decide +kernel
theorem ks381_2 : aseg kS krf kB [kE43, kE89, kE317, kE373, kE377] (ksp [(192, 200, 7, 0, 7, 0)]) kE381 [kC381_0, kC381_1, kC381_2, kC381_3, kC381_4] 30000 (some kC381_2) = true := by decide +kernel
theorem ks381_3 : aseg kS krf kB [kE43, kE89, kE317, kE373, kE377] (ksp [(192, 200, 7, 0, 7, 0)]) kE381 [kC381_0, kC381_1, kC381_2, kC381_3, kC381_4] 30000 (some kC381_3) = true := by decide +kernel
theorem ks381_4 : aseg kS krf kB [kE43, kE89, kE317, kE373, kE377] (ksp [(192, 200, 7, 0, 7, 0)]) kE381 [kC381_0, kC381_1, kC381_2, kC381_3, kC381_4] 30000 (some kC381_4) = true := by decide +kernel
theorem kok381 : aOK kS krf kB kE381 := aOK_of (kal1 kok43 (kal1 kok89 (kal1 kok317 (kal1 kok373 (kal1 kok377 kal0))))) (kcl1 ks381_0 (kcl1 ks381_1 (kcl1 ks381_2 (kcl1 ks381_3 (kcl1 ks381_4 kcl0))))) ks381
/-- ColdShodModel.triesWay(IIIII)V -/
def kE382 : aE := (192, 50, ([kvB 0 7, kvB 0 7, kvB 0 7], [], 0, [kvR 102, kvI 0, kvI 1, kvI 2, kvN 178, kvN 3, none, none], []), ([], none), ([], [], none, ([], [])), kvW65)
def kC382_0 : aC := (([kvB 0 7, kvB 0 7, kvB 0 7, kvB 0 1, kvB 0 3], [], 16, [kvR 102, kvI 0, kvI 1, kvI 2, kvN 178, kvN 3, kvI 3, kvI 4], []), ([], []), (335, [(-1, 4)]))
def kC382_1 : aC := (([kvB 0 7, kvB 0 7, kvB 0 7, kvB 0 12], [], 141, [kvR 102, kvI 0, kvI 1, kvI 2, kvN 178, kvN 3, kvI 3, none], []), ([], []), (141, [(-11, 3)]))
def kC382_2 : aC := (([kvB 0 7, kvB 0 7, kvB 0 7, kvB 0 11, (.negSucc 0, .ofNat 7), kvB 1 12], [(102, 8, .inl (5, .ofNat 0))], 195, [kvR 102, kvI 0, kvI 1, kvI 2, kvN 178, kvN 3, kvI 3, kvI 4], []), ([], []), (139, [(-11, 3), (-1, 4)]))
def kC382_3 : aC := (([kvB 0 7, kvB 0 7, kvB 0 7, (.negSucc 0, .ofNat 2147483647)], [(102, 29, .inl (3, .ofNat 0))], 91, [kvR 102, kvI 0, kvI 1, kvI 2, kvN 178, kvN 3, kvN 1, kvN 3], []), ([], []), (166, []))
def kC382_4 : aC := (([kvB 0 7, kvB 0 7, kvB 0 7, kvB 0 3, (.negSucc 0, .ofNat 99)], [(102, 29, .inl (4, .ofNat 0)), (102, 30, .inr (.ofNat 3))], 110, [kvR 102, kvI 0, kvI 1, kvI 2, kvN 178, kvN 3, kvN 1, kvI 3], []), ([], []), (3, [(-1, 3)]))
theorem ks382 : aseg kS krf kB [kE43, kE89, kE318, kE374, kE378, kE381] (ksp [(192, 200, 7, 0, 7, 0)]) kE382 [kC382_0, kC382_1, kC382_2, kC382_3, kC382_4] 30000 (none) = true := by decide +kernel
theorem ks382_0 : aseg kS krf kB [kE43, kE89, kE318, kE374, kE378, kE381] (ksp [(192, 200, 7, 0, 7, 0)]) kE382 [kC382_0, kC382_1, kC382_2, kC382_3, kC382_4] 30000 (some kC382_0) = true := by decide +kernel
theorem ks382_1 : aseg kS krf kB [kE43, kE89, kE318, kE374, kE378, kE381] (ksp [(192, 200, 7, 0, 7, 0)]) kE382 [kC382_0, kC382_1, kC382_2, kC382_3, kC382_4] 30000 (some kC382_1) = true := by decide +kernel
theorem ks382_2 : aseg kS krf kB [kE43, kE89, kE318, kE374, kE378, kE381] (ksp [(192, 200, 7, 0, 7, 0)]) kE382 [kC382_0, kC382_1, kC382_2, kC382_3, kC382_4] 30000 (some kC382_2) = true := by decide +kernel
theorem ks382_3 : aseg kS krf kB [kE43, kE89, kE318, kE374, kE378, kE381] (ksp [(192, 200, 7, 0, 7, 0)]) kE382 [kC382_0, kC382_1, kC382_2, kC382_3, kC382_4] 30000 (some kC382_3) = true := by decide +kernel
theorem ks382_4 : aseg kS krf kB [kE43, kE89, kE318, kE374, kE378, kE381] (ksp [(192, 200, 7, 0, 7, 0)]) kE382 [kC382_0, kC382_1, kC382_2, kC382_3, kC382_4] 30000 (some kC382_4) = true := by decide +kernel
theorem kok382 : aOK kS krf kB kE382 := aOK_of (kal1 kok43 (kal1 kok89 (kal1 kok318 (kal1 kok374 (kal1 kok378 (kal1 kok381 kal0)))))) (kcl1 ks382_0 (kcl1 ks382_1 (kcl1 ks382_2 (kcl1 ks382_3 (kcl1 ks382_4 kcl0))))) ks382
/-- ColdShodModel.triesWay(IIIII)V -/
def kE383 : aE := (192, 50, ([kvB 0 7, kvB 0 7, kvB 0 7], [], 0, [kvR 102, kvI 0, kvI 1, kvI 2, kvN 177, kvN 3, none, none], []), ([], none), ([], [], none, ([], [])), kvW65)
def kC383_0 : aC := (([kvB 0 7, kvB 0 7, kvB 0 7, kvB 0 1, kvB 0 3], [], 16, [kvR 102, kvI 0, kvI 1, kvI 2, kvN 177, kvN 3, kvI 3, kvI 4], []), ([], []), (335, [(-1, 4)]))
def kC383_1 : aC := (([kvB 0 7, kvB 0 7, kvB 0 7, kvB 0 12], [], 141, [kvR 102, kvI 0, kvI 1, kvI 2, kvN 177, kvN 3, kvI 3, none], []), ([], []), (141, [(-11, 3)]))
def kC383_2 : aC := (([kvB 0 7, kvB 0 7, kvB 0 7, kvB 0 11, (.negSucc 0, .ofNat 7), kvB 1 12], [(102, 8, .inl (5, .ofNat 0))], 195, [kvR 102, kvI 0, kvI 1, kvI 2, kvN 177, kvN 3, kvI 3, kvI 4], []), ([], []), (139, [(-11, 3), (-1, 4)]))
def kC383_3 : aC := (([kvB 0 7, kvB 0 7, kvB 0 7, (.negSucc 0, .ofNat 2147483647)], [(102, 29, .inl (3, .ofNat 0))], 91, [kvR 102, kvI 0, kvI 1, kvI 2, kvN 177, kvN 3, kvN 1, kvN 3], []), ([], []), (166, []))
def kC383_4 : aC := (([kvB 0 7, kvB 0 7, kvB 0 7, kvB 0 3, (.negSucc 0, .ofNat 99)], [(102, 29, .inl (4, .ofNat 0)), (102, 30, .inr (.ofNat 3))], 110, [kvR 102, kvI 0, kvI 1, kvI 2, kvN 177, kvN 3, kvN 1, kvI 3], []), ([], []), (3, [(-1, 3)]))
theorem ks383 : aseg kS krf kB [kE43, kE89, kE319, kE375, kE379, kE381] (ksp [(192, 200, 7, 0, 7, 0)]) kE383 [kC383_0, kC383_1, kC383_2, kC383_3, kC383_4] 30000 (none) = true := by decide +kernel
theorem ks383_0 : aseg kS krf kB [kE43, kE89, kE319, kE375, kE379, kE381] (ksp [(192, 200, 7, 0, 7, 0)]) kE383 [kC383_0, kC383_1, kC383_2, kC383_3, kC383_4] 30000 (some kC383_0) = true := by decide +kernel
theorem ks383_1 : aseg kS krf kB [kE43, kE89, kE319, kE375, kE379, kE381] (ksp [(192, 200, 7, 0, 7, 0)]) kE383 [kC383_0, kC383_1, kC383_2, kC383_3, kC383_4] 30000 (some kC383_1) = true := by decide +kernel
theorem ks383_2 : aseg kS krf kB [kE43, kE89, kE319, kE375, kE379, kE381] (ksp [(192, 200, 7, 0, 7, 0)]) kE383 [kC383_0, kC383_1, kC383_2, kC383_3, kC383_4] 30000 (some kC383_2) = true := by decide +kernel
theorem ks383_3 : aseg kS krf kB [kE43, kE89, kE319, kE375, kE379, kE381] (ksp [(192, 200, 7, 0, 7, 0)]) kE383 [kC383_0, kC383_1, kC383_2, kC383_3, kC383_4] 30000 (some kC383_3) = true := by decide +kernel
theorem ks383_4 : aseg kS krf kB [kE43, kE89, kE319, kE375, kE379, kE381] (ksp [(192, 200, 7, 0, 7, 0)]) kE383 [kC383_0, kC383_1, kC383_2, kC383_3, kC383_4] 30000 (some kC383_4) = true := by decide +kernel
theorem kok383 : aOK kS krf kB kE383 := aOK_of (kal1 kok43 (kal1 kok89 (kal1 kok319 (kal1 kok375 (kal1 kok379 (kal1 kok381 kal0)))))) (kcl1 ks383_0 (kcl1 ks383_1 (kcl1 ks383_2 (kcl1 ks383_3 (kcl1 ks383_4 kcl0))))) ks383
/-- ColdShodModel.triesWay(IIIII)V -/
def kE384 : aE := (192, 51, ([kvB 0 7, kvB 0 7, kvB 0 7], [], 0, [kvR 102, kvI 0, kvI 1, kvI 2, kvN 176, kvN 2, none, none], []), ([], none), ([], [], none, ([], [])), kvW66)
def kC384_0 : aC := (([kvB 0 7, kvB 0 7, kvB 0 7, kvB 0 1, kvB 0 2], [], 16, [kvR 102, kvI 0, kvI 1, kvI 2, kvN 176, kvN 2, kvI 3, kvI 4], []), ([], []), (334, [(-1, 4)]))
def kC384_1 : aC := (([kvB 0 7, kvB 0 7, kvB 0 7, kvB 0 12], [], 141, [kvR 102, kvI 0, kvI 1, kvI 2, kvN 176, kvN 2, kvI 3, none], []), ([], []), (141, [(-11, 3)]))
def kC384_2 : aC := (([kvB 0 7, kvB 0 7, kvB 0 7, kvB 0 11, (.negSucc 0, .ofNat 7), kvB 1 12], [(102, 8, .inl (5, .ofNat 0))], 195, [kvR 102, kvI 0, kvI 1, kvI 2, kvN 176, kvN 2, kvI 3, kvI 4], []), ([], []), (139, [(-11, 3), (-1, 4)]))
def kC384_3 : aC := (([kvB 0 7, kvB 0 7, kvB 0 7, (.negSucc 0, .ofNat 2147483647)], [(102, 29, .inl (3, .ofNat 0))], 91, [kvR 102, kvI 0, kvI 1, kvI 2, kvN 176, kvN 2, kvN 1, kvN 2], []), ([], []), (166, []))
def kC384_4 : aC := (([kvB 0 7, kvB 0 7, kvB 0 7, kvB 0 2, (.negSucc 0, .ofNat 99)], [(102, 29, .inl (4, .ofNat 0)), (102, 30, .inr (.ofNat 2))], 110, [kvR 102, kvI 0, kvI 1, kvI 2, kvN 176, kvN 2, kvN 1, kvI 3], []), ([], []), (2, [(-1, 3)]))
theorem ks384 : aseg kS krf kB [kE43, kE89, kE320, kE376, kE380, kE382, kE383] (ksp [(192, 200, 7, 0, 7, 0)]) kE384 [kC384_0, kC384_1, kC384_2, kC384_3, kC384_4] 30000 (none) = true := by decide +kernel
theorem ks384_0 : aseg kS krf kB [kE43, kE89, kE320, kE376, kE380, kE382, kE383] (ksp [(192, 200, 7, 0, 7, 0)]) kE384 [kC384_0, kC384_1, kC384_2, kC384_3, kC384_4] 30000 (some kC384_0) = true := by decide +kernel
theorem ks384_1 : aseg kS krf kB [kE43, kE89, kE320, kE376, kE380, kE382, kE383] (ksp [(192, 200, 7, 0, 7, 0)]) kE384 [kC384_0, kC384_1, kC384_2, kC384_3, kC384_4] 30000 (some kC384_1) = true := by decide +kernel
theorem ks384_2 : aseg kS krf kB [kE43, kE89, kE320, kE376, kE380, kE382, kE383] (ksp [(192, 200, 7, 0, 7, 0)]) kE384 [kC384_0, kC384_1, kC384_2, kC384_3, kC384_4] 30000 (some kC384_2) = true := by decide +kernel
theorem ks384_3 : aseg kS krf kB [kE43, kE89, kE320, kE376, kE380, kE382, kE383] (ksp [(192, 200, 7, 0, 7, 0)]) kE384 [kC384_0, kC384_1, kC384_2, kC384_3, kC384_4] 30000 (some kC384_3) = true := by decide +kernel
theorem ks384_4 : aseg kS krf kB [kE43, kE89, kE320, kE376, kE380, kE382, kE383] (ksp [(192, 200, 7, 0, 7, 0)]) kE384 [kC384_0, kC384_1, kC384_2, kC384_3, kC384_4] 30000 (some kC384_4) = true := by decide +kernel
theorem kok384 : aOK kS krf kB kE384 := aOK_of (kal1 kok43 (kal1 kok89 (kal1 kok320 (kal1 kok376 (kal1 kok380 (kal1 kok382 (kal1 kok383 kal0))))))) (kcl1 ks384_0 (kcl1 ks384_1 (kcl1 ks384_2 (kcl1 ks384_3 (kcl1 ks384_4 kcl0))))) ks384
/-- ColdShodModel.triesWay(IIIII)V -/
def kE385 : aE := (192, 48, ([kvB 0 7, kvB 0 7, kvB 0 7], [], 0, [kvR 102, kvI 0, kvI 1, kvI 2, kvN 175, kvN 5, none, none], []), ([], none), ([], [], none, ([], [])), kvW63)
def kC385_0 : aC := (([kvB 0 7, kvB 0 7, kvB 0 7, kvB 0 1, kvB 0 5], [], 16, [kvR 102, kvI 0, kvI 1, kvI 2, kvN 175, kvN 5, kvI 3, kvI 4], []), ([], []), (337, [(-1, 4)]))
def kC385_1 : aC := (([kvB 0 7, kvB 0 7, kvB 0 7, kvB 0 12], [], 141, [kvR 102, kvI 0, kvI 1, kvI 2, kvN 175, kvN 5, kvI 3, none], []), ([], []), (141, [(-11, 3)]))
def kC385_2 : aC := (([kvB 0 7, kvB 0 7, kvB 0 7, kvB 0 11, (.negSucc 0, .ofNat 7), kvB 1 12], [(102, 8, .inl (5, .ofNat 0))], 195, [kvR 102, kvI 0, kvI 1, kvI 2, kvN 175, kvN 5, kvI 3, kvI 4], []), ([], []), (139, [(-11, 3), (-1, 4)]))
def kC385_3 : aC := (([kvB 0 7, kvB 0 7, kvB 0 7, (.negSucc 0, .ofNat 2147483647)], [(102, 29, .inl (3, .ofNat 0))], 91, [kvR 102, kvI 0, kvI 1, kvI 2, kvN 175, kvN 5, kvN 1, kvN 5], []), ([], []), (166, []))
def kC385_4 : aC := (([kvB 0 7, kvB 0 7, kvB 0 7, kvB 0 5, (.negSucc 0, .ofNat 99)], [(102, 29, .inl (4, .ofNat 0)), (102, 30, .inr (.ofNat 5))], 110, [kvR 102, kvI 0, kvI 1, kvI 2, kvN 175, kvN 5, kvN 1, kvI 3], []), ([], []), (5, [(-1, 3)]))
theorem ks385 : aseg kS krf kB [kE43, kE89, kE321, kE369] (ksp [(192, 200, 7, 0, 7, 0)]) kE385 [kC385_0, kC385_1, kC385_2, kC385_3, kC385_4] 30000 (none) = true := by decide +kernel
theorem ks385_0 : aseg kS krf kB [kE43, kE89, kE321, kE369] (ksp [(192, 200, 7, 0, 7, 0)]) kE385 [kC385_0, kC385_1, kC385_2, kC385_3, kC385_4] 30000 (some kC385_0) = true := by decide +kernel
theorem ks385_1 : aseg kS krf kB [kE43, kE89, kE321, kE369] (ksp [(192, 200, 7, 0, 7, 0)]) kE385 [kC385_0, kC385_1, kC385_2, kC385_3, kC385_4] 30000 (some kC385_1) = true := by decide +kernel
theorem ks385_2 : aseg kS krf kB [kE43, kE89, kE321, kE369] (ksp [(192, 200, 7, 0, 7, 0)]) kE385 [kC385_0, kC385_1, kC385_2, kC385_3, kC385_4] 30000 (some kC385_2) = true := by decide +kernel
theorem ks385_3 : aseg kS krf kB [kE43, kE89, kE321, kE369] (ksp [(192, 200, 7, 0, 7, 0)]) kE385 [kC385_0, kC385_1, kC385_2, kC385_3, kC385_4] 30000 (some kC385_3) = true := by decide +kernel
theorem ks385_4 : aseg kS krf kB [kE43, kE89, kE321, kE369] (ksp [(192, 200, 7, 0, 7, 0)]) kE385 [kC385_0, kC385_1, kC385_2, kC385_3, kC385_4] 30000 (some kC385_4) = true := by decide +kernel
theorem kok385 : aOK kS krf kB kE385 := aOK_of (kal1 kok43 (kal1 kok89 (kal1 kok321 (kal1 kok369 kal0)))) (kcl1 ks385_0 (kcl1 ks385_1 (kcl1 ks385_2 (kcl1 ks385_3 (kcl1 ks385_4 kcl0))))) ks385
/-- ColdShodModel.triesWay(IIIII)V -/
def kE386 : aE := (192, 49, ([kvB 0 7, kvB 0 7, kvB 0 7], [], 0, [kvR 102, kvI 0, kvI 1, kvI 2, kvN 174, kvN 4, none, none], []), ([], none), ([], [], none, ([], [])), kvW64)
def kC386_0 : aC := (([kvB 0 7, kvB 0 7, kvB 0 7, kvB 0 1, kvB 0 4], [], 16, [kvR 102, kvI 0, kvI 1, kvI 2, kvN 174, kvN 4, kvI 3, kvI 4], []), ([], []), (336, [(-1, 4)]))
def kC386_1 : aC := (([kvB 0 7, kvB 0 7, kvB 0 7, kvB 0 12], [], 141, [kvR 102, kvI 0, kvI 1, kvI 2, kvN 174, kvN 4, kvI 3, none], []), ([], []), (141, [(-11, 3)]))
def kC386_2 : aC := (([kvB 0 7, kvB 0 7, kvB 0 7, kvB 0 11, (.negSucc 0, .ofNat 7), kvB 1 12], [(102, 8, .inl (5, .ofNat 0))], 195, [kvR 102, kvI 0, kvI 1, kvI 2, kvN 174, kvN 4, kvI 3, kvI 4], []), ([], []), (139, [(-11, 3), (-1, 4)]))
def kC386_3 : aC := (([kvB 0 7, kvB 0 7, kvB 0 7, (.negSucc 0, .ofNat 2147483647)], [(102, 29, .inl (3, .ofNat 0))], 91, [kvR 102, kvI 0, kvI 1, kvI 2, kvN 174, kvN 4, kvN 1, kvN 4], []), ([], []), (166, []))
def kC386_4 : aC := (([kvB 0 7, kvB 0 7, kvB 0 7, kvB 0 4, (.negSucc 0, .ofNat 99)], [(102, 29, .inl (4, .ofNat 0)), (102, 30, .inr (.ofNat 4))], 110, [kvR 102, kvI 0, kvI 1, kvI 2, kvN 174, kvN 4, kvN 1, kvI 3], []), ([], []), (4, [(-1, 3)]))
theorem ks386 : aseg kS krf kB [kE43, kE89, kE322, kE370, kE385] (ksp [(192, 200, 7, 0, 7, 0)]) kE386 [kC386_0, kC386_1, kC386_2, kC386_3, kC386_4] 30000 (none) = true := by decide +kernel
theorem ks386_0 : aseg kS krf kB [kE43, kE89, kE322, kE370, kE385] (ksp [(192, 200, 7, 0, 7, 0)]) kE386 [kC386_0, kC386_1, kC386_2, kC386_3, kC386_4] 30000 (some kC386_0) = true := by decide +kernel
theorem ks386_1 : aseg kS krf kB [kE43, kE89, kE322, kE370, kE385] (ksp [(192, 200, 7, 0, 7, 0)]) kE386 [kC386_0, kC386_1, kC386_2, kC386_3, kC386_4] 30000 (some kC386_1) = true := by decide +kernel
theorem ks386_2 : aseg kS krf kB [kE43, kE89, kE322, kE370, kE385] (ksp [(192, 200, 7, 0, 7, 0)]) kE386 [kC386_0, kC386_1, kC386_2, kC386_3, kC386_4] 30000 (some kC386_2) = true := by decide +kernel
theorem ks386_3 : aseg kS krf kB [kE43, kE89, kE322, kE370, kE385] (ksp [(192, 200, 7, 0, 7, 0)]) kE386 [kC386_0, kC386_1, kC386_2, kC386_3, kC386_4] 30000 (some kC386_3) = true := by decide +kernel
theorem ks386_4 : aseg kS krf kB [kE43, kE89, kE322, kE370, kE385] (ksp [(192, 200, 7, 0, 7, 0)]) kE386 [kC386_0, kC386_1, kC386_2, kC386_3, kC386_4] 30000 (some kC386_4) = true := by decide +kernel
theorem kok386 : aOK kS krf kB kE386 := aOK_of (kal1 kok43 (kal1 kok89 (kal1 kok322 (kal1 kok370 (kal1 kok385 kal0))))) (kcl1 ks386_0 (kcl1 ks386_1 (kcl1 ks386_2 (kcl1 ks386_3 (kcl1 ks386_4 kcl0))))) ks386
/-- ColdShodModel.triesWay(IIIII)V -/
def kE387 : aE := (192, 49, ([kvB 0 7, kvB 0 7, kvB 0 7], [], 0, [kvR 102, kvI 0, kvI 1, kvI 2, kvN 173, kvN 4, none, none], []), ([], none), ([], [], none, ([], [])), kvW64)
def kC387_0 : aC := (([kvB 0 7, kvB 0 7, kvB 0 7, kvB 0 1, kvB 0 4], [], 16, [kvR 102, kvI 0, kvI 1, kvI 2, kvN 173, kvN 4, kvI 3, kvI 4], []), ([], []), (336, [(-1, 4)]))
def kC387_1 : aC := (([kvB 0 7, kvB 0 7, kvB 0 7, kvB 0 12], [], 141, [kvR 102, kvI 0, kvI 1, kvI 2, kvN 173, kvN 4, kvI 3, none], []), ([], []), (141, [(-11, 3)]))
def kC387_2 : aC := (([kvB 0 7, kvB 0 7, kvB 0 7, kvB 0 11, (.negSucc 0, .ofNat 7), kvB 1 12], [(102, 8, .inl (5, .ofNat 0))], 195, [kvR 102, kvI 0, kvI 1, kvI 2, kvN 173, kvN 4, kvI 3, kvI 4], []), ([], []), (139, [(-11, 3), (-1, 4)]))
def kC387_3 : aC := (([kvB 0 7, kvB 0 7, kvB 0 7, (.negSucc 0, .ofNat 2147483647)], [(102, 29, .inl (3, .ofNat 0))], 91, [kvR 102, kvI 0, kvI 1, kvI 2, kvN 173, kvN 4, kvN 1, kvN 4], []), ([], []), (166, []))
def kC387_4 : aC := (([kvB 0 7, kvB 0 7, kvB 0 7, kvB 0 4, (.negSucc 0, .ofNat 99)], [(102, 29, .inl (4, .ofNat 0)), (102, 30, .inr (.ofNat 4))], 110, [kvR 102, kvI 0, kvI 1, kvI 2, kvN 173, kvN 4, kvN 1, kvI 3], []), ([], []), (4, [(-1, 3)]))
theorem ks387 : aseg kS krf kB [kE43, kE89, kE323, kE371, kE385] (ksp [(192, 200, 7, 0, 7, 0)]) kE387 [kC387_0, kC387_1, kC387_2, kC387_3, kC387_4] 30000 (none) = true := by decide +kernel
theorem ks387_0 : aseg kS krf kB [kE43, kE89, kE323, kE371, kE385] (ksp [(192, 200, 7, 0, 7, 0)]) kE387 [kC387_0, kC387_1, kC387_2, kC387_3, kC387_4] 30000 (some kC387_0) = true := by decide +kernel
theorem ks387_1 : aseg kS krf kB [kE43, kE89, kE323, kE371, kE385] (ksp [(192, 200, 7, 0, 7, 0)]) kE387 [kC387_0, kC387_1, kC387_2, kC387_3, kC387_4] 30000 (some kC387_1) = true := by decide +kernel
theorem ks387_2 : aseg kS krf kB [kE43, kE89, kE323, kE371, kE385] (ksp [(192, 200, 7, 0, 7, 0)]) kE387 [kC387_0, kC387_1, kC387_2, kC387_3, kC387_4] 30000 (some kC387_2) = true := by decide +kernel
theorem ks387_3 : aseg kS krf kB [kE43, kE89, kE323, kE371, kE385] (ksp [(192, 200, 7, 0, 7, 0)]) kE387 [kC387_0, kC387_1, kC387_2, kC387_3, kC387_4] 30000 (some kC387_3) = true := by decide +kernel
theorem ks387_4 : aseg kS krf kB [kE43, kE89, kE323, kE371, kE385] (ksp [(192, 200, 7, 0, 7, 0)]) kE387 [kC387_0, kC387_1, kC387_2, kC387_3, kC387_4] 30000 (some kC387_4) = true := by decide +kernel
theorem kok387 : aOK kS krf kB kE387 := aOK_of (kal1 kok43 (kal1 kok89 (kal1 kok323 (kal1 kok371 (kal1 kok385 kal0))))) (kcl1 ks387_0 (kcl1 ks387_1 (kcl1 ks387_2 (kcl1 ks387_3 (kcl1 ks387_4 kcl0))))) ks387
/-- ColdShodModel.triesWay(IIIII)V -/
def kE388 : aE := (192, 50, ([kvB 0 7, kvB 0 7, kvB 0 7], [], 0, [kvR 102, kvI 0, kvI 1, kvI 2, kvN 172, kvN 3, none, none], []), ([], none), ([], [], none, ([], [])), kvW65)
def kC388_0 : aC := (([kvB 0 7, kvB 0 7, kvB 0 7, kvB 0 1, kvB 0 3], [], 16, [kvR 102, kvI 0, kvI 1, kvI 2, kvN 172, kvN 3, kvI 3, kvI 4], []), ([], []), (335, [(-1, 4)]))
def kC388_1 : aC := (([kvB 0 7, kvB 0 7, kvB 0 7, kvB 0 12], [], 141, [kvR 102, kvI 0, kvI 1, kvI 2, kvN 172, kvN 3, kvI 3, none], []), ([], []), (141, [(-11, 3)]))
def kC388_2 : aC := (([kvB 0 7, kvB 0 7, kvB 0 7, kvB 0 11, (.negSucc 0, .ofNat 7), kvB 1 12], [(102, 8, .inl (5, .ofNat 0))], 195, [kvR 102, kvI 0, kvI 1, kvI 2, kvN 172, kvN 3, kvI 3, kvI 4], []), ([], []), (139, [(-11, 3), (-1, 4)]))
def kC388_3 : aC := (([kvB 0 7, kvB 0 7, kvB 0 7, (.negSucc 0, .ofNat 2147483647)], [(102, 29, .inl (3, .ofNat 0))], 91, [kvR 102, kvI 0, kvI 1, kvI 2, kvN 172, kvN 3, kvN 1, kvN 3], []), ([], []), (166, []))
def kC388_4 : aC := (([kvB 0 7, kvB 0 7, kvB 0 7, kvB 0 3, (.negSucc 0, .ofNat 99)], [(102, 29, .inl (4, .ofNat 0)), (102, 30, .inr (.ofNat 3))], 110, [kvR 102, kvI 0, kvI 1, kvI 2, kvN 172, kvN 3, kvN 1, kvI 3], []), ([], []), (3, [(-1, 3)]))
theorem ks388 : aseg kS krf kB [kE43, kE89, kE324, kE372, kE386, kE387] (ksp [(192, 200, 7, 0, 7, 0)]) kE388 [kC388_0, kC388_1, kC388_2, kC388_3, kC388_4] 30000 (none) = true := by decide +kernel
theorem ks388_0 : aseg kS krf kB [kE43, kE89, kE324, kE372, kE386, kE387] (ksp [(192, 200, 7, 0, 7, 0)]) kE388 [kC388_0, kC388_1, kC388_2, kC388_3, kC388_4] 30000 (some kC388_0) = true := by decide +kernel
theorem ks388_1 : aseg kS krf kB [kE43, kE89, kE324, kE372, kE386, kE387] (ksp [(192, 200, 7, 0, 7, 0)]) kE388 [kC388_0, kC388_1, kC388_2, kC388_3, kC388_4] 30000 (some kC388_1) = true := by decide +kernel
theorem ks388_2 : aseg kS krf kB [kE43, kE89, kE324, kE372, kE386, kE387] (ksp [(192, 200, 7, 0, 7, 0)]) kE388 [kC388_0, kC388_1, kC388_2, kC388_3, kC388_4] 30000 (some kC388_2) = true := by decide +kernel
theorem ks388_3 : aseg kS krf kB [kE43, kE89, kE324, kE372, kE386, kE387] (ksp [(192, 200, 7, 0, 7, 0)]) kE388 [kC388_0, kC388_1, kC388_2, kC388_3, kC388_4] 30000 (some kC388_3) = true := by decide +kernel
theorem ks388_4 : aseg kS krf kB [kE43, kE89, kE324, kE372, kE386, kE387] (ksp [(192, 200, 7, 0, 7, 0)]) kE388 [kC388_0, kC388_1, kC388_2, kC388_3, kC388_4] 30000 (some kC388_4) = true := by decide +kernel
theorem kok388 : aOK kS krf kB kE388 := aOK_of (kal1 kok43 (kal1 kok89 (kal1 kok324 (kal1 kok372 (kal1 kok386 (kal1 kok387 kal0)))))) (kcl1 ks388_0 (kcl1 ks388_1 (kcl1 ks388_2 (kcl1 ks388_3 (kcl1 ks388_4 kcl0))))) ks388
/-- ColdShodModel.triesWay(IIIII)V -/
def kE389 : aE := (192, 49, ([kvB 0 7, kvB 0 7, kvB 0 7], [], 0, [kvR 102, kvI 0, kvI 1, kvI 2, kvN 171, kvN 4, none, none], []), ([], none), ([], [], none, ([], [])), kvW64)
def kC389_0 : aC := (([kvB 0 7, kvB 0 7, kvB 0 7, kvB 0 1, kvB 0 4], [], 16, [kvR 102, kvI 0, kvI 1, kvI 2, kvN 171, kvN 4, kvI 3, kvI 4], []), ([], []), (336, [(-1, 4)]))
def kC389_1 : aC := (([kvB 0 7, kvB 0 7, kvB 0 7, kvB 0 12], [], 141, [kvR 102, kvI 0, kvI 1, kvI 2, kvN 171, kvN 4, kvI 3, none], []), ([], []), (141, [(-11, 3)]))
def kC389_2 : aC := (([kvB 0 7, kvB 0 7, kvB 0 7, kvB 0 11, (.negSucc 0, .ofNat 7), kvB 1 12], [(102, 8, .inl (5, .ofNat 0))], 195, [kvR 102, kvI 0, kvI 1, kvI 2, kvN 171, kvN 4, kvI 3, kvI 4], []), ([], []), (139, [(-11, 3), (-1, 4)]))
def kC389_3 : aC := (([kvB 0 7, kvB 0 7, kvB 0 7, (.negSucc 0, .ofNat 2147483647)], [(102, 29, .inl (3, .ofNat 0))], 91, [kvR 102, kvI 0, kvI 1, kvI 2, kvN 171, kvN 4, kvN 1, kvN 4], []), ([], []), (166, []))
def kC389_4 : aC := (([kvB 0 7, kvB 0 7, kvB 0 7, kvB 0 4, (.negSucc 0, .ofNat 99)], [(102, 29, .inl (4, .ofNat 0)), (102, 30, .inr (.ofNat 4))], 110, [kvR 102, kvI 0, kvI 1, kvI 2, kvN 171, kvN 4, kvN 1, kvI 3], []), ([], []), (4, [(-1, 3)]))
theorem ks389 : aseg kS krf kB [kE43, kE89, kE325, kE373, kE385] (ksp [(192, 200, 7, 0, 7, 0)]) kE389 [kC389_0, kC389_1, kC389_2, kC389_3, kC389_4] 30000 (none) = true := by decide +kernel
theorem ks389_0 : aseg kS krf kB [kE43, kE89, kE325, kE373, kE385] (ksp [(192, 200, 7, 0, 7, 0)]) kE389 [kC389_0, kC389_1, kC389_2, kC389_3, kC389_4] 30000 (some kC389_0) = true := by decide +kernel
theorem ks389_1 : aseg kS krf kB [kE43, kE89, kE325, kE373, kE385] (ksp [(192, 200, 7, 0, 7, 0)]) kE389 [kC389_0, kC389_1, kC389_2, kC389_3, kC389_4] 30000 (some kC389_1) = true := by decide +kernel
theorem ks389_2 : aseg kS krf kB [kE43, kE89, kE325, kE373, kE385] (ksp [(192, 200, 7, 0, 7, 0)]) kE389 [kC389_0, kC389_1, kC389_2, kC389_3, kC389_4] 30000 (some kC389_2) = true := by decide +kernel
theorem ks389_3 : aseg kS krf kB [kE43, kE89, kE325, kE373, kE385] (ksp [(192, 200, 7, 0, 7, 0)]) kE389 [kC389_0, kC389_1, kC389_2, kC389_3, kC389_4] 30000 (some kC389_3) = true := by decide +kernel
theorem ks389_4 : aseg kS krf kB [kE43, kE89, kE325, kE373, kE385] (ksp [(192, 200, 7, 0, 7, 0)]) kE389 [kC389_0, kC389_1, kC389_2, kC389_3, kC389_4] 30000 (some kC389_4) = true := by decide +kernel
theorem kok389 : aOK kS krf kB kE389 := aOK_of (kal1 kok43 (kal1 kok89 (kal1 kok325 (kal1 kok373 (kal1 kok385 kal0))))) (kcl1 ks389_0 (kcl1 ks389_1 (kcl1 ks389_2 (kcl1 ks389_3 (kcl1 ks389_4 kcl0))))) ks389
/-- ColdShodModel.triesWay(IIIII)V -/
def kE390 : aE := (192, 50, ([kvB 0 7, kvB 0 7, kvB 0 7], [], 0, [kvR 102, kvI 0, kvI 1, kvI 2, kvN 170, kvN 3, none, none], []), ([], none), ([], [], none, ([], [])), kvW65)
def kC390_0 : aC := (([kvB 0 7, kvB 0 7, kvB 0 7, kvB 0 1, kvB 0 3], [], 16, [kvR 102, kvI 0, kvI 1, kvI 2, kvN 170, kvN 3, kvI 3, kvI 4], []), ([], []), (335, [(-1, 4)]))
def kC390_1 : aC := (([kvB 0 7, kvB 0 7, kvB 0 7, kvB 0 12], [], 141, [kvR 102, kvI 0, kvI 1, kvI 2, kvN 170, kvN 3, kvI 3, none], []), ([], []), (141, [(-11, 3)]))
def kC390_2 : aC := (([kvB 0 7, kvB 0 7, kvB 0 7, kvB 0 11, (.negSucc 0, .ofNat 7), kvB 1 12], [(102, 8, .inl (5, .ofNat 0))], 195, [kvR 102, kvI 0, kvI 1, kvI 2, kvN 170, kvN 3, kvI 3, kvI 4], []), ([], []), (139, [(-11, 3), (-1, 4)]))
def kC390_3 : aC := (([kvB 0 7, kvB 0 7, kvB 0 7, (.negSucc 0, .ofNat 2147483647)], [(102, 29, .inl (3, .ofNat 0))], 91, [kvR 102, kvI 0, kvI 1, kvI 2, kvN 170, kvN 3, kvN 1, kvN 3], []), ([], []), (166, []))
def kC390_4 : aC := (([kvB 0 7, kvB 0 7, kvB 0 7, kvB 0 3, (.negSucc 0, .ofNat 99)], [(102, 29, .inl (4, .ofNat 0)), (102, 30, .inr (.ofNat 3))], 110, [kvR 102, kvI 0, kvI 1, kvI 2, kvN 170, kvN 3, kvN 1, kvI 3], []), ([], []), (3, [(-1, 3)]))
theorem ks390 : aseg kS krf kB [kE43, kE89, kE326, kE374, kE386, kE389] (ksp [(192, 200, 7, 0, 7, 0)]) kE390 [kC390_0, kC390_1, kC390_2, kC390_3, kC390_4] 30000 (none) = true := by decide +kernel
theorem ks390_0 : aseg kS krf kB [kE43, kE89, kE326, kE374, kE386, kE389] (ksp [(192, 200, 7, 0, 7, 0)]) kE390 [kC390_0, kC390_1, kC390_2, kC390_3, kC390_4] 30000 (some kC390_0) = true := by decide +kernel
theorem ks390_1 : aseg kS krf kB [kE43, kE89, kE326, kE374, kE386, kE389] (ksp [(192, 200, 7, 0, 7, 0)]) kE390 [kC390_0, kC390_1, kC390_2, kC390_3, kC390_4] 30000 (some kC390_1) = true := by decide +kernel
theorem ks390_2 : aseg kS krf kB [kE43, kE89, kE326, kE374, kE386, kE389] (ksp [(192, 200, 7, 0, 7, 0)]) kE390 [kC390_0, kC390_1, kC390_2, kC390_3, kC390_4] 30000 (some kC390_2) = true := by decide +kernel
theorem ks390_3 : aseg kS krf kB [kE43, kE89, kE326, kE374, kE386, kE389] (ksp [(192, 200, 7, 0, 7, 0)]) kE390 [kC390_0, kC390_1, kC390_2, kC390_3, kC390_4] 30000 (some kC390_3) = true := by decide +kernel
theorem ks390_4 : aseg kS krf kB [kE43, kE89, kE326, kE374, kE386, kE389] (ksp [(192, 200, 7, 0, 7, 0)]) kE390 [kC390_0, kC390_1, kC390_2, kC390_3, kC390_4] 30000 (some kC390_4) = true := by decide +kernel
theorem kok390 : aOK kS krf kB kE390 := aOK_of (kal1 kok43 (kal1 kok89 (kal1 kok326 (kal1 kok374 (kal1 kok386 (kal1 kok389 kal0)))))) (kcl1 ks390_0 (kcl1 ks390_1 (kcl1 ks390_2 (kcl1 ks390_3 (kcl1 ks390_4 kcl0))))) ks390
/-- ColdShodModel.triesWay(IIIII)V -/
def kE391 : aE := (192, 50, ([kvB 0 7, kvB 0 7, kvB 0 7], [], 0, [kvR 102, kvI 0, kvI 1, kvI 2, kvN 169, kvN 3, none, none], []), ([], none), ([], [], none, ([], [])), kvW65)
def kC391_0 : aC := (([kvB 0 7, kvB 0 7, kvB 0 7, kvB 0 1, kvB 0 3], [], 16, [kvR 102, kvI 0, kvI 1, kvI 2, kvN 169, kvN 3, kvI 3, kvI 4], []), ([], []), (335, [(-1, 4)]))
def kC391_1 : aC := (([kvB 0 7, kvB 0 7, kvB 0 7, kvB 0 12], [], 141, [kvR 102, kvI 0, kvI 1, kvI 2, kvN 169, kvN 3, kvI 3, none], []), ([], []), (141, [(-11, 3)]))
def kC391_2 : aC := (([kvB 0 7, kvB 0 7, kvB 0 7, kvB 0 11, (.negSucc 0, .ofNat 7), kvB 1 12], [(102, 8, .inl (5, .ofNat 0))], 195, [kvR 102, kvI 0, kvI 1, kvI 2, kvN 169, kvN 3, kvI 3, kvI 4], []), ([], []), (139, [(-11, 3), (-1, 4)]))
def kC391_3 : aC := (([kvB 0 7, kvB 0 7, kvB 0 7, (.negSucc 0, .ofNat 2147483647)], [(102, 29, .inl (3, .ofNat 0))], 91, [kvR 102, kvI 0, kvI 1, kvI 2, kvN 169, kvN 3, kvN 1, kvN 3], []), ([], []), (166, []))
def kC391_4 : aC := (([kvB 0 7, kvB 0 7, kvB 0 7, kvB 0 3, (.negSucc 0, .ofNat 99)], [(102, 29, .inl (4, .ofNat 0)), (102, 30, .inr (.ofNat 3))], 110, [kvR 102, kvI 0, kvI 1, kvI 2, kvN 169, kvN 3, kvN 1, kvI 3], []), ([], []), (3, [(-1, 3)]))
theorem ks391 : aseg kS krf kB [kE43, kE89, kE327, kE375, kE387, kE389] (ksp [(192, 200, 7, 0, 7, 0)]) kE391 [kC391_0, kC391_1, kC391_2, kC391_3, kC391_4] 30000 (none) = true := by decide +kernel
theorem ks391_0 : aseg kS krf kB [kE43, kE89, kE327, kE375, kE387, kE389] (ksp [(192, 200, 7, 0, 7, 0)]) kE391 [kC391_0, kC391_1, kC391_2, kC391_3, kC391_4] 30000 (some kC391_0) = true := by decide +kernel
theorem ks391_1 : aseg kS krf kB [kE43, kE89, kE327, kE375, kE387, kE389] (ksp [(192, 200, 7, 0, 7, 0)]) kE391 [kC391_0, kC391_1, kC391_2, kC391_3, kC391_4] 30000 (some kC391_1) = true := by decide +kernel
theorem ks391_2 : aseg kS krf kB [kE43, kE89, kE327, kE375, kE387, kE389] (ksp [(192, 200, 7, 0, 7, 0)]) kE391 [kC391_0, kC391_1, kC391_2, kC391_3, kC391_4] 30000 (some kC391_2) = true := by decide +kernel
theorem ks391_3 : aseg kS krf kB [kE43, kE89, kE327, kE375, kE387, kE389] (ksp [(192, 200, 7, 0, 7, 0)]) kE391 [kC391_0, kC391_1, kC391_2, kC391_3, kC391_4] 30000 (some kC391_3) = true := by decide +kernel
theorem ks391_4 : aseg kS krf kB [kE43, kE89, kE327, kE375, kE387, kE389] (ksp [(192, 200, 7, 0, 7, 0)]) kE391 [kC391_0, kC391_1, kC391_2, kC391_3, kC391_4] 30000 (some kC391_4) = true := by decide +kernel
theorem kok391 : aOK kS krf kB kE391 := aOK_of (kal1 kok43 (kal1 kok89 (kal1 kok327 (kal1 kok375 (kal1 kok387 (kal1 kok389 kal0)))))) (kcl1 ks391_0 (kcl1 ks391_1 (kcl1 ks391_2 (kcl1 ks391_3 (kcl1 ks391_4 kcl0))))) ks391
/-- ColdShodModel.triesWay(IIIII)V -/
def kE392 : aE := (192, 51, ([kvB 0 7, kvB 0 7, kvB 0 7], [], 0, [kvR 102, kvI 0, kvI 1, kvI 2, kvN 168, kvN 2, none, none], []), ([], none), ([], [], none, ([], [])), kvW66)
def kC392_0 : aC := (([kvB 0 7, kvB 0 7, kvB 0 7, kvB 0 1, kvB 0 2], [], 16, [kvR 102, kvI 0, kvI 1, kvI 2, kvN 168, kvN 2, kvI 3, kvI 4], []), ([], []), (334, [(-1, 4)]))
def kC392_1 : aC := (([kvB 0 7, kvB 0 7, kvB 0 7, kvB 0 12], [], 141, [kvR 102, kvI 0, kvI 1, kvI 2, kvN 168, kvN 2, kvI 3, none], []), ([], []), (141, [(-11, 3)]))
def kC392_2 : aC := (([kvB 0 7, kvB 0 7, kvB 0 7, kvB 0 11, (.negSucc 0, .ofNat 7), kvB 1 12], [(102, 8, .inl (5, .ofNat 0))], 195, [kvR 102, kvI 0, kvI 1, kvI 2, kvN 168, kvN 2, kvI 3, kvI 4], []), ([], []), (139, [(-11, 3), (-1, 4)]))
def kC392_3 : aC := (([kvB 0 7, kvB 0 7, kvB 0 7, (.negSucc 0, .ofNat 2147483647)], [(102, 29, .inl (3, .ofNat 0))], 91, [kvR 102, kvI 0, kvI 1, kvI 2, kvN 168, kvN 2, kvN 1, kvN 2], []), ([], []), (166, []))
def kC392_4 : aC := (([kvB 0 7, kvB 0 7, kvB 0 7, kvB 0 2, (.negSucc 0, .ofNat 99)], [(102, 29, .inl (4, .ofNat 0)), (102, 30, .inr (.ofNat 2))], 110, [kvR 102, kvI 0, kvI 1, kvI 2, kvN 168, kvN 2, kvN 1, kvI 3], []), ([], []), (2, [(-1, 3)]))
theorem ks392 : aseg kS krf kB [kE43, kE89, kE328, kE376, kE388, kE390, kE391] (ksp [(192, 200, 7, 0, 7, 0)]) kE392 [kC392_0, kC392_1, kC392_2, kC392_3, kC392_4] 30000 (none) = true := by decide +kernel
theorem ks392_0 : aseg kS krf kB [kE43, kE89, kE328, kE376, kE388, kE390, kE391] (ksp [(192, 200, 7, 0, 7, 0)]) kE392 [kC392_0, kC392_1, kC392_2, kC392_3, kC392_4] 30000 (some kC392_0) = true := by decide +kernel
theorem ks392_1 : aseg kS krf kB [kE43, kE89, kE328, kE376, kE388, kE390, kE391] (ksp [(192, 200, 7, 0, 7, 0)]) kE392 [kC392_0, kC392_1, kC392_2, kC392_3, kC392_4] 30000 (some kC392_1) = true := by decide +kernel
theorem ks392_2 : aseg kS krf kB [kE43, kE89, kE328, kE376, kE388, kE390, kE391] (ksp [(192, 200, 7, 0, 7, 0)]) kE392 [kC392_0, kC392_1, kC392_2, kC392_3, kC392_4] 30000 (some kC392_2) = true := by decide +kernel
theorem ks392_3 : aseg kS krf kB [kE43, kE89, kE328, kE376, kE388, kE390, kE391] (ksp [(192, 200, 7, 0, 7, 0)]) kE392 [kC392_0, kC392_1, kC392_2, kC392_3, kC392_4] 30000 (some kC392_3) = true := by decide +kernel
theorem ks392_4 : aseg kS krf kB [kE43, kE89, kE328, kE376, kE388, kE390, kE391] (ksp [(192, 200, 7, 0, 7, 0)]) kE392 [kC392_0, kC392_1, kC392_2, kC392_3, kC392_4] 30000 (some kC392_4) = true := by decide +kernel
theorem kok392 : aOK kS krf kB kE392 := aOK_of (kal1 kok43 (kal1 kok89 (kal1 kok328 (kal1 kok376 (kal1 kok388 (kal1 kok390 (kal1 kok391 kal0))))))) (kcl1 ks392_0 (kcl1 ks392_1 (kcl1 ks392_2 (kcl1 ks392_3 (kcl1 ks392_4 kcl0))))) ks392
/-- ColdShodModel.triesWay(IIIII)V -/
def kE393 : aE := (192, 49, ([kvB 0 7, kvB 0 7, kvB 0 7], [], 0, [kvR 102, kvI 0, kvI 1, kvI 2, kvN 167, kvN 4, none, none], []), ([], none), ([], [], none, ([], [])), kvW64)
def kC393_0 : aC := (([kvB 0 7, kvB 0 7, kvB 0 7, kvB 0 1, kvB 0 4], [], 16, [kvR 102, kvI 0, kvI 1, kvI 2, kvN 167, kvN 4, kvI 3, kvI 4], []), ([], []), (336, [(-1, 4)]))
def kC393_1 : aC := (([kvB 0 7, kvB 0 7, kvB 0 7, kvB 0 12], [], 141, [kvR 102, kvI 0, kvI 1, kvI 2, kvN 167, kvN 4, kvI 3, none], []), ([], []), (141, [(-11, 3)]))
def kC393_2 : aC := (([kvB 0 7, kvB 0 7, kvB 0 7, kvB 0 11, (.negSucc 0, .ofNat 7), kvB 1 12], [(102, 8, .inl (5, .ofNat 0))], 195, [kvR 102, kvI 0, kvI 1, kvI 2, kvN 167, kvN 4, kvI 3, kvI 4], []), ([], []), (139, [(-11, 3), (-1, 4)]))
def kC393_3 : aC := (([kvB 0 7, kvB 0 7, kvB 0 7, (.negSucc 0, .ofNat 2147483647)], [(102, 29, .inl (3, .ofNat 0))], 91, [kvR 102, kvI 0, kvI 1, kvI 2, kvN 167, kvN 4, kvN 1, kvN 4], []), ([], []), (166, []))
def kC393_4 : aC := (([kvB 0 7, kvB 0 7, kvB 0 7, kvB 0 4, (.negSucc 0, .ofNat 99)], [(102, 29, .inl (4, .ofNat 0)), (102, 30, .inr (.ofNat 4))], 110, [kvR 102, kvI 0, kvI 1, kvI 2, kvN 167, kvN 4, kvN 1, kvI 3], []), ([], []), (4, [(-1, 3)]))
theorem ks393 : aseg kS krf kB [kE43, kE89, kE329, kE377, kE385] (ksp [(192, 200, 7, 0, 7, 0)]) kE393 [kC393_0, kC393_1, kC393_2, kC393_3, kC393_4] 30000 (none) = true := by decide +kernel
theorem ks393_0 : aseg kS krf kB [kE43, kE89, kE329, kE377, kE385] (ksp [(192, 200, 7, 0, 7, 0)]) kE393 [kC393_0, kC393_1, kC393_2, kC393_3, kC393_4] 30000 (some kC393_0) = true := by decide +kernel
theorem ks393_1 : aseg kS krf kB [kE43, kE89, kE329, kE377, kE385] (ksp [(192, 200, 7, 0, 7, 0)]) kE393 [kC393_0, kC393_1, kC393_2, kC393_3, kC393_4] 30000 (some kC393_1) = true := by decide +kernel
theorem ks393_2 : aseg kS krf kB [kE43, kE89, kE329, kE377, kE385] (ksp [(192, 200, 7, 0, 7, 0)]) kE393 [kC393_0, kC393_1, kC393_2, kC393_3, kC393_4] 30000 (some kC393_2) = true := by decide +kernel
theorem ks393_3 : aseg kS krf kB [kE43, kE89, kE329, kE377, kE385] (ksp [(192, 200, 7, 0, 7, 0)]) kE393 [kC393_0, kC393_1, kC393_2, kC393_3, kC393_4] 30000 (some kC393_3) = true := by decide +kernel
theorem ks393_4 : aseg kS krf kB [kE43, kE89, kE329, kE377, kE385] (ksp [(192, 200, 7, 0, 7, 0)]) kE393 [kC393_0, kC393_1, kC393_2, kC393_3, kC393_4] 30000 (some kC393_4) = true := by decide +kernel
theorem kok393 : aOK kS krf kB kE393 := aOK_of (kal1 kok43 (kal1 kok89 (kal1 kok329 (kal1 kok377 (kal1 kok385 kal0))))) (kcl1 ks393_0 (kcl1 ks393_1 (kcl1 ks393_2 (kcl1 ks393_3 (kcl1 ks393_4 kcl0))))) ks393
/-- ColdShodModel.triesWay(IIIII)V -/
def kE394 : aE := (192, 50, ([kvB 0 7, kvB 0 7, kvB 0 7], [], 0, [kvR 102, kvI 0, kvI 1, kvI 2, kvN 166, kvN 3, none, none], []), ([], none), ([], [], none, ([], [])), kvW65)
def kC394_0 : aC := (([kvB 0 7, kvB 0 7, kvB 0 7, kvB 0 1, kvB 0 3], [], 16, [kvR 102, kvI 0, kvI 1, kvI 2, kvN 166, kvN 3, kvI 3, kvI 4], []), ([], []), (335, [(-1, 4)]))
def kC394_1 : aC := (([kvB 0 7, kvB 0 7, kvB 0 7, kvB 0 12], [], 141, [kvR 102, kvI 0, kvI 1, kvI 2, kvN 166, kvN 3, kvI 3, none], []), ([], []), (141, [(-11, 3)]))
def kC394_2 : aC := (([kvB 0 7, kvB 0 7, kvB 0 7, kvB 0 11, (.negSucc 0, .ofNat 7), kvB 1 12], [(102, 8, .inl (5, .ofNat 0))], 195, [kvR 102, kvI 0, kvI 1, kvI 2, kvN 166, kvN 3, kvI 3, kvI 4], []), ([], []), (139, [(-11, 3), (-1, 4)]))
def kC394_3 : aC := (([kvB 0 7, kvB 0 7, kvB 0 7, (.negSucc 0, .ofNat 2147483647)], [(102, 29, .inl (3, .ofNat 0))], 91, [kvR 102, kvI 0, kvI 1, kvI 2, kvN 166, kvN 3, kvN 1, kvN 3], []), ([], []), (166, []))
def kC394_4 : aC := (([kvB 0 7, kvB 0 7, kvB 0 7, kvB 0 3, (.negSucc 0, .ofNat 99)], [(102, 29, .inl (4, .ofNat 0)), (102, 30, .inr (.ofNat 3))], 110, [kvR 102, kvI 0, kvI 1, kvI 2, kvN 166, kvN 3, kvN 1, kvI 3], []), ([], []), (3, [(-1, 3)]))
theorem ks394 : aseg kS krf kB [kE43, kE89, kE330, kE378, kE386, kE393] (ksp [(192, 200, 7, 0, 7, 0)]) kE394 [kC394_0, kC394_1, kC394_2, kC394_3, kC394_4] 30000 (none) = true := by decide +kernel
theorem ks394_0 : aseg kS krf kB [kE43, kE89, kE330, kE378, kE386, kE393] (ksp [(192, 200, 7, 0, 7, 0)]) kE394 [kC394_0, kC394_1, kC394_2, kC394_3, kC394_4] 30000 (some kC394_0) = true := by decide +kernel
theorem ks394_1 : aseg kS krf kB [kE43, kE89, kE330, kE378, kE386, kE393] (ksp [(192, 200, 7, 0, 7, 0)]) kE394 [kC394_0, kC394_1, kC394_2, kC394_3, kC394_4] 30000 (some kC394_1) = true := by decide +kernel
theorem ks394_2 : aseg kS krf kB [kE43, kE89, kE330, kE378, kE386, kE393] (ksp [(192, 200, 7, 0, 7, 0)]) kE394 [kC394_0, kC394_1, kC394_2, kC394_3, kC394_4] 30000 (some kC394_2) = true := by decide +kernel
theorem ks394_3 : aseg kS krf kB [kE43, kE89, kE330, kE378, kE386, kE393] (ksp [(192, 200, 7, 0, 7, 0)]) kE394 [kC394_0, kC394_1, kC394_2, kC394_3, kC394_4] 30000 (some kC394_3) = true := by decide +kernel
theorem ks394_4 : aseg kS krf kB [kE43, kE89, kE330, kE378, kE386, kE393] (ksp [(192, 200, 7, 0, 7, 0)]) kE394 [kC394_0, kC394_1, kC394_2, kC394_3, kC394_4] 30000 (some kC394_4) = true := by decide +kernel
theorem kok394 : aOK kS krf kB kE394 := aOK_of (kal1 kok43 (kal1 kok89 (kal1 kok330 (kal1 kok378 (kal1 kok386 (kal1 kok393 kal0)))))) (kcl1 ks394_0 (kcl1 ks394_1 (kcl1 ks394_2 (kcl1 ks394_3 (kcl1 ks394_4 kcl0))))) ks394
/-- ColdShodModel.triesWay(IIIII)V -/
def kE395 : aE := (192, 50, ([kvB 0 7, kvB 0 7, kvB 0 7], [], 0, [kvR 102, kvI 0, kvI 1, kvI 2, kvN 165, kvN 3, none, none], []), ([], none), ([], [], none, ([], [])), kvW65)
def kC395_0 : aC := (([kvB 0 7, kvB 0 7, kvB 0 7, kvB 0 1, kvB 0 3], [], 16, [kvR 102, kvI 0, kvI 1, kvI 2, kvN 165, kvN 3, kvI 3, kvI 4], []), ([], []), (335, [(-1, 4)]))
def kC395_1 : aC := (([kvB 0 7, kvB 0 7, kvB 0 7, kvB 0 12], [], 141, [kvR 102, kvI 0, kvI 1, kvI 2, kvN 165, kvN 3, kvI 3, none], []), ([], []), (141, [(-11, 3)]))
def kC395_2 : aC := (([kvB 0 7, kvB 0 7, kvB 0 7, kvB 0 11, (.negSucc 0, .ofNat 7), kvB 1 12], [(102, 8, .inl (5, .ofNat 0))], 195, [kvR 102, kvI 0, kvI 1, kvI 2, kvN 165, kvN 3, kvI 3, kvI 4], []), ([], []), (139, [(-11, 3), (-1, 4)]))
def kC395_3 : aC := (([kvB 0 7, kvB 0 7, kvB 0 7, (.negSucc 0, .ofNat 2147483647)], [(102, 29, .inl (3, .ofNat 0))], 91, [kvR 102, kvI 0, kvI 1, kvI 2, kvN 165, kvN 3, kvN 1, kvN 3], []), ([], []), (166, []))
def kC395_4 : aC := (([kvB 0 7, kvB 0 7, kvB 0 7, kvB 0 3, (.negSucc 0, .ofNat 99)], [(102, 29, .inl (4, .ofNat 0)), (102, 30, .inr (.ofNat 3))], 110, [kvR 102, kvI 0, kvI 1, kvI 2, kvN 165, kvN 3, kvN 1, kvI 3], []), ([], []), (3, [(-1, 3)]))
theorem ks395 : aseg kS krf kB [kE43, kE89, kE331, kE379, kE387, kE393] (ksp [(192, 200, 7, 0, 7, 0)]) kE395 [kC395_0, kC395_1, kC395_2, kC395_3, kC395_4] 30000 (none) = true := by decide +kernel
theorem ks395_0 : aseg kS krf kB [kE43, kE89, kE331, kE379, kE387, kE393] (ksp [(192, 200, 7, 0, 7, 0)]) kE395 [kC395_0, kC395_1, kC395_2, kC395_3, kC395_4] 30000 (some kC395_0) = true := by decide +kernel
theorem ks395_1 : aseg kS krf kB [kE43, kE89, kE331, kE379, kE387, kE393] (ksp [(192, 200, 7, 0, 7, 0)]) kE395 [kC395_0, kC395_1, kC395_2, kC395_3, kC395_4] 30000 (some kC395_1) = true := by decide +kernel
theorem ks395_2 : aseg kS krf kB [kE43, kE89, kE331, kE379, kE387, kE393] (ksp [(192, 200, 7, 0, 7, 0)]) kE395 [kC395_0, kC395_1, kC395_2, kC395_3, kC395_4] 30000 (some kC395_2) = true := by decide +kernel
theorem ks395_3 : aseg kS krf kB [kE43, kE89, kE331, kE379, kE387, kE393] (ksp [(192, 200, 7, 0, 7, 0)]) kE395 [kC395_0, kC395_1, kC395_2, kC395_3, kC395_4] 30000 (some kC395_3) = true := by decide +kernel
theorem ks395_4 : aseg kS krf kB [kE43, kE89, kE331, kE379, kE387, kE393] (ksp [(192, 200, 7, 0, 7, 0)]) kE395 [kC395_0, kC395_1, kC395_2, kC395_3, kC395_4] 30000 (some kC395_4) = true := by decide +kernel
theorem kok395 : aOK kS krf kB kE395 := aOK_of (kal1 kok43 (kal1 kok89 (kal1 kok331 (kal1 kok379 (kal1 kok387 (kal1 kok393 kal0)))))) (kcl1 ks395_0 (kcl1 ks395_1 (kcl1 ks395_2 (kcl1 ks395_3 (kcl1 ks395_4 kcl0))))) ks395
/-- ColdShodModel.triesWay(IIIII)V -/
def kE396 : aE := (192, 51, ([kvB 0 7, kvB 0 7, kvB 0 7], [], 0, [kvR 102, kvI 0, kvI 1, kvI 2, kvN 164, kvN 2, none, none], []), ([], none), ([], [], none, ([], [])), kvW66)
def kC396_0 : aC := (([kvB 0 7, kvB 0 7, kvB 0 7, kvB 0 1, kvB 0 2], [], 16, [kvR 102, kvI 0, kvI 1, kvI 2, kvN 164, kvN 2, kvI 3, kvI 4], []), ([], []), (334, [(-1, 4)]))
def kC396_1 : aC := (([kvB 0 7, kvB 0 7, kvB 0 7, kvB 0 12], [], 141, [kvR 102, kvI 0, kvI 1, kvI 2, kvN 164, kvN 2, kvI 3, none], []), ([], []), (141, [(-11, 3)]))
def kC396_2 : aC := (([kvB 0 7, kvB 0 7, kvB 0 7, kvB 0 11, (.negSucc 0, .ofNat 7), kvB 1 12], [(102, 8, .inl (5, .ofNat 0))], 195, [kvR 102, kvI 0, kvI 1, kvI 2, kvN 164, kvN 2, kvI 3, kvI 4], []), ([], []), (139, [(-11, 3), (-1, 4)]))
def kC396_3 : aC := (([kvB 0 7, kvB 0 7, kvB 0 7, (.negSucc 0, .ofNat 2147483647)], [(102, 29, .inl (3, .ofNat 0))], 91, [kvR 102, kvI 0, kvI 1, kvI 2, kvN 164, kvN 2, kvN 1, kvN 2], []), ([], []), (166, []))
def kC396_4 : aC := (([kvB 0 7, kvB 0 7, kvB 0 7, kvB 0 2, (.negSucc 0, .ofNat 99)], [(102, 29, .inl (4, .ofNat 0)), (102, 30, .inr (.ofNat 2))], 110, [kvR 102, kvI 0, kvI 1, kvI 2, kvN 164, kvN 2, kvN 1, kvI 3], []), ([], []), (2, [(-1, 3)]))
theorem ks396 : aseg kS krf kB [kE43, kE89, kE332, kE380, kE388, kE394, kE395] (ksp [(192, 200, 7, 0, 7, 0)]) kE396 [kC396_0, kC396_1, kC396_2, kC396_3, kC396_4] 30000 (none) = true := by decide +kernel
theorem ks396_0 : aseg kS krf kB [kE43, kE89, kE332, kE380, kE388, kE394, kE395] (ksp [(192, 200, 7, 0, 7, 0)]) kE396 [kC396_0, kC396_1, kC396_2, kC396_3, kC396_4] 30000 (some kC396_0) = true := by decide +kernel
theorem ks396_1 : aseg kS krf kB [kE43, kE89, kE332, kE380, kE388, kE394, kE395] (ksp [(192, 200, 7, 0, 7, 0)]) kE396 [kC396_0, kC396_1, kC396_2, kC396_3, kC396_4] 30000 (some kC396_1) = true := by decide +kernel
theorem ks396_2 : aseg kS krf kB [kE43, kE89, kE332, kE380, kE388, kE394, kE395] (ksp [(192, 200, 7, 0, 7, 0)]) kE396 [kC396_0, kC396_1, kC396_2, kC396_3, kC396_4] 30000 (some kC396_2) = true := by decide +kernel
theorem ks396_3 : aseg kS krf kB [kE43, kE89, kE332, kE380, kE388, kE394, kE395] (ksp [(192, 200, 7, 0, 7, 0)]) kE396 [kC396_0, kC396_1, kC396_2, kC396_3, kC396_4] 30000 (some kC396_3) = true := by decide +kernel
theorem ks396_4 : aseg kS krf kB [kE43, kE89, kE332, kE380, kE388, kE394, kE395] (ksp [(192, 200, 7, 0, 7, 0)]) kE396 [kC396_0, kC396_1, kC396_2, kC396_3, kC396_4] 30000 (some kC396_4) = true := by decide +kernel
theorem kok396 : aOK kS krf kB kE396 := aOK_of (kal1 kok43 (kal1 kok89 (kal1 kok332 (kal1 kok380 (kal1 kok388 (kal1 kok394 (kal1 kok395 kal0))))))) (kcl1 ks396_0 (kcl1 ks396_1 (kcl1 ks396_2 (kcl1 ks396_3 (kcl1 ks396_4 kcl0))))) ks396
/-- ColdShodModel.triesWay(IIIII)V -/
def kE397 : aE := (192, 50, ([kvB 0 7, kvB 0 7, kvB 0 7], [], 0, [kvR 102, kvI 0, kvI 1, kvI 2, kvN 163, kvN 3, none, none], []), ([], none), ([], [], none, ([], [])), kvW65)
def kC397_0 : aC := (([kvB 0 7, kvB 0 7, kvB 0 7, kvB 0 1, kvB 0 3], [], 16, [kvR 102, kvI 0, kvI 1, kvI 2, kvN 163, kvN 3, kvI 3, kvI 4], []), ([], []), (335, [(-1, 4)]))
def kC397_1 : aC := (([kvB 0 7, kvB 0 7, kvB 0 7, kvB 0 12], [], 141, [kvR 102, kvI 0, kvI 1, kvI 2, kvN 163, kvN 3, kvI 3, none], []), ([], []), (141, [(-11, 3)]))
def kC397_2 : aC := (([kvB 0 7, kvB 0 7, kvB 0 7, kvB 0 11, (.negSucc 0, .ofNat 7), kvB 1 12], [(102, 8, .inl (5, .ofNat 0))], 195, [kvR 102, kvI 0, kvI 1, kvI 2, kvN 163, kvN 3, kvI 3, kvI 4], []), ([], []), (139, [(-11, 3), (-1, 4)]))
def kC397_3 : aC := (([kvB 0 7, kvB 0 7, kvB 0 7, (.negSucc 0, .ofNat 2147483647)], [(102, 29, .inl (3, .ofNat 0))], 91, [kvR 102, kvI 0, kvI 1, kvI 2, kvN 163, kvN 3, kvN 1, kvN 3], []), ([], []), (166, []))
def kC397_4 : aC := (([kvB 0 7, kvB 0 7, kvB 0 7, kvB 0 3, (.negSucc 0, .ofNat 99)], [(102, 29, .inl (4, .ofNat 0)), (102, 30, .inr (.ofNat 3))], 110, [kvR 102, kvI 0, kvI 1, kvI 2, kvN 163, kvN 3, kvN 1, kvI 3], []), ([], []), (3, [(-1, 3)]))
theorem ks397 : aseg kS krf kB [kE43, kE89, kE333, kE381, kE389, kE393] (ksp [(192, 200, 7, 0, 7, 0)]) kE397 [kC397_0, kC397_1, kC397_2, kC397_3, kC397_4] 30000 (none) = true := by decide +kernel
theorem ks397_0 : aseg kS krf kB [kE43, kE89, kE333, kE381, kE389, kE393] (ksp [(192, 200, 7, 0, 7, 0)]) kE397 [kC397_0, kC397_1, kC397_2, kC397_3, kC397_4] 30000 (some kC397_0) = true := by decide +kernel
theorem ks397_1 : aseg kS krf kB [kE43, kE89, kE333, kE381, kE389, kE393] (ksp [(192, 200, 7, 0, 7, 0)]) kE397 [kC397_0, kC397_1, kC397_2, kC397_3, kC397_4] 30000 (some kC397_1) = true := by decide +kernel
theorem ks397_2 : aseg kS krf kB [kE43, kE89, kE333, kE381, kE389, kE393] (ksp [(192, 200, 7, 0, 7, 0)]) kE397 [kC397_0, kC397_1, kC397_2, kC397_3, kC397_4] 30000 (some kC397_2) = true := by decide +kernel
theorem ks397_3 : aseg kS krf kB [kE43, kE89, kE333, kE381, kE389, kE393] (ksp [(192, 200, 7, 0, 7, 0)]) kE397 [kC397_0, kC397_1, kC397_2, kC397_3, kC397_4] 30000 (some kC397_3) = true := by decide +kernel
theorem ks397_4 : aseg kS krf kB [kE43, kE89, kE333, kE381, kE389, kE393] (ksp [(192, 200, 7, 0, 7, 0)]) kE397 [kC397_0, kC397_1, kC397_2, kC397_3, kC397_4] 30000 (some kC397_4) = true := by decide +kernel
theorem kok397 : aOK kS krf kB kE397 := aOK_of (kal1 kok43 (kal1 kok89 (kal1 kok333 (kal1 kok381 (kal1 kok389 (kal1 kok393 kal0)))))) (kcl1 ks397_0 (kcl1 ks397_1 (kcl1 ks397_2 (kcl1 ks397_3 (kcl1 ks397_4 kcl0))))) ks397
/-- ColdShodModel.triesWay(IIIII)V -/
def kE398 : aE := (192, 51, ([kvB 0 7, kvB 0 7, kvB 0 7], [], 0, [kvR 102, kvI 0, kvI 1, kvI 2, kvN 162, kvN 2, none, none], []), ([], none), ([], [], none, ([], [])), kvW66)
def kC398_0 : aC := (([kvB 0 7, kvB 0 7, kvB 0 7, kvB 0 1, kvB 0 2], [], 16, [kvR 102, kvI 0, kvI 1, kvI 2, kvN 162, kvN 2, kvI 3, kvI 4], []), ([], []), (334, [(-1, 4)]))
def kC398_1 : aC := (([kvB 0 7, kvB 0 7, kvB 0 7, kvB 0 12], [], 141, [kvR 102, kvI 0, kvI 1, kvI 2, kvN 162, kvN 2, kvI 3, none], []), ([], []), (141, [(-11, 3)]))
def kC398_2 : aC := (([kvB 0 7, kvB 0 7, kvB 0 7, kvB 0 11, (.negSucc 0, .ofNat 7), kvB 1 12], [(102, 8, .inl (5, .ofNat 0))], 195, [kvR 102, kvI 0, kvI 1, kvI 2, kvN 162, kvN 2, kvI 3, kvI 4], []), ([], []), (139, [(-11, 3), (-1, 4)]))
def kC398_3 : aC := (([kvB 0 7, kvB 0 7, kvB 0 7, (.negSucc 0, .ofNat 2147483647)], [(102, 29, .inl (3, .ofNat 0))], 91, [kvR 102, kvI 0, kvI 1, kvI 2, kvN 162, kvN 2, kvN 1, kvN 2], []), ([], []), (166, []))
def kC398_4 : aC := (([kvB 0 7, kvB 0 7, kvB 0 7, kvB 0 2, (.negSucc 0, .ofNat 99)], [(102, 29, .inl (4, .ofNat 0)), (102, 30, .inr (.ofNat 2))], 110, [kvR 102, kvI 0, kvI 1, kvI 2, kvN 162, kvN 2, kvN 1, kvI 3], []), ([], []), (2, [(-1, 3)]))
theorem ks398 : aseg kS krf kB [kE43, kE89, kE334, kE382, kE390, kE394, kE397] (ksp [(192, 200, 7, 0, 7, 0)]) kE398 [kC398_0, kC398_1, kC398_2, kC398_3, kC398_4] 30000 (none) = true := by decide +kernel
theorem ks398_0 : aseg kS krf kB [kE43, kE89, kE334, kE382, kE390, kE394, kE397] (ksp [(192, 200, 7, 0, 7, 0)]) kE398 [kC398_0, kC398_1, kC398_2, kC398_3, kC398_4] 30000 (some kC398_0) = true := by decide +kernel
theorem ks398_1 : aseg kS krf kB [kE43, kE89, kE334, kE382, kE390, kE394, kE397] (ksp [(192, 200, 7, 0, 7, 0)]) kE398 [kC398_0, kC398_1, kC398_2, kC398_3, kC398_4] 30000 (some kC398_1) = true := by decide +kernel
theorem ks398_2 : aseg kS krf kB [kE43, kE89, kE334, kE382, kE390, kE394, kE397] (ksp [(192, 200, 7, 0, 7, 0)]) kE398 [kC398_0, kC398_1, kC398_2, kC398_3, kC398_4] 30000 (some kC398_2) = true := by decide +kernel
theorem ks398_3 : aseg kS krf kB [kE43, kE89, kE334, kE382, kE390, kE394, kE397] (ksp [(192, 200, 7, 0, 7, 0)]) kE398 [kC398_0, kC398_1, kC398_2, kC398_3, kC398_4] 30000 (some kC398_3) = true := by decide +kernel
theorem ks398_4 : aseg kS krf kB [kE43, kE89, kE334, kE382, kE390, kE394, kE397] (ksp [(192, 200, 7, 0, 7, 0)]) kE398 [kC398_0, kC398_1, kC398_2, kC398_3, kC398_4] 30000 (some kC398_4) = true := by decide +kernel
theorem kok398 : aOK kS krf kB kE398 := aOK_of (kal1 kok43 (kal1 kok89 (kal1 kok334 (kal1 kok382 (kal1 kok390 (kal1 kok394 (kal1 kok397 kal0))))))) (kcl1 ks398_0 (kcl1 ks398_1 (kcl1 ks398_2 (kcl1 ks398_3 (kcl1 ks398_4 kcl0))))) ks398
/-- ColdShodModel.triesWay(IIIII)V -/
def kE399 : aE := (192, 51, ([kvB 0 7, kvB 0 7, kvB 0 7], [], 0, [kvR 102, kvI 0, kvI 1, kvI 2, kvN 161, kvN 2, none, none], []), ([], none), ([], [], none, ([], [])), kvW66)
def kC399_0 : aC := (([kvB 0 7, kvB 0 7, kvB 0 7, kvB 0 1, kvB 0 2], [], 16, [kvR 102, kvI 0, kvI 1, kvI 2, kvN 161, kvN 2, kvI 3, kvI 4], []), ([], []), (334, [(-1, 4)]))
def kC399_1 : aC := (([kvB 0 7, kvB 0 7, kvB 0 7, kvB 0 12], [], 141, [kvR 102, kvI 0, kvI 1, kvI 2, kvN 161, kvN 2, kvI 3, none], []), ([], []), (141, [(-11, 3)]))
def kC399_2 : aC := (([kvB 0 7, kvB 0 7, kvB 0 7, kvB 0 11, (.negSucc 0, .ofNat 7), kvB 1 12], [(102, 8, .inl (5, .ofNat 0))], 195, [kvR 102, kvI 0, kvI 1, kvI 2, kvN 161, kvN 2, kvI 3, kvI 4], []), ([], []), (139, [(-11, 3), (-1, 4)]))
def kC399_3 : aC := (([kvB 0 7, kvB 0 7, kvB 0 7, (.negSucc 0, .ofNat 2147483647)], [(102, 29, .inl (3, .ofNat 0))], 91, [kvR 102, kvI 0, kvI 1, kvI 2, kvN 161, kvN 2, kvN 1, kvN 2], []), ([], []), (166, []))
def kC399_4 : aC := (([kvB 0 7, kvB 0 7, kvB 0 7, kvB 0 2, (.negSucc 0, .ofNat 99)], [(102, 29, .inl (4, .ofNat 0)), (102, 30, .inr (.ofNat 2))], 110, [kvR 102, kvI 0, kvI 1, kvI 2, kvN 161, kvN 2, kvN 1, kvI 3], []), ([], []), (2, [(-1, 3)]))
theorem ks399 : aseg kS krf kB [kE43, kE89, kE335, kE383, kE391, kE395, kE397] (ksp [(192, 200, 7, 0, 7, 0)]) kE399 [kC399_0, kC399_1, kC399_2, kC399_3, kC399_4] 30000 (none) = true := by decide +kernel
theorem ks399_0 : aseg kS krf kB [kE43, kE89, kE335, kE383, kE391, kE395, kE397] (ksp [(192, 200, 7, 0, 7, 0)]) kE399 [kC399_0, kC399_1, kC399_2, kC399_3, kC399_4] 30000 (some kC399_0) = true := by decide +kernel
theorem ks399_1 : aseg kS krf kB [kE43, kE89, kE335, kE383, kE391, kE395, kE397] (ksp [(192, 200, 7, 0, 7, 0)]) kE399 [kC399_0, kC399_1, kC399_2, kC399_3, kC399_4] 30000 (some kC399_1) = true := by decide +kernel
theorem ks399_2 : aseg kS krf kB [kE43, kE89, kE335, kE383, kE391, kE395, kE397] (ksp [(192, 200, 7, 0, 7, 0)]) kE399 [kC399_0, kC399_1, kC399_2, kC399_3, kC399_4] 30000 (some kC399_2) = true := by decide +kernel
theorem ks399_3 : aseg kS krf kB [kE43, kE89, kE335, kE383, kE391, kE395, kE397] (ksp [(192, 200, 7, 0, 7, 0)]) kE399 [kC399_0, kC399_1, kC399_2, kC399_3, kC399_4] 30000 (some kC399_3) = true := by decide +kernel
theorem ks399_4 : aseg kS krf kB [kE43, kE89, kE335, kE383, kE391, kE395, kE397] (ksp [(192, 200, 7, 0, 7, 0)]) kE399 [kC399_0, kC399_1, kC399_2, kC399_3, kC399_4] 30000 (some kC399_4) = true := by decide +kernel
theorem kok399 : aOK kS krf kB kE399 := aOK_of (kal1 kok43 (kal1 kok89 (kal1 kok335 (kal1 kok383 (kal1 kok391 (kal1 kok395 (kal1 kok397 kal0))))))) (kcl1 ks399_0 (kcl1 ks399_1 (kcl1 ks399_2 (kcl1 ks399_3 (kcl1 ks399_4 kcl0))))) ks399
/-- ColdShodModel.triesWay(IIIII)V -/
def kE400 : aE := (192, 52, ([kvB 0 7, kvB 0 7, kvB 0 7], [], 0, [kvR 102, kvI 0, kvI 1, kvI 2, kvN 160, kvN 1, none, none], []), ([], none), ([], [], none, ([], [])), kvW67)
def kC400_0 : aC := (([kvB 0 7, kvB 0 7, kvB 0 7, kvB 0 1, kvB 0 1], [], 16, [kvR 102, kvI 0, kvI 1, kvI 2, kvN 160, kvN 1, kvI 3, kvI 4], []), ([], []), (333, [(-1, 4)]))
def kC400_1 : aC := (([kvB 0 7, kvB 0 7, kvB 0 7, kvB 0 12], [], 141, [kvR 102, kvI 0, kvI 1, kvI 2, kvN 160, kvN 1, kvI 3, none], []), ([], []), (141, [(-11, 3)]))
def kC400_2 : aC := (([kvB 0 7, kvB 0 7, kvB 0 7, kvB 0 11, (.negSucc 0, .ofNat 7), kvB 1 12], [(102, 8, .inl (5, .ofNat 0))], 195, [kvR 102, kvI 0, kvI 1, kvI 2, kvN 160, kvN 1, kvI 3, kvI 4], []), ([], []), (139, [(-11, 3), (-1, 4)]))
def kC400_3 : aC := (([kvB 0 7, kvB 0 7, kvB 0 7, (.negSucc 0, .ofNat 2147483647)], [(102, 29, .inl (3, .ofNat 0))], 91, [kvR 102, kvI 0, kvI 1, kvI 2, kvN 160, kvN 1, kvN 1, kvN 1], []), ([], []), (166, []))
def kC400_4 : aC := (([kvB 0 7, kvB 0 7, kvB 0 7, kvB 0 1, (.negSucc 0, .ofNat 99)], [(102, 29, .inl (4, .ofNat 0)), (102, 30, .inr (.ofNat 1))], 110, [kvR 102, kvI 0, kvI 1, kvI 2, kvN 160, kvN 1, kvN 1, kvI 3], []), ([], []), (1, [(-1, 3)]))
theorem ks400 : aseg kS krf kB [kE43, kE89, kE336, kE384, kE392, kE396, kE398, kE399] (ksp [(192, 200, 7, 0, 7, 0)]) kE400 [kC400_0, kC400_1, kC400_2, kC400_3, kC400_4] 30000 (none) = true := by decide +kernel
theorem ks400_0 : aseg kS krf kB [kE43, kE89, kE336, kE384, kE392, kE396, kE398, kE399] (ksp [(192, 200, 7, 0, 7, 0)]) kE400 [kC400_0, kC400_1, kC400_2, kC400_3, kC400_4] 30000 (some kC400_0) = true := by decide +kernel
theorem ks400_1 : aseg kS krf kB [kE43, kE89, kE336, kE384, kE392, kE396, kE398, kE399] (ksp [(192, 200, 7, 0, 7, 0)]) kE400 [kC400_0, kC400_1, kC400_2, kC400_3, kC400_4] 30000 (some kC400_1) = true := by decide +kernel
theorem ks400_2 : aseg kS krf kB [kE43, kE89, kE336, kE384, kE392, kE396, kE398, kE399] (ksp [(192, 200, 7, 0, 7, 0)]) kE400 [kC400_0, kC400_1, kC400_2, kC400_3, kC400_4] 30000 (some kC400_2) = true := by decide +kernel
theorem ks400_3 : aseg kS krf kB [kE43, kE89, kE336, kE384, kE392, kE396, kE398, kE399] (ksp [(192, 200, 7, 0, 7, 0)]) kE400 [kC400_0, kC400_1, kC400_2, kC400_3, kC400_4] 30000 (some kC400_3) = true := by decide +kernel
theorem ks400_4 : aseg kS krf kB [kE43, kE89, kE336, kE384, kE392, kE396, kE398, kE399] (ksp [(192, 200, 7, 0, 7, 0)]) kE400 [kC400_0, kC400_1, kC400_2, kC400_3, kC400_4] 30000 (some kC400_4) = true := by decide +kernel
theorem kok400 : aOK kS krf kB kE400 := aOK_of (kal1 kok43 (kal1 kok89 (kal1 kok336 (kal1 kok384 (kal1 kok392 (kal1 kok396 (kal1 kok398 (kal1 kok399 kal0)))))))) (kcl1 ks400_0 (kcl1 ks400_1 (kcl1 ks400_2 (kcl1 ks400_3 (kcl1 ks400_4 kcl0))))) ks400
/-- ColdShodModel.triesWay(IIIII)V -/
def kE401 : aE := (192, 48, ([kvB 0 7, kvB 0 7, kvB 0 7], [], 0, [kvR 102, kvI 0, kvI 1, kvI 2, kvN 159, kvN 5, none, none], []), ([], none), ([], [], none, ([], [])), kvW63)
def kC401_0 : aC := (([kvB 0 7, kvB 0 7, kvB 0 7, kvB 0 1, kvB 0 5], [], 16, [kvR 102, kvI 0, kvI 1, kvI 2, kvN 159, kvN 5, kvI 3, kvI 4], []), ([], []), (337, [(-1, 4)]))
def kC401_1 : aC := (([kvB 0 7, kvB 0 7, kvB 0 7, kvB 0 12], [], 141, [kvR 102, kvI 0, kvI 1, kvI 2, kvN 159, kvN 5, kvI 3, none], []), ([], []), (141, [(-11, 3)]))
def kC401_2 : aC := (([kvB 0 7, kvB 0 7, kvB 0 7, kvB 0 11, (.negSucc 0, .ofNat 7), kvB 1 12], [(102, 8, .inl (5, .ofNat 0))], 195, [kvR 102, kvI 0, kvI 1, kvI 2, kvN 159, kvN 5, kvI 3, kvI 4], []), ([], []), (139, [(-11, 3), (-1, 4)]))
def kC401_3 : aC := (([kvB 0 7, kvB 0 7, kvB 0 7, (.negSucc 0, .ofNat 2147483647)], [(102, 29, .inl (3, .ofNat 0))], 91, [kvR 102, kvI 0, kvI 1, kvI 2, kvN 159, kvN 5, kvN 1, kvN 5], []), ([], []), (166, []))
def kC401_4 : aC := (([kvB 0 7, kvB 0 7, kvB 0 7, kvB 0 5, (.negSucc 0, .ofNat 99)], [(102, 29, .inl (4, .ofNat 0)), (102, 30, .inr (.ofNat 5))], 110, [kvR 102, kvI 0, kvI 1, kvI 2, kvN 159, kvN 5, kvN 1, kvI 3], []), ([], []), (5, [(-1, 3)]))
theorem ks401 : aseg kS krf kB [kE43, kE89, kE337, kE369] (ksp [(192, 200, 7, 0, 7, 0)]) kE401 [kC401_0, kC401_1, kC401_2, kC401_3, kC401_4] 30000 (none) = true := by decide +kernel
theorem ks401_0 : aseg kS krf kB [kE43, kE89, kE337, kE369] (ksp [(192, 200, 7, 0, 7, 0)]) kE401 [kC401_0, kC401_1, kC401_2, kC401_3, kC401_4] 30000 (some kC401_0) = true := by decide +kernel
theorem ks401_1 : aseg kS krf kB [kE43, kE89, kE337, kE369] (ksp [(192, 200, 7, 0, 7, 0)]) kE401 [kC401_0, kC401_1, kC401_2, kC401_3, kC401_4] 30000 (some kC401_1) = true := by decide +kernel
theorem ks401_2 : aseg kS krf kB [kE43, kE89, kE337, kE369] (ksp [(192, 200, 7, 0, 7, 0)]) kE401 [kC401_0, kC401_1, kC401_2, kC401_3, kC401_4] 30000 (some kC401_2) = true := by decide +kernel
theorem ks401_3 : aseg kS krf kB [kE43, kE89, kE337, kE369] (ksp [(192, 200, 7, 0, 7, 0)]) kE401 [kC401_0, kC401_1, kC401_2, kC401_3, kC401_4] 30000 (some kC401_3) = true := by decide +kernel
theorem ks401_4 : aseg kS krf kB [kE43, kE89, kE337, kE369] (ksp [(192, 200, 7, 0, 7, 0)]) kE401 [kC401_0, kC401_1, kC401_2, kC401_3, kC401_4] 30000 (some kC401_4) = true := by decide +kernel
theorem kok401 : aOK kS krf kB kE401 := aOK_of (kal1 kok43 (kal1 kok89 (kal1 kok337 (kal1 kok369 kal0)))) (kcl1 ks401_0 (kcl1 ks401_1 (kcl1 ks401_2 (kcl1 ks401_3 (kcl1 ks401_4 kcl0))))) ks401
/-- ColdShodModel.triesWay(IIIII)V -/
def kE402 : aE := (192, 49, ([kvB 0 7, kvB 0 7, kvB 0 7], [], 0, [kvR 102, kvI 0, kvI 1, kvI 2, kvN 158, kvN 4, none, none], []), ([], none), ([], [], none, ([], [])), kvW64)
def kC402_0 : aC := (([kvB 0 7, kvB 0 7, kvB 0 7, kvB 0 1, kvB 0 4], [], 16, [kvR 102, kvI 0, kvI 1, kvI 2, kvN 158, kvN 4, kvI 3, kvI 4], []), ([], []), (336, [(-1, 4)]))
def kC402_1 : aC := (([kvB 0 7, kvB 0 7, kvB 0 7, kvB 0 12], [], 141, [kvR 102, kvI 0, kvI 1, kvI 2, kvN 158, kvN 4, kvI 3, none], []), ([], []), (141, [(-11, 3)]))
def kC402_2 : aC := (([kvB 0 7, kvB 0 7, kvB 0 7, kvB 0 11, (.negSucc 0, .ofNat 7), kvB 1 12], [(102, 8, .inl (5, .ofNat 0))], 195, [kvR 102, kvI 0, kvI 1, kvI 2, kvN 158, kvN 4, kvI 3, kvI 4], []), ([], []), (139, [(-11, 3), (-1, 4)]))
def kC402_3 : aC := (([kvB 0 7, kvB 0 7, kvB 0 7, (.negSucc 0, .ofNat 2147483647)], [(102, 29, .inl (3, .ofNat 0))], 91, [kvR 102, kvI 0, kvI 1, kvI 2, kvN 158, kvN 4, kvN 1, kvN 4], []), ([], []), (166, []))
def kC402_4 : aC := (([kvB 0 7, kvB 0 7, kvB 0 7, kvB 0 4, (.negSucc 0, .ofNat 99)], [(102, 29, .inl (4, .ofNat 0)), (102, 30, .inr (.ofNat 4))], 110, [kvR 102, kvI 0, kvI 1, kvI 2, kvN 158, kvN 4, kvN 1, kvI 3], []), ([], []), (4, [(-1, 3)]))
theorem ks402 : aseg kS krf kB [kE43, kE89, kE338, kE370, kE401] (ksp [(192, 200, 7, 0, 7, 0)]) kE402 [kC402_0, kC402_1, kC402_2, kC402_3, kC402_4] 30000 (none) = true := by decide +kernel
theorem ks402_0 : aseg kS krf kB [kE43, kE89, kE338, kE370, kE401] (ksp [(192, 200, 7, 0, 7, 0)]) kE402 [kC402_0, kC402_1, kC402_2, kC402_3, kC402_4] 30000 (some kC402_0) = true := by decide +kernel
theorem ks402_1 : aseg kS krf kB [kE43, kE89, kE338, kE370, kE401] (ksp [(192, 200, 7, 0, 7, 0)]) kE402 [kC402_0, kC402_1, kC402_2, kC402_3, kC402_4] 30000 (some kC402_1) = true := by decide +kernel
theorem ks402_2 : aseg kS krf kB [kE43, kE89, kE338, kE370, kE401] (ksp [(192, 200, 7, 0, 7, 0)]) kE402 [kC402_0, kC402_1, kC402_2, kC402_3, kC402_4] 30000 (some kC402_2) = true := by decide +kernel
theorem ks402_3 : aseg kS krf kB [kE43, kE89, kE338, kE370, kE401] (ksp [(192, 200, 7, 0, 7, 0)]) kE402 [kC402_0, kC402_1, kC402_2, kC402_3, kC402_4] 30000 (some kC402_3) = true := by decide +kernel
theorem ks402_4 : aseg kS krf kB [kE43, kE89, kE338, kE370, kE401] (ksp [(192, 200, 7, 0, 7, 0)]) kE402 [kC402_0, kC402_1, kC402_2, kC402_3, kC402_4] 30000 (some kC402_4) = true := by decide +kernel
theorem kok402 : aOK kS krf kB kE402 := aOK_of (kal1 kok43 (kal1 kok89 (kal1 kok338 (kal1 kok370 (kal1 kok401 kal0))))) (kcl1 ks402_0 (kcl1 ks402_1 (kcl1 ks402_2 (kcl1 ks402_3 (kcl1 ks402_4 kcl0))))) ks402
/-- ColdShodModel.triesWay(IIIII)V -/
def kE403 : aE := (192, 49, ([kvB 0 7, kvB 0 7, kvB 0 7], [], 0, [kvR 102, kvI 0, kvI 1, kvI 2, kvN 157, kvN 4, none, none], []), ([], none), ([], [], none, ([], [])), kvW64)
def kC403_0 : aC := (([kvB 0 7, kvB 0 7, kvB 0 7, kvB 0 1, kvB 0 4], [], 16, [kvR 102, kvI 0, kvI 1, kvI 2, kvN 157, kvN 4, kvI 3, kvI 4], []), ([], []), (336, [(-1, 4)]))
def kC403_1 : aC := (([kvB 0 7, kvB 0 7, kvB 0 7, kvB 0 12], [], 141, [kvR 102, kvI 0, kvI 1, kvI 2, kvN 157, kvN 4, kvI 3, none], []), ([], []), (141, [(-11, 3)]))
def kC403_2 : aC := (([kvB 0 7, kvB 0 7, kvB 0 7, kvB 0 11, (.negSucc 0, .ofNat 7), kvB 1 12], [(102, 8, .inl (5, .ofNat 0))], 195, [kvR 102, kvI 0, kvI 1, kvI 2, kvN 157, kvN 4, kvI 3, kvI 4], []), ([], []), (139, [(-11, 3), (-1, 4)]))
def kC403_3 : aC := (([kvB 0 7, kvB 0 7, kvB 0 7, (.negSucc 0, .ofNat 2147483647)], [(102, 29, .inl (3, .ofNat 0))], 91, [kvR 102, kvI 0, kvI 1, kvI 2, kvN 157, kvN 4, kvN 1, kvN 4], []), ([], []), (166, []))
def kC403_4 : aC := (([kvB 0 7, kvB 0 7, kvB 0 7, kvB 0 4, (.negSucc 0, .ofNat 99)], [(102, 29, .inl (4, .ofNat 0)), (102, 30, .inr (.ofNat 4))], 110, [kvR 102, kvI 0, kvI 1, kvI 2, kvN 157, kvN 4, kvN 1, kvI 3], []), ([], []), (4, [(-1, 3)]))
theorem ks403 : aseg kS krf kB [kE43, kE89, kE339, kE371, kE401] (ksp [(192, 200, 7, 0, 7, 0)]) kE403 [kC403_0, kC403_1, kC403_2, kC403_3, kC403_4] 30000 (none) = true := by decide +kernel
theorem ks403_0 : aseg kS krf kB [kE43, kE89, kE339, kE371, kE401] (ksp [(192, 200, 7, 0, 7, 0)]) kE403 [kC403_0, kC403_1, kC403_2, kC403_3, kC403_4] 30000 (some kC403_0) = true := by decide +kernel
theorem ks403_1 : aseg kS krf kB [kE43, kE89, kE339, kE371, kE401] (ksp [(192, 200, 7, 0, 7, 0)]) kE403 [kC403_0, kC403_1, kC403_2, kC403_3, kC403_4] 30000 (some kC403_1) = true := by decide +kernel
theorem ks403_2 : aseg kS krf kB [kE43, kE89, kE339, kE371, kE401] (ksp [(192, 200, 7, 0, 7, 0)]) kE403 [kC403_0, kC403_1, kC403_2, kC403_3, kC403_4] 30000 (some kC403_2) = true := by decide +kernel
theorem ks403_3 : aseg kS krf kB [kE43, kE89, kE339, kE371, kE401] (ksp [(192, 200, 7, 0, 7, 0)]) kE403 [kC403_0, kC403_1, kC403_2, kC403_3, kC403_4] 30000 (some kC403_3) = true := by decide +kernel
theorem ks403_4 : aseg kS krf kB [kE43, kE89, kE339, kE371, kE401] (ksp [(192, 200, 7, 0, 7, 0)]) kE403 [kC403_0, kC403_1, kC403_2, kC403_3, kC403_4] 30000 (some kC403_4) = true := by decide +kernel
theorem kok403 : aOK kS krf kB kE403 := aOK_of (kal1 kok43 (kal1 kok89 (kal1 kok339 (kal1 kok371 (kal1 kok401 kal0))))) (kcl1 ks403_0 (kcl1 ks403_1 (kcl1 ks403_2 (kcl1 ks403_3 (kcl1 ks403_4 kcl0))))) ks403
/-- ColdShodModel.triesWay(IIIII)V -/
def kE404 : aE := (192, 50, ([kvB 0 7, kvB 0 7, kvB 0 7], [], 0, [kvR 102, kvI 0, kvI 1, kvI 2, kvN 156, kvN 3, none, none], []), ([], none), ([], [], none, ([], [])), kvW65)
def kC404_0 : aC := (([kvB 0 7, kvB 0 7, kvB 0 7, kvB 0 1, kvB 0 3], [], 16, [kvR 102, kvI 0, kvI 1, kvI 2, kvN 156, kvN 3, kvI 3, kvI 4], []), ([], []), (335, [(-1, 4)]))
def kC404_1 : aC := (([kvB 0 7, kvB 0 7, kvB 0 7, kvB 0 12], [], 141, [kvR 102, kvI 0, kvI 1, kvI 2, kvN 156, kvN 3, kvI 3, none], []), ([], []), (141, [(-11, 3)]))
def kC404_2 : aC := (([kvB 0 7, kvB 0 7, kvB 0 7, kvB 0 11, (.negSucc 0, .ofNat 7), kvB 1 12], [(102, 8, .inl (5, .ofNat 0))], 195, [kvR 102, kvI 0, kvI 1, kvI 2, kvN 156, kvN 3, kvI 3, kvI 4], []), ([], []), (139, [(-11, 3), (-1, 4)]))
def kC404_3 : aC := (([kvB 0 7, kvB 0 7, kvB 0 7, (.negSucc 0, .ofNat 2147483647)], [(102, 29, .inl (3, .ofNat 0))], 91, [kvR 102, kvI 0, kvI 1, kvI 2, kvN 156, kvN 3, kvN 1, kvN 3], []), ([], []), (166, []))
def kC404_4 : aC := (([kvB 0 7, kvB 0 7, kvB 0 7, kvB 0 3, (.negSucc 0, .ofNat 99)], [(102, 29, .inl (4, .ofNat 0)), (102, 30, .inr (.ofNat 3))], 110, [kvR 102, kvI 0, kvI 1, kvI 2, kvN 156, kvN 3, kvN 1, kvI 3], []), ([], []), (3, [(-1, 3)]))
theorem ks404 : aseg kS krf kB [kE43, kE89, kE340, kE372, kE402, kE403] (ksp [(192, 200, 7, 0, 7, 0)]) kE404 [kC404_0, kC404_1, kC404_2, kC404_3, kC404_4] 30000 (none) = true := by decide +kernel
theorem ks404_0 : aseg kS krf kB [kE43, kE89, kE340, kE372, kE402, kE403] (ksp [(192, 200, 7, 0, 7, 0)]) kE404 [kC404_0, kC404_1, kC404_2, kC404_3, kC404_4] 30000 (some kC404_0) = true := by decide +kernel
theorem ks404_1 : aseg kS krf kB [kE43, kE89, kE340, kE372, kE402, kE403] (ksp [(192, 200, 7, 0, 7, 0)]) kE404 [kC404_0, kC404_1, kC404_2, kC404_3, kC404_4] 30000 (some kC404_1) = true := by decide +kernel
theorem ks404_2 : aseg kS krf kB [kE43, kE89, kE340, kE372, kE402, kE403] (ksp [(192, 200, 7, 0, 7, 0)]) kE404 [kC404_0, kC404_1, kC404_2, kC404_3, kC404_4] 30000 (some kC404_2) = true := by decide +kernel
theorem ks404_3 : aseg kS krf kB [kE43, kE89, kE340, kE372, kE402, kE403] (ksp [(192, 200, 7, 0, 7, 0)]) kE404 [kC404_0, kC404_1, kC404_2, kC404_3, kC404_4] 30000 (some kC404_3) = true := by decide +kernel
theorem ks404_4 : aseg kS krf kB [kE43, kE89, kE340, kE372, kE402, kE403] (ksp [(192, 200, 7, 0, 7, 0)]) kE404 [kC404_0, kC404_1, kC404_2, kC404_3, kC404_4] 30000 (some kC404_4) = true := by decide +kernel
theorem kok404 : aOK kS krf kB kE404 := aOK_of (kal1 kok43 (kal1 kok89 (kal1 kok340 (kal1 kok372 (kal1 kok402 (kal1 kok403 kal0)))))) (kcl1 ks404_0 (kcl1 ks404_1 (kcl1 ks404_2 (kcl1 ks404_3 (kcl1 ks404_4 kcl0))))) ks404
/-- ColdShodModel.triesWay(IIIII)V -/
def kE405 : aE := (192, 49, ([kvB 0 7, kvB 0 7, kvB 0 7], [], 0, [kvR 102, kvI 0, kvI 1, kvI 2, kvN 155, kvN 4, none, none], []), ([], none), ([], [], none, ([], [])), kvW64)
def kC405_0 : aC := (([kvB 0 7, kvB 0 7, kvB 0 7, kvB 0 1, kvB 0 4], [], 16, [kvR 102, kvI 0, kvI 1, kvI 2, kvN 155, kvN 4, kvI 3, kvI 4], []), ([], []), (336, [(-1, 4)]))
def kC405_1 : aC := (([kvB 0 7, kvB 0 7, kvB 0 7, kvB 0 12], [], 141, [kvR 102, kvI 0, kvI 1, kvI 2, kvN 155, kvN 4, kvI 3, none], []), ([], []), (141, [(-11, 3)]))
def kC405_2 : aC := (([kvB 0 7, kvB 0 7, kvB 0 7, kvB 0 11, (.negSucc 0, .ofNat 7), kvB 1 12], [(102, 8, .inl (5, .ofNat 0))], 195, [kvR 102, kvI 0, kvI 1, kvI 2, kvN 155, kvN 4, kvI 3, kvI 4], []), ([], []), (139, [(-11, 3), (-1, 4)]))
def kC405_3 : aC := (([kvB 0 7, kvB 0 7, kvB 0 7, (.negSucc 0, .ofNat 2147483647)], [(102, 29, .inl (3, .ofNat 0))], 91, [kvR 102, kvI 0, kvI 1, kvI 2, kvN 155, kvN 4, kvN 1, kvN 4], []), ([], []), (166, []))
def kC405_4 : aC := (([kvB 0 7, kvB 0 7, kvB 0 7, kvB 0 4, (.negSucc 0, .ofNat 99)], [(102, 29, .inl (4, .ofNat 0)), (102, 30, .inr (.ofNat 4))], 110, [kvR 102, kvI 0, kvI 1, kvI 2, kvN 155, kvN 4, kvN 1, kvI 3], []), ([], []), (4, [(-1, 3)]))
theorem ks405 : aseg kS krf kB [kE43, kE89, kE341, kE373, kE401] (ksp [(192, 200, 7, 0, 7, 0)]) kE405 [kC405_0, kC405_1, kC405_2, kC405_3, kC405_4] 30000 (none) = true := by decide +kernel
theorem ks405_0 : aseg kS krf kB [kE43, kE89, kE341, kE373, kE401] (ksp [(192, 200, 7, 0, 7, 0)]) kE405 [kC405_0, kC405_1, kC405_2, kC405_3, kC405_4] 30000 (some kC405_0) = true := by decide +kernel
theorem ks405_1 : aseg kS krf kB [kE43, kE89, kE341, kE373, kE401] (ksp [(192, 200, 7, 0, 7, 0)]) kE405 [kC405_0, kC405_1, kC405_2, kC405_3, kC405_4] 30000 (some kC405_1) = true := by decide +kernel
theorem ks405_2 : aseg kS krf kB [kE43, kE89, kE341, kE373, kE401] (ksp [(192, 200, 7, 0, 7, 0)]) kE405 [kC405_0, kC405_1, kC405_2, kC405_3, kC405_4] 30000 (some kC405_2) = true := by decide +kernel
theorem ks405_3 : aseg kS krf kB [kE43, kE89, kE341, kE373, kE401] (ksp [(192, 200, 7, 0, 7, 0)]) kE405 [kC405_0, kC405_1, kC405_2, kC405_3, kC405_4] 30000 (some kC405_3) = true := by decide +kernel
theorem ks405_4 : aseg kS krf kB [kE43, kE89, kE341, kE373, kE401] (ksp [(192, 200, 7, 0, 7, 0)]) kE405 [kC405_0, kC405_1, kC405_2, kC405_3, kC405_4] 30000 (some kC405_4) = true := by decide +kernel
theorem kok405 : aOK kS krf kB kE405 := aOK_of (kal1 kok43 (kal1 kok89 (kal1 kok341 (kal1 kok373 (kal1 kok401 kal0))))) (kcl1 ks405_0 (kcl1 ks405_1 (kcl1 ks405_2 (kcl1 ks405_3 (kcl1 ks405_4 kcl0))))) ks405
/-- ColdShodModel.triesWay(IIIII)V -/
def kE406 : aE := (192, 50, ([kvB 0 7, kvB 0 7, kvB 0 7], [], 0, [kvR 102, kvI 0, kvI 1, kvI 2, kvN 154, kvN 3, none, none], []), ([], none), ([], [], none, ([], [])), kvW65)
def kC406_0 : aC := (([kvB 0 7, kvB 0 7, kvB 0 7, kvB 0 1, kvB 0 3], [], 16, [kvR 102, kvI 0, kvI 1, kvI 2, kvN 154, kvN 3, kvI 3, kvI 4], []), ([], []), (335, [(-1, 4)]))
def kC406_1 : aC := (([kvB 0 7, kvB 0 7, kvB 0 7, kvB 0 12], [], 141, [kvR 102, kvI 0, kvI 1, kvI 2, kvN 154, kvN 3, kvI 3, none], []), ([], []), (141, [(-11, 3)]))
def kC406_2 : aC := (([kvB 0 7, kvB 0 7, kvB 0 7, kvB 0 11, (.negSucc 0, .ofNat 7), kvB 1 12], [(102, 8, .inl (5, .ofNat 0))], 195, [kvR 102, kvI 0, kvI 1, kvI 2, kvN 154, kvN 3, kvI 3, kvI 4], []), ([], []), (139, [(-11, 3), (-1, 4)]))
def kC406_3 : aC := (([kvB 0 7, kvB 0 7, kvB 0 7, (.negSucc 0, .ofNat 2147483647)], [(102, 29, .inl (3, .ofNat 0))], 91, [kvR 102, kvI 0, kvI 1, kvI 2, kvN 154, kvN 3, kvN 1, kvN 3], []), ([], []), (166, []))
def kC406_4 : aC := (([kvB 0 7, kvB 0 7, kvB 0 7, kvB 0 3, (.negSucc 0, .ofNat 99)], [(102, 29, .inl (4, .ofNat 0)), (102, 30, .inr (.ofNat 3))], 110, [kvR 102, kvI 0, kvI 1, kvI 2, kvN 154, kvN 3, kvN 1, kvI 3], []), ([], []), (3, [(-1, 3)]))
theorem ks406 : aseg kS krf kB [kE43, kE89, kE342, kE374, kE402, kE405] (ksp [(192, 200, 7, 0, 7, 0)]) kE406 [kC406_0, kC406_1, kC406_2, kC406_3, kC406_4] 30000 (none) = true := by decide +kernel
theorem ks406_0 : aseg kS krf kB [kE43, kE89, kE342, kE374, kE402, kE405] (ksp [(192, 200, 7, 0, 7, 0)]) kE406 [kC406_0, kC406_1, kC406_2, kC406_3, kC406_4] 30000 (some kC406_0) = true := by decide +kernel
theorem ks406_1 : aseg kS krf kB [kE43, kE89, kE342, kE374, kE402, kE405] (ksp [(192, 200, 7, 0, 7, 0)]) kE406 [kC406_0, kC406_1, kC406_2, kC406_3, kC406_4] 30000 (some kC406_1) = true := by decide +kernel
theorem ks406_2 : aseg kS krf kB [kE43, kE89, kE342, kE374, kE402, kE405] (ksp [(192, 200, 7, 0, 7, 0)]) kE406 [kC406_0, kC406_1, kC406_2, kC406_3, kC406_4] 30000 (some kC406_2) = true := by decide +kernel
theorem ks406_3 : aseg kS krf kB [kE43, kE89, kE342, kE374, kE402, kE405] (ksp [(192, 200, 7, 0, 7, 0)]) kE406 [kC406_0, kC406_1, kC406_2, kC406_3, kC406_4] 30000 (some kC406_3) = true := by decide +kernel
theorem ks406_4 : aseg kS krf kB [kE43, kE89, kE342, kE374, kE402, kE405] (ksp [(192, 200, 7, 0, 7, 0)]) kE406 [kC406_0, kC406_1, kC406_2, kC406_3, kC406_4] 30000 (some kC406_4) = true := by decide +kernel
theorem kok406 : aOK kS krf kB kE406 := aOK_of (kal1 kok43 (kal1 kok89 (kal1 kok342 (kal1 kok374 (kal1 kok402 (kal1 kok405 kal0)))))) (kcl1 ks406_0 (kcl1 ks406_1 (kcl1 ks406_2 (kcl1 ks406_3 (kcl1 ks406_4 kcl0))))) ks406
/-- ColdShodModel.triesWay(IIIII)V -/
def kE407 : aE := (192, 50, ([kvB 0 7, kvB 0 7, kvB 0 7], [], 0, [kvR 102, kvI 0, kvI 1, kvI 2, kvN 153, kvN 3, none, none], []), ([], none), ([], [], none, ([], [])), kvW65)
def kC407_0 : aC := (([kvB 0 7, kvB 0 7, kvB 0 7, kvB 0 1, kvB 0 3], [], 16, [kvR 102, kvI 0, kvI 1, kvI 2, kvN 153, kvN 3, kvI 3, kvI 4], []), ([], []), (335, [(-1, 4)]))
def kC407_1 : aC := (([kvB 0 7, kvB 0 7, kvB 0 7, kvB 0 12], [], 141, [kvR 102, kvI 0, kvI 1, kvI 2, kvN 153, kvN 3, kvI 3, none], []), ([], []), (141, [(-11, 3)]))
def kC407_2 : aC := (([kvB 0 7, kvB 0 7, kvB 0 7, kvB 0 11, (.negSucc 0, .ofNat 7), kvB 1 12], [(102, 8, .inl (5, .ofNat 0))], 195, [kvR 102, kvI 0, kvI 1, kvI 2, kvN 153, kvN 3, kvI 3, kvI 4], []), ([], []), (139, [(-11, 3), (-1, 4)]))
def kC407_3 : aC := (([kvB 0 7, kvB 0 7, kvB 0 7, (.negSucc 0, .ofNat 2147483647)], [(102, 29, .inl (3, .ofNat 0))], 91, [kvR 102, kvI 0, kvI 1, kvI 2, kvN 153, kvN 3, kvN 1, kvN 3], []), ([], []), (166, []))
def kC407_4 : aC := (([kvB 0 7, kvB 0 7, kvB 0 7, kvB 0 3, (.negSucc 0, .ofNat 99)], [(102, 29, .inl (4, .ofNat 0)), (102, 30, .inr (.ofNat 3))], 110, [kvR 102, kvI 0, kvI 1, kvI 2, kvN 153, kvN 3, kvN 1, kvI 3], []), ([], []), (3, [(-1, 3)]))
theorem ks407 : aseg kS krf kB [kE43, kE89, kE343, kE375, kE403, kE405] (ksp [(192, 200, 7, 0, 7, 0)]) kE407 [kC407_0, kC407_1, kC407_2, kC407_3, kC407_4] 30000 (none) = true := by decide +kernel
theorem ks407_0 : aseg kS krf kB [kE43, kE89, kE343, kE375, kE403, kE405] (ksp [(192, 200, 7, 0, 7, 0)]) kE407 [kC407_0, kC407_1, kC407_2, kC407_3, kC407_4] 30000 (some kC407_0) = true := by decide +kernel
theorem ks407_1 : aseg kS krf kB [kE43, kE89, kE343, kE375, kE403, kE405] (ksp [(192, 200, 7, 0, 7, 0)]) kE407 [kC407_0, kC407_1, kC407_2, kC407_3, kC407_4] 30000 (some kC407_1) = true := by decide +kernel
theorem ks407_2 : aseg kS krf kB [kE43, kE89, kE343, kE375, kE403, kE405] (ksp [(192, 200, 7, 0, 7, 0)]) kE407 [kC407_0, kC407_1, kC407_2, kC407_3, kC407_4] 30000 (some kC407_2) = true := by decide +kernel
theorem ks407_3 : aseg kS krf kB [kE43, kE89, kE343, kE375, kE403, kE405] (ksp [(192, 200, 7, 0, 7, 0)]) kE407 [kC407_0, kC407_1, kC407_2, kC407_3, kC407_4] 30000 (some kC407_3) = true := by decide +kernel
theorem ks407_4 : aseg kS krf kB [kE43, kE89, kE343, kE375, kE403, kE405] (ksp [(192, 200, 7, 0, 7, 0)]) kE407 [kC407_0, kC407_1, kC407_2, kC407_3, kC407_4] 30000 (some kC407_4) = true := by decide +kernel
theorem kok407 : aOK kS krf kB kE407 := aOK_of (kal1 kok43 (kal1 kok89 (kal1 kok343 (kal1 kok375 (kal1 kok403 (kal1 kok405 kal0)))))) (kcl1 ks407_0 (kcl1 ks407_1 (kcl1 ks407_2 (kcl1 ks407_3 (kcl1 ks407_4 kcl0))))) ks407
/-- ColdShodModel.triesWay(IIIII)V -/
def kE408 : aE := (192, 51, ([kvB 0 7, kvB 0 7, kvB 0 7], [], 0, [kvR 102, kvI 0, kvI 1, kvI 2, kvN 152, kvN 2, none, none], []), ([], none), ([], [], none, ([], [])), kvW66)
def kC408_0 : aC := (([kvB 0 7, kvB 0 7, kvB 0 7, kvB 0 1, kvB 0 2], [], 16, [kvR 102, kvI 0, kvI 1, kvI 2, kvN 152, kvN 2, kvI 3, kvI 4], []), ([], []), (334, [(-1, 4)]))
def kC408_1 : aC := (([kvB 0 7, kvB 0 7, kvB 0 7, kvB 0 12], [], 141, [kvR 102, kvI 0, kvI 1, kvI 2, kvN 152, kvN 2, kvI 3, none], []), ([], []), (141, [(-11, 3)]))
def kC408_2 : aC := (([kvB 0 7, kvB 0 7, kvB 0 7, kvB 0 11, (.negSucc 0, .ofNat 7), kvB 1 12], [(102, 8, .inl (5, .ofNat 0))], 195, [kvR 102, kvI 0, kvI 1, kvI 2, kvN 152, kvN 2, kvI 3, kvI 4], []), ([], []), (139, [(-11, 3), (-1, 4)]))
def kC408_3 : aC := (([kvB 0 7, kvB 0 7, kvB 0 7, (.negSucc 0, .ofNat 2147483647)], [(102, 29, .inl (3, .ofNat 0))], 91, [kvR 102, kvI 0, kvI 1, kvI 2, kvN 152, kvN 2, kvN 1, kvN 2], []), ([], []), (166, []))
def kC408_4 : aC := (([kvB 0 7, kvB 0 7, kvB 0 7, kvB 0 2, (.negSucc 0, .ofNat 99)], [(102, 29, .inl (4, .ofNat 0)), (102, 30, .inr (.ofNat 2))], 110, [kvR 102, kvI 0, kvI 1, kvI 2, kvN 152, kvN 2, kvN 1, kvI 3], []), ([], []), (2, [(-1, 3)]))
theorem ks408 : aseg kS krf kB [kE43, kE89, kE344, kE376, kE404, kE406, kE407] (ksp [(192, 200, 7, 0, 7, 0)]) kE408 [kC408_0, kC408_1, kC408_2, kC408_3, kC408_4] 30000 (none) = true := by decide +kernel
theorem ks408_0 : aseg kS krf kB [kE43, kE89, kE344, kE376, kE404, kE406, kE407] (ksp [(192, 200, 7, 0, 7, 0)]) kE408 [kC408_0, kC408_1, kC408_2, kC408_3, kC408_4] 30000 (some kC408_0) = true := by decide +kernel
theorem ks408_1 : aseg kS krf kB [kE43, kE89, kE344, kE376, kE404, kE406, kE407] (ksp [(192, 200, 7, 0, 7, 0)]) kE408 [kC408_0, kC408_1, kC408_2, kC408_3, kC408_4] 30000 (some kC408_1) = true := by decide +kernel
theorem ks408_2 : aseg kS krf kB [kE43, kE89, kE344, kE376, kE404, kE406, kE407] (ksp [(192, 200, 7, 0, 7, 0)]) kE408 [kC408_0, kC408_1, kC408_2, kC408_3, kC408_4] 30000 (some kC408_2) = true := by decide +kernel
theorem ks408_3 : aseg kS krf kB [kE43, kE89, kE344, kE376, kE404, kE406, kE407] (ksp [(192, 200, 7, 0, 7, 0)]) kE408 [kC408_0, kC408_1, kC408_2, kC408_3, kC408_4] 30000 (some kC408_3) = true := by decide +kernel
theorem ks408_4 : aseg kS krf kB [kE43, kE89, kE344, kE376, kE404, kE406, kE407] (ksp [(192, 200, 7, 0, 7, 0)]) kE408 [kC408_0, kC408_1, kC408_2, kC408_3, kC408_4] 30000 (some kC408_4) = true := by decide +kernel
theorem kok408 : aOK kS krf kB kE408 := aOK_of (kal1 kok43 (kal1 kok89 (kal1 kok344 (kal1 kok376 (kal1 kok404 (kal1 kok406 (kal1 kok407 kal0))))))) (kcl1 ks408_0 (kcl1 ks408_1 (kcl1 ks408_2 (kcl1 ks408_3 (kcl1 ks408_4 kcl0))))) ks408
/-- ColdShodModel.triesWay(IIIII)V -/
def kE409 : aE := (192, 49, ([kvB 0 7, kvB 0 7, kvB 0 7], [], 0, [kvR 102, kvI 0, kvI 1, kvI 2, kvN 151, kvN 4, none, none], []), ([], none), ([], [], none, ([], [])), kvW64)
def kC409_0 : aC := (([kvB 0 7, kvB 0 7, kvB 0 7, kvB 0 1, kvB 0 4], [], 16, [kvR 102, kvI 0, kvI 1, kvI 2, kvN 151, kvN 4, kvI 3, kvI 4], []), ([], []), (336, [(-1, 4)]))
def kC409_1 : aC := (([kvB 0 7, kvB 0 7, kvB 0 7, kvB 0 12], [], 141, [kvR 102, kvI 0, kvI 1, kvI 2, kvN 151, kvN 4, kvI 3, none], []), ([], []), (141, [(-11, 3)]))
def kC409_2 : aC := (([kvB 0 7, kvB 0 7, kvB 0 7, kvB 0 11, (.negSucc 0, .ofNat 7), kvB 1 12], [(102, 8, .inl (5, .ofNat 0))], 195, [kvR 102, kvI 0, kvI 1, kvI 2, kvN 151, kvN 4, kvI 3, kvI 4], []), ([], []), (139, [(-11, 3), (-1, 4)]))
def kC409_3 : aC := (([kvB 0 7, kvB 0 7, kvB 0 7, (.negSucc 0, .ofNat 2147483647)], [(102, 29, .inl (3, .ofNat 0))], 91, [kvR 102, kvI 0, kvI 1, kvI 2, kvN 151, kvN 4, kvN 1, kvN 4], []), ([], []), (166, []))
def kC409_4 : aC := (([kvB 0 7, kvB 0 7, kvB 0 7, kvB 0 4, (.negSucc 0, .ofNat 99)], [(102, 29, .inl (4, .ofNat 0)), (102, 30, .inr (.ofNat 4))], 110, [kvR 102, kvI 0, kvI 1, kvI 2, kvN 151, kvN 4, kvN 1, kvI 3], []), ([], []), (4, [(-1, 3)]))
theorem ks409 : aseg kS krf kB [kE43, kE89, kE345, kE377, kE401] (ksp [(192, 200, 7, 0, 7, 0)]) kE409 [kC409_0, kC409_1, kC409_2, kC409_3, kC409_4] 30000 (none) = true := by decide +kernel
theorem ks409_0 : aseg kS krf kB [kE43, kE89, kE345, kE377, kE401] (ksp [(192, 200, 7, 0, 7, 0)]) kE409 [kC409_0, kC409_1, kC409_2, kC409_3, kC409_4] 30000 (some kC409_0) = true := by decide +kernel
theorem ks409_1 : aseg kS krf kB [kE43, kE89, kE345, kE377, kE401] (ksp [(192, 200, 7, 0, 7, 0)]) kE409 [kC409_0, kC409_1, kC409_2, kC409_3, kC409_4] 30000 (some kC409_1) = true := by decide +kernel
theorem ks409_2 : aseg kS krf kB [kE43, kE89, kE345, kE377, kE401] (ksp [(192, 200, 7, 0, 7, 0)]) kE409 [kC409_0, kC409_1, kC409_2, kC409_3, kC409_4] 30000 (some kC409_2) = true := by decide +kernel
theorem ks409_3 : aseg kS krf kB [kE43, kE89, kE345, kE377, kE401] (ksp [(192, 200, 7, 0, 7, 0)]) kE409 [kC409_0, kC409_1, kC409_2, kC409_3, kC409_4] 30000 (some kC409_3) = true := by decide +kernel
theorem ks409_4 : aseg kS krf kB [kE43, kE89, kE345, kE377, kE401] (ksp [(192, 200, 7, 0, 7, 0)]) kE409 [kC409_0, kC409_1, kC409_2, kC409_3, kC409_4] 30000 (some kC409_4) = true := by decide +kernel
theorem kok409 : aOK kS krf kB kE409 := aOK_of (kal1 kok43 (kal1 kok89 (kal1 kok345 (kal1 kok377 (kal1 kok401 kal0))))) (kcl1 ks409_0 (kcl1 ks409_1 (kcl1 ks409_2 (kcl1 ks409_3 (kcl1 ks409_4 kcl0))))) ks409
/-- ColdShodModel.triesWay(IIIII)V -/
def kE410 : aE := (192, 50, ([kvB 0 7, kvB 0 7, kvB 0 7], [], 0, [kvR 102, kvI 0, kvI 1, kvI 2, kvN 150, kvN 3, none, none], []), ([], none), ([], [], none, ([], [])), kvW65)
def kC410_0 : aC := (([kvB 0 7, kvB 0 7, kvB 0 7, kvB 0 1, kvB 0 3], [], 16, [kvR 102, kvI 0, kvI 1, kvI 2, kvN 150, kvN 3, kvI 3, kvI 4], []), ([], []), (335, [(-1, 4)]))
def kC410_1 : aC := (([kvB 0 7, kvB 0 7, kvB 0 7, kvB 0 12], [], 141, [kvR 102, kvI 0, kvI 1, kvI 2, kvN 150, kvN 3, kvI 3, none], []), ([], []), (141, [(-11, 3)]))
def kC410_2 : aC := (([kvB 0 7, kvB 0 7, kvB 0 7, kvB 0 11, (.negSucc 0, .ofNat 7), kvB 1 12], [(102, 8, .inl (5, .ofNat 0))], 195, [kvR 102, kvI 0, kvI 1, kvI 2, kvN 150, kvN 3, kvI 3, kvI 4], []), ([], []), (139, [(-11, 3), (-1, 4)]))
def kC410_3 : aC := (([kvB 0 7, kvB 0 7, kvB 0 7, (.negSucc 0, .ofNat 2147483647)], [(102, 29, .inl (3, .ofNat 0))], 91, [kvR 102, kvI 0, kvI 1, kvI 2, kvN 150, kvN 3, kvN 1, kvN 3], []), ([], []), (166, []))
def kC410_4 : aC := (([kvB 0 7, kvB 0 7, kvB 0 7, kvB 0 3, (.negSucc 0, .ofNat 99)], [(102, 29, .inl (4, .ofNat 0)), (102, 30, .inr (.ofNat 3))], 110, [kvR 102, kvI 0, kvI 1, kvI 2, kvN 150, kvN 3, kvN 1, kvI 3], []), ([], []), (3, [(-1, 3)]))
theorem ks410 : aseg kS krf kB [kE43, kE89, kE346, kE378, kE402, kE409] (ksp [(192, 200, 7, 0, 7, 0)]) kE410 [kC410_0, kC410_1, kC410_2, kC410_3, kC410_4] 30000 (none) = true := by decide +kernel
theorem ks410_0 : aseg kS krf kB [kE43, kE89, kE346, kE378, kE402, kE409] (ksp [(192, 200, 7, 0, 7, 0)]) kE410 [kC410_0, kC410_1, kC410_2, kC410_3, kC410_4] 30000 (some kC410_0) = true := by decide +kernel
theorem ks410_1 : aseg kS krf kB [kE43, kE89, kE346, kE378, kE402, kE409] (ksp [(192, 200, 7, 0, 7, 0)]) kE410 [kC410_0, kC410_1, kC410_2, kC410_3, kC410_4] 30000 (some kC410_1) = true := by decide +kernel
theorem ks410_2 : aseg kS krf kB [kE43, kE89, kE346, kE378, kE402, kE409] (ksp [(192, 200, 7, 0, 7, 0)]) kE410 [kC410_0, kC410_1, kC410_2, kC410_3, kC410_4] 30000 (some kC410_2) = true := by decide +kernel
theorem ks410_3 : aseg kS krf kB [kE43, kE89, kE346, kE378, kE402, kE409] (ksp [(192, 200, 7, 0, 7, 0)]) kE410 [kC410_0, kC410_1, kC410_2, kC410_3, kC410_4] 30000 (some kC410_3) = true := by decide +kernel
theorem ks410_4 : aseg kS krf kB [kE43, kE89, kE346, kE378, kE402, kE409] (ksp [(192, 200, 7, 0, 7, 0)]) kE410 [kC410_0, kC410_1, kC410_2, kC410_3, kC410_4] 30000 (some kC410_4) = true := by decide +kernel
theorem kok410 : aOK kS krf kB kE410 := aOK_of (kal1 kok43 (kal1 kok89 (kal1 kok346 (kal1 kok378 (kal1 kok402 (kal1 kok409 kal0)))))) (kcl1 ks410_0 (kcl1 ks410_1 (kcl1 ks410_2 (kcl1 ks410_3 (kcl1 ks410_4 kcl0))))) ks410
