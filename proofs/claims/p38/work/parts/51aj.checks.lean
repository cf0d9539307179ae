/-! ENTRIES and their checks: printed by a program (wip/ai). -/
/-- ColdShodModel.triesWay(IIIII)V -/
def kE411 : aE := (192, 50, ([kvB 0 7, kvB 0 7, kvB 0 7], [], 0, [kvR 102, kvI 0, kvI 1, kvI 2, kvN 149, kvN 3, none, none], []), ([], none), ([], [], none, ([], [])), kvW65)
def kC411_0 : aC := (([kvB 0 7, kvB 0 7, kvB 0 7, kvB 0 1, kvB 0 3], [], 16, [kvR 102, kvI 0, kvI 1, kvI 2, kvN 149, kvN 3, kvI 3, kvI 4], []), ([], []), (335, [(-1, 4)]))
def kC411_1 : aC := (([kvB 0 7, kvB 0 7, kvB 0 7, kvB 0 12], [], 141, [kvR 102, kvI 0, kvI 1, kvI 2, kvN 149, kvN 3, kvI 3, none], []), ([], []), (141, [(-11, 3)]))
def kC411_2 : aC := (([kvB 0 7, kvB 0 7, kvB 0 7, kvB 0 11, (.negSucc 0, .ofNat 7), kvB 1 12], [(102, 8, .inl (5, .ofNat 0))], 195, [kvR 102, kvI 0, kvI 1, kvI 2, kvN 149, kvN 3, kvI 3, kvI 4], []), ([], []), (139, [(-11, 3), (-1, 4)]))
def kC411_3 : aC := (([kvB 0 7, kvB 0 7, kvB 0 7, (.negSucc 0, .ofNat 2147483647)], [(102, 29, .inl (3, .ofNat 0))], 91, [kvR 102, kvI 0, kvI 1, kvI 2, kvN 149, kvN 3, kvN 1, kvN 3], []), ([], []), (166, []))
def kC411_4 : aC := (([kvB 0 7, kvB 0 7, kvB 0 7, kvB 0 3, (.negSucc 0, .ofNat 99)], [(102, 29, .inl (4, .ofNat 0)), (102, 30, .inr (.ofNat 3))], 110, [kvR 102, kvI 0, kvI 1, kvI 2, kvN 149, kvN 3, kvN 1, kvI 3], []), ([], []), (3, [(-1, 3)]))
theorem ks411 : aseg kS krf kB [kE43, kE89, kE347, kE379, kE403, kE409] (ksp [(192, 200, 7, 0, 7, 0)]) kE411 [kC411_0, kC411_1, kC411_2, kC411_3, kC411_4] 30000 (none) = true := by decide +kernel
theorem ks411_0 : aseg kS krf kB [kE43, kE89, kE347, kE379, kE403, kE409] (ksp [(192, 200, 7, 0, 7, 0)]) kE411 [kC411_0, kC411_1, kC411_2, kC411_3, kC411_4] 30000 (some kC411_0) = true := by decide +kernel
theorem ks411_1 : aseg kS krf kB [kE43, kE89, kE347, kE379, kE403, kE409] (ksp [(192, 200, 7, 0, 7, 0)]) kE411 [kC411_0, kC411_1, kC411_2, kC411_3, kC411_4] 30000 (some kC411_1) = true := by decide +kernel
theorem ks411_2 : aseg kS krf kB [kE43, kE89, kE347, kE379, kE403, kE409] (ksp [(192, 200, 7, 0, 7, 0)]) kE411 [kC411_0, kC411_1, kC411_2, kC411_3, kC411_4] 30000 (some kC411_2) = true := by decide +kernel
theorem ks411_3 : aseg kS krf kB [kE43, kE89, kE347, kE379, kE403, kE409] (ksp [(192, 200, 7, 0, 7, 0)]) kE411 [kC411_0, kC411_1, kC411_2, kC411_3, kC411_4] 30000 (some kC411_3) = true := by decide +kernel
theorem ks411_4 : aseg kS krf kB [kE43, kE89, kE347, kE379, kE403, kE409] (ksp [(192, 200, 7, 0, 7, 0)]) kE411 [kC411_0, kC411_1, kC411_2, kC411_3, kC411_4] 30000 (some kC411_4) = true := by decide +kernel
theorem kok411 : aOK kS krf kB kE411 := aOK_of (kal1 kok43 (kal1 kok89 (kal1 kok347 (kal1 kok379 (kal1 kok403 (kal1 kok409 kal0)))))) (kcl1 ks411_0 (kcl1 ks411_1 (kcl1 ks411_2 (kcl1 ks411_3 (kcl1 ks411_4 kcl0))))) ks411
/-- ColdShodModel.triesWay(IIIII)V -/
def kE412 : aE := (192, 51, ([kvB 0 7, kvB 0 7, kvB 0 7], [], 0, [kvR 102, kvI 0, kvI 1, kvI 2, kvN 148, kvN 2, none, none], []), ([], none), ([], [], none, ([], [])), kvW66)
def kC412_0 : aC := (([kvB 0 7, kvB 0 7, kvB 0 7, kvB 0 1, kvB 0 2], [], 16, [kvR 102, kvI 0, kvI 1, kvI 2, kvN 148, kvN 2, kvI 3, kvI 4], []), ([], []), (334, [(-1, 4)]))
def kC412_1 : aC := (([kvB 0 7, kvB 0 7, kvB 0 7, kvB 0 12], [], 141, [kvR 102, kvI 0, kvI 1, kvI 2, kvN 148, kvN 2, kvI 3, none], []), ([], []), (141, [(-11, 3)]))
def kC412_2 : aC := (([kvB 0 7, kvB 0 7, kvB 0 7, kvB 0 11, (.negSucc 0, .ofNat 7), kvB 1 12], [(102, 8, .inl (5, .ofNat 0))], 195, [kvR 102, kvI 0, kvI 1, kvI 2, kvN 148, kvN 2, kvI 3, kvI 4], []), ([], []), (139, [(-11, 3), (-1, 4)]))
def kC412_3 : aC := (([kvB 0 7, kvB 0 7, kvB 0 7, (.negSucc 0, .ofNat 2147483647)], [(102, 29, .inl (3, .ofNat 0))], 91, [kvR 102, kvI 0, kvI 1, kvI 2, kvN 148, kvN 2, kvN 1, kvN 2], []), ([], []), (166, []))
def kC412_4 : aC := (([kvB 0 7, kvB 0 7, kvB 0 7, kvB 0 2, (.negSucc 0, .ofNat 99)], [(102, 29, .inl (4, .ofNat 0)), (102, 30, .inr (.ofNat 2))], 110, [kvR 102, kvI 0, kvI 1, kvI 2, kvN 148, kvN 2, kvN 1, kvI 3], []), ([], []), (2, [(-1, 3)]))
theorem ks412 : aseg kS krf kB [kE43, kE89, kE348, kE380, kE404, kE410, kE411] (ksp [(192, 200, 7, 0, 7, 0)]) kE412 [kC412_0, kC412_1, kC412_2, kC412_3, kC412_4] 30000 (none) = true := by decide +kernel
theorem ks412_0 : aseg kS krf kB [kE43, kE89, kE348, kE380, kE404, kE410, kE411] (ksp [(192, 200, 7, 0, 7, 0)]) kE412 [kC412_0, kC412_1, kC412_2, kC412_3, kC412_4] 30000 (some kC412_0) = true := by decide +kernel
theorem ks412_1 : aseg kS krf kB [kE43, kE89, kE348, kE380, kE404, kE410, kE411] (ksp [(192, 200, 7, 0, 7, 0)]) kE412 [kC412_0, kC412_1, kC412_2, kC412_3, kC412_4] 30000 (some kC412_1) = true := by decide +kernel
theorem ks412_2 : aseg kS krf kB [kE43, kE89, kE348, kE380, kE404, kE410, kE411] (ksp [(192, 200, 7, 0, 7, 0)]) kE412 [kC412_0, kC412_1, kC412_2, kC412_3, kC412_4] 30000 (some kC412_2) = true := by decide +kernel
theorem ks412_3 : aseg kS krf kB [kE43, kE89, kE348, kE380, kE404, kE410, kE411] (ksp [(192, 200, 7, 0, 7, 0)]) kE412 [kC412_0, kC412_1, kC412_2, kC412_3, kC412_4] 30000 (some kC412_3) = true := by decide +kernel
theorem ks412_4 : aseg kS krf kB [kE43, kE89, kE348, kE380, kE404, kE410, kE411] (ksp [(192, 200, 7, 0, 7, 0)]) kE412 [kC412_0, kC412_1, kC412_2, kC412_3, kC412_4] 30000 (some kC412_4) = true := by decide +kernel
theorem kok412 : aOK kS krf kB kE412 := aOK_of (kal1 kok43 (kal1 kok89 (kal1 kok348 (kal1 kok380 (kal1 kok404 (kal1 kok410 (kal1 kok411 kal0))))))) (kcl1 ks412_0 (kcl1 ks412_1 (kcl1 ks412_2 (kcl1 ks412_3 (kcl1 ks412_4 kcl0))))) ks412
/-- ColdShodModel.triesWay(IIIII)V -/
def kE413 : aE := (192, 50, ([kvB 0 7, kvB 0 7, kvB 0 7], [], 0, [kvR 102, kvI 0, kvI 1, kvI 2, kvN 147, kvN 3, none, none], []), ([], none), ([], [], none, ([], [])), kvW65)
def kC413_0 : aC := (([kvB 0 7, kvB 0 7, kvB 0 7, kvB 0 1, kvB 0 3], [], 16, [kvR 102, kvI 0, kvI 1, kvI 2, kvN 147, kvN 3, kvI 3, kvI 4], []), ([], []), (335, [(-1, 4)]))
def kC413_1 : aC := (([kvB 0 7, kvB 0 7, kvB 0 7, kvB 0 12], [], 141, [kvR 102, kvI 0, kvI 1, kvI 2, kvN 147, kvN 3, kvI 3, none], []), ([], []), (141, [(-11, 3)]))
def kC413_2 : aC := (([kvB 0 7, kvB 0 7, kvB 0 7, kvB 0 11, (.negSucc 0, .ofNat 7), kvB 1 12], [(102, 8, .inl (5, .ofNat 0))], 195, [kvR 102, kvI 0, kvI 1, kvI 2, kvN 147, kvN 3, kvI 3, kvI 4], []), ([], []), (139, [(-11, 3), (-1, 4)]))
def kC413_3 : aC := (([kvB 0 7, kvB 0 7, kvB 0 7, (.negSucc 0, .ofNat 2147483647)], [(102, 29, .inl (3, .ofNat 0))], 91, [kvR 102, kvI 0, kvI 1, kvI 2, kvN 147, kvN 3, kvN 1, kvN 3], []), ([], []), (166, []))
def kC413_4 : aC := (([kvB 0 7, kvB 0 7, kvB 0 7, kvB 0 3, (.negSucc 0, .ofNat 99)], [(102, 29, .inl (4, .ofNat 0)), (102, 30, .inr (.ofNat 3))], 110, [kvR 102, kvI 0, kvI 1, kvI 2, kvN 147, kvN 3, kvN 1, kvI 3], []), ([], []), (3, [(-1, 3)]))
theorem ks413 : aseg kS krf kB [kE43, kE89, kE349, kE381, kE405, kE409] (ksp [(192, 200, 7, 0, 7, 0)]) kE413 [kC413_0, kC413_1, kC413_2, kC413_3, kC413_4] 30000 (none) = true := by decide +kernel
theorem ks413_0 : aseg kS krf kB [kE43, kE89, kE349, kE381, kE405, kE409] (ksp [(192, 200, 7, 0, 7, 0)]) kE413 [kC413_0, kC413_1, kC413_2, kC413_3, kC413_4] 30000 (some kC413_0) = true := by decide +kernel
theorem ks413_1 : aseg kS krf kB [kE43, kE89, kE349, kE381, kE405, kE409] (ksp [(192, 200, 7, 0, 7, 0)]) kE413 [kC413_0, kC413_1, kC413_2, kC413_3, kC413_4] 30000 (some kC413_1) = true := by decide +kernel
theorem ks413_2 : aseg kS krf kB [kE43, kE89, kE349, kE381, kE405, kE409] (ksp [(192, 200, 7, 0, 7, 0)]) kE413 [kC413_0, kC413_1, kC413_2, kC413_3, kC413_4] 30000 (some kC413_2) = true := by decide +kernel
theorem ks413_3 : aseg kS krf kB [kE43, kE89, kE349, kE381, kE405, kE409] (ksp [(192, 200, 7, 0, 7, 0)]) kE413 [kC413_0, kC413_1, kC413_2, kC413_3, kC413_4] 30000 (some kC413_3) = true := by decide +kernel
theorem ks413_4 : aseg kS krf kB [kE43, kE89, kE349, kE381, kE405, kE409] (ksp [(192, 200, 7, 0, 7, 0)]) kE413 [kC413_0, kC413_1, kC413_2, kC413_3, kC413_4] 30000 (some kC413_4) = true := by decide +kernel
theorem kok413 : aOK kS krf kB kE413 := aOK_of (kal1 kok43 (kal1 kok89 (kal1 kok349 (kal1 kok381 (kal1 kok405 (kal1 kok409 kal0)))))) (kcl1 ks413_0 (kcl1 ks413_1 (kcl1 ks413_2 (kcl1 ks413_3 (kcl1 ks413_4 kcl0))))) ks413
/-- ColdShodModel.triesWay(IIIII)V -/
def kE414 : aE := (192, 51, ([kvB 0 7, kvB 0 7, kvB 0 7], [], 0, [kvR 102, kvI 0, kvI 1, kvI 2, kvN 146, kvN 2, none, none], []), ([], none), ([], [], none, ([], [])), kvW66)
def kC414_0 : aC := (([kvB 0 7, kvB 0 7, kvB 0 7, kvB 0 1, kvB 0 2], [], 16, [kvR 102, kvI 0, kvI 1, kvI 2, kvN 146, kvN 2, kvI 3, kvI 4], []), ([], []), (334, [(-1, 4)]))
def kC414_1 : aC := (([kvB 0 7, kvB 0 7, kvB 0 7, kvB 0 12], [], 141, [kvR 102, kvI 0, kvI 1, kvI 2, kvN 146, kvN 2, kvI 3, none], []), ([], []), (141, [(-11, 3)]))
def kC414_2 : aC := (([kvB 0 7, kvB 0 7, kvB 0 7, kvB 0 11, (.negSucc 0, .ofNat 7), kvB 1 12], [(102, 8, .inl (5, .ofNat 0))], 195, [kvR 102, kvI 0, kvI 1, kvI 2, kvN 146, kvN 2, kvI 3, kvI 4], []), ([], []), (139, [(-11, 3), (-1, 4)]))
def kC414_3 : aC := (([kvB 0 7, kvB 0 7, kvB 0 7, (.negSucc 0, .ofNat 2147483647)], [(102, 29, .inl (3, .ofNat 0))], 91, [kvR 102, kvI 0, kvI 1, kvI 2, kvN 146, kvN 2, kvN 1, kvN 2], []), ([], []), (166, []))
def kC414_4 : aC := (([kvB 0 7, kvB 0 7, kvB 0 7, kvB 0 2, (.negSucc 0, .ofNat 99)], [(102, 29, .inl (4, .ofNat 0)), (102, 30, .inr (.ofNat 2))], 110, [kvR 102, kvI 0, kvI 1, kvI 2, kvN 146, kvN 2, kvN 1, kvI 3], []), ([], []), (2, [(-1, 3)]))
theorem ks414 : aseg kS krf kB [kE43, kE89, kE350, kE382, kE406, kE410, kE413] (ksp [(192, 200, 7, 0, 7, 0)]) kE414 [kC414_0, kC414_1, kC414_2, kC414_3, kC414_4] 30000 (none) = true := by decide +kernel
theorem ks414_0 : aseg kS krf kB [kE43, kE89, kE350, kE382, kE406, kE410, kE413] (ksp [(192, 200, 7, 0, 7, 0)]) kE414 [kC414_0, kC414_1, kC414_2, kC414_3, kC414_4] 30000 (some kC414_0) = true := by decide +kernel
theorem ks414_1 : aseg kS krf kB [kE43, kE89, kE350, kE382, kE406, kE410, kE413] (ksp [(192, 200, 7, 0, 7, 0)]) kE414 [kC414_0, kC414_1, kC414_2, kC414_3, kC414_4] 30000 (some kC414_1) = true := by decide +kernel
theorem ks414_2 : aseg kS krf kB [kE43, kE89, kE350, kE382, kE406, kE410, kE413] (ksp [(192, 200, 7, 0, 7, 0)]) kE414 [kC414_0, kC414_1, kC414_2, kC414_3, kC414_4] 30000 (some kC414_2) = true := by decide +kernel
theorem ks414_3 : aseg kS krf kB [kE43, kE89, kE350, kE382, kE406, kE410, kE413] (ksp [(192, 200, 7, 0, 7, 0)]) kE414 [kC414_0, kC414_1, kC414_2, kC414_3, kC414_4] 30000 (some kC414_3) = true := by decide +kernel
theorem ks414_4 : aseg kS krf kB [kE43, kE89, kE350, kE382, kE406, kE410, kE413] (ksp [(192, 200, 7, 0, 7, 0)]) kE414 [kC414_0, kC414_1, kC414_2, kC414_3, kC414_4] 30000 (some kC414_4) = true := by decide +kernel
theorem kok414 : aOK kS krf kB kE414 := aOK_of (kal1 kok43 (kal1 kok89 (kal1 kok350 (kal1 kok382 (kal1 kok406 (kal1 kok410 (kal1 kok413 kal0))))))) (kcl1 ks414_0 (kcl1 ks414_1 (kcl1 ks414_2 (kcl1 ks414_3 (kcl1 ks414_4 kcl0))))) ks414
/-- ColdShodModel.triesWay(IIIII)V -/
def kE415 : aE := (192, 51, ([kvB 0 7, kvB 0 7, kvB 0 7], [], 0, [kvR 102, kvI 0, kvI 1, kvI 2, kvN 145, kvN 2, none, none], []), ([], none), ([], [], none, ([], [])), kvW66)
def kC415_0 : aC := (([kvB 0 7, kvB 0 7, kvB 0 7, kvB 0 1, kvB 0 2], [], 16, [kvR 102, kvI 0, kvI 1, kvI 2, kvN 145, kvN 2, kvI 3, kvI 4], []), ([], []), (334, [(-1, 4)]))
def kC415_1 : aC := (([kvB 0 7, kvB 0 7, kvB 0 7, kvB 0 12], [], 141, [kvR 102, kvI 0, kvI 1, kvI 2, kvN 145, kvN 2, kvI 3, none], []), ([], []), (141, [(-11, 3)]))
def kC415_2 : aC := (([kvB 0 7, kvB 0 7, kvB 0 7, kvB 0 11, (.negSucc 0, .ofNat 7), kvB 1 12], [(102, 8, .inl (5, .ofNat 0))], 195, [kvR 102, kvI 0, kvI 1, kvI 2, kvN 145, kvN 2, kvI 3, kvI 4], []), ([], []), (139, [(-11, 3), (-1, 4)]))
def kC415_3 : aC := (([kvB 0 7, kvB 0 7, kvB 0 7, (.negSucc 0, .ofNat 2147483647)], [(102, 29, .inl (3, .ofNat 0))], 91, [kvR 102, kvI 0, kvI 1, kvI 2, kvN 145, kvN 2, kvN 1, kvN 2], []), ([], []), (166, []))
def kC415_4 : aC := (([kvB 0 7, kvB 0 7, kvB 0 7, kvB 0 2, (.negSucc 0, .ofNat 99)], [(102, 29, .inl (4, .ofNat 0)), (102, 30, .inr (.ofNat 2))], 110, [kvR 102, kvI 0, kvI 1, kvI 2, kvN 145, kvN 2, kvN 1, kvI 3], []), ([], []), (2, [(-1, 3)]))
theorem ks415 : aseg kS krf kB [kE43, kE89, kE351, kE383, kE407, kE411, kE413] (ksp [(192, 200, 7, 0, 7, 0)]) kE415 [kC415_0, kC415_1, kC415_2, kC415_3, kC415_4] 30000 (none) = true := by decide +kernel
theorem ks415_0 : aseg kS krf kB [kE43, kE89, kE351, kE383, kE407, kE411, kE413] (ksp [(192, 200, 7, 0, 7, 0)]) kE415 [kC415_0, kC415_1, kC415_2, kC415_3, kC415_4] 30000 (some kC415_0) = true := by decide +kernel
theorem ks415_1 : aseg kS krf kB [kE43, kE89, kE351, kE383, kE407, kE411, kE413] (ksp [(192, 200, 7, 0, 7, 0)]) kE415 [kC415_0, kC415_1, kC415_2, kC415_3, kC415_4] 30000 (some kC415_1) = true := by decide +kernel
theorem ks415_2 : aseg kS krf kB [kE43, kE89, kE351, kE383, kE407, kE411, kE413] (ksp [(192, 200, 7, 0, 7, 0)]) kE415 [kC415_0, kC415_1, kC415_2, kC415_3, kC415_4] 30000 (some kC415_2) = true := by decide +kernel
theorem ks415_3 : aseg kS krf kB [kE43, kE89, kE351, kE383, kE407, kE411, kE413] (ksp [(192, 200, 7, 0, 7, 0)]) kE415 [kC415_0, kC415_1, kC415_2, kC415_3, kC415_4] 30000 (some kC415_3) = true := by decide +kernel
theorem ks415_4 : aseg kS krf kB [kE43, kE89, kE351, kE383, kE407, kE411, kE413] (ksp [(192, 200, 7, 0, 7, 0)]) kE415 [kC415_0, kC415_1, kC415_2, kC415_3, kC415_4] 30000 (some kC415_4) = true := by decide +kernel
theorem kok415 : aOK kS krf kB kE415 := aOK_of (kal1 kok43 (kal1 kok89 (kal1 kok351 (kal1 kok383 (kal1 kok407 (kal1 kok411 (kal1 kok413 kal0))))))) (kcl1 ks415_0 (kcl1 ks415_1 (kcl1 ks415_2 (kcl1 ks415_3 (kcl1 ks415_4 kcl0))))) ks415
/-- ColdShodModel.triesWay(IIIII)V -/
def kE416 : aE := (192, 52, ([kvB 0 7, kvB 0 7, kvB 0 7], [], 0, [kvR 102, kvI 0, kvI 1, kvI 2, kvN 144, kvN 1, none, none], []), ([], none), ([], [], none, ([], [])), kvW67)
def kC416_0 : aC := (([kvB 0 7, kvB 0 7, kvB 0 7, kvB 0 1, kvB 0 1], [], 16, [kvR 102, kvI 0, kvI 1, kvI 2, kvN 144, kvN 1, kvI 3, kvI 4], []), ([], []), (333, [(-1, 4)]))
def kC416_1 : aC := (([kvB 0 7, kvB 0 7, kvB 0 7, kvB 0 12], [], 141, [kvR 102, kvI 0, kvI 1, kvI 2, kvN 144, kvN 1, kvI 3, none], []), ([], []), (141, [(-11, 3)]))
def kC416_2 : aC := (([kvB 0 7, kvB 0 7, kvB 0 7, kvB 0 11, (.negSucc 0, .ofNat 7), kvB 1 12], [(102, 8, .inl (5, .ofNat 0))], 195, [kvR 102, kvI 0, kvI 1, kvI 2, kvN 144, kvN 1, kvI 3, kvI 4], []), ([], []), (139, [(-11, 3), (-1, 4)]))
def kC416_3 : aC := (([kvB 0 7, kvB 0 7, kvB 0 7, (.negSucc 0, .ofNat 2147483647)], [(102, 29, .inl (3, .ofNat 0))], 91, [kvR 102, kvI 0, kvI 1, kvI 2, kvN 144, kvN 1, kvN 1, kvN 1], []), ([], []), (166, []))
def kC416_4 : aC := (([kvB 0 7, kvB 0 7, kvB 0 7, kvB 0 1, (.negSucc 0, .ofNat 99)], [(102, 29, .inl (4, .ofNat 0)), (102, 30, .inr (.ofNat 1))], 110, [kvR 102, kvI 0, kvI 1, kvI 2, kvN 144, kvN 1, kvN 1, kvI 3], []), ([], []), (1, [(-1, 3)]))
theorem ks416 : aseg kS krf kB [kE43, kE89, kE352, kE384, kE408, kE412, kE414, kE415] (ksp [(192, 200, 7, 0, 7, 0)]) kE416 [kC416_0, kC416_1, kC416_2, kC416_3, kC416_4] 30000 (none) = true := by decide +kernel
theorem ks416_0 : aseg kS krf kB [kE43, kE89, kE352, kE384, kE408, kE412, kE414, kE415] (ksp [(192, 200, 7, 0, 7, 0)]) kE416 [kC416_0, kC416_1, kC416_2, kC416_3, kC416_4] 30000 (some kC416_0) = true := by decide +kernel
theorem ks416_1 : aseg kS krf kB [kE43, kE89, kE352, kE384, kE408, kE412, kE414, kE415] (ksp [(192, 200, 7, 0, 7, 0)]) kE416 [kC416_0, kC416_1, kC416_2, kC416_3, kC416_4] 30000 (some kC416_1) = true := by decide +kernel
theorem ks416_2 : aseg kS krf kB [kE43, kE89, kE352, kE384, kE408, kE412, kE414, kE415] (ksp [(192, 200, 7, 0, 7, 0)]) kE416 [kC416_0, kC416_1, kC416_2, kC416_3, kC416_4] 30000 (some kC416_2) = true := by decide +kernel
theorem ks416_3 : aseg kS krf kB [kE43, kE89, kE352, kE384, kE408, kE412, kE414, kE415] (ksp [(192, 200, 7, 0, 7, 0)]) kE416 [kC416_0, kC416_1, kC416_2, kC416_3, kC416_4] 30000 (some kC416_3) = true := by decide +kernel
theorem ks416_4 : aseg kS krf kB [kE43, kE89, kE352, kE384, kE408, kE412, kE414, kE415] (ksp [(192, 200, 7, 0, 7, 0)]) kE416 [kC416_0, kC416_1, kC416_2, kC416_3, kC416_4] 30000 (some kC416_4) = true := by decide +kernel
theorem kok416 : aOK kS krf kB kE416 := aOK_of (kal1 kok43 (kal1 kok89 (kal1 kok352 (kal1 kok384 (kal1 kok408 (kal1 kok412 (kal1 kok414 (kal1 kok415 kal0)))))))) (kcl1 ks416_0 (kcl1 ks416_1 (kcl1 ks416_2 (kcl1 ks416_3 (kcl1 ks416_4 kcl0))))) ks416
/-- ColdShodModel.triesWay(IIIII)V -/
def kE417 : aE := (192, 49, ([kvB 0 7, kvB 0 7, kvB 0 7], [], 0, [kvR 102, kvI 0, kvI 1, kvI 2, kvN 143, kvN 4, none, none], []), ([], none), ([], [], none, ([], [])), kvW64)
def kC417_0 : aC := (([kvB 0 7, kvB 0 7, kvB 0 7, kvB 0 1, kvB 0 4], [], 16, [kvR 102, kvI 0, kvI 1, kvI 2, kvN 143, kvN 4, kvI 3, kvI 4], []), ([], []), (336, [(-1, 4)]))
def kC417_1 : aC := (([kvB 0 7, kvB 0 7, kvB 0 7, kvB 0 12], [], 141, [kvR 102, kvI 0, kvI 1, kvI 2, kvN 143, kvN 4, kvI 3, none], []), ([], []), (141, [(-11, 3)]))
def kC417_2 : aC := (([kvB 0 7, kvB 0 7, kvB 0 7, kvB 0 11, (.negSucc 0, .ofNat 7), kvB 1 12], [(102, 8, .inl (5, .ofNat 0))], 195, [kvR 102, kvI 0, kvI 1, kvI 2, kvN 143, kvN 4, kvI 3, kvI 4], []), ([], []), (139, [(-11, 3), (-1, 4)]))
def kC417_3 : aC := (([kvB 0 7, kvB 0 7, kvB 0 7, (.negSucc 0, .ofNat 2147483647)], [(102, 29, .inl (3, .ofNat 0))], 91, [kvR 102, kvI 0, kvI 1, kvI 2, kvN 143, kvN 4, kvN 1, kvN 4], []), ([], []), (166, []))
def kC417_4 : aC := (([kvB 0 7, kvB 0 7, kvB 0 7, kvB 0 4, (.negSucc 0, .ofNat 99)], [(102, 29, .inl (4, .ofNat 0)), (102, 30, .inr (.ofNat 4))], 110, [kvR 102, kvI 0, kvI 1, kvI 2, kvN 143, kvN 4, kvN 1, kvI 3], []), ([], []), (4, [(-1, 3)]))
theorem ks417 : aseg kS krf kB [kE43, kE89, kE353, kE385, kE401] (ksp [(192, 200, 7, 0, 7, 0)]) kE417 [kC417_0, kC417_1, kC417_2, kC417_3, kC417_4] 30000 (none) = true := by decide +kernel
theorem ks417_0 : aseg kS krf kB [kE43, kE89, kE353, kE385, kE401] (ksp [(192, 200, 7, 0, 7, 0)]) kE417 [kC417_0, kC417_1, kC417_2, kC417_3, kC417_4] 30000 (some kC417_0) = true := by decide +kernel
theorem ks417_1 : aseg kS krf kB [kE43, kE89, kE353, kE385, kE401] (ksp [(192, 200, 7, 0, 7, 0)]) kE417 [kC417_0, kC417_1, kC417_2, kC417_3, kC417_4] 30000 (some kC417_1) = true := by decide +kernel
theorem ks417_2 : aseg kS krf kB [kE43, kE89, kE353, kE385, kE401] (ksp [(192, 200, 7, 0, 7, 0)]) kE417 [kC417_0, kC417_1, kC417_2, kC417_3, kC417_4] 30000 (some kC417_2) = true := by decide +kernel
theorem ks417_3 : aseg kS krf kB [kE43, kE89, kE353, kE385, kE401] (ksp [(192, 200, 7, 0, 7, 0)]) kE417 [kC417_0, kC417_1, kC417_2, kC417_3, kC417_4] 30000 (some kC417_3) = true := by decide +kernel
theorem ks417_4 : aseg kS krf kB [kE43, kE89, kE353, kE385, kE401] (ksp [(192, 200, 7, 0, 7, 0)]) kE417 [kC417_0, kC417_1, kC417_2, kC417_3, kC417_4] 30000 (some kC417_4) = true := by decide +kernel
theorem kok417 : aOK kS krf kB kE417 := aOK_of (kal1 kok43 (kal1 kok89 (kal1 kok353 (kal1 kok385 (kal1 kok401 kal0))))) (kcl1 ks417_0 (kcl1 ks417_1 (kcl1 ks417_2 (kcl1 ks417_3 (kcl1 ks417_4 kcl0))))) ks417
/-- ColdShodModel.triesWay(IIIII)V -/
def kE418 : aE := (192, 50, ([kvB 0 7, kvB 0 7, kvB 0 7], [], 0, [kvR 102, kvI 0, kvI 1, kvI 2, kvN 142, kvN 3, none, none], []), ([], none), ([], [], none, ([], [])), kvW65)
def kC418_0 : aC := (([kvB 0 7, kvB 0 7, kvB 0 7, kvB 0 1, kvB 0 3], [], 16, [kvR 102, kvI 0, kvI 1, kvI 2, kvN 142, kvN 3, kvI 3, kvI 4], []), ([], []), (335, [(-1, 4)]))
def kC418_1 : aC := (([kvB 0 7, kvB 0 7, kvB 0 7, kvB 0 12], [], 141, [kvR 102, kvI 0, kvI 1, kvI 2, kvN 142, kvN 3, kvI 3, none], []), ([], []), (141, [(-11, 3)]))
def kC418_2 : aC := (([kvB 0 7, kvB 0 7, kvB 0 7, kvB 0 11, (.negSucc 0, .ofNat 7), kvB 1 12], [(102, 8, .inl (5, .ofNat 0))], 195, [kvR 102, kvI 0, kvI 1, kvI 2, kvN 142, kvN 3, kvI 3, kvI 4], []), ([], []), (139, [(-11, 3), (-1, 4)]))
def kC418_3 : aC := (([kvB 0 7, kvB 0 7, kvB 0 7, (.negSucc 0, .ofNat 2147483647)], [(102, 29, .inl (3, .ofNat 0))], 91, [kvR 102, kvI 0, kvI 1, kvI 2, kvN 142, kvN 3, kvN 1, kvN 3], []), ([], []), (166, []))
def kC418_4 : aC := (([kvB 0 7, kvB 0 7, kvB 0 7, kvB 0 3, (.negSucc 0, .ofNat 99)], [(102, 29, .inl (4, .ofNat 0)), (102, 30, .inr (.ofNat 3))], 110, [kvR 102, kvI 0, kvI 1, kvI 2, kvN 142, kvN 3, kvN 1, kvI 3], []), ([], []), (3, [(-1, 3)]))
theorem ks418 : aseg kS krf kB [kE43, kE89, kE354, kE386, kE402, kE417] (ksp [(192, 200, 7, 0, 7, 0)]) kE418 [kC418_0, kC418_1, kC418_2, kC418_3, kC418_4] 30000 (none) = true := by decide +kernel
theorem ks418_0 : aseg kS krf kB [kE43, kE89, kE354, kE386, kE402, kE417] (ksp [(192, 200, 7, 0, 7, 0)]) kE418 [kC418_0, kC418_1, kC418_2, kC418_3, kC418_4] 30000 (some kC418_0) = true := by decide +kernel
theorem ks418_1 : aseg kS krf kB [kE43, kE89, kE354, kE386, kE402, kE417] (ksp [(192, 200, 7, 0, 7, 0)]) kE418 [kC418_0, kC418_1, kC418_2, kC418_3, kC418_4] 30000 (some kC418_1) = true := by decide +kernel
theorem ks418_2 : aseg kS krf kB [kE43, kE89, kE354, kE386, kE402, kE417] (ksp [(192, 200, 7, 0, 7, 0)]) kE418 [kC418_0, kC418_1, kC418_2, kC418_3, kC418_4] 30000 (some kC418_2) = true := by decide +kernel
theorem ks418_3 : aseg kS krf kB [kE43, kE89, kE354, kE386, kE402, kE417] (ksp [(192, 200, 7, 0, 7, 0)]) kE418 [kC418_0, kC418_1, kC418_2, kC418_3, kC418_4] 30000 (some kC418_3) = true := by decide +kernel
theorem ks418_4 : aseg kS krf kB [kE43, kE89, kE354, kE386, kE402, kE417] (ksp [(192, 200, 7, 0, 7, 0)]) kE418 [kC418_0, kC418_1, kC418_2, kC418_3, kC418_4] 30000 (some kC418_4) = true := by decide +kernel
theorem kok418 : aOK kS krf kB kE418 := aOK_of (kal1 kok43 (kal1 kok89 (kal1 kok354 (kal1 kok386 (kal1 kok402 (kal1 kok417 kal0)))))) (kcl1 ks418_0 (kcl1 ks418_1 (kcl1 ks418_2 (kcl1 ks418_3 (kcl1 ks418_4 kcl0))))) ks418
/-- ColdShodModel.triesWay(IIIII)V -/
def kE419 : aE := (192, 50, ([kvB 0 7, kvB 0 7, kvB 0 7], [], 0, [kvR 102, kvI 0, kvI 1, kvI 2, kvN 141, kvN 3, none, none], []), ([], none), ([], [], none, ([], [])), kvW65)
def kC419_0 : aC := (([kvB 0 7, kvB 0 7, kvB 0 7, kvB 0 1, kvB 0 3], [], 16, [kvR 102, kvI 0, kvI 1, kvI 2, kvN 141, kvN 3, kvI 3, kvI 4], []), ([], []), (335, [(-1, 4)]))
def kC419_1 : aC := (([kvB 0 7, kvB 0 7, kvB 0 7, kvB 0 12], [], 141, [kvR 102, kvI 0, kvI 1, kvI 2, kvN 141, kvN 3, kvI 3, none], []), ([], []), (141, [(-11, 3)]))
def kC419_2 : aC := (([kvB 0 7, kvB 0 7, kvB 0 7, kvB 0 11, (.negSucc 0, .ofNat 7), kvB 1 12], [(102, 8, .inl (5, .ofNat 0))], 195, [kvR 102, kvI 0, kvI 1, kvI 2, kvN 141, kvN 3, kvI 3, kvI 4], []), ([], []), (139, [(-11, 3), (-1, 4)]))
def kC419_3 : aC := (([kvB 0 7, kvB 0 7, kvB 0 7, (.negSucc 0, .ofNat 2147483647)], [(102, 29, .inl (3, .ofNat 0))], 91, [kvR 102, kvI 0, kvI 1, kvI 2, kvN 141, kvN 3, kvN 1, kvN 3], []), ([], []), (166, []))
def kC419_4 : aC := (([kvB 0 7, kvB 0 7, kvB 0 7, kvB 0 3, (.negSucc 0, .ofNat 99)], [(102, 29, .inl (4, .ofNat 0)), (102, 30, .inr (.ofNat 3))], 110, [kvR 102, kvI 0, kvI 1, kvI 2, kvN 141, kvN 3, kvN 1, kvI 3], []), ([], []), (3, [(-1, 3)]))
theorem ks419 : aseg kS krf kB [kE43, kE89, kE355, kE387, kE403, kE417] (ksp [(192, 200, 7, 0, 7, 0)]) kE419 [kC419_0, kC419_1, kC419_2, kC419_3, kC419_4] 30000 (none) = true := by decide +kernel
theorem ks419_0 : aseg kS krf kB [kE43, kE89, kE355, kE387, kE403, kE417] (ksp [(192, 200, 7, 0, 7, 0)]) kE419 [kC419_0, kC419_1, kC419_2, kC419_3, kC419_4] 30000 (some kC419_0) = true := by decide +kernel
theorem ks419_1 : aseg kS krf kB [kE43, kE89, kE355, kE387, kE403, kE417] (ksp [(192, 200, 7, 0, 7, 0)]) kE419 [kC419_0, kC419_1, kC419_2, kC419_3, kC419_4] 30000 (some kC419_1) = true := by decide +kernel
theorem ks419_2 : aseg kS krf kB [kE43, kE89, kE355, kE387, kE403, kE417] (ksp [(192, 200, 7, 0, 7, 0)]) kE419 [kC419_0, kC419_1, kC419_2, kC419_3, kC419_4] 30000 (some kC419_2) = true := by decide +kernel
theorem ks419_3 : aseg kS krf kB [kE43, kE89, kE355, kE387, kE403, kE417] (ksp [(192, 200, 7, 0, 7, 0)]) kE419 [kC419_0, kC419_1, kC419_2, kC419_3, kC419_4] 30000 (some kC419_3) = true := by decide +kernel
theorem ks419_4 : aseg kS krf kB [kE43, kE89, kE355, kE387, kE403, kE417] (ksp [(192, 200, 7, 0, 7, 0)]) kE419 [kC419_0, kC419_1, kC419_2, kC419_3, kC419_4] 30000 (some kC419_4) = true := by decide +kernel
theorem kok419 : aOK kS krf kB kE419 := aOK_of (kal1 kok43 (kal1 kok89 (kal1 kok355 (kal1 kok387 (kal1 kok403 (kal1 kok417 kal0)))))) (kcl1 ks419_0 (kcl1 ks419_1 (kcl1 ks419_2 (kcl1 ks419_3 (kcl1 ks419_4 kcl0))))) ks419
/-- ColdShodModel.triesWay(IIIII)V -/
def kE420 : aE := (192, 51, ([kvB 0 7, kvB 0 7, kvB 0 7], [], 0, [kvR 102, kvI 0, kvI 1, kvI 2, kvN 140, kvN 2, none, none], []), ([], none), ([], [], none, ([], [])), kvW66)
def kC420_0 : aC := (([kvB 0 7, kvB 0 7, kvB 0 7, kvB 0 1, kvB 0 2], [], 16, [kvR 102, kvI 0, kvI 1, kvI 2, kvN 140, kvN 2, kvI 3, kvI 4], []), ([], []), (334, [(-1, 4)]))
def kC420_1 : aC := (([kvB 0 7, kvB 0 7, kvB 0 7, kvB 0 12], [], 141, [kvR 102, kvI 0, kvI 1, kvI 2, kvN 140, kvN 2, kvI 3, none], []), ([], []), (141, [(-11, 3)]))
def kC420_2 : aC := (([kvB 0 7, kvB 0 7, kvB 0 7, kvB 0 11, (.negSucc 0, .ofNat 7), kvB 1 12], [(102, 8, .inl (5, .ofNat 0))], 195, [kvR 102, kvI 0, kvI 1, kvI 2, kvN 140, kvN 2, kvI 3, kvI 4], []), ([], []), (139, [(-11, 3), (-1, 4)]))
def kC420_3 : aC := (([kvB 0 7, kvB 0 7, kvB 0 7, (.negSucc 0, .ofNat 2147483647)], [(102, 29, .inl (3, .ofNat 0))], 91, [kvR 102, kvI 0, kvI 1, kvI 2, kvN 140, kvN 2, kvN 1, kvN 2], []), ([], []), (166, []))
def kC420_4 : aC := (([kvB 0 7, kvB 0 7, kvB 0 7, kvB 0 2, (.negSucc 0, .ofNat 99)], [(102, 29, .inl (4, .ofNat 0)), (102, 30, .inr (.ofNat 2))], 110, [kvR 102, kvI 0, kvI 1, kvI 2, kvN 140, kvN 2, kvN 1, kvI 3], []), ([], []), (2, [(-1, 3)]))
theorem ks420 : aseg kS krf kB [kE43, kE89, kE356, kE388, kE404, kE418, kE419] (ksp [(192, 200, 7, 0, 7, 0)]) kE420 [kC420_0, kC420_1, kC420_2, kC420_3, kC420_4] 30000 (none) = true := by decide +kernel
theorem ks420_0 : aseg kS krf kB [kE43, kE89, kE356, kE388, kE404, kE418, kE419] (ksp [(192, 200, 7, 0, 7, 0)]) kE420 [kC420_0, kC420_1, kC420_2, kC420_3, kC420_4] 30000 (some kC420_0) = true := by decide +kernel
theorem ks420_1 : aseg kS krf kB [kE43, kE89, kE356, kE388, kE404, kE418, kE419] (ksp [(192, 200, 7, 0, 7, 0)]) kE420 [kC420_0, kC420_1, kC420_2, kC420_3, kC420_4] 30000 (some kC420_1) = true := by decide +kernel
theorem ks420_2 : aseg kS krf kB [kE43, kE89, kE356, kE388, kE404, kE418, kE419] (ksp [(192, 200, 7, 0, 7, 0)]) kE420 [kC420_0, kC420_1, kC420_2, kC420_3, kC420_4] 30000 (some kC420_2) = true := by decide +kernel
theorem ks420_3 : aseg kS krf kB [kE43, kE89, kE356, kE388, kE404, kE418, kE419] (ksp [(192, 200, 7, 0, 7, 0)]) kE420 [kC420_0, kC420_1, kC420_2, kC420_3, kC420_4] 30000 (some kC420_3) = true := by decide +kernel
theorem ks420_4 : aseg kS krf kB [kE43, kE89, kE356, kE388, kE404, kE418, kE419] (ksp [(192, 200, 7, 0, 7, 0)]) kE420 [kC420_0, kC420_1, kC420_2, kC420_3, kC420_4] 30000 (some kC420_4) = true := by decide +kernel
theorem kok420 : aOK kS krf kB kE420 := aOK_of (kal1 kok43 (kal1 kok89 (kal1 kok356 (kal1 kok388 (kal1 kok404 (kal1 kok418 (kal1 kok419 kal0))))))) (kcl1 ks420_0 (kcl1 ks420_1 (kcl1 ks420_2 (kcl1 ks420_3 (kcl1 ks420_4 kcl0))))) ks420
/-- ColdShodModel.triesWay(IIIII)V -/
def kE421 : aE := (192, 50, ([kvB 0 7, kvB 0 7, kvB 0 7], [], 0, [kvR 102, kvI 0, kvI 1, kvI 2, kvN 139, kvN 3, none, none], []), ([], none), ([], [], none, ([], [])), kvW65)
def kC421_0 : aC := (([kvB 0 7, kvB 0 7, kvB 0 7, kvB 0 1, kvB 0 3], [], 16, [kvR 102, kvI 0, kvI 1, kvI 2, kvN 139, kvN 3, kvI 3, kvI 4], []), ([], []), (335, [(-1, 4)]))
def kC421_1 : aC := (([kvB 0 7, kvB 0 7, kvB 0 7, kvB 0 12], [], 141, [kvR 102, kvI 0, kvI 1, kvI 2, kvN 139, kvN 3, kvI 3, none], []), ([], []), (141, [(-11, 3)]))
def kC421_2 : aC := (([kvB 0 7, kvB 0 7, kvB 0 7, kvB 0 11, (.negSucc 0, .ofNat 7), kvB 1 12], [(102, 8, .inl (5, .ofNat 0))], 195, [kvR 102, kvI 0, kvI 1, kvI 2, kvN 139, kvN 3, kvI 3, kvI 4], []), ([], []), (139, [(-11, 3), (-1, 4)]))
def kC421_3 : aC := (([kvB 0 7, kvB 0 7, kvB 0 7, (.negSucc 0, .ofNat 2147483647)], [(102, 29, .inl (3, .ofNat 0))], 91, [kvR 102, kvI 0, kvI 1, kvI 2, kvN 139, kvN 3, kvN 1, kvN 3], []), ([], []), (166, []))
def kC421_4 : aC := (([kvB 0 7, kvB 0 7, kvB 0 7, kvB 0 3, (.negSucc 0, .ofNat 99)], [(102, 29, .inl (4, .ofNat 0)), (102, 30, .inr (.ofNat 3))], 110, [kvR 102, kvI 0, kvI 1, kvI 2, kvN 139, kvN 3, kvN 1, kvI 3], []), ([], []), (3, [(-1, 3)]))
theorem ks421 : aseg kS krf kB [kE43, kE89, kE357, kE389, kE405, kE417] (ksp [(192, 200, 7, 0, 7, 0)]) kE421 [kC421_0, kC421_1, kC421_2, kC421_3, kC421_4] 30000 (none) = true := by decide +kernel
theorem ks421_0 : aseg kS krf kB [kE43, kE89, kE357, kE389, kE405, kE417] (ksp [(192, 200, 7, 0, 7, 0)]) kE421 [kC421_0, kC421_1, kC421_2, kC421_3, kC421_4] 30000 (some kC421_0) = true := by decide +kernel
theorem ks421_1 : aseg kS krf kB [kE43, kE89, kE357, kE389, kE405, kE417] (ksp [(192, 200, 7, 0, 7, 0)]) kE421 [kC421_0, kC421_1, kC421_2, kC421_3, kC421_4] 30000 (some kC421_1) = true := by decide +kernel
theorem ks421_2 : aseg kS krf kB [kE43, kE89, kE357, kE389, kE405, kE417] (ksp [(192, 200, 7, 0, 7, 0)]) kE421 [kC421_0, kC421_1, kC421_2, kC421_3, kC421_4] 30000 (some kC421_2) = true := by decide +kernel
theorem ks421_3 : aseg kS krf kB [kE43, kE89, kE357, kE389, kE405, kE417] (ksp [(192, 200, 7, 0, 7, 0)]) kE421 [kC421_0, kC421_1, kC421_2, kC421_3, kC421_4] 30000 (some kC421_3) = true := by decide +kernel
theorem ks421_4 : aseg kS krf kB [kE43, kE89, kE357, kE389, kE405, kE417] (ksp [(192, 200, 7, 0, 7, 0)]) kE421 [kC421_0, kC421_1, kC421_2, kC421_3, kC421_4] 30000 (some kC421_4) = true := by decide +kernel
theorem kok421 : aOK kS krf kB kE421 := aOK_of (kal1 kok43 (kal1 kok89 (kal1 kok357 (kal1 kok389 (kal1 kok405 (kal1 kok417 kal0)))))) (kcl1 ks421_0 (kcl1 ks421_1 (kcl1 ks421_2 (kcl1 ks421_3 (kcl1 ks421_4 kcl0))))) ks421
/-- ColdShodModel.triesWay(IIIII)V -/
def kE422 : aE := (192, 51, ([kvB 0 7, kvB 0 7, kvB 0 7], [], 0, [kvR 102, kvI 0, kvI 1, kvI 2, kvN 138, kvN 2, none, none], []), ([], none), ([], [], none, ([], [])), kvW66)
def kC422_0 : aC := (([kvB 0 7, kvB 0 7, kvB 0 7, kvB 0 1, kvB 0 2], [], 16, [kvR 102, kvI 0, kvI 1, kvI 2, kvN 138, kvN 2, kvI 3, kvI 4], []), ([], []), (334, [(-1, 4)]))
def kC422_1 : aC := (([kvB 0 7, kvB 0 7, kvB 0 7, kvB 0 12], [], 141, [kvR 102, kvI 0, kvI 1, kvI 2, kvN 138, kvN 2, kvI 3, none], []), ([], []), (141, [(-11, 3)]))
def kC422_2 : aC := (([kvB 0 7, kvB 0 7, kvB 0 7, kvB 0 11, (.negSucc 0, .ofNat 7), kvB 1 12], [(102, 8, .inl (5, .ofNat 0))], 195, [kvR 102, kvI 0, kvI 1, kvI 2, kvN 138, kvN 2, kvI 3, kvI 4], []), ([], []), (139, [(-11, 3), (-1, 4)]))
def kC422_3 : aC := (([kvB 0 7, kvB 0 7, kvB 0 7, (.negSucc 0, .ofNat 2147483647)], [(102, 29, .inl (3, .ofNat 0))], 91, [kvR 102, kvI 0, kvI 1, kvI 2, kvN 138, kvN 2, kvN 1, kvN 2], []), ([], []), (166, []))
def kC422_4 : aC := (([kvB 0 7, kvB 0 7, kvB 0 7, kvB 0 2, (.negSucc 0, .ofNat 99)], [(102, 29, .inl (4, .ofNat 0)), (102, 30, .inr (.ofNat 2))], 110, [kvR 102, kvI 0, kvI 1, kvI 2, kvN 138, kvN 2, kvN 1, kvI 3], []), ([], []), (2, [(-1, 3)]))
theorem ks422 : aseg kS krf kB [kE43, kE89, kE358, kE390, kE406, kE418, kE421] (ksp [(192, 200, 7, 0, 7, 0)]) kE422 [kC422_0, kC422_1, kC422_2, kC422_3, kC422_4] 30000 (none) = true := by decide +kernel
theorem ks422_0 : aseg kS krf kB [kE43, kE89, kE358, kE390, kE406, kE418, kE421] (ksp [(192, 200, 7, 0, 7, 0)]) kE422 [kC422_0, kC422_1, kC422_2, kC422_3, kC422_4] 30000 (some kC422_0) = true := by decide +kernel
theorem ks422_1 : aseg kS krf kB [kE43, kE89, kE358, kE390, kE406, kE418, kE421] (ksp [(192, 200, 7, 0, 7, 0)]) kE422 [kC422_0, kC422_1, kC422_2, kC422_3, kC422_4] 30000 (some kC422_1) = true := by decide +kernel
theorem ks422_2 : aseg kS krf kB [kE43, kE89, kE358, kE390, kE406, kE418, kE421] (ksp [(192, 200, 7, 0, 7, 0)]) kE422 [kC422_0, kC422_1, kC422_2, kC422_3, kC422_4] 30000 (some kC422_2) = true := by decide +kernel
theorem ks422_3 : aseg kS krf kB [kE43, kE89, kE358, kE390, kE406, kE418, kE421] (ksp [(192, 200, 7, 0, 7, 0)]) kE422 [kC422_0, kC422_1, kC422_2, kC422_3, kC422_4] 30000 (some kC422_3) = true := by decide +kernel
theorem ks422_4 : aseg kS krf kB [kE43, kE89, kE358, kE390, kE406, kE418, kE421] (ksp [(192, 200, 7, 0, 7, 0)]) kE422 [kC422_0, kC422_1, kC422_2, kC422_3, kC422_4] 30000 (some kC422_4) = true := by decide +kernel
theorem kok422 : aOK kS krf kB kE422 := aOK_of (kal1 kok43 (kal1 kok89 (kal1 kok358 (kal1 kok390 (kal1 kok406 (kal1 kok418 (kal1 kok421 kal0))))))) (kcl1 ks422_0 (kcl1 ks422_1 (kcl1 ks422_2 (kcl1 ks422_3 (kcl1 ks422_4 kcl0))))) ks422
/-- ColdShodModel.triesWay(IIIII)V -/
def kE423 : aE := (192, 51, ([kvB 0 7, kvB 0 7, kvB 0 7], [], 0, [kvR 102, kvI 0, kvI 1, kvI 2, kvN 137, kvN 2, none, none], []), ([], none), ([], [], none, ([], [])), kvW66)
def kC423_0 : aC := (([kvB 0 7, kvB 0 7, kvB 0 7, kvB 0 1, kvB 0 2], [], 16, [kvR 102, kvI 0, kvI 1, kvI 2, kvN 137, kvN 2, kvI 3, kvI 4], []), ([], []), (334, [(-1, 4)]))
def kC423_1 : aC := (([kvB 0 7, kvB 0 7, kvB 0 7, kvB 0 12], [], 141, [kvR 102, kvI 0, kvI 1, kvI 2, kvN 137, kvN 2, kvI 3, none], []), ([], []), (141, [(-11, 3)]))
def kC423_2 : aC := (([kvB 0 7, kvB 0 7, kvB 0 7, kvB 0 11, (.negSucc 0, .ofNat 7), kvB 1 12], [(102, 8, .inl (5, .ofNat 0))], 195, [kvR 102, kvI 0, kvI 1, kvI 2, kvN 137, kvN 2, kvI 3, kvI 4], []), ([], []), (139, [(-11, 3), (-1, 4)]))
def kC423_3 : aC := (([kvB 0 7, kvB 0 7, kvB 0 7, (.negSucc 0, .ofNat 2147483647)], [(102, 29, .inl (3, .ofNat 0))], 91, [kvR 102, kvI 0, kvI 1, kvI 2, kvN 137, kvN 2, kvN 1, kvN 2], []), ([], []), (166, []))
def kC423_4 : aC := (([kvB 0 7, kvB 0 7, kvB 0 7, kvB 0 2, (.negSucc 0, .ofNat 99)], [(102, 29, .inl (4, .ofNat 0)), (102, 30, .inr (.ofNat 2))], 110, [kvR 102, kvI 0, kvI 1, kvI 2, kvN 137, kvN 2, kvN 1, kvI 3], []), ([], []), (2, [(-1, 3)]))
theorem ks423 : aseg kS krf kB [kE43, kE89, kE359, kE391, kE407, kE419, kE421] (ksp [(192, 200, 7, 0, 7, 0)]) kE423 [kC423_0, kC423_1, kC423_2, kC423_3, kC423_4] 30000 (none) = true := by decide +kernel
theorem ks423_0 : aseg kS krf kB [kE43, kE89, kE359, kE391, kE407, kE419, kE421] (ksp [(192, 200, 7, 0, 7, 0)]) kE423 [kC423_0, kC423_1, kC423_2, kC423_3, kC423_4] 30000 (some kC423_0) = true := by decide +kernel
theorem ks423_1 : aseg kS krf kB [kE43, kE89, kE359, kE391, kE407, kE419, kE421] (ksp [(192, 200, 7, 0, 7, 0)]) kE423 [kC423_0, kC423_1, kC423_2, kC423_3, kC423_4] 30000 (some kC423_1) = true := by decide +kernel
theorem ks423_2 : aseg kS krf kB [kE43, kE89, kE359, kE391, kE407, kE419, kE421] (ksp [(192, 200, 7, 0, 7, 0)]) kE423 [kC423_0, kC423_1, kC423_2, kC423_3, kC423_4] 30000 (some kC423_2) = true := by decide +kernel
theorem ks423_3 : aseg kS krf kB [kE43, kE89, kE359, kE391, kE407, kE419, kE421] (ksp [(192, 200, 7, 0, 7, 0)]) kE423 [kC423_0, kC423_1, kC423_2, kC423_3, kC423_4] 30000 (some kC423_3) = true := by decide +kernel
theorem ks423_4 : aseg kS krf kB [kE43, kE89, kE359, kE391, kE407, kE419, kE421] (ksp [(192, 200, 7, 0, 7, 0)]) kE423 [kC423_0, kC423_1, kC423_2, kC423_3, kC423_4] 30000 (some kC423_4) = true := by decide +kernel
theorem kok423 : aOK kS krf kB kE423 := aOK_of (kal1 kok43 (kal1 kok89 (kal1 kok359 (kal1 kok391 (kal1 kok407 (kal1 kok419 (kal1 kok421 kal0))))))) (kcl1 ks423_0 (kcl1 ks423_1 (kcl1 ks423_2 (kcl1 ks423_3 (kcl1 ks423_4 kcl0))))) ks423
/-- ColdShodModel.triesWay(IIIII)V -/
def kE424 : aE := (192, 52, ([kvB 0 7, kvB 0 7, kvB 0 7], [], 0, [kvR 102, kvI 0, kvI 1, kvI 2, kvN 136, kvN 1, none, none], []), ([], none), ([], [], none, ([], [])), kvW67)
def kC424_0 : aC := (([kvB 0 7, kvB 0 7, kvB 0 7, kvB 0 1, kvB 0 1], [], 16, [kvR 102, kvI 0, kvI 1, kvI 2, kvN 136, kvN 1, kvI 3, kvI 4], []), ([], []), (333, [(-1, 4)]))
def kC424_1 : aC := (([kvB 0 7, kvB 0 7, kvB 0 7, kvB 0 12], [], 141, [kvR 102, kvI 0, kvI 1, kvI 2, kvN 136, kvN 1, kvI 3, none], []), ([], []), (141, [(-11, 3)]))
def kC424_2 : aC := (([kvB 0 7, kvB 0 7, kvB 0 7, kvB 0 11, (.negSucc 0, .ofNat 7), kvB 1 12], [(102, 8, .inl (5, .ofNat 0))], 195, [kvR 102, kvI 0, kvI 1, kvI 2, kvN 136, kvN 1, kvI 3, kvI 4], []), ([], []), (139, [(-11, 3), (-1, 4)]))
def kC424_3 : aC := (([kvB 0 7, kvB 0 7, kvB 0 7, (.negSucc 0, .ofNat 2147483647)], [(102, 29, .inl (3, .ofNat 0))], 91, [kvR 102, kvI 0, kvI 1, kvI 2, kvN 136, kvN 1, kvN 1, kvN 1], []), ([], []), (166, []))
def kC424_4 : aC := (([kvB 0 7, kvB 0 7, kvB 0 7, kvB 0 1, (.negSucc 0, .ofNat 99)], [(102, 29, .inl (4, .ofNat 0)), (102, 30, .inr (.ofNat 1))], 110, [kvR 102, kvI 0, kvI 1, kvI 2, kvN 136, kvN 1, kvN 1, kvI 3], []), ([], []), (1, [(-1, 3)]))
theorem ks424 : aseg kS krf kB [kE43, kE89, kE360, kE392, kE408, kE420, kE422, kE423] (ksp [(192, 200, 7, 0, 7, 0)]) kE424 [kC424_0, kC424_1, kC424_2, kC424_3, kC424_4] 30000 (none) = true := by decide +kernel
theorem ks424_0 : aseg kS krf kB [kE43, kE89, kE360, kE392, kE408, kE420, kE422, kE423] (ksp [(192, 200, 7, 0, 7, 0)]) kE424 [kC424_0, kC424_1, kC424_2, kC424_3, kC424_4] 30000 (some kC424_0) = true := by decide +kernel
theorem ks424_1 : aseg kS krf kB [kE43, kE89, kE360, kE392, kE408, kE420, kE422, kE423] (ksp [(192, 200, 7, 0, 7, 0)]) kE424 [kC424_0, kC424_1, kC424_2, kC424_3, kC424_4] 30000 (some kC424_1) = true := by decide +kernel
theorem ks424_2 : aseg kS krf kB [kE43, kE89, kE360, kE392, kE408, kE420, kE422, kE423] (ksp [(192, 200, 7, 0, 7, 0)]) kE424 [kC424_0, kC424_1, kC424_2, kC424_3, kC424_4] 30000 (some kC424_2) = true := by decide +kernel
theorem ks424_3 : aseg kS krf kB [kE43, kE89, kE360, kE392, kE408, kE420, kE422, kE423] (ksp [(192, 200, 7, 0, 7, 0)]) kE424 [kC424_0, kC424_1, kC424_2, kC424_3, kC424_4] 30000 (some kC424_3) = true := by decide +kernel
theorem ks424_4 : aseg kS krf kB [kE43, kE89, kE360, kE392, kE408, kE420, kE422, kE423] (ksp [(192, 200, 7, 0, 7, 0)]) kE424 [kC424_0, kC424_1, kC424_2, kC424_3, kC424_4] 30000 (some kC424_4) = true := by decide +kernel
theorem kok424 : aOK kS krf kB kE424 := aOK_of (kal1 kok43 (kal1 kok89 (kal1 kok360 (kal1 kok392 (kal1 kok408 (kal1 kok420 (kal1 kok422 (kal1 kok423 kal0)))))))) (kcl1 ks424_0 (kcl1 ks424_1 (kcl1 ks424_2 (kcl1 ks424_3 (kcl1 ks424_4 kcl0))))) ks424
/-- ColdShodModel.triesWay(IIIII)V -/
def kE425 : aE := (192, 50, ([kvB 0 7, kvB 0 7, kvB 0 7], [], 0, [kvR 102, kvI 0, kvI 1, kvI 2, kvN 135, kvN 3, none, none], []), ([], none), ([], [], none, ([], [])), kvW65)
def kC425_0 : aC := (([kvB 0 7, kvB 0 7, kvB 0 7, kvB 0 1, kvB 0 3], [], 16, [kvR 102, kvI 0, kvI 1, kvI 2, kvN 135, kvN 3, kvI 3, kvI 4], []), ([], []), (335, [(-1, 4)]))
def kC425_1 : aC := (([kvB 0 7, kvB 0 7, kvB 0 7, kvB 0 12], [], 141, [kvR 102, kvI 0, kvI 1, kvI 2, kvN 135, kvN 3, kvI 3, none], []), ([], []), (141, [(-11, 3)]))
def kC425_2 : aC := (([kvB 0 7, kvB 0 7, kvB 0 7, kvB 0 11, (.negSucc 0, .ofNat 7), kvB 1 12], [(102, 8, .inl (5, .ofNat 0))], 195, [kvR 102, kvI 0, kvI 1, kvI 2, kvN 135, kvN 3, kvI 3, kvI 4], []), ([], []), (139, [(-11, 3), (-1, 4)]))
def kC425_3 : aC := (([kvB 0 7, kvB 0 7, kvB 0 7, (.negSucc 0, .ofNat 2147483647)], [(102, 29, .inl (3, .ofNat 0))], 91, [kvR 102, kvI 0, kvI 1, kvI 2, kvN 135, kvN 3, kvN 1, kvN 3], []), ([], []), (166, []))
def kC425_4 : aC := (([kvB 0 7, kvB 0 7, kvB 0 7, kvB 0 3, (.negSucc 0, .ofNat 99)], [(102, 29, .inl (4, .ofNat 0)), (102, 30, .inr (.ofNat 3))], 110, [kvR 102, kvI 0, kvI 1, kvI 2, kvN 135, kvN 3, kvN 1, kvI 3], []), ([], []), (3, [(-1, 3)]))
theorem ks425 : aseg kS krf kB [kE43, kE89, kE361, kE393, kE409, kE417] (ksp [(192, 200, 7, 0, 7, 0)]) kE425 [kC425_0, kC425_1, kC425_2, kC425_3, kC425_4] 30000 (none) = true := by decide +kernel
theorem ks425_0 : aseg kS krf kB [kE43, kE89, kE361, kE393, kE409, kE417] (ksp [(192, 200, 7, 0, 7, 0)]) kE425 [kC425_0, kC425_1, kC425_2, kC425_3, kC425_4] 30000 (some kC425_0) = true := by decide +kernel
theorem ks425_1 : aseg kS krf kB [kE43, kE89, kE361, kE393, kE409, kE417] (ksp [(192, 200, 7, 0, 7, 0)]) kE425 [kC425_0, kC425_1, kC425_2, kC425_3, kC425_4] 30000 (some kC425_1) = true := by decide +kernel
theorem ks425_2 : aseg kS krf kB [kE43, kE89, kE361, kE393, kE409, kE417] (ksp [(192, 200, 7, 0, 7, 0)]) kE425 [kC425_0, kC425_1, kC425_2, kC425_3, kC425_4] 30000 (some kC425_2) = true := by decide +kernel
theorem ks425_3 : aseg kS krf kB [kE43, kE89, kE361, kE393, kE409, kE417] (ksp [(192, 200, 7, 0, 7, 0)]) kE425 [kC425_0, kC425_1, kC425_2, kC425_3, kC425_4] 30000 (some kC425_3) = true := by decide +kernel
theorem ks425_4 : aseg kS krf kB [kE43, kE89, kE361, kE393, kE409, kE417] (ksp [(192, 200, 7, 0, 7, 0)]) kE425 [kC425_0, kC425_1, kC425_2, kC425_3, kC425_4] 30000 (some kC425_4) = true := by decide +kernel
theorem kok425 : aOK kS krf kB kE425 := aOK_of (kal1 kok43 (kal1 kok89 (kal1 kok361 (kal1 kok393 (kal1 kok409 (kal1 kok417 kal0)))))) (kcl1 ks425_0 (kcl1 ks425_1 (kcl1 ks425_2 (kcl1 ks425_3 (kcl1 ks425_4 kcl0))))) ks425
/-- ColdShodModel.triesWay(IIIII)V -/
def kE426 : aE := (192, 51, ([kvB 0 7, kvB 0 7, kvB 0 7], [], 0, [kvR 102, kvI 0, kvI 1, kvI 2, kvN 134, kvN 2, none, none], []), ([], none), ([], [], none, ([], [])), kvW66)
def kC426_0 : aC := (([kvB 0 7, kvB 0 7, kvB 0 7, kvB 0 1, kvB 0 2], [], 16, [kvR 102, kvI 0, kvI 1, kvI 2, kvN 134, kvN 2, kvI 3, kvI 4], []), ([], []), (334, [(-1, 4)]))
def kC426_1 : aC := (([kvB 0 7, kvB 0 7, kvB 0 7, kvB 0 12], [], 141, [kvR 102, kvI 0, kvI 1, kvI 2, kvN 134, kvN 2, kvI 3, none], []), ([], []), (141, [(-11, 3)]))
def kC426_2 : aC := (([kvB 0 7, kvB 0 7, kvB 0 7, kvB 0 11, (.negSucc 0, .ofNat 7), kvB 1 12], [(102, 8, .inl (5, .ofNat 0))], 195, [kvR 102, kvI 0, kvI 1, kvI 2, kvN 134, kvN 2, kvI 3, kvI 4], []), ([], []), (139, [(-11, 3), (-1, 4)]))
def kC426_3 : aC := (([kvB 0 7, kvB 0 7, kvB 0 7, (.negSucc 0, .ofNat 2147483647)], [(102, 29, .inl (3, .ofNat 0))], 91, [kvR 102, kvI 0, kvI 1, kvI 2, kvN 134, kvN 2, kvN 1, kvN 2], []), ([], []), (166, []))
def kC426_4 : aC := (([kvB 0 7, kvB 0 7, kvB 0 7, kvB 0 2, (.negSucc 0, .ofNat 99)], [(102, 29, .inl (4, .ofNat 0)), (102, 30, .inr (.ofNat 2))], 110, [kvR 102, kvI 0, kvI 1, kvI 2, kvN 134, kvN 2, kvN 1, kvI 3], []), ([], []), (2, [(-1, 3)]))
theorem ks426 : aseg kS krf kB [kE43, kE89, kE362, kE394, kE410, kE418, kE425] (ksp [(192, 200, 7, 0, 7, 0)]) kE426 [kC426_0, kC426_1, kC426_2, kC426_3, kC426_4] 30000 (none) = true := by decide +kernel
theorem ks426_0 : aseg kS krf kB [kE43, kE89, kE362, kE394, kE410, kE418, kE425] (ksp [(192, 200, 7, 0, 7, 0)]) kE426 [kC426_0, kC426_1, kC426_2, kC426_3, kC426_4] 30000 (some kC426_0) = true := by decide +kernel
theorem ks426_1 : aseg kS krf kB [kE43, kE89, kE362, kE394, kE410, kE418, kE425] (ksp [(192, 200, 7, 0, 7, 0)]) kE426 [kC426_0, kC426_1, kC426_2, kC426_3, kC426_4] 30000 (some kC426_1) = true := by decide +kernel
theorem ks426_2 : aseg kS krf kB [kE43, kE89, kE362, kE394, kE410, kE418, kE425] (ksp [(192, 200, 7, 0, 7, 0)]) kE426 [kC426_0, kC426_1, kC426_2, kC426_3, kC426_4] 30000 (some kC426_2) = true := by decide +kernel
theorem ks426_3 : aseg kS krf kB [kE43, kE89, kE362, kE394, kE410, kE418, kE425] (ksp [(192, 200, 7, 0, 7, 0)]) kE426 [kC426_0, kC426_1, kC426_2, kC426_3, kC426_4] 30000 (some kC426_3) = true := by decide +kernel
theorem ks426_4 : aseg kS krf kB [kE43, kE89, kE362, kE394, kE410, kE418, kE425] (ksp [(192, 200, 7, 0, 7, 0)]) kE426 [kC426_0, kC426_1, kC426_2, kC426_3, kC426_4] 30000 (some kC426_4) = true := by decide +kernel
theorem kok426 : aOK kS krf kB kE426 := aOK_of (kal1 kok43 (kal1 kok89 (kal1 kok362 (kal1 kok394 (kal1 kok410 (kal1 kok418 (kal1 kok425 kal0))))))) (kcl1 ks426_0 (kcl1 ks426_1 (kcl1 ks426_2 (kcl1 ks426_3 (kcl1 ks426_4 kcl0))))) ks426
/-- ColdShodModel.triesWay(IIIII)V -/
def kE427 : aE := (192, 51, ([kvB 0 7, kvB 0 7, kvB 0 7], [], 0, [kvR 102, kvI 0, kvI 1, kvI 2, kvN 133, kvN 2, none, none], []), ([], none), ([], [], none, ([], [])), kvW66)
def kC427_0 : aC := (([kvB 0 7, kvB 0 7, kvB 0 7, kvB 0 1, kvB 0 2], [], 16, [kvR 102, kvI 0, kvI 1, kvI 2, kvN 133, kvN 2, kvI 3, kvI 4], []), ([], []), (334, [(-1, 4)]))
def kC427_1 : aC := (([kvB 0 7, kvB 0 7, kvB 0 7, kvB 0 12], [], 141, [kvR 102, kvI 0, kvI 1, kvI 2, kvN 133, kvN 2, kvI 3, none], []), ([], []), (141, [(-11, 3)]))
def kC427_2 : aC := (([kvB 0 7, kvB 0 7, kvB 0 7, kvB 0 11, (.negSucc 0, .ofNat 7), kvB 1 12], [(102, 8, .inl (5, .ofNat 0))], 195, [kvR 102, kvI 0, kvI 1, kvI 2, kvN 133, kvN 2, kvI 3, kvI 4], []), ([], []), (139, [(-11, 3), (-1, 4)]))
def kC427_3 : aC := (([kvB 0 7, kvB 0 7, kvB 0 7, (.negSucc 0, .ofNat 2147483647)], [(102, 29, .inl (3, .ofNat 0))], 91, [kvR 102, kvI 0, kvI 1, kvI 2, kvN 133, kvN 2, kvN 1, kvN 2], []), ([], []), (166, []))
def kC427_4 : aC := (([kvB 0 7, kvB 0 7, kvB 0 7, kvB 0 2, (.negSucc 0, .ofNat 99)], [(102, 29, .inl (4, .ofNat 0)), (102, 30, .inr (.ofNat 2))], 110, [kvR 102, kvI 0, kvI 1, kvI 2, kvN 133, kvN 2, kvN 1, kvI 3], []), ([], []), (2, [(-1, 3)]))
theorem ks427 : aseg kS krf kB [kE43, kE89, kE363, kE395, kE411, kE419, kE425] (ksp [(192, 200, 7, 0, 7, 0)]) kE427 [kC427_0, kC427_1, kC427_2, kC427_3, kC427_4] 30000 (none) = true := by decide +kernel
theorem ks427_0 : aseg kS krf kB [kE43, kE89, kE363, kE395, kE411, kE419, kE425] (ksp [(192, 200, 7, 0, 7, 0)]) kE427 [kC427_0, kC427_1, kC427_2, kC427_3, kC427_4] 30000 (some kC427_0) = true := by decide +kernel
theorem ks427_1 : aseg kS krf kB [kE43, kE89, kE363, kE395, kE411, kE419, kE425] (ksp [(192, 200, 7, 0, 7, 0)]) kE427 [kC427_0, kC427_1, kC427_2, kC427_3, kC427_4] 30000 (some kC427_1) = true := by decide +kernel
theorem ks427_2 : aseg kS krf kB [kE43, kE89, kE363, kE395, kE411, kE419, kE425] (ksp [(192, 200, 7, 0, 7, 0)]) kE427 [kC427_0, kC427_1, kC427_2, kC427_3, kC427_4] 30000 (some kC427_2) = true := by decide +kernel
theorem ks427_3 : aseg kS krf kB [kE43, kE89, kE363, kE395, kE411, kE419, kE425] (ksp [(192, 200, 7, 0, 7, 0)]) kE427 [kC427_0, kC427_1, kC427_2, kC427_3, kC427_4] 30000 (some kC427_3) = true := by decide +kernel
theorem ks427_4 : aseg kS krf kB [kE43, kE89, kE363, kE395, kE411, kE419, kE425] (ksp [(192, 200, 7, 0, 7, 0)]) kE427 [kC427_0, kC427_1, kC427_2, kC427_3, kC427_4] 30000 (some kC427_4) = true := by decide +kernel
theorem kok427 : aOK kS krf kB kE427 := aOK_of (kal1 kok43 (kal1 kok89 (kal1 kok363 (kal1 kok395 (kal1 kok411 (kal1 kok419 (kal1 kok425 kal0))))))) (kcl1 ks427_0 (kcl1 ks427_1 (kcl1 ks427_2 (kcl1 ks427_3 (kcl1 ks427_4 kcl0))))) ks427
/-- ColdShodModel.triesWay(IIIII)V -/
def kE428 : aE := (192, 52, ([kvB 0 7, kvB 0 7, kvB 0 7], [], 0, [kvR 102, kvI 0, kvI 1, kvI 2, kvN 132, kvN 1, none, none], []), ([], none), ([], [], none, ([], [])), kvW67)
def kC428_0 : aC := (([kvB 0 7, kvB 0 7, kvB 0 7, kvB 0 1, kvB 0 1], [], 16, [kvR 102, kvI 0, kvI 1, kvI 2, kvN 132, kvN 1, kvI 3, kvI 4], []), ([], []), (333, [(-1, 4)]))
def kC428_1 : aC := (([kvB 0 7, kvB 0 7, kvB 0 7, kvB 0 12], [], 141, [kvR 102, kvI 0, kvI 1, kvI 2, kvN 132, kvN 1, kvI 3, none], []), ([], []), (141, [(-11, 3)]))
def kC428_2 : aC := (([kvB 0 7, kvB 0 7, kvB 0 7, kvB 0 11, (.negSucc 0, .ofNat 7), kvB 1 12], [(102, 8, .inl (5, .ofNat 0))], 195, [kvR 102, kvI 0, kvI 1, kvI 2, kvN 132, kvN 1, kvI 3, kvI 4], []), ([], []), (139, [(-11, 3), (-1, 4)]))
def kC428_3 : aC := (([kvB 0 7, kvB 0 7, kvB 0 7, (.negSucc 0, .ofNat 2147483647)], [(102, 29, .inl (3, .ofNat 0))], 91, [kvR 102, kvI 0, kvI 1, kvI 2, kvN 132, kvN 1, kvN 1, kvN 1], []), ([], []), (166, []))
def kC428_4 : aC := (([kvB 0 7, kvB 0 7, kvB 0 7, kvB 0 1, (.negSucc 0, .ofNat 99)], [(102, 29, .inl (4, .ofNat 0)), (102, 30, .inr (.ofNat 1))], 110, [kvR 102, kvI 0, kvI 1, kvI 2, kvN 132, kvN 1, kvN 1, kvI 3], []), ([], []), (1, [(-1, 3)]))
theorem ks428 : aseg kS krf kB [kE43, kE89, kE364, kE396, kE412, kE420, kE426, kE427] (ksp [(192, 200, 7, 0, 7, 0)]) kE428 [kC428_0, kC428_1, kC428_2, kC428_3, kC428_4] 30000 (none) = true := by decide +kernel
theorem ks428_0 : aseg kS krf kB [kE43, kE89, kE364, kE396, kE412, kE420, kE426, kE427] (ksp [(192, 200, 7, 0, 7, 0)]) kE428 [kC428_0, kC428_1, kC428_2, kC428_3, kC428_4] 30000 (some kC428_0) = true := by decide +kernel
theorem ks428_1 : aseg kS krf kB [kE43, kE89, kE364, kE396, kE412, kE420, kE426, kE427] (ksp [(192, 200, 7, 0, 7, 0)]) kE428 [kC428_0, kC428_1, kC428_2, kC428_3, kC428_4] 30000 (some kC428_1) = true := by decide +kernel
theorem ks428_2 : aseg kS krf kB [kE43, kE89, kE364, kE396, kE412, kE420, kE426, kE427] (ksp [(192, 200, 7, 0, 7, 0)]) kE428 [kC428_0, kC428_1, kC428_2, kC428_3, kC428_4] 30000 (some kC428_2) = true := by decide +kernel
theorem ks428_3 : aseg kS krf kB [kE43, kE89, kE364, kE396, kE412, kE420, kE426, kE427] (ksp [(192, 200, 7, 0, 7, 0)]) kE428 [kC428_0, kC428_1, kC428_2, kC428_3, kC428_4] 30000 (some kC428_3) = true := by decide +kernel
theorem ks428_4 : aseg kS krf kB [kE43, kE89, kE364, kE396, kE412, kE420, kE426, kE427] (ksp [(192, 200, 7, 0, 7, 0)]) kE428 [kC428_0, kC428_1, kC428_2, kC428_3, kC428_4] 30000 (some kC428_4) = true := by decide +kernel
theorem kok428 : aOK kS krf kB kE428 := aOK_of (kal1 kok43 (kal1 kok89 (kal1 kok364 (kal1 kok396 (kal1 kok412 (kal1 kok420 (kal1 kok426 (kal1 kok427 kal0)))))))) (kcl1 ks428_0 (kcl1 ks428_1 (kcl1 ks428_2 (kcl1 ks428_3 (kcl1 ks428_4 kcl0))))) ks428
/-- ColdShodModel.triesWay(IIIII)V -/
def kE429 : aE := (192, 51, ([kvB 0 7, kvB 0 7, kvB 0 7], [], 0, [kvR 102, kvI 0, kvI 1, kvI 2, kvN 131, kvN 2, none, none], []), ([], none), ([], [], none, ([], [])), kvW66)
def kC429_0 : aC := (([kvB 0 7, kvB 0 7, kvB 0 7, kvB 0 1, kvB 0 2], [], 16, [kvR 102, kvI 0, kvI 1, kvI 2, kvN 131, kvN 2, kvI 3, kvI 4], []), ([], []), (334, [(-1, 4)]))
def kC429_1 : aC := (([kvB 0 7, kvB 0 7, kvB 0 7, kvB 0 12], [], 141, [kvR 102, kvI 0, kvI 1, kvI 2, kvN 131, kvN 2, kvI 3, none], []), ([], []), (141, [(-11, 3)]))
def kC429_2 : aC := (([kvB 0 7, kvB 0 7, kvB 0 7, kvB 0 11, (.negSucc 0, .ofNat 7), kvB 1 12], [(102, 8, .inl (5, .ofNat 0))], 195, [kvR 102, kvI 0, kvI 1, kvI 2, kvN 131, kvN 2, kvI 3, kvI 4], []), ([], []), (139, [(-11, 3), (-1, 4)]))
def kC429_3 : aC := (([kvB 0 7, kvB 0 7, kvB 0 7, (.negSucc 0, .ofNat 2147483647)], [(102, 29, .inl (3, .ofNat 0))], 91, [kvR 102, kvI 0, kvI 1, kvI 2, kvN 131, kvN 2, kvN 1, kvN 2], []), ([], []), (166, []))
def kC429_4 : aC := (([kvB 0 7, kvB 0 7, kvB 0 7, kvB 0 2, (.negSucc 0, .ofNat 99)], [(102, 29, .inl (4, .ofNat 0)), (102, 30, .inr (.ofNat 2))], 110, [kvR 102, kvI 0, kvI 1, kvI 2, kvN 131, kvN 2, kvN 1, kvI 3], []), ([], []), (2, [(-1, 3)]))
theorem ks429 : aseg kS krf kB [kE43, kE89, kE365, kE397, kE413, kE421, kE425] (ksp [(192, 200, 7, 0, 7, 0)]) kE429 [kC429_0, kC429_1, kC429_2, kC429_3, kC429_4] 30000 (none) = true := by decide +kernel
theorem ks429_0 : aseg kS krf kB [kE43, kE89, kE365, kE397, kE413, kE421, kE425] (ksp [(192, 200, 7, 0, 7, 0)]) kE429 [kC429_0, kC429_1, kC429_2, kC429_3, kC429_4] 30000 (some kC429_0) = true := by decide +kernel
theorem ks429_1 : aseg kS krf kB [kE43, kE89, kE365, kE397, kE413, kE421, kE425] (ksp [(192, 200, 7, 0, 7, 0)]) kE429 [kC429_0, kC429_1, kC429_2, kC429_3, kC429_4] 30000 (some kC429_1) = true := by decide +kernel
theorem ks429_2 : aseg kS krf kB [kE43, kE89, kE365, kE397, kE413, kE421, kE425] (ksp [(192, 200, 7, 0, 7, 0)]) kE429 [kC429_0, kC429_1, kC429_2, kC429_3, kC429_4] 30000 (some kC429_2) = true := by decide +kernel
theorem ks429_3 : aseg kS krf kB [kE43, kE89, kE365, kE397, kE413, kE421, kE425] (ksp [(192, 200, 7, 0, 7, 0)]) kE429 [kC429_0, kC429_1, kC429_2, kC429_3, kC429_4] 30000 (some kC429_3) = true := by decide +kernel
theorem ks429_4 : aseg kS krf kB [kE43, kE89, kE365, kE397, kE413, kE421, kE425] (ksp [(192, 200, 7, 0, 7, 0)]) kE429 [kC429_0, kC429_1, kC429_2, kC429_3, kC429_4] 30000 (some kC429_4) = true := by decide +kernel
theorem kok429 : aOK kS krf kB kE429 := aOK_of (kal1 kok43 (kal1 kok89 (kal1 kok365 (kal1 kok397 (kal1 kok413 (kal1 kok421 (kal1 kok425 kal0))))))) (kcl1 ks429_0 (kcl1 ks429_1 (kcl1 ks429_2 (kcl1 ks429_3 (kcl1 ks429_4 kcl0))))) ks429
/-- ColdShodModel.triesWay(IIIII)V -/
def kE430 : aE := (192, 52, ([kvB 0 7, kvB 0 7, kvB 0 7], [], 0, [kvR 102, kvI 0, kvI 1, kvI 2, kvN 130, kvN 1, none, none], []), ([], none), ([], [], none, ([], [])), kvW67)
def kC430_0 : aC := (([kvB 0 7, kvB 0 7, kvB 0 7, kvB 0 1, kvB 0 1], [], 16, [kvR 102, kvI 0, kvI 1, kvI 2, kvN 130, kvN 1, kvI 3, kvI 4], []), ([], []), (333, [(-1, 4)]))
def kC430_1 : aC := (([kvB 0 7, kvB 0 7, kvB 0 7, kvB 0 12], [], 141, [kvR 102, kvI 0, kvI 1, kvI 2, kvN 130, kvN 1, kvI 3, none], []), ([], []), (141, [(-11, 3)]))
def kC430_2 : aC := (([kvB 0 7, kvB 0 7, kvB 0 7, kvB 0 11, (.negSucc 0, .ofNat 7), kvB 1 12], [(102, 8, .inl (5, .ofNat 0))], 195, [kvR 102, kvI 0, kvI 1, kvI 2, kvN 130, kvN 1, kvI 3, kvI 4], []), ([], []), (139, [(-11, 3), (-1, 4)]))
def kC430_3 : aC := (([kvB 0 7, kvB 0 7, kvB 0 7, (.negSucc 0, .ofNat 2147483647)], [(102, 29, .inl (3, .ofNat 0))], 91, [kvR 102, kvI 0, kvI 1, kvI 2, kvN 130, kvN 1, kvN 1, kvN 1], []), ([], []), (166, []))
def kC430_4 : aC := (([kvB 0 7, kvB 0 7, kvB 0 7, kvB 0 1, (.negSucc 0, .ofNat 99)], [(102, 29, .inl (4, .ofNat 0)), (102, 30, .inr (.ofNat 1))], 110, [kvR 102, kvI 0, kvI 1, kvI 2, kvN 130, kvN 1, kvN 1, kvI 3], []), ([], []), (1, [(-1, 3)]))
theorem ks430 : aseg kS krf kB [kE43, kE89, kE366, kE398, kE414, kE422, kE426, kE429] (ksp [(192, 200, 7, 0, 7, 0)]) kE430 [kC430_0, kC430_1, kC430_2, kC430_3, kC430_4] 30000 (none) = true := by decide +kernel
theorem ks430_0 : aseg kS krf kB [kE43, kE89, kE366, kE398, kE414, kE422, kE426, kE429] (ksp [(192, 200, 7, 0, 7, 0)]) kE430 [kC430_0, kC430_1, kC430_2, kC430_3, kC430_4] 30000 (some kC430_0) = true := by decide +kernel
theorem ks430_1 : aseg kS krf kB [kE43, kE89, kE366, kE398, kE414, kE422, kE426, kE429] (ksp [(192, 200, 7, 0, 7, 0)]) kE430 [kC430_0, kC430_1, kC430_2, kC430_3, kC430_4] 30000 (some kC430_1) = true := by decide +kernel
theorem ks430_2 : aseg kS krf kB [kE43, kE89, kE366, kE398, kE414, kE422, kE426, kE429] (ksp [(192, 200, 7, 0, 7, 0)]) kE430 [kC430_0, kC430_1, kC430_2, kC430_3, kC430_4] 30000 (some kC430_2) = true := by decide +kernel
theorem ks430_3 : aseg kS krf kB [kE43, kE89, kE366, kE398, kE414, kE422, kE426, kE429] (ksp [(192, 200, 7, 0, 7, 0)]) kE430 [kC430_0, kC430_1, kC430_2, kC430_3, kC430_4] 30000 (some kC430_3) = true := by decide +kernel
theorem ks430_4 : aseg kS krf kB [kE43, kE89, kE366, kE398, kE414, kE422, kE426, kE429] (ksp [(192, 200, 7, 0, 7, 0)]) kE430 [kC430_0, kC430_1, kC430_2, kC430_3, kC430_4] 30000 (some kC430_4) = true := by decide +kernel
theorem kok430 : aOK kS krf kB kE430 := aOK_of (kal1 kok43 (kal1 kok89 (kal1 kok366 (kal1 kok398 (kal1 kok414 (kal1 kok422 (kal1 kok426 (kal1 kok429 kal0)))))))) (kcl1 ks430_0 (kcl1 ks430_1 (kcl1 ks430_2 (kcl1 ks430_3 (kcl1 ks430_4 kcl0))))) ks430
/-- ColdShodModel.triesWay(IIIII)V -/
def kE431 : aE := (192, 52, ([kvB 0 7, kvB 0 7, kvB 0 7], [], 0, [kvR 102, kvI 0, kvI 1, kvI 2, kvN 129, kvN 1, none, none], []), ([], none), ([], [], none, ([], [])), kvW67)
def kC431_0 : aC := (([kvB 0 7, kvB 0 7, kvB 0 7, kvB 0 1, kvB 0 1], [], 16, [kvR 102, kvI 0, kvI 1, kvI 2, kvN 129, kvN 1, kvI 3, kvI 4], []), ([], []), (333, [(-1, 4)]))
def kC431_1 : aC := (([kvB 0 7, kvB 0 7, kvB 0 7, kvB 0 12], [], 141, [kvR 102, kvI 0, kvI 1, kvI 2, kvN 129, kvN 1, kvI 3, none], []), ([], []), (141, [(-11, 3)]))
def kC431_2 : aC := (([kvB 0 7, kvB 0 7, kvB 0 7, kvB 0 11, (.negSucc 0, .ofNat 7), kvB 1 12], [(102, 8, .inl (5, .ofNat 0))], 195, [kvR 102, kvI 0, kvI 1, kvI 2, kvN 129, kvN 1, kvI 3, kvI 4], []), ([], []), (139, [(-11, 3), (-1, 4)]))
def kC431_3 : aC := (([kvB 0 7, kvB 0 7, kvB 0 7, (.negSucc 0, .ofNat 2147483647)], [(102, 29, .inl (3, .ofNat 0))], 91, [kvR 102, kvI 0, kvI 1, kvI 2, kvN 129, kvN 1, kvN 1, kvN 1], []), ([], []), (166, []))
def kC431_4 : aC := (([kvB 0 7, kvB 0 7, kvB 0 7, kvB 0 1, (.negSucc 0, .ofNat 99)], [(102, 29, .inl (4, .ofNat 0)), (102, 30, .inr (.ofNat 1))], 110, [kvR 102, kvI 0, kvI 1, kvI 2, kvN 129, kvN 1, kvN 1, kvI 3], []), ([], []), (1, [(-1, 3)]))
theorem ks431 : aseg kS krf kB [kE43, kE89, kE367, kE399, kE415, kE423, kE427, kE429] (ksp [(192, 200, 7, 0, 7, 0)]) kE431 [kC431_0, kC431_1, kC431_2, kC431_3, kC431_4] 30000 (none) = true := by decide +kernel
theorem ks431_0 : aseg kS krf kB [kE43, kE89, kE367, kE399, kE415, kE423, kE427, kE429] (ksp [(192, 200, 7, 0, 7, 0)]) kE431 [kC431_0, kC431_1, kC431_2, kC431_3, kC431_4] 30000 (some kC431_0) = true := by decide +kernel
theorem ks431_1 : aseg kS krf kB [kE43, kE89, kE367, kE399, kE415, kE423, kE427, kE429] (ksp [(192, 200, 7, 0, 7, 0)]) kE431 [kC431_0, kC431_1, kC431_2, kC431_3, kC431_4] 30000 (some kC431_1) = true := by decide +kernel
theorem ks431_2 : aseg kS krf kB [kE43, kE89, kE367, kE399, kE415, kE423, kE427, kE429] (ksp [(192, 200, 7, 0, 7, 0)]) kE431 [kC431_0, kC431_1, kC431_2, kC431_3, kC431_4] 30000 (some kC431_2) = true := by decide +kernel
theorem ks431_3 : aseg kS krf kB [kE43, kE89, kE367, kE399, kE415, kE423, kE427, kE429] (ksp [(192, 200, 7, 0, 7, 0)]) kE431 [kC431_0, kC431_1, kC431_2, kC431_3, kC431_4] 30000 (some kC431_3) = true := by decide +kernel
theorem ks431_4 : aseg kS krf kB [kE43, kE89, kE367, kE399, kE415, kE423, kE427, kE429] (ksp [(192, 200, 7, 0, 7, 0)]) kE431 [kC431_0, kC431_1, kC431_2, kC431_3, kC431_4] 30000 (some kC431_4) = true := by decide +kernel
theorem kok431 : aOK kS krf kB kE431 := aOK_of (kal1 kok43 (kal1 kok89 (kal1 kok367 (kal1 kok399 (kal1 kok415 (kal1 kok423 (kal1 kok427 (kal1 kok429 kal0)))))))) (kcl1 ks431_0 (kcl1 ks431_1 (kcl1 ks431_2 (kcl1 ks431_3 (kcl1 ks431_4 kcl0))))) ks431
/-- ColdShodModel.triesWay(IIIII)V -/
def kE432 : aE := (192, 53, ([kvB 0 7, kvB 0 7, kvB 0 7], [], 0, [kvR 102, kvI 0, kvI 1, kvI 2, kvN 128, kvN 0, none, none], []), ([], none), ([], [], none, ([], [])), kvW68)
def kC432_0 : aC := (([kvB 0 7, kvB 0 7, kvB 0 7], [], 16, [kvR 102, kvI 0, kvI 1, kvI 2, kvN 128, kvN 0, kvN 1, kvN 0], []), ([], []), (332, []))
def kC432_1 : aC := (([kvB 0 7, kvB 0 7, kvB 0 7, kvB 0 12], [], 141, [kvR 102, kvI 0, kvI 1, kvI 2, kvN 128, kvN 0, kvI 3, none], []), ([], []), (141, [(-11, 3)]))
def kC432_2 : aC := (([kvB 0 7, kvB 0 7, kvB 0 7, (.negSucc 0, .ofNat 2147483647)], [(102, 29, .inl (3, .ofNat 0))], 91, [kvR 102, kvI 0, kvI 1, kvI 2, kvN 128, kvN 0, kvN 1, kvN 0], []), ([], []), (166, []))
def kC432_3 : aC := (([kvB 0 7, kvB 0 7, kvB 0 7, kvB 0 11, (.negSucc 0, .ofNat 7), kvB 1 12], [(102, 8, .inl (5, .ofNat 0))], 195, [kvR 102, kvI 0, kvI 1, kvI 2, kvN 128, kvN 0, kvI 3, kvI 4], []), ([], []), (139, [(-11, 3), (-1, 4)]))
def kC432_4 : aC := (([kvB 0 7, kvB 0 7, kvB 0 7, (.negSucc 0, .ofNat 99)], [(102, 29, .inl (3, .ofNat 0)), (102, 30, .inr (.ofNat 0))], 110, [kvR 102, kvI 0, kvI 1, kvI 2, kvN 128, kvN 0, kvN 1, kvN 0], []), ([], []), (0, []))
theorem ks432 : aseg kS krf kB [kE43, kE368, kE400, kE416, kE424, kE428, kE430, kE431] (ksp [(192, 200, 7, 0, 7, 0)]) kE432 [kC432_0, kC432_1, kC432_2, kC432_3, kC432_4] 30000 (none) = true := by decide +kernel
theorem ks432_0 : aseg kS krf kB [kE43, kE368, kE400, kE416, kE424, kE428, kE430, kE431] (ksp [(192, 200, 7, 0, 7, 0)]) kE432 [kC432_0, kC432_1, kC432_2, kC432_3, kC432_4] 30000 (some kC432_0) = true := by decide +kernel
theorem ks432_1 : aseg kS krf kB [kE43, kE368, kE400, kE416, kE424, kE428, kE430, kE431] (ksp [(192, 200, 7, 0, 7, 0)]) kE432 [kC432_0, kC432_1, kC432_2, kC432_3, kC432_4] 30000 (some kC432_1) = true := by decide +kernel
theorem ks432_2 : aseg kS krf kB [kE43, kE368, kE400, kE416, kE424, kE428, kE430, kE431] (ksp [(192, 200, 7, 0, 7, 0)]) kE432 [kC432_0, kC432_1, kC432_2, kC432_3, kC432_4] 30000 (some kC432_2) = true := by decide +kernel
theorem ks432_3 : aseg kS krf kB [kE43, kE368, kE400, kE416, kE424, kE428, kE430, kE431] (ksp [(192, 200, 7, 0, 7, 0)]) kE432 [kC432_0, kC432_1, kC432_2, kC432_3, kC432_4] 30000 (some kC432_3) = true := by decide +kernel
theorem ks432_4 : aseg kS krf kB [kE43, kE368, kE400, kE416, kE424, kE428, kE430, kE431] (ksp [(192, 200, 7, 0, 7, 0)]) kE432 [kC432_0, kC432_1, kC432_2, kC432_3, kC432_4] 30000 (some kC432_4) = true := by decide +kernel
theorem kok432 : aOK kS krf kB kE432 := aOK_of (kal1 kok43 (kal1 kok368 (kal1 kok400 (kal1 kok416 (kal1 kok424 (kal1 kok428 (kal1 kok430 (kal1 kok431 kal0)))))))) (kcl1 ks432_0 (kcl1 ks432_1 (kcl1 ks432_2 (kcl1 ks432_3 (kcl1 ks432_4 kcl0))))) ks432
/-- ColdShodModel.triesWay(IIIII)V -/
def kE433 : aE := (192, 47, ([kvB 0 7, kvB 0 7, kvB 0 7], [], 0, [kvR 102, kvI 0, kvI 1, kvI 2, kvN 127, kvN 6, none, none], []), ([], none), ([], [], none, ([], [])), kvW62)
def kC433_0 : aC := (([kvB 0 7, kvB 0 7, kvB 0 7, kvB 0 1, kvB 0 6], [], 16, [kvR 102, kvI 0, kvI 1, kvI 2, kvN 127, kvN 6, kvI 3, kvI 4], []), ([], []), (338, [(-1, 4)]))
def kC433_1 : aC := (([kvB 0 7, kvB 0 7, kvB 0 7, kvB 0 12], [], 141, [kvR 102, kvI 0, kvI 1, kvI 2, kvN 127, kvN 6, kvI 3, none], []), ([], []), (141, [(-11, 3)]))
def kC433_2 : aC := (([kvB 0 7, kvB 0 7, kvB 0 7, kvB 0 11, (.negSucc 0, .ofNat 7), kvB 1 12], [(102, 8, .inl (5, .ofNat 0))], 195, [kvR 102, kvI 0, kvI 1, kvI 2, kvN 127, kvN 6, kvI 3, kvI 4], []), ([], []), (139, [(-11, 3), (-1, 4)]))
def kC433_3 : aC := (([kvB 0 7, kvB 0 7, kvB 0 7, (.negSucc 0, .ofNat 2147483647)], [(102, 29, .inl (3, .ofNat 0))], 91, [kvR 102, kvI 0, kvI 1, kvI 2, kvN 127, kvN 6, kvN 1, kvN 6], []), ([], []), (166, []))
def kC433_4 : aC := (([kvB 0 7, kvB 0 7, kvB 0 7, kvB 0 6, (.negSucc 0, .ofNat 99)], [(102, 29, .inl (4, .ofNat 0)), (102, 30, .inr (.ofNat 6))], 110, [kvR 102, kvI 0, kvI 1, kvI 2, kvN 127, kvN 6, kvN 1, kvI 3], []), ([], []), (6, [(-1, 3)]))
theorem ks433 : aseg kS krf kB [kE43, kE89, kE305] (ksp [(192, 200, 7, 0, 7, 0)]) kE433 [kC433_0, kC433_1, kC433_2, kC433_3, kC433_4] 30000 (none) = true := by decide +kernel
theorem ks433_0 : aseg kS krf kB [kE43, kE89, kE305] (ksp [(192, 200, 7, 0, 7, 0)]) kE433 [kC433_0, kC433_1, kC433_2, kC433_3, kC433_4] 30000 (some kC433_0) = true := by decide +kernel
theorem ks433_1 : aseg kS krf kB [kE43, kE89, kE305] (ksp [(192, 200, 7, 0, 7, 0)]) kE433 [kC433_0, kC433_1, kC433_2, kC433_3, kC433_4] 30000 (some kC433_1) = true := by decide +kernel
theorem ks433_2 : aseg kS krf kB [kE43, kE89, kE305] (ksp [(192, 200, 7, 0, 7, 0)]) kE433 [kC433_0, kC433_1, kC433_2, kC433_3, kC433_4] 30000 (some kC433_2) = true := by decide +kernel
theorem ks433_3 : aseg kS krf kB [kE43, kE89, kE305] (ksp [(192, 200, 7, 0, 7, 0)]) kE433 [kC433_0, kC433_1, kC433_2, kC433_3, kC433_4] 30000 (some kC433_3) = true := by decide +kernel
theorem ks433_4 : aseg kS krf kB [kE43, kE89, kE305] (ksp [(192, 200, 7, 0, 7, 0)]) kE433 [kC433_0, kC433_1, kC433_2, kC433_3, kC433_4] 30000 (some kC433_4) = true := by decide +kernel
theorem kok433 : aOK kS krf kB kE433 := aOK_of (kal1 kok43 (kal1 kok89 (kal1 kok305 kal0))) (kcl1 ks433_0 (kcl1 ks433_1 (kcl1 ks433_2 (kcl1 ks433_3 (kcl1 ks433_4 kcl0))))) ks433
/-- ColdShodModel.triesWay(IIIII)V -/
def kE434 : aE := (192, 48, ([kvB 0 7, kvB 0 7, kvB 0 7], [], 0, [kvR 102, kvI 0, kvI 1, kvI 2, kvN 126, kvN 5, none, none], []), ([], none), ([], [], none, ([], [])), kvW63)
def kC434_0 : aC := (([kvB 0 7, kvB 0 7, kvB 0 7, kvB 0 1, kvB 0 5], [], 16, [kvR 102, kvI 0, kvI 1, kvI 2, kvN 126, kvN 5, kvI 3, kvI 4], []), ([], []), (337, [(-1, 4)]))
def kC434_1 : aC := (([kvB 0 7, kvB 0 7, kvB 0 7, kvB 0 12], [], 141, [kvR 102, kvI 0, kvI 1, kvI 2, kvN 126, kvN 5, kvI 3, none], []), ([], []), (141, [(-11, 3)]))
def kC434_2 : aC := (([kvB 0 7, kvB 0 7, kvB 0 7, kvB 0 11, (.negSucc 0, .ofNat 7), kvB 1 12], [(102, 8, .inl (5, .ofNat 0))], 195, [kvR 102, kvI 0, kvI 1, kvI 2, kvN 126, kvN 5, kvI 3, kvI 4], []), ([], []), (139, [(-11, 3), (-1, 4)]))
def kC434_3 : aC := (([kvB 0 7, kvB 0 7, kvB 0 7, (.negSucc 0, .ofNat 2147483647)], [(102, 29, .inl (3, .ofNat 0))], 91, [kvR 102, kvI 0, kvI 1, kvI 2, kvN 126, kvN 5, kvN 1, kvN 5], []), ([], []), (166, []))
def kC434_4 : aC := (([kvB 0 7, kvB 0 7, kvB 0 7, kvB 0 5, (.negSucc 0, .ofNat 99)], [(102, 29, .inl (4, .ofNat 0)), (102, 30, .inr (.ofNat 5))], 110, [kvR 102, kvI 0, kvI 1, kvI 2, kvN 126, kvN 5, kvN 1, kvI 3], []), ([], []), (5, [(-1, 3)]))
theorem ks434 : aseg kS krf kB [kE43, kE89, kE306, kE433] (ksp [(192, 200, 7, 0, 7, 0)]) kE434 [kC434_0, kC434_1, kC434_2, kC434_3, kC434_4] 30000 (none) = true := by decide +kernel
theorem ks434_0 : aseg kS krf kB [kE43, kE89, kE306, kE433] (ksp [(192, 200, 7, 0, 7, 0)]) kE434 [kC434_0, kC434_1, kC434_2, kC434_3, kC434_4] 30000 (some kC434_0) = true := by decide +kernel
theorem ks434_1 : aseg kS krf kB [kE43, kE89, kE306, kE433] (ksp [(192, 200, 7, 0, 7, 0)]) kE434 [kC434_0, kC434_1, kC434_2, kC434_3, kC434_4] 30000 (some kC434_1) = true := by decide +kernel
theorem ks434_2 : aseg kS krf kB [kE43, kE89, kE306, kE433] (ksp [(192, 200, 7, 0, 7, 0)]) kE434 [kC434_0, kC434_1, kC434_2, kC434_3, kC434_4] 30000 (some kC434_2) = true := by decide +kernel
theorem ks434_3 : aseg kS krf kB [kE43, kE89, kE306, kE433] (ksp [(192, 200, 7, 0, 7, 0)]) kE434 [kC434_0, kC434_1, kC434_2, kC434_3, kC434_4] 30000 (some kC434_3) = true := by decide +kernel
theorem ks434_4 : aseg kS krf kB [kE43, kE89, kE306, kE433] (ksp [(192, 200, 7, 0, 7, 0)]) kE434 [kC434_0, kC434_1, kC434_2, kC434_3, kC434_4] 30000 (some kC434_4) = true := by decide +kernel
theorem kok434 : aOK kS krf kB kE434 := aOK_of (kal1 kok43 (kal1 kok89 (kal1 kok306 (kal1 kok433 kal0)))) (kcl1 ks434_0 (kcl1 ks434_1 (kcl1 ks434_2 (kcl1 ks434_3 (kcl1 ks434_4 kcl0))))) ks434
/-- ColdShodModel.triesWay(IIIII)V -/
def kE435 : aE := (192, 48, ([kvB 0 7, kvB 0 7, kvB 0 7], [], 0, [kvR 102, kvI 0, kvI 1, kvI 2, kvN 125, kvN 5, none, none], []), ([], none), ([], [], none, ([], [])), kvW63)
def kC435_0 : aC := (([kvB 0 7, kvB 0 7, kvB 0 7, kvB 0 1, kvB 0 5], [], 16, [kvR 102, kvI 0, kvI 1, kvI 2, kvN 125, kvN 5, kvI 3, kvI 4], []), ([], []), (337, [(-1, 4)]))
def kC435_1 : aC := (([kvB 0 7, kvB 0 7, kvB 0 7, kvB 0 12], [], 141, [kvR 102, kvI 0, kvI 1, kvI 2, kvN 125, kvN 5, kvI 3, none], []), ([], []), (141, [(-11, 3)]))
def kC435_2 : aC := (([kvB 0 7, kvB 0 7, kvB 0 7, kvB 0 11, (.negSucc 0, .ofNat 7), kvB 1 12], [(102, 8, .inl (5, .ofNat 0))], 195, [kvR 102, kvI 0, kvI 1, kvI 2, kvN 125, kvN 5, kvI 3, kvI 4], []), ([], []), (139, [(-11, 3), (-1, 4)]))
def kC435_3 : aC := (([kvB 0 7, kvB 0 7, kvB 0 7, (.negSucc 0, .ofNat 2147483647)], [(102, 29, .inl (3, .ofNat 0))], 91, [kvR 102, kvI 0, kvI 1, kvI 2, kvN 125, kvN 5, kvN 1, kvN 5], []), ([], []), (166, []))
def kC435_4 : aC := (([kvB 0 7, kvB 0 7, kvB 0 7, kvB 0 5, (.negSucc 0, .ofNat 99)], [(102, 29, .inl (4, .ofNat 0)), (102, 30, .inr (.ofNat 5))], 110, [kvR 102, kvI 0, kvI 1, kvI 2, kvN 125, kvN 5, kvN 1, kvI 3], []), ([], []), (5, [(-1, 3)]))
theorem ks435 : aseg kS krf kB [kE43, kE89, kE307, kE433] (ksp [(192, 200, 7, 0, 7, 0)]) kE435 [kC435_0, kC435_1, kC435_2, kC435_3, kC435_4] 30000 (none) = true := by decide +kernel
theorem ks435_0 : aseg kS krf kB [kE43, kE89, kE307, kE433] (ksp [(192, 200, 7, 0, 7, 0)]) kE435 [kC435_0, kC435_1, kC435_2, kC435_3, kC435_4] 30000 (some kC435_0) = true := by decide +kernel
theorem ks435_1 : aseg kS krf kB [kE43, kE89, kE307, kE433] (ksp [(192, 200, 7, 0, 7, 0)]) kE435 [kC435_0, kC435_1, kC435_2, kC435_3, kC435_4] 30000 (some kC435_1) = true := by decide +kernel
theorem ks435_2 : aseg kS krf kB [kE43, kE89, kE307, kE433] (ksp [(192, 200, 7, 0, 7, 0)]) kE435 [kC435_0, kC435_1, kC435_2, kC435_3, kC435_4] 30000 (some kC435_2) = true := by decide +kernel
theorem ks435_3 : aseg kS krf kB [kE43, kE89, kE307, kE433] (ksp [(192, 200, 7, 0, 7, 0)]) kE435 [kC435_0, kC435_1, kC435_2, kC435_3, kC435_4] 30000 (some kC435_3) = true := by decide +kernel
theorem ks435_4 : aseg kS krf kB [kE43, kE89, kE307, kE433] (ksp [(192, 200, 7, 0, 7, 0)]) kE435 [kC435_0, kC435_1, kC435_2, kC435_3, kC435_4] 30000 (some kC435_4) = true := by decide +kernel
theorem kok435 : aOK kS krf kB kE435 := aOK_of (kal1 kok43 (kal1 kok89 (kal1 kok307 (kal1 kok433 kal0)))) (kcl1 ks435_0 (kcl1 ks435_1 (kcl1 ks435_2 (kcl1 ks435_3 (kcl1 ks435_4 kcl0))))) ks435
/-- ColdShodModel.triesWay(IIIII)V -/
def kE436 : aE := (192, 49, ([kvB 0 7, kvB 0 7, kvB 0 7], [], 0, [kvR 102, kvI 0, kvI 1, kvI 2, kvN 124, kvN 4, none, none], []), ([], none), ([], [], none, ([], [])), kvW64)
def kC436_0 : aC := (([kvB 0 7, kvB 0 7, kvB 0 7, kvB 0 1, kvB 0 4], [], 16, [kvR 102, kvI 0, kvI 1, kvI 2, kvN 124, kvN 4, kvI 3, kvI 4], []), ([], []), (336, [(-1, 4)]))
def kC436_1 : aC := (([kvB 0 7, kvB 0 7, kvB 0 7, kvB 0 12], [], 141, [kvR 102, kvI 0, kvI 1, kvI 2, kvN 124, kvN 4, kvI 3, none], []), ([], []), (141, [(-11, 3)]))
def kC436_2 : aC := (([kvB 0 7, kvB 0 7, kvB 0 7, kvB 0 11, (.negSucc 0, .ofNat 7), kvB 1 12], [(102, 8, .inl (5, .ofNat 0))], 195, [kvR 102, kvI 0, kvI 1, kvI 2, kvN 124, kvN 4, kvI 3, kvI 4], []), ([], []), (139, [(-11, 3), (-1, 4)]))
def kC436_3 : aC := (([kvB 0 7, kvB 0 7, kvB 0 7, (.negSucc 0, .ofNat 2147483647)], [(102, 29, .inl (3, .ofNat 0))], 91, [kvR 102, kvI 0, kvI 1, kvI 2, kvN 124, kvN 4, kvN 1, kvN 4], []), ([], []), (166, []))
def kC436_4 : aC := (([kvB 0 7, kvB 0 7, kvB 0 7, kvB 0 4, (.negSucc 0, .ofNat 99)], [(102, 29, .inl (4, .ofNat 0)), (102, 30, .inr (.ofNat 4))], 110, [kvR 102, kvI 0, kvI 1, kvI 2, kvN 124, kvN 4, kvN 1, kvI 3], []), ([], []), (4, [(-1, 3)]))
theorem ks436 : aseg kS krf kB [kE43, kE89, kE308, kE434, kE435] (ksp [(192, 200, 7, 0, 7, 0)]) kE436 [kC436_0, kC436_1, kC436_2, kC436_3, kC436_4] 30000 (none) = true := by decide +kernel
theorem ks436_0 : aseg kS krf kB [kE43, kE89, kE308, kE434, kE435] (ksp [(192, 200, 7, 0, 7, 0)]) kE436 [kC436_0, kC436_1, kC436_2, kC436_3, kC436_4] 30000 (some kC436_0) = true := by decide +kernel
theorem ks436_1 : aseg kS krf kB [kE43, kE89, kE308, kE434, kE435] (ksp [(192, 200, 7, 0, 7, 0)]) kE436 [kC436_0, kC436_1, kC436_2, kC436_3, kC436_4] 30000 (some kC436_1) = true := by decide +kernel
theorem ks436_2 : aseg kS krf kB [kE43, kE89, kE308, kE434, kE435] (ksp [(192, 200, 7, 0, 7, 0)]) kE436 [kC436_0, kC436_1, kC436_2, kC436_3, kC436_4] 30000 (some kC436_2) = true := by decide +kernel
theorem ks436_3 : aseg kS krf kB [kE43, kE89, kE308, kE434, kE435] (ksp [(192, 200, 7, 0, 7, 0)]) kE436 [kC436_0, kC436_1, kC436_2, kC436_3, kC436_4] 30000 (some kC436_3) = true := by decide +kernel
theorem ks436_4 : aseg kS krf kB [kE43, kE89, kE308, kE434, kE435] (ksp [(192, 200, 7, 0, 7, 0)]) kE436 [kC436_0, kC436_1, kC436_2, kC436_3, kC436_4] 30000 (some kC436_4) = true := by decide +kernel
theorem kok436 : aOK kS krf kB kE436 := aOK_of (kal1 kok43 (kal1 kok89 (kal1 kok308 (kal1 kok434 (kal1 kok435 kal0))))) (kcl1 ks436_0 (kcl1 ks436_1 (kcl1 ks436_2 (kcl1 ks436_3 (kcl1 ks436_4 kcl0))))) ks436
/-- ColdShodModel.triesWay(IIIII)V -/
def kE437 : aE := (192, 48, ([kvB 0 7, kvB 0 7, kvB 0 7], [], 0, [kvR 102, kvI 0, kvI 1, kvI 2, kvN 123, kvN 5, none, none], []), ([], none), ([], [], none, ([], [])), kvW63)
def kC437_0 : aC := (([kvB 0 7, kvB 0 7, kvB 0 7, kvB 0 1, kvB 0 5], [], 16, [kvR 102, kvI 0, kvI 1, kvI 2, kvN 123, kvN 5, kvI 3, kvI 4], []), ([], []), (337, [(-1, 4)]))
def kC437_1 : aC := (([kvB 0 7, kvB 0 7, kvB 0 7, kvB 0 12], [], 141, [kvR 102, kvI 0, kvI 1, kvI 2, kvN 123, kvN 5, kvI 3, none], []), ([], []), (141, [(-11, 3)]))
def kC437_2 : aC := (([kvB 0 7, kvB 0 7, kvB 0 7, kvB 0 11, (.negSucc 0, .ofNat 7), kvB 1 12], [(102, 8, .inl (5, .ofNat 0))], 195, [kvR 102, kvI 0, kvI 1, kvI 2, kvN 123, kvN 5, kvI 3, kvI 4], []), ([], []), (139, [(-11, 3), (-1, 4)]))
def kC437_3 : aC := (([kvB 0 7, kvB 0 7, kvB 0 7, (.negSucc 0, .ofNat 2147483647)], [(102, 29, .inl (3, .ofNat 0))], 91, [kvR 102, kvI 0, kvI 1, kvI 2, kvN 123, kvN 5, kvN 1, kvN 5], []), ([], []), (166, []))
def kC437_4 : aC := (([kvB 0 7, kvB 0 7, kvB 0 7, kvB 0 5, (.negSucc 0, .ofNat 99)], [(102, 29, .inl (4, .ofNat 0)), (102, 30, .inr (.ofNat 5))], 110, [kvR 102, kvI 0, kvI 1, kvI 2, kvN 123, kvN 5, kvN 1, kvI 3], []), ([], []), (5, [(-1, 3)]))
theorem ks437 : aseg kS krf kB [kE43, kE89, kE309, kE433] (ksp [(192, 200, 7, 0, 7, 0)]) kE437 [kC437_0, kC437_1, kC437_2, kC437_3, kC437_4] 30000 (none) = true := by decide +kernel
theorem ks437_0 : aseg kS krf kB [kE43, kE89, kE309, kE433] (ksp [(192, 200, 7, 0, 7, 0)]) kE437 [kC437_0, kC437_1, kC437_2, kC437_3, kC437_4] 30000 (some kC437_0) = true := by decide +kernel
theorem ks437_1 : aseg kS krf kB [kE43, kE89, kE309, kE433] (ksp [(192, 200, 7, 0, 7, 0)]) kE437 [kC437_0, kC437_1, kC437_2, kC437_3, kC437_4] 30000 (some kC437_1) = true := by decide +kernel
theorem ks437_2 : aseg kS krf kB [kE43, kE89, kE309, kE433] (ksp [(192, 200, 7, 0, 7, 0)]) kE437 [kC437_0, kC437_1, kC437_2, kC437_3, kC437_4] 30000 (some kC437_2) = true := by decide +kernel
theorem ks437_3 : aseg kS krf kB [kE43, kE89, kE309, kE433] (ksp [(192, 200, 7, 0, 7, 0)]) kE437 [kC437_0, kC437_1, kC437_2, kC437_3, kC437_4] 30000 (some kC437_3) = true := by decide +kernel
theorem ks437_4 : aseg kS krf kB [kE43, kE89, kE309, kE433] (ksp [(192, 200, 7, 0, 7, 0)]) kE437 [kC437_0, kC437_1, kC437_2, kC437_3, kC437_4] 30000 (some kC437_4) = true := by decide +kernel
theorem kok437 : aOK kS krf kB kE437 := aOK_of (kal1 kok43 (kal1 kok89 (kal1 kok309 (kal1 kok433 kal0)))) (kcl1 ks437_0 (kcl1 ks437_1 (kcl1 ks437_2 (kcl1 ks437_3 (kcl1 ks437_4 kcl0))))) ks437
/-- ColdShodModel.triesWay(IIIII)V -/
def kE438 : aE := (192, 49, ([kvB 0 7, kvB 0 7, kvB 0 7], [], 0, [kvR 102, kvI 0, kvI 1, kvI 2, kvN 122, kvN 4, none, none], []), ([], none), ([], [], none, ([], [])), kvW64)
def kC438_0 : aC := (([kvB 0 7, kvB 0 7, kvB 0 7, kvB 0 1, kvB 0 4], [], 16, [kvR 102, kvI 0, kvI 1, kvI 2, kvN 122, kvN 4, kvI 3, kvI 4], []), ([], []), (336, [(-1, 4)]))
def kC438_1 : aC := (([kvB 0 7, kvB 0 7, kvB 0 7, kvB 0 12], [], 141, [kvR 102, kvI 0, kvI 1, kvI 2, kvN 122, kvN 4, kvI 3, none], []), ([], []), (141, [(-11, 3)]))
def kC438_2 : aC := (([kvB 0 7, kvB 0 7, kvB 0 7, kvB 0 11, (.negSucc 0, .ofNat 7), kvB 1 12], [(102, 8, .inl (5, .ofNat 0))], 195, [kvR 102, kvI 0, kvI 1, kvI 2, kvN 122, kvN 4, kvI 3, kvI 4], []), ([], []), (139, [(-11, 3), (-1, 4)]))
def kC438_3 : aC := (([kvB 0 7, kvB 0 7, kvB 0 7, (.negSucc 0, .ofNat 2147483647)], [(102, 29, .inl (3, .ofNat 0))], 91, [kvR 102, kvI 0, kvI 1, kvI 2, kvN 122, kvN 4, kvN 1, kvN 4], []), ([], []), (166, []))
def kC438_4 : aC := (([kvB 0 7, kvB 0 7, kvB 0 7, kvB 0 4, (.negSucc 0, .ofNat 99)], [(102, 29, .inl (4, .ofNat 0)), (102, 30, .inr (.ofNat 4))], 110, [kvR 102, kvI 0, kvI 1, kvI 2, kvN 122, kvN 4, kvN 1, kvI 3], []), ([], []), (4, [(-1, 3)]))
theorem ks438 : aseg kS krf kB [kE43, kE89, kE310, kE434, kE437] (ksp [(192, 200, 7, 0, 7, 0)]) kE438 [kC438_0, kC438_1, kC438_2, kC438_3, kC438_4] 30000 (none) = true := by decide +kernel
theorem ks438_0 : aseg kS krf kB [kE43, kE89, kE310, kE434, kE437] (ksp [(192, 200, 7, 0, 7, 0)]) kE438 [kC438_0, kC438_1, kC438_2, kC438_3, kC438_4] 30000 (some kC438_0) = true := by decide +kernel
theorem ks438_1 : aseg kS krf kB [kE43, kE89, kE310, kE434, kE437] (ksp [(192, 200, 7, 0, 7, 0)]) kE438 [kC438_0, kC438_1, kC438_2, kC438_3, kC438_4] 30000 (some kC438_1) = true := by decide +kernel
theorem ks438_2 : aseg kS krf kB [kE43, kE89, kE310, kE434, kE437] (ksp [(192, 200, 7, 0, 7, 0)]) kE438 [kC438_0, kC438_1, kC438_2, kC438_3, kC438_4] 30000 (some kC438_2) = true := by decide +kernel
theorem ks438_3 : aseg kS krf kB [kE43, kE89, kE310, kE434, kE437] (ksp [(192, 200, 7, 0, 7, 0)]) kE438 [kC438_0, kC438_1, kC438_2, kC438_3, kC438_4] 30000 (some kC438_3) = true := by decide +kernel
theorem ks438_4 : aseg kS krf kB [kE43, kE89, kE310, kE434, kE437] (ksp [(192, 200, 7, 0, 7, 0)]) kE438 [kC438_0, kC438_1, kC438_2, kC438_3, kC438_4] 30000 (some kC438_4) = true := by decide +kernel
theorem kok438 : aOK kS krf kB kE438 := aOK_of (kal1 kok43 (kal1 kok89 (kal1 kok310 (kal1 kok434 (kal1 kok437 kal0))))) (kcl1 ks438_0 (kcl1 ks438_1 (kcl1 ks438_2 (kcl1 ks438_3 (kcl1 ks438_4 kcl0))))) ks438
/-- ColdShodModel.triesWay(IIIII)V -/
def kE439 : aE := (192, 49, ([kvB 0 7, kvB 0 7, kvB 0 7], [], 0, [kvR 102, kvI 0, kvI 1, kvI 2, kvN 121, kvN 4, none, none], []), ([], none), ([], [], none, ([], [])), kvW64)
def kC439_0 : aC := (([kvB 0 7, kvB 0 7, kvB 0 7, kvB 0 1, kvB 0 4], [], 16, [kvR 102, kvI 0, kvI 1, kvI 2, kvN 121, kvN 4, kvI 3, kvI 4], []), ([], []), (336, [(-1, 4)]))
def kC439_1 : aC := (([kvB 0 7, kvB 0 7, kvB 0 7, kvB 0 12], [], 141, [kvR 102, kvI 0, kvI 1, kvI 2, kvN 121, kvN 4, kvI 3, none], []), ([], []), (141, [(-11, 3)]))
def kC439_2 : aC := (([kvB 0 7, kvB 0 7, kvB 0 7, kvB 0 11, (.negSucc 0, .ofNat 7), kvB 1 12], [(102, 8, .inl (5, .ofNat 0))], 195, [kvR 102, kvI 0, kvI 1, kvI 2, kvN 121, kvN 4, kvI 3, kvI 4], []), ([], []), (139, [(-11, 3), (-1, 4)]))
def kC439_3 : aC := (([kvB 0 7, kvB 0 7, kvB 0 7, (.negSucc 0, .ofNat 2147483647)], [(102, 29, .inl (3, .ofNat 0))], 91, [kvR 102, kvI 0, kvI 1, kvI 2, kvN 121, kvN 4, kvN 1, kvN 4], []), ([], []), (166, []))
def kC439_4 : aC := (([kvB 0 7, kvB 0 7, kvB 0 7, kvB 0 4, (.negSucc 0, .ofNat 99)], [(102, 29, .inl (4, .ofNat 0)), (102, 30, .inr (.ofNat 4))], 110, [kvR 102, kvI 0, kvI 1, kvI 2, kvN 121, kvN 4, kvN 1, kvI 3], []), ([], []), (4, [(-1, 3)]))
theorem ks439 : aseg kS krf kB [kE43, kE89, kE311, kE435, kE437] (ksp [(192, 200, 7, 0, 7, 0)]) kE439 [kC439_0, kC439_1, kC439_2, kC439_3, kC439_4] 30000 (none) = true := by decide +kernel
theorem ks439_0 : aseg kS krf kB [kE43, kE89, kE311, kE435, kE437] (ksp [(192, 200, 7, 0, 7, 0)]) kE439 [kC439_0, kC439_1, kC439_2, kC439_3, kC439_4] 30000 (some kC439_0) = true := by decide +kernel
theorem ks439_1 : aseg kS krf kB [kE43, kE89, kE311, kE435, kE437] (ksp [(192, 200, 7, 0, 7, 0)]) kE439 [kC439_0, kC439_1, kC439_2, kC439_3, kC439_4] 30000 (some kC439_1) = true := by decide +kernel
theorem ks439_2 : aseg kS krf kB [kE43, kE89, kE311, kE435, kE437] (ksp [(192, 200, 7, 0, 7, 0)]) kE439 [kC439_0, kC439_1, kC439_2, kC439_3, kC439_4] 30000 (some kC439_2) = true := by decide +kernel
theorem ks439_3 : aseg kS krf kB [kE43, kE89, kE311, kE435, kE437] (ksp [(192, 200, 7, 0, 7, 0)]) kE439 [kC439_0, kC439_1, kC439_2, kC439_3, kC439_4] 30000 (some kC439_3) = true := by decide +kernel
theorem ks439_4 : aseg kS krf kB [kE43, kE89, kE311, kE435, kE437] (ksp [(192, 200, 7, 0, 7, 0)]) kE439 [kC439_0, kC439_1, kC439_2, kC439_3, kC439_4] 30000 (some kC439_4) = true := by decide +kernel
theorem kok439 : aOK kS krf kB kE439 := aOK_of (kal1 kok43 (kal1 kok89 (kal1 kok311 (kal1 kok435 (kal1 kok437 kal0))))) (kcl1 ks439_0 (kcl1 ks439_1 (kcl1 ks439_2 (kcl1 ks439_3 (kcl1 ks439_4 kcl0))))) ks439
/-- ColdShodModel.triesWay(IIIII)V -/
def kE440 : aE := (192, 50, ([kvB 0 7, kvB 0 7, kvB 0 7], [], 0, [kvR 102, kvI 0, kvI 1, kvI 2, kvN 120, kvN 3, none, none], []), ([], none), ([], [], none, ([], [])), kvW65)
def kC440_0 : aC := (([kvB 0 7, kvB 0 7, kvB 0 7, kvB 0 1, kvB 0 3], [], 16, [kvR 102, kvI 0, kvI 1, kvI 2, kvN 120, kvN 3, kvI 3, kvI 4], []), ([], []), (335, [(-1, 4)]))
def kC440_1 : aC := (([kvB 0 7, kvB 0 7, kvB 0 7, kvB 0 12], [], 141, [kvR 102, kvI 0, kvI 1, kvI 2, kvN 120, kvN 3, kvI 3, none], []), ([], []), (141, [(-11, 3)]))
def kC440_2 : aC := (([kvB 0 7, kvB 0 7, kvB 0 7, kvB 0 11, (.negSucc 0, .ofNat 7), kvB 1 12], [(102, 8, .inl (5, .ofNat 0))], 195, [kvR 102, kvI 0, kvI 1, kvI 2, kvN 120, kvN 3, kvI 3, kvI 4], []), ([], []), (139, [(-11, 3), (-1, 4)]))
def kC440_3 : aC := (([kvB 0 7, kvB 0 7, kvB 0 7, (.negSucc 0, .ofNat 2147483647)], [(102, 29, .inl (3, .ofNat 0))], 91, [kvR 102, kvI 0, kvI 1, kvI 2, kvN 120, kvN 3, kvN 1, kvN 3], []), ([], []), (166, []))
def kC440_4 : aC := (([kvB 0 7, kvB 0 7, kvB 0 7, kvB 0 3, (.negSucc 0, .ofNat 99)], [(102, 29, .inl (4, .ofNat 0)), (102, 30, .inr (.ofNat 3))], 110, [kvR 102, kvI 0, kvI 1, kvI 2, kvN 120, kvN 3, kvN 1, kvI 3], []), ([], []), (3, [(-1, 3)]))
theorem ks440 : aseg kS krf kB [kE43, kE89, kE312, kE436, kE438, kE439] (ksp [(192, 200, 7, 0, 7, 0)]) kE440 [kC440_0, kC440_1, kC440_2, kC440_3, kC440_4] 30000 (none) = true := by decide +kernel
theorem ks440_0 : aseg kS krf kB [kE43, kE89, kE312, kE436, kE438, kE439] (ksp [(192, 200, 7, 0, 7, 0)]) kE440 [kC440_0, kC440_1, kC440_2, kC440_3, kC440_4] 30000 (some kC440_0) = true := by decide +kernel
theorem ks440_1 : aseg kS krf kB [kE43, kE89, kE312, kE436, kE438, kE439] (ksp [(192, 200, 7, 0, 7, 0)]) kE440 [kC440_0, kC440_1, kC440_2, kC440_3, kC440_4] 30000 (some kC440_1) = true := by decide +kernel
theorem ks440_2 : aseg kS krf kB [kE43, kE89, kE312, kE436, kE438, kE439] (ksp [(192, 200, 7, 0, 7, 0)]) kE440 [kC440_0, kC440_1, kC440_2, kC440_3, kC440_4] 30000 (some kC440_2) = true := by decide +kernel
theorem ks440_3 : aseg kS krf kB [kE43, kE89, kE312, kE436, kE438, kE439] (ksp [(192, 200, 7, 0, 7, 0)]) kE440 [kC440_0, kC440_1, kC440_2, kC440_3, kC440_4] 30000 (some kC440_3) = true := by decide +kernel
theorem ks440_4 : aseg kS krf kB [kE43, kE89, kE312, kE436, kE438, kE439] (ksp [(192, 200, 7, 0, 7, 0)]) kE440 [kC440_0, kC440_1, kC440_2, kC440_3, kC440_4] 30000 (some kC440_4) = true := by decide +kernel
theorem kok440 : aOK kS krf kB kE440 := aOK_of (kal1 kok43 (kal1 kok89 (kal1 kok312 (kal1 kok436 (kal1 kok438 (kal1 kok439 kal0)))))) (kcl1 ks440_0 (kcl1 ks440_1 (kcl1 ks440_2 (kcl1 ks440_3 (kcl1 ks440_4 kcl0))))) ks440
/-- ColdShodModel.triesWay(IIIII)V -/
def kE441 : aE := (192, 48, ([kvB 0 7, kvB 0 7, kvB 0 7], [], 0, [kvR 102, kvI 0, kvI 1, kvI 2, kvN 119, kvN 5, none, none], []), ([], none), ([], [], none, ([], [])), kvW63)
def kC441_0 : aC := (([kvB 0 7, kvB 0 7, kvB 0 7, kvB 0 1, kvB 0 5], [], 16, [kvR 102, kvI 0, kvI 1, kvI 2, kvN 119, kvN 5, kvI 3, kvI 4], []), ([], []), (337, [(-1, 4)]))
def kC441_1 : aC := (([kvB 0 7, kvB 0 7, kvB 0 7, kvB 0 12], [], 141, [kvR 102, kvI 0, kvI 1, kvI 2, kvN 119, kvN 5, kvI 3, none], []), ([], []), (141, [(-11, 3)]))
def kC441_2 : aC := (([kvB 0 7, kvB 0 7, kvB 0 7, kvB 0 11, (.negSucc 0, .ofNat 7), kvB 1 12], [(102, 8, .inl (5, .ofNat 0))], 195, [kvR 102, kvI 0, kvI 1, kvI 2, kvN 119, kvN 5, kvI 3, kvI 4], []), ([], []), (139, [(-11, 3), (-1, 4)]))
def kC441_3 : aC := (([kvB 0 7, kvB 0 7, kvB 0 7, (.negSucc 0, .ofNat 2147483647)], [(102, 29, .inl (3, .ofNat 0))], 91, [kvR 102, kvI 0, kvI 1, kvI 2, kvN 119, kvN 5, kvN 1, kvN 5], []), ([], []), (166, []))
def kC441_4 : aC := (([kvB 0 7, kvB 0 7, kvB 0 7, kvB 0 5, (.negSucc 0, .ofNat 99)], [(102, 29, .inl (4, .ofNat 0)), (102, 30, .inr (.ofNat 5))], 110, [kvR 102, kvI 0, kvI 1, kvI 2, kvN 119, kvN 5, kvN 1, kvI 3], []), ([], []), (5, [(-1, 3)]))
theorem ks441 : aseg kS krf kB [kE43, kE89, kE313, kE433] (ksp [(192, 200, 7, 0, 7, 0)]) kE441 [kC441_0, kC441_1, kC441_2, kC441_3, kC441_4] 30000 (none) = true := by decide +kernel
theorem ks441_0 : aseg kS krf kB [kE43, kE89, kE313, kE433] (ksp [(192, 200, 7, 0, 7, 0)]) kE441 [kC441_0, kC441_1, kC441_2, kC441_3, kC441_4] 30000 (some kC441_0) = true := by decide +kernel
theorem ks441_1 : aseg kS krf kB [kE43, kE89, kE313, kE433] (ksp [(192, 200, 7, 0, 7, 0)]) kE441 [kC441_0, kC441_1, kC441_2, kC441_3, kC441_4] 30000 (some kC441_1) = true := by decide +kernel
theorem ks441_2 : aseg kS krf kB [kE43, kE89, kE313, kE433] (ksp [(192, 200, 7, 0, 7, 0)]) kE441 [kC441_0, kC441_1, kC441_2, kC441_3, kC441_4] 30000 (some kC441_2) = true := by decide +kernel
theorem ks441_3 : aseg kS krf kB [kE43, kE89, kE313, kE433] (ksp [(192, 200, 7, 0, 7, 0)]) kE441 [kC441_0, kC441_1, kC441_2, kC441_3, kC441_4] 30000 (some kC441_3) = true := by decide +kernel
theorem ks441_4 : aseg kS krf kB [kE43, kE89, kE313, kE433] (ksp [(192, 200, 7, 0, 7, 0)]) kE441 [kC441_0, kC441_1, kC441_2, kC441_3, kC441_4] 30000 (some kC441_4) = true := by decide +kernel
theorem kok441 : aOK kS krf kB kE441 := aOK_of (kal1 kok43 (kal1 kok89 (kal1 kok313 (kal1 kok433 kal0)))) (kcl1 ks441_0 (kcl1 ks441_1 (kcl1 ks441_2 (kcl1 ks441_3 (kcl1 ks441_4 kcl0))))) ks441
/-- ColdShodModel.triesWay(IIIII)V -/
def kE442 : aE := (192, 49, ([kvB 0 7, kvB 0 7, kvB 0 7], [], 0, [kvR 102, kvI 0, kvI 1, kvI 2, kvN 118, kvN 4, none, none], []), ([], none), ([], [], none, ([], [])), kvW64)
def kC442_0 : aC := (([kvB 0 7, kvB 0 7, kvB 0 7, kvB 0 1, kvB 0 4], [], 16, [kvR 102, kvI 0, kvI 1, kvI 2, kvN 118, kvN 4, kvI 3, kvI 4], []), ([], []), (336, [(-1, 4)]))
def kC442_1 : aC := (([kvB 0 7, kvB 0 7, kvB 0 7, kvB 0 12], [], 141, [kvR 102, kvI 0, kvI 1, kvI 2, kvN 118, kvN 4, kvI 3, none], []), ([], []), (141, [(-11, 3)]))
def kC442_2 : aC := (([kvB 0 7, kvB 0 7, kvB 0 7, kvB 0 11, (.negSucc 0, .ofNat 7), kvB 1 12], [(102, 8, .inl (5, .ofNat 0))], 195, [kvR 102, kvI 0, kvI 1, kvI 2, kvN 118, kvN 4, kvI 3, kvI 4], []), ([], []), (139, [(-11, 3), (-1, 4)]))
def kC442_3 : aC := (([kvB 0 7, kvB 0 7, kvB 0 7, (.negSucc 0, .ofNat 2147483647)], [(102, 29, .inl (3, .ofNat 0))], 91, [kvR 102, kvI 0, kvI 1, kvI 2, kvN 118, kvN 4, kvN 1, kvN 4], []), ([], []), (166, []))
def kC442_4 : aC := (([kvB 0 7, kvB 0 7, kvB 0 7, kvB 0 4, (.negSucc 0, .ofNat 99)], [(102, 29, .inl (4, .ofNat 0)), (102, 30, .inr (.ofNat 4))], 110, [kvR 102, kvI 0, kvI 1, kvI 2, kvN 118, kvN 4, kvN 1, kvI 3], []), ([], []), (4, [(-1, 3)]))
theorem ks442 : aseg kS krf kB [kE43, kE89, kE314, kE434, kE441] (ksp [(192, 200, 7, 0, 7, 0)]) kE442 [kC442_0, kC442_1, kC442_2, kC442_3, kC442_4] 30000 (none) = true := by decide +kernel
theorem ks442_0 : aseg kS krf kB [kE43, kE89, kE314, kE434, kE441] (ksp [(192, 200, 7, 0, 7, 0)]) kE442 [kC442_0, kC442_1, kC442_2, kC442_3, kC442_4] 30000 (some kC442_0) = true := by decide +kernel
theorem ks442_1 : aseg kS krf kB [kE43, kE89, kE314, kE434, kE441] (ksp [(192, 200, 7, 0, 7, 0)]) kE442 [kC442_0, kC442_1, kC442_2, kC442_3, kC442_4] 30000 (some kC442_1) = true := by decide +kernel
theorem ks442_2 : aseg kS krf kB [kE43, kE89, kE314, kE434, kE441] (ksp [(192, 200, 7, 0, 7, 0)]) kE442 [kC442_0, kC442_1, kC442_2, kC442_3, kC442_4] 30000 (some kC442_2) = true := by decide +kernel
theorem ks442_3 : aseg kS krf kB [kE43, kE89, kE314, kE434, kE441] (ksp [(192, 200, 7, 0, 7, 0)]) kE442 [kC442_0, kC442_1, kC442_2, kC442_3, kC442_4] 30000 (some kC442_3) = true := by decide +kernel
theorem ks442_4 : aseg kS krf kB [kE43, kE89, kE314, kE434, kE441] (ksp [(192, 200, 7, 0, 7, 0)]) kE442 [kC442_0, kC442_1, kC442_2, kC442_3, kC442_4] 30000 (some kC442_4) = true := by decide +kernel
theorem kok442 : aOK kS krf kB kE442 := aOK_of (kal1 kok43 (kal1 kok89 (kal1 kok314 (kal1 kok434 (kal1 kok441 kal0))))) (kcl1 ks442_0 (kcl1 ks442_1 (kcl1 ks442_2 (kcl1 ks442_3 (kcl1 ks442_4 kcl0))))) ks442
/-- ColdShodModel.triesWay(IIIII)V -/
def kE443 : aE := (192, 49, ([kvB 0 7, kvB 0 7, kvB 0 7], [], 0, [kvR 102, kvI 0, kvI 1, kvI 2, kvN 117, kvN 4, none, none], []), ([], none), ([], [], none, ([], [])), kvW64)
def kC443_0 : aC := (([kvB 0 7, kvB 0 7, kvB 0 7, kvB 0 1, kvB 0 4], [], 16, [kvR 102, kvI 0, kvI 1, kvI 2, kvN 117, kvN 4, kvI 3, kvI 4], []), ([], []), (336, [(-1, 4)]))
def kC443_1 : aC := (([kvB 0 7, kvB 0 7, kvB 0 7, kvB 0 12], [], 141, [kvR 102, kvI 0, kvI 1, kvI 2, kvN 117, kvN 4, kvI 3, none], []), ([], []), (141, [(-11, 3)]))
def kC443_2 : aC := (([kvB 0 7, kvB 0 7, kvB 0 7, kvB 0 11, (.negSucc 0, .ofNat 7), kvB 1 12], [(102, 8, .inl (5, .ofNat 0))], 195, [kvR 102, kvI 0, kvI 1, kvI 2, kvN 117, kvN 4, kvI 3, kvI 4], []), ([], []), (139, [(-11, 3), (-1, 4)]))
def kC443_3 : aC := (([kvB 0 7, kvB 0 7, kvB 0 7, (.negSucc 0, .ofNat 2147483647)], [(102, 29, .inl (3, .ofNat 0))], 91, [kvR 102, kvI 0, kvI 1, kvI 2, kvN 117, kvN 4, kvN 1, kvN 4], []), ([], []), (166, []))
def kC443_4 : aC := (([kvB 0 7, kvB 0 7, kvB 0 7, kvB 0 4, (.negSucc 0, .ofNat 99)], [(102, 29, .inl (4, .ofNat 0)), (102, 30, .inr (.ofNat 4))], 110, [kvR 102, kvI 0, kvI 1, kvI 2, kvN 117, kvN 4, kvN 1, kvI 3], []), ([], []), (4, [(-1, 3)]))
theorem ks443 : aseg kS krf kB [kE43, kE89, kE315, kE435, kE441] (ksp [(192, 200, 7, 0, 7, 0)]) kE443 [kC443_0, kC443_1, kC443_2, kC443_3, kC443_4] 30000 (none) = true := by decide +kernel
theorem ks443_0 : aseg kS krf kB [kE43, kE89, kE315, kE435, kE441] (ksp [(192, 200, 7, 0, 7, 0)]) kE443 [kC443_0, kC443_1, kC443_2, kC443_3, kC443_4] 30000 (some kC443_0) = true := by decide +kernel
theorem ks443_1 : aseg kS krf kB [kE43, kE89, kE315, kE435, kE441] (ksp [(192, 200, 7, 0, 7, 0)]) kE443 [kC443_0, kC443_1, kC443_2, kC443_3, kC443_4] 30000 (some kC443_1) = true := by decide +kernel
theorem ks443_2 : aseg kS krf kB [kE43, kE89, kE315, kE435, kE441] (ksp [(192, 200, 7, 0, 7, 0)]) kE443 [kC443_0, kC443_1, kC443_2, kC443_3, kC443_4] 30000 (some kC443_2) = true := by decide +kernel
theorem ks443_3 : aseg kS krf kB [kE43, kE89, kE315, kE435, kE441] (ksp [(192, 200, 7, 0, 7, 0)]) kE443 [kC443_0, kC443_1, kC443_2, kC443_3, kC443_4] 30000 (some kC443_3) = true := by decide +kernel
theorem ks443_4 : aseg kS krf kB [kE43, kE89, kE315, kE435, kE441] (ksp [(192, 200, 7, 0, 7, 0)]) kE443 [kC443_0, kC443_1, kC443_2, kC443_3, kC443_4] 30000 (some kC443_4) = true := by decide +kernel
theorem kok443 : aOK kS krf kB kE443 := aOK_of (kal1 kok43 (kal1 kok89 (kal1 kok315 (kal1 kok435 (kal1 kok441 kal0))))) (kcl1 ks443_0 (kcl1 ks443_1 (kcl1 ks443_2 (kcl1 ks443_3 (kcl1 ks443_4 kcl0))))) ks443
/-- ColdShodModel.triesWay(IIIII)V -/
def kE444 : aE := (192, 50, ([kvB 0 7, kvB 0 7, kvB 0 7], [], 0, [kvR 102, kvI 0, kvI 1, kvI 2, kvN 116, kvN 3, none, none], []), ([], none), ([], [], none, ([], [])), kvW65)
def kC444_0 : aC := (([kvB 0 7, kvB 0 7, kvB 0 7, kvB 0 1, kvB 0 3], [], 16, [kvR 102, kvI 0, kvI 1, kvI 2, kvN 116, kvN 3, kvI 3, kvI 4], []), ([], []), (335, [(-1, 4)]))
def kC444_1 : aC := (([kvB 0 7, kvB 0 7, kvB 0 7, kvB 0 12], [], 141, [kvR 102, kvI 0, kvI 1, kvI 2, kvN 116, kvN 3, kvI 3, none], []), ([], []), (141, [(-11, 3)]))
def kC444_2 : aC := (([kvB 0 7, kvB 0 7, kvB 0 7, kvB 0 11, (.negSucc 0, .ofNat 7), kvB 1 12], [(102, 8, .inl (5, .ofNat 0))], 195, [kvR 102, kvI 0, kvI 1, kvI 2, kvN 116, kvN 3, kvI 3, kvI 4], []), ([], []), (139, [(-11, 3), (-1, 4)]))
def kC444_3 : aC := (([kvB 0 7, kvB 0 7, kvB 0 7, (.negSucc 0, .ofNat 2147483647)], [(102, 29, .inl (3, .ofNat 0))], 91, [kvR 102, kvI 0, kvI 1, kvI 2, kvN 116, kvN 3, kvN 1, kvN 3], []), ([], []), (166, []))
def kC444_4 : aC := (([kvB 0 7, kvB 0 7, kvB 0 7, kvB 0 3, (.negSucc 0, .ofNat 99)], [(102, 29, .inl (4, .ofNat 0)), (102, 30, .inr (.ofNat 3))], 110, [kvR 102, kvI 0, kvI 1, kvI 2, kvN 116, kvN 3, kvN 1, kvI 3], []), ([], []), (3, [(-1, 3)]))
theorem ks444 : aseg kS krf kB [kE43, kE89, kE316, kE436, kE442, kE443] (ksp [(192, 200, 7, 0, 7, 0)]) kE444 [kC444_0, kC444_1, kC444_2, kC444_3, kC444_4] 30000 (none) = true := by decide +kernel
theorem ks444_0 : aseg kS krf kB [kE43, kE89, kE316, kE436, kE442, kE443] (ksp [(192, 200, 7, 0, 7, 0)]) kE444 [kC444_0, kC444_1, kC444_2, kC444_3, kC444_4] 30000 (some kC444_0) = true := by decide +kernel
theorem ks444_1 : aseg kS krf kB [kE43, kE89, kE316, kE436, kE442, kE443] (ksp [(192, 200, 7, 0, 7, 0)]) kE444 [kC444_0, kC444_1, kC444_2, kC444_3, kC444_4] 30000 (some kC444_1) = true := by decide +kernel
theorem ks444_2 : aseg kS krf kB [kE43, kE89, kE316, kE436, kE442, kE443] (ksp [(192, 200, 7, 0, 7, 0)]) kE444 [kC444_0, kC444_1, kC444_2, kC444_3, kC444_4] 30000 (some kC444_2) = true := by decide +kernel
theorem ks444_3 : aseg kS krf kB [kE43, kE89, kE316, kE436, kE442, kE443] (ksp [(192, 200, 7, 0, 7, 0)]) kE444 [kC444_0, kC444_1, kC444_2, kC444_3, kC444_4] 30000 (some kC444_3) = true := by decide +kernel
theorem ks444_4 : aseg kS krf kB [kE43, kE89, kE316, kE436, kE442, kE443] (ksp [(192, 200, 7, 0, 7, 0)]) kE444 [kC444_0, kC444_1, kC444_2, kC444_3, kC444_4] 30000 (some kC444_4) = true := by decide +kernel
theorem kok444 : aOK kS krf kB kE444 := aOK_of (kal1 kok43 (kal1 kok89 (kal1 kok316 (kal1 kok436 (kal1 kok442 (kal1 kok443 kal0)))))) (kcl1 ks444_0 (kcl1 ks444_1 (kcl1 ks444_2 (kcl1 ks444_3 (kcl1 ks444_4 kcl0))))) ks444
/-- ColdShodModel.triesWay(IIIII)V -/
def kE445 : aE := (192, 49, ([kvB 0 7, kvB 0 7, kvB 0 7], [], 0, [kvR 102, kvI 0, kvI 1, kvI 2, kvN 115, kvN 4, none, none], []), ([], none), ([], [], none, ([], [])), kvW64)
def kC445_0 : aC := (([kvB 0 7, kvB 0 7, kvB 0 7, kvB 0 1, kvB 0 4], [], 16, [kvR 102, kvI 0, kvI 1, kvI 2, kvN 115, kvN 4, kvI 3, kvI 4], []), ([], []), (336, [(-1, 4)]))
def kC445_1 : aC := (([kvB 0 7, kvB 0 7, kvB 0 7, kvB 0 12], [], 141, [kvR 102, kvI 0, kvI 1, kvI 2, kvN 115, kvN 4, kvI 3, none], []), ([], []), (141, [(-11, 3)]))
def kC445_2 : aC := (([kvB 0 7, kvB 0 7, kvB 0 7, kvB 0 11, (.negSucc 0, .ofNat 7), kvB 1 12], [(102, 8, .inl (5, .ofNat 0))], 195, [kvR 102, kvI 0, kvI 1, kvI 2, kvN 115, kvN 4, kvI 3, kvI 4], []), ([], []), (139, [(-11, 3), (-1, 4)]))
def kC445_3 : aC := (([kvB 0 7, kvB 0 7, kvB 0 7, (.negSucc 0, .ofNat 2147483647)], [(102, 29, .inl (3, .ofNat 0))], 91, [kvR 102, kvI 0, kvI 1, kvI 2, kvN 115, kvN 4, kvN 1, kvN 4], []), ([], []), (166, []))
def kC445_4 : aC := (([kvB 0 7, kvB 0 7, kvB 0 7, kvB 0 4, (.negSucc 0, .ofNat 99)], [(102, 29, .inl (4, .ofNat 0)), (102, 30, .inr (.ofNat 4))], 110, [kvR 102, kvI 0, kvI 1, kvI 2, kvN 115, kvN 4, kvN 1, kvI 3], []), ([], []), (4, [(-1, 3)]))
theorem ks445 : aseg kS krf kB [kE43, kE89, kE317, kE437, kE441] (ksp [(192, 200, 7, 0, 7, 0)]) kE445 [kC445_0, kC445_1, kC445_2, kC445_3, kC445_4] 30000 (none) = true := by decide +kernel
theorem ks445_0 : aseg kS krf kB [kE43, kE89, kE317, kE437, kE441] (ksp [(192, 200, 7, 0, 7, 0)]) kE445 [kC445_0, kC445_1, kC445_2, kC445_3, kC445_4] 30000 (some kC445_0) = true := by decide +kernel
theorem ks445_1 : aseg kS krf kB [kE43, kE89, kE317, kE437, kE441] (ksp [(192, 200, 7, 0, 7, 0)]) kE445 [kC445_0, kC445_1, kC445_2, kC445_3, kC445_4] 30000 (some kC445_1) = true := by decide +kernel
theorem ks445_2 : aseg kS krf kB [kE43, kE89, kE317, kE437, kE441] (ksp [(192, 200, 7, 0, 7, 0)]) kE445 [kC445_0, kC445_1, kC445_2, kC445_3, kC445_4] 30000 (some kC445_2) = true := by decide +kernel
theorem ks445_3 : aseg kS krf kB [kE43, kE89, kE317, kE437, kE441] (ksp [(192, 200, 7, 0, 7, 0)]) kE445 [kC445_0, kC445_1, kC445_2, kC445_3, kC445_4] 30000 (some kC445_3) = true := by decide +kernel
theorem ks445_4 : aseg kS krf kB [kE43, kE89, kE317, kE437, kE441] (ksp [(192, 200, 7, 0, 7, 0)]) kE445 [kC445_0, kC445_1, kC445_2, kC445_3, kC445_4] 30000 (some kC445_4) = true := by decide +kernel
theorem kok445 : aOK kS krf kB kE445 := aOK_of (kal1 kok43 (kal1 kok89 (kal1 kok317 (kal1 kok437 (kal1 kok441 kal0))))) (kcl1 ks445_0 (kcl1 ks445_1 (kcl1 ks445_2 (kcl1 ks445_3 (kcl1 ks445_4 kcl0))))) ks445
/-- ColdShodModel.triesWay(IIIII)V -/
def kE446 : aE := (192, 50, ([kvB 0 7, kvB 0 7, kvB 0 7], [], 0, [kvR 102, kvI 0, kvI 1, kvI 2, kvN 114, kvN 3, none, none], []), ([], none), ([], [], none, ([], [])), kvW65)
def kC446_0 : aC := (([kvB 0 7, kvB 0 7, kvB 0 7, kvB 0 1, kvB 0 3], [], 16, [kvR 102, kvI 0, kvI 1, kvI 2, kvN 114, kvN 3, kvI 3, kvI 4], []), ([], []), (335, [(-1, 4)]))
def kC446_1 : aC := (([kvB 0 7, kvB 0 7, kvB 0 7, kvB 0 12], [], 141, [kvR 102, kvI 0, kvI 1, kvI 2, kvN 114, kvN 3, kvI 3, none], []), ([], []), (141, [(-11, 3)]))
def kC446_2 : aC := (([kvB 0 7, kvB 0 7, kvB 0 7, kvB 0 11, (.negSucc 0, .ofNat 7), kvB 1 12], [(102, 8, .inl (5, .ofNat 0))], 195, [kvR 102, kvI 0, kvI 1, kvI 2, kvN 114, kvN 3, kvI 3, kvI 4], []), ([], []), (139, [(-11, 3), (-1, 4)]))
def kC446_3 : aC := (([kvB 0 7, kvB 0 7, kvB 0 7, (.negSucc 0, .ofNat 2147483647)], [(102, 29, .inl (3, .ofNat 0))], 91, [kvR 102, kvI 0, kvI 1, kvI 2, kvN 114, kvN 3, kvN 1, kvN 3], []), ([], []), (166, []))
def kC446_4 : aC := (([kvB 0 7, kvB 0 7, kvB 0 7, kvB 0 3, (.negSucc 0, .ofNat 99)], [(102, 29, .inl (4, .ofNat 0)), (102, 30, .inr (.ofNat 3))], 110, [kvR 102, kvI 0, kvI 1, kvI 2, kvN 114, kvN 3, kvN 1, kvI 3], []), ([], []), (3, [(-1, 3)]))
theorem ks446 : aseg kS krf kB [kE43, kE89, kE318, kE438, kE442, kE445] (ksp [(192, 200, 7, 0, 7, 0)]) kE446 [kC446_0, kC446_1, kC446_2, kC446_3, kC446_4] 30000 (none) = true := by decide +kernel
theorem ks446_0 : aseg kS krf kB [kE43, kE89, kE318, kE438, kE442, kE445] (ksp [(192, 200, 7, 0, 7, 0)]) kE446 [kC446_0, kC446_1, kC446_2, kC446_3, kC446_4] 30000 (some kC446_0) = true := by decide +kernel
theorem ks446_1 : aseg kS krf kB [kE43, kE89, kE318, kE438, kE442, kE445] (ksp [(192, 200, 7, 0, 7, 0)]) kE446 [kC446_0, kC446_1, kC446_2, kC446_3, kC446_4] 30000 (some kC446_1) = true := by decide +kernel
theorem ks446_2 : aseg kS krf kB [kE43, kE89, kE318, kE438, kE442, kE445] (ksp [(192, 200, 7, 0, 7, 0)]) kE446 [kC446_0, kC446_1, kC446_2, kC446_3, kC446_4] 30000 (some kC446_2) = true := by decide +kernel
theorem ks446_3 : aseg kS krf kB [kE43, kE89, kE318, kE438, kE442, kE445] (ksp [(192, 200, 7, 0, 7, 0)]) kE446 [kC446_0, kC446_1, kC446_2, kC446_3, kC446_4] 30000 (some kC446_3) = true := by decide +kernel
theorem ks446_4 : aseg kS krf kB [kE43, kE89, kE318, kE438, kE442, kE445] (ksp [(192, 200, 7, 0, 7, 0)]) kE446 [kC446_0, kC446_1, kC446_2, kC446_3, kC446_4] 30000 (some kC446_4) = true := by decide +kernel
theorem kok446 : aOK kS krf kB kE446 := aOK_of (kal1 kok43 (kal1 kok89 (kal1 kok318 (kal1 kok438 (kal1 kok442 (kal1 kok445 kal0)))))) (kcl1 ks446_0 (kcl1 ks446_1 (kcl1 ks446_2 (kcl1 ks446_3 (kcl1 ks446_4 kcl0))))) ks446
/-- ColdShodModel.triesWay(IIIII)V -/
def kE447 : aE := (192, 50, ([kvB 0 7, kvB 0 7, kvB 0 7], [], 0, [kvR 102, kvI 0, kvI 1, kvI 2, kvN 113, kvN 3, none, none], []), ([], none), ([], [], none, ([], [])), kvW65)
def kC447_0 : aC := (([kvB 0 7, kvB 0 7, kvB 0 7, kvB 0 1, kvB 0 3], [], 16, [kvR 102, kvI 0, kvI 1, kvI 2, kvN 113, kvN 3, kvI 3, kvI 4], []), ([], []), (335, [(-1, 4)]))
def kC447_1 : aC := (([kvB 0 7, kvB 0 7, kvB 0 7, kvB 0 12], [], 141, [kvR 102, kvI 0, kvI 1, kvI 2, kvN 113, kvN 3, kvI 3, none], []), ([], []), (141, [(-11, 3)]))
def kC447_2 : aC := (([kvB 0 7, kvB 0 7, kvB 0 7, kvB 0 11, (.negSucc 0, .ofNat 7), kvB 1 12], [(102, 8, .inl (5, .ofNat 0))], 195, [kvR 102, kvI 0, kvI 1, kvI 2, kvN 113, kvN 3, kvI 3, kvI 4], []), ([], []), (139, [(-11, 3), (-1, 4)]))
def kC447_3 : aC := (([kvB 0 7, kvB 0 7, kvB 0 7, (.negSucc 0, .ofNat 2147483647)], [(102, 29, .inl (3, .ofNat 0))], 91, [kvR 102, kvI 0, kvI 1, kvI 2, kvN 113, kvN 3, kvN 1, kvN 3], []), ([], []), (166, []))
def kC447_4 : aC := (([kvB 0 7, kvB 0 7, kvB 0 7, kvB 0 3, (.negSucc 0, .ofNat 99)], [(102, 29, .inl (4, .ofNat 0)), (102, 30, .inr (.ofNat 3))], 110, [kvR 102, kvI 0, kvI 1, kvI 2, kvN 113, kvN 3, kvN 1, kvI 3], []), ([], []), (3, [(-1, 3)]))
theorem ks447 : aseg kS krf kB [kE43, kE89, kE319, kE439, kE443, kE445] (ksp [(192, 200, 7, 0, 7, 0)]) kE447 [kC447_0, kC447_1, kC447_2, kC447_3, kC447_4] 30000 (none) = true := by decide +kernel
theorem ks447_0 : aseg kS krf kB [kE43, kE89, kE319, kE439, kE443, kE445] (ksp [(192, 200, 7, 0, 7, 0)]) kE447 [kC447_0, kC447_1, kC447_2, kC447_3, kC447_4] 30000 (some kC447_0) = true := by decide +kernel
theorem ks447_1 : aseg kS krf kB [kE43, kE89, kE319, kE439, kE443, kE445] (ksp [(192, 200, 7, 0, 7, 0)]) kE447 [kC447_0, kC447_1, kC447_2, kC447_3, kC447_4] 30000 (some kC447_1) = true := by decide +kernel
theorem ks447_2 : aseg kS krf kB [kE43, kE89, kE319, kE439, kE443, kE445] (ksp [(192, 200, 7, 0, 7, 0)]) kE447 [kC447_0, kC447_1, kC447_2, kC447_3, kC447_4] 30000 (some kC447_2) = true := by decide +kernel
theorem ks447_3 : aseg kS krf kB [kE43, kE89, kE319, kE439, kE443, kE445] (ksp [(192, 200, 7, 0, 7, 0)]) kE447 [kC447_0, kC447_1, kC447_2, kC447_3, kC447_4] 30000 (some kC447_3) = true := by decide +kernel
theorem ks447_4 : aseg kS krf kB [kE43, kE89, kE319, kE439, kE443, kE445] (ksp [(192, 200, 7, 0, 7, 0)]) kE447 [kC447_0, kC447_1, kC447_2, kC447_3, kC447_4] 30000 (some kC447_4) = true := by decide +kernel
theorem kok447 : aOK kS krf kB kE447 := aOK_of (kal1 kok43 (kal1 kok89 (kal1 kok319 (kal1 kok439 (kal1 kok443 (kal1 kok445 kal0)))))) (kcl1 ks447_0 (kcl1 ks447_1 (kcl1 ks447_2 (kcl1 ks447_3 (kcl1 ks447_4 kcl0))))) ks447
/-- ColdShodModel.triesWay(IIIII)V -/
def kE448 : aE := (192, 51, ([kvB 0 7, kvB 0 7, kvB 0 7], [], 0, [kvR 102, kvI 0, kvI 1, kvI 2, kvN 112, kvN 2, none, none], []), ([], none), ([], [], none, ([], [])), kvW66)
def kC448_0 : aC := (([kvB 0 7, kvB 0 7, kvB 0 7, kvB 0 1, kvB 0 2], [], 16, [kvR 102, kvI 0, kvI 1, kvI 2, kvN 112, kvN 2, kvI 3, kvI 4], []), ([], []), (334, [(-1, 4)]))
def kC448_1 : aC := (([kvB 0 7, kvB 0 7, kvB 0 7, kvB 0 12], [], 141, [kvR 102, kvI 0, kvI 1, kvI 2, kvN 112, kvN 2, kvI 3, none], []), ([], []), (141, [(-11, 3)]))
def kC448_2 : aC := (([kvB 0 7, kvB 0 7, kvB 0 7, kvB 0 11, (.negSucc 0, .ofNat 7), kvB 1 12], [(102, 8, .inl (5, .ofNat 0))], 195, [kvR 102, kvI 0, kvI 1, kvI 2, kvN 112, kvN 2, kvI 3, kvI 4], []), ([], []), (139, [(-11, 3), (-1, 4)]))
def kC448_3 : aC := (([kvB 0 7, kvB 0 7, kvB 0 7, (.negSucc 0, .ofNat 2147483647)], [(102, 29, .inl (3, .ofNat 0))], 91, [kvR 102, kvI 0, kvI 1, kvI 2, kvN 112, kvN 2, kvN 1, kvN 2], []), ([], []), (166, []))
def kC448_4 : aC := (([kvB 0 7, kvB 0 7, kvB 0 7, kvB 0 2, (.negSucc 0, .ofNat 99)], [(102, 29, .inl (4, .ofNat 0)), (102, 30, .inr (.ofNat 2))], 110, [kvR 102, kvI 0, kvI 1, kvI 2, kvN 112, kvN 2, kvN 1, kvI 3], []), ([], []), (2, [(-1, 3)]))
theorem ks448 : aseg kS krf kB [kE43, kE89, kE320, kE440, kE444, kE446, kE447] (ksp [(192, 200, 7, 0, 7, 0)]) kE448 [kC448_0, kC448_1, kC448_2, kC448_3, kC448_4] 30000 (none) = true := by decide +kernel
theorem ks448_0 : aseg kS krf kB [kE43, kE89, kE320, kE440, kE444, kE446, kE447] (ksp [(192, 200, 7, 0, 7, 0)]) kE448 [kC448_0, kC448_1, kC448_2, kC448_3, kC448_4] 30000 (some kC448_0) = true := by decide +kernel
theorem ks448_1 : aseg kS krf kB [kE43, kE89, kE320, kE440, kE444, kE446, kE447] (ksp [(192, 200, 7, 0, 7, 0)]) kE448 [kC448_0, kC448_1, kC448_2, kC448_3, kC448_4] 30000 (some kC448_1) = true := by decide +kernel
theorem ks448_2 : aseg kS krf kB [kE43, kE89, kE320, kE440, kE444, kE446, kE447] (ksp [(192, 200, 7, 0, 7, 0)]) kE448 [kC448_0, kC448_1, kC448_2, kC448_3, kC448_4] 30000 (some kC448_2) = true := by decide +kernel
theorem ks448_3 : aseg kS krf kB [kE43, kE89, kE320, kE440, kE444, kE446, kE447] (ksp [(192, 200, 7, 0, 7, 0)]) kE448 [kC448_0, kC448_1, kC448_2, kC448_3, kC448_4] 30000 (some kC448_3) = true := by decide +kernel
theorem ks448_4 : aseg kS krf kB [kE43, kE89, kE320, kE440, kE444, kE446, kE447] (ksp [(192, 200, 7, 0, 7, 0)]) kE448 [kC448_0, kC448_1, kC448_2, kC448_3, kC448_4] 30000 (some kC448_4) = true := by decide +kernel
theorem kok448 : aOK kS krf kB kE448 := aOK_of (kal1 kok43 (kal1 kok89 (kal1 kok320 (kal1 kok440 (kal1 kok444 (kal1 kok446 (kal1 kok447 kal0))))))) (kcl1 ks448_0 (kcl1 ks448_1 (kcl1 ks448_2 (kcl1 ks448_3 (kcl1 ks448_4 kcl0))))) ks448
