/-! ENTRIES and their checks: printed by a program (wip/ai). -/
/-- ColdShodModel.triesWay(IIIII)V -/
def kE524 : aE := (192, 52, ([kvB 0 7, kvB 0 7, kvB 0 7], [], 0, [kvR 102, kvI 0, kvI 1, kvI 2, kvN 36, kvN 1, none, none], []), ([], none), ([], [], none, ([], [])), kvW67)
def kC524_0 : aC := (([kvB 0 7, kvB 0 7, kvB 0 7, kvB 0 1, kvB 0 1], [], 16, [kvR 102, kvI 0, kvI 1, kvI 2, kvN 36, kvN 1, kvI 3, kvI 4], []), ([], []), (333, [(-1, 4)]))
def kC524_1 : aC := (([kvB 0 7, kvB 0 7, kvB 0 7, kvB 0 12], [], 141, [kvR 102, kvI 0, kvI 1, kvI 2, kvN 36, kvN 1, kvI 3, none], []), ([], []), (141, [(-11, 3)]))
def kC524_2 : aC := (([kvB 0 7, kvB 0 7, kvB 0 7, kvB 0 11, (.negSucc 0, .ofNat 7), kvB 1 12], [(102, 8, .inl (5, .ofNat 0))], 195, [kvR 102, kvI 0, kvI 1, kvI 2, kvN 36, kvN 1, kvI 3, kvI 4], []), ([], []), (139, [(-11, 3), (-1, 4)]))
def kC524_3 : aC := (([kvB 0 7, kvB 0 7, kvB 0 7, (.negSucc 0, .ofNat 2147483647)], [(102, 29, .inl (3, .ofNat 0))], 91, [kvR 102, kvI 0, kvI 1, kvI 2, kvN 36, kvN 1, kvN 1, kvN 1], []), ([], []), (166, []))
def kC524_4 : aC := (([kvB 0 7, kvB 0 7, kvB 0 7, kvB 0 1, (.negSucc 0, .ofNat 99)], [(102, 29, .inl (4, .ofNat 0)), (102, 30, .inr (.ofNat 1))], 110, [kvR 102, kvI 0, kvI 1, kvI 2, kvN 36, kvN 1, kvN 1, kvI 3], []), ([], []), (1, [(-1, 3)]))
theorem ks524 : aseg kS krf kB [kE43, kE89, kE396, kE460, kE508, kE516, kE522, kE523] (ksp [(192, 200, 7, 0, 7, 0)]) kE524 [kC524_0, kC524_1, kC524_2, kC524_3, kC524_4] 30000 (none) = true := by decide +kernel
theorem ks524_0 : aseg kS krf kB [kE43, kE89, kE396, kE460, kE508, kE516, kE522, kE523] (ksp [(192, 200, 7, 0, 7, 0)]) kE524 [kC524_0, kC524_1, kC524_2, kC524_3, kC524_4] 30000 (some kC524_0) = true := by decide +kernel
theorem ks524_1 : aseg kS krf kB [kE43, kE89, kE396, kE460, kE508, kE516, kE522, kE523] (ksp [(192, 200, 7, 0, 7, 0)]) kE524 [kC524_0, kC524_1, kC524_2, kC524_3, kC524_4] 30000 (some kC524_1) = true := by decide +kernel
theorem ks524_2 : aseg kS krf kB [kE43, kE89, kE396, kE460, kE508, kE516, kE522, kE523] (ksp [(192, 200, 7, 0, 7, 0)]) kE524 [kC524_0, kC524_1, kC524_2, kC524_3, kC524_4] 30000 (some kC524_2) = true := by decide +kernel
theorem ks524_3 : aseg kS krf kB [kE43, kE89, kE396, kE460, kE508, kE516, kE522, kE523] (ksp [(192, 200, 7, 0, 7, 0)]) kE524 [kC524_0, kC524_1, kC524_2, kC524_3, kC524_4] 30000 (some kC524_3) = true := by decide +kernel
theorem ks524_4 : aseg kS krf kB [kE43, kE89, kE396, kE460, kE508, kE516, kE522, kE523] (ksp [(192, 200, 7, 0, 7, 0)]) kE524 [kC524_0, kC524_1, kC524_2, kC524_3, kC524_4] 30000 (some kC524_4) = true := by decide +kernel
theorem kok524 : aOK kS krf kB kE524 := aOK_of (kal1 kok43 (kal1 kok89 (kal1 kok396 (kal1 kok460 (kal1 kok508 (kal1 kok516 (kal1 kok522 (kal1 kok523 kal0)))))))) (kcl1 ks524_0 (kcl1 ks524_1 (kcl1 ks524_2 (kcl1 ks524_3 (kcl1 ks524_4 kcl0))))) ks524
/-- ColdShodModel.triesWay(IIIII)V -/
def kE525 : aE := (192, 51, ([kvB 0 7, kvB 0 7, kvB 0 7], [], 0, [kvR 102, kvI 0, kvI 1, kvI 2, kvN 35, kvN 2, none, none], []), ([], none), ([], [], none, ([], [])), kvW66)
def kC525_0 : aC := (([kvB 0 7, kvB 0 7, kvB 0 7, kvB 0 1, kvB 0 2], [], 16, [kvR 102, kvI 0, kvI 1, kvI 2, kvN 35, kvN 2, kvI 3, kvI 4], []), ([], []), (334, [(-1, 4)]))
def kC525_1 : aC := (([kvB 0 7, kvB 0 7, kvB 0 7, kvB 0 12], [], 141, [kvR 102, kvI 0, kvI 1, kvI 2, kvN 35, kvN 2, kvI 3, none], []), ([], []), (141, [(-11, 3)]))
def kC525_2 : aC := (([kvB 0 7, kvB 0 7, kvB 0 7, kvB 0 11, (.negSucc 0, .ofNat 7), kvB 1 12], [(102, 8, .inl (5, .ofNat 0))], 195, [kvR 102, kvI 0, kvI 1, kvI 2, kvN 35, kvN 2, kvI 3, kvI 4], []), ([], []), (139, [(-11, 3), (-1, 4)]))
def kC525_3 : aC := (([kvB 0 7, kvB 0 7, kvB 0 7, (.negSucc 0, .ofNat 2147483647)], [(102, 29, .inl (3, .ofNat 0))], 91, [kvR 102, kvI 0, kvI 1, kvI 2, kvN 35, kvN 2, kvN 1, kvN 2], []), ([], []), (166, []))
def kC525_4 : aC := (([kvB 0 7, kvB 0 7, kvB 0 7, kvB 0 2, (.negSucc 0, .ofNat 99)], [(102, 29, .inl (4, .ofNat 0)), (102, 30, .inr (.ofNat 2))], 110, [kvR 102, kvI 0, kvI 1, kvI 2, kvN 35, kvN 2, kvN 1, kvI 3], []), ([], []), (2, [(-1, 3)]))
theorem ks525 : aseg kS krf kB [kE43, kE89, kE397, kE461, kE509, kE517, kE521] (ksp [(192, 200, 7, 0, 7, 0)]) kE525 [kC525_0, kC525_1, kC525_2, kC525_3, kC525_4] 30000 (none) = true := by decide +kernel
theorem ks525_0 : aseg kS krf kB [kE43, kE89, kE397, kE461, kE509, kE517, kE521] (ksp [(192, 200, 7, 0, 7, 0)]) kE525 [kC525_0, kC525_1, kC525_2, kC525_3, kC525_4] 30000 (some kC525_0) = true := by decide +kernel
theorem ks525_1 : aseg kS krf kB [kE43, kE89, kE397, kE461, kE509, kE517, kE521] (ksp [(192, 200, 7, 0, 7, 0)]) kE525 [kC525_0, kC525_1, kC525_2, kC525_3, kC525_4] 30000 (some kC525_1) = true := by decide +kernel
theorem ks525_2 : aseg kS krf kB [kE43, kE89, kE397, kE461, kE509, kE517, kE521] (ksp [(192, 200, 7, 0, 7, 0)]) kE525 [kC525_0, kC525_1, kC525_2, kC525_3, kC525_4] 30000 (some kC525_2) = true := by decide +kernel
theorem ks525_3 : aseg kS krf kB [kE43, kE89, kE397, kE461, kE509, kE517, kE521] (ksp [(192, 200, 7, 0, 7, 0)]) kE525 [kC525_0, kC525_1, kC525_2, kC525_3, kC525_4] 30000 (some kC525_3) = true := by decide +kernel
theorem ks525_4 : aseg kS krf kB [kE43, kE89, kE397, kE461, kE509, kE517, kE521] (ksp [(192, 200, 7, 0, 7, 0)]) kE525 [kC525_0, kC525_1, kC525_2, kC525_3, kC525_4] 30000 (some kC525_4) = true := by decide +kernel
theorem kok525 : aOK kS krf kB kE525 := aOK_of (kal1 kok43 (kal1 kok89 (kal1 kok397 (kal1 kok461 (kal1 kok509 (kal1 kok517 (kal1 kok521 kal0))))))) (kcl1 ks525_0 (kcl1 ks525_1 (kcl1 ks525_2 (kcl1 ks525_3 (kcl1 ks525_4 kcl0))))) ks525
/-- ColdShodModel.triesWay(IIIII)V -/
def kE526 : aE := (192, 52, ([kvB 0 7, kvB 0 7, kvB 0 7], [], 0, [kvR 102, kvI 0, kvI 1, kvI 2, kvN 34, kvN 1, none, none], []), ([], none), ([], [], none, ([], [])), kvW67)
def kC526_0 : aC := (([kvB 0 7, kvB 0 7, kvB 0 7, kvB 0 1, kvB 0 1], [], 16, [kvR 102, kvI 0, kvI 1, kvI 2, kvN 34, kvN 1, kvI 3, kvI 4], []), ([], []), (333, [(-1, 4)]))
def kC526_1 : aC := (([kvB 0 7, kvB 0 7, kvB 0 7, kvB 0 12], [], 141, [kvR 102, kvI 0, kvI 1, kvI 2, kvN 34, kvN 1, kvI 3, none], []), ([], []), (141, [(-11, 3)]))
def kC526_2 : aC := (([kvB 0 7, kvB 0 7, kvB 0 7, kvB 0 11, (.negSucc 0, .ofNat 7), kvB 1 12], [(102, 8, .inl (5, .ofNat 0))], 195, [kvR 102, kvI 0, kvI 1, kvI 2, kvN 34, kvN 1, kvI 3, kvI 4], []), ([], []), (139, [(-11, 3), (-1, 4)]))
def kC526_3 : aC := (([kvB 0 7, kvB 0 7, kvB 0 7, (.negSucc 0, .ofNat 2147483647)], [(102, 29, .inl (3, .ofNat 0))], 91, [kvR 102, kvI 0, kvI 1, kvI 2, kvN 34, kvN 1, kvN 1, kvN 1], []), ([], []), (166, []))
def kC526_4 : aC := (([kvB 0 7, kvB 0 7, kvB 0 7, kvB 0 1, (.negSucc 0, .ofNat 99)], [(102, 29, .inl (4, .ofNat 0)), (102, 30, .inr (.ofNat 1))], 110, [kvR 102, kvI 0, kvI 1, kvI 2, kvN 34, kvN 1, kvN 1, kvI 3], []), ([], []), (1, [(-1, 3)]))
theorem ks526 : aseg kS krf kB [kE43, kE89, kE398, kE462, kE510, kE518, kE522, kE525] (ksp [(192, 200, 7, 0, 7, 0)]) kE526 [kC526_0, kC526_1, kC526_2, kC526_3, kC526_4] 30000 (none) = true := by decide +kernel
theorem ks526_0 : aseg kS krf kB [kE43, kE89, kE398, kE462, kE510, kE518, kE522, kE525] (ksp [(192, 200, 7, 0, 7, 0)]) kE526 [kC526_0, kC526_1, kC526_2, kC526_3, kC526_4] 30000 (some kC526_0) = true := by decide +kernel
theorem ks526_1 : aseg kS krf kB [kE43, kE89, kE398, kE462, kE510, kE518, kE522, kE525] (ksp [(192, 200, 7, 0, 7, 0)]) kE526 [kC526_0, kC526_1, kC526_2, kC526_3, kC526_4] 30000 (some kC526_1) = true := by decide +kernel
theorem ks526_2 : aseg kS krf kB [kE43, kE89, kE398, kE462, kE510, kE518, kE522, kE525] (ksp [(192, 200, 7, 0, 7, 0)]) kE526 [kC526_0, kC526_1, kC526_2, kC526_3, kC526_4] 30000 (some kC526_2) = true := by decide +kernel
theorem ks526_3 : aseg kS krf kB [kE43, kE89, kE398, kE462, kE510, kE518, kE522, kE525] (ksp [(192, 200, 7, 0, 7, 0)]) kE526 [kC526_0, kC526_1, kC526_2, kC526_3, kC526_4] 30000 (some kC526_3) = true := by decide +kernel
theorem ks526_4 : aseg kS krf kB [kE43, kE89, kE398, kE462, kE510, kE518, kE522, kE525] (ksp [(192, 200, 7, 0, 7, 0)]) kE526 [kC526_0, kC526_1, kC526_2, kC526_3, kC526_4] 30000 (some kC526_4) = true := by decide +kernel
theorem kok526 : aOK kS krf kB kE526 := aOK_of (kal1 kok43 (kal1 kok89 (kal1 kok398 (kal1 kok462 (kal1 kok510 (kal1 kok518 (kal1 kok522 (kal1 kok525 kal0)))))))) (kcl1 ks526_0 (kcl1 ks526_1 (kcl1 ks526_2 (kcl1 ks526_3 (kcl1 ks526_4 kcl0))))) ks526
/-- ColdShodModel.triesWay(IIIII)V -/
def kE527 : aE := (192, 52, ([kvB 0 7, kvB 0 7, kvB 0 7], [], 0, [kvR 102, kvI 0, kvI 1, kvI 2, kvN 33, kvN 1, none, none], []), ([], none), ([], [], none, ([], [])), kvW67)
def kC527_0 : aC := (([kvB 0 7, kvB 0 7, kvB 0 7, kvB 0 1, kvB 0 1], [], 16, [kvR 102, kvI 0, kvI 1, kvI 2, kvN 33, kvN 1, kvI 3, kvI 4], []), ([], []), (333, [(-1, 4)]))
def kC527_1 : aC := (([kvB 0 7, kvB 0 7, kvB 0 7, kvB 0 12], [], 141, [kvR 102, kvI 0, kvI 1, kvI 2, kvN 33, kvN 1, kvI 3, none], []), ([], []), (141, [(-11, 3)]))
def kC527_2 : aC := (([kvB 0 7, kvB 0 7, kvB 0 7, kvB 0 11, (.negSucc 0, .ofNat 7), kvB 1 12], [(102, 8, .inl (5, .ofNat 0))], 195, [kvR 102, kvI 0, kvI 1, kvI 2, kvN 33, kvN 1, kvI 3, kvI 4], []), ([], []), (139, [(-11, 3), (-1, 4)]))
def kC527_3 : aC := (([kvB 0 7, kvB 0 7, kvB 0 7, (.negSucc 0, .ofNat 2147483647)], [(102, 29, .inl (3, .ofNat 0))], 91, [kvR 102, kvI 0, kvI 1, kvI 2, kvN 33, kvN 1, kvN 1, kvN 1], []), ([], []), (166, []))
def kC527_4 : aC := (([kvB 0 7, kvB 0 7, kvB 0 7, kvB 0 1, (.negSucc 0, .ofNat 99)], [(102, 29, .inl (4, .ofNat 0)), (102, 30, .inr (.ofNat 1))], 110, [kvR 102, kvI 0, kvI 1, kvI 2, kvN 33, kvN 1, kvN 1, kvI 3], []), ([], []), (1, [(-1, 3)]))
theorem ks527 : aseg kS krf kB [kE43, kE89, kE399, kE463, kE511, kE519, kE523, kE525] (ksp [(192, 200, 7, 0, 7, 0)]) kE527 [kC527_0, kC527_1, kC527_2, kC527_3, kC527_4] 30000 (none) = true := by decide +kernel
theorem ks527_0 : aseg kS krf kB [kE43, kE89, kE399, kE463, kE511, kE519, kE523, kE525] (ksp [(192, 200, 7, 0, 7, 0)]) kE527 [kC527_0, kC527_1, kC527_2, kC527_3, kC527_4] 30000 (some kC527_0) = true := by decide +kernel
theorem ks527_1 : aseg kS krf kB [kE43, kE89, kE399, kE463, kE511, kE519, kE523, kE525] (ksp [(192, 200, 7, 0, 7, 0)]) kE527 [kC527_0, kC527_1, kC527_2, kC527_3, kC527_4] 30000 (some kC527_1) = true := by decide +kernel
theorem ks527_2 : aseg kS krf kB [kE43, kE89, kE399, kE463, kE511, kE519, kE523, kE525] (ksp [(192, 200, 7, 0, 7, 0)]) kE527 [kC527_0, kC527_1, kC527_2, kC527_3, kC527_4] 30000 (some kC527_2) = true := by decide +kernel
theorem ks527_3 : aseg kS krf kB [kE43, kE89, kE399, kE463, kE511, kE519, kE523, kE525] (ksp [(192, 200, 7, 0, 7, 0)]) kE527 [kC527_0, kC527_1, kC527_2, kC527_3, kC527_4] 30000 (some kC527_3) = true := by decide +kernel
theorem ks527_4 : aseg kS krf kB [kE43, kE89, kE399, kE463, kE511, kE519, kE523, kE525] (ksp [(192, 200, 7, 0, 7, 0)]) kE527 [kC527_0, kC527_1, kC527_2, kC527_3, kC527_4] 30000 (some kC527_4) = true := by decide +kernel
theorem kok527 : aOK kS krf kB kE527 := aOK_of (kal1 kok43 (kal1 kok89 (kal1 kok399 (kal1 kok463 (kal1 kok511 (kal1 kok519 (kal1 kok523 (kal1 kok525 kal0)))))))) (kcl1 ks527_0 (kcl1 ks527_1 (kcl1 ks527_2 (kcl1 ks527_3 (kcl1 ks527_4 kcl0))))) ks527
/-- ColdShodModel.triesWay(IIIII)V -/
def kE528 : aE := (192, 53, ([kvB 0 7, kvB 0 7, kvB 0 7], [], 0, [kvR 102, kvI 0, kvI 1, kvI 2, kvN 32, kvN 0, none, none], []), ([], none), ([], [], none, ([], [])), kvW68)
def kC528_0 : aC := (([kvB 0 7, kvB 0 7, kvB 0 7], [], 16, [kvR 102, kvI 0, kvI 1, kvI 2, kvN 32, kvN 0, kvN 1, kvN 0], []), ([], []), (332, []))
def kC528_1 : aC := (([kvB 0 7, kvB 0 7, kvB 0 7, kvB 0 12], [], 141, [kvR 102, kvI 0, kvI 1, kvI 2, kvN 32, kvN 0, kvI 3, none], []), ([], []), (141, [(-11, 3)]))
def kC528_2 : aC := (([kvB 0 7, kvB 0 7, kvB 0 7, (.negSucc 0, .ofNat 2147483647)], [(102, 29, .inl (3, .ofNat 0))], 91, [kvR 102, kvI 0, kvI 1, kvI 2, kvN 32, kvN 0, kvN 1, kvN 0], []), ([], []), (166, []))
def kC528_3 : aC := (([kvB 0 7, kvB 0 7, kvB 0 7, kvB 0 11, (.negSucc 0, .ofNat 7), kvB 1 12], [(102, 8, .inl (5, .ofNat 0))], 195, [kvR 102, kvI 0, kvI 1, kvI 2, kvN 32, kvN 0, kvI 3, kvI 4], []), ([], []), (139, [(-11, 3), (-1, 4)]))
def kC528_4 : aC := (([kvB 0 7, kvB 0 7, kvB 0 7, (.negSucc 0, .ofNat 99)], [(102, 29, .inl (3, .ofNat 0)), (102, 30, .inr (.ofNat 0))], 110, [kvR 102, kvI 0, kvI 1, kvI 2, kvN 32, kvN 0, kvN 1, kvN 0], []), ([], []), (0, []))
theorem ks528 : aseg kS krf kB [kE43, kE400, kE464, kE512, kE520, kE524, kE526, kE527] (ksp [(192, 200, 7, 0, 7, 0)]) kE528 [kC528_0, kC528_1, kC528_2, kC528_3, kC528_4] 30000 (none) = true := by decide +kernel
theorem ks528_0 : aseg kS krf kB [kE43, kE400, kE464, kE512, kE520, kE524, kE526, kE527] (ksp [(192, 200, 7, 0, 7, 0)]) kE528 [kC528_0, kC528_1, kC528_2, kC528_3, kC528_4] 30000 (some kC528_0) = true := by decide +kernel
theorem ks528_1 : aseg kS krf kB [kE43, kE400, kE464, kE512, kE520, kE524, kE526, kE527] (ksp [(192, 200, 7, 0, 7, 0)]) kE528 [kC528_0, kC528_1, kC528_2, kC528_3, kC528_4] 30000 (some kC528_1) = true := by decide +kernel
theorem ks528_2 : aseg kS krf kB [kE43, kE400, kE464, kE512, kE520, kE524, kE526, kE527] (ksp [(192, 200, 7, 0, 7, 0)]) kE528 [kC528_0, kC528_1, kC528_2, kC528_3, kC528_4] 30000 (some kC528_2) = true := by decide +kernel
theorem ks528_3 : aseg kS krf kB [kE43, kE400, kE464, kE512, kE520, kE524, kE526, kE527] (ksp [(192, 200, 7, 0, 7, 0)]) kE528 [kC528_0, kC528_1, kC528_2, kC528_3, kC528_4] 30000 (some kC528_3) = true := by decide +kernel
theorem ks528_4 : aseg kS krf kB [kE43, kE400, kE464, kE512, kE520, kE524, kE526, kE527] (ksp [(192, 200, 7, 0, 7, 0)]) kE528 [kC528_0, kC528_1, kC528_2, kC528_3, kC528_4] 30000 (some kC528_4) = true := by decide +kernel
theorem kok528 : aOK kS krf kB kE528 := aOK_of (kal1 kok43 (kal1 kok400 (kal1 kok464 (kal1 kok512 (kal1 kok520 (kal1 kok524 (kal1 kok526 (kal1 kok527 kal0)))))))) (kcl1 ks528_0 (kcl1 ks528_1 (kcl1 ks528_2 (kcl1 ks528_3 (kcl1 ks528_4 kcl0))))) ks528
/-- ColdShodModel.triesWay(IIIII)V -/
def kE529 : aE := (192, 49, ([kvB 0 7, kvB 0 7, kvB 0 7], [], 0, [kvR 102, kvI 0, kvI 1, kvI 2, kvN 31, kvN 4, none, none], []), ([], none), ([], [], none, ([], [])), kvW64)
def kC529_0 : aC := (([kvB 0 7, kvB 0 7, kvB 0 7, kvB 0 1, kvB 0 4], [], 16, [kvR 102, kvI 0, kvI 1, kvI 2, kvN 31, kvN 4, kvI 3, kvI 4], []), ([], []), (336, [(-1, 4)]))
def kC529_1 : aC := (([kvB 0 7, kvB 0 7, kvB 0 7, kvB 0 12], [], 141, [kvR 102, kvI 0, kvI 1, kvI 2, kvN 31, kvN 4, kvI 3, none], []), ([], []), (141, [(-11, 3)]))
def kC529_2 : aC := (([kvB 0 7, kvB 0 7, kvB 0 7, kvB 0 11, (.negSucc 0, .ofNat 7), kvB 1 12], [(102, 8, .inl (5, .ofNat 0))], 195, [kvR 102, kvI 0, kvI 1, kvI 2, kvN 31, kvN 4, kvI 3, kvI 4], []), ([], []), (139, [(-11, 3), (-1, 4)]))
def kC529_3 : aC := (([kvB 0 7, kvB 0 7, kvB 0 7, (.negSucc 0, .ofNat 2147483647)], [(102, 29, .inl (3, .ofNat 0))], 91, [kvR 102, kvI 0, kvI 1, kvI 2, kvN 31, kvN 4, kvN 1, kvN 4], []), ([], []), (166, []))
def kC529_4 : aC := (([kvB 0 7, kvB 0 7, kvB 0 7, kvB 0 4, (.negSucc 0, .ofNat 99)], [(102, 29, .inl (4, .ofNat 0)), (102, 30, .inr (.ofNat 4))], 110, [kvR 102, kvI 0, kvI 1, kvI 2, kvN 31, kvN 4, kvN 1, kvI 3], []), ([], []), (4, [(-1, 3)]))
theorem ks529 : aseg kS krf kB [kE43, kE89, kE401, kE465, kE497] (ksp [(192, 200, 7, 0, 7, 0)]) kE529 [kC529_0, kC529_1, kC529_2, kC529_3, kC529_4] 30000 (none) = true := by decide +kernel
theorem ks529_0 : aseg kS krf kB [kE43, kE89, kE401, kE465, kE497] (ksp [(192, 200, 7, 0, 7, 0)]) kE529 [kC529_0, kC529_1, kC529_2, kC529_3, kC529_4] 30000 (some kC529_0) = true := by decide +kernel
theorem ks529_1 : aseg kS krf kB [kE43, kE89, kE401, kE465, kE497] (ksp [(192, 200, 7, 0, 7, 0)]) kE529 [kC529_0, kC529_1, kC529_2, kC529_3, kC529_4] 30000 (some kC529_1) = true := by decide +kernel
theorem ks529_2 : aseg kS krf kB [kE43, kE89, kE401, kE465, kE497] (ksp [(192, 200, 7, 0, 7, 0)]) kE529 [kC529_0, kC529_1, kC529_2, kC529_3, kC529_4] 30000 (some kC529_2) = true := by decide +kernel
theorem ks529_3 : aseg kS krf kB [kE43, kE89, kE401, kE465, kE497] (ksp [(192, 200, 7, 0, 7, 0)]) kE529 [kC529_0, kC529_1, kC529_2, kC529_3, kC529_4] 30000 (some kC529_3) = true := by decide +kernel
theorem ks529_4 : aseg kS krf kB [kE43, kE89, kE401, kE465, kE497] (ksp [(192, 200, 7, 0, 7, 0)]) kE529 [kC529_0, kC529_1, kC529_2, kC529_3, kC529_4] 30000 (some kC529_4) = true := by decide +kernel
theorem kok529 : aOK kS krf kB kE529 := aOK_of (kal1 kok43 (kal1 kok89 (kal1 kok401 (kal1 kok465 (kal1 kok497 kal0))))) (kcl1 ks529_0 (kcl1 ks529_1 (kcl1 ks529_2 (kcl1 ks529_3 (kcl1 ks529_4 kcl0))))) ks529
/-- ColdShodModel.triesWay(IIIII)V -/
def kE530 : aE := (192, 50, ([kvB 0 7, kvB 0 7, kvB 0 7], [], 0, [kvR 102, kvI 0, kvI 1, kvI 2, kvN 30, kvN 3, none, none], []), ([], none), ([], [], none, ([], [])), kvW65)
def kC530_0 : aC := (([kvB 0 7, kvB 0 7, kvB 0 7, kvB 0 1, kvB 0 3], [], 16, [kvR 102, kvI 0, kvI 1, kvI 2, kvN 30, kvN 3, kvI 3, kvI 4], []), ([], []), (335, [(-1, 4)]))
def kC530_1 : aC := (([kvB 0 7, kvB 0 7, kvB 0 7, kvB 0 12], [], 141, [kvR 102, kvI 0, kvI 1, kvI 2, kvN 30, kvN 3, kvI 3, none], []), ([], []), (141, [(-11, 3)]))
def kC530_2 : aC := (([kvB 0 7, kvB 0 7, kvB 0 7, kvB 0 11, (.negSucc 0, .ofNat 7), kvB 1 12], [(102, 8, .inl (5, .ofNat 0))], 195, [kvR 102, kvI 0, kvI 1, kvI 2, kvN 30, kvN 3, kvI 3, kvI 4], []), ([], []), (139, [(-11, 3), (-1, 4)]))
def kC530_3 : aC := (([kvB 0 7, kvB 0 7, kvB 0 7, (.negSucc 0, .ofNat 2147483647)], [(102, 29, .inl (3, .ofNat 0))], 91, [kvR 102, kvI 0, kvI 1, kvI 2, kvN 30, kvN 3, kvN 1, kvN 3], []), ([], []), (166, []))
def kC530_4 : aC := (([kvB 0 7, kvB 0 7, kvB 0 7, kvB 0 3, (.negSucc 0, .ofNat 99)], [(102, 29, .inl (4, .ofNat 0)), (102, 30, .inr (.ofNat 3))], 110, [kvR 102, kvI 0, kvI 1, kvI 2, kvN 30, kvN 3, kvN 1, kvI 3], []), ([], []), (3, [(-1, 3)]))
theorem ks530 : aseg kS krf kB [kE43, kE89, kE402, kE466, kE498, kE529] (ksp [(192, 200, 7, 0, 7, 0)]) kE530 [kC530_0, kC530_1, kC530_2, kC530_3, kC530_4] 30000 (none) = true := by decide +kernel
theorem ks530_0 : aseg kS krf kB [kE43, kE89, kE402, kE466, kE498, kE529] (ksp [(192, 200, 7, 0, 7, 0)]) kE530 [kC530_0, kC530_1, kC530_2, kC530_3, kC530_4] 30000 (some kC530_0) = true := by decide +kernel
theorem ks530_1 : aseg kS krf kB [kE43, kE89, kE402, kE466, kE498, kE529] (ksp [(192, 200, 7, 0, 7, 0)]) kE530 [kC530_0, kC530_1, kC530_2, kC530_3, kC530_4] 30000 (some kC530_1) = true := by decide +kernel
theorem ks530_2 : aseg kS krf kB [kE43, kE89, kE402, kE466, kE498, kE529] (ksp [(192, 200, 7, 0, 7, 0)]) kE530 [kC530_0, kC530_1, kC530_2, kC530_3, kC530_4] 30000 (some kC530_2) = true := by decide +kernel
theorem ks530_3 : aseg kS krf kB [kE43, kE89, kE402, kE466, kE498, kE529] (ksp [(192, 200, 7, 0, 7, 0)]) kE530 [kC530_0, kC530_1, kC530_2, kC530_3, kC530_4] 30000 (some kC530_3) = true := by decide +kernel
theorem ks530_4 : aseg kS krf kB [kE43, kE89, kE402, kE466, kE498, kE529] (ksp [(192, 200, 7, 0, 7, 0)]) kE530 [kC530_0, kC530_1, kC530_2, kC530_3, kC530_4] 30000 (some kC530_4) = true := by decide +kernel
theorem kok530 : aOK kS krf kB kE530 := aOK_of (kal1 kok43 (kal1 kok89 (kal1 kok402 (kal1 kok466 (kal1 kok498 (kal1 kok529 kal0)))))) (kcl1 ks530_0 (kcl1 ks530_1 (kcl1 ks530_2 (kcl1 ks530_3 (kcl1 ks530_4 kcl0))))) ks530
/-- ColdShodModel.triesWay(IIIII)V -/
def kE531 : aE := (192, 50, ([kvB 0 7, kvB 0 7, kvB 0 7], [], 0, [kvR 102, kvI 0, kvI 1, kvI 2, kvN 29, kvN 3, none, none], []), ([], none), ([], [], none, ([], [])), kvW65)
def kC531_0 : aC := (([kvB 0 7, kvB 0 7, kvB 0 7, kvB 0 1, kvB 0 3], [], 16, [kvR 102, kvI 0, kvI 1, kvI 2, kvN 29, kvN 3, kvI 3, kvI 4], []), ([], []), (335, [(-1, 4)]))
def kC531_1 : aC := (([kvB 0 7, kvB 0 7, kvB 0 7, kvB 0 12], [], 141, [kvR 102, kvI 0, kvI 1, kvI 2, kvN 29, kvN 3, kvI 3, none], []), ([], []), (141, [(-11, 3)]))
def kC531_2 : aC := (([kvB 0 7, kvB 0 7, kvB 0 7, kvB 0 11, (.negSucc 0, .ofNat 7), kvB 1 12], [(102, 8, .inl (5, .ofNat 0))], 195, [kvR 102, kvI 0, kvI 1, kvI 2, kvN 29, kvN 3, kvI 3, kvI 4], []), ([], []), (139, [(-11, 3), (-1, 4)]))
def kC531_3 : aC := (([kvB 0 7, kvB 0 7, kvB 0 7, (.negSucc 0, .ofNat 2147483647)], [(102, 29, .inl (3, .ofNat 0))], 91, [kvR 102, kvI 0, kvI 1, kvI 2, kvN 29, kvN 3, kvN 1, kvN 3], []), ([], []), (166, []))
def kC531_4 : aC := (([kvB 0 7, kvB 0 7, kvB 0 7, kvB 0 3, (.negSucc 0, .ofNat 99)], [(102, 29, .inl (4, .ofNat 0)), (102, 30, .inr (.ofNat 3))], 110, [kvR 102, kvI 0, kvI 1, kvI 2, kvN 29, kvN 3, kvN 1, kvI 3], []), ([], []), (3, [(-1, 3)]))
theorem ks531 : aseg kS krf kB [kE43, kE89, kE403, kE467, kE499, kE529] (ksp [(192, 200, 7, 0, 7, 0)]) kE531 [kC531_0, kC531_1, kC531_2, kC531_3, kC531_4] 30000 (none) = true := by decide +kernel
theorem ks531_0 : aseg kS krf kB [kE43, kE89, kE403, kE467, kE499, kE529] (ksp [(192, 200, 7, 0, 7, 0)]) kE531 [kC531_0, kC531_1, kC531_2, kC531_3, kC531_4] 30000 (some kC531_0) = true := by decide +kernel
theorem ks531_1 : aseg kS krf kB [kE43, kE89, kE403, kE467, kE499, kE529] (ksp [(192, 200, 7, 0, 7, 0)]) kE531 [kC531_0, kC531_1, kC531_2, kC531_3, kC531_4] 30000 (some kC531_1) = true := by decide +kernel
theorem ks531_2 : aseg kS krf kB [kE43, kE89, kE403, kE467, kE499, kE529] (ksp [(192, 200, 7, 0, 7, 0)]) kE531 [kC531_0, kC531_1, kC531_2, kC531_3, kC531_4] 30000 (some kC531_2) = true := by decide +kernel
theorem ks531_3 : aseg kS krf kB [kE43, kE89, kE403, kE467, kE499, kE529] (ksp [(192, 200, 7, 0, 7, 0)]) kE531 [kC531_0, kC531_1, kC531_2, kC531_3, kC531_4] 30000 (some kC531_3) = true := by decide +kernel
theorem ks531_4 : aseg kS krf kB [kE43, kE89, kE403, kE467, kE499, kE529] (ksp [(192, 200, 7, 0, 7, 0)]) kE531 [kC531_0, kC531_1, kC531_2, kC531_3, kC531_4] 30000 (some kC531_4) = true := by decide +kernel
theorem kok531 : aOK kS krf kB kE531 := aOK_of (kal1 kok43 (kal1 kok89 (kal1 kok403 (kal1 kok467 (kal1 kok499 (kal1 kok529 kal0)))))) (kcl1 ks531_0 (kcl1 ks531_1 (kcl1 ks531_2 (kcl1 ks531_3 (kcl1 ks531_4 kcl0))))) ks531
/-- ColdShodModel.triesWay(IIIII)V -/
def kE532 : aE := (192, 51, ([kvB 0 7, kvB 0 7, kvB 0 7], [], 0, [kvR 102, kvI 0, kvI 1, kvI 2, kvN 28, kvN 2, none, none], []), ([], none), ([], [], none, ([], [])), kvW66)
def kC532_0 : aC := (([kvB 0 7, kvB 0 7, kvB 0 7, kvB 0 1, kvB 0 2], [], 16, [kvR 102, kvI 0, kvI 1, kvI 2, kvN 28, kvN 2, kvI 3, kvI 4], []), ([], []), (334, [(-1, 4)]))
def kC532_1 : aC := (([kvB 0 7, kvB 0 7, kvB 0 7, kvB 0 12], [], 141, [kvR 102, kvI 0, kvI 1, kvI 2, kvN 28, kvN 2, kvI 3, none], []), ([], []), (141, [(-11, 3)]))
def kC532_2 : aC := (([kvB 0 7, kvB 0 7, kvB 0 7, kvB 0 11, (.negSucc 0, .ofNat 7), kvB 1 12], [(102, 8, .inl (5, .ofNat 0))], 195, [kvR 102, kvI 0, kvI 1, kvI 2, kvN 28, kvN 2, kvI 3, kvI 4], []), ([], []), (139, [(-11, 3), (-1, 4)]))
def kC532_3 : aC := (([kvB 0 7, kvB 0 7, kvB 0 7, (.negSucc 0, .ofNat 2147483647)], [(102, 29, .inl (3, .ofNat 0))], 91, [kvR 102, kvI 0, kvI 1, kvI 2, kvN 28, kvN 2, kvN 1, kvN 2], []), ([], []), (166, []))
def kC532_4 : aC := (([kvB 0 7, kvB 0 7, kvB 0 7, kvB 0 2, (.negSucc 0, .ofNat 99)], [(102, 29, .inl (4, .ofNat 0)), (102, 30, .inr (.ofNat 2))], 110, [kvR 102, kvI 0, kvI 1, kvI 2, kvN 28, kvN 2, kvN 1, kvI 3], []), ([], []), (2, [(-1, 3)]))
theorem ks532 : aseg kS krf kB [kE43, kE89, kE404, kE468, kE500, kE530, kE531] (ksp [(192, 200, 7, 0, 7, 0)]) kE532 [kC532_0, kC532_1, kC532_2, kC532_3, kC532_4] 30000 (none) = true := by decide +kernel
theorem ks532_0 : aseg kS krf kB [kE43, kE89, kE404, kE468, kE500, kE530, kE531] (ksp [(192, 200, 7, 0, 7, 0)]) kE532 [kC532_0, kC532_1, kC532_2, kC532_3, kC532_4] 30000 (some kC532_0) = true := by decide +kernel
theorem ks532_1 : aseg kS krf kB [kE43, kE89, kE404, kE468, kE500, kE530, kE531] (ksp [(192, 200, 7, 0, 7, 0)]) kE532 [kC532_0, kC532_1, kC532_2, kC532_3, kC532_4] 30000 (some kC532_1) = true := by decide +kernel
theorem ks532_2 : aseg kS krf kB [kE43, kE89, kE404, kE468, kE500, kE530, kE531] (ksp [(192, 200, 7, 0, 7, 0)]) kE532 [kC532_0, kC532_1, kC532_2, kC532_3, kC532_4] 30000 (some kC532_2) = true := by decide +kernel
theorem ks532_3 : aseg kS krf kB [kE43, kE89, kE404, kE468, kE500, kE530, kE531] (ksp [(192, 200, 7, 0, 7, 0)]) kE532 [kC532_0, kC532_1, kC532_2, kC532_3, kC532_4] 30000 (some kC532_3) = true := by decide +kernel
theorem ks532_4 : aseg kS krf kB [kE43, kE89, kE404, kE468, kE500, kE530, kE531] (ksp [(192, 200, 7, 0, 7, 0)]) kE532 [kC532_0, kC532_1, kC532_2, kC532_3, kC532_4] 30000 (some kC532_4) = true := by decide +kernel
theorem kok532 : aOK kS krf kB kE532 := aOK_of (kal1 kok43 (kal1 kok89 (kal1 kok404 (kal1 kok468 (kal1 kok500 (kal1 kok530 (kal1 kok531 kal0))))))) (kcl1 ks532_0 (kcl1 ks532_1 (kcl1 ks532_2 (kcl1 ks532_3 (kcl1 ks532_4 kcl0))))) ks532
/-- ColdShodModel.triesWay(IIIII)V -/
def kE533 : aE := (192, 50, ([kvB 0 7, kvB 0 7, kvB 0 7], [], 0, [kvR 102, kvI 0, kvI 1, kvI 2, kvN 27, kvN 3, none, none], []), ([], none), ([], [], none, ([], [])), kvW65)
def kC533_0 : aC := (([kvB 0 7, kvB 0 7, kvB 0 7, kvB 0 1, kvB 0 3], [], 16, [kvR 102, kvI 0, kvI 1, kvI 2, kvN 27, kvN 3, kvI 3, kvI 4], []), ([], []), (335, [(-1, 4)]))
def kC533_1 : aC := (([kvB 0 7, kvB 0 7, kvB 0 7, kvB 0 12], [], 141, [kvR 102, kvI 0, kvI 1, kvI 2, kvN 27, kvN 3, kvI 3, none], []), ([], []), (141, [(-11, 3)]))
def kC533_2 : aC := (([kvB 0 7, kvB 0 7, kvB 0 7, kvB 0 11, (.negSucc 0, .ofNat 7), kvB 1 12], [(102, 8, .inl (5, .ofNat 0))], 195, [kvR 102, kvI 0, kvI 1, kvI 2, kvN 27, kvN 3, kvI 3, kvI 4], []), ([], []), (139, [(-11, 3), (-1, 4)]))
def kC533_3 : aC := (([kvB 0 7, kvB 0 7, kvB 0 7, (.negSucc 0, .ofNat 2147483647)], [(102, 29, .inl (3, .ofNat 0))], 91, [kvR 102, kvI 0, kvI 1, kvI 2, kvN 27, kvN 3, kvN 1, kvN 3], []), ([], []), (166, []))
def kC533_4 : aC := (([kvB 0 7, kvB 0 7, kvB 0 7, kvB 0 3, (.negSucc 0, .ofNat 99)], [(102, 29, .inl (4, .ofNat 0)), (102, 30, .inr (.ofNat 3))], 110, [kvR 102, kvI 0, kvI 1, kvI 2, kvN 27, kvN 3, kvN 1, kvI 3], []), ([], []), (3, [(-1, 3)]))
theorem ks533 : aseg kS krf kB [kE43, kE89, kE405, kE469, kE501, kE529] (ksp [(192, 200, 7, 0, 7, 0)]) kE533 [kC533_0, kC533_1, kC533_2, kC533_3, kC533_4] 30000 (none) = true := by decide +kernel
theorem ks533_0 : aseg kS krf kB [kE43, kE89, kE405, kE469, kE501, kE529] (ksp [(192, 200, 7, 0, 7, 0)]) kE533 [kC533_0, kC533_1, kC533_2, kC533_3, kC533_4] 30000 (some kC533_0) = true := by decide +kernel
theorem ks533_1 : aseg kS krf kB [kE43, kE89, kE405, kE469, kE501, kE529] (ksp [(192, 200, 7, 0, 7, 0)]) kE533 [kC533_0, kC533_1, kC533_2, kC533_3, kC533_4] 30000 (some kC533_1) = true := by decide +kernel
theorem ks533_2 : aseg kS krf kB [kE43, kE89, kE405, kE469, kE501, kE529] (ksp [(192, 200, 7, 0, 7, 0)]) kE533 [kC533_0, kC533_1, kC533_2, kC533_3, kC533_4] 30000 (some kC533_2) = true := by decide +kernel
theorem ks533_3 : aseg kS krf kB [kE43, kE89, kE405, kE469, kE501, kE529] (ksp [(192, 200, 7, 0, 7, 0)]) kE533 [kC533_0, kC533_1, kC533_2, kC533_3, kC533_4] 30000 (some kC533_3) = true := by decide +kernel
theorem ks533_4 : aseg kS krf kB [kE43, kE89, kE405, kE469, kE501, kE529] (ksp [(192, 200, 7, 0, 7, 0)]) kE533 [kC533_0, kC533_1, kC533_2, kC533_3, kC533_4] 30000 (some kC533_4) = true := by decide +kernel
theorem kok533 : aOK kS krf kB kE533 := aOK_of (kal1 kok43 (kal1 kok89 (kal1 kok405 (kal1 kok469 (kal1 kok501 (kal1 kok529 kal0)))))) (kcl1 ks533_0 (kcl1 ks533_1 (kcl1 ks533_2 (kcl1 ks533_3 (kcl1 ks533_4 kcl0))))) ks533
/-- ColdShodModel.triesWay(IIIII)V -/
def kE534 : aE := (192, 51, ([kvB 0 7, kvB 0 7, kvB 0 7], [], 0, [kvR 102, kvI 0, kvI 1, kvI 2, kvN 26, kvN 2, none, none], []), ([], none), ([], [], none, ([], [])), kvW66)
def kC534_0 : aC := (([kvB 0 7, kvB 0 7, kvB 0 7, kvB 0 1, kvB 0 2], [], 16, [kvR 102, kvI 0, kvI 1, kvI 2, kvN 26, kvN 2, kvI 3, kvI 4], []), ([], []), (334, [(-1, 4)]))
def kC534_1 : aC := (([kvB 0 7, kvB 0 7, kvB 0 7, kvB 0 12], [], 141, [kvR 102, kvI 0, kvI 1, kvI 2, kvN 26, kvN 2, kvI 3, none], []), ([], []), (141, [(-11, 3)]))
def kC534_2 : aC := (([kvB 0 7, kvB 0 7, kvB 0 7, kvB 0 11, (.negSucc 0, .ofNat 7), kvB 1 12], [(102, 8, .inl (5, .ofNat 0))], 195, [kvR 102, kvI 0, kvI 1, kvI 2, kvN 26, kvN 2, kvI 3, kvI 4], []), ([], []), (139, [(-11, 3), (-1, 4)]))
def kC534_3 : aC := (([kvB 0 7, kvB 0 7, kvB 0 7, (.negSucc 0, .ofNat 2147483647)], [(102, 29, .inl (3, .ofNat 0))], 91, [kvR 102, kvI 0, kvI 1, kvI 2, kvN 26, kvN 2, kvN 1, kvN 2], []), ([], []), (166, []))
def kC534_4 : aC := (([kvB 0 7, kvB 0 7, kvB 0 7, kvB 0 2, (.negSucc 0, .ofNat 99)], [(102, 29, .inl (4, .ofNat 0)), (102, 30, .inr (.ofNat 2))], 110, [kvR 102, kvI 0, kvI 1, kvI 2, kvN 26, kvN 2, kvN 1, kvI 3], []), ([], []), (2, [(-1, 3)]))
theorem ks534 : aseg kS krf kB [kE43, kE89, kE406, kE470, kE502, kE530, kE533] (ksp [(192, 200, 7, 0, 7, 0)]) kE534 [kC534_0, kC534_1, kC534_2, kC534_3, kC534_4] 30000 (none) = true := by decide +kernel
theorem ks534_0 : aseg kS krf kB [kE43, kE89, kE406, kE470, kE502, kE530, kE533] (ksp [(192, 200, 7, 0, 7, 0)]) kE534 [kC534_0, kC534_1, kC534_2, kC534_3, kC534_4] 30000 (some kC534_0) = true := by decide +kernel
theorem ks534_1 : aseg kS krf kB [kE43, kE89, kE406, kE470, kE502, kE530, kE533] (ksp [(192, 200, 7, 0, 7, 0)]) kE534 [kC534_0, kC534_1, kC534_2, kC534_3, kC534_4] 30000 (some kC534_1) = true := by decide +kernel
theorem ks534_2 : aseg kS krf kB [kE43, kE89, kE406, kE470, kE502, kE530, kE533] (ksp [(192, 200, 7, 0, 7, 0)]) kE534 [kC534_0, kC534_1, kC534_2, kC534_3, kC534_4] 30000 (some kC534_2) = true := by decide +kernel
theorem ks534_3 : aseg kS krf kB [kE43, kE89, kE406, kE470, kE502, kE530, kE533] (ksp [(192, 200, 7, 0, 7, 0)]) kE534 [kC534_0, kC534_1, kC534_2, kC534_3, kC534_4] 30000 (some kC534_3) = true := by decide +kernel
theorem ks534_4 : aseg kS krf kB [kE43, kE89, kE406, kE470, kE502, kE530, kE533] (ksp [(192, 200, 7, 0, 7, 0)]) kE534 [kC534_0, kC534_1, kC534_2, kC534_3, kC534_4] 30000 (some kC534_4) = true := by decide +kernel
theorem kok534 : aOK kS krf kB kE534 := aOK_of (kal1 kok43 (kal1 kok89 (kal1 kok406 (kal1 kok470 (kal1 kok502 (kal1 kok530 (kal1 kok533 kal0))))))) (kcl1 ks534_0 (kcl1 ks534_1 (kcl1 ks534_2 (kcl1 ks534_3 (kcl1 ks534_4 kcl0))))) ks534
/-- ColdShodModel.triesWay(IIIII)V -/
def kE535 : aE := (192, 51, ([kvB 0 7, kvB 0 7, kvB 0 7], [], 0, [kvR 102, kvI 0, kvI 1, kvI 2, kvN 25, kvN 2, none, none], []), ([], none), ([], [], none, ([], [])), kvW66)
def kC535_0 : aC := (([kvB 0 7, kvB 0 7, kvB 0 7, kvB 0 1, kvB 0 2], [], 16, [kvR 102, kvI 0, kvI 1, kvI 2, kvN 25, kvN 2, kvI 3, kvI 4], []), ([], []), (334, [(-1, 4)]))
def kC535_1 : aC := (([kvB 0 7, kvB 0 7, kvB 0 7, kvB 0 12], [], 141, [kvR 102, kvI 0, kvI 1, kvI 2, kvN 25, kvN 2, kvI 3, none], []), ([], []), (141, [(-11, 3)]))
def kC535_2 : aC := (([kvB 0 7, kvB 0 7, kvB 0 7, kvB 0 11, (.negSucc 0, .ofNat 7), kvB 1 12], [(102, 8, .inl (5, .ofNat 0))], 195, [kvR 102, kvI 0, kvI 1, kvI 2, kvN 25, kvN 2, kvI 3, kvI 4], []), ([], []), (139, [(-11, 3), (-1, 4)]))
def kC535_3 : aC := (([kvB 0 7, kvB 0 7, kvB 0 7, (.negSucc 0, .ofNat 2147483647)], [(102, 29, .inl (3, .ofNat 0))], 91, [kvR 102, kvI 0, kvI 1, kvI 2, kvN 25, kvN 2, kvN 1, kvN 2], []), ([], []), (166, []))
def kC535_4 : aC := (([kvB 0 7, kvB 0 7, kvB 0 7, kvB 0 2, (.negSucc 0, .ofNat 99)], [(102, 29, .inl (4, .ofNat 0)), (102, 30, .inr (.ofNat 2))], 110, [kvR 102, kvI 0, kvI 1, kvI 2, kvN 25, kvN 2, kvN 1, kvI 3], []), ([], []), (2, [(-1, 3)]))
theorem ks535 : aseg kS krf kB [kE43, kE89, kE407, kE471, kE503, kE531, kE533] (ksp [(192, 200, 7, 0, 7, 0)]) kE535 [kC535_0, kC535_1, kC535_2, kC535_3, kC535_4] 30000 (none) = true := by decide +kernel
theorem ks535_0 : aseg kS krf kB [kE43, kE89, kE407, kE471, kE503, kE531, kE533] (ksp [(192, 200, 7, 0, 7, 0)]) kE535 [kC535_0, kC535_1, kC535_2, kC535_3, kC535_4] 30000 (some kC535_0) = true := by decide +kernel
theorem ks535_1 : aseg kS krf kB [kE43, kE89, kE407, kE471, kE503, kE531, kE533] (ksp [(192, 200, 7, 0, 7, 0)]) kE535 [kC535_0, kC535_1, kC535_2, kC535_3, kC535_4] 30000 (some kC535_1) = true := by decide +kernel
theorem ks535_2 : aseg kS krf kB [kE43, kE89, kE407, kE471, kE503, kE531, kE533] (ksp [(192, 200, 7, 0, 7, 0)]) kE535 [kC535_0, kC535_1, kC535_2, kC535_3, kC535_4] 30000 (some kC535_2) = true := by decide +kernel
theorem ks535_3 : aseg kS krf kB [kE43, kE89, kE407, kE471, kE503, kE531, kE533] (ksp [(192, 200, 7, 0, 7, 0)]) kE535 [kC535_0, kC535_1, kC535_2, kC535_3, kC535_4] 30000 (some kC535_3) = true := by decide +kernel
theorem ks535_4 : aseg kS krf kB [kE43, kE89, kE407, kE471, kE503, kE531, kE533] (ksp [(192, 200, 7, 0, 7, 0)]) kE535 [kC535_0, kC535_1, kC535_2, kC535_3, kC535_4] 30000 (some kC535_4) = true := by decide +kernel
theorem kok535 : aOK kS krf kB kE535 := aOK_of (kal1 kok43 (kal1 kok89 (kal1 kok407 (kal1 kok471 (kal1 kok503 (kal1 kok531 (kal1 kok533 kal0))))))) (kcl1 ks535_0 (kcl1 ks535_1 (kcl1 ks535_2 (kcl1 ks535_3 (kcl1 ks535_4 kcl0))))) ks535
/-- ColdShodModel.triesWay(IIIII)V -/
def kE536 : aE := (192, 52, ([kvB 0 7, kvB 0 7, kvB 0 7], [], 0, [kvR 102, kvI 0, kvI 1, kvI 2, kvN 24, kvN 1, none, none], []), ([], none), ([], [], none, ([], [])), kvW67)
def kC536_0 : aC := (([kvB 0 7, kvB 0 7, kvB 0 7, kvB 0 1, kvB 0 1], [], 16, [kvR 102, kvI 0, kvI 1, kvI 2, kvN 24, kvN 1, kvI 3, kvI 4], []), ([], []), (333, [(-1, 4)]))
def kC536_1 : aC := (([kvB 0 7, kvB 0 7, kvB 0 7, kvB 0 12], [], 141, [kvR 102, kvI 0, kvI 1, kvI 2, kvN 24, kvN 1, kvI 3, none], []), ([], []), (141, [(-11, 3)]))
def kC536_2 : aC := (([kvB 0 7, kvB 0 7, kvB 0 7, kvB 0 11, (.negSucc 0, .ofNat 7), kvB 1 12], [(102, 8, .inl (5, .ofNat 0))], 195, [kvR 102, kvI 0, kvI 1, kvI 2, kvN 24, kvN 1, kvI 3, kvI 4], []), ([], []), (139, [(-11, 3), (-1, 4)]))
def kC536_3 : aC := (([kvB 0 7, kvB 0 7, kvB 0 7, (.negSucc 0, .ofNat 2147483647)], [(102, 29, .inl (3, .ofNat 0))], 91, [kvR 102, kvI 0, kvI 1, kvI 2, kvN 24, kvN 1, kvN 1, kvN 1], []), ([], []), (166, []))
def kC536_4 : aC := (([kvB 0 7, kvB 0 7, kvB 0 7, kvB 0 1, (.negSucc 0, .ofNat 99)], [(102, 29, .inl (4, .ofNat 0)), (102, 30, .inr (.ofNat 1))], 110, [kvR 102, kvI 0, kvI 1, kvI 2, kvN 24, kvN 1, kvN 1, kvI 3], []), ([], []), (1, [(-1, 3)]))
theorem ks536 : aseg kS krf kB [kE43, kE89, kE408, kE472, kE504, kE532, kE534, kE535] (ksp [(192, 200, 7, 0, 7, 0)]) kE536 [kC536_0, kC536_1, kC536_2, kC536_3, kC536_4] 30000 (none) = true := by decide +kernel
theorem ks536_0 : aseg kS krf kB [kE43, kE89, kE408, kE472, kE504, kE532, kE534, kE535] (ksp [(192, 200, 7, 0, 7, 0)]) kE536 [kC536_0, kC536_1, kC536_2, kC536_3, kC536_4] 30000 (some kC536_0) = true := by decide +kernel
theorem ks536_1 : aseg kS krf kB [kE43, kE89, kE408, kE472, kE504, kE532, kE534, kE535] (ksp [(192, 200, 7, 0, 7, 0)]) kE536 [kC536_0, kC536_1, kC536_2, kC536_3, kC536_4] 30000 (some kC536_1) = true := by decide +kernel
theorem ks536_2 : aseg kS krf kB [kE43, kE89, kE408, kE472, kE504, kE532, kE534, kE535] (ksp [(192, 200, 7, 0, 7, 0)]) kE536 [kC536_0, kC536_1, kC536_2, kC536_3, kC536_4] 30000 (some kC536_2) = true := by decide +kernel
theorem ks536_3 : aseg kS krf kB [kE43, kE89, kE408, kE472, kE504, kE532, kE534, kE535] (ksp [(192, 200, 7, 0, 7, 0)]) kE536 [kC536_0, kC536_1, kC536_2, kC536_3, kC536_4] 30000 (some kC536_3) = true := by decide +kernel
theorem ks536_4 : aseg kS krf kB [kE43, kE89, kE408, kE472, kE504, kE532, kE534, kE535] (ksp [(192, 200, 7, 0, 7, 0)]) kE536 [kC536_0, kC536_1, kC536_2, kC536_3, kC536_4] 30000 (some kC536_4) = true := by decide +kernel
theorem kok536 : aOK kS krf kB kE536 := aOK_of (kal1 kok43 (kal1 kok89 (kal1 kok408 (kal1 kok472 (kal1 kok504 (kal1 kok532 (kal1 kok534 (kal1 kok535 kal0)))))))) (kcl1 ks536_0 (kcl1 ks536_1 (kcl1 ks536_2 (kcl1 ks536_3 (kcl1 ks536_4 kcl0))))) ks536
/-- ColdShodModel.triesWay(IIIII)V -/
def kE537 : aE := (192, 50, ([kvB 0 7, kvB 0 7, kvB 0 7], [], 0, [kvR 102, kvI 0, kvI 1, kvI 2, kvN 23, kvN 3, none, none], []), ([], none), ([], [], none, ([], [])), kvW65)
def kC537_0 : aC := (([kvB 0 7, kvB 0 7, kvB 0 7, kvB 0 1, kvB 0 3], [], 16, [kvR 102, kvI 0, kvI 1, kvI 2, kvN 23, kvN 3, kvI 3, kvI 4], []), ([], []), (335, [(-1, 4)]))
def kC537_1 : aC := (([kvB 0 7, kvB 0 7, kvB 0 7, kvB 0 12], [], 141, [kvR 102, kvI 0, kvI 1, kvI 2, kvN 23, kvN 3, kvI 3, none], []), ([], []), (141, [(-11, 3)]))
def kC537_2 : aC := (([kvB 0 7, kvB 0 7, kvB 0 7, kvB 0 11, (.negSucc 0, .ofNat 7), kvB 1 12], [(102, 8, .inl (5, .ofNat 0))], 195, [kvR 102, kvI 0, kvI 1, kvI 2, kvN 23, kvN 3, kvI 3, kvI 4], []), ([], []), (139, [(-11, 3), (-1, 4)]))
def kC537_3 : aC := (([kvB 0 7, kvB 0 7, kvB 0 7, (.negSucc 0, .ofNat 2147483647)], [(102, 29, .inl (3, .ofNat 0))], 91, [kvR 102, kvI 0, kvI 1, kvI 2, kvN 23, kvN 3, kvN 1, kvN 3], []), ([], []), (166, []))
def kC537_4 : aC := (([kvB 0 7, kvB 0 7, kvB 0 7, kvB 0 3, (.negSucc 0, .ofNat 99)], [(102, 29, .inl (4, .ofNat 0)), (102, 30, .inr (.ofNat 3))], 110, [kvR 102, kvI 0, kvI 1, kvI 2, kvN 23, kvN 3, kvN 1, kvI 3], []), ([], []), (3, [(-1, 3)]))
theorem ks537 : aseg kS krf kB [kE43, kE89, kE409, kE473, kE505, kE529] (ksp [(192, 200, 7, 0, 7, 0)]) kE537 [kC537_0, kC537_1, kC537_2, kC537_3, kC537_4] 30000 (none) = true := by decide +kernel
theorem ks537_0 : aseg kS krf kB [kE43, kE89, kE409, kE473, kE505, kE529] (ksp [(192, 200, 7, 0, 7, 0)]) kE537 [kC537_0, kC537_1, kC537_2, kC537_3, kC537_4] 30000 (some kC537_0) = true := by decide +kernel
theorem ks537_1 : aseg kS krf kB [kE43, kE89, kE409, kE473, kE505, kE529] (ksp [(192, 200, 7, 0, 7, 0)]) kE537 [kC537_0, kC537_1, kC537_2, kC537_3, kC537_4] 30000 (some kC537_1) = true := by decide +kernel
theorem ks537_2 : aseg kS krf kB [kE43, kE89, kE409, kE473, kE505, kE529] (ksp [(192, 200, 7, 0, 7, 0)]) kE537 [kC537_0, kC537_1, kC537_2, kC537_3, kC537_4] 30000 (some kC537_2) = true := by decide +kernel
theorem ks537_3 : aseg kS krf kB [kE43, kE89, kE409, kE473, kE505, kE529] (ksp [(192, 200, 7, 0, 7, 0)]) kE537 [kC537_0, kC537_1, kC537_2, kC537_3, kC537_4] 30000 (some kC537_3) = true := by decide +kernel
theorem ks537_4 : aseg kS krf kB [kE43, kE89, kE409, kE473, kE505, kE529] (ksp [(192, 200, 7, 0, 7, 0)]) kE537 [kC537_0, kC537_1, kC537_2, kC537_3, kC537_4] 30000 (some kC537_4) = true := by decide +kernel
theorem kok537 : aOK kS krf kB kE537 := aOK_of (kal1 kok43 (kal1 kok89 (kal1 kok409 (kal1 kok473 (kal1 kok505 (kal1 kok529 kal0)))))) (kcl1 ks537_0 (kcl1 ks537_1 (kcl1 ks537_2 (kcl1 ks537_3 (kcl1 ks537_4 kcl0))))) ks537
/-- ColdShodModel.triesWay(IIIII)V -/
def kE538 : aE := (192, 51, ([kvB 0 7, kvB 0 7, kvB 0 7], [], 0, [kvR 102, kvI 0, kvI 1, kvI 2, kvN 22, kvN 2, none, none], []), ([], none), ([], [], none, ([], [])), kvW66)
def kC538_0 : aC := (([kvB 0 7, kvB 0 7, kvB 0 7, kvB 0 1, kvB 0 2], [], 16, [kvR 102, kvI 0, kvI 1, kvI 2, kvN 22, kvN 2, kvI 3, kvI 4], []), ([], []), (334, [(-1, 4)]))
def kC538_1 : aC := (([kvB 0 7, kvB 0 7, kvB 0 7, kvB 0 12], [], 141, [kvR 102, kvI 0, kvI 1, kvI 2, kvN 22, kvN 2, kvI 3, none], []), ([], []), (141, [(-11, 3)]))
def kC538_2 : aC := (([kvB 0 7, kvB 0 7, kvB 0 7, kvB 0 11, (.negSucc 0, .ofNat 7), kvB 1 12], [(102, 8, .inl (5, .ofNat 0))], 195, [kvR 102, kvI 0, kvI 1, kvI 2, kvN 22, kvN 2, kvI 3, kvI 4], []), ([], []), (139, [(-11, 3), (-1, 4)]))
def kC538_3 : aC := (([kvB 0 7, kvB 0 7, kvB 0 7, (.negSucc 0, .ofNat 2147483647)], [(102, 29, .inl (3, .ofNat 0))], 91, [kvR 102, kvI 0, kvI 1, kvI 2, kvN 22, kvN 2, kvN 1, kvN 2], []), ([], []), (166, []))
def kC538_4 : aC := (([kvB 0 7, kvB 0 7, kvB 0 7, kvB 0 2, (.negSucc 0, .ofNat 99)], [(102, 29, .inl (4, .ofNat 0)), (102, 30, .inr (.ofNat 2))], 110, [kvR 102, kvI 0, kvI 1, kvI 2, kvN 22, kvN 2, kvN 1, kvI 3], []), ([], []), (2, [(-1, 3)]))
theorem ks538 : aseg kS krf kB [kE43, kE89, kE410, kE474, kE506, kE530, kE537] (ksp [(192, 200, 7, 0, 7, 0)]) kE538 [kC538_0, kC538_1, kC538_2, kC538_3, kC538_4] 30000 (none) = true := by decide +kernel
theorem ks538_0 : aseg kS krf kB [kE43, kE89, kE410, kE474, kE506, kE530, kE537] (ksp [(192, 200, 7, 0, 7, 0)]) kE538 [kC538_0, kC538_1, kC538_2, kC538_3, kC538_4] 30000 (some kC538_0) = true := by decide +kernel
theorem ks538_1 : aseg kS krf kB [kE43, kE89, kE410, kE474, kE506, kE530, kE537] (ksp [(192, 200, 7, 0, 7, 0)]) kE538 [kC538_0, kC538_1, kC538_2, kC538_3, kC538_4] 30000 (some kC538_1) = true := by decide +kernel
theorem ks538_2 : aseg kS krf kB [kE43, kE89, kE410, kE474, kE506, kE530, kE537] (ksp [(192, 200, 7, 0, 7, 0)]) kE538 [kC538_0, kC538_1, kC538_2, kC538_3, kC538_4] 30000 (some kC538_2) = true := by decide +kernel
theorem ks538_3 : aseg kS krf kB [kE43, kE89, kE410, kE474, kE506, kE530, kE537] (ksp [(192, 200, 7, 0, 7, 0)]) kE538 [kC538_0, kC538_1, kC538_2, kC538_3, kC538_4] 30000 (some kC538_3) = true := by decide +kernel
theorem ks538_4 : aseg kS krf kB [kE43, kE89, kE410, kE474, kE506, kE530, kE537] (ksp [(192, 200, 7, 0, 7, 0)]) kE538 [kC538_0, kC538_1, kC538_2, kC538_3, kC538_4] 30000 (some kC538_4) = true := by decide +kernel
theorem kok538 : aOK kS krf kB kE538 := aOK_of (kal1 kok43 (kal1 kok89 (kal1 kok410 (kal1 kok474 (kal1 kok506 (kal1 kok530 (kal1 kok537 kal0))))))) (kcl1 ks538_0 (kcl1 ks538_1 (kcl1 ks538_2 (kcl1 ks538_3 (kcl1 ks538_4 kcl0))))) ks538
/-- ColdShodModel.triesWay(IIIII)V -/
def kE539 : aE := (192, 51, ([kvB 0 7, kvB 0 7, kvB 0 7], [], 0, [kvR 102, kvI 0, kvI 1, kvI 2, kvN 21, kvN 2, none, none], []), ([], none), ([], [], none, ([], [])), kvW66)
def kC539_0 : aC := (([kvB 0 7, kvB 0 7, kvB 0 7, kvB 0 1, kvB 0 2], [], 16, [kvR 102, kvI 0, kvI 1, kvI 2, kvN 21, kvN 2, kvI 3, kvI 4], []), ([], []), (334, [(-1, 4)]))
def kC539_1 : aC := (([kvB 0 7, kvB 0 7, kvB 0 7, kvB 0 12], [], 141, [kvR 102, kvI 0, kvI 1, kvI 2, kvN 21, kvN 2, kvI 3, none], []), ([], []), (141, [(-11, 3)]))
def kC539_2 : aC := (([kvB 0 7, kvB 0 7, kvB 0 7, kvB 0 11, (.negSucc 0, .ofNat 7), kvB 1 12], [(102, 8, .inl (5, .ofNat 0))], 195, [kvR 102, kvI 0, kvI 1, kvI 2, kvN 21, kvN 2, kvI 3, kvI 4], []), ([], []), (139, [(-11, 3), (-1, 4)]))
def kC539_3 : aC := (([kvB 0 7, kvB 0 7, kvB 0 7, (.negSucc 0, .ofNat 2147483647)], [(102, 29, .inl (3, .ofNat 0))], 91, [kvR 102, kvI 0, kvI 1, kvI 2, kvN 21, kvN 2, kvN 1, kvN 2], []), ([], []), (166, []))
def kC539_4 : aC := (([kvB 0 7, kvB 0 7, kvB 0 7, kvB 0 2, (.negSucc 0, .ofNat 99)], [(102, 29, .inl (4, .ofNat 0)), (102, 30, .inr (.ofNat 2))], 110, [kvR 102, kvI 0, kvI 1, kvI 2, kvN 21, kvN 2, kvN 1, kvI 3], []), ([], []), (2, [(-1, 3)]))
theorem ks539 : aseg kS krf kB [kE43, kE89, kE411, kE475, kE507, kE531, kE537] (ksp [(192, 200, 7, 0, 7, 0)]) kE539 [kC539_0, kC539_1, kC539_2, kC539_3, kC539_4] 30000 (none) = true := by decide +kernel
theorem ks539_0 : aseg kS krf kB [kE43, kE89, kE411, kE475, kE507, kE531, kE537] (ksp [(192, 200, 7, 0, 7, 0)]) kE539 [kC539_0, kC539_1, kC539_2, kC539_3, kC539_4] 30000 (some kC539_0) = true := by decide +kernel
theorem ks539_1 : aseg kS krf kB [kE43, kE89, kE411, kE475, kE507, kE531, kE537] (ksp [(192, 200, 7, 0, 7, 0)]) kE539 [kC539_0, kC539_1, kC539_2, kC539_3, kC539_4] 30000 (some kC539_1) = true := by decide +kernel
theorem ks539_2 : aseg kS krf kB [kE43, kE89, kE411, kE475, kE507, kE531, kE537] (ksp [(192, 200, 7, 0, 7, 0)]) kE539 [kC539_0, kC539_1, kC539_2, kC539_3, kC539_4] 30000 (some kC539_2) = true := by decide +kernel
theorem ks539_3 : aseg kS krf kB [kE43, kE89, kE411, kE475, kE507, kE531, kE537] (ksp [(192, 200, 7, 0, 7, 0)]) kE539 [kC539_0, kC539_1, kC539_2, kC539_3, kC539_4] 30000 (some kC539_3) = true := by decide +kernel
theorem ks539_4 : aseg kS krf kB [kE43, kE89, kE411, kE475, kE507, kE531, kE537] (ksp [(192, 200, 7, 0, 7, 0)]) kE539 [kC539_0, kC539_1, kC539_2, kC539_3, kC539_4] 30000 (some kC539_4) = true := by decide +kernel
theorem kok539 : aOK kS krf kB kE539 := aOK_of (kal1 kok43 (kal1 kok89 (kal1 kok411 (kal1 kok475 (kal1 kok507 (kal1 kok531 (kal1 kok537 kal0))))))) (kcl1 ks539_0 (kcl1 ks539_1 (kcl1 ks539_2 (kcl1 ks539_3 (kcl1 ks539_4 kcl0))))) ks539
/-- ColdShodModel.triesWay(IIIII)V -/
def kE540 : aE := (192, 52, ([kvB 0 7, kvB 0 7, kvB 0 7], [], 0, [kvR 102, kvI 0, kvI 1, kvI 2, kvN 20, kvN 1, none, none], []), ([], none), ([], [], none, ([], [])), kvW67)
def kC540_0 : aC := (([kvB 0 7, kvB 0 7, kvB 0 7, kvB 0 1, kvB 0 1], [], 16, [kvR 102, kvI 0, kvI 1, kvI 2, kvN 20, kvN 1, kvI 3, kvI 4], []), ([], []), (333, [(-1, 4)]))
def kC540_1 : aC := (([kvB 0 7, kvB 0 7, kvB 0 7, kvB 0 12], [], 141, [kvR 102, kvI 0, kvI 1, kvI 2, kvN 20, kvN 1, kvI 3, none], []), ([], []), (141, [(-11, 3)]))
def kC540_2 : aC := (([kvB 0 7, kvB 0 7, kvB 0 7, kvB 0 11, (.negSucc 0, .ofNat 7), kvB 1 12], [(102, 8, .inl (5, .ofNat 0))], 195, [kvR 102, kvI 0, kvI 1, kvI 2, kvN 20, kvN 1, kvI 3, kvI 4], []), ([], []), (139, [(-11, 3), (-1, 4)]))
def kC540_3 : aC := (([kvB 0 7, kvB 0 7, kvB 0 7, (.negSucc 0, .ofNat 2147483647)], [(102, 29, .inl (3, .ofNat 0))], 91, [kvR 102, kvI 0, kvI 1, kvI 2, kvN 20, kvN 1, kvN 1, kvN 1], []), ([], []), (166, []))
def kC540_4 : aC := (([kvB 0 7, kvB 0 7, kvB 0 7, kvB 0 1, (.negSucc 0, .ofNat 99)], [(102, 29, .inl (4, .ofNat 0)), (102, 30, .inr (.ofNat 1))], 110, [kvR 102, kvI 0, kvI 1, kvI 2, kvN 20, kvN 1, kvN 1, kvI 3], []), ([], []), (1, [(-1, 3)]))
theorem ks540 : aseg kS krf kB [kE43, kE89, kE412, kE476, kE508, kE532, kE538, kE539] (ksp [(192, 200, 7, 0, 7, 0)]) kE540 [kC540_0, kC540_1, kC540_2, kC540_3, kC540_4] 30000 (none) = true := by decide +kernel
theorem ks540_0 : aseg kS krf kB [kE43, kE89, kE412, kE476, kE508, kE532, kE538, kE539] (ksp [(192, 200, 7, 0, 7, 0)]) kE540 [kC540_0, kC540_1, kC540_2, kC540_3, kC540_4] 30000 (some kC540_0) = true := by decide +kernel
theorem ks540_1 : aseg kS krf kB [kE43, kE89, kE412, kE476, kE508, kE532, kE538, kE539] (ksp [(192, 200, 7, 0, 7, 0)]) kE540 [kC540_0, kC540_1, kC540_2, kC540_3, kC540_4] 30000 (some kC540_1) = true := by decide +kernel
theorem ks540_2 : aseg kS krf kB [kE43, kE89, kE412, kE476, kE508, kE532, kE538, kE539] (ksp [(192, 200, 7, 0, 7, 0)]) kE540 [kC540_0, kC540_1, kC540_2, kC540_3, kC540_4] 30000 (some kC540_2) = true := by decide +kernel
theorem ks540_3 : aseg kS krf kB [kE43, kE89, kE412, kE476, kE508, kE532, kE538, kE539] (ksp [(192, 200, 7, 0, 7, 0)]) kE540 [kC540_0, kC540_1, kC540_2, kC540_3, kC540_4] 30000 (some kC540_3) = true := by decide +kernel
theorem ks540_4 : aseg kS krf kB [kE43, kE89, kE412, kE476, kE508, kE532, kE538, kE539] (ksp [(192, 200, 7, 0, 7, 0)]) kE540 [kC540_0, kC540_1, kC540_2, kC540_3, kC540_4] 30000 (some kC540_4) = true := by decide +kernel
theorem kok540 : aOK kS krf kB kE540 := aOK_of (kal1 kok43 (kal1 kok89 (kal1 kok412 (kal1 kok476 (kal1 kok508 (kal1 kok532 (kal1 kok538 (kal1 kok539 kal0)))))))) (kcl1 ks540_0 (kcl1 ks540_1 (kcl1 ks540_2 (kcl1 ks540_3 (kcl1 ks540_4 kcl0))))) ks540
/-- ColdShodModel.triesWay(IIIII)V -/
def kE541 : aE := (192, 51, ([kvB 0 7, kvB 0 7, kvB 0 7], [], 0, [kvR 102, kvI 0, kvI 1, kvI 2, kvN 19, kvN 2, none, none], []), ([], none), ([], [], none, ([], [])), kvW66)
def kC541_0 : aC := (([kvB 0 7, kvB 0 7, kvB 0 7, kvB 0 1, kvB 0 2], [], 16, [kvR 102, kvI 0, kvI 1, kvI 2, kvN 19, kvN 2, kvI 3, kvI 4], []), ([], []), (334, [(-1, 4)]))
def kC541_1 : aC := (([kvB 0 7, kvB 0 7, kvB 0 7, kvB 0 12], [], 141, [kvR 102, kvI 0, kvI 1, kvI 2, kvN 19, kvN 2, kvI 3, none], []), ([], []), (141, [(-11, 3)]))
def kC541_2 : aC := (([kvB 0 7, kvB 0 7, kvB 0 7, kvB 0 11, (.negSucc 0, .ofNat 7), kvB 1 12], [(102, 8, .inl (5, .ofNat 0))], 195, [kvR 102, kvI 0, kvI 1, kvI 2, kvN 19, kvN 2, kvI 3, kvI 4], []), ([], []), (139, [(-11, 3), (-1, 4)]))
def kC541_3 : aC := (([kvB 0 7, kvB 0 7, kvB 0 7, (.negSucc 0, .ofNat 2147483647)], [(102, 29, .inl (3, .ofNat 0))], 91, [kvR 102, kvI 0, kvI 1, kvI 2, kvN 19, kvN 2, kvN 1, kvN 2], []), ([], []), (166, []))
def kC541_4 : aC := (([kvB 0 7, kvB 0 7, kvB 0 7, kvB 0 2, (.negSucc 0, .ofNat 99)], [(102, 29, .inl (4, .ofNat 0)), (102, 30, .inr (.ofNat 2))], 110, [kvR 102, kvI 0, kvI 1, kvI 2, kvN 19, kvN 2, kvN 1, kvI 3], []), ([], []), (2, [(-1, 3)]))
theorem ks541 : aseg kS krf kB [kE43, kE89, kE413, kE477, kE509, kE533, kE537] (ksp [(192, 200, 7, 0, 7, 0)]) kE541 [kC541_0, kC541_1, kC541_2, kC541_3, kC541_4] 30000 (none) = true := by decide +kernel
theorem ks541_0 : aseg kS krf kB [kE43, kE89, kE413, kE477, kE509, kE533, kE537] (ksp [(192, 200, 7, 0, 7, 0)]) kE541 [kC541_0, kC541_1, kC541_2, kC541_3, kC541_4] 30000 (some kC541_0) = true := by decide +kernel
theorem ks541_1 : aseg kS krf kB [kE43, kE89, kE413, kE477, kE509, kE533, kE537] (ksp [(192, 200, 7, 0, 7, 0)]) kE541 [kC541_0, kC541_1, kC541_2, kC541_3, kC541_4] 30000 (some kC541_1) = true := by decide +kernel
theorem ks541_2 : aseg kS krf kB [kE43, kE89, kE413, kE477, kE509, kE533, kE537] (ksp [(192, 200, 7, 0, 7, 0)]) kE541 [kC541_0, kC541_1, kC541_2, kC541_3, kC541_4] 30000 (some kC541_2) = true := by decide +kernel
theorem ks541_3 : aseg kS krf kB [kE43, kE89, kE413, kE477, kE509, kE533, kE537] (ksp [(192, 200, 7, 0, 7, 0)]) kE541 [kC541_0, kC541_1, kC541_2, kC541_3, kC541_4] 30000 (some kC541_3) = true := by decide +kernel
theorem ks541_4 : aseg kS krf kB [kE43, kE89, kE413, kE477, kE509, kE533, kE537] (ksp [(192, 200, 7, 0, 7, 0)]) kE541 [kC541_0, kC541_1, kC541_2, kC541_3, kC541_4] 30000 (some kC541_4) = true := by decide +kernel
theorem kok541 : aOK kS krf kB kE541 := aOK_of (kal1 kok43 (kal1 kok89 (kal1 kok413 (kal1 kok477 (kal1 kok509 (kal1 kok533 (kal1 kok537 kal0))))))) (kcl1 ks541_0 (kcl1 ks541_1 (kcl1 ks541_2 (kcl1 ks541_3 (kcl1 ks541_4 kcl0))))) ks541
/-- ColdShodModel.triesWay(IIIII)V -/
def kE542 : aE := (192, 52, ([kvB 0 7, kvB 0 7, kvB 0 7], [], 0, [kvR 102, kvI 0, kvI 1, kvI 2, kvN 18, kvN 1, none, none], []), ([], none), ([], [], none, ([], [])), kvW67)
def kC542_0 : aC := (([kvB 0 7, kvB 0 7, kvB 0 7, kvB 0 1, kvB 0 1], [], 16, [kvR 102, kvI 0, kvI 1, kvI 2, kvN 18, kvN 1, kvI 3, kvI 4], []), ([], []), (333, [(-1, 4)]))
def kC542_1 : aC := (([kvB 0 7, kvB 0 7, kvB 0 7, kvB 0 12], [], 141, [kvR 102, kvI 0, kvI 1, kvI 2, kvN 18, kvN 1, kvI 3, none], []), ([], []), (141, [(-11, 3)]))
def kC542_2 : aC := (([kvB 0 7, kvB 0 7, kvB 0 7, kvB 0 11, (.negSucc 0, .ofNat 7), kvB 1 12], [(102, 8, .inl (5, .ofNat 0))], 195, [kvR 102, kvI 0, kvI 1, kvI 2, kvN 18, kvN 1, kvI 3, kvI 4], []), ([], []), (139, [(-11, 3), (-1, 4)]))
def kC542_3 : aC := (([kvB 0 7, kvB 0 7, kvB 0 7, (.negSucc 0, .ofNat 2147483647)], [(102, 29, .inl (3, .ofNat 0))], 91, [kvR 102, kvI 0, kvI 1, kvI 2, kvN 18, kvN 1, kvN 1, kvN 1], []), ([], []), (166, []))
def kC542_4 : aC := (([kvB 0 7, kvB 0 7, kvB 0 7, kvB 0 1, (.negSucc 0, .ofNat 99)], [(102, 29, .inl (4, .ofNat 0)), (102, 30, .inr (.ofNat 1))], 110, [kvR 102, kvI 0, kvI 1, kvI 2, kvN 18, kvN 1, kvN 1, kvI 3], []), ([], []), (1, [(-1, 3)]))
theorem ks542 : aseg kS krf kB [kE43, kE89, kE414, kE478, kE510, kE534, kE538, kE541] (ksp [(192, 200, 7, 0, 7, 0)]) kE542 [kC542_0, kC542_1, kC542_2, kC542_3, kC542_4] 30000 (none) = true := by decide +kernel
theorem ks542_0 : aseg kS krf kB [kE43, kE89, kE414, kE478, kE510, kE534, kE538, kE541] (ksp [(192, 200, 7, 0, 7, 0)]) kE542 [kC542_0, kC542_1, kC542_2, kC542_3, kC542_4] 30000 (some kC542_0) = true := by decide +kernel
theorem ks542_1 : aseg kS krf kB [kE43, kE89, kE414, kE478, kE510, kE534, kE538, kE541] (ksp [(192, 200, 7, 0, 7, 0)]) kE542 [kC542_0, kC542_1, kC542_2, kC542_3, kC542_4] 30000 (some kC542_1) = true := by decide +kernel
theorem ks542_2 : aseg kS krf kB [kE43, kE89, kE414, kE478, kE510, kE534, kE538, kE541] (ksp [(192, 200, 7, 0, 7, 0)]) kE542 [kC542_0, kC542_1, kC542_2, kC542_3, kC542_4] 30000 (some kC542_2) = true := by decide +kernel
theorem ks542_3 : aseg kS krf kB [kE43, kE89, kE414, kE478, kE510, kE534, kE538, kE541] (ksp [(192, 200, 7, 0, 7, 0)]) kE542 [kC542_0, kC542_1, kC542_2, kC542_3, kC542_4] 30000 (some kC542_3) = true := by decide +kernel
theorem ks542_4 : aseg kS krf kB [kE43, kE89, kE414, kE478, kE510, kE534, kE538, kE541] (ksp [(192, 200, 7, 0, 7, 0)]) kE542 [kC542_0, kC542_1, kC542_2, kC542_3, kC542_4] 30000 (some kC542_4) = true := by decide +kernel
theorem kok542 : aOK kS krf kB kE542 := aOK_of (kal1 kok43 (kal1 kok89 (kal1 kok414 (kal1 kok478 (kal1 kok510 (kal1 kok534 (kal1 kok538 (kal1 kok541 kal0)))))))) (kcl1 ks542_0 (kcl1 ks542_1 (kcl1 ks542_2 (kcl1 ks542_3 (kcl1 ks542_4 kcl0))))) ks542
/-- ColdShodModel.triesWay(IIIII)V -/
def kE543 : aE := (192, 52, ([kvB 0 7, kvB 0 7, kvB 0 7], [], 0, [kvR 102, kvI 0, kvI 1, kvI 2, kvN 17, kvN 1, none, none], []), ([], none), ([], [], none, ([], [])), kvW67)
def kC543_0 : aC := (([kvB 0 7, kvB 0 7, kvB 0 7, kvB 0 1, kvB 0 1], [], 16, [kvR 102, kvI 0, kvI 1, kvI 2, kvN 17, kvN 1, kvI 3, kvI 4], []), ([], []), (333, [(-1, 4)]))
def kC543_1 : aC := (([kvB 0 7, kvB 0 7, kvB 0 7, kvB 0 12], [], 141, [kvR 102, kvI 0, kvI 1, kvI 2, kvN 17, kvN 1, kvI 3, none], []), ([], []), (141, [(-11, 3)]))
def kC543_2 : aC := (([kvB 0 7, kvB 0 7, kvB 0 7, kvB 0 11, (.negSucc 0, .ofNat 7), kvB 1 12], [(102, 8, .inl (5, .ofNat 0))], 195, [kvR 102, kvI 0, kvI 1, kvI 2, kvN 17, kvN 1, kvI 3, kvI 4], []), ([], []), (139, [(-11, 3), (-1, 4)]))
def kC543_3 : aC := (([kvB 0 7, kvB 0 7, kvB 0 7, (.negSucc 0, .ofNat 2147483647)], [(102, 29, .inl (3, .ofNat 0))], 91, [kvR 102, kvI 0, kvI 1, kvI 2, kvN 17, kvN 1, kvN 1, kvN 1], []), ([], []), (166, []))
def kC543_4 : aC := (([kvB 0 7, kvB 0 7, kvB 0 7, kvB 0 1, (.negSucc 0, .ofNat 99)], [(102, 29, .inl (4, .ofNat 0)), (102, 30, .inr (.ofNat 1))], 110, [kvR 102, kvI 0, kvI 1, kvI 2, kvN 17, kvN 1, kvN 1, kvI 3], []), ([], []), (1, [(-1, 3)]))
theorem ks543 : aseg kS krf kB [kE43, kE89, kE415, kE479, kE511, kE535, kE539, kE541] (ksp [(192, 200, 7, 0, 7, 0)]) kE543 [kC543_0, kC543_1, kC543_2, kC543_3, kC543_4] 30000 (none) = true := by decide +kernel
theorem ks543_0 : aseg kS krf kB [kE43, kE89, kE415, kE479, kE511, kE535, kE539, kE541] (ksp [(192, 200, 7, 0, 7, 0)]) kE543 [kC543_0, kC543_1, kC543_2, kC543_3, kC543_4] 30000 (some kC543_0) = true := by decide +kernel
theorem ks543_1 : aseg kS krf kB [kE43, kE89, kE415, kE479, kE511, kE535, kE539, kE541] (ksp [(192, 200, 7, 0, 7, 0)]) kE543 [kC543_0, kC543_1, kC543_2, kC543_3, kC543_4] 30000 (some kC543_1) = true := by decide +kernel
theorem ks543_2 : aseg kS krf kB [kE43, kE89, kE415, kE479, kE511, kE535, kE539, kE541] (ksp [(192, 200, 7, 0, 7, 0)]) kE543 [kC543_0, kC543_1, kC543_2, kC543_3, kC543_4] 30000 (some kC543_2) = true := by decide +kernel
theorem ks543_3 : aseg kS krf kB [kE43, kE89, kE415, kE479, kE511, kE535, kE539, kE541] (ksp [(192, 200, 7, 0, 7, 0)]) kE543 [kC543_0, kC543_1, kC543_2, kC543_3, kC543_4] 30000 (some kC543_3) = true := by decide +kernel
theorem ks543_4 : aseg kS krf kB [kE43, kE89, kE415, kE479, kE511, kE535, kE539, kE541] (ksp [(192, 200, 7, 0, 7, 0)]) kE543 [kC543_0, kC543_1, kC543_2, kC543_3, kC543_4] 30000 (some kC543_4) = true := by decide +kernel
theorem kok543 : aOK kS krf kB kE543 := aOK_of (kal1 kok43 (kal1 kok89 (kal1 kok415 (kal1 kok479 (kal1 kok511 (kal1 kok535 (kal1 kok539 (kal1 kok541 kal0)))))))) (kcl1 ks543_0 (kcl1 ks543_1 (kcl1 ks543_2 (kcl1 ks543_3 (kcl1 ks543_4 kcl0))))) ks543
/-- ColdShodModel.triesWay(IIIII)V -/
def kE544 : aE := (192, 53, ([kvB 0 7, kvB 0 7, kvB 0 7], [], 0, [kvR 102, kvI 0, kvI 1, kvI 2, kvN 16, kvN 0, none, none], []), ([], none), ([], [], none, ([], [])), kvW68)
def kC544_0 : aC := (([kvB 0 7, kvB 0 7, kvB 0 7], [], 16, [kvR 102, kvI 0, kvI 1, kvI 2, kvN 16, kvN 0, kvN 1, kvN 0], []), ([], []), (332, []))
def kC544_1 : aC := (([kvB 0 7, kvB 0 7, kvB 0 7, kvB 0 12], [], 141, [kvR 102, kvI 0, kvI 1, kvI 2, kvN 16, kvN 0, kvI 3, none], []), ([], []), (141, [(-11, 3)]))
def kC544_2 : aC := (([kvB 0 7, kvB 0 7, kvB 0 7, (.negSucc 0, .ofNat 2147483647)], [(102, 29, .inl (3, .ofNat 0))], 91, [kvR 102, kvI 0, kvI 1, kvI 2, kvN 16, kvN 0, kvN 1, kvN 0], []), ([], []), (166, []))
def kC544_3 : aC := (([kvB 0 7, kvB 0 7, kvB 0 7, kvB 0 11, (.negSucc 0, .ofNat 7), kvB 1 12], [(102, 8, .inl (5, .ofNat 0))], 195, [kvR 102, kvI 0, kvI 1, kvI 2, kvN 16, kvN 0, kvI 3, kvI 4], []), ([], []), (139, [(-11, 3), (-1, 4)]))
def kC544_4 : aC := (([kvB 0 7, kvB 0 7, kvB 0 7, (.negSucc 0, .ofNat 99)], [(102, 29, .inl (3, .ofNat 0)), (102, 30, .inr (.ofNat 0))], 110, [kvR 102, kvI 0, kvI 1, kvI 2, kvN 16, kvN 0, kvN 1, kvN 0], []), ([], []), (0, []))
theorem ks544 : aseg kS krf kB [kE43, kE416, kE480, kE512, kE536, kE540, kE542, kE543] (ksp [(192, 200, 7, 0, 7, 0)]) kE544 [kC544_0, kC544_1, kC544_2, kC544_3, kC544_4] 30000 (none) = true := by decide +kernel
theorem ks544_0 : aseg kS krf kB [kE43, kE416, kE480, kE512, kE536, kE540, kE542, kE543] (ksp [(192, 200, 7, 0, 7, 0)]) kE544 [kC544_0, kC544_1, kC544_2, kC544_3, kC544_4] 30000 (some kC544_0) = true := by decide +kernel
theorem ks544_1 : aseg kS krf kB [kE43, kE416, kE480, kE512, kE536, kE540, kE542, kE543] (ksp [(192, 200, 7, 0, 7, 0)]) kE544 [kC544_0, kC544_1, kC544_2, kC544_3, kC544_4] 30000 (some kC544_1) = true := by decide +kernel
theorem ks544_2 : aseg kS krf kB [kE43, kE416, kE480, kE512, kE536, kE540, kE542, kE543] (ksp [(192, 200, 7, 0, 7, 0)]) kE544 [kC544_0, kC544_1, kC544_2, kC544_3, kC544_4] 30000 (some kC544_2) = true := by decide +kernel
theorem ks544_3 : aseg kS krf kB [kE43, kE416, kE480, kE512, kE536, kE540, kE542, kE543] (ksp [(192, 200, 7, 0, 7, 0)]) kE544 [kC544_0, kC544_1, kC544_2, kC544_3, kC544_4] 30000 (some kC544_3) = true := by decide +kernel
theorem ks544_4 : aseg kS krf kB [kE43, kE416, kE480, kE512, kE536, kE540, kE542, kE543] (ksp [(192, 200, 7, 0, 7, 0)]) kE544 [kC544_0, kC544_1, kC544_2, kC544_3, kC544_4] 30000 (some kC544_4) = true := by decide +kernel
theorem kok544 : aOK kS krf kB kE544 := aOK_of (kal1 kok43 (kal1 kok416 (kal1 kok480 (kal1 kok512 (kal1 kok536 (kal1 kok540 (kal1 kok542 (kal1 kok543 kal0)))))))) (kcl1 ks544_0 (kcl1 ks544_1 (kcl1 ks544_2 (kcl1 ks544_3 (kcl1 ks544_4 kcl0))))) ks544
/-- ColdShodModel.triesWay(IIIII)V -/
def kE545 : aE := (192, 50, ([kvB 0 7, kvB 0 7, kvB 0 7], [], 0, [kvR 102, kvI 0, kvI 1, kvI 2, kvN 15, kvN 3, none, none], []), ([], none), ([], [], none, ([], [])), kvW65)
def kC545_0 : aC := (([kvB 0 7, kvB 0 7, kvB 0 7, kvB 0 1, kvB 0 3], [], 16, [kvR 102, kvI 0, kvI 1, kvI 2, kvN 15, kvN 3, kvI 3, kvI 4], []), ([], []), (335, [(-1, 4)]))
def kC545_1 : aC := (([kvB 0 7, kvB 0 7, kvB 0 7, kvB 0 12], [], 141, [kvR 102, kvI 0, kvI 1, kvI 2, kvN 15, kvN 3, kvI 3, none], []), ([], []), (141, [(-11, 3)]))
def kC545_2 : aC := (([kvB 0 7, kvB 0 7, kvB 0 7, kvB 0 11, (.negSucc 0, .ofNat 7), kvB 1 12], [(102, 8, .inl (5, .ofNat 0))], 195, [kvR 102, kvI 0, kvI 1, kvI 2, kvN 15, kvN 3, kvI 3, kvI 4], []), ([], []), (139, [(-11, 3), (-1, 4)]))
def kC545_3 : aC := (([kvB 0 7, kvB 0 7, kvB 0 7, (.negSucc 0, .ofNat 2147483647)], [(102, 29, .inl (3, .ofNat 0))], 91, [kvR 102, kvI 0, kvI 1, kvI 2, kvN 15, kvN 3, kvN 1, kvN 3], []), ([], []), (166, []))
def kC545_4 : aC := (([kvB 0 7, kvB 0 7, kvB 0 7, kvB 0 3, (.negSucc 0, .ofNat 99)], [(102, 29, .inl (4, .ofNat 0)), (102, 30, .inr (.ofNat 3))], 110, [kvR 102, kvI 0, kvI 1, kvI 2, kvN 15, kvN 3, kvN 1, kvI 3], []), ([], []), (3, [(-1, 3)]))
theorem ks545 : aseg kS krf kB [kE43, kE89, kE417, kE481, kE513, kE529] (ksp [(192, 200, 7, 0, 7, 0)]) kE545 [kC545_0, kC545_1, kC545_2, kC545_3, kC545_4] 30000 (none) = true := by decide +kernel
theorem ks545_0 : aseg kS krf kB [kE43, kE89, kE417, kE481, kE513, kE529] (ksp [(192, 200, 7, 0, 7, 0)]) kE545 [kC545_0, kC545_1, kC545_2, kC545_3, kC545_4] 30000 (some kC545_0) = true := by decide +kernel
theorem ks545_1 : aseg kS krf kB [kE43, kE89, kE417, kE481, kE513, kE529] (ksp [(192, 200, 7, 0, 7, 0)]) kE545 [kC545_0, kC545_1, kC545_2, kC545_3, kC545_4] 30000 (some kC545_1) = true := by decide +kernel
theorem ks545_2 : aseg kS krf kB [kE43, kE89, kE417, kE481, kE513, kE529] (ksp [(192, 200, 7, 0, 7, 0)]) kE545 [kC545_0, kC545_1, kC545_2, kC545_3, kC545_4] 30000 (some kC545_2) = true := by decide +kernel
theorem ks545_3 : aseg kS krf kB [kE43, kE89, kE417, kE481, kE513, kE529] (ksp [(192, 200, 7, 0, 7, 0)]) kE545 [kC545_0, kC545_1, kC545_2, kC545_3, kC545_4] 30000 (some kC545_3) = true := by decide +kernel
theorem ks545_4 : aseg kS krf kB [kE43, kE89, kE417, kE481, kE513, kE529] (ksp [(192, 200, 7, 0, 7, 0)]) kE545 [kC545_0, kC545_1, kC545_2, kC545_3, kC545_4] 30000 (some kC545_4) = true := by decide +kernel
theorem kok545 : aOK kS krf kB kE545 := aOK_of (kal1 kok43 (kal1 kok89 (kal1 kok417 (kal1 kok481 (kal1 kok513 (kal1 kok529 kal0)))))) (kcl1 ks545_0 (kcl1 ks545_1 (kcl1 ks545_2 (kcl1 ks545_3 (kcl1 ks545_4 kcl0))))) ks545
/-- ColdShodModel.triesWay(IIIII)V -/
def kE546 : aE := (192, 51, ([kvB 0 7, kvB 0 7, kvB 0 7], [], 0, [kvR 102, kvI 0, kvI 1, kvI 2, kvN 14, kvN 2, none, none], []), ([], none), ([], [], none, ([], [])), kvW66)
def kC546_0 : aC := (([kvB 0 7, kvB 0 7, kvB 0 7, kvB 0 1, kvB 0 2], [], 16, [kvR 102, kvI 0, kvI 1, kvI 2, kvN 14, kvN 2, kvI 3, kvI 4], []), ([], []), (334, [(-1, 4)]))
def kC546_1 : aC := (([kvB 0 7, kvB 0 7, kvB 0 7, kvB 0 12], [], 141, [kvR 102, kvI 0, kvI 1, kvI 2, kvN 14, kvN 2, kvI 3, none], []), ([], []), (141, [(-11, 3)]))
def kC546_2 : aC := (([kvB 0 7, kvB 0 7, kvB 0 7, kvB 0 11, (.negSucc 0, .ofNat 7), kvB 1 12], [(102, 8, .inl (5, .ofNat 0))], 195, [kvR 102, kvI 0, kvI 1, kvI 2, kvN 14, kvN 2, kvI 3, kvI 4], []), ([], []), (139, [(-11, 3), (-1, 4)]))
def kC546_3 : aC := (([kvB 0 7, kvB 0 7, kvB 0 7, (.negSucc 0, .ofNat 2147483647)], [(102, 29, .inl (3, .ofNat 0))], 91, [kvR 102, kvI 0, kvI 1, kvI 2, kvN 14, kvN 2, kvN 1, kvN 2], []), ([], []), (166, []))
def kC546_4 : aC := (([kvB 0 7, kvB 0 7, kvB 0 7, kvB 0 2, (.negSucc 0, .ofNat 99)], [(102, 29, .inl (4, .ofNat 0)), (102, 30, .inr (.ofNat 2))], 110, [kvR 102, kvI 0, kvI 1, kvI 2, kvN 14, kvN 2, kvN 1, kvI 3], []), ([], []), (2, [(-1, 3)]))
theorem ks546 : aseg kS krf kB [kE43, kE89, kE418, kE482, kE514, kE530, kE545] (ksp [(192, 200, 7, 0, 7, 0)]) kE546 [kC546_0, kC546_1, kC546_2, kC546_3, kC546_4] 30000 (none) = true := by decide +kernel
theorem ks546_0 : aseg kS krf kB [kE43, kE89, kE418, kE482, kE514, kE530, kE545] (ksp [(192, 200, 7, 0, 7, 0)]) kE546 [kC546_0, kC546_1, kC546_2, kC546_3, kC546_4] 30000 (some kC546_0) = true := by decide +kernel
theorem ks546_1 : aseg kS krf kB [kE43, kE89, kE418, kE482, kE514, kE530, kE545] (ksp [(192, 200, 7, 0, 7, 0)]) kE546 [kC546_0, kC546_1, kC546_2, kC546_3, kC546_4] 30000 (some kC546_1) = true := by decide +kernel
theorem ks546_2 : aseg kS krf kB [kE43, kE89, kE418, kE482, kE514, kE530, kE545] (ksp [(192, 200, 7, 0, 7, 0)]) kE546 [kC546_0, kC546_1, kC546_2, kC546_3, kC546_4] 30000 (some kC546_2) = true := by decide +kernel
theorem ks546_3 : aseg kS krf kB [kE43, kE89, kE418, kE482, kE514, kE530, kE545] (ksp [(192, 200, 7, 0, 7, 0)]) kE546 [kC546_0, kC546_1, kC546_2, kC546_3, kC546_4] 30000 (some kC546_3) = true := by decide +kernel
theorem ks546_4 : aseg kS krf kB [kE43, kE89, kE418, kE482, kE514, kE530, kE545] (ksp [(192, 200, 7, 0, 7, 0)]) kE546 [kC546_0, kC546_1, kC546_2, kC546_3, kC546_4] 30000 (some kC546_4) = true := by decide +kernel
theorem kok546 : aOK kS krf kB kE546 := aOK_of (kal1 kok43 (kal1 kok89 (kal1 kok418 (kal1 kok482 (kal1 kok514 (kal1 kok530 (kal1 kok545 kal0))))))) (kcl1 ks546_0 (kcl1 ks546_1 (kcl1 ks546_2 (kcl1 ks546_3 (kcl1 ks546_4 kcl0))))) ks546
/-- ColdShodModel.triesWay(IIIII)V -/
def kE547 : aE := (192, 51, ([kvB 0 7, kvB 0 7, kvB 0 7], [], 0, [kvR 102, kvI 0, kvI 1, kvI 2, kvN 13, kvN 2, none, none], []), ([], none), ([], [], none, ([], [])), kvW66)
def kC547_0 : aC := (([kvB 0 7, kvB 0 7, kvB 0 7, kvB 0 1, kvB 0 2], [], 16, [kvR 102, kvI 0, kvI 1, kvI 2, kvN 13, kvN 2, kvI 3, kvI 4], []), ([], []), (334, [(-1, 4)]))
def kC547_1 : aC := (([kvB 0 7, kvB 0 7, kvB 0 7, kvB 0 12], [], 141, [kvR 102, kvI 0, kvI 1, kvI 2, kvN 13, kvN 2, kvI 3, none], []), ([], []), (141, [(-11, 3)]))
def kC547_2 : aC := (([kvB 0 7, kvB 0 7, kvB 0 7, kvB 0 11, (.negSucc 0, .ofNat 7), kvB 1 12], [(102, 8, .inl (5, .ofNat 0))], 195, [kvR 102, kvI 0, kvI 1, kvI 2, kvN 13, kvN 2, kvI 3, kvI 4], []), ([], []), (139, [(-11, 3), (-1, 4)]))
def kC547_3 : aC := (([kvB 0 7, kvB 0 7, kvB 0 7, (.negSucc 0, .ofNat 2147483647)], [(102, 29, .inl (3, .ofNat 0))], 91, [kvR 102, kvI 0, kvI 1, kvI 2, kvN 13, kvN 2, kvN 1, kvN 2], []), ([], []), (166, []))
def kC547_4 : aC := (([kvB 0 7, kvB 0 7, kvB 0 7, kvB 0 2, (.negSucc 0, .ofNat 99)], [(102, 29, .inl (4, .ofNat 0)), (102, 30, .inr (.ofNat 2))], 110, [kvR 102, kvI 0, kvI 1, kvI 2, kvN 13, kvN 2, kvN 1, kvI 3], []), ([], []), (2, [(-1, 3)]))
theorem ks547 : aseg kS krf kB [kE43, kE89, kE419, kE483, kE515, kE531, kE545] (ksp [(192, 200, 7, 0, 7, 0)]) kE547 [kC547_0, kC547_1, kC547_2, kC547_3, kC547_4] 30000 (none) = true := by decide +kernel
theorem ks547_0 : aseg kS krf kB [kE43, kE89, kE419, kE483, kE515, kE531, kE545] (ksp [(192, 200, 7, 0, 7, 0)]) kE547 [kC547_0, kC547_1, kC547_2, kC547_3, kC547_4] 30000 (some kC547_0) = true := by decide +kernel
theorem ks547_1 : aseg kS krf kB [kE43, kE89, kE419, kE483, kE515, kE531, kE545] (ksp [(192, 200, 7, 0, 7, 0)]) kE547 [kC547_0, kC547_1, kC547_2, kC547_3, kC547_4] 30000 (some kC547_1) = true := by decide +kernel
theorem ks547_2 : aseg kS krf kB [kE43, kE89, kE419, kE483, kE515, kE531, kE545] (ksp [(192, 200, 7, 0, 7, 0)]) kE547 [kC547_0, kC547_1, kC547_2, kC547_3, kC547_4] 30000 (some kC547_2) = true := by decide +kernel
theorem ks547_3 : aseg kS krf kB [kE43, kE89, kE419, kE483, kE515, kE531, kE545] (ksp [(192, 200, 7, 0, 7, 0)]) kE547 [kC547_0, kC547_1, kC547_2, kC547_3, kC547_4] 30000 (some kC547_3) = true := by decide +kernel
theorem ks547_4 : aseg kS krf kB [kE43, kE89, kE419, kE483, kE515, kE531, kE545] (ksp [(192, 200, 7, 0, 7, 0)]) kE547 [kC547_0, kC547_1, kC547_2, kC547_3, kC547_4] 30000 (some kC547_4) = true := by decide +kernel
theorem kok547 : aOK kS krf kB kE547 := aOK_of (kal1 kok43 (kal1 kok89 (kal1 kok419 (kal1 kok483 (kal1 kok515 (kal1 kok531 (kal1 kok545 kal0))))))) (kcl1 ks547_0 (kcl1 ks547_1 (kcl1 ks547_2 (kcl1 ks547_3 (kcl1 ks547_4 kcl0))))) ks547
/-- ColdShodModel.triesWay(IIIII)V -/
def kE548 : aE := (192, 52, ([kvB 0 7, kvB 0 7, kvB 0 7], [], 0, [kvR 102, kvI 0, kvI 1, kvI 2, kvN 12, kvN 1, none, none], []), ([], none), ([], [], none, ([], [])), kvW67)
def kC548_0 : aC := (([kvB 0 7, kvB 0 7, kvB 0 7, kvB 0 1, kvB 0 1], [], 16, [kvR 102, kvI 0, kvI 1, kvI 2, kvN 12, kvN 1, kvI 3, kvI 4], []), ([], []), (333, [(-1, 4)]))
def kC548_1 : aC := (([kvB 0 7, kvB 0 7, kvB 0 7, kvB 0 12], [], 141, [kvR 102, kvI 0, kvI 1, kvI 2, kvN 12, kvN 1, kvI 3, none], []), ([], []), (141, [(-11, 3)]))
def kC548_2 : aC := (([kvB 0 7, kvB 0 7, kvB 0 7, kvB 0 11, (.negSucc 0, .ofNat 7), kvB 1 12], [(102, 8, .inl (5, .ofNat 0))], 195, [kvR 102, kvI 0, kvI 1, kvI 2, kvN 12, kvN 1, kvI 3, kvI 4], []), ([], []), (139, [(-11, 3), (-1, 4)]))
def kC548_3 : aC := (([kvB 0 7, kvB 0 7, kvB 0 7, (.negSucc 0, .ofNat 2147483647)], [(102, 29, .inl (3, .ofNat 0))], 91, [kvR 102, kvI 0, kvI 1, kvI 2, kvN 12, kvN 1, kvN 1, kvN 1], []), ([], []), (166, []))
def kC548_4 : aC := (([kvB 0 7, kvB 0 7, kvB 0 7, kvB 0 1, (.negSucc 0, .ofNat 99)], [(102, 29, .inl (4, .ofNat 0)), (102, 30, .inr (.ofNat 1))], 110, [kvR 102, kvI 0, kvI 1, kvI 2, kvN 12, kvN 1, kvN 1, kvI 3], []), ([], []), (1, [(-1, 3)]))
theorem ks548 : aseg kS krf kB [kE43, kE89, kE420, kE484, kE516, kE532, kE546, kE547] (ksp [(192, 200, 7, 0, 7, 0)]) kE548 [kC548_0, kC548_1, kC548_2, kC548_3, kC548_4] 30000 (none) = true := by decide +kernel
theorem ks548_0 : aseg kS krf kB [kE43, kE89, kE420, kE484, kE516, kE532, kE546, kE547] (ksp [(192, 200, 7, 0, 7, 0)]) kE548 [kC548_0, kC548_1, kC548_2, kC548_3, kC548_4] 30000 (some kC548_0) = true := by decide +kernel
theorem ks548_1 : aseg kS krf kB [kE43, kE89, kE420, kE484, kE516, kE532, kE546, kE547] (ksp [(192, 200, 7, 0, 7, 0)]) kE548 [kC548_0, kC548_1, kC548_2, kC548_3, kC548_4] 30000 (some kC548_1) = true := by decide +kernel
theorem ks548_2 : aseg kS krf kB [kE43, kE89, kE420, kE484, kE516, kE532, kE546, kE547] (ksp [(192, 200, 7, 0, 7, 0)]) kE548 [kC548_0, kC548_1, kC548_2, kC548_3, kC548_4] 30000 (some kC548_2) = true := by decide +kernel
theorem ks548_3 : aseg kS krf kB [kE43, kE89, kE420, kE484, kE516, kE532, kE546, kE547] (ksp [(192, 200, 7, 0, 7, 0)]) kE548 [kC548_0, kC548_1, kC548_2, kC548_3, kC548_4] 30000 (some kC548_3) = true := by decide +kernel
theorem ks548_4 : aseg kS krf kB [kE43, kE89, kE420, kE484, kE516, kE532, kE546, kE547] (ksp [(192, 200, 7, 0, 7, 0)]) kE548 [kC548_0, kC548_1, kC548_2, kC548_3, kC548_4] 30000 (some kC548_4) = true := by decide +kernel
theorem kok548 : aOK kS krf kB kE548 := aOK_of (kal1 kok43 (kal1 kok89 (kal1 kok420 (kal1 kok484 (kal1 kok516 (kal1 kok532 (kal1 kok546 (kal1 kok547 kal0)))))))) (kcl1 ks548_0 (kcl1 ks548_1 (kcl1 ks548_2 (kcl1 ks548_3 (kcl1 ks548_4 kcl0))))) ks548
/-- ColdShodModel.triesWay(IIIII)V -/
def kE549 : aE := (192, 51, ([kvB 0 7, kvB 0 7, kvB 0 7], [], 0, [kvR 102, kvI 0, kvI 1, kvI 2, kvN 11, kvN 2, none, none], []), ([], none), ([], [], none, ([], [])), kvW66)
def kC549_0 : aC := (([kvB 0 7, kvB 0 7, kvB 0 7, kvB 0 1, kvB 0 2], [], 16, [kvR 102, kvI 0, kvI 1, kvI 2, kvN 11, kvN 2, kvI 3, kvI 4], []), ([], []), (334, [(-1, 4)]))
def kC549_1 : aC := (([kvB 0 7, kvB 0 7, kvB 0 7, kvB 0 12], [], 141, [kvR 102, kvI 0, kvI 1, kvI 2, kvN 11, kvN 2, kvI 3, none], []), ([], []), (141, [(-11, 3)]))
def kC549_2 : aC := (([kvB 0 7, kvB 0 7, kvB 0 7, kvB 0 11, (.negSucc 0, .ofNat 7), kvB 1 12], [(102, 8, .inl (5, .ofNat 0))], 195, [kvR 102, kvI 0, kvI 1, kvI 2, kvN 11, kvN 2, kvI 3, kvI 4], []), ([], []), (139, [(-11, 3), (-1, 4)]))
def kC549_3 : aC := (([kvB 0 7, kvB 0 7, kvB 0 7, (.negSucc 0, .ofNat 2147483647)], [(102, 29, .inl (3, .ofNat 0))], 91, [kvR 102, kvI 0, kvI 1, kvI 2, kvN 11, kvN 2, kvN 1, kvN 2], []), ([], []), (166, []))
def kC549_4 : aC := (([kvB 0 7, kvB 0 7, kvB 0 7, kvB 0 2, (.negSucc 0, .ofNat 99)], [(102, 29, .inl (4, .ofNat 0)), (102, 30, .inr (.ofNat 2))], 110, [kvR 102, kvI 0, kvI 1, kvI 2, kvN 11, kvN 2, kvN 1, kvI 3], []), ([], []), (2, [(-1, 3)]))
theorem ks549 : aseg kS krf kB [kE43, kE89, kE421, kE485, kE517, kE533, kE545] (ksp [(192, 200, 7, 0, 7, 0)]) kE549 [kC549_0, kC549_1, kC549_2, kC549_3, kC549_4] 30000 (none) = true := by decide +kernel
theorem ks549_0 : aseg kS krf kB [kE43, kE89, kE421, kE485, kE517, kE533, kE545] (ksp [(192, 200, 7, 0, 7, 0)]) kE549 [kC549_0, kC549_1, kC549_2, kC549_3, kC549_4] 30000 (some kC549_0) = true := by decide +kernel
theorem ks549_1 : aseg kS krf kB [kE43, kE89, kE421, kE485, kE517, kE533, kE545] (ksp [(192, 200, 7, 0, 7, 0)]) kE549 [kC549_0, kC549_1, kC549_2, kC549_3, kC549_4] 30000 (some kC549_1) = true := by decide +kernel
theorem ks549_2 : aseg kS krf kB [kE43, kE89, kE421, kE485, kE517, kE533, kE545] (ksp [(192, 200, 7, 0, 7, 0)]) kE549 [kC549_0, kC549_1, kC549_2, kC549_3, kC549_4] 30000 (some kC549_2) = true := by decide +kernel
theorem ks549_3 : aseg kS krf kB [kE43, kE89, kE421, kE485, kE517, kE533, kE545] (ksp [(192, 200, 7, 0, 7, 0)]) kE549 [kC549_0, kC549_1, kC549_2, kC549_3, kC549_4] 30000 (some kC549_3) = true := by decide +kernel
theorem ks549_4 : aseg kS krf kB [kE43, kE89, kE421, kE485, kE517, kE533, kE545] (ksp [(192, 200, 7, 0, 7, 0)]) kE549 [kC549_0, kC549_1, kC549_2, kC549_3, kC549_4] 30000 (some kC549_4) = true := by decide +kernel
theorem kok549 : aOK kS krf kB kE549 := aOK_of (kal1 kok43 (kal1 kok89 (kal1 kok421 (kal1 kok485 (kal1 kok517 (kal1 kok533 (kal1 kok545 kal0))))))) (kcl1 ks549_0 (kcl1 ks549_1 (kcl1 ks549_2 (kcl1 ks549_3 (kcl1 ks549_4 kcl0))))) ks549
/-- ColdShodModel.triesWay(IIIII)V -/
def kE550 : aE := (192, 52, ([kvB 0 7, kvB 0 7, kvB 0 7], [], 0, [kvR 102, kvI 0, kvI 1, kvI 2, kvN 10, kvN 1, none, none], []), ([], none), ([], [], none, ([], [])), kvW67)
def kC550_0 : aC := (([kvB 0 7, kvB 0 7, kvB 0 7, kvB 0 1, kvB 0 1], [], 16, [kvR 102, kvI 0, kvI 1, kvI 2, kvN 10, kvN 1, kvI 3, kvI 4], []), ([], []), (333, [(-1, 4)]))
def kC550_1 : aC := (([kvB 0 7, kvB 0 7, kvB 0 7, kvB 0 12], [], 141, [kvR 102, kvI 0, kvI 1, kvI 2, kvN 10, kvN 1, kvI 3, none], []), ([], []), (141, [(-11, 3)]))
def kC550_2 : aC := (([kvB 0 7, kvB 0 7, kvB 0 7, kvB 0 11, (.negSucc 0, .ofNat 7), kvB 1 12], [(102, 8, .inl (5, .ofNat 0))], 195, [kvR 102, kvI 0, kvI 1, kvI 2, kvN 10, kvN 1, kvI 3, kvI 4], []), ([], []), (139, [(-11, 3), (-1, 4)]))
def kC550_3 : aC := (([kvB 0 7, kvB 0 7, kvB 0 7, (.negSucc 0, .ofNat 2147483647)], [(102, 29, .inl (3, .ofNat 0))], 91, [kvR 102, kvI 0, kvI 1, kvI 2, kvN 10, kvN 1, kvN 1, kvN 1], []), ([], []), (166, []))
def kC550_4 : aC := (([kvB 0 7, kvB 0 7, kvB 0 7, kvB 0 1, (.negSucc 0, .ofNat 99)], [(102, 29, .inl (4, .ofNat 0)), (102, 30, .inr (.ofNat 1))], 110, [kvR 102, kvI 0, kvI 1, kvI 2, kvN 10, kvN 1, kvN 1, kvI 3], []), ([], []), (1, [(-1, 3)]))
theorem ks550 : aseg kS krf kB [kE43, kE89, kE422, kE486, kE518, kE534, kE546, kE549] (ksp [(192, 200, 7, 0, 7, 0)]) kE550 [kC550_0, kC550_1, kC550_2, kC550_3, kC550_4] 30000 (none) = true := by decide +kernel
theorem ks550_0 : aseg kS krf kB [kE43, kE89, kE422, kE486, kE518, kE534, kE546, kE549] (ksp [(192, 200, 7, 0, 7, 0)]) kE550 [kC550_0, kC550_1, kC550_2, kC550_3, kC550_4] 30000 (some kC550_0) = true := by decide +kernel
theorem ks550_1 : aseg kS krf kB [kE43, kE89, kE422, kE486, kE518, kE534, kE546, kE549] (ksp [(192, 200, 7, 0, 7, 0)]) kE550 [kC550_0, kC550_1, kC550_2, kC550_3, kC550_4] 30000 (some kC550_1) = true := by decide +kernel
theorem ks550_2 : aseg kS krf kB [kE43, kE89, kE422, kE486, kE518, kE534, kE546, kE549] (ksp [(192, 200, 7, 0, 7, 0)]) kE550 [kC550_0, kC550_1, kC550_2, kC550_3, kC550_4] 30000 (some kC550_2) = true := by decide +kernel
theorem ks550_3 : aseg kS krf kB [kE43, kE89, kE422, kE486, kE518, kE534, kE546, kE549] (ksp [(192, 200, 7, 0, 7, 0)]) kE550 [kC550_0, kC550_1, kC550_2, kC550_3, kC550_4] 30000 (some kC550_3) = true := by decide +kernel
theorem ks550_4 : aseg kS krf kB [kE43, kE89, kE422, kE486, kE518, kE534, kE546, kE549] (ksp [(192, 200, 7, 0, 7, 0)]) kE550 [kC550_0, kC550_1, kC550_2, kC550_3, kC550_4] 30000 (some kC550_4) = true := by decide +kernel
theorem kok550 : aOK kS krf kB kE550 := aOK_of (kal1 kok43 (kal1 kok89 (kal1 kok422 (kal1 kok486 (kal1 kok518 (kal1 kok534 (kal1 kok546 (kal1 kok549 kal0)))))))) (kcl1 ks550_0 (kcl1 ks550_1 (kcl1 ks550_2 (kcl1 ks550_3 (kcl1 ks550_4 kcl0))))) ks550
/-- ColdShodModel.triesWay(IIIII)V -/
def kE551 : aE := (192, 52, ([kvB 0 7, kvB 0 7, kvB 0 7], [], 0, [kvR 102, kvI 0, kvI 1, kvI 2, kvN 9, kvN 1, none, none], []), ([], none), ([], [], none, ([], [])), kvW67)
def kC551_0 : aC := (([kvB 0 7, kvB 0 7, kvB 0 7, kvB 0 1, kvB 0 1], [], 16, [kvR 102, kvI 0, kvI 1, kvI 2, kvN 9, kvN 1, kvI 3, kvI 4], []), ([], []), (333, [(-1, 4)]))
def kC551_1 : aC := (([kvB 0 7, kvB 0 7, kvB 0 7, kvB 0 12], [], 141, [kvR 102, kvI 0, kvI 1, kvI 2, kvN 9, kvN 1, kvI 3, none], []), ([], []), (141, [(-11, 3)]))
def kC551_2 : aC := (([kvB 0 7, kvB 0 7, kvB 0 7, kvB 0 11, (.negSucc 0, .ofNat 7), kvB 1 12], [(102, 8, .inl (5, .ofNat 0))], 195, [kvR 102, kvI 0, kvI 1, kvI 2, kvN 9, kvN 1, kvI 3, kvI 4], []), ([], []), (139, [(-11, 3), (-1, 4)]))
def kC551_3 : aC := (([kvB 0 7, kvB 0 7, kvB 0 7, (.negSucc 0, .ofNat 2147483647)], [(102, 29, .inl (3, .ofNat 0))], 91, [kvR 102, kvI 0, kvI 1, kvI 2, kvN 9, kvN 1, kvN 1, kvN 1], []), ([], []), (166, []))
def kC551_4 : aC := (([kvB 0 7, kvB 0 7, kvB 0 7, kvB 0 1, (.negSucc 0, .ofNat 99)], [(102, 29, .inl (4, .ofNat 0)), (102, 30, .inr (.ofNat 1))], 110, [kvR 102, kvI 0, kvI 1, kvI 2, kvN 9, kvN 1, kvN 1, kvI 3], []), ([], []), (1, [(-1, 3)]))
theorem ks551 : aseg kS krf kB [kE43, kE89, kE423, kE487, kE519, kE535, kE547, kE549] (ksp [(192, 200, 7, 0, 7, 0)]) kE551 [kC551_0, kC551_1, kC551_2, kC551_3, kC551_4] 30000 (none) = true := by decide +kernel
theorem ks551_0 : aseg kS krf kB [kE43, kE89, kE423, kE487, kE519, kE535, kE547, kE549] (ksp [(192, 200, 7, 0, 7, 0)]) kE551 [kC551_0, kC551_1, kC551_2, kC551_3, kC551_4] 30000 (some kC551_0) = true := by decide +kernel
theorem ks551_1 : aseg kS krf kB [kE43, kE89, kE423, kE487, kE519, kE535, kE547, kE549] (ksp [(192, 200, 7, 0, 7, 0)]) kE551 [kC551_0, kC551_1, kC551_2, kC551_3, kC551_4] 30000 (some kC551_1) = true := by decide +kernel
theorem ks551_2 : aseg kS krf kB [kE43, kE89, kE423, kE487, kE519, kE535, kE547, kE549] (ksp [(192, 200, 7, 0, 7, 0)]) kE551 [kC551_0, kC551_1, kC551_2, kC551_3, kC551_4] 30000 (some kC551_2) = true := by decide +kernel
theorem ks551_3 : aseg kS krf kB [kE43, kE89, kE423, kE487, kE519, kE535, kE547, kE549] (ksp [(192, 200, 7, 0, 7, 0)]) kE551 [kC551_0, kC551_1, kC551_2, kC551_3, kC551_4] 30000 (some kC551_3) = true := by decide +kernel
theorem ks551_4 : aseg kS krf kB [kE43, kE89, kE423, kE487, kE519, kE535, kE547, kE549] (ksp [(192, 200, 7, 0, 7, 0)]) kE551 [kC551_0, kC551_1, kC551_2, kC551_3, kC551_4] 30000 (some kC551_4) = true := by decide +kernel
theorem kok551 : aOK kS krf kB kE551 := aOK_of (kal1 kok43 (kal1 kok89 (kal1 kok423 (kal1 kok487 (kal1 kok519 (kal1 kok535 (kal1 kok547 (kal1 kok549 kal0)))))))) (kcl1 ks551_0 (kcl1 ks551_1 (kcl1 ks551_2 (kcl1 ks551_3 (kcl1 ks551_4 kcl0))))) ks551
/-- ColdShodModel.triesWay(IIIII)V -/
def kE552 : aE := (192, 53, ([kvB 0 7, kvB 0 7, kvB 0 7], [], 0, [kvR 102, kvI 0, kvI 1, kvI 2, kvN 8, kvN 0, none, none], []), ([], none), ([], [], none, ([], [])), kvW68)
def kC552_0 : aC := (([kvB 0 7, kvB 0 7, kvB 0 7], [], 16, [kvR 102, kvI 0, kvI 1, kvI 2, kvN 8, kvN 0, kvN 1, kvN 0], []), ([], []), (332, []))
def kC552_1 : aC := (([kvB 0 7, kvB 0 7, kvB 0 7, kvB 0 12], [], 141, [kvR 102, kvI 0, kvI 1, kvI 2, kvN 8, kvN 0, kvI 3, none], []), ([], []), (141, [(-11, 3)]))
def kC552_2 : aC := (([kvB 0 7, kvB 0 7, kvB 0 7, (.negSucc 0, .ofNat 2147483647)], [(102, 29, .inl (3, .ofNat 0))], 91, [kvR 102, kvI 0, kvI 1, kvI 2, kvN 8, kvN 0, kvN 1, kvN 0], []), ([], []), (166, []))
def kC552_3 : aC := (([kvB 0 7, kvB 0 7, kvB 0 7, kvB 0 11, (.negSucc 0, .ofNat 7), kvB 1 12], [(102, 8, .inl (5, .ofNat 0))], 195, [kvR 102, kvI 0, kvI 1, kvI 2, kvN 8, kvN 0, kvI 3, kvI 4], []), ([], []), (139, [(-11, 3), (-1, 4)]))
def kC552_4 : aC := (([kvB 0 7, kvB 0 7, kvB 0 7, (.negSucc 0, .ofNat 99)], [(102, 29, .inl (3, .ofNat 0)), (102, 30, .inr (.ofNat 0))], 110, [kvR 102, kvI 0, kvI 1, kvI 2, kvN 8, kvN 0, kvN 1, kvN 0], []), ([], []), (0, []))
theorem ks552 : aseg kS krf kB [kE43, kE424, kE488, kE520, kE536, kE548, kE550, kE551] (ksp [(192, 200, 7, 0, 7, 0)]) kE552 [kC552_0, kC552_1, kC552_2, kC552_3, kC552_4] 30000 (none) = true := by decide +kernel
theorem ks552_0 : aseg kS krf kB [kE43, kE424, kE488, kE520, kE536, kE548, kE550, kE551] (ksp [(192, 200, 7, 0, 7, 0)]) kE552 [kC552_0, kC552_1, kC552_2, kC552_3, kC552_4] 30000 (some kC552_0) = true := by decide +kernel
theorem ks552_1 : aseg kS krf kB [kE43, kE424, kE488, kE520, kE536, kE548, kE550, kE551] (ksp [(192, 200, 7, 0, 7, 0)]) kE552 [kC552_0, kC552_1, kC552_2, kC552_3, kC552_4] 30000 (some kC552_1) = true := by decide +kernel
theorem ks552_2 : aseg kS krf kB [kE43, kE424, kE488, kE520, kE536, kE548, kE550, kE551] (ksp [(192, 200, 7, 0, 7, 0)]) kE552 [kC552_0, kC552_1, kC552_2, kC552_3, kC552_4] 30000 (some kC552_2) = true := by decide +kernel
theorem ks552_3 : aseg kS krf kB [kE43, kE424, kE488, kE520, kE536, kE548, kE550, kE551] (ksp [(192, 200, 7, 0, 7, 0)]) kE552 [kC552_0, kC552_1, kC552_2, kC552_3, kC552_4] 30000 (some kC552_3) = true := by decide +kernel
theorem ks552_4 : aseg kS krf kB [kE43, kE424, kE488, kE520, kE536, kE548, kE550, kE551] (ksp [(192, 200, 7, 0, 7, 0)]) kE552 [kC552_0, kC552_1, kC552_2, kC552_3, kC552_4] 30000 (some kC552_4) = true := by decide +kernel
theorem kok552 : aOK kS krf kB kE552 := aOK_of (kal1 kok43 (kal1 kok424 (kal1 kok488 (kal1 kok520 (kal1 kok536 (kal1 kok548 (kal1 kok550 (kal1 kok551 kal0)))))))) (kcl1 ks552_0 (kcl1 ks552_1 (kcl1 ks552_2 (kcl1 ks552_3 (kcl1 ks552_4 kcl0))))) ks552
/-- ColdShodModel.triesWay(IIIII)V -/
def kE553 : aE := (192, 51, ([kvB 0 7, kvB 0 7, kvB 0 7], [], 0, [kvR 102, kvI 0, kvI 1, kvI 2, kvN 7, kvN 2, none, none], []), ([], none), ([], [], none, ([], [])), kvW66)
def kC553_0 : aC := (([kvB 0 7, kvB 0 7, kvB 0 7, kvB 0 1, kvB 0 2], [], 16, [kvR 102, kvI 0, kvI 1, kvI 2, kvN 7, kvN 2, kvI 3, kvI 4], []), ([], []), (334, [(-1, 4)]))
def kC553_1 : aC := (([kvB 0 7, kvB 0 7, kvB 0 7, kvB 0 12], [], 141, [kvR 102, kvI 0, kvI 1, kvI 2, kvN 7, kvN 2, kvI 3, none], []), ([], []), (141, [(-11, 3)]))
def kC553_2 : aC := (([kvB 0 7, kvB 0 7, kvB 0 7, kvB 0 11, (.negSucc 0, .ofNat 7), kvB 1 12], [(102, 8, .inl (5, .ofNat 0))], 195, [kvR 102, kvI 0, kvI 1, kvI 2, kvN 7, kvN 2, kvI 3, kvI 4], []), ([], []), (139, [(-11, 3), (-1, 4)]))
def kC553_3 : aC := (([kvB 0 7, kvB 0 7, kvB 0 7, (.negSucc 0, .ofNat 2147483647)], [(102, 29, .inl (3, .ofNat 0))], 91, [kvR 102, kvI 0, kvI 1, kvI 2, kvN 7, kvN 2, kvN 1, kvN 2], []), ([], []), (166, []))
def kC553_4 : aC := (([kvB 0 7, kvB 0 7, kvB 0 7, kvB 0 2, (.negSucc 0, .ofNat 99)], [(102, 29, .inl (4, .ofNat 0)), (102, 30, .inr (.ofNat 2))], 110, [kvR 102, kvI 0, kvI 1, kvI 2, kvN 7, kvN 2, kvN 1, kvI 3], []), ([], []), (2, [(-1, 3)]))
theorem ks553 : aseg kS krf kB [kE43, kE89, kE425, kE489, kE521, kE537, kE545] (ksp [(192, 200, 7, 0, 7, 0)]) kE553 [kC553_0, kC553_1, kC553_2, kC553_3, kC553_4] 30000 (none) = true := by decide +kernel
theorem ks553_0 : aseg kS krf kB [kE43, kE89, kE425, kE489, kE521, kE537, kE545] (ksp [(192, 200, 7, 0, 7, 0)]) kE553 [kC553_0, kC553_1, kC553_2, kC553_3, kC553_4] 30000 (some kC553_0) = true := by decide +kernel
theorem ks553_1 : aseg kS krf kB [kE43, kE89, kE425, kE489, kE521, kE537, kE545] (ksp [(192, 200, 7, 0, 7, 0)]) kE553 [kC553_0, kC553_1, kC553_2, kC553_3, kC553_4] 30000 (some kC553_1) = true := by decide +kernel
theorem ks553_2 : aseg kS krf kB [kE43, kE89, kE425, kE489, kE521, kE537, kE545] (ksp [(192, 200, 7, 0, 7, 0)]) kE553 [kC553_0, kC553_1, kC553_2, kC553_3, kC553_4] 30000 (some kC553_2) = true := by decide +kernel
theorem ks553_3 : aseg kS krf kB [kE43, kE89, kE425, kE489, kE521, kE537, kE545] (ksp [(192, 200, 7, 0, 7, 0)]) kE553 [kC553_0, kC553_1, kC553_2, kC553_3, kC553_4] 30000 (some kC553_3) = true := by decide +kernel
theorem ks553_4 : aseg kS krf kB [kE43, kE89, kE425, kE489, kE521, kE537, kE545] (ksp [(192, 200, 7, 0, 7, 0)]) kE553 [kC553_0, kC553_1, kC553_2, kC553_3, kC553_4] 30000 (some kC553_4) = true := by decide +kernel
theorem kok553 : aOK kS krf kB kE553 := aOK_of (kal1 kok43 (kal1 kok89 (kal1 kok425 (kal1 kok489 (kal1 kok521 (kal1 kok537 (kal1 kok545 kal0))))))) (kcl1 ks553_0 (kcl1 ks553_1 (kcl1 ks553_2 (kcl1 ks553_3 (kcl1 ks553_4 kcl0))))) ks553
/-- ColdShodModel.triesWay(IIIII)V -/
def kE554 : aE := (192, 52, ([kvB 0 7, kvB 0 7, kvB 0 7], [], 0, [kvR 102, kvI 0, kvI 1, kvI 2, kvN 6, kvN 1, none, none], []), ([], none), ([], [], none, ([], [])), kvW67)
def kC554_0 : aC := (([kvB 0 7, kvB 0 7, kvB 0 7, kvB 0 1, kvB 0 1], [], 16, [kvR 102, kvI 0, kvI 1, kvI 2, kvN 6, kvN 1, kvI 3, kvI 4], []), ([], []), (333, [(-1, 4)]))
def kC554_1 : aC := (([kvB 0 7, kvB 0 7, kvB 0 7, kvB 0 12], [], 141, [kvR 102, kvI 0, kvI 1, kvI 2, kvN 6, kvN 1, kvI 3, none], []), ([], []), (141, [(-11, 3)]))
def kC554_2 : aC := (([kvB 0 7, kvB 0 7, kvB 0 7, kvB 0 11, (.negSucc 0, .ofNat 7), kvB 1 12], [(102, 8, .inl (5, .ofNat 0))], 195, [kvR 102, kvI 0, kvI 1, kvI 2, kvN 6, kvN 1, kvI 3, kvI 4], []), ([], []), (139, [(-11, 3), (-1, 4)]))
def kC554_3 : aC := (([kvB 0 7, kvB 0 7, kvB 0 7, (.negSucc 0, .ofNat 2147483647)], [(102, 29, .inl (3, .ofNat 0))], 91, [kvR 102, kvI 0, kvI 1, kvI 2, kvN 6, kvN 1, kvN 1, kvN 1], []), ([], []), (166, []))
def kC554_4 : aC := (([kvB 0 7, kvB 0 7, kvB 0 7, kvB 0 1, (.negSucc 0, .ofNat 99)], [(102, 29, .inl (4, .ofNat 0)), (102, 30, .inr (.ofNat 1))], 110, [kvR 102, kvI 0, kvI 1, kvI 2, kvN 6, kvN 1, kvN 1, kvI 3], []), ([], []), (1, [(-1, 3)]))
theorem ks554 : aseg kS krf kB [kE43, kE89, kE426, kE490, kE522, kE538, kE546, kE553] (ksp [(192, 200, 7, 0, 7, 0)]) kE554 [kC554_0, kC554_1, kC554_2, kC554_3, kC554_4] 30000 (none) = true := by decide +kernel
theorem ks554_0 : aseg kS krf kB [kE43, kE89, kE426, kE490, kE522, kE538, kE546, kE553] (ksp [(192, 200, 7, 0, 7, 0)]) kE554 [kC554_0, kC554_1, kC554_2, kC554_3, kC554_4] 30000 (some kC554_0) = true := by decide +kernel
theorem ks554_1 : aseg kS krf kB [kE43, kE89, kE426, kE490, kE522, kE538, kE546, kE553] (ksp [(192, 200, 7, 0, 7, 0)]) kE554 [kC554_0, kC554_1, kC554_2, kC554_3, kC554_4] 30000 (some kC554_1) = true := by decide +kernel
theorem ks554_2 : aseg kS krf kB [kE43, kE89, kE426, kE490, kE522, kE538, kE546, kE553] (ksp [(192, 200, 7, 0, 7, 0)]) kE554 [kC554_0, kC554_1, kC554_2, kC554_3, kC554_4] 30000 (some kC554_2) = true := by decide +kernel
theorem ks554_3 : aseg kS krf kB [kE43, kE89, kE426, kE490, kE522, kE538, kE546, kE553] (ksp [(192, 200, 7, 0, 7, 0)]) kE554 [kC554_0, kC554_1, kC554_2, kC554_3, kC554_4] 30000 (some kC554_3) = true := by decide +kernel
theorem ks554_4 : aseg kS krf kB [kE43, kE89, kE426, kE490, kE522, kE538, kE546, kE553] (ksp [(192, 200, 7, 0, 7, 0)]) kE554 [kC554_0, kC554_1, kC554_2, kC554_3, kC554_4] 30000 (some kC554_4) = true := by decide +kernel
theorem kok554 : aOK kS krf kB kE554 := aOK_of (kal1 kok43 (kal1 kok89 (kal1 kok426 (kal1 kok490 (kal1 kok522 (kal1 kok538 (kal1 kok546 (kal1 kok553 kal0)))))))) (kcl1 ks554_0 (kcl1 ks554_1 (kcl1 ks554_2 (kcl1 ks554_3 (kcl1 ks554_4 kcl0))))) ks554
/-- ColdShodModel.triesWay(IIIII)V -/
def kE555 : aE := (192, 52, ([kvB 0 7, kvB 0 7, kvB 0 7], [], 0, [kvR 102, kvI 0, kvI 1, kvI 2, kvN 5, kvN 1, none, none], []), ([], none), ([], [], none, ([], [])), kvW67)
def kC555_0 : aC := (([kvB 0 7, kvB 0 7, kvB 0 7, kvB 0 1, kvB 0 1], [], 16, [kvR 102, kvI 0, kvI 1, kvI 2, kvN 5, kvN 1, kvI 3, kvI 4], []), ([], []), (333, [(-1, 4)]))
def kC555_1 : aC := (([kvB 0 7, kvB 0 7, kvB 0 7, kvB 0 12], [], 141, [kvR 102, kvI 0, kvI 1, kvI 2, kvN 5, kvN 1, kvI 3, none], []), ([], []), (141, [(-11, 3)]))
def kC555_2 : aC := (([kvB 0 7, kvB 0 7, kvB 0 7, kvB 0 11, (.negSucc 0, .ofNat 7), kvB 1 12], [(102, 8, .inl (5, .ofNat 0))], 195, [kvR 102, kvI 0, kvI 1, kvI 2, kvN 5, kvN 1, kvI 3, kvI 4], []), ([], []), (139, [(-11, 3), (-1, 4)]))
def kC555_3 : aC := (([kvB 0 7, kvB 0 7, kvB 0 7, (.negSucc 0, .ofNat 2147483647)], [(102, 29, .inl (3, .ofNat 0))], 91, [kvR 102, kvI 0, kvI 1, kvI 2, kvN 5, kvN 1, kvN 1, kvN 1], []), ([], []), (166, []))
def kC555_4 : aC := (([kvB 0 7, kvB 0 7, kvB 0 7, kvB 0 1, (.negSucc 0, .ofNat 99)], [(102, 29, .inl (4, .ofNat 0)), (102, 30, .inr (.ofNat 1))], 110, [kvR 102, kvI 0, kvI 1, kvI 2, kvN 5, kvN 1, kvN 1, kvI 3], []), ([], []), (1, [(-1, 3)]))
theorem ks555 : aseg kS krf kB [kE43, kE89, kE427, kE491, kE523, kE539, kE547, kE553] (ksp [(192, 200, 7, 0, 7, 0)]) kE555 [kC555_0, kC555_1, kC555_2, kC555_3, kC555_4] 30000 (none) = true := by decide +kernel
theorem ks555_0 : aseg kS krf kB [kE43, kE89, kE427, kE491, kE523, kE539, kE547, kE553] (ksp [(192, 200, 7, 0, 7, 0)]) kE555 [kC555_0, kC555_1, kC555_2, kC555_3, kC555_4] 30000 (some kC555_0) = true := by decide +kernel
theorem ks555_1 : aseg kS krf kB [kE43, kE89, kE427, kE491, kE523, kE539, kE547, kE553] (ksp [(192, 200, 7, 0, 7, 0)]) kE555 [kC555_0, kC555_1, kC555_2, kC555_3, kC555_4] 30000 (some kC555_1) = true := by decide +kernel
theorem ks555_2 : aseg kS krf kB [kE43, kE89, kE427, kE491, kE523, kE539, kE547, kE553] (ksp [(192, 200, 7, 0, 7, 0)]) kE555 [kC555_0, kC555_1, kC555_2, kC555_3, kC555_4] 30000 (some kC555_2) = true := by decide +kernel
theorem ks555_3 : aseg kS krf kB [kE43, kE89, kE427, kE491, kE523, kE539, kE547, kE553] (ksp [(192, 200, 7, 0, 7, 0)]) kE555 [kC555_0, kC555_1, kC555_2, kC555_3, kC555_4] 30000 (some kC555_3) = true := by decide +kernel
theorem ks555_4 : aseg kS krf kB [kE43, kE89, kE427, kE491, kE523, kE539, kE547, kE553] (ksp [(192, 200, 7, 0, 7, 0)]) kE555 [kC555_0, kC555_1, kC555_2, kC555_3, kC555_4] 30000 (some kC555_4) = true := by decide +kernel
theorem kok555 : aOK kS krf kB kE555 := aOK_of (kal1 kok43 (kal1 kok89 (kal1 kok427 (kal1 kok491 (kal1 kok523 (kal1 kok539 (kal1 kok547 (kal1 kok553 kal0)))))))) (kcl1 ks555_0 (kcl1 ks555_1 (kcl1 ks555_2 (kcl1 ks555_3 (kcl1 ks555_4 kcl0))))) ks555
/-- ColdShodModel.triesWay(IIIII)V -/
def kE556 : aE := (192, 53, ([kvB 0 7, kvB 0 7, kvB 0 7], [], 0, [kvR 102, kvI 0, kvI 1, kvI 2, kvN 4, kvN 0, none, none], []), ([], none), ([], [], none, ([], [])), kvW68)
def kC556_0 : aC := (([kvB 0 7, kvB 0 7, kvB 0 7], [], 16, [kvR 102, kvI 0, kvI 1, kvI 2, kvN 4, kvN 0, kvN 1, kvN 0], []), ([], []), (332, []))
def kC556_1 : aC := (([kvB 0 7, kvB 0 7, kvB 0 7, kvB 0 12], [], 141, [kvR 102, kvI 0, kvI 1, kvI 2, kvN 4, kvN 0, kvI 3, none], []), ([], []), (141, [(-11, 3)]))
def kC556_2 : aC := (([kvB 0 7, kvB 0 7, kvB 0 7, (.negSucc 0, .ofNat 2147483647)], [(102, 29, .inl (3, .ofNat 0))], 91, [kvR 102, kvI 0, kvI 1, kvI 2, kvN 4, kvN 0, kvN 1, kvN 0], []), ([], []), (166, []))
def kC556_3 : aC := (([kvB 0 7, kvB 0 7, kvB 0 7, kvB 0 11, (.negSucc 0, .ofNat 7), kvB 1 12], [(102, 8, .inl (5, .ofNat 0))], 195, [kvR 102, kvI 0, kvI 1, kvI 2, kvN 4, kvN 0, kvI 3, kvI 4], []), ([], []), (139, [(-11, 3), (-1, 4)]))
def kC556_4 : aC := (([kvB 0 7, kvB 0 7, kvB 0 7, (.negSucc 0, .ofNat 99)], [(102, 29, .inl (3, .ofNat 0)), (102, 30, .inr (.ofNat 0))], 110, [kvR 102, kvI 0, kvI 1, kvI 2, kvN 4, kvN 0, kvN 1, kvN 0], []), ([], []), (0, []))
theorem ks556 : aseg kS krf kB [kE43, kE428, kE492, kE524, kE540, kE548, kE554, kE555] (ksp [(192, 200, 7, 0, 7, 0)]) kE556 [kC556_0, kC556_1, kC556_2, kC556_3, kC556_4] 30000 (none) = true := by decide +kernel
theorem ks556_0 : aseg kS krf kB [kE43, kE428, kE492, kE524, kE540, kE548, kE554, kE555] (ksp [(192, 200, 7, 0, 7, 0)]) kE556 [kC556_0, kC556_1, kC556_2, kC556_3, kC556_4] 30000 (some kC556_0) = true := by decide +kernel
theorem ks556_1 : aseg kS krf kB [kE43, kE428, kE492, kE524, kE540, kE548, kE554, kE555] (ksp [(192, 200, 7, 0, 7, 0)]) kE556 [kC556_0, kC556_1, kC556_2, kC556_3, kC556_4] 30000 (some kC556_1) = true := by decide +kernel
theorem ks556_2 : aseg kS krf kB [kE43, kE428, kE492, kE524, kE540, kE548, kE554, kE555] (ksp [(192, 200, 7, 0, 7, 0)]) kE556 [kC556_0, kC556_1, kC556_2, kC556_3, kC556_4] 30000 (some kC556_2) = true := by decide +kernel
theorem ks556_3 : aseg kS krf kB [kE43, kE428, kE492, kE524, kE540, kE548, kE554, kE555] (ksp [(192, 200, 7, 0, 7, 0)]) kE556 [kC556_0, kC556_1, kC556_2, kC556_3, kC556_4] 30000 (some kC556_3) = true := by decide +kernel
theorem ks556_4 : aseg kS krf kB [kE43, kE428, kE492, kE524, kE540, kE548, kE554, kE555] (ksp [(192, 200, 7, 0, 7, 0)]) kE556 [kC556_0, kC556_1, kC556_2, kC556_3, kC556_4] 30000 (some kC556_4) = true := by decide +kernel
theorem kok556 : aOK kS krf kB kE556 := aOK_of (kal1 kok43 (kal1 kok428 (kal1 kok492 (kal1 kok524 (kal1 kok540 (kal1 kok548 (kal1 kok554 (kal1 kok555 kal0)))))))) (kcl1 ks556_0 (kcl1 ks556_1 (kcl1 ks556_2 (kcl1 ks556_3 (kcl1 ks556_4 kcl0))))) ks556
/-- ColdShodModel.triesWay(IIIII)V -/
def kE557 : aE := (192, 52, ([kvB 0 7, kvB 0 7, kvB 0 7], [], 0, [kvR 102, kvI 0, kvI 1, kvI 2, kvN 3, kvN 1, none, none], []), ([], none), ([], [], none, ([], [])), kvW67)
def kC557_0 : aC := (([kvB 0 7, kvB 0 7, kvB 0 7, kvB 0 1, kvB 0 1], [], 16, [kvR 102, kvI 0, kvI 1, kvI 2, kvN 3, kvN 1, kvI 3, kvI 4], []), ([], []), (333, [(-1, 4)]))
def kC557_1 : aC := (([kvB 0 7, kvB 0 7, kvB 0 7, kvB 0 12], [], 141, [kvR 102, kvI 0, kvI 1, kvI 2, kvN 3, kvN 1, kvI 3, none], []), ([], []), (141, [(-11, 3)]))
def kC557_2 : aC := (([kvB 0 7, kvB 0 7, kvB 0 7, kvB 0 11, (.negSucc 0, .ofNat 7), kvB 1 12], [(102, 8, .inl (5, .ofNat 0))], 195, [kvR 102, kvI 0, kvI 1, kvI 2, kvN 3, kvN 1, kvI 3, kvI 4], []), ([], []), (139, [(-11, 3), (-1, 4)]))
def kC557_3 : aC := (([kvB 0 7, kvB 0 7, kvB 0 7, (.negSucc 0, .ofNat 2147483647)], [(102, 29, .inl (3, .ofNat 0))], 91, [kvR 102, kvI 0, kvI 1, kvI 2, kvN 3, kvN 1, kvN 1, kvN 1], []), ([], []), (166, []))
def kC557_4 : aC := (([kvB 0 7, kvB 0 7, kvB 0 7, kvB 0 1, (.negSucc 0, .ofNat 99)], [(102, 29, .inl (4, .ofNat 0)), (102, 30, .inr (.ofNat 1))], 110, [kvR 102, kvI 0, kvI 1, kvI 2, kvN 3, kvN 1, kvN 1, kvI 3], []), ([], []), (1, [(-1, 3)]))
theorem ks557 : aseg kS krf kB [kE43, kE89, kE429, kE493, kE525, kE541, kE549, kE553] (ksp [(192, 200, 7, 0, 7, 0)]) kE557 [kC557_0, kC557_1, kC557_2, kC557_3, kC557_4] 30000 (none) = true := by decide +kernel
theorem ks557_0 : aseg kS krf kB [kE43, kE89, kE429, kE493, kE525, kE541, kE549, kE553] (ksp [(192, 200, 7, 0, 7, 0)]) kE557 [kC557_0, kC557_1, kC557_2, kC557_3, kC557_4] 30000 (some kC557_0) = true := by decide +kernel
theorem ks557_1 : aseg kS krf kB [kE43, kE89, kE429, kE493, kE525, kE541, kE549, kE553] (ksp [(192, 200, 7, 0, 7, 0)]) kE557 [kC557_0, kC557_1, kC557_2, kC557_3, kC557_4] 30000 (some kC557_1) = true := by decide +kernel
theorem ks557_2 : aseg kS krf kB [kE43, kE89, kE429, kE493, kE525, kE541, kE549, kE553] (ksp [(192, 200, 7, 0, 7, 0)]) kE557 [kC557_0, kC557_1, kC557_2, kC557_3, kC557_4] 30000 (some kC557_2) = true := by decide +kernel
theorem ks557_3 : aseg kS krf kB [kE43, kE89, kE429, kE493, kE525, kE541, kE549, kE553] (ksp [(192, 200, 7, 0, 7, 0)]) kE557 [kC557_0, kC557_1, kC557_2, kC557_3, kC557_4] 30000 (some kC557_3) = true := by decide +kernel
theorem ks557_4 : aseg kS krf kB [kE43, kE89, kE429, kE493, kE525, kE541, kE549, kE553] (ksp [(192, 200, 7, 0, 7, 0)]) kE557 [kC557_0, kC557_1, kC557_2, kC557_3, kC557_4] 30000 (some kC557_4) = true := by decide +kernel
theorem kok557 : aOK kS krf kB kE557 := aOK_of (kal1 kok43 (kal1 kok89 (kal1 kok429 (kal1 kok493 (kal1 kok525 (kal1 kok541 (kal1 kok549 (kal1 kok553 kal0)))))))) (kcl1 ks557_0 (kcl1 ks557_1 (kcl1 ks557_2 (kcl1 ks557_3 (kcl1 ks557_4 kcl0))))) ks557
/-- ColdShodModel.triesWay(IIIII)V -/
def kE558 : aE := (192, 53, ([kvB 0 7, kvB 0 7, kvB 0 7], [], 0, [kvR 102, kvI 0, kvI 1, kvI 2, kvN 2, kvN 0, none, none], []), ([], none), ([], [], none, ([], [])), kvW68)
def kC558_0 : aC := (([kvB 0 7, kvB 0 7, kvB 0 7], [], 16, [kvR 102, kvI 0, kvI 1, kvI 2, kvN 2, kvN 0, kvN 1, kvN 0], []), ([], []), (332, []))
def kC558_1 : aC := (([kvB 0 7, kvB 0 7, kvB 0 7, kvB 0 12], [], 141, [kvR 102, kvI 0, kvI 1, kvI 2, kvN 2, kvN 0, kvI 3, none], []), ([], []), (141, [(-11, 3)]))
def kC558_2 : aC := (([kvB 0 7, kvB 0 7, kvB 0 7, (.negSucc 0, .ofNat 2147483647)], [(102, 29, .inl (3, .ofNat 0))], 91, [kvR 102, kvI 0, kvI 1, kvI 2, kvN 2, kvN 0, kvN 1, kvN 0], []), ([], []), (166, []))
def kC558_3 : aC := (([kvB 0 7, kvB 0 7, kvB 0 7, kvB 0 11, (.negSucc 0, .ofNat 7), kvB 1 12], [(102, 8, .inl (5, .ofNat 0))], 195, [kvR 102, kvI 0, kvI 1, kvI 2, kvN 2, kvN 0, kvI 3, kvI 4], []), ([], []), (139, [(-11, 3), (-1, 4)]))
def kC558_4 : aC := (([kvB 0 7, kvB 0 7, kvB 0 7, (.negSucc 0, .ofNat 99)], [(102, 29, .inl (3, .ofNat 0)), (102, 30, .inr (.ofNat 0))], 110, [kvR 102, kvI 0, kvI 1, kvI 2, kvN 2, kvN 0, kvN 1, kvN 0], []), ([], []), (0, []))
theorem ks558 : aseg kS krf kB [kE43, kE430, kE494, kE526, kE542, kE550, kE554, kE557] (ksp [(192, 200, 7, 0, 7, 0)]) kE558 [kC558_0, kC558_1, kC558_2, kC558_3, kC558_4] 30000 (none) = true := by decide +kernel
theorem ks558_0 : aseg kS krf kB [kE43, kE430, kE494, kE526, kE542, kE550, kE554, kE557] (ksp [(192, 200, 7, 0, 7, 0)]) kE558 [kC558_0, kC558_1, kC558_2, kC558_3, kC558_4] 30000 (some kC558_0) = true := by decide +kernel
theorem ks558_1 : aseg kS krf kB [kE43, kE430, kE494, kE526, kE542, kE550, kE554, kE557] (ksp [(192, 200, 7, 0, 7, 0)]) kE558 [kC558_0, kC558_1, kC558_2, kC558_3, kC558_4] 30000 (some kC558_1) = true := by decide +kernel
theorem ks558_2 : aseg kS krf kB [kE43, kE430, kE494, kE526, kE542, kE550, kE554, kE557] (ksp [(192, 200, 7, 0, 7, 0)]) kE558 [kC558_0, kC558_1, kC558_2, kC558_3, kC558_4] 30000 (some kC558_2) = true := by decide +kernel
theorem ks558_3 : aseg kS krf kB [kE43, kE430, kE494, kE526, kE542, kE550, kE554, kE557] (ksp [(192, 200, 7, 0, 7, 0)]) kE558 [kC558_0, kC558_1, kC558_2, kC558_3, kC558_4] 30000 (some kC558_3) = true := by decide +kernel
theorem ks558_4 : aseg kS krf kB [kE43, kE430, kE494, kE526, kE542, kE550, kE554, kE557] (ksp [(192, 200, 7, 0, 7, 0)]) kE558 [kC558_0, kC558_1, kC558_2, kC558_3, kC558_4] 30000 (some kC558_4) = true := by decide +kernel
theorem kok558 : aOK kS krf kB kE558 := aOK_of (kal1 kok43 (kal1 kok430 (kal1 kok494 (kal1 kok526 (kal1 kok542 (kal1 kok550 (kal1 kok554 (kal1 kok557 kal0)))))))) (kcl1 ks558_0 (kcl1 ks558_1 (kcl1 ks558_2 (kcl1 ks558_3 (kcl1 ks558_4 kcl0))))) ks558
/-- ColdShodModel.triesWay(IIIII)V -/
def kE559 : aE := (192, 53, ([kvB 0 7, kvB 0 7, kvB 0 7], [], 0, [kvR 102, kvI 0, kvI 1, kvI 2, kvN 1, kvN 0, none, none], []), ([], none), ([], [], none, ([], [])), kvW68)
def kC559_0 : aC := (([kvB 0 7, kvB 0 7, kvB 0 7], [], 16, [kvR 102, kvI 0, kvI 1, kvI 2, kvN 1, kvN 0, kvN 1, kvN 0], []), ([], []), (332, []))
def kC559_1 : aC := (([kvB 0 7, kvB 0 7, kvB 0 7, kvB 0 12], [], 141, [kvR 102, kvI 0, kvI 1, kvI 2, kvN 1, kvN 0, kvI 3, none], []), ([], []), (141, [(-11, 3)]))
def kC559_2 : aC := (([kvB 0 7, kvB 0 7, kvB 0 7, (.negSucc 0, .ofNat 2147483647)], [(102, 29, .inl (3, .ofNat 0))], 91, [kvR 102, kvI 0, kvI 1, kvI 2, kvN 1, kvN 0, kvN 1, kvN 0], []), ([], []), (166, []))
def kC559_3 : aC := (([kvB 0 7, kvB 0 7, kvB 0 7, kvB 0 11, (.negSucc 0, .ofNat 7), kvB 1 12], [(102, 8, .inl (5, .ofNat 0))], 195, [kvR 102, kvI 0, kvI 1, kvI 2, kvN 1, kvN 0, kvI 3, kvI 4], []), ([], []), (139, [(-11, 3), (-1, 4)]))
def kC559_4 : aC := (([kvB 0 7, kvB 0 7, kvB 0 7, (.negSucc 0, .ofNat 99)], [(102, 29, .inl (3, .ofNat 0)), (102, 30, .inr (.ofNat 0))], 110, [kvR 102, kvI 0, kvI 1, kvI 2, kvN 1, kvN 0, kvN 1, kvN 0], []), ([], []), (0, []))
theorem ks559 : aseg kS krf kB [kE43, kE431, kE495, kE527, kE543, kE551, kE555, kE557] (ksp [(192, 200, 7, 0, 7, 0)]) kE559 [kC559_0, kC559_1, kC559_2, kC559_3, kC559_4] 30000 (none) = true := by decide +kernel
theorem ks559_0 : aseg kS krf kB [kE43, kE431, kE495, kE527, kE543, kE551, kE555, kE557] (ksp [(192, 200, 7, 0, 7, 0)]) kE559 [kC559_0, kC559_1, kC559_2, kC559_3, kC559_4] 30000 (some kC559_0) = true := by decide +kernel
theorem ks559_1 : aseg kS krf kB [kE43, kE431, kE495, kE527, kE543, kE551, kE555, kE557] (ksp [(192, 200, 7, 0, 7, 0)]) kE559 [kC559_0, kC559_1, kC559_2, kC559_3, kC559_4] 30000 (some kC559_1) = true := by decide +kernel
theorem ks559_2 : aseg kS krf kB [kE43, kE431, kE495, kE527, kE543, kE551, kE555, kE557] (ksp [(192, 200, 7, 0, 7, 0)]) kE559 [kC559_0, kC559_1, kC559_2, kC559_3, kC559_4] 30000 (some kC559_2) = true := by decide +kernel
theorem ks559_3 : aseg kS krf kB [kE43, kE431, kE495, kE527, kE543, kE551, kE555, kE557] (ksp [(192, 200, 7, 0, 7, 0)]) kE559 [kC559_0, kC559_1, kC559_2, kC559_3, kC559_4] 30000 (some kC559_3) = true := by decide +kernel
theorem ks559_4 : aseg kS krf kB [kE43, kE431, kE495, kE527, kE543, kE551, kE555, kE557] (ksp [(192, 200, 7, 0, 7, 0)]) kE559 [kC559_0, kC559_1, kC559_2, kC559_3, kC559_4] 30000 (some kC559_4) = true := by decide +kernel
theorem kok559 : aOK kS krf kB kE559 := aOK_of (kal1 kok43 (kal1 kok431 (kal1 kok495 (kal1 kok527 (kal1 kok543 (kal1 kok551 (kal1 kok555 (kal1 kok557 kal0)))))))) (kcl1 ks559_0 (kcl1 ks559_1 (kcl1 ks559_2 (kcl1 ks559_3 (kcl1 ks559_4 kcl0))))) ks559
