/-! ENTRIES and their checks: printed by a program (wip/ai). -/
/-- ColdShodModel.triesWay(IIIII)V -/
def kE487 : aE := (192, 51, ([kvB 0 7, kvB 0 7, kvB 0 7], [], 0, [kvR 102, kvI 0, kvI 1, kvI 2, kvN 73, kvN 2, none, none], []), ([], none), ([], [], none, ([], [])), kvW66)
def kC487_0 : aC := (([kvB 0 7, kvB 0 7, kvB 0 7, kvB 0 1, kvB 0 2], [], 16, [kvR 102, kvI 0, kvI 1, kvI 2, kvN 73, kvN 2, kvI 3, kvI 4], []), ([], []), (334, [(-1, 4)]))
def kC487_1 : aC := (([kvB 0 7, kvB 0 7, kvB 0 7, kvB 0 12], [], 141, [kvR 102, kvI 0, kvI 1, kvI 2, kvN 73, kvN 2, kvI 3, none], []), ([], []), (141, [(-11, 3)]))
def kC487_2 : aC := (([kvB 0 7, kvB 0 7, kvB 0 7, kvB 0 11, (.negSucc 0, .ofNat 7), kvB 1 12], [(102, 8, .inl (5, .ofNat 0))], 195, [kvR 102, kvI 0, kvI 1, kvI 2, kvN 73, kvN 2, kvI 3, kvI 4], []), ([], []), (139, [(-11, 3), (-1, 4)]))
def kC487_3 : aC := (([kvB 0 7, kvB 0 7, kvB 0 7, (.negSucc 0, .ofNat 2147483647)], [(102, 29, .inl (3, .ofNat 0))], 91, [kvR 102, kvI 0, kvI 1, kvI 2, kvN 73, kvN 2, kvN 1, kvN 2], []), ([], []), (166, []))
def kC487_4 : aC := (([kvB 0 7, kvB 0 7, kvB 0 7, kvB 0 2, (.negSucc 0, .ofNat 99)], [(102, 29, .inl (4, .ofNat 0)), (102, 30, .inr (.ofNat 2))], 110, [kvR 102, kvI 0, kvI 1, kvI 2, kvN 73, kvN 2, kvN 1, kvI 3], []), ([], []), (2, [(-1, 3)]))
theorem ks487 : aseg kS krf kB [kE43, kE89, kE359, kE455, kE471, kE483, kE485] (ksp [(192, 200, 7, 0, 7, 0)]) kE487 [kC487_0, kC487_1, kC487_2, kC487_3, kC487_4] 30000 (none) = true := by decide +kernel
theorem ks487_0 : aseg kS krf kB [kE43, kE89, kE359, kE455, kE471, kE483, kE485] (ksp [(192, 200, 7, 0, 7, 0)]) kE487 [kC487_0, kC487_1, kC487_2, kC487_3, kC487_4] 30000 (some kC487_0) = true := by decide +kernel
theorem ks487_1 : aseg kS krf kB [kE43, kE89, kE359, kE455, kE471, kE483, kE485] (ksp [(192, 200, 7, 0, 7, 0)]) kE487 [kC487_0, kC487_1, kC487_2, kC487_3, kC487_4] 30000 (some kC487_1) = true := by decide +kernel
theorem ks487_2 : aseg kS krf kB [kE43, kE89, kE359, kE455, kE471, kE483, kE485] (ksp [(192, 200, 7, 0, 7, 0)]) kE487 [kC487_0, kC487_1, kC487_2, kC487_3, kC487_4] 30000 (some kC487_2) = true := by decide +kernel
theorem ks487_3 : aseg kS krf kB [kE43, kE89, kE359, kE455, kE471, kE483, kE485] (ksp [(192, 200, 7, 0, 7, 0)]) kE487 [kC487_0, kC487_1, kC487_2, kC487_3, kC487_4] 30000 (some kC487_3) = true := by decide +kernel
theorem ks487_4 : aseg kS krf kB [kE43, kE89, kE359, kE455, kE471, kE483, kE485] (ksp [(192, 200, 7, 0, 7, 0)]) kE487 [kC487_0, kC487_1, kC487_2, kC487_3, kC487_4] 30000 (some kC487_4) = true := by decide +kernel
theorem kok487 : aOK kS krf kB kE487 := aOK_of (kal1 kok43 (kal1 kok89 (kal1 kok359 (kal1 kok455 (kal1 kok471 (kal1 kok483 (kal1 kok485 kal0))))))) (kcl1 ks487_0 (kcl1 ks487_1 (kcl1 ks487_2 (kcl1 ks487_3 (kcl1 ks487_4 kcl0))))) ks487
/-- ColdShodModel.triesWay(IIIII)V -/
def kE488 : aE := (192, 52, ([kvB 0 7, kvB 0 7, kvB 0 7], [], 0, [kvR 102, kvI 0, kvI 1, kvI 2, kvN 72, kvN 1, none, none], []), ([], none), ([], [], none, ([], [])), kvW67)
def kC488_0 : aC := (([kvB 0 7, kvB 0 7, kvB 0 7, kvB 0 1, kvB 0 1], [], 16, [kvR 102, kvI 0, kvI 1, kvI 2, kvN 72, kvN 1, kvI 3, kvI 4], []), ([], []), (333, [(-1, 4)]))
def kC488_1 : aC := (([kvB 0 7, kvB 0 7, kvB 0 7, kvB 0 12], [], 141, [kvR 102, kvI 0, kvI 1, kvI 2, kvN 72, kvN 1, kvI 3, none], []), ([], []), (141, [(-11, 3)]))
def kC488_2 : aC := (([kvB 0 7, kvB 0 7, kvB 0 7, kvB 0 11, (.negSucc 0, .ofNat 7), kvB 1 12], [(102, 8, .inl (5, .ofNat 0))], 195, [kvR 102, kvI 0, kvI 1, kvI 2, kvN 72, kvN 1, kvI 3, kvI 4], []), ([], []), (139, [(-11, 3), (-1, 4)]))
def kC488_3 : aC := (([kvB 0 7, kvB 0 7, kvB 0 7, (.negSucc 0, .ofNat 2147483647)], [(102, 29, .inl (3, .ofNat 0))], 91, [kvR 102, kvI 0, kvI 1, kvI 2, kvN 72, kvN 1, kvN 1, kvN 1], []), ([], []), (166, []))
def kC488_4 : aC := (([kvB 0 7, kvB 0 7, kvB 0 7, kvB 0 1, (.negSucc 0, .ofNat 99)], [(102, 29, .inl (4, .ofNat 0)), (102, 30, .inr (.ofNat 1))], 110, [kvR 102, kvI 0, kvI 1, kvI 2, kvN 72, kvN 1, kvN 1, kvI 3], []), ([], []), (1, [(-1, 3)]))
theorem ks488 : aseg kS krf kB [kE43, kE89, kE360, kE456, kE472, kE484, kE486, kE487] (ksp [(192, 200, 7, 0, 7, 0)]) kE488 [kC488_0, kC488_1, kC488_2, kC488_3, kC488_4] 30000 (none) = true := by decide +kernel
theorem ks488_0 : aseg kS krf kB [kE43, kE89, kE360, kE456, kE472, kE484, kE486, kE487] (ksp [(192, 200, 7, 0, 7, 0)]) kE488 [kC488_0, kC488_1, kC488_2, kC488_3, kC488_4] 30000 (some kC488_0) = true := by decide +kernel
theorem ks488_1 : aseg kS krf kB [kE43, kE89, kE360, kE456, kE472, kE484, kE486, kE487] (ksp [(192, 200, 7, 0, 7, 0)]) kE488 [kC488_0, kC488_1, kC488_2, kC488_3, kC488_4] 30000 (some kC488_1) = true := by decide +kernel
theorem ks488_2 : aseg kS krf kB [kE43, kE89, kE360, kE456, kE472, kE484, kE486, kE487] (ksp [(192, 200, 7, 0, 7, 0)]) kE488 [kC488_0, kC488_1, kC488_2, kC488_3, kC488_4] 30000 (some kC488_2) = true := by decide +kernel
theorem ks488_3 : aseg kS krf kB [kE43, kE89, kE360, kE456, kE472, kE484, kE486, kE487] (ksp [(192, 200, 7, 0, 7, 0)]) kE488 [kC488_0, kC488_1, kC488_2, kC488_3, kC488_4] 30000 (some kC488_3) = true := by decide +kernel
theorem ks488_4 : aseg kS krf kB [kE43, kE89, kE360, kE456, kE472, kE484, kE486, kE487] (ksp [(192, 200, 7, 0, 7, 0)]) kE488 [kC488_0, kC488_1, kC488_2, kC488_3, kC488_4] 30000 (some kC488_4) = true := by decide +kernel
theorem kok488 : aOK kS krf kB kE488 := aOK_of (kal1 kok43 (kal1 kok89 (kal1 kok360 (kal1 kok456 (kal1 kok472 (kal1 kok484 (kal1 kok486 (kal1 kok487 kal0)))))))) (kcl1 ks488_0 (kcl1 ks488_1 (kcl1 ks488_2 (kcl1 ks488_3 (kcl1 ks488_4 kcl0))))) ks488
/-- ColdShodModel.triesWay(IIIII)V -/
def kE489 : aE := (192, 50, ([kvB 0 7, kvB 0 7, kvB 0 7], [], 0, [kvR 102, kvI 0, kvI 1, kvI 2, kvN 71, kvN 3, none, none], []), ([], none), ([], [], none, ([], [])), kvW65)
def kC489_0 : aC := (([kvB 0 7, kvB 0 7, kvB 0 7, kvB 0 1, kvB 0 3], [], 16, [kvR 102, kvI 0, kvI 1, kvI 2, kvN 71, kvN 3, kvI 3, kvI 4], []), ([], []), (335, [(-1, 4)]))
def kC489_1 : aC := (([kvB 0 7, kvB 0 7, kvB 0 7, kvB 0 12], [], 141, [kvR 102, kvI 0, kvI 1, kvI 2, kvN 71, kvN 3, kvI 3, none], []), ([], []), (141, [(-11, 3)]))
def kC489_2 : aC := (([kvB 0 7, kvB 0 7, kvB 0 7, kvB 0 11, (.negSucc 0, .ofNat 7), kvB 1 12], [(102, 8, .inl (5, .ofNat 0))], 195, [kvR 102, kvI 0, kvI 1, kvI 2, kvN 71, kvN 3, kvI 3, kvI 4], []), ([], []), (139, [(-11, 3), (-1, 4)]))
def kC489_3 : aC := (([kvB 0 7, kvB 0 7, kvB 0 7, (.negSucc 0, .ofNat 2147483647)], [(102, 29, .inl (3, .ofNat 0))], 91, [kvR 102, kvI 0, kvI 1, kvI 2, kvN 71, kvN 3, kvN 1, kvN 3], []), ([], []), (166, []))
def kC489_4 : aC := (([kvB 0 7, kvB 0 7, kvB 0 7, kvB 0 3, (.negSucc 0, .ofNat 99)], [(102, 29, .inl (4, .ofNat 0)), (102, 30, .inr (.ofNat 3))], 110, [kvR 102, kvI 0, kvI 1, kvI 2, kvN 71, kvN 3, kvN 1, kvI 3], []), ([], []), (3, [(-1, 3)]))
theorem ks489 : aseg kS krf kB [kE43, kE89, kE361, kE457, kE473, kE481] (ksp [(192, 200, 7, 0, 7, 0)]) kE489 [kC489_0, kC489_1, kC489_2, kC489_3, kC489_4] 30000 (none) = true := by decide +kernel
theorem ks489_0 : aseg kS krf kB [kE43, kE89, kE361, kE457, kE473, kE481] (ksp [(192, 200, 7, 0, 7, 0)]) kE489 [kC489_0, kC489_1, kC489_2, kC489_3, kC489_4] 30000 (some kC489_0) = true := by decide +kernel
theorem ks489_1 : aseg kS krf kB [kE43, kE89, kE361, kE457, kE473, kE481] (ksp [(192, 200, 7, 0, 7, 0)]) kE489 [kC489_0, kC489_1, kC489_2, kC489_3, kC489_4] 30000 (some kC489_1) = true := by decide +kernel
theorem ks489_2 : aseg kS krf kB [kE43, kE89, kE361, kE457, kE473, kE481] (ksp [(192, 200, 7, 0, 7, 0)]) kE489 [kC489_0, kC489_1, kC489_2, kC489_3, kC489_4] 30000 (some kC489_2) = true := by decide +kernel
theorem ks489_3 : aseg kS krf kB [kE43, kE89, kE361, kE457, kE473, kE481] (ksp [(192, 200, 7, 0, 7, 0)]) kE489 [kC489_0, kC489_1, kC489_2, kC489_3, kC489_4] 30000 (some kC489_3) = true := by decide +kernel
theorem ks489_4 : aseg kS krf kB [kE43, kE89, kE361, kE457, kE473, kE481] (ksp [(192, 200, 7, 0, 7, 0)]) kE489 [kC489_0, kC489_1, kC489_2, kC489_3, kC489_4] 30000 (some kC489_4) = true := by decide +kernel
theorem kok489 : aOK kS krf kB kE489 := aOK_of (kal1 kok43 (kal1 kok89 (kal1 kok361 (kal1 kok457 (kal1 kok473 (kal1 kok481 kal0)))))) (kcl1 ks489_0 (kcl1 ks489_1 (kcl1 ks489_2 (kcl1 ks489_3 (kcl1 ks489_4 kcl0))))) ks489
/-- ColdShodModel.triesWay(IIIII)V -/
def kE490 : aE := (192, 51, ([kvB 0 7, kvB 0 7, kvB 0 7], [], 0, [kvR 102, kvI 0, kvI 1, kvI 2, kvN 70, kvN 2, none, none], []), ([], none), ([], [], none, ([], [])), kvW66)
def kC490_0 : aC := (([kvB 0 7, kvB 0 7, kvB 0 7, kvB 0 1, kvB 0 2], [], 16, [kvR 102, kvI 0, kvI 1, kvI 2, kvN 70, kvN 2, kvI 3, kvI 4], []), ([], []), (334, [(-1, 4)]))
def kC490_1 : aC := (([kvB 0 7, kvB 0 7, kvB 0 7, kvB 0 12], [], 141, [kvR 102, kvI 0, kvI 1, kvI 2, kvN 70, kvN 2, kvI 3, none], []), ([], []), (141, [(-11, 3)]))
def kC490_2 : aC := (([kvB 0 7, kvB 0 7, kvB 0 7, kvB 0 11, (.negSucc 0, .ofNat 7), kvB 1 12], [(102, 8, .inl (5, .ofNat 0))], 195, [kvR 102, kvI 0, kvI 1, kvI 2, kvN 70, kvN 2, kvI 3, kvI 4], []), ([], []), (139, [(-11, 3), (-1, 4)]))
def kC490_3 : aC := (([kvB 0 7, kvB 0 7, kvB 0 7, (.negSucc 0, .ofNat 2147483647)], [(102, 29, .inl (3, .ofNat 0))], 91, [kvR 102, kvI 0, kvI 1, kvI 2, kvN 70, kvN 2, kvN 1, kvN 2], []), ([], []), (166, []))
def kC490_4 : aC := (([kvB 0 7, kvB 0 7, kvB 0 7, kvB 0 2, (.negSucc 0, .ofNat 99)], [(102, 29, .inl (4, .ofNat 0)), (102, 30, .inr (.ofNat 2))], 110, [kvR 102, kvI 0, kvI 1, kvI 2, kvN 70, kvN 2, kvN 1, kvI 3], []), ([], []), (2, [(-1, 3)]))
theorem ks490 : aseg kS krf kB [kE43, kE89, kE362, kE458, kE474, kE482, kE489] (ksp [(192, 200, 7, 0, 7, 0)]) kE490 [kC490_0, kC490_1, kC490_2, kC490_3, kC490_4] 30000 (none) = true := by decide +kernel
theorem ks490_0 : aseg kS krf kB [kE43, kE89, kE362, kE458, kE474, kE482, kE489] (ksp [(192, 200, 7, 0, 7, 0)]) kE490 [kC490_0, kC490_1, kC490_2, kC490_3, kC490_4] 30000 (some kC490_0) = true := by decide +kernel
theorem ks490_1 : aseg kS krf kB [kE43, kE89, kE362, kE458, kE474, kE482, kE489] (ksp [(192, 200, 7, 0, 7, 0)]) kE490 [kC490_0, kC490_1, kC490_2, kC490_3, kC490_4] 30000 (some kC490_1) = true := by decide +kernel
theorem ks490_2 : aseg kS krf kB [kE43, kE89, kE362, kE458, kE474, kE482, kE489] (ksp [(192, 200, 7, 0, 7, 0)]) kE490 [kC490_0, kC490_1, kC490_2, kC490_3, kC490_4] 30000 (some kC490_2) = true := by decide +kernel
theorem ks490_3 : aseg kS krf kB [kE43, kE89, kE362, kE458, kE474, kE482, kE489] (ksp [(192, 200, 7, 0, 7, 0)]) kE490 [kC490_0, kC490_1, kC490_2, kC490_3, kC490_4] 30000 (some kC490_3) = true := by decide +kernel
theorem ks490_4 : aseg kS krf kB [kE43, kE89, kE362, kE458, kE474, kE482, kE489] (ksp [(192, 200, 7, 0, 7, 0)]) kE490 [kC490_0, kC490_1, kC490_2, kC490_3, kC490_4] 30000 (some kC490_4) = true := by decide +kernel
theorem kok490 : aOK kS krf kB kE490 := aOK_of (kal1 kok43 (kal1 kok89 (kal1 kok362 (kal1 kok458 (kal1 kok474 (kal1 kok482 (kal1 kok489 kal0))))))) (kcl1 ks490_0 (kcl1 ks490_1 (kcl1 ks490_2 (kcl1 ks490_3 (kcl1 ks490_4 kcl0))))) ks490
/-- ColdShodModel.triesWay(IIIII)V -/
def kE491 : aE := (192, 51, ([kvB 0 7, kvB 0 7, kvB 0 7], [], 0, [kvR 102, kvI 0, kvI 1, kvI 2, kvN 69, kvN 2, none, none], []), ([], none), ([], [], none, ([], [])), kvW66)
def kC491_0 : aC := (([kvB 0 7, kvB 0 7, kvB 0 7, kvB 0 1, kvB 0 2], [], 16, [kvR 102, kvI 0, kvI 1, kvI 2, kvN 69, kvN 2, kvI 3, kvI 4], []), ([], []), (334, [(-1, 4)]))
def kC491_1 : aC := (([kvB 0 7, kvB 0 7, kvB 0 7, kvB 0 12], [], 141, [kvR 102, kvI 0, kvI 1, kvI 2, kvN 69, kvN 2, kvI 3, none], []), ([], []), (141, [(-11, 3)]))
def kC491_2 : aC := (([kvB 0 7, kvB 0 7, kvB 0 7, kvB 0 11, (.negSucc 0, .ofNat 7), kvB 1 12], [(102, 8, .inl (5, .ofNat 0))], 195, [kvR 102, kvI 0, kvI 1, kvI 2, kvN 69, kvN 2, kvI 3, kvI 4], []), ([], []), (139, [(-11, 3), (-1, 4)]))
def kC491_3 : aC := (([kvB 0 7, kvB 0 7, kvB 0 7, (.negSucc 0, .ofNat 2147483647)], [(102, 29, .inl (3, .ofNat 0))], 91, [kvR 102, kvI 0, kvI 1, kvI 2, kvN 69, kvN 2, kvN 1, kvN 2], []), ([], []), (166, []))
def kC491_4 : aC := (([kvB 0 7, kvB 0 7, kvB 0 7, kvB 0 2, (.negSucc 0, .ofNat 99)], [(102, 29, .inl (4, .ofNat 0)), (102, 30, .inr (.ofNat 2))], 110, [kvR 102, kvI 0, kvI 1, kvI 2, kvN 69, kvN 2, kvN 1, kvI 3], []), ([], []), (2, [(-1, 3)]))
theorem ks491 : aseg kS krf kB [kE43, kE89, kE363, kE459, kE475, kE483, kE489] (ksp [(192, 200, 7, 0, 7, 0)]) kE491 [kC491_0, kC491_1, kC491_2, kC491_3, kC491_4] 30000 (none) = true := by decide +kernel
theorem ks491_0 : aseg kS krf kB [kE43, kE89, kE363, kE459, kE475, kE483, kE489] (ksp [(192, 200, 7, 0, 7, 0)]) kE491 [kC491_0, kC491_1, kC491_2, kC491_3, kC491_4] 30000 (some kC491_0) = true := by decide +kernel
theorem ks491_1 : aseg kS krf kB [kE43, kE89, kE363, kE459, kE475, kE483, kE489] (ksp [(192, 200, 7, 0, 7, 0)]) kE491 [kC491_0, kC491_1, kC491_2, kC491_3, kC491_4] 30000 (some kC491_1) = true := by decide +kernel
theorem ks491_2 : aseg kS krf kB [kE43, kE89, kE363, kE459, kE475, kE483, kE489] (ksp [(192, 200, 7, 0, 7, 0)]) kE491 [kC491_0, kC491_1, kC491_2, kC491_3, kC491_4] 30000 (some kC491_2) = true := by decide +kernel
theorem ks491_3 : aseg kS krf kB [kE43, kE89, kE363, kE459, kE475, kE483, kE489] (ksp [(192, 200, 7, 0, 7, 0)]) kE491 [kC491_0, kC491_1, kC491_2, kC491_3, kC491_4] 30000 (some kC491_3) = true := by decide +kernel
theorem ks491_4 : aseg kS krf kB [kE43, kE89, kE363, kE459, kE475, kE483, kE489] (ksp [(192, 200, 7, 0, 7, 0)]) kE491 [kC491_0, kC491_1, kC491_2, kC491_3, kC491_4] 30000 (some kC491_4) = true := by decide +kernel
theorem kok491 : aOK kS krf kB kE491 := aOK_of (kal1 kok43 (kal1 kok89 (kal1 kok363 (kal1 kok459 (kal1 kok475 (kal1 kok483 (kal1 kok489 kal0))))))) (kcl1 ks491_0 (kcl1 ks491_1 (kcl1 ks491_2 (kcl1 ks491_3 (kcl1 ks491_4 kcl0))))) ks491
/-- ColdShodModel.triesWay(IIIII)V -/
def kE492 : aE := (192, 52, ([kvB 0 7, kvB 0 7, kvB 0 7], [], 0, [kvR 102, kvI 0, kvI 1, kvI 2, kvN 68, kvN 1, none, none], []), ([], none), ([], [], none, ([], [])), kvW67)
def kC492_0 : aC := (([kvB 0 7, kvB 0 7, kvB 0 7, kvB 0 1, kvB 0 1], [], 16, [kvR 102, kvI 0, kvI 1, kvI 2, kvN 68, kvN 1, kvI 3, kvI 4], []), ([], []), (333, [(-1, 4)]))
def kC492_1 : aC := (([kvB 0 7, kvB 0 7, kvB 0 7, kvB 0 12], [], 141, [kvR 102, kvI 0, kvI 1, kvI 2, kvN 68, kvN 1, kvI 3, none], []), ([], []), (141, [(-11, 3)]))
def kC492_2 : aC := (([kvB 0 7, kvB 0 7, kvB 0 7, kvB 0 11, (.negSucc 0, .ofNat 7), kvB 1 12], [(102, 8, .inl (5, .ofNat 0))], 195, [kvR 102, kvI 0, kvI 1, kvI 2, kvN 68, kvN 1, kvI 3, kvI 4], []), ([], []), (139, [(-11, 3), (-1, 4)]))
def kC492_3 : aC := (([kvB 0 7, kvB 0 7, kvB 0 7, (.negSucc 0, .ofNat 2147483647)], [(102, 29, .inl (3, .ofNat 0))], 91, [kvR 102, kvI 0, kvI 1, kvI 2, kvN 68, kvN 1, kvN 1, kvN 1], []), ([], []), (166, []))
def kC492_4 : aC := (([kvB 0 7, kvB 0 7, kvB 0 7, kvB 0 1, (.negSucc 0, .ofNat 99)], [(102, 29, .inl (4, .ofNat 0)), (102, 30, .inr (.ofNat 1))], 110, [kvR 102, kvI 0, kvI 1, kvI 2, kvN 68, kvN 1, kvN 1, kvI 3], []), ([], []), (1, [(-1, 3)]))
theorem ks492 : aseg kS krf kB [kE43, kE89, kE364, kE460, kE476, kE484, kE490, kE491] (ksp [(192, 200, 7, 0, 7, 0)]) kE492 [kC492_0, kC492_1, kC492_2, kC492_3, kC492_4] 30000 (none) = true := by decide +kernel
theorem ks492_0 : aseg kS krf kB [kE43, kE89, kE364, kE460, kE476, kE484, kE490, kE491] (ksp [(192, 200, 7, 0, 7, 0)]) kE492 [kC492_0, kC492_1, kC492_2, kC492_3, kC492_4] 30000 (some kC492_0) = true := by decide +kernel
theorem ks492_1 : aseg kS krf kB [kE43, kE89, kE364, kE460, kE476, kE484, kE490, kE491] (ksp [(192, 200, 7, 0, 7, 0)]) kE492 [kC492_0, kC492_1, kC492_2, kC492_3, kC492_4] 30000 (some kC492_1) = true := by decide +kernel
theorem ks492_2 : aseg kS krf kB [kE43, kE89, kE364, kE460, kE476, kE484, kE490, kE491] (ksp [(192, 200, 7, 0, 7, 0)]) kE492 [kC492_0, kC492_1, kC492_2, kC492_3, kC492_4] 30000 (some kC492_2) = true := by decide +kernel
theorem ks492_3 : aseg kS krf kB [kE43, kE89, kE364, kE460, kE476, kE484, kE490, kE491] (ksp [(192, 200, 7, 0, 7, 0)]) kE492 [kC492_0, kC492_1, kC492_2, kC492_3, kC492_4] 30000 (some kC492_3) = true := by decide +kernel
theorem ks492_4 : aseg kS krf kB [kE43, kE89, kE364, kE460, kE476, kE484, kE490, kE491] (ksp [(192, 200, 7, 0, 7, 0)]) kE492 [kC492_0, kC492_1, kC492_2, kC492_3, kC492_4] 30000 (some kC492_4) = true := by decide +kernel
theorem kok492 : aOK kS krf kB kE492 := aOK_of (kal1 kok43 (kal1 kok89 (kal1 kok364 (kal1 kok460 (kal1 kok476 (kal1 kok484 (kal1 kok490 (kal1 kok491 kal0)))))))) (kcl1 ks492_0 (kcl1 ks492_1 (kcl1 ks492_2 (kcl1 ks492_3 (kcl1 ks492_4 kcl0))))) ks492
/-- ColdShodModel.triesWay(IIIII)V -/
def kE493 : aE := (192, 51, ([kvB 0 7, kvB 0 7, kvB 0 7], [], 0, [kvR 102, kvI 0, kvI 1, kvI 2, kvN 67, kvN 2, none, none], []), ([], none), ([], [], none, ([], [])), kvW66)
def kC493_0 : aC := (([kvB 0 7, kvB 0 7, kvB 0 7, kvB 0 1, kvB 0 2], [], 16, [kvR 102, kvI 0, kvI 1, kvI 2, kvN 67, kvN 2, kvI 3, kvI 4], []), ([], []), (334, [(-1, 4)]))
def kC493_1 : aC := (([kvB 0 7, kvB 0 7, kvB 0 7, kvB 0 12], [], 141, [kvR 102, kvI 0, kvI 1, kvI 2, kvN 67, kvN 2, kvI 3, none], []), ([], []), (141, [(-11, 3)]))
def kC493_2 : aC := (([kvB 0 7, kvB 0 7, kvB 0 7, kvB 0 11, (.negSucc 0, .ofNat 7), kvB 1 12], [(102, 8, .inl (5, .ofNat 0))], 195, [kvR 102, kvI 0, kvI 1, kvI 2, kvN 67, kvN 2, kvI 3, kvI 4], []), ([], []), (139, [(-11, 3), (-1, 4)]))
def kC493_3 : aC := (([kvB 0 7, kvB 0 7, kvB 0 7, (.negSucc 0, .ofNat 2147483647)], [(102, 29, .inl (3, .ofNat 0))], 91, [kvR 102, kvI 0, kvI 1, kvI 2, kvN 67, kvN 2, kvN 1, kvN 2], []), ([], []), (166, []))
def kC493_4 : aC := (([kvB 0 7, kvB 0 7, kvB 0 7, kvB 0 2, (.negSucc 0, .ofNat 99)], [(102, 29, .inl (4, .ofNat 0)), (102, 30, .inr (.ofNat 2))], 110, [kvR 102, kvI 0, kvI 1, kvI 2, kvN 67, kvN 2, kvN 1, kvI 3], []), ([], []), (2, [(-1, 3)]))
theorem ks493 : aseg kS krf kB [kE43, kE89, kE365, kE461, kE477, kE485, kE489] (ksp [(192, 200, 7, 0, 7, 0)]) kE493 [kC493_0, kC493_1, kC493_2, kC493_3, kC493_4] 30000 (none) = true := by decide +kernel
theorem ks493_0 : aseg kS krf kB [kE43, kE89, kE365, kE461, kE477, kE485, kE489] (ksp [(192, 200, 7, 0, 7, 0)]) kE493 [kC493_0, kC493_1, kC493_2, kC493_3, kC493_4] 30000 (some kC493_0) = true := by decide +kernel
theorem ks493_1 : aseg kS krf kB [kE43, kE89, kE365, kE461, kE477, kE485, kE489] (ksp [(192, 200, 7, 0, 7, 0)]) kE493 [kC493_0, kC493_1, kC493_2, kC493_3, kC493_4] 30000 (some kC493_1) = true := by decide +kernel
theorem ks493_2 : aseg kS krf kB [kE43, kE89, kE365, kE461, kE477, kE485, kE489] (ksp [(192, 200, 7, 0, 7, 0)]) kE493 [kC493_0, kC493_1, kC493_2, kC493_3, kC493_4] 30000 (some kC493_2) = true := by decide +kernel
theorem ks493_3 : aseg kS krf kB [kE43, kE89, kE365, kE461, kE477, kE485, kE489] (ksp [(192, 200, 7, 0, 7, 0)]) kE493 [kC493_0, kC493_1, kC493_2, kC493_3, kC493_4] 30000 (some kC493_3) = true := by decide +kernel
theorem ks493_4 : aseg kS krf kB [kE43, kE89, kE365, kE461, kE477, kE485, kE489] (ksp [(192, 200, 7, 0, 7, 0)]) kE493 [kC493_0, kC493_1, kC493_2, kC493_3, kC493_4] 30000 (some kC493_4) = true := by decide +kernel
theorem kok493 : aOK kS krf kB kE493 := aOK_of (kal1 kok43 (kal1 kok89 (kal1 kok365 (kal1 kok461 (kal1 kok477 (kal1 kok485 (kal1 kok489 kal0))))))) (kcl1 ks493_0 (kcl1 ks493_1 (kcl1 ks493_2 (kcl1 ks493_3 (kcl1 ks493_4 kcl0))))) ks493
/-- ColdShodModel.triesWay(IIIII)V -/
def kE494 : aE := (192, 52, ([kvB 0 7, kvB 0 7, kvB 0 7], [], 0, [kvR 102, kvI 0, kvI 1, kvI 2, kvN 66, kvN 1, none, none], []), ([], none), ([], [], none, ([], [])), kvW67)
def kC494_0 : aC := (([kvB 0 7, kvB 0 7, kvB 0 7, kvB 0 1, kvB 0 1], [], 16, [kvR 102, kvI 0, kvI 1, kvI 2, kvN 66, kvN 1, kvI 3, kvI 4], []), ([], []), (333, [(-1, 4)]))
def kC494_1 : aC := (([kvB 0 7, kvB 0 7, kvB 0 7, kvB 0 12], [], 141, [kvR 102, kvI 0, kvI 1, kvI 2, kvN 66, kvN 1, kvI 3, none], []), ([], []), (141, [(-11, 3)]))
def kC494_2 : aC := (([kvB 0 7, kvB 0 7, kvB 0 7, kvB 0 11, (.negSucc 0, .ofNat 7), kvB 1 12], [(102, 8, .inl (5, .ofNat 0))], 195, [kvR 102, kvI 0, kvI 1, kvI 2, kvN 66, kvN 1, kvI 3, kvI 4], []), ([], []), (139, [(-11, 3), (-1, 4)]))
def kC494_3 : aC := (([kvB 0 7, kvB 0 7, kvB 0 7, (.negSucc 0, .ofNat 2147483647)], [(102, 29, .inl (3, .ofNat 0))], 91, [kvR 102, kvI 0, kvI 1, kvI 2, kvN 66, kvN 1, kvN 1, kvN 1], []), ([], []), (166, []))
def kC494_4 : aC := (([kvB 0 7, kvB 0 7, kvB 0 7, kvB 0 1, (.negSucc 0, .ofNat 99)], [(102, 29, .inl (4, .ofNat 0)), (102, 30, .inr (.ofNat 1))], 110, [kvR 102, kvI 0, kvI 1, kvI 2, kvN 66, kvN 1, kvN 1, kvI 3], []), ([], []), (1, [(-1, 3)]))
theorem ks494 : aseg kS krf kB [kE43, kE89, kE366, kE462, kE478, kE486, kE490, kE493] (ksp [(192, 200, 7, 0, 7, 0)]) kE494 [kC494_0, kC494_1, kC494_2, kC494_3, kC494_4] 30000 (none) = true := by decide +kernel
theorem ks494_0 : aseg kS krf kB [kE43, kE89, kE366, kE462, kE478, kE486, kE490, kE493] (ksp [(192, 200, 7, 0, 7, 0)]) kE494 [kC494_0, kC494_1, kC494_2, kC494_3, kC494_4] 30000 (some kC494_0) = true := by decide +kernel
theorem ks494_1 : aseg kS krf kB [kE43, kE89, kE366, kE462, kE478, kE486, kE490, kE493] (ksp [(192, 200, 7, 0, 7, 0)]) kE494 [kC494_0, kC494_1, kC494_2, kC494_3, kC494_4] 30000 (some kC494_1) = true := by decide +kernel
theorem ks494_2 : aseg kS krf kB [kE43, kE89, kE366, kE462, kE478, kE486, kE490, kE493] (ksp [(192, 200, 7, 0, 7, 0)]) kE494 [kC494_0, kC494_1, kC494_2, kC494_3, kC494_4] 30000 (some kC494_2) = true := by decide +kernel
theorem ks494_3 : aseg kS krf kB [kE43, kE89, kE366, kE462, kE478, kE486, kE490, kE493] (ksp [(192, 200, 7, 0, 7, 0)]) kE494 [kC494_0, kC494_1, kC494_2, kC494_3, kC494_4] 30000 (some kC494_3) = true := by decide +kernel
theorem ks494_4 : aseg kS krf kB [kE43, kE89, kE366, kE462, kE478, kE486, kE490, kE493] (ksp [(192, 200, 7, 0, 7, 0)]) kE494 [kC494_0, kC494_1, kC494_2, kC494_3, kC494_4] 30000 (some kC494_4) = true := by decide +kernel
theorem kok494 : aOK kS krf kB kE494 := aOK_of (kal1 kok43 (kal1 kok89 (kal1 kok366 (kal1 kok462 (kal1 kok478 (kal1 kok486 (kal1 kok490 (kal1 kok493 kal0)))))))) (kcl1 ks494_0 (kcl1 ks494_1 (kcl1 ks494_2 (kcl1 ks494_3 (kcl1 ks494_4 kcl0))))) ks494
/-- ColdShodModel.triesWay(IIIII)V -/
def kE495 : aE := (192, 52, ([kvB 0 7, kvB 0 7, kvB 0 7], [], 0, [kvR 102, kvI 0, kvI 1, kvI 2, kvN 65, kvN 1, none, none], []), ([], none), ([], [], none, ([], [])), kvW67)
def kC495_0 : aC := (([kvB 0 7, kvB 0 7, kvB 0 7, kvB 0 1, kvB 0 1], [], 16, [kvR 102, kvI 0, kvI 1, kvI 2, kvN 65, kvN 1, kvI 3, kvI 4], []), ([], []), (333, [(-1, 4)]))
def kC495_1 : aC := (([kvB 0 7, kvB 0 7, kvB 0 7, kvB 0 12], [], 141, [kvR 102, kvI 0, kvI 1, kvI 2, kvN 65, kvN 1, kvI 3, none], []), ([], []), (141, [(-11, 3)]))
def kC495_2 : aC := (([kvB 0 7, kvB 0 7, kvB 0 7, kvB 0 11, (.negSucc 0, .ofNat 7), kvB 1 12], [(102, 8, .inl (5, .ofNat 0))], 195, [kvR 102, kvI 0, kvI 1, kvI 2, kvN 65, kvN 1, kvI 3, kvI 4], []), ([], []), (139, [(-11, 3), (-1, 4)]))
def kC495_3 : aC := (([kvB 0 7, kvB 0 7, kvB 0 7, (.negSucc 0, .ofNat 2147483647)], [(102, 29, .inl (3, .ofNat 0))], 91, [kvR 102, kvI 0, kvI 1, kvI 2, kvN 65, kvN 1, kvN 1, kvN 1], []), ([], []), (166, []))
def kC495_4 : aC := (([kvB 0 7, kvB 0 7, kvB 0 7, kvB 0 1, (.negSucc 0, .ofNat 99)], [(102, 29, .inl (4, .ofNat 0)), (102, 30, .inr (.ofNat 1))], 110, [kvR 102, kvI 0, kvI 1, kvI 2, kvN 65, kvN 1, kvN 1, kvI 3], []), ([], []), (1, [(-1, 3)]))
theorem ks495 : aseg kS krf kB [kE43, kE89, kE367, kE463, kE479, kE487, kE491, kE493] (ksp [(192, 200, 7, 0, 7, 0)]) kE495 [kC495_0, kC495_1, kC495_2, kC495_3, kC495_4] 30000 (none) = true := by decide +kernel
theorem ks495_0 : aseg kS krf kB [kE43, kE89, kE367, kE463, kE479, kE487, kE491, kE493] (ksp [(192, 200, 7, 0, 7, 0)]) kE495 [kC495_0, kC495_1, kC495_2, kC495_3, kC495_4] 30000 (some kC495_0) = true := by decide +kernel
theorem ks495_1 : aseg kS krf kB [kE43, kE89, kE367, kE463, kE479, kE487, kE491, kE493] (ksp [(192, 200, 7, 0, 7, 0)]) kE495 [kC495_0, kC495_1, kC495_2, kC495_3, kC495_4] 30000 (some kC495_1) = true := by decide +kernel
theorem ks495_2 : aseg kS krf kB [kE43, kE89, kE367, kE463, kE479, kE487, kE491, kE493] (ksp [(192, 200, 7, 0, 7, 0)]) kE495 [kC495_0, kC495_1, kC495_2, kC495_3, kC495_4] 30000 (some kC495_2) = true := by decide +kernel
theorem ks495_3 : aseg kS krf kB [kE43, kE89, kE367, kE463, kE479, kE487, kE491, kE493] (ksp [(192, 200, 7, 0, 7, 0)]) kE495 [kC495_0, kC495_1, kC495_2, kC495_3, kC495_4] 30000 (some kC495_3) = true := by decide +kernel
theorem ks495_4 : aseg kS krf kB [kE43, kE89, kE367, kE463, kE479, kE487, kE491, kE493] (ksp [(192, 200, 7, 0, 7, 0)]) kE495 [kC495_0, kC495_1, kC495_2, kC495_3, kC495_4] 30000 (some kC495_4) = true := by decide +kernel
theorem kok495 : aOK kS krf kB kE495 := aOK_of (kal1 kok43 (kal1 kok89 (kal1 kok367 (kal1 kok463 (kal1 kok479 (kal1 kok487 (kal1 kok491 (kal1 kok493 kal0)))))))) (kcl1 ks495_0 (kcl1 ks495_1 (kcl1 ks495_2 (kcl1 ks495_3 (kcl1 ks495_4 kcl0))))) ks495
/-- ColdShodModel.triesWay(IIIII)V -/
def kE496 : aE := (192, 53, ([kvB 0 7, kvB 0 7, kvB 0 7], [], 0, [kvR 102, kvI 0, kvI 1, kvI 2, kvN 64, kvN 0, none, none], []), ([], none), ([], [], none, ([], [])), kvW68)
def kC496_0 : aC := (([kvB 0 7, kvB 0 7, kvB 0 7], [], 16, [kvR 102, kvI 0, kvI 1, kvI 2, kvN 64, kvN 0, kvN 1, kvN 0], []), ([], []), (332, []))
def kC496_1 : aC := (([kvB 0 7, kvB 0 7, kvB 0 7, kvB 0 12], [], 141, [kvR 102, kvI 0, kvI 1, kvI 2, kvN 64, kvN 0, kvI 3, none], []), ([], []), (141, [(-11, 3)]))
def kC496_2 : aC := (([kvB 0 7, kvB 0 7, kvB 0 7, (.negSucc 0, .ofNat 2147483647)], [(102, 29, .inl (3, .ofNat 0))], 91, [kvR 102, kvI 0, kvI 1, kvI 2, kvN 64, kvN 0, kvN 1, kvN 0], []), ([], []), (166, []))
def kC496_3 : aC := (([kvB 0 7, kvB 0 7, kvB 0 7, kvB 0 11, (.negSucc 0, .ofNat 7), kvB 1 12], [(102, 8, .inl (5, .ofNat 0))], 195, [kvR 102, kvI 0, kvI 1, kvI 2, kvN 64, kvN 0, kvI 3, kvI 4], []), ([], []), (139, [(-11, 3), (-1, 4)]))
def kC496_4 : aC := (([kvB 0 7, kvB 0 7, kvB 0 7, (.negSucc 0, .ofNat 99)], [(102, 29, .inl (3, .ofNat 0)), (102, 30, .inr (.ofNat 0))], 110, [kvR 102, kvI 0, kvI 1, kvI 2, kvN 64, kvN 0, kvN 1, kvN 0], []), ([], []), (0, []))
theorem ks496 : aseg kS krf kB [kE43, kE368, kE464, kE480, kE488, kE492, kE494, kE495] (ksp [(192, 200, 7, 0, 7, 0)]) kE496 [kC496_0, kC496_1, kC496_2, kC496_3, kC496_4] 30000 (none) = true := by decide +kernel
theorem ks496_0 : aseg kS krf kB [kE43, kE368, kE464, kE480, kE488, kE492, kE494, kE495] (ksp [(192, 200, 7, 0, 7, 0)]) kE496 [kC496_0, kC496_1, kC496_2, kC496_3, kC496_4] 30000 (some kC496_0) = true := by decide +kernel
theorem ks496_1 : aseg kS krf kB [kE43, kE368, kE464, kE480, kE488, kE492, kE494, kE495] (ksp [(192, 200, 7, 0, 7, 0)]) kE496 [kC496_0, kC496_1, kC496_2, kC496_3, kC496_4] 30000 (some kC496_1) = true := by decide +kernel
theorem ks496_2 : aseg kS krf kB [kE43, kE368, kE464, kE480, kE488, kE492, kE494, kE495] (ksp [(192, 200, 7, 0, 7, 0)]) kE496 [kC496_0, kC496_1, kC496_2, kC496_3, kC496_4] 30000 (some kC496_2) = true := by decide +kernel
theorem ks496_3 : aseg kS krf kB [kE43, kE368, kE464, kE480, kE488, kE492, kE494, kE495] (ksp [(192, 200, 7, 0, 7, 0)]) kE496 [kC496_0, kC496_1, kC496_2, kC496_3, kC496_4] 30000 (some kC496_3) = true := by decide +kernel
theorem ks496_4 : aseg kS krf kB [kE43, kE368, kE464, kE480, kE488, kE492, kE494, kE495] (ksp [(192, 200, 7, 0, 7, 0)]) kE496 [kC496_0, kC496_1, kC496_2, kC496_3, kC496_4] 30000 (some kC496_4) = true := by decide +kernel
theorem kok496 : aOK kS krf kB kE496 := aOK_of (kal1 kok43 (kal1 kok368 (kal1 kok464 (kal1 kok480 (kal1 kok488 (kal1 kok492 (kal1 kok494 (kal1 kok495 kal0)))))))) (kcl1 ks496_0 (kcl1 ks496_1 (kcl1 ks496_2 (kcl1 ks496_3 (kcl1 ks496_4 kcl0))))) ks496
/-- ColdShodModel.triesWay(IIIII)V -/
def kE497 : aE := (192, 48, ([kvB 0 7, kvB 0 7, kvB 0 7], [], 0, [kvR 102, kvI 0, kvI 1, kvI 2, kvN 63, kvN 5, none, none], []), ([], none), ([], [], none, ([], [])), kvW63)
def kC497_0 : aC := (([kvB 0 7, kvB 0 7, kvB 0 7, kvB 0 1, kvB 0 5], [], 16, [kvR 102, kvI 0, kvI 1, kvI 2, kvN 63, kvN 5, kvI 3, kvI 4], []), ([], []), (337, [(-1, 4)]))
def kC497_1 : aC := (([kvB 0 7, kvB 0 7, kvB 0 7, kvB 0 12], [], 141, [kvR 102, kvI 0, kvI 1, kvI 2, kvN 63, kvN 5, kvI 3, none], []), ([], []), (141, [(-11, 3)]))
def kC497_2 : aC := (([kvB 0 7, kvB 0 7, kvB 0 7, kvB 0 11, (.negSucc 0, .ofNat 7), kvB 1 12], [(102, 8, .inl (5, .ofNat 0))], 195, [kvR 102, kvI 0, kvI 1, kvI 2, kvN 63, kvN 5, kvI 3, kvI 4], []), ([], []), (139, [(-11, 3), (-1, 4)]))
def kC497_3 : aC := (([kvB 0 7, kvB 0 7, kvB 0 7, (.negSucc 0, .ofNat 2147483647)], [(102, 29, .inl (3, .ofNat 0))], 91, [kvR 102, kvI 0, kvI 1, kvI 2, kvN 63, kvN 5, kvN 1, kvN 5], []), ([], []), (166, []))
def kC497_4 : aC := (([kvB 0 7, kvB 0 7, kvB 0 7, kvB 0 5, (.negSucc 0, .ofNat 99)], [(102, 29, .inl (4, .ofNat 0)), (102, 30, .inr (.ofNat 5))], 110, [kvR 102, kvI 0, kvI 1, kvI 2, kvN 63, kvN 5, kvN 1, kvI 3], []), ([], []), (5, [(-1, 3)]))
theorem ks497 : aseg kS krf kB [kE43, kE89, kE369, kE433] (ksp [(192, 200, 7, 0, 7, 0)]) kE497 [kC497_0, kC497_1, kC497_2, kC497_3, kC497_4] 30000 (none) = true := by decide +kernel
theorem ks497_0 : aseg kS krf kB [kE43, kE89, kE369, kE433] (ksp [(192, 200, 7, 0, 7, 0)]) kE497 [kC497_0, kC497_1, kC497_2, kC497_3, kC497_4] 30000 (some kC497_0) = true := by decide +kernel
theorem ks497_1 : aseg kS krf kB [kE43, kE89, kE369, kE433] (ksp [(192, 200, 7, 0, 7, 0)]) kE497 [kC497_0, kC497_1, kC497_2, kC497_3, kC497_4] 30000 (some kC497_1) = true := by decide +kernel
theorem ks497_2 : aseg kS krf kB [kE43, kE89, kE369, kE433] (ksp [(192, 200, 7, 0, 7, 0)]) kE497 [kC497_0, kC497_1, kC497_2, kC497_3, kC497_4] 30000 (some kC497_2) = true := by decide +kernel
theorem ks497_3 : aseg kS krf kB [kE43, kE89, kE369, kE433] (ksp [(192, 200, 7, 0, 7, 0)]) kE497 [kC497_0, kC497_1, kC497_2, kC497_3, kC497_4] 30000 (some kC497_3) = true := by decide +kernel
theorem ks497_4 : aseg kS krf kB [kE43, kE89, kE369, kE433] (ksp [(192, 200, 7, 0, 7, 0)]) kE497 [kC497_0, kC497_1, kC497_2, kC497_3, kC497_4] 30000 (some kC497_4) = true := by decide +kernel
theorem kok497 : aOK kS krf kB kE497 := aOK_of (kal1 kok43 (kal1 kok89 (kal1 kok369 (kal1 kok433 kal0)))) (kcl1 ks497_0 (kcl1 ks497_1 (kcl1 ks497_2 (kcl1 ks497_3 (kcl1 ks497_4 kcl0))))) ks497
/-- ColdShodModel.triesWay(IIIII)V -/
def kE498 : aE := (192, 49, ([kvB 0 7, kvB 0 7, kvB 0 7], [], 0, [kvR 102, kvI 0, kvI 1, kvI 2, kvN 62, kvN 4, none, none], []), ([], none), ([], [], none, ([], [])), kvW64)
def kC498_0 : aC := (([kvB 0 7, kvB 0 7, kvB 0 7, kvB 0 1, kvB 0 4], [], 16, [kvR 102, kvI 0, kvI 1, kvI 2, kvN 62, kvN 4, kvI 3, kvI 4], []), ([], []), (336, [(-1, 4)]))
def kC498_1 : aC := (([kvB 0 7, kvB 0 7, kvB 0 7, kvB 0 12], [], 141, [kvR 102, kvI 0, kvI 1, kvI 2, kvN 62, kvN 4, kvI 3, none], []), ([], []), (141, [(-11, 3)]))
def kC498_2 : aC := (([kvB 0 7, kvB 0 7, kvB 0 7, kvB 0 11, (.negSucc 0, .ofNat 7), kvB 1 12], [(102, 8, .inl (5, .ofNat 0))], 195, [kvR 102, kvI 0, kvI 1, kvI 2, kvN 62, kvN 4, kvI 3, kvI 4], []), ([], []), (139, [(-11, 3), (-1, 4)]))
def kC498_3 : aC := (([kvB 0 7, kvB 0 7, kvB 0 7, (.negSucc 0, .ofNat 2147483647)], [(102, 29, .inl (3, .ofNat 0))], 91, [kvR 102, kvI 0, kvI 1, kvI 2, kvN 62, kvN 4, kvN 1, kvN 4], []), ([], []), (166, []))
def kC498_4 : aC := (([kvB 0 7, kvB 0 7, kvB 0 7, kvB 0 4, (.negSucc 0, .ofNat 99)], [(102, 29, .inl (4, .ofNat 0)), (102, 30, .inr (.ofNat 4))], 110, [kvR 102, kvI 0, kvI 1, kvI 2, kvN 62, kvN 4, kvN 1, kvI 3], []), ([], []), (4, [(-1, 3)]))
theorem ks498 : aseg kS krf kB [kE43, kE89, kE370, kE434, kE497] (ksp [(192, 200, 7, 0, 7, 0)]) kE498 [kC498_0, kC498_1, kC498_2, kC498_3, kC498_4] 30000 (none) = true := by decide +kernel
theorem ks498_0 : aseg kS krf kB [kE43, kE89, kE370, kE434, kE497] (ksp [(192, 200, 7, 0, 7, 0)]) kE498 [kC498_0, kC498_1, kC498_2, kC498_3, kC498_4] 30000 (some kC498_0) = true := by decide +kernel
theorem ks498_1 : aseg kS krf kB [kE43, kE89, kE370, kE434, kE497] (ksp [(192, 200, 7, 0, 7, 0)]) kE498 [kC498_0, kC498_1, kC498_2, kC498_3, kC498_4] 30000 (some kC498_1) = true := by decide +kernel
theorem ks498_2 : aseg kS krf kB [kE43, kE89, kE370, kE434, kE497] (ksp [(192, 200, 7, 0, 7, 0)]) kE498 [kC498_0, kC498_1, kC498_2, kC498_3, kC498_4] 30000 (some kC498_2) = true := by decide +kernel
theorem ks498_3 : aseg kS krf kB [kE43, kE89, kE370, kE434, kE497] (ksp [(192, 200, 7, 0, 7, 0)]) kE498 [kC498_0, kC498_1, kC498_2, kC498_3, kC498_4] 30000 (some kC498_3) = true := by decide +kernel
theorem ks498_4 : aseg kS krf kB [kE43, kE89, kE370, kE434, kE497] (ksp [(192, 200, 7, 0, 7, 0)]) kE498 [kC498_0, kC498_1, kC498_2, kC498_3, kC498_4] 30000 (some kC498_4) = true := by decide +kernel
theorem kok498 : aOK kS krf kB kE498 := aOK_of (kal1 kok43 (kal1 kok89 (kal1 kok370 (kal1 kok434 (kal1 kok497 kal0))))) (kcl1 ks498_0 (kcl1 ks498_1 (kcl1 ks498_2 (kcl1 ks498_3 (kcl1 ks498_4 kcl0))))) ks498
/-- ColdShodModel.triesWay(IIIII)V -/
def kE499 : aE := (192, 49, ([kvB 0 7, kvB 0 7, kvB 0 7], [], 0, [kvR 102, kvI 0, kvI 1, kvI 2, kvN 61, kvN 4, none, none], []), ([], none), ([], [], none, ([], [])), kvW64)
def kC499_0 : aC := (([kvB 0 7, kvB 0 7, kvB 0 7, kvB 0 1, kvB 0 4], [], 16, [kvR 102, kvI 0, kvI 1, kvI 2, kvN 61, kvN 4, kvI 3, kvI 4], []), ([], []), (336, [(-1, 4)]))
def kC499_1 : aC := (([kvB 0 7, kvB 0 7, kvB 0 7, kvB 0 12], [], 141, [kvR 102, kvI 0, kvI 1, kvI 2, kvN 61, kvN 4, kvI 3, none], []), ([], []), (141, [(-11, 3)]))
def kC499_2 : aC := (([kvB 0 7, kvB 0 7, kvB 0 7, kvB 0 11, (.negSucc 0, .ofNat 7), kvB 1 12], [(102, 8, .inl (5, .ofNat 0))], 195, [kvR 102, kvI 0, kvI 1, kvI 2, kvN 61, kvN 4, kvI 3, kvI 4], []), ([], []), (139, [(-11, 3), (-1, 4)]))
def kC499_3 : aC := (([kvB 0 7, kvB 0 7, kvB 0 7, (.negSucc 0, .ofNat 2147483647)], [(102, 29, .inl (3, .ofNat 0))], 91, [kvR 102, kvI 0, kvI 1, kvI 2, kvN 61, kvN 4, kvN 1, kvN 4], []), ([], []), (166, []))
def kC499_4 : aC := (([kvB 0 7, kvB 0 7, kvB 0 7, kvB 0 4, (.negSucc 0, .ofNat 99)], [(102, 29, .inl (4, .ofNat 0)), (102, 30, .inr (.ofNat 4))], 110, [kvR 102, kvI 0, kvI 1, kvI 2, kvN 61, kvN 4, kvN 1, kvI 3], []), ([], []), (4, [(-1, 3)]))
theorem ks499 : aseg kS krf kB [kE43, kE89, kE371, kE435, kE497] (ksp [(192, 200, 7, 0, 7, 0)]) kE499 [kC499_0, kC499_1, kC499_2, kC499_3, kC499_4] 30000 (none) = true := by decide +kernel
theorem ks499_0 : aseg kS krf kB [kE43, kE89, kE371, kE435, kE497] (ksp [(192, 200, 7, 0, 7, 0)]) kE499 [kC499_0, kC499_1, kC499_2, kC499_3, kC499_4] 30000 (some kC499_0) = true := by decide +kernel
theorem ks499_1 : aseg kS krf kB [kE43, kE89, kE371, kE435, kE497] (ksp [(192, 200, 7, 0, 7, 0)]) kE499 [kC499_0, kC499_1, kC499_2, kC499_3, kC499_4] 30000 (some kC499_1) = true := by decide +kernel
theorem ks499_2 : aseg kS krf kB [kE43, kE89, kE371, kE435, kE497] (ksp [(192, 200, 7, 0, 7, 0)]) kE499 [kC499_0, kC499_1, kC499_2, kC499_3, kC499_4] 30000 (some kC499_2) = true := by decide +kernel
theorem ks499_3 : aseg kS krf kB [kE43, kE89, kE371, kE435, kE497] (ksp [(192, 200, 7, 0, 7, 0)]) kE499 [kC499_0, kC499_1, kC499_2, kC499_3, kC499_4] 30000 (some kC499_3) = true := by decide +kernel
theorem ks499_4 : aseg kS krf kB [kE43, kE89, kE371, kE435, kE497] (ksp [(192, 200, 7, 0, 7, 0)]) kE499 [kC499_0, kC499_1, kC499_2, kC499_3, kC499_4] 30000 (some kC499_4) = true := by decide +kernel
theorem kok499 : aOK kS krf kB kE499 := aOK_of (kal1 kok43 (kal1 kok89 (kal1 kok371 (kal1 kok435 (kal1 kok497 kal0))))) (kcl1 ks499_0 (kcl1 ks499_1 (kcl1 ks499_2 (kcl1 ks499_3 (kcl1 ks499_4 kcl0))))) ks499
/-- ColdShodModel.triesWay(IIIII)V -/
def kE500 : aE := (192, 50, ([kvB 0 7, kvB 0 7, kvB 0 7], [], 0, [kvR 102, kvI 0, kvI 1, kvI 2, kvN 60, kvN 3, none, none], []), ([], none), ([], [], none, ([], [])), kvW65)
def kC500_0 : aC := (([kvB 0 7, kvB 0 7, kvB 0 7, kvB 0 1, kvB 0 3], [], 16, [kvR 102, kvI 0, kvI 1, kvI 2, kvN 60, kvN 3, kvI 3, kvI 4], []), ([], []), (335, [(-1, 4)]))
def kC500_1 : aC := (([kvB 0 7, kvB 0 7, kvB 0 7, kvB 0 12], [], 141, [kvR 102, kvI 0, kvI 1, kvI 2, kvN 60, kvN 3, kvI 3, none], []), ([], []), (141, [(-11, 3)]))
def kC500_2 : aC := (([kvB 0 7, kvB 0 7, kvB 0 7, kvB 0 11, (.negSucc 0, .ofNat 7), kvB 1 12], [(102, 8, .inl (5, .ofNat 0))], 195, [kvR 102, kvI 0, kvI 1, kvI 2, kvN 60, kvN 3, kvI 3, kvI 4], []), ([], []), (139, [(-11, 3), (-1, 4)]))
def kC500_3 : aC := (([kvB 0 7, kvB 0 7, kvB 0 7, (.negSucc 0, .ofNat 2147483647)], [(102, 29, .inl (3, .ofNat 0))], 91, [kvR 102, kvI 0, kvI 1, kvI 2, kvN 60, kvN 3, kvN 1, kvN 3], []), ([], []), (166, []))
def kC500_4 : aC := (([kvB 0 7, kvB 0 7, kvB 0 7, kvB 0 3, (.negSucc 0, .ofNat 99)], [(102, 29, .inl (4, .ofNat 0)), (102, 30, .inr (.ofNat 3))], 110, [kvR 102, kvI 0, kvI 1, kvI 2, kvN 60, kvN 3, kvN 1, kvI 3], []), ([], []), (3, [(-1, 3)]))
theorem ks500 : aseg kS krf kB [kE43, kE89, kE372, kE436, kE498, kE499] (ksp [(192, 200, 7, 0, 7, 0)]) kE500 [kC500_0, kC500_1, kC500_2, kC500_3, kC500_4] 30000 (none) = true := by decide +kernel
theorem ks500_0 : aseg kS krf kB [kE43, kE89, kE372, kE436, kE498, kE499] (ksp [(192, 200, 7, 0, 7, 0)]) kE500 [kC500_0, kC500_1, kC500_2, kC500_3, kC500_4] 30000 (some kC500_0) = true := by decide +kernel
theorem ks500_1 : aseg kS krf kB [kE43, kE89, kE372, kE436, kE498, kE499] (ksp [(192, 200, 7, 0, 7, 0)]) kE500 [kC500_0, kC500_1, kC500_2, kC500_3, kC500_4] 30000 (some kC500_1) = true := by decide +kernel
theorem ks500_2 : aseg kS krf kB [kE43, kE89, kE372, kE436, kE498, kE499] (ksp [(192, 200, 7, 0, 7, 0)]) kE500 [kC500_0, kC500_1, kC500_2, kC500_3, kC500_4] 30000 (some kC500_2) = true := by decide +kernel
theorem ks500_3 : aseg kS krf kB [kE43, kE89, kE372, kE436, kE498, kE499] (ksp [(192, 200, 7, 0, 7, 0)]) kE500 [kC500_0, kC500_1, kC500_2, kC500_3, kC500_4] 30000 (some kC500_3) = true := by decide +kernel
theorem ks500_4 : aseg kS krf kB [kE43, kE89, kE372, kE436, kE498, kE499] (ksp [(192, 200, 7, 0, 7, 0)]) kE500 [kC500_0, kC500_1, kC500_2, kC500_3, kC500_4] 30000 (some kC500_4) = true := by decide +kernel
theorem kok500 : aOK kS krf kB kE500 := aOK_of (kal1 kok43 (kal1 kok89 (kal1 kok372 (kal1 kok436 (kal1 kok498 (kal1 kok499 kal0)))))) (kcl1 ks500_0 (kcl1 ks500_1 (kcl1 ks500_2 (kcl1 ks500_3 (kcl1 ks500_4 kcl0))))) ks500
/-- ColdShodModel.triesWay(IIIII)V -/
def kE501 : aE := (192, 49, ([kvB 0 7, kvB 0 7, kvB 0 7], [], 0, [kvR 102, kvI 0, kvI 1, kvI 2, kvN 59, kvN 4, none, none], []), ([], none), ([], [], none, ([], [])), kvW64)
def kC501_0 : aC := (([kvB 0 7, kvB 0 7, kvB 0 7, kvB 0 1, kvB 0 4], [], 16, [kvR 102, kvI 0, kvI 1, kvI 2, kvN 59, kvN 4, kvI 3, kvI 4], []), ([], []), (336, [(-1, 4)]))
def kC501_1 : aC := (([kvB 0 7, kvB 0 7, kvB 0 7, kvB 0 12], [], 141, [kvR 102, kvI 0, kvI 1, kvI 2, kvN 59, kvN 4, kvI 3, none], []), ([], []), (141, [(-11, 3)]))
def kC501_2 : aC := (([kvB 0 7, kvB 0 7, kvB 0 7, kvB 0 11, (.negSucc 0, .ofNat 7), kvB 1 12], [(102, 8, .inl (5, .ofNat 0))], 195, [kvR 102, kvI 0, kvI 1, kvI 2, kvN 59, kvN 4, kvI 3, kvI 4], []), ([], []), (139, [(-11, 3), (-1, 4)]))
def kC501_3 : aC := (([kvB 0 7, kvB 0 7, kvB 0 7, (.negSucc 0, .ofNat 2147483647)], [(102, 29, .inl (3, .ofNat 0))], 91, [kvR 102, kvI 0, kvI 1, kvI 2, kvN 59, kvN 4, kvN 1, kvN 4], []), ([], []), (166, []))
def kC501_4 : aC := (([kvB 0 7, kvB 0 7, kvB 0 7, kvB 0 4, (.negSucc 0, .ofNat 99)], [(102, 29, .inl (4, .ofNat 0)), (102, 30, .inr (.ofNat 4))], 110, [kvR 102, kvI 0, kvI 1, kvI 2, kvN 59, kvN 4, kvN 1, kvI 3], []), ([], []), (4, [(-1, 3)]))
theorem ks501 : aseg kS krf kB [kE43, kE89, kE373, kE437, kE497] (ksp [(192, 200, 7, 0, 7, 0)]) kE501 [kC501_0, kC501_1, kC501_2, kC501_3, kC501_4] 30000 (none) = true := by decide +kernel
theorem ks501_0 : aseg kS krf kB [kE43, kE89, kE373, kE437, kE497] (ksp [(192, 200, 7, 0, 7, 0)]) kE501 [kC501_0, kC501_1, kC501_2, kC501_3, kC501_4] 30000 (some kC501_0) = true := by decide +kernel
theorem ks501_1 : aseg kS krf kB [kE43, kE89, kE373, kE437, kE497] (ksp [(192, 200, 7, 0, 7, 0)]) kE501 [kC501_0, kC501_1, kC501_2, kC501_3, kC501_4] 30000 (some kC501_1) = true := by decide +kernel
theorem ks501_2 : aseg kS krf kB [kE43, kE89, kE373, kE437, kE497] (ksp [(192, 200, 7, 0, 7, 0)]) kE501 [kC501_0, kC501_1, kC501_2, kC501_3, kC501_4] 30000 (some kC501_2) = true := by decide +kernel
theorem ks501_3 : aseg kS krf kB [kE43, kE89, kE373, kE437, kE497] (ksp [(192, 200, 7, 0, 7, 0)]) kE501 [kC501_0, kC501_1, kC501_2, kC501_3, kC501_4] 30000 (some kC501_3) = true := by decide +kernel
theorem ks501_4 : aseg kS krf kB [kE43, kE89, kE373, kE437, kE497] (ksp [(192, 200, 7, 0, 7, 0)]) kE501 [kC501_0, kC501_1, kC501_2, kC501_3, kC501_4] 30000 (some kC501_4) = true := by decide +kernel
theorem kok501 : aOK kS krf kB kE501 := aOK_of (kal1 kok43 (kal1 kok89 (kal1 kok373 (kal1 kok437 (kal1 kok497 kal0))))) (kcl1 ks501_0 (kcl1 ks501_1 (kcl1 ks501_2 (kcl1 ks501_3 (kcl1 ks501_4 kcl0))))) ks501
/-- ColdShodModel.triesWay(IIIII)V -/
def kE502 : aE := (192, 50, ([kvB 0 7, kvB 0 7, kvB 0 7], [], 0, [kvR 102, kvI 0, kvI 1, kvI 2, kvN 58, kvN 3, none, none], []), ([], none), ([], [], none, ([], [])), kvW65)
def kC502_0 : aC := (([kvB 0 7, kvB 0 7, kvB 0 7, kvB 0 1, kvB 0 3], [], 16, [kvR 102, kvI 0, kvI 1, kvI 2, kvN 58, kvN 3, kvI 3, kvI 4], []), ([], []), (335, [(-1, 4)]))
def kC502_1 : aC := (([kvB 0 7, kvB 0 7, kvB 0 7, kvB 0 12], [], 141, [kvR 102, kvI 0, kvI 1, kvI 2, kvN 58, kvN 3, kvI 3, none], []), ([], []), (141, [(-11, 3)]))
def kC502_2 : aC := (([kvB 0 7, kvB 0 7, kvB 0 7, kvB 0 11, (.negSucc 0, .ofNat 7), kvB 1 12], [(102, 8, .inl (5, .ofNat 0))], 195, [kvR 102, kvI 0, kvI 1, kvI 2, kvN 58, kvN 3, kvI 3, kvI 4], []), ([], []), (139, [(-11, 3), (-1, 4)]))
def kC502_3 : aC := (([kvB 0 7, kvB 0 7, kvB 0 7, (.negSucc 0, .ofNat 2147483647)], [(102, 29, .inl (3, .ofNat 0))], 91, [kvR 102, kvI 0, kvI 1, kvI 2, kvN 58, kvN 3, kvN 1, kvN 3], []), ([], []), (166, []))
def kC502_4 : aC := (([kvB 0 7, kvB 0 7, kvB 0 7, kvB 0 3, (.negSucc 0, .ofNat 99)], [(102, 29, .inl (4, .ofNat 0)), (102, 30, .inr (.ofNat 3))], 110, [kvR 102, kvI 0, kvI 1, kvI 2, kvN 58, kvN 3, kvN 1, kvI 3], []), ([], []), (3, [(-1, 3)]))
theorem ks502 : aseg kS krf kB [kE43, kE89, kE374, kE438, kE498, kE501] (ksp [(192, 200, 7, 0, 7, 0)]) kE502 [kC502_0, kC502_1, kC502_2, kC502_3, kC502_4] 30000 (none) = true := by decide +kernel
theorem ks502_0 : aseg kS krf kB [kE43, kE89, kE374, kE438, kE498, kE501] (ksp [(192, 200, 7, 0, 7, 0)]) kE502 [kC502_0, kC502_1, kC502_2, kC502_3, kC502_4] 30000 (some kC502_0) = true := by decide +kernel
theorem ks502_1 : aseg kS krf kB [kE43, kE89, kE374, kE438, kE498, kE501] (ksp [(192, 200, 7, 0, 7, 0)]) kE502 [kC502_0, kC502_1, kC502_2, kC502_3, kC502_4] 30000 (some kC502_1) = true := by decide +kernel
theorem ks502_2 : aseg kS krf kB [kE43, kE89, kE374, kE438, kE498, kE501] (ksp [(192, 200, 7, 0, 7, 0)]) kE502 [kC502_0, kC502_1, kC502_2, kC502_3, kC502_4] 30000 (some kC502_2) = true := by decide +kernel
theorem ks502_3 : aseg kS krf kB [kE43, kE89, kE374, kE438, kE498, kE501] (ksp [(192, 200, 7, 0, 7, 0)]) kE502 [kC502_0, kC502_1, kC502_2, kC502_3, kC502_4] 30000 (some kC502_3) = true := by decide +kernel
theorem ks502_4 : aseg kS krf kB [kE43, kE89, kE374, kE438, kE498, kE501] (ksp [(192, 200, 7, 0, 7, 0)]) kE502 [kC502_0, kC502_1, kC502_2, kC502_3, kC502_4] 30000 (some kC502_4) = true := by decide +kernel
theorem kok502 : aOK kS krf kB kE502 := aOK_of (kal1 kok43 (kal1 kok89 (kal1 kok374 (kal1 kok438 (kal1 kok498 (kal1 kok501 kal0)))))) (kcl1 ks502_0 (kcl1 ks502_1 (kcl1 ks502_2 (kcl1 ks502_3 (kcl1 ks502_4 kcl0))))) ks502
/-- ColdShodModel.triesWay(IIIII)V -/
def kE503 : aE := (192, 50, ([kvB 0 7, kvB 0 7, kvB 0 7], [], 0, [kvR 102, kvI 0, kvI 1, kvI 2, kvN 57, kvN 3, none, none], []), ([], none), ([], [], none, ([], [])), kvW65)
def kC503_0 : aC := (([kvB 0 7, kvB 0 7, kvB 0 7, kvB 0 1, kvB 0 3], [], 16, [kvR 102, kvI 0, kvI 1, kvI 2, kvN 57, kvN 3, kvI 3, kvI 4], []), ([], []), (335, [(-1, 4)]))
def kC503_1 : aC := (([kvB 0 7, kvB 0 7, kvB 0 7, kvB 0 12], [], 141, [kvR 102, kvI 0, kvI 1, kvI 2, kvN 57, kvN 3, kvI 3, none], []), ([], []), (141, [(-11, 3)]))
def kC503_2 : aC := (([kvB 0 7, kvB 0 7, kvB 0 7, kvB 0 11, (.negSucc 0, .ofNat 7), kvB 1 12], [(102, 8, .inl (5, .ofNat 0))], 195, [kvR 102, kvI 0, kvI 1, kvI 2, kvN 57, kvN 3, kvI 3, kvI 4], []), ([], []), (139, [(-11, 3), (-1, 4)]))
def kC503_3 : aC := (([kvB 0 7, kvB 0 7, kvB 0 7, (.negSucc 0, .ofNat 2147483647)], [(102, 29, .inl (3, .ofNat 0))], 91, [kvR 102, kvI 0, kvI 1, kvI 2, kvN 57, kvN 3, kvN 1, kvN 3], []), ([], []), (166, []))
def kC503_4 : aC := (([kvB 0 7, kvB 0 7, kvB 0 7, kvB 0 3, (.negSucc 0, .ofNat 99)], [(102, 29, .inl (4, .ofNat 0)), (102, 30, .inr (.ofNat 3))], 110, [kvR 102, kvI 0, kvI 1, kvI 2, kvN 57, kvN 3, kvN 1, kvI 3], []), ([], []), (3, [(-1, 3)]))
theorem ks503 : aseg kS krf kB [kE43, kE89, kE375, kE439, kE499, kE501] (ksp [(192, 200, 7, 0, 7, 0)]) kE503 [kC503_0, kC503_1, kC503_2, kC503_3, kC503_4] 30000 (none) = true := by decide +kernel
theorem ks503_0 : aseg kS krf kB [kE43, kE89, kE375, kE439, kE499, kE501] (ksp [(192, 200, 7, 0, 7, 0)]) kE503 [kC503_0, kC503_1, kC503_2, kC503_3, kC503_4] 30000 (some kC503_0) = true := by decide +kernel
theorem ks503_1 : aseg kS krf kB [kE43, kE89, kE375, kE439, kE499, kE501] (ksp [(192, 200, 7, 0, 7, 0)]) kE503 [kC503_0, kC503_1, kC503_2, kC503_3, kC503_4] 30000 (some kC503_1) = true := by decide +kernel
theorem ks503_2 : aseg kS krf kB [kE43, kE89, kE375, kE439, kE499, kE501] (ksp [(192, 200, 7, 0, 7, 0)]) kE503 [kC503_0, kC503_1, kC503_2, kC503_3, kC503_4] 30000 (some kC503_2) = true := by decide +kernel
theorem ks503_3 : aseg kS krf kB [kE43, kE89, kE375, kE439, kE499, kE501] (ksp [(192, 200, 7, 0, 7, 0)]) kE503 [kC503_0, kC503_1, kC503_2, kC503_3, kC503_4] 30000 (some kC503_3) = true := by decide +kernel
theorem ks503_4 : aseg kS krf kB [kE43, kE89, kE375, kE439, kE499, kE501] (ksp [(192, 200, 7, 0, 7, 0)]) kE503 [kC503_0, kC503_1, kC503_2, kC503_3, kC503_4] 30000 (some kC503_4) = true := by decide +kernel
theorem kok503 : aOK kS krf kB kE503 := aOK_of (kal1 kok43 (kal1 kok89 (kal1 kok375 (kal1 kok439 (kal1 kok499 (kal1 kok501 kal0)))))) (kcl1 ks503_0 (kcl1 ks503_1 (kcl1 ks503_2 (kcl1 ks503_3 (kcl1 ks503_4 kcl0))))) ks503
/-- ColdShodModel.triesWay(IIIII)V -/
def kE504 : aE := (192, 51, ([kvB 0 7, kvB 0 7, kvB 0 7], [], 0, [kvR 102, kvI 0, kvI 1, kvI 2, kvN 56, kvN 2, none, none], []), ([], none), ([], [], none, ([], [])), kvW66)
def kC504_0 : aC := (([kvB 0 7, kvB 0 7, kvB 0 7, kvB 0 1, kvB 0 2], [], 16, [kvR 102, kvI 0, kvI 1, kvI 2, kvN 56, kvN 2, kvI 3, kvI 4], []), ([], []), (334, [(-1, 4)]))
def kC504_1 : aC := (([kvB 0 7, kvB 0 7, kvB 0 7, kvB 0 12], [], 141, [kvR 102, kvI 0, kvI 1, kvI 2, kvN 56, kvN 2, kvI 3, none], []), ([], []), (141, [(-11, 3)]))
def kC504_2 : aC := (([kvB 0 7, kvB 0 7, kvB 0 7, kvB 0 11, (.negSucc 0, .ofNat 7), kvB 1 12], [(102, 8, .inl (5, .ofNat 0))], 195, [kvR 102, kvI 0, kvI 1, kvI 2, kvN 56, kvN 2, kvI 3, kvI 4], []), ([], []), (139, [(-11, 3), (-1, 4)]))
def kC504_3 : aC := (([kvB 0 7, kvB 0 7, kvB 0 7, (.negSucc 0, .ofNat 2147483647)], [(102, 29, .inl (3, .ofNat 0))], 91, [kvR 102, kvI 0, kvI 1, kvI 2, kvN 56, kvN 2, kvN 1, kvN 2], []), ([], []), (166, []))
def kC504_4 : aC := (([kvB 0 7, kvB 0 7, kvB 0 7, kvB 0 2, (.negSucc 0, .ofNat 99)], [(102, 29, .inl (4, .ofNat 0)), (102, 30, .inr (.ofNat 2))], 110, [kvR 102, kvI 0, kvI 1, kvI 2, kvN 56, kvN 2, kvN 1, kvI 3], []), ([], []), (2, [(-1, 3)]))
theorem ks504 : aseg kS krf kB [kE43, kE89, kE376, kE440, kE500, kE502, kE503] (ksp [(192, 200, 7, 0, 7, 0)]) kE504 [kC504_0, kC504_1, kC504_2, kC504_3, kC504_4] 30000 (none) = true := by decide +kernel
theorem ks504_0 : aseg kS krf kB [kE43, kE89, kE376, kE440, kE500, kE502, kE503] (ksp [(192, 200, 7, 0, 7, 0)]) kE504 [kC504_0, kC504_1, kC504_2, kC504_3, kC504_4] 30000 (some kC504_0) = true := by decide +kernel
theorem ks504_1 : aseg kS krf kB [kE43, kE89, kE376, kE440, kE500, kE502, kE503] (ksp [(192, 200, 7, 0, 7, 0)]) kE504 [kC504_0, kC504_1, kC504_2, kC504_3, kC504_4] 30000 (some kC504_1) = true := by decide +kernel
theorem ks504_2 : aseg kS krf kB [kE43, kE89, kE376, kE440, kE500, kE502, kE503] (ksp [(192, 200, 7, 0, 7, 0)]) kE504 [kC504_0, kC504_1, kC504_2, kC504_3, kC504_4] 30000 (some kC504_2) = true := by decide +kernel
theorem ks504_3 : aseg kS krf kB [kE43, kE89, kE376, kE440, kE500, kE502, kE503] (ksp [(192, 200, 7, 0, 7, 0)]) kE504 [kC504_0, kC504_1, kC504_2, kC504_3, kC504_4] 30000 (some kC504_3) = true := by decide +kernel
theorem ks504_4 : aseg kS krf kB [kE43, kE89, kE376, kE440, kE500, kE502, kE503] (ksp [(192, 200, 7, 0, 7, 0)]) kE504 [kC504_0, kC504_1, kC504_2, kC504_3, kC504_4] 30000 (some kC504_4) = true := by decide +kernel
theorem kok504 : aOK kS krf kB kE504 := aOK_of (kal1 kok43 (kal1 kok89 (kal1 kok376 (kal1 kok440 (kal1 kok500 (kal1 kok502 (kal1 kok503 kal0))))))) (kcl1 ks504_0 (kcl1 ks504_1 (kcl1 ks504_2 (kcl1 ks504_3 (kcl1 ks504_4 kcl0))))) ks504
/-- ColdShodModel.triesWay(IIIII)V -/
def kE505 : aE := (192, 49, ([kvB 0 7, kvB 0 7, kvB 0 7], [], 0, [kvR 102, kvI 0, kvI 1, kvI 2, kvN 55, kvN 4, none, none], []), ([], none), ([], [], none, ([], [])), kvW64)
def kC505_0 : aC := (([kvB 0 7, kvB 0 7, kvB 0 7, kvB 0 1, kvB 0 4], [], 16, [kvR 102, kvI 0, kvI 1, kvI 2, kvN 55, kvN 4, kvI 3, kvI 4], []), ([], []), (336, [(-1, 4)]))
def kC505_1 : aC := (([kvB 0 7, kvB 0 7, kvB 0 7, kvB 0 12], [], 141, [kvR 102, kvI 0, kvI 1, kvI 2, kvN 55, kvN 4, kvI 3, none], []), ([], []), (141, [(-11, 3)]))
def kC505_2 : aC := (([kvB 0 7, kvB 0 7, kvB 0 7, kvB 0 11, (.negSucc 0, .ofNat 7), kvB 1 12], [(102, 8, .inl (5, .ofNat 0))], 195, [kvR 102, kvI 0, kvI 1, kvI 2, kvN 55, kvN 4, kvI 3, kvI 4], []), ([], []), (139, [(-11, 3), (-1, 4)]))
def kC505_3 : aC := (([kvB 0 7, kvB 0 7, kvB 0 7, (.negSucc 0, .ofNat 2147483647)], [(102, 29, .inl (3, .ofNat 0))], 91, [kvR 102, kvI 0, kvI 1, kvI 2, kvN 55, kvN 4, kvN 1, kvN 4], []), ([], []), (166, []))
def kC505_4 : aC := (([kvB 0 7, kvB 0 7, kvB 0 7, kvB 0 4, (.negSucc 0, .ofNat 99)], [(102, 29, .inl (4, .ofNat 0)), (102, 30, .inr (.ofNat 4))], 110, [kvR 102, kvI 0, kvI 1, kvI 2, kvN 55, kvN 4, kvN 1, kvI 3], []), ([], []), (4, [(-1, 3)]))
theorem ks505 : aseg kS krf kB [kE43, kE89, kE377, kE441, kE497] (ksp [(192, 200, 7, 0, 7, 0)]) kE505 [kC505_0, kC505_1, kC505_2, kC505_3, kC505_4] 30000 (none) = true := by decide +kernel
theorem ks505_0 : aseg kS krf kB [kE43, kE89, kE377, kE441, kE497] (ksp [(192, 200, 7, 0, 7, 0)]) kE505 [kC505_0, kC505_1, kC505_2, kC505_3, kC505_4] 30000 (some kC505_0) = true := by decide +kernel
theorem ks505_1 : aseg kS krf kB [kE43, kE89, kE377, kE441, kE497] (ksp [(192, 200, 7, 0, 7, 0)]) kE505 [kC505_0, kC505_1, kC505_2, kC505_3, kC505_4] 30000 (some kC505_1) = true := by decide +kernel
theorem ks505_2 : aseg kS krf kB [kE43, kE89, kE377, kE441, kE497] (ksp [(192, 200, 7, 0, 7, 0)]) kE505 [kC505_0, kC505_1, kC505_2, kC505_3, kC505_4] 30000 (some kC505_2) = true := by decide +kernel
theorem ks505_3 : aseg kS krf kB [kE43, kE89, kE377, kE441, kE497] (ksp [(192, 200, 7, 0, 7, 0)]) kE505 [kC505_0, kC505_1, kC505_2, kC505_3, kC505_4] 30000 (some kC505_3) = true := by decide +kernel
theorem ks505_4 : aseg kS krf kB [kE43, kE89, kE377, kE441, kE497] (ksp [(192, 200, 7, 0, 7, 0)]) kE505 [kC505_0, kC505_1, kC505_2, kC505_3, kC505_4] 30000 (some kC505_4) = true := by decide +kernel
theorem kok505 : aOK kS krf kB kE505 := aOK_of (kal1 kok43 (kal1 kok89 (kal1 kok377 (kal1 kok441 (kal1 kok497 kal0))))) (kcl1 ks505_0 (kcl1 ks505_1 (kcl1 ks505_2 (kcl1 ks505_3 (kcl1 ks505_4 kcl0))))) ks505
/-- ColdShodModel.triesWay(IIIII)V -/
def kE506 : aE := (192, 50, ([kvB 0 7, kvB 0 7, kvB 0 7], [], 0, [kvR 102, kvI 0, kvI 1, kvI 2, kvN 54, kvN 3, none, none], []), ([], none), ([], [], none, ([], [])), kvW65)
def kC506_0 : aC := (([kvB 0 7, kvB 0 7, kvB 0 7, kvB 0 1, kvB 0 3], [], 16, [kvR 102, kvI 0, kvI 1, kvI 2, kvN 54, kvN 3, kvI 3, kvI 4], []), ([], []), (335, [(-1, 4)]))
def kC506_1 : aC := (([kvB 0 7, kvB 0 7, kvB 0 7, kvB 0 12], [], 141, [kvR 102, kvI 0, kvI 1, kvI 2, kvN 54, kvN 3, kvI 3, none], []), ([], []), (141, [(-11, 3)]))
def kC506_2 : aC := (([kvB 0 7, kvB 0 7, kvB 0 7, kvB 0 11, (.negSucc 0, .ofNat 7), kvB 1 12], [(102, 8, .inl (5, .ofNat 0))], 195, [kvR 102, kvI 0, kvI 1, kvI 2, kvN 54, kvN 3, kvI 3, kvI 4], []), ([], []), (139, [(-11, 3), (-1, 4)]))
def kC506_3 : aC := (([kvB 0 7, kvB 0 7, kvB 0 7, (.negSucc 0, .ofNat 2147483647)], [(102, 29, .inl (3, .ofNat 0))], 91, [kvR 102, kvI 0, kvI 1, kvI 2, kvN 54, kvN 3, kvN 1, kvN 3], []), ([], []), (166, []))
def kC506_4 : aC := (([kvB 0 7, kvB 0 7, kvB 0 7, kvB 0 3, (.negSucc 0, .ofNat 99)], [(102, 29, .inl (4, .ofNat 0)), (102, 30, .inr (.ofNat 3))], 110, [kvR 102, kvI 0, kvI 1, kvI 2, kvN 54, kvN 3, kvN 1, kvI 3], []), ([], []), (3, [(-1, 3)]))
theorem ks506 : aseg kS krf kB [kE43, kE89, kE378, kE442, kE498, kE505] (ksp [(192, 200, 7, 0, 7, 0)]) kE506 [kC506_0, kC506_1, kC506_2, kC506_3, kC506_4] 30000 (none) = true := by decide +kernel
theorem ks506_0 : aseg kS krf kB [kE43, kE89, kE378, kE442, kE498, kE505] (ksp [(192, 200, 7, 0, 7, 0)]) kE506 [kC506_0, kC506_1, kC506_2, kC506_3, kC506_4] 30000 (some kC506_0) = true := by decide +kernel
theorem ks506_1 : aseg kS krf kB [kE43, kE89, kE378, kE442, kE498, kE505] (ksp [(192, 200, 7, 0, 7, 0)]) kE506 [kC506_0, kC506_1, kC506_2, kC506_3, kC506_4] 30000 (some kC506_1) = true := by decide +kernel
theorem ks506_2 : aseg kS krf kB [kE43, kE89, kE378, kE442, kE498, kE505] (ksp [(192, 200, 7, 0, 7, 0)]) kE506 [kC506_0, kC506_1, kC506_2, kC506_3, kC506_4] 30000 (some kC506_2) = true := by decide +kernel
theorem ks506_3 : aseg kS krf kB [kE43, kE89, kE378, kE442, kE498, kE505] (ksp [(192, 200, 7, 0, 7, 0)]) kE506 [kC506_0, kC506_1, kC506_2, kC506_3, kC506_4] 30000 (some kC506_3) = true := by decide +kernel
theorem ks506_4 : aseg kS krf kB [kE43, kE89, kE378, kE442, kE498, kE505] (ksp [(192, 200, 7, 0, 7, 0)]) kE506 [kC506_0, kC506_1, kC506_2, kC506_3, kC506_4] 30000 (some kC506_4) = true := by decide +kernel
theorem kok506 : aOK kS krf kB kE506 := aOK_of (kal1 kok43 (kal1 kok89 (kal1 kok378 (kal1 kok442 (kal1 kok498 (kal1 kok505 kal0)))))) (kcl1 ks506_0 (kcl1 ks506_1 (kcl1 ks506_2 (kcl1 ks506_3 (kcl1 ks506_4 kcl0))))) ks506
/-- ColdShodModel.triesWay(IIIII)V -/
def kE507 : aE := (192, 50, ([kvB 0 7, kvB 0 7, kvB 0 7], [], 0, [kvR 102, kvI 0, kvI 1, kvI 2, kvN 53, kvN 3, none, none], []), ([], none), ([], [], none, ([], [])), kvW65)
def kC507_0 : aC := (([kvB 0 7, kvB 0 7, kvB 0 7, kvB 0 1, kvB 0 3], [], 16, [kvR 102, kvI 0, kvI 1, kvI 2, kvN 53, kvN 3, kvI 3, kvI 4], []), ([], []), (335, [(-1, 4)]))
def kC507_1 : aC := (([kvB 0 7, kvB 0 7, kvB 0 7, kvB 0 12], [], 141, [kvR 102, kvI 0, kvI 1, kvI 2, kvN 53, kvN 3, kvI 3, none], []), ([], []), (141, [(-11, 3)]))
def kC507_2 : aC := (([kvB 0 7, kvB 0 7, kvB 0 7, kvB 0 11, (.negSucc 0, .ofNat 7), kvB 1 12], [(102, 8, .inl (5, .ofNat 0))], 195, [kvR 102, kvI 0, kvI 1, kvI 2, kvN 53, kvN 3, kvI 3, kvI 4], []), ([], []), (139, [(-11, 3), (-1, 4)]))
def kC507_3 : aC := (([kvB 0 7, kvB 0 7, kvB 0 7, (.negSucc 0, .ofNat 2147483647)], [(102, 29, .inl (3, .ofNat 0))], 91, [kvR 102, kvI 0, kvI 1, kvI 2, kvN 53, kvN 3, kvN 1, kvN 3], []), ([], []), (166, []))
def kC507_4 : aC := (([kvB 0 7, kvB 0 7, kvB 0 7, kvB 0 3, (.negSucc 0, .ofNat 99)], [(102, 29, .inl (4, .ofNat 0)), (102, 30, .inr (.ofNat 3))], 110, [kvR 102, kvI 0, kvI 1, kvI 2, kvN 53, kvN 3, kvN 1, kvI 3], []), ([], []), (3, [(-1, 3)]))
theorem ks507 : aseg kS krf kB [kE43, kE89, kE379, kE443, kE499, kE505] (ksp [(192, 200, 7, 0, 7, 0)]) kE507 [kC507_0, kC507_1, kC507_2, kC507_3, kC507_4] 30000 (none) = true := by decide +kernel
theorem ks507_0 : aseg kS krf kB [kE43, kE89, kE379, kE443, kE499, kE505] (ksp [(192, 200, 7, 0, 7, 0)]) kE507 [kC507_0, kC507_1, kC507_2, kC507_3, kC507_4] 30000 (some kC507_0) = true := by decide +kernel
theorem ks507_1 : aseg kS krf kB [kE43, kE89, kE379, kE443, kE499, kE505] (ksp [(192, 200, 7, 0, 7, 0)]) kE507 [kC507_0, kC507_1, kC507_2, kC507_3, kC507_4] 30000 (some kC507_1) = true := by decide +kernel
theorem ks507_2 : aseg kS krf kB [kE43, kE89, kE379, kE443, kE499, kE505] (ksp [(192, 200, 7, 0, 7, 0)]) kE507 [kC507_0, kC507_1, kC507_2, kC507_3, kC507_4] 30000 (some kC507_2) = true := by decide +kernel
theorem ks507_3 : aseg kS krf kB [kE43, kE89, kE379, kE443, kE499, kE505] (ksp [(192, 200, 7, 0, 7, 0)]) kE507 [kC507_0, kC507_1, kC507_2, kC507_3, kC507_4] 30000 (some kC507_3) = true := by decide +kernel
theorem ks507_4 : aseg kS krf kB [kE43, kE89, kE379, kE443, kE499, kE505] (ksp [(192, 200, 7, 0, 7, 0)]) kE507 [kC507_0, kC507_1, kC507_2, kC507_3, kC507_4] 30000 (some kC507_4) = true := by decide +kernel
theorem kok507 : aOK kS krf kB kE507 := aOK_of (kal1 kok43 (kal1 kok89 (kal1 kok379 (kal1 kok443 (kal1 kok499 (kal1 kok505 kal0)))))) (kcl1 ks507_0 (kcl1 ks507_1 (kcl1 ks507_2 (kcl1 ks507_3 (kcl1 ks507_4 kcl0))))) ks507
/-- ColdShodModel.triesWay(IIIII)V -/
def kE508 : aE := (192, 51, ([kvB 0 7, kvB 0 7, kvB 0 7], [], 0, [kvR 102, kvI 0, kvI 1, kvI 2, kvN 52, kvN 2, none, none], []), ([], none), ([], [], none, ([], [])), kvW66)
def kC508_0 : aC := (([kvB 0 7, kvB 0 7, kvB 0 7, kvB 0 1, kvB 0 2], [], 16, [kvR 102, kvI 0, kvI 1, kvI 2, kvN 52, kvN 2, kvI 3, kvI 4], []), ([], []), (334, [(-1, 4)]))
def kC508_1 : aC := (([kvB 0 7, kvB 0 7, kvB 0 7, kvB 0 12], [], 141, [kvR 102, kvI 0, kvI 1, kvI 2, kvN 52, kvN 2, kvI 3, none], []), ([], []), (141, [(-11, 3)]))
def kC508_2 : aC := (([kvB 0 7, kvB 0 7, kvB 0 7, kvB 0 11, (.negSucc 0, .ofNat 7), kvB 1 12], [(102, 8, .inl (5, .ofNat 0))], 195, [kvR 102, kvI 0, kvI 1, kvI 2, kvN 52, kvN 2, kvI 3, kvI 4], []), ([], []), (139, [(-11, 3), (-1, 4)]))
def kC508_3 : aC := (([kvB 0 7, kvB 0 7, kvB 0 7, (.negSucc 0, .ofNat 2147483647)], [(102, 29, .inl (3, .ofNat 0))], 91, [kvR 102, kvI 0, kvI 1, kvI 2, kvN 52, kvN 2, kvN 1, kvN 2], []), ([], []), (166, []))
def kC508_4 : aC := (([kvB 0 7, kvB 0 7, kvB 0 7, kvB 0 2, (.negSucc 0, .ofNat 99)], [(102, 29, .inl (4, .ofNat 0)), (102, 30, .inr (.ofNat 2))], 110, [kvR 102, kvI 0, kvI 1, kvI 2, kvN 52, kvN 2, kvN 1, kvI 3], []), ([], []), (2, [(-1, 3)]))
theorem ks508 : aseg kS krf kB [kE43, kE89, kE380, kE444, kE500, kE506, kE507] (ksp [(192, 200, 7, 0, 7, 0)]) kE508 [kC508_0, kC508_1, kC508_2, kC508_3, kC508_4] 30000 (none) = true := by decide +kernel
theorem ks508_0 : aseg kS krf kB [kE43, kE89, kE380, kE444, kE500, kE506, kE507] (ksp [(192, 200, 7, 0, 7, 0)]) kE508 [kC508_0, kC508_1, kC508_2, kC508_3, kC508_4] 30000 (some kC508_0) = true := by decide +kernel
theorem ks508_1 : aseg kS krf kB [kE43, kE89, kE380, kE444, kE500, kE506, kE507] (ksp [(192, 200, 7, 0, 7, 0)]) kE508 [kC508_0, kC508_1, kC508_2, kC508_3, kC508_4] 30000 (some kC508_1) = true := by decide +kernel
theorem ks508_2 : aseg kS krf kB [kE43, kE89, kE380, kE444, kE500, kE506, kE507] (ksp [(192, 200, 7, 0, 7, 0)]) kE508 [kC508_0, kC508_1, kC508_2, kC508_3, kC508_4] 30000 (some kC508_2) = true := by decide +kernel
theorem ks508_3 : aseg kS krf kB [kE43, kE89, kE380, kE444, kE500, kE506, kE507] (ksp [(192, 200, 7, 0, 7, 0)]) kE508 [kC508_0, kC508_1, kC508_2, kC508_3, kC508_4] 30000 (some kC508_3) = true := by decide +kernel
theorem ks508_4 : aseg kS krf kB [kE43, kE89, kE380, kE444, kE500, kE506, kE507] (ksp [(192, 200, 7, 0, 7, 0)]) kE508 [kC508_0, kC508_1, kC508_2, kC508_3, kC508_4] 30000 (some kC508_4) = true := by decide +kernel
theorem kok508 : aOK kS krf kB kE508 := aOK_of (kal1 kok43 (kal1 kok89 (kal1 kok380 (kal1 kok444 (kal1 kok500 (kal1 kok506 (kal1 kok507 kal0))))))) (kcl1 ks508_0 (kcl1 ks508_1 (kcl1 ks508_2 (kcl1 ks508_3 (kcl1 ks508_4 kcl0))))) ks508
/-- ColdShodModel.triesWay(IIIII)V -/
def kE509 : aE := (192, 50, ([kvB 0 7, kvB 0 7, kvB 0 7], [], 0, [kvR 102, kvI 0, kvI 1, kvI 2, kvN 51, kvN 3, none, none], []), ([], none), ([], [], none, ([], [])), kvW65)
def kC509_0 : aC := (([kvB 0 7, kvB 0 7, kvB 0 7, kvB 0 1, kvB 0 3], [], 16, [kvR 102, kvI 0, kvI 1, kvI 2, kvN 51, kvN 3, kvI 3, kvI 4], []), ([], []), (335, [(-1, 4)]))
def kC509_1 : aC := (([kvB 0 7, kvB 0 7, kvB 0 7, kvB 0 12], [], 141, [kvR 102, kvI 0, kvI 1, kvI 2, kvN 51, kvN 3, kvI 3, none], []), ([], []), (141, [(-11, 3)]))
def kC509_2 : aC := (([kvB 0 7, kvB 0 7, kvB 0 7, kvB 0 11, (.negSucc 0, .ofNat 7), kvB 1 12], [(102, 8, .inl (5, .ofNat 0))], 195, [kvR 102, kvI 0, kvI 1, kvI 2, kvN 51, kvN 3, kvI 3, kvI 4], []), ([], []), (139, [(-11, 3), (-1, 4)]))
def kC509_3 : aC := (([kvB 0 7, kvB 0 7, kvB 0 7, (.negSucc 0, .ofNat 2147483647)], [(102, 29, .inl (3, .ofNat 0))], 91, [kvR 102, kvI 0, kvI 1, kvI 2, kvN 51, kvN 3, kvN 1, kvN 3], []), ([], []), (166, []))
def kC509_4 : aC := (([kvB 0 7, kvB 0 7, kvB 0 7, kvB 0 3, (.negSucc 0, .ofNat 99)], [(102, 29, .inl (4, .ofNat 0)), (102, 30, .inr (.ofNat 3))], 110, [kvR 102, kvI 0, kvI 1, kvI 2, kvN 51, kvN 3, kvN 1, kvI 3], []), ([], []), (3, [(-1, 3)]))
theorem ks509 : aseg kS krf kB [kE43, kE89, kE381, kE445, kE501, kE505] (ksp [(192, 200, 7, 0, 7, 0)]) kE509 [kC509_0, kC509_1, kC509_2, kC509_3, kC509_4] 30000 (none) = true := by decide +kernel
theorem ks509_0 : aseg kS krf kB [kE43, kE89, kE381, kE445, kE501, kE505] (ksp [(192, 200, 7, 0, 7, 0)]) kE509 [kC509_0, kC509_1, kC509_2, kC509_3, kC509_4] 30000 (some kC509_0) = true := by decide +kernel
theorem ks509_1 : aseg kS krf kB [kE43, kE89, kE381, kE445, kE501, kE505] (ksp [(192, 200, 7, 0, 7, 0)]) kE509 [kC509_0, kC509_1, kC509_2, kC509_3, kC509_4] 30000 (some kC509_1) = true := by decide +kernel
theorem ks509_2 : aseg kS krf kB [kE43, kE89, kE381, kE445, kE501, kE505] (ksp [(192, 200, 7, 0, 7, 0)]) kE509 [kC509_0, kC509_1, kC509_2, kC509_3, kC509_4] 30000 (some kC509_2) = true := by decide +kernel
theorem ks509_3 : aseg kS krf kB [kE43, kE89, kE381, kE445, kE501, kE505] (ksp [(192, 200, 7, 0, 7, 0)]) kE509 [kC509_0, kC509_1, kC509_2, kC509_3, kC509_4] 30000 (some kC509_3) = true := by decide +kernel
theorem ks509_4 : aseg kS krf kB [kE43, kE89, kE381, kE445, kE501, kE505] (ksp [(192, 200, 7, 0, 7, 0)]) kE509 [kC509_0, kC509_1, kC509_2, kC509_3, kC509_4] 30000 (some kC509_4) = true := by decide +kernel
theorem kok509 : aOK kS krf kB kE509 := aOK_of (kal1 kok43 (kal1 kok89 (kal1 kok381 (kal1 kok445 (kal1 kok501 (kal1 kok505 kal0)))))) (kcl1 ks509_0 (kcl1 ks509_1 (kcl1 ks509_2 (kcl1 ks509_3 (kcl1 ks509_4 kcl0))))) ks509
/-- ColdShodModel.triesWay(IIIII)V -/
def kE510 : aE := (192, 51, ([kvB 0 7, kvB 0 7, kvB 0 7], [], 0, [kvR 102, kvI 0, kvI 1, kvI 2, kvN 50, kvN 2, none, none], []), ([], none), ([], [], none, ([], [])), kvW66)
def kC510_0 : aC := (([kvB 0 7, kvB 0 7, kvB 0 7, kvB 0 1, kvB 0 2], [], 16, [kvR 102, kvI 0, kvI 1, kvI 2, kvN 50, kvN 2, kvI 3, kvI 4], []), ([], []), (334, [(-1, 4)]))
def kC510_1 : aC := (([kvB 0 7, kvB 0 7, kvB 0 7, kvB 0 12], [], 141, [kvR 102, kvI 0, kvI 1, kvI 2, kvN 50, kvN 2, kvI 3, none], []), ([], []), (141, [(-11, 3)]))
def kC510_2 : aC := (([kvB 0 7, kvB 0 7, kvB 0 7, kvB 0 11, (.negSucc 0, .ofNat 7), kvB 1 12], [(102, 8, .inl (5, .ofNat 0))], 195, [kvR 102, kvI 0, kvI 1, kvI 2, kvN 50, kvN 2, kvI 3, kvI 4], []), ([], []), (139, [(-11, 3), (-1, 4)]))
def kC510_3 : aC := (([kvB 0 7, kvB 0 7, kvB 0 7, (.negSucc 0, .ofNat 2147483647)], [(102, 29, .inl (3, .ofNat 0))], 91, [kvR 102, kvI 0, kvI 1, kvI 2, kvN 50, kvN 2, kvN 1, kvN 2], []), ([], []), (166, []))
def kC510_4 : aC := (([kvB 0 7, kvB 0 7, kvB 0 7, kvB 0 2, (.negSucc 0, .ofNat 99)], [(102, 29, .inl (4, .ofNat 0)), (102, 30, .inr (.ofNat 2))], 110, [kvR 102, kvI 0, kvI 1, kvI 2, kvN 50, kvN 2, kvN 1, kvI 3], []), ([], []), (2, [(-1, 3)]))
theorem ks510 : aseg kS krf kB [kE43, kE89, kE382, kE446, kE502, kE506, kE509] (ksp [(192, 200, 7, 0, 7, 0)]) kE510 [kC510_0, kC510_1, kC510_2, kC510_3, kC510_4] 30000 (none) = true := by decide +kernel
theorem ks510_0 : aseg kS krf kB [kE43, kE89, kE382, kE446, kE502, kE506, kE509] (ksp [(192, 200, 7, 0, 7, 0)]) kE510 [kC510_0, kC510_1, kC510_2, kC510_3, kC510_4] 30000 (some kC510_0) = true := by decide +kernel
theorem ks510_1 : aseg kS krf kB [kE43, kE89, kE382, kE446, kE502, kE506, kE509] (ksp [(192, 200, 7, 0, 7, 0)]) kE510 [kC510_0, kC510_1, kC510_2, kC510_3, kC510_4] 30000 (some kC510_1) = true := by decide +kernel
theorem ks510_2 : aseg kS krf kB [kE43, kE89, kE382, kE446, kE502, kE506, kE509] (ksp [(192, 200, 7, 0, 7, 0)]) kE510 [kC510_0, kC510_1, kC510_2, kC510_3, kC510_4] 30000 (some kC510_2) = true := by decide +kernel
theorem ks510_3 : aseg kS krf kB [kE43, kE89, kE382, kE446, kE502, kE506, kE509] (ksp [(192, 200, 7, 0, 7, 0)]) kE510 [kC510_0, kC510_1, kC510_2, kC510_3, kC510_4] 30000 (some kC510_3) = true := by decide +kernel
theorem ks510_4 : aseg kS krf kB [kE43, kE89, kE382, kE446, kE502, kE506, kE509] (ksp [(192, 200, 7, 0, 7, 0)]) kE510 [kC510_0, kC510_1, kC510_2, kC510_3, kC510_4] 30000 (some kC510_4) = true := by decide +kernel
theorem kok510 : aOK kS krf kB kE510 := aOK_of (kal1 kok43 (kal1 kok89 (kal1 kok382 (kal1 kok446 (kal1 kok502 (kal1 kok506 (kal1 kok509 kal0))))))) (kcl1 ks510_0 (kcl1 ks510_1 (kcl1 ks510_2 (kcl1 ks510_3 (kcl1 ks510_4 kcl0))))) ks510
/-- ColdShodModel.triesWay(IIIII)V -/
def kE511 : aE := (192, 51, ([kvB 0 7, kvB 0 7, kvB 0 7], [], 0, [kvR 102, kvI 0, kvI 1, kvI 2, kvN 49, kvN 2, none, none], []), ([], none), ([], [], none, ([], [])), kvW66)
def kC511_0 : aC := (([kvB 0 7, kvB 0 7, kvB 0 7, kvB 0 1, kvB 0 2], [], 16, [kvR 102, kvI 0, kvI 1, kvI 2, kvN 49, kvN 2, kvI 3, kvI 4], []), ([], []), (334, [(-1, 4)]))
def kC511_1 : aC := (([kvB 0 7, kvB 0 7, kvB 0 7, kvB 0 12], [], 141, [kvR 102, kvI 0, kvI 1, kvI 2, kvN 49, kvN 2, kvI 3, none], []), ([], []), (141, [(-11, 3)]))
def kC511_2 : aC := (([kvB 0 7, kvB 0 7, kvB 0 7, kvB 0 11, (.negSucc 0, .ofNat 7), kvB 1 12], [(102, 8, .inl (5, .ofNat 0))], 195, [kvR 102, kvI 0, kvI 1, kvI 2, kvN 49, kvN 2, kvI 3, kvI 4], []), ([], []), (139, [(-11, 3), (-1, 4)]))
def kC511_3 : aC := (([kvB 0 7, kvB 0 7, kvB 0 7, (.negSucc 0, .ofNat 2147483647)], [(102, 29, .inl (3, .ofNat 0))], 91, [kvR 102, kvI 0, kvI 1, kvI 2, kvN 49, kvN 2, kvN 1, kvN 2], []), ([], []), (166, []))
def kC511_4 : aC := (([kvB 0 7, kvB 0 7, kvB 0 7, kvB 0 2, (.negSucc 0, .ofNat 99)], [(102, 29, .inl (4, .ofNat 0)), (102, 30, .inr (.ofNat 2))], 110, [kvR 102, kvI 0, kvI 1, kvI 2, kvN 49, kvN 2, kvN 1, kvI 3], []), ([], []), (2, [(-1, 3)]))
theorem ks511 : aseg kS krf kB [kE43, kE89, kE383, kE447, kE503, kE507, kE509] (ksp [(192, 200, 7, 0, 7, 0)]) kE511 [kC511_0, kC511_1, kC511_2, kC511_3, kC511_4] 30000 (none) = true := by decide +kernel
theorem ks511_0 : aseg kS krf kB [kE43, kE89, kE383, kE447, kE503, kE507, kE509] (ksp [(192, 200, 7, 0, 7, 0)]) kE511 [kC511_0, kC511_1, kC511_2, kC511_3, kC511_4] 30000 (some kC511_0) = true := by decide +kernel
theorem ks511_1 : aseg kS krf kB [kE43, kE89, kE383, kE447, kE503, kE507, kE509] (ksp [(192, 200, 7, 0, 7, 0)]) kE511 [kC511_0, kC511_1, kC511_2, kC511_3, kC511_4] 30000 (some kC511_1) = true := by decide +kernel
theorem ks511_2 : aseg kS krf kB [kE43, kE89, kE383, kE447, kE503, kE507, kE509] (ksp [(192, 200, 7, 0, 7, 0)]) kE511 [kC511_0, kC511_1, kC511_2, kC511_3, kC511_4] 30000 (some kC511_2) = true := by decide +kernel
theorem ks511_3 : aseg kS krf kB [kE43, kE89, kE383, kE447, kE503, kE507, kE509] (ksp [(192, 200, 7, 0, 7, 0)]) kE511 [kC511_0, kC511_1, kC511_2, kC511_3, kC511_4] 30000 (some kC511_3) = true := by decide +kernel
theorem ks511_4 : aseg kS krf kB [kE43, kE89, kE383, kE447, kE503, kE507, kE509] (ksp [(192, 200, 7, 0, 7, 0)]) kE511 [kC511_0, kC511_1, kC511_2, kC511_3, kC511_4] 30000 (some kC511_4) = true := by decide +kernel
theorem kok511 : aOK kS krf kB kE511 := aOK_of (kal1 kok43 (kal1 kok89 (kal1 kok383 (kal1 kok447 (kal1 kok503 (kal1 kok507 (kal1 kok509 kal0))))))) (kcl1 ks511_0 (kcl1 ks511_1 (kcl1 ks511_2 (kcl1 ks511_3 (kcl1 ks511_4 kcl0))))) ks511
/-- ColdShodModel.triesWay(IIIII)V -/
def kE512 : aE := (192, 52, ([kvB 0 7, kvB 0 7, kvB 0 7], [], 0, [kvR 102, kvI 0, kvI 1, kvI 2, kvN 48, kvN 1, none, none], []), ([], none), ([], [], none, ([], [])), kvW67)
def kC512_0 : aC := (([kvB 0 7, kvB 0 7, kvB 0 7, kvB 0 1, kvB 0 1], [], 16, [kvR 102, kvI 0, kvI 1, kvI 2, kvN 48, kvN 1, kvI 3, kvI 4], []), ([], []), (333, [(-1, 4)]))
def kC512_1 : aC := (([kvB 0 7, kvB 0 7, kvB 0 7, kvB 0 12], [], 141, [kvR 102, kvI 0, kvI 1, kvI 2, kvN 48, kvN 1, kvI 3, none], []), ([], []), (141, [(-11, 3)]))
def kC512_2 : aC := (([kvB 0 7, kvB 0 7, kvB 0 7, kvB 0 11, (.negSucc 0, .ofNat 7), kvB 1 12], [(102, 8, .inl (5, .ofNat 0))], 195, [kvR 102, kvI 0, kvI 1, kvI 2, kvN 48, kvN 1, kvI 3, kvI 4], []), ([], []), (139, [(-11, 3), (-1, 4)]))
def kC512_3 : aC := (([kvB 0 7, kvB 0 7, kvB 0 7, (.negSucc 0, .ofNat 2147483647)], [(102, 29, .inl (3, .ofNat 0))], 91, [kvR 102, kvI 0, kvI 1, kvI 2, kvN 48, kvN 1, kvN 1, kvN 1], []), ([], []), (166, []))
def kC512_4 : aC := (([kvB 0 7, kvB 0 7, kvB 0 7, kvB 0 1, (.negSucc 0, .ofNat 99)], [(102, 29, .inl (4, .ofNat 0)), (102, 30, .inr (.ofNat 1))], 110, [kvR 102, kvI 0, kvI 1, kvI 2, kvN 48, kvN 1, kvN 1, kvI 3], []), ([], []), (1, [(-1, 3)]))
theorem ks512 : aseg kS krf kB [kE43, kE89, kE384, kE448, kE504, kE508, kE510, kE511] (ksp [(192, 200, 7, 0, 7, 0)]) kE512 [kC512_0, kC512_1, kC512_2, kC512_3, kC512_4] 30000 (none) = true := by decide +kernel
theorem ks512_0 : aseg kS krf kB [kE43, kE89, kE384, kE448, kE504, kE508, kE510, kE511] (ksp [(192, 200, 7, 0, 7, 0)]) kE512 [kC512_0, kC512_1, kC512_2, kC512_3, kC512_4] 30000 (some kC512_0) = true := by decide +kernel
theorem ks512_1 : aseg kS krf kB [kE43, kE89, kE384, kE448, kE504, kE508, kE510, kE511] (ksp [(192, 200, 7, 0, 7, 0)]) kE512 [kC512_0, kC512_1, kC512_2, kC512_3, kC512_4] 30000 (some kC512_1) = true := by decide +kernel
theorem ks512_2 : aseg kS krf kB [kE43, kE89, kE384, kE448, kE504, kE508, kE510, kE511] (ksp [(192, 200, 7, 0, 7, 0)]) kE512 [kC512_0, kC512_1, kC512_2, kC512_3, kC512_4] 30000 (some kC512_2) = true := by decide +kernel
theorem ks512_3 : aseg kS krf kB [kE43, kE89, kE384, kE448, kE504, kE508, kE510, kE511] (ksp [(192, 200, 7, 0, 7, 0)]) kE512 [kC512_0, kC512_1, kC512_2, kC512_3, kC512_4] 30000 (some kC512_3) = true := by decide +kernel
theorem ks512_4 : aseg kS krf kB [kE43, kE89, kE384, kE448, kE504, kE508, kE510, kE511] (ksp [(192, 200, 7, 0, 7, 0)]) kE512 [kC512_0, kC512_1, kC512_2, kC512_3, kC512_4] 30000 (some kC512_4) = true := by decide +kernel
theorem kok512 : aOK kS krf kB kE512 := aOK_of (kal1 kok43 (kal1 kok89 (kal1 kok384 (kal1 kok448 (kal1 kok504 (kal1 kok508 (kal1 kok510 (kal1 kok511 kal0)))))))) (kcl1 ks512_0 (kcl1 ks512_1 (kcl1 ks512_2 (kcl1 ks512_3 (kcl1 ks512_4 kcl0))))) ks512
/-- ColdShodModel.triesWay(IIIII)V -/
def kE513 : aE := (192, 49, ([kvB 0 7, kvB 0 7, kvB 0 7], [], 0, [kvR 102, kvI 0, kvI 1, kvI 2, kvN 47, kvN 4, none, none], []), ([], none), ([], [], none, ([], [])), kvW64)
def kC513_0 : aC := (([kvB 0 7, kvB 0 7, kvB 0 7, kvB 0 1, kvB 0 4], [], 16, [kvR 102, kvI 0, kvI 1, kvI 2, kvN 47, kvN 4, kvI 3, kvI 4], []), ([], []), (336, [(-1, 4)]))
def kC513_1 : aC := (([kvB 0 7, kvB 0 7, kvB 0 7, kvB 0 12], [], 141, [kvR 102, kvI 0, kvI 1, kvI 2, kvN 47, kvN 4, kvI 3, none], []), ([], []), (141, [(-11, 3)]))
def kC513_2 : aC := (([kvB 0 7, kvB 0 7, kvB 0 7, kvB 0 11, (.negSucc 0, .ofNat 7), kvB 1 12], [(102, 8, .inl (5, .ofNat 0))], 195, [kvR 102, kvI 0, kvI 1, kvI 2, kvN 47, kvN 4, kvI 3, kvI 4], []), ([], []), (139, [(-11, 3), (-1, 4)]))
def kC513_3 : aC := (([kvB 0 7, kvB 0 7, kvB 0 7, (.negSucc 0, .ofNat 2147483647)], [(102, 29, .inl (3, .ofNat 0))], 91, [kvR 102, kvI 0, kvI 1, kvI 2, kvN 47, kvN 4, kvN 1, kvN 4], []), ([], []), (166, []))
def kC513_4 : aC := (([kvB 0 7, kvB 0 7, kvB 0 7, kvB 0 4, (.negSucc 0, .ofNat 99)], [(102, 29, .inl (4, .ofNat 0)), (102, 30, .inr (.ofNat 4))], 110, [kvR 102, kvI 0, kvI 1, kvI 2, kvN 47, kvN 4, kvN 1, kvI 3], []), ([], []), (4, [(-1, 3)]))
theorem ks513 : aseg kS krf kB [kE43, kE89, kE385, kE449, kE497] (ksp [(192, 200, 7, 0, 7, 0)]) kE513 [kC513_0, kC513_1, kC513_2, kC513_3, kC513_4] 30000 (none) = true := by decide +kernel
theorem ks513_0 : aseg kS krf kB [kE43, kE89, kE385, kE449, kE497] (ksp [(192, 200, 7, 0, 7, 0)]) kE513 [kC513_0, kC513_1, kC513_2, kC513_3, kC513_4] 30000 (some kC513_0) = true := by decide +kernel
theorem ks513_1 : aseg kS krf kB [kE43, kE89, kE385, kE449, kE497] (ksp [(192, 200, 7, 0, 7, 0)]) kE513 [kC513_0, kC513_1, kC513_2, kC513_3, kC513_4] 30000 (some kC513_1) = true := by decide +kernel
theorem ks513_2 : aseg kS krf kB [kE43, kE89, kE385, kE449, kE497] (ksp [(192, 200, 7, 0, 7, 0)]) kE513 [kC513_0, kC513_1, kC513_2, kC513_3, kC513_4] 30000 (some kC513_2) = true := by decide +kernel
theorem ks513_3 : aseg kS krf kB [kE43, kE89, kE385, kE449, kE497] (ksp [(192, 200, 7, 0, 7, 0)]) kE513 [kC513_0, kC513_1, kC513_2, kC513_3, kC513_4] 30000 (some kC513_3) = true := by decide +kernel
theorem ks513_4 : aseg kS krf kB [kE43, kE89, kE385, kE449, kE497] (ksp [(192, 200, 7, 0, 7, 0)]) kE513 [kC513_0, kC513_1, kC513_2, kC513_3, kC513_4] 30000 (some kC513_4) = true := by decide +kernel
theorem kok513 : aOK kS krf kB kE513 := aOK_of (kal1 kok43 (kal1 kok89 (kal1 kok385 (kal1 kok449 (kal1 kok497 kal0))))) (kcl1 ks513_0 (kcl1 ks513_1 (kcl1 ks513_2 (kcl1 ks513_3 (kcl1 ks513_4 kcl0))))) ks513
/-- ColdShodModel.triesWay(IIIII)V -/
def kE514 : aE := (192, 50, ([kvB 0 7, kvB 0 7, kvB 0 7], [], 0, [kvR 102, kvI 0, kvI 1, kvI 2, kvN 46, kvN 3, none, none], []), ([], none), ([], [], none, ([], [])), kvW65)
def kC514_0 : aC := (([kvB 0 7, kvB 0 7, kvB 0 7, kvB 0 1, kvB 0 3], [], 16, [kvR 102, kvI 0, kvI 1, kvI 2, kvN 46, kvN 3, kvI 3, kvI 4], []), ([], []), (335, [(-1, 4)]))
def kC514_1 : aC := (([kvB 0 7, kvB 0 7, kvB 0 7, kvB 0 12], [], 141, [kvR 102, kvI 0, kvI 1, kvI 2, kvN 46, kvN 3, kvI 3, none], []), ([], []), (141, [(-11, 3)]))
def kC514_2 : aC := (([kvB 0 7, kvB 0 7, kvB 0 7, kvB 0 11, (.negSucc 0, .ofNat 7), kvB 1 12], [(102, 8, .inl (5, .ofNat 0))], 195, [kvR 102, kvI 0, kvI 1, kvI 2, kvN 46, kvN 3, kvI 3, kvI 4], []), ([], []), (139, [(-11, 3), (-1, 4)]))
def kC514_3 : aC := (([kvB 0 7, kvB 0 7, kvB 0 7, (.negSucc 0, .ofNat 2147483647)], [(102, 29, .inl (3, .ofNat 0))], 91, [kvR 102, kvI 0, kvI 1, kvI 2, kvN 46, kvN 3, kvN 1, kvN 3], []), ([], []), (166, []))
def kC514_4 : aC := (([kvB 0 7, kvB 0 7, kvB 0 7, kvB 0 3, (.negSucc 0, .ofNat 99)], [(102, 29, .inl (4, .ofNat 0)), (102, 30, .inr (.ofNat 3))], 110, [kvR 102, kvI 0, kvI 1, kvI 2, kvN 46, kvN 3, kvN 1, kvI 3], []), ([], []), (3, [(-1, 3)]))
theorem ks514 : aseg kS krf kB [kE43, kE89, kE386, kE450, kE498, kE513] (ksp [(192, 200, 7, 0, 7, 0)]) kE514 [kC514_0, kC514_1, kC514_2, kC514_3, kC514_4] 30000 (none) = true := by decide +kernel
theorem ks514_0 : aseg kS krf kB [kE43, kE89, kE386, kE450, kE498, kE513] (ksp [(192, 200, 7, 0, 7, 0)]) kE514 [kC514_0, kC514_1, kC514_2, kC514_3, kC514_4] 30000 (some kC514_0) = true := by decide +kernel
theorem ks514_1 : aseg kS krf kB [kE43, kE89, kE386, kE450, kE498, kE513] (ksp [(192, 200, 7, 0, 7, 0)]) kE514 [kC514_0, kC514_1, kC514_2, kC514_3, kC514_4] 30000 (some kC514_1) = true := by decide +kernel
theorem ks514_2 : aseg kS krf kB [kE43, kE89, kE386, kE450, kE498, kE513] (ksp [(192, 200, 7, 0, 7, 0)]) kE514 [kC514_0, kC514_1, kC514_2, kC514_3, kC514_4] 30000 (some kC514_2) = true := by decide +kernel
theorem ks514_3 : aseg kS krf kB [kE43, kE89, kE386, kE450, kE498, kE513] (ksp [(192, 200, 7, 0, 7, 0)]) kE514 [kC514_0, kC514_1, kC514_2, kC514_3, kC514_4] 30000 (some kC514_3) = true := by decide +kernel
theorem ks514_4 : aseg kS krf kB [kE43, kE89, kE386, kE450, kE498, kE513] (ksp [(192, 200, 7, 0, 7, 0)]) kE514 [kC514_0, kC514_1, kC514_2, kC514_3, kC514_4] 30000 (some kC514_4) = true := by decide +kernel
theorem kok514 : aOK kS krf kB kE514 := aOK_of (kal1 kok43 (kal1 kok89 (kal1 kok386 (kal1 kok450 (kal1 kok498 (kal1 kok513 kal0)))))) (kcl1 ks514_0 (kcl1 ks514_1 (kcl1 ks514_2 (kcl1 ks514_3 (kcl1 ks514_4 kcl0))))) ks514
/-- ColdShodModel.triesWay(IIIII)V -/
def kE515 : aE := (192, 50, ([kvB 0 7, kvB 0 7, kvB 0 7], [], 0, [kvR 102, kvI 0, kvI 1, kvI 2, kvN 45, kvN 3, none, none], []), ([], none), ([], [], none, ([], [])), kvW65)
def kC515_0 : aC := (([kvB 0 7, kvB 0 7, kvB 0 7, kvB 0 1, kvB 0 3], [], 16, [kvR 102, kvI 0, kvI 1, kvI 2, kvN 45, kvN 3, kvI 3, kvI 4], []), ([], []), (335, [(-1, 4)]))
def kC515_1 : aC := (([kvB 0 7, kvB 0 7, kvB 0 7, kvB 0 12], [], 141, [kvR 102, kvI 0, kvI 1, kvI 2, kvN 45, kvN 3, kvI 3, none], []), ([], []), (141, [(-11, 3)]))
def kC515_2 : aC := (([kvB 0 7, kvB 0 7, kvB 0 7, kvB 0 11, (.negSucc 0, .ofNat 7), kvB 1 12], [(102, 8, .inl (5, .ofNat 0))], 195, [kvR 102, kvI 0, kvI 1, kvI 2, kvN 45, kvN 3, kvI 3, kvI 4], []), ([], []), (139, [(-11, 3), (-1, 4)]))
def kC515_3 : aC := (([kvB 0 7, kvB 0 7, kvB 0 7, (.negSucc 0, .ofNat 2147483647)], [(102, 29, .inl (3, .ofNat 0))], 91, [kvR 102, kvI 0, kvI 1, kvI 2, kvN 45, kvN 3, kvN 1, kvN 3], []), ([], []), (166, []))
def kC515_4 : aC := (([kvB 0 7, kvB 0 7, kvB 0 7, kvB 0 3, (.negSucc 0, .ofNat 99)], [(102, 29, .inl (4, .ofNat 0)), (102, 30, .inr (.ofNat 3))], 110, [kvR 102, kvI 0, kvI 1, kvI 2, kvN 45, kvN 3, kvN 1, kvI 3], []), ([], []), (3, [(-1, 3)]))
theorem ks515 : aseg kS krf kB [kE43, kE89, kE387, kE451, kE499, kE513] (ksp [(192, 200, 7, 0, 7, 0)]) kE515 [kC515_0, kC515_1, kC515_2, kC515_3, kC515_4] 30000 (none) = true := by decide +kernel
theorem ks515_0 : aseg kS krf kB [kE43, kE89, kE387, kE451, kE499, kE513] (ksp [(192, 200, 7, 0, 7, 0)]) kE515 [kC515_0, kC515_1, kC515_2, kC515_3, kC515_4] 30000 (some kC515_0) = true := by decide +kernel
theorem ks515_1 : aseg kS krf kB [kE43, kE89, kE387, kE451, kE499, kE513] (ksp [(192, 200, 7, 0, 7, 0)]) kE515 [kC515_0, kC515_1, kC515_2, kC515_3, kC515_4] 30000 (some kC515_1) = true := by decide +kernel
theorem ks515_2 : aseg kS krf kB [kE43, kE89, kE387, kE451, kE499, kE513] (ksp [(192, 200, 7, 0, 7, 0)]) kE515 [kC515_0, kC515_1, kC515_2, kC515_3, kC515_4] 30000 (some kC515_2) = true := by decide +kernel
theorem ks515_3 : aseg kS krf kB [kE43, kE89, kE387, kE451, kE499, kE513] (ksp [(192, 200, 7, 0, 7, 0)]) kE515 [kC515_0, kC515_1, kC515_2, kC515_3, kC515_4] 30000 (some kC515_3) = true := by decide +kernel
theorem ks515_4 : aseg kS krf kB [kE43, kE89, kE387, kE451, kE499, kE513] (ksp [(192, 200, 7, 0, 7, 0)]) kE515 [kC515_0, kC515_1, kC515_2, kC515_3, kC515_4] 30000 (some kC515_4) = true := by decide +kernel
theorem kok515 : aOK kS krf kB kE515 := aOK_of (kal1 kok43 (kal1 kok89 (kal1 kok387 (kal1 kok451 (kal1 kok499 (kal1 kok513 kal0)))))) (kcl1 ks515_0 (kcl1 ks515_1 (kcl1 ks515_2 (kcl1 ks515_3 (kcl1 ks515_4 kcl0))))) ks515
/-- ColdShodModel.triesWay(IIIII)V -/
def kE516 : aE := (192, 51, ([kvB 0 7, kvB 0 7, kvB 0 7], [], 0, [kvR 102, kvI 0, kvI 1, kvI 2, kvN 44, kvN 2, none, none], []), ([], none), ([], [], none, ([], [])), kvW66)
def kC516_0 : aC := (([kvB 0 7, kvB 0 7, kvB 0 7, kvB 0 1, kvB 0 2], [], 16, [kvR 102, kvI 0, kvI 1, kvI 2, kvN 44, kvN 2, kvI 3, kvI 4], []), ([], []), (334, [(-1, 4)]))
def kC516_1 : aC := (([kvB 0 7, kvB 0 7, kvB 0 7, kvB 0 12], [], 141, [kvR 102, kvI 0, kvI 1, kvI 2, kvN 44, kvN 2, kvI 3, none], []), ([], []), (141, [(-11, 3)]))
def kC516_2 : aC := (([kvB 0 7, kvB 0 7, kvB 0 7, kvB 0 11, (.negSucc 0, .ofNat 7), kvB 1 12], [(102, 8, .inl (5, .ofNat 0))], 195, [kvR 102, kvI 0, kvI 1, kvI 2, kvN 44, kvN 2, kvI 3, kvI 4], []), ([], []), (139, [(-11, 3), (-1, 4)]))
def kC516_3 : aC := (([kvB 0 7, kvB 0 7, kvB 0 7, (.negSucc 0, .ofNat 2147483647)], [(102, 29, .inl (3, .ofNat 0))], 91, [kvR 102, kvI 0, kvI 1, kvI 2, kvN 44, kvN 2, kvN 1, kvN 2], []), ([], []), (166, []))
def kC516_4 : aC := (([kvB 0 7, kvB 0 7, kvB 0 7, kvB 0 2, (.negSucc 0, .ofNat 99)], [(102, 29, .inl (4, .ofNat 0)), (102, 30, .inr (.ofNat 2))], 110, [kvR 102, kvI 0, kvI 1, kvI 2, kvN 44, kvN 2, kvN 1, kvI 3], []), ([], []), (2, [(-1, 3)]))
theorem ks516 : aseg kS krf kB [kE43, kE89, kE388, kE452, kE500, kE514, kE515] (ksp [(192, 200, 7, 0, 7, 0)]) kE516 [kC516_0, kC516_1, kC516_2, kC516_3, kC516_4] 30000 (none) = true := by decide +kernel
theorem ks516_0 : aseg kS krf kB [kE43, kE89, kE388, kE452, kE500, kE514, kE515] (ksp [(192, 200, 7, 0, 7, 0)]) kE516 [kC516_0, kC516_1, kC516_2, kC516_3, kC516_4] 30000 (some kC516_0) = true := by decide +kernel
theorem ks516_1 : aseg kS krf kB [kE43, kE89, kE388, kE452, kE500, kE514, kE515] (ksp [(192, 200, 7, 0, 7, 0)]) kE516 [kC516_0, kC516_1, kC516_2, kC516_3, kC516_4] 30000 (some kC516_1) = true := by decide +kernel
theorem ks516_2 : aseg kS krf kB [kE43, kE89, kE388, kE452, kE500, kE514, kE515] (ksp [(192, 200, 7, 0, 7, 0)]) kE516 [kC516_0, kC516_1, kC516_2, kC516_3, kC516_4] 30000 (some kC516_2) = true := by decide +kernel
theorem ks516_3 : aseg kS krf kB [kE43, kE89, kE388, kE452, kE500, kE514, kE515] (ksp [(192, 200, 7, 0, 7, 0)]) kE516 [kC516_0, kC516_1, kC516_2, kC516_3, kC516_4] 30000 (some kC516_3) = true := by decide +kernel
theorem ks516_4 : aseg kS krf kB [kE43, kE89, kE388, kE452, kE500, kE514, kE515] (ksp [(192, 200, 7, 0, 7, 0)]) kE516 [kC516_0, kC516_1, kC516_2, kC516_3, kC516_4] 30000 (some kC516_4) = true := by decide +kernel
theorem kok516 : aOK kS krf kB kE516 := aOK_of (kal1 kok43 (kal1 kok89 (kal1 kok388 (kal1 kok452 (kal1 kok500 (kal1 kok514 (kal1 kok515 kal0))))))) (kcl1 ks516_0 (kcl1 ks516_1 (kcl1 ks516_2 (kcl1 ks516_3 (kcl1 ks516_4 kcl0))))) ks516
/-- ColdShodModel.triesWay(IIIII)V -/
def kE517 : aE := (192, 50, ([kvB 0 7, kvB 0 7, kvB 0 7], [], 0, [kvR 102, kvI 0, kvI 1, kvI 2, kvN 43, kvN 3, none, none], []), ([], none), ([], [], none, ([], [])), kvW65)
def kC517_0 : aC := (([kvB 0 7, kvB 0 7, kvB 0 7, kvB 0 1, kvB 0 3], [], 16, [kvR 102, kvI 0, kvI 1, kvI 2, kvN 43, kvN 3, kvI 3, kvI 4], []), ([], []), (335, [(-1, 4)]))
def kC517_1 : aC := (([kvB 0 7, kvB 0 7, kvB 0 7, kvB 0 12], [], 141, [kvR 102, kvI 0, kvI 1, kvI 2, kvN 43, kvN 3, kvI 3, none], []), ([], []), (141, [(-11, 3)]))
def kC517_2 : aC := (([kvB 0 7, kvB 0 7, kvB 0 7, kvB 0 11, (.negSucc 0, .ofNat 7), kvB 1 12], [(102, 8, .inl (5, .ofNat 0))], 195, [kvR 102, kvI 0, kvI 1, kvI 2, kvN 43, kvN 3, kvI 3, kvI 4], []), ([], []), (139, [(-11, 3), (-1, 4)]))
def kC517_3 : aC := (([kvB 0 7, kvB 0 7, kvB 0 7, (.negSucc 0, .ofNat 2147483647)], [(102, 29, .inl (3, .ofNat 0))], 91, [kvR 102, kvI 0, kvI 1, kvI 2, kvN 43, kvN 3, kvN 1, kvN 3], []), ([], []), (166, []))
def kC517_4 : aC := (([kvB 0 7, kvB 0 7, kvB 0 7, kvB 0 3, (.negSucc 0, .ofNat 99)], [(102, 29, .inl (4, .ofNat 0)), (102, 30, .inr (.ofNat 3))], 110, [kvR 102, kvI 0, kvI 1, kvI 2, kvN 43, kvN 3, kvN 1, kvI 3], []), ([], []), (3, [(-1, 3)]))
theorem ks517 : aseg kS krf kB [kE43, kE89, kE389, kE453, kE501, kE513] (ksp [(192, 200, 7, 0, 7, 0)]) kE517 [kC517_0, kC517_1, kC517_2, kC517_3, kC517_4] 30000 (none) = true := by decide +kernel
theorem ks517_0 : aseg kS krf kB [kE43, kE89, kE389, kE453, kE501, kE513] (ksp [(192, 200, 7, 0, 7, 0)]) kE517 [kC517_0, kC517_1, kC517_2, kC517_3, kC517_4] 30000 (some kC517_0) = true := by decide +kernel
theorem ks517_1 : aseg kS krf kB [kE43, kE89, kE389, kE453, kE501, kE513] (ksp [(192, 200, 7, 0, 7, 0)]) kE517 [kC517_0, kC517_1, kC517_2, kC517_3, kC517_4] 30000 (some kC517_1) = true := by decide +kernel
theorem ks517_2 : aseg kS krf kB [kE43, kE89, kE389, kE453, kE501, kE513] (ksp [(192, 200, 7, 0, 7, 0)]) kE517 [kC517_0, kC517_1, kC517_2, kC517_3, kC517_4] 30000 (some kC517_2) = true := by decide +kernel
theorem ks517_3 : aseg kS krf kB [kE43, kE89, kE389, kE453, kE501, kE513] (ksp [(192, 200, 7, 0, 7, 0)]) kE517 [kC517_0, kC517_1, kC517_2, kC517_3, kC517_4] 30000 (some kC517_3) = true := by decide +kernel
theorem ks517_4 : aseg kS krf kB [kE43, kE89, kE389, kE453, kE501, kE513] (ksp [(192, 200, 7, 0, 7, 0)]) kE517 [kC517_0, kC517_1, kC517_2, kC517_3, kC517_4] 30000 (some kC517_4) = true := by decide +kernel
theorem kok517 : aOK kS krf kB kE517 := aOK_of (kal1 kok43 (kal1 kok89 (kal1 kok389 (kal1 kok453 (kal1 kok501 (kal1 kok513 kal0)))))) (kcl1 ks517_0 (kcl1 ks517_1 (kcl1 ks517_2 (kcl1 ks517_3 (kcl1 ks517_4 kcl0))))) ks517
/-- ColdShodModel.triesWay(IIIII)V -/
def kE518 : aE := (192, 51, ([kvB 0 7, kvB 0 7, kvB 0 7], [], 0, [kvR 102, kvI 0, kvI 1, kvI 2, kvN 42, kvN 2, none, none], []), ([], none), ([], [], none, ([], [])), kvW66)
def kC518_0 : aC := (([kvB 0 7, kvB 0 7, kvB 0 7, kvB 0 1, kvB 0 2], [], 16, [kvR 102, kvI 0, kvI 1, kvI 2, kvN 42, kvN 2, kvI 3, kvI 4], []), ([], []), (334, [(-1, 4)]))
def kC518_1 : aC := (([kvB 0 7, kvB 0 7, kvB 0 7, kvB 0 12], [], 141, [kvR 102, kvI 0, kvI 1, kvI 2, kvN 42, kvN 2, kvI 3, none], []), ([], []), (141, [(-11, 3)]))
def kC518_2 : aC := (([kvB 0 7, kvB 0 7, kvB 0 7, kvB 0 11, (.negSucc 0, .ofNat 7), kvB 1 12], [(102, 8, .inl (5, .ofNat 0))], 195, [kvR 102, kvI 0, kvI 1, kvI 2, kvN 42, kvN 2, kvI 3, kvI 4], []), ([], []), (139, [(-11, 3), (-1, 4)]))
def kC518_3 : aC := (([kvB 0 7, kvB 0 7, kvB 0 7, (.negSucc 0, .ofNat 2147483647)], [(102, 29, .inl (3, .ofNat 0))], 91, [kvR 102, kvI 0, kvI 1, kvI 2, kvN 42, kvN 2, kvN 1, kvN 2], []), ([], []), (166, []))
def kC518_4 : aC := (([kvB 0 7, kvB 0 7, kvB 0 7, kvB 0 2, (.negSucc 0, .ofNat 99)], [(102, 29, .inl (4, .ofNat 0)), (102, 30, .inr (.ofNat 2))], 110, [kvR 102, kvI 0, kvI 1, kvI 2, kvN 42, kvN 2, kvN 1, kvI 3], []), ([], []), (2, [(-1, 3)]))
theorem ks518 : aseg kS krf kB [kE43, kE89, kE390, kE454, kE502, kE514, kE517] (ksp [(192, 200, 7, 0, 7, 0)]) kE518 [kC518_0, kC518_1, kC518_2, kC518_3, kC518_4] 30000 (none) = true := by decide +kernel
theorem ks518_0 : aseg kS krf kB [kE43, kE89, kE390, kE454, kE502, kE514, kE517] (ksp [(192, 200, 7, 0, 7, 0)]) kE518 [kC518_0, kC518_1, kC518_2, kC518_3, kC518_4] 30000 (some kC518_0) = true := by decide +kernel
theorem ks518_1 : aseg kS krf kB [kE43, kE89, kE390, kE454, kE502, kE514, kE517] (ksp [(192, 200, 7, 0, 7, 0)]) kE518 [kC518_0, kC518_1, kC518_2, kC518_3, kC518_4] 30000 (some kC518_1) = true := by decide +kernel
theorem ks518_2 : aseg kS krf kB [kE43, kE89, kE390, kE454, kE502, kE514, kE517] (ksp [(192, 200, 7, 0, 7, 0)]) kE518 [kC518_0, kC518_1, kC518_2, kC518_3, kC518_4] 30000 (some kC518_2) = true := by decide +kernel
theorem ks518_3 : aseg kS krf kB [kE43, kE89, kE390, kE454, kE502, kE514, kE517] (ksp [(192, 200, 7, 0, 7, 0)]) kE518 [kC518_0, kC518_1, kC518_2, kC518_3, kC518_4] 30000 (some kC518_3) = true := by decide +kernel
theorem ks518_4 : aseg kS krf kB [kE43, kE89, kE390, kE454, kE502, kE514, kE517] (ksp [(192, 200, 7, 0, 7, 0)]) kE518 [kC518_0, kC518_1, kC518_2, kC518_3, kC518_4] 30000 (some kC518_4) = true := by decide +kernel
theorem kok518 : aOK kS krf kB kE518 := aOK_of (kal1 kok43 (kal1 kok89 (kal1 kok390 (kal1 kok454 (kal1 kok502 (kal1 kok514 (kal1 kok517 kal0))))))) (kcl1 ks518_0 (kcl1 ks518_1 (kcl1 ks518_2 (kcl1 ks518_3 (kcl1 ks518_4 kcl0))))) ks518
/-- ColdShodModel.triesWay(IIIII)V -/
def kE519 : aE := (192, 51, ([kvB 0 7, kvB 0 7, kvB 0 7], [], 0, [kvR 102, kvI 0, kvI 1, kvI 2, kvN 41, kvN 2, none, none], []), ([], none), ([], [], none, ([], [])), kvW66)
def kC519_0 : aC := (([kvB 0 7, kvB 0 7, kvB 0 7, kvB 0 1, kvB 0 2], [], 16, [kvR 102, kvI 0, kvI 1, kvI 2, kvN 41, kvN 2, kvI 3, kvI 4], []), ([], []), (334, [(-1, 4)]))
def kC519_1 : aC := (([kvB 0 7, kvB 0 7, kvB 0 7, kvB 0 12], [], 141, [kvR 102, kvI 0, kvI 1, kvI 2, kvN 41, kvN 2, kvI 3, none], []), ([], []), (141, [(-11, 3)]))
def kC519_2 : aC := (([kvB 0 7, kvB 0 7, kvB 0 7, kvB 0 11, (.negSucc 0, .ofNat 7), kvB 1 12], [(102, 8, .inl (5, .ofNat 0))], 195, [kvR 102, kvI 0, kvI 1, kvI 2, kvN 41, kvN 2, kvI 3, kvI 4], []), ([], []), (139, [(-11, 3), (-1, 4)]))
def kC519_3 : aC := (([kvB 0 7, kvB 0 7, kvB 0 7, (.negSucc 0, .ofNat 2147483647)], [(102, 29, .inl (3, .ofNat 0))], 91, [kvR 102, kvI 0, kvI 1, kvI 2, kvN 41, kvN 2, kvN 1, kvN 2], []), ([], []), (166, []))
def kC519_4 : aC := (([kvB 0 7, kvB 0 7, kvB 0 7, kvB 0 2, (.negSucc 0, .ofNat 99)], [(102, 29, .inl (4, .ofNat 0)), (102, 30, .inr (.ofNat 2))], 110, [kvR 102, kvI 0, kvI 1, kvI 2, kvN 41, kvN 2, kvN 1, kvI 3], []), ([], []), (2, [(-1, 3)]))
theorem ks519 : aseg kS krf kB [kE43, kE89, kE391, kE455, kE503, kE515, kE517] (ksp [(192, 200, 7, 0, 7, 0)]) kE519 [kC519_0, kC519_1, kC519_2, kC519_3, kC519_4] 30000 (none) = true := by decide +kernel
theorem ks519_0 : aseg kS krf kB [kE43, kE89, kE391, kE455, kE503, kE515, kE517] (ksp [(192, 200, 7, 0, 7, 0)]) kE519 [kC519_0, kC519_1, kC519_2, kC519_3, kC519_4] 30000 (some kC519_0) = true := by decide +kernel
theorem ks519_1 : aseg kS krf kB [kE43, kE89, kE391, kE455, kE503, kE515, kE517] (ksp [(192, 200, 7, 0, 7, 0)]) kE519 [kC519_0, kC519_1, kC519_2, kC519_3, kC519_4] 30000 (some kC519_1) = true := by decide +kernel
theorem ks519_2 : aseg kS krf kB [kE43, kE89, kE391, kE455, kE503, kE515, kE517] (ksp [(192, 200, 7, 0, 7, 0)]) kE519 [kC519_0, kC519_1, kC519_2, kC519_3, kC519_4] 30000 (some kC519_2) = true := by decide +kernel
theorem ks519_3 : aseg kS krf kB [kE43, kE89, kE391, kE455, kE503, kE515, kE517] (ksp [(192, 200, 7, 0, 7, 0)]) kE519 [kC519_0, kC519_1, kC519_2, kC519_3, kC519_4] 30000 (some kC519_3) = true := by decide +kernel
theorem ks519_4 : aseg kS krf kB [kE43, kE89, kE391, kE455, kE503, kE515, kE517] (ksp [(192, 200, 7, 0, 7, 0)]) kE519 [kC519_0, kC519_1, kC519_2, kC519_3, kC519_4] 30000 (some kC519_4) = true := by decide +kernel
theorem kok519 : aOK kS krf kB kE519 := aOK_of (kal1 kok43 (kal1 kok89 (kal1 kok391 (kal1 kok455 (kal1 kok503 (kal1 kok515 (kal1 kok517 kal0))))))) (kcl1 ks519_0 (kcl1 ks519_1 (kcl1 ks519_2 (kcl1 ks519_3 (kcl1 ks519_4 kcl0))))) ks519
/-- ColdShodModel.triesWay(IIIII)V -/
def kE520 : aE := (192, 52, ([kvB 0 7, kvB 0 7, kvB 0 7], [], 0, [kvR 102, kvI 0, kvI 1, kvI 2, kvN 40, kvN 1, none, none], []), ([], none), ([], [], none, ([], [])), kvW67)
def kC520_0 : aC := (([kvB 0 7, kvB 0 7, kvB 0 7, kvB 0 1, kvB 0 1], [], 16, [kvR 102, kvI 0, kvI 1, kvI 2, kvN 40, kvN 1, kvI 3, kvI 4], []), ([], []), (333, [(-1, 4)]))
def kC520_1 : aC := (([kvB 0 7, kvB 0 7, kvB 0 7, kvB 0 12], [], 141, [kvR 102, kvI 0, kvI 1, kvI 2, kvN 40, kvN 1, kvI 3, none], []), ([], []), (141, [(-11, 3)]))
def kC520_2 : aC := (([kvB 0 7, kvB 0 7, kvB 0 7, kvB 0 11, (.negSucc 0, .ofNat 7), kvB 1 12], [(102, 8, .inl (5, .ofNat 0))], 195, [kvR 102, kvI 0, kvI 1, kvI 2, kvN 40, kvN 1, kvI 3, kvI 4], []), ([], []), (139, [(-11, 3), (-1, 4)]))
def kC520_3 : aC := (([kvB 0 7, kvB 0 7, kvB 0 7, (.negSucc 0, .ofNat 2147483647)], [(102, 29, .inl (3, .ofNat 0))], 91, [kvR 102, kvI 0, kvI 1, kvI 2, kvN 40, kvN 1, kvN 1, kvN 1], []), ([], []), (166, []))
def kC520_4 : aC := (([kvB 0 7, kvB 0 7, kvB 0 7, kvB 0 1, (.negSucc 0, .ofNat 99)], [(102, 29, .inl (4, .ofNat 0)), (102, 30, .inr (.ofNat 1))], 110, [kvR 102, kvI 0, kvI 1, kvI 2, kvN 40, kvN 1, kvN 1, kvI 3], []), ([], []), (1, [(-1, 3)]))
theorem ks520 : aseg kS krf kB [kE43, kE89, kE392, kE456, kE504, kE516, kE518, kE519] (ksp [(192, 200, 7, 0, 7, 0)]) kE520 [kC520_0, kC520_1, kC520_2, kC520_3, kC520_4] 30000 (none) = true := by decide +kernel
theorem ks520_0 : aseg kS krf kB [kE43, kE89, kE392, kE456, kE504, kE516, kE518, kE519] (ksp [(192, 200, 7, 0, 7, 0)]) kE520 [kC520_0, kC520_1, kC520_2, kC520_3, kC520_4] 30000 (some kC520_0) = true := by decide +kernel
theorem ks520_1 : aseg kS krf kB [kE43, kE89, kE392, kE456, kE504, kE516, kE518, kE519] (ksp [(192, 200, 7, 0, 7, 0)]) kE520 [kC520_0, kC520_1, kC520_2, kC520_3, kC520_4] 30000 (some kC520_1) = true := by decide +kernel
theorem ks520_2 : aseg kS krf kB [kE43, kE89, kE392, kE456, kE504, kE516, kE518, kE519] (ksp [(192, 200, 7, 0, 7, 0)]) kE520 [kC520_0, kC520_1, kC520_2, kC520_3, kC520_4] 30000 (some kC520_2) = true := by decide +kernel
theorem ks520_3 : aseg kS krf kB [kE43, kE89, kE392, kE456, kE504, kE516, kE518, kE519] (ksp [(192, 200, 7, 0, 7, 0)]) kE520 [kC520_0, kC520_1, kC520_2, kC520_3, kC520_4] 30000 (some kC520_3) = true := by decide +kernel
theorem ks520_4 : aseg kS krf kB [kE43, kE89, kE392, kE456, kE504, kE516, kE518, kE519] (ksp [(192, 200, 7, 0, 7, 0)]) kE520 [kC520_0, kC520_1, kC520_2, kC520_3, kC520_4] 30000 (some kC520_4) = true := by decide +kernel
theorem kok520 : aOK kS krf kB kE520 := aOK_of (kal1 kok43 (kal1 kok89 (kal1 kok392 (kal1 kok456 (kal1 kok504 (kal1 kok516 (kal1 kok518 (kal1 kok519 kal0)))))))) (kcl1 ks520_0 (kcl1 ks520_1 (kcl1 ks520_2 (kcl1 ks520_3 (kcl1 ks520_4 kcl0))))) ks520
/-- ColdShodModel.triesWay(IIIII)V -/
def kE521 : aE := (192, 50, ([kvB 0 7, kvB 0 7, kvB 0 7], [], 0, [kvR 102, kvI 0, kvI 1, kvI 2, kvN 39, kvN 3, none, none], []), ([], none), ([], [], none, ([], [])), kvW65)
def kC521_0 : aC := (([kvB 0 7, kvB 0 7, kvB 0 7, kvB 0 1, kvB 0 3], [], 16, [kvR 102, kvI 0, kvI 1, kvI 2, kvN 39, kvN 3, kvI 3, kvI 4], []), ([], []), (335, [(-1, 4)]))
def kC521_1 : aC := (([kvB 0 7, kvB 0 7, kvB 0 7, kvB 0 12], [], 141, [kvR 102, kvI 0, kvI 1, kvI 2, kvN 39, kvN 3, kvI 3, none], []), ([], []), (141, [(-11, 3)]))
def kC521_2 : aC := (([kvB 0 7, kvB 0 7, kvB 0 7, kvB 0 11, (.negSucc 0, .ofNat 7), kvB 1 12], [(102, 8, .inl (5, .ofNat 0))], 195, [kvR 102, kvI 0, kvI 1, kvI 2, kvN 39, kvN 3, kvI 3, kvI 4], []), ([], []), (139, [(-11, 3), (-1, 4)]))
def kC521_3 : aC := (([kvB 0 7, kvB 0 7, kvB 0 7, (.negSucc 0, .ofNat 2147483647)], [(102, 29, .inl (3, .ofNat 0))], 91, [kvR 102, kvI 0, kvI 1, kvI 2, kvN 39, kvN 3, kvN 1, kvN 3], []), ([], []), (166, []))
def kC521_4 : aC := (([kvB 0 7, kvB 0 7, kvB 0 7, kvB 0 3, (.negSucc 0, .ofNat 99)], [(102, 29, .inl (4, .ofNat 0)), (102, 30, .inr (.ofNat 3))], 110, [kvR 102, kvI 0, kvI 1, kvI 2, kvN 39, kvN 3, kvN 1, kvI 3], []), ([], []), (3, [(-1, 3)]))
theorem ks521 : aseg kS krf kB [kE43, kE89, kE393, kE457, kE505, kE513] (ksp [(192, 200, 7, 0, 7, 0)]) kE521 [kC521_0, kC521_1, kC521_2, kC521_3, kC521_4] 30000 (none) = true := by decide +kernel
theorem ks521_0 : aseg kS krf kB [kE43, kE89, kE393, kE457, kE505, kE513] (ksp [(192, 200, 7, 0, 7, 0)]) kE521 [kC521_0, kC521_1, kC521_2, kC521_3, kC521_4] 30000 (some kC521_0) = true := by decide +kernel
theorem ks521_1 : aseg kS krf kB [kE43, kE89, kE393, kE457, kE505, kE513] (ksp [(192, 200, 7, 0, 7, 0)]) kE521 [kC521_0, kC521_1, kC521_2, kC521_3, kC521_4] 30000 (some kC521_1) = true := by decide +kernel
theorem ks521_2 : aseg kS krf kB [kE43, kE89, kE393, kE457, kE505, kE513] (ksp [(192, 200, 7, 0, 7, 0)]) kE521 [kC521_0, kC521_1, kC521_2, kC521_3, kC521_4] 30000 (some kC521_2) = true := by decide +kernel
theorem ks521_3 : aseg kS krf kB [kE43, kE89, kE393, kE457, kE505, kE513] (ksp [(192, 200, 7, 0, 7, 0)]) kE521 [kC521_0, kC521_1, kC521_2, kC521_3, kC521_4] 30000 (some kC521_3) = true := by decide +kernel
theorem ks521_4 : aseg kS krf kB [kE43, kE89, kE393, kE457, kE505, kE513] (ksp [(192, 200, 7, 0, 7, 0)]) kE521 [kC521_0, kC521_1, kC521_2, kC521_3, kC521_4] 30000 (some kC521_4) = true := by decide +kernel
theorem kok521 : aOK kS krf kB kE521 := aOK_of (kal1 kok43 (kal1 kok89 (kal1 kok393 (kal1 kok457 (kal1 kok505 (kal1 kok513 kal0)))))) (kcl1 ks521_0 (kcl1 ks521_1 (kcl1 ks521_2 (kcl1 ks521_3 (kcl1 ks521_4 kcl0))))) ks521
/-- ColdShodModel.triesWay(IIIII)V -/
def kE522 : aE := (192, 51, ([kvB 0 7, kvB 0 7, kvB 0 7], [], 0, [kvR 102, kvI 0, kvI 1, kvI 2, kvN 38, kvN 2, none, none], []), ([], none), ([], [], none, ([], [])), kvW66)
def kC522_0 : aC := (([kvB 0 7, kvB 0 7, kvB 0 7, kvB 0 1, kvB 0 2], [], 16, [kvR 102, kvI 0, kvI 1, kvI 2, kvN 38, kvN 2, kvI 3, kvI 4], []), ([], []), (334, [(-1, 4)]))
def kC522_1 : aC := (([kvB 0 7, kvB 0 7, kvB 0 7, kvB 0 12], [], 141, [kvR 102, kvI 0, kvI 1, kvI 2, kvN 38, kvN 2, kvI 3, none], []), ([], []), (141, [(-11, 3)]))
def kC522_2 : aC := (([kvB 0 7, kvB 0 7, kvB 0 7, kvB 0 11, (.negSucc 0, .ofNat 7), kvB 1 12], [(102, 8, .inl (5, .ofNat 0))], 195, [kvR 102, kvI 0, kvI 1, kvI 2, kvN 38, kvN 2, kvI 3, kvI 4], []), ([], []), (139, [(-11, 3), (-1, 4)]))
def kC522_3 : aC := (([kvB 0 7, kvB 0 7, kvB 0 7, (.negSucc 0, .ofNat 2147483647)], [(102, 29, .inl (3, .ofNat 0))], 91, [kvR 102, kvI 0, kvI 1, kvI 2, kvN 38, kvN 2, kvN 1, kvN 2], []), ([], []), (166, []))
def kC522_4 : aC := (([kvB 0 7, kvB 0 7, kvB 0 7, kvB 0 2, (.negSucc 0, .ofNat 99)], [(102, 29, .inl (4, .ofNat 0)), (102, 30, .inr (.ofNat 2))], 110, [kvR 102, kvI 0, kvI 1, kvI 2, kvN 38, kvN 2, kvN 1, kvI 3], []), ([], []), (2, [(-1, 3)]))
theorem ks522 : aseg kS krf kB [kE43, kE89, kE394, kE458, kE506, kE514, kE521] (ksp [(192, 200, 7, 0, 7, 0)]) kE522 [kC522_0, kC522_1, kC522_2, kC522_3, kC522_4] 30000 (none) = true := by decide +kernel
theorem ks522_0 : aseg kS krf kB [kE43, kE89, kE394, kE458, kE506, kE514, kE521] (ksp [(192, 200, 7, 0, 7, 0)]) kE522 [kC522_0, kC522_1, kC522_2, kC522_3, kC522_4] 30000 (some kC522_0) = true := by decide +kernel
theorem ks522_1 : aseg kS krf kB [kE43, kE89, kE394, kE458, kE506, kE514, kE521] (ksp [(192, 200, 7, 0, 7, 0)]) kE522 [kC522_0, kC522_1, kC522_2, kC522_3, kC522_4] 30000 (some kC522_1) = true := by decide +kernel
theorem ks522_2 : aseg kS krf kB [kE43, kE89, kE394, kE458, kE506, kE514, kE521] (ksp [(192, 200, 7, 0, 7, 0)]) kE522 [kC522_0, kC522_1, kC522_2, kC522_3, kC522_4] 30000 (some kC522_2) = true := by decide +kernel
theorem ks522_3 : aseg kS krf kB [kE43, kE89, kE394, kE458, kE506, kE514, kE521] (ksp [(192, 200, 7, 0, 7, 0)]) kE522 [kC522_0, kC522_1, kC522_2, kC522_3, kC522_4] 30000 (some kC522_3) = true := by decide +kernel
theorem ks522_4 : aseg kS krf kB [kE43, kE89, kE394, kE458, kE506, kE514, kE521] (ksp [(192, 200, 7, 0, 7, 0)]) kE522 [kC522_0, kC522_1, kC522_2, kC522_3, kC522_4] 30000 (some kC522_4) = true := by decide +kernel
theorem kok522 : aOK kS krf kB kE522 := aOK_of (kal1 kok43 (kal1 kok89 (kal1 kok394 (kal1 kok458 (kal1 kok506 (kal1 kok514 (kal1 kok521 kal0))))))) (kcl1 ks522_0 (kcl1 ks522_1 (kcl1 ks522_2 (kcl1 ks522_3 (kcl1 ks522_4 kcl0))))) ks522
/-- ColdShodModel.triesWay(IIIII)V -/
def kE523 : aE := (192, 51, ([kvB 0 7, kvB 0 7, kvB 0 7], [], 0, [kvR 102, kvI 0, kvI 1, kvI 2, kvN 37, kvN 2, none, none], []), ([], none), ([], [], none, ([], [])), kvW66)
def kC523_0 : aC := (([kvB 0 7, kvB 0 7, kvB 0 7, kvB 0 1, kvB 0 2], [], 16, [kvR 102, kvI 0, kvI 1, kvI 2, kvN 37, kvN 2, kvI 3, kvI 4], []), ([], []), (334, [(-1, 4)]))
def kC523_1 : aC := (([kvB 0 7, kvB 0 7, kvB 0 7, kvB 0 12], [], 141, [kvR 102, kvI 0, kvI 1, kvI 2, kvN 37, kvN 2, kvI 3, none], []), ([], []), (141, [(-11, 3)]))
def kC523_2 : aC := (([kvB 0 7, kvB 0 7, kvB 0 7, kvB 0 11, (.negSucc 0, .ofNat 7), kvB 1 12], [(102, 8, .inl (5, .ofNat 0))], 195, [kvR 102, kvI 0, kvI 1, kvI 2, kvN 37, kvN 2, kvI 3, kvI 4], []), ([], []), (139, [(-11, 3), (-1, 4)]))
def kC523_3 : aC := (([kvB 0 7, kvB 0 7, kvB 0 7, (.negSucc 0, .ofNat 2147483647)], [(102, 29, .inl (3, .ofNat 0))], 91, [kvR 102, kvI 0, kvI 1, kvI 2, kvN 37, kvN 2, kvN 1, kvN 2], []), ([], []), (166, []))
def kC523_4 : aC := (([kvB 0 7, kvB 0 7, kvB 0 7, kvB 0 2, (.negSucc 0, .ofNat 99)], [(102, 29, .inl (4, .ofNat 0)), (102, 30, .inr (.ofNat 2))], 110, [kvR 102, kvI 0, kvI 1, kvI 2, kvN 37, kvN 2, kvN 1, kvI 3], []), ([], []), (2, [(-1, 3)]))
theorem ks523 : aseg kS krf kB [kE43, kE89, kE395, kE459, kE507, kE515, kE521] (ksp [(192, 200, 7, 0, 7, 0)]) kE523 [kC523_0, kC523_1, kC523_2, kC523_3, kC523_4] 30000 (none) = true := by decide +kernel
theorem ks523_0 : aseg kS krf kB [kE43, kE89, kE395, kE459, kE507, kE515, kE521] (ksp [(192, 200, 7, 0, 7, 0)]) kE523 [kC523_0, kC523_1, kC523_2, kC523_3, kC523_4] 30000 (some kC523_0) = true := by decide +kernel
theorem ks523_1 : aseg kS krf kB [kE43, kE89, kE395, kE459, kE507, kE515, kE521] (ksp [(192, 200, 7, 0, 7, 0)]) kE523 [kC523_0, kC523_1, kC523_2, kC523_3, kC523_4] 30000 (some kC523_1) = true := by decide +kernel
theorem ks523_2 : aseg kS krf kB [kE43, kE89, kE395, kE459, kE507, kE515, kE521] (ksp [(192, 200, 7, 0, 7, 0)]) kE523 [kC523_0, kC523_1, kC523_2, kC523_3, kC523_4] 30000 (some kC523_2) = true := by decide +kernel
theorem ks523_3 : aseg kS krf kB [kE43, kE89, kE395, kE459, kE507, kE515, kE521] (ksp [(192, 200, 7, 0, 7, 0)]) kE523 [kC523_0, kC523_1, kC523_2, kC523_3, kC523_4] 30000 (some kC523_3) = true := by decide +kernel
theorem ks523_4 : aseg kS krf kB [kE43, kE89, kE395, kE459, kE507, kE515, kE521] (ksp [(192, 200, 7, 0, 7, 0)]) kE523 [kC523_0, kC523_1, kC523_2, kC523_3, kC523_4] 30000 (some kC523_4) = true := by decide +kernel
theorem kok523 : aOK kS krf kB kE523 := aOK_of (kal1 kok43 (kal1 kok89 (kal1 kok395 (kal1 kok459 (kal1 kok507 (kal1 kok515 (kal1 kok521 kal0))))))) (kcl1 ks523_0 (kcl1 ks523_1 (kcl1 ks523_2 (kcl1 ks523_3 (kcl1 ks523_4 kcl0))))) ks523
