/-! ENTRIES and their checks: printed by a program (wip/ai). -/
/-- ColdShodModel.triesWay(IIIII)V -/
def kE449 : aE := (192, 48, ([kvB 0 7, kvB 0 7, kvB 0 7], [], 0, [kvR 102, kvI 0, kvI 1, kvI 2, kvN 111, kvN 5, none, none], []), ([], none), ([], [], none, ([], [])), kvW63)
def kC449_0 : aC := (([kvB 0 7, kvB 0 7, kvB 0 7, kvB 0 1, kvB 0 5], [], 16, [kvR 102, kvI 0, kvI 1, kvI 2, kvN 111, kvN 5, kvI 3, kvI 4], []), ([], []), (337, [(-1, 4)]))
def kC449_1 : aC := (([kvB 0 7, kvB 0 7, kvB 0 7, kvB 0 12], [], 141, [kvR 102, kvI 0, kvI 1, kvI 2, kvN 111, kvN 5, kvI 3, none], []), ([], []), (141, [(-11, 3)]))
def kC449_2 : aC := (([kvB 0 7, kvB 0 7, kvB 0 7, kvB 0 11, (.negSucc 0, .ofNat 7), kvB 1 12], [(102, 8, .inl (5, .ofNat 0))], 195, [kvR 102, kvI 0, kvI 1, kvI 2, kvN 111, kvN 5, kvI 3, kvI 4], []), ([], []), (139, [(-11, 3), (-1, 4)]))
def kC449_3 : aC := (([kvB 0 7, kvB 0 7, kvB 0 7, (.negSucc 0, .ofNat 2147483647)], [(102, 29, .inl (3, .ofNat 0))], 91, [kvR 102, kvI 0, kvI 1, kvI 2, kvN 111, kvN 5, kvN 1, kvN 5], []), ([], []), (166, []))
def kC449_4 : aC := (([kvB 0 7, kvB 0 7, kvB 0 7, kvB 0 5, (.negSucc 0, .ofNat 99)], [(102, 29, .inl (4, .ofNat 0)), (102, 30, .inr (.ofNat 5))], 110, [kvR 102, kvI 0, kvI 1, kvI 2, kvN 111, kvN 5, kvN 1, kvI 3], []), ([], []), (5, [(-1, 3)]))
theorem ks449 : aseg kS krf kB [kE43, kE89, kE321, kE433] (ksp [(192, 200, 7, 0, 7, 0)]) kE449 [kC449_0, kC449_1, kC449_2, kC449_3, kC449_4] 30000 (none) = true := by decide +kernel
theorem ks449_0 : aseg kS krf kB [kE43, kE89, kE321, kE433] (ksp [(192, 200, 7, 0, 7, 0)]) kE449 [kC449_0, kC449_1, kC449_2, kC449_3, kC449_4] 30000 (some kC449_0) = true := by decide +kernel
theorem ks449_1 : aseg kS krf kB [kE43, kE89, kE321, kE433] (ksp [(192, 200, 7, 0, 7, 0)]) kE449 [kC449_0, kC449_1, kC449_2, kC449_3, kC449_4] 30000 (some kC449_1) = true := by decide +kernel
theorem ks449_2 : aseg kS krf kB [kE43, kE89, kE321, kE433] (ksp [(192, 200, 7, 0, 7, 0)]) kE449 [kC449_0, kC449_1, kC449_2, kC449_3, kC449_4] 30000 (some kC449_2) = true := by decide +kernel
theorem ks449_3 : aseg kS krf kB [kE43, kE89, kE321, kE433] (ksp [(192, 200, 7, 0, 7, 0)]) kE449 [kC449_0, kC449_1, kC449_2, kC449_3, kC449_4] 30000 (some kC449_3) = true := by decide +kernel
theorem ks449_4 : aseg kS krf kB [kE43, kE89, kE321, kE433] (ksp [(192, 200, 7, 0, 7, 0)]) kE449 [kC449_0, kC449_1, kC449_2, kC449_3, kC449_4] 30000 (some kC449_4) = true := by decide +kernel
theorem kok449 : aOK kS krf kB kE449 := aOK_of (kal1 kok43 (kal1 kok89 (kal1 kok321 (kal1 kok433 kal0)))) (kcl1 ks449_0 (kcl1 ks449_1 (kcl1 ks449_2 (kcl1 ks449_3 (kcl1 ks449_4 kcl0))))) ks449
/-- ColdShodModel.triesWay(IIIII)V -/
def kE450 : aE := (192, 49, ([kvB 0 7, kvB 0 7, kvB 0 7], [], 0, [kvR 102, kvI 0, kvI 1, kvI 2, kvN 110, kvN 4, none, none], []), ([], none), ([], [], none, ([], [])), kvW64)
def kC450_0 : aC := (([kvB 0 7, kvB 0 7, kvB 0 7, kvB 0 1, kvB 0 4], [], 16, [kvR 102, kvI 0, kvI 1, kvI 2, kvN 110, kvN 4, kvI 3, kvI 4], []), ([], []), (336, [(-1, 4)]))
def kC450_1 : aC := (([kvB 0 7, kvB 0 7, kvB 0 7, kvB 0 12], [], 141, [kvR 102, kvI 0, kvI 1, kvI 2, kvN 110, kvN 4, kvI 3, none], []), ([], []), (141, [(-11, 3)]))
def kC450_2 : aC := (([kvB 0 7, kvB 0 7, kvB 0 7, kvB 0 11, (.negSucc 0, .ofNat 7), kvB 1 12], [(102, 8, .inl (5, .ofNat 0))], 195, [kvR 102, kvI 0, kvI 1, kvI 2, kvN 110, kvN 4, kvI 3, kvI 4], []), ([], []), (139, [(-11, 3), (-1, 4)]))
def kC450_3 : aC := (([kvB 0 7, kvB 0 7, kvB 0 7, (.negSucc 0, .ofNat 2147483647)], [(102, 29, .inl (3, .ofNat 0))], 91, [kvR 102, kvI 0, kvI 1, kvI 2, kvN 110, kvN 4, kvN 1, kvN 4], []), ([], []), (166, []))
def kC450_4 : aC := (([kvB 0 7, kvB 0 7, kvB 0 7, kvB 0 4, (.negSucc 0, .ofNat 99)], [(102, 29, .inl (4, .ofNat 0)), (102, 30, .inr (.ofNat 4))], 110, [kvR 102, kvI 0, kvI 1, kvI 2, kvN 110, kvN 4, kvN 1, kvI 3], []), ([], []), (4, [(-1, 3)]))
theorem ks450 : aseg kS krf kB [kE43, kE89, kE322, kE434, kE449] (ksp [(192, 200, 7, 0, 7, 0)]) kE450 [kC450_0, kC450_1, kC450_2, kC450_3, kC450_4] 30000 (none) = true := by decide +kernel
theorem ks450_0 : aseg kS krf kB [kE43, kE89, kE322, kE434, kE449] (ksp [(192, 200, 7, 0, 7, 0)]) kE450 [kC450_0, kC450_1, kC450_2, kC450_3, kC450_4] 30000 (some kC450_0) = true := by decide +kernel
theorem ks450_1 : aseg kS krf kB [kE43, kE89, kE322, kE434, kE449] (ksp [(192, 200, 7, 0, 7, 0)]) kE450 [kC450_0, kC450_1, kC450_2, kC450_3, kC450_4] 30000 (some kC450_1) = true := by decide +kernel
theorem ks450_2 : aseg kS krf kB [kE43, kE89, kE322, kE434, kE449] (ksp [(192, 200, 7, 0, 7, 0)]) kE450 [kC450_0, kC450_1, kC450_2, kC450_3, kC450_4] 30000 (some kC450_2) = true := by decide +kernel
theorem ks450_3 : aseg kS krf kB [kE43, kE89, kE322, kE434, kE449] (ksp [(192, 200, 7, 0, 7, 0)]) kE450 [kC450_0, kC450_1, kC450_2, kC450_3, kC450_4] 30000 (some kC450_3) = true := by decide +kernel
theorem ks450_4 : aseg kS krf kB [kE43, kE89, kE322, kE434, kE449] (ksp [(192, 200, 7, 0, 7, 0)]) kE450 [kC450_0, kC450_1, kC450_2, kC450_3, kC450_4] 30000 (some kC450_4) = true := by decide +kernel
theorem kok450 : aOK kS krf kB kE450 := aOK_of (kal1 kok43 (kal1 kok89 (kal1 kok322 (kal1 kok434 (kal1 kok449 kal0))))) (kcl1 ks450_0 (kcl1 ks450_1 (kcl1 ks450_2 (kcl1 ks450_3 (kcl1 ks450_4 kcl0))))) ks450
/-- ColdShodModel.triesWay(IIIII)V -/
def kE451 : aE := (192, 49, ([kvB 0 7, kvB 0 7, kvB 0 7], [], 0, [kvR 102, kvI 0, kvI 1, kvI 2, kvN 109, kvN 4, none, none], []), ([], none), ([], [], none, ([], [])), kvW64)
def kC451_0 : aC := (([kvB 0 7, kvB 0 7, kvB 0 7, kvB 0 1, kvB 0 4], [], 16, [kvR 102, kvI 0, kvI 1, kvI 2, kvN 109, kvN 4, kvI 3, kvI 4], []), ([], []), (336, [(-1, 4)]))
def kC451_1 : aC := (([kvB 0 7, kvB 0 7, kvB 0 7, kvB 0 12], [], 141, [kvR 102, kvI 0, kvI 1, kvI 2, kvN 109, kvN 4, kvI 3, none], []), ([], []), (141, [(-11, 3)]))
def kC451_2 : aC := (([kvB 0 7, kvB 0 7, kvB 0 7, kvB 0 11, (.negSucc 0, .ofNat 7), kvB 1 12], [(102, 8, .inl (5, .ofNat 0))], 195, [kvR 102, kvI 0, kvI 1, kvI 2, kvN 109, kvN 4, kvI 3, kvI 4], []), ([], []), (139, [(-11, 3), (-1, 4)]))
def kC451_3 : aC := (([kvB 0 7, kvB 0 7, kvB 0 7, (.negSucc 0, .ofNat 2147483647)], [(102, 29, .inl (3, .ofNat 0))], 91, [kvR 102, kvI 0, kvI 1, kvI 2, kvN 109, kvN 4, kvN 1, kvN 4], []), ([], []), (166, []))
def kC451_4 : aC := (([kvB 0 7, kvB 0 7, kvB 0 7, kvB 0 4, (.negSucc 0, .ofNat 99)], [(102, 29, .inl (4, .ofNat 0)), (102, 30, .inr (.ofNat 4))], 110, [kvR 102, kvI 0, kvI 1, kvI 2, kvN 109, kvN 4, kvN 1, kvI 3], []), ([], []), (4, [(-1, 3)]))
theorem ks451 : aseg kS krf kB [kE43, kE89, kE323, kE435, kE449] (ksp [(192, 200, 7, 0, 7, 0)]) kE451 [kC451_0, kC451_1, kC451_2, kC451_3, kC451_4] 30000 (none) = true := by decide +kernel
theorem ks451_0 : aseg kS krf kB [kE43, kE89, kE323, kE435, kE449] (ksp [(192, 200, 7, 0, 7, 0)]) kE451 [kC451_0, kC451_1, kC451_2, kC451_3, kC451_4] 30000 (some kC451_0) = true := by decide +kernel
theorem ks451_1 : aseg kS krf kB [kE43, kE89, kE323, kE435, kE449] (ksp [(192, 200, 7, 0, 7, 0)]) kE451 [kC451_0, kC451_1, kC451_2, kC451_3, kC451_4] 30000 (some kC451_1) = true := by decide +kernel
theorem ks451_2 : aseg kS krf kB [kE43, kE89, kE323, kE435, kE449] (ksp [(192, 200, 7, 0, 7, 0)]) kE451 [kC451_0, kC451_1, kC451_2, kC451_3, kC451_4] 30000 (some kC451_2) = true := by decide +kernel
theorem ks451_3 : aseg kS krf kB [kE43, kE89, kE323, kE435, kE449] (ksp [(192, 200, 7, 0, 7, 0)]) kE451 [kC451_0, kC451_1, kC451_2, kC451_3, kC451_4] 30000 (some kC451_3) = true := by decide +kernel
theorem ks451_4 : aseg kS krf kB [kE43, kE89, kE323, kE435, kE449] (ksp [(192, 200, 7, 0, 7, 0)]) kE451 [kC451_0, kC451_1, kC451_2, kC451_3, kC451_4] 30000 (some kC451_4) = true := by decide +kernel
theorem kok451 : aOK kS krf kB kE451 := aOK_of (kal1 kok43 (kal1 kok89 (kal1 kok323 (kal1 kok435 (kal1 kok449 kal0))))) (kcl1 ks451_0 (kcl1 ks451_1 (kcl1 ks451_2 (kcl1 ks451_3 (kcl1 ks451_4 kcl0))))) ks451
/-- ColdShodModel.triesWay(IIIII)V -/
def kE452 : aE := (192, 50, ([kvB 0 7, kvB 0 7, kvB 0 7], [], 0, [kvR 102, kvI 0, kvI 1, kvI 2, kvN 108, kvN 3, none, none], []), ([], none), ([], [], none, ([], [])), kvW65)
def kC452_0 : aC := (([kvB 0 7, kvB 0 7, kvB 0 7, kvB 0 1, kvB 0 3], [], 16, [kvR 102, kvI 0, kvI 1, kvI 2, kvN 108, kvN 3, kvI 3, kvI 4], []), ([], []), (335, [(-1, 4)]))
def kC452_1 : aC := (([kvB 0 7, kvB 0 7, kvB 0 7, kvB 0 12], [], 141, [kvR 102, kvI 0, kvI 1, kvI 2, kvN 108, kvN 3, kvI 3, none], []), ([], []), (141, [(-11, 3)]))
def kC452_2 : aC := (([kvB 0 7, kvB 0 7, kvB 0 7, kvB 0 11, (.negSucc 0, .ofNat 7), kvB 1 12], [(102, 8, .inl (5, .ofNat 0))], 195, [kvR 102, kvI 0, kvI 1, kvI 2, kvN 108, kvN 3, kvI 3, kvI 4], []), ([], []), (139, [(-11, 3), (-1, 4)]))
def kC452_3 : aC := (([kvB 0 7, kvB 0 7, kvB 0 7, (.negSucc 0, .ofNat 2147483647)], [(102, 29, .inl (3, .ofNat 0))], 91, [kvR 102, kvI 0, kvI 1, kvI 2, kvN 108, kvN 3, kvN 1, kvN 3], []), ([], []), (166, []))
def kC452_4 : aC := (([kvB 0 7, kvB 0 7, kvB 0 7, kvB 0 3, (.negSucc 0, .ofNat 99)], [(102, 29, .inl (4, .ofNat 0)), (102, 30, .inr (.ofNat 3))], 110, [kvR 102, kvI 0, kvI 1, kvI 2, kvN 108, kvN 3, kvN 1, kvI 3], []), ([], []), (3, [(-1, 3)]))
theorem ks452 : aseg kS krf kB [kE43, kE89, kE324, kE436, kE450, kE451] (ksp [(192, 200, 7, 0, 7, 0)]) kE452 [kC452_0, kC452_1, kC452_2, kC452_3, kC452_4] 30000 (none) = true := by decide +kernel
theorem ks452_0 : aseg kS krf kB [kE43, kE89, kE324, kE436, kE450, kE451] (ksp [(192, 200, 7, 0, 7, 0)]) kE452 [kC452_0, kC452_1, kC452_2, kC452_3, kC452_4] 30000 (some kC452_0) = true := by decide +kernel
theorem ks452_1 : aseg kS krf kB [kE43, kE89, kE324, kE436, kE450, kE451] (ksp [(192, 200, 7, 0, 7, 0)]) kE452 [kC452_0, kC452_1, kC452_2, kC452_3, kC452_4] 30000 (some kC452_1) = true := by decide +kernel
theorem ks452_2 : aseg kS krf kB [kE43, kE89, kE324, kE436, kE450, kE451] (ksp [(192, 200, 7, 0, 7, 0)]) kE452 [kC452_0, kC452_1, kC452_2, kC452_3, kC452_4] 30000 (some kC452_2) = true := by decide +kernel
theorem ks452_3 : aseg kS krf kB [kE43, kE89, kE324, kE436, kE450, kE451] (ksp [(192, 200, 7, 0, 7, 0)]) kE452 [kC452_0, kC452_1, kC452_2, kC452_3, kC452_4] 30000 (some kC452_3) = true := by decide +kernel
theorem ks452_4 : aseg kS krf kB [kE43, kE89, kE324, kE436, kE450, kE451] (ksp [(192, 200, 7, 0, 7, 0)]) kE452 [kC452_0, kC452_1, kC452_2, kC452_3, kC452_4] 30000 (some kC452_4) = true := by decide +kernel
theorem kok452 : aOK kS krf kB kE452 := aOK_of (kal1 kok43 (kal1 kok89 (kal1 kok324 (kal1 kok436 (kal1 kok450 (kal1 kok451 kal0)))))) (kcl1 ks452_0 (kcl1 ks452_1 (kcl1 ks452_2 (kcl1 ks452_3 (kcl1 ks452_4 kcl0))))) ks452
/-- ColdShodModel.triesWay(IIIII)V -/
def kE453 : aE := (192, 49, ([kvB 0 7, kvB 0 7, kvB 0 7], [], 0, [kvR 102, kvI 0, kvI 1, kvI 2, kvN 107, kvN 4, none, none], []), ([], none), ([], [], none, ([], [])), kvW64)
def kC453_0 : aC := (([kvB 0 7, kvB 0 7, kvB 0 7, kvB 0 1, kvB 0 4], [], 16, [kvR 102, kvI 0, kvI 1, kvI 2, kvN 107, kvN 4, kvI 3, kvI 4], []), ([], []), (336, [(-1, 4)]))
def kC453_1 : aC := (([kvB 0 7, kvB 0 7, kvB 0 7, kvB 0 12], [], 141, [kvR 102, kvI 0, kvI 1, kvI 2, kvN 107, kvN 4, kvI 3, none], []), ([], []), (141, [(-11, 3)]))
def kC453_2 : aC := (([kvB 0 7, kvB 0 7, kvB 0 7, kvB 0 11, (.negSucc 0, .ofNat 7), kvB 1 12], [(102, 8, .inl (5, .ofNat 0))], 195, [kvR 102, kvI 0, kvI 1, kvI 2, kvN 107, kvN 4, kvI 3, kvI 4], []), ([], []), (139, [(-11, 3), (-1, 4)]))
def kC453_3 : aC := (([kvB 0 7, kvB 0 7, kvB 0 7, (.negSucc 0, .ofNat 2147483647)], [(102, 29, .inl (3, .ofNat 0))], 91, [kvR 102, kvI 0, kvI 1, kvI 2, kvN 107, kvN 4, kvN 1, kvN 4], []), ([], []), (166, []))
def kC453_4 : aC := (([kvB 0 7, kvB 0 7, kvB 0 7, kvB 0 4, (.negSucc 0, .ofNat 99)], [(102, 29, .inl (4, .ofNat 0)), (102, 30, .inr (.ofNat 4))], 110, [kvR 102, kvI 0, kvI 1, kvI 2, kvN 107, kvN 4, kvN 1, kvI 3], []), ([], []), (4, [(-1, 3)]))
theorem ks453 : aseg kS krf kB [kE43, kE89, kE325, kE437, kE449] (ksp [(192, 200, 7, 0, 7, 0)]) kE453 [kC453_0, kC453_1, kC453_2, kC453_3, kC453_4] 30000 (none) = true := by decide +kernel
theorem ks453_0 : aseg kS krf kB [kE43, kE89, kE325, kE437, kE449] (ksp [(192, 200, 7, 0, 7, 0)]) kE453 [kC453_0, kC453_1, kC453_2, kC453_3, kC453_4] 30000 (some kC453_0) = true := by decide +kernel
theorem ks453_1 : aseg kS krf kB [kE43, kE89, kE325, kE437, kE449] (ksp [(192, 200, 7, 0, 7, 0)]) kE453 [kC453_0, kC453_1, kC453_2, kC453_3, kC453_4] 30000 (some kC453_1) = true := by decide +kernel
theorem ks453_2 : aseg kS krf kB [kE43, kE89, kE325, kE437, kE449] (ksp [(192, 200, 7, 0, 7, 0)]) kE453 [kC453_0, kC453_1, kC453_2, kC453_3, kC453_4] 30000 (some kC453_2) = true := by decide +kernel
theorem ks453_3 : aseg kS krf kB [kE43, kE89, kE325, kE437, kE449] (ksp [(192, 200, 7, 0, 7, 0)]) kE453 [kC453_0, kC453_1, kC453_2, kC453_3, kC453_4] 30000 (some kC453_3) = true := by decide +kernel
theorem ks453_4 : aseg kS krf kB [kE43, kE89, kE325, kE437, kE449] (ksp [(192, 200, 7, 0, 7, 0)]) kE453 [kC453_0, kC453_1, kC453_2, kC453_3, kC453_4] 30000 (some kC453_4) = true := by decide +kernel
theorem kok453 : aOK kS krf kB kE453 := aOK_of (kal1 kok43 (kal1 kok89 (kal1 kok325 (kal1 kok437 (kal1 kok449 kal0))))) (kcl1 ks453_0 (kcl1 ks453_1 (kcl1 ks453_2 (kcl1 ks453_3 (kcl1 ks453_4 kcl0))))) ks453
/-- ColdShodModel.triesWay(IIIII)V -/
def kE454 : aE := (192, 50, ([kvB 0 7, kvB 0 7, kvB 0 7], [], 0, [kvR 102, kvI 0, kvI 1, kvI 2, kvN 106, kvN 3, none, none], []), ([], none), ([], [], none, ([], [])), kvW65)
def kC454_0 : aC := (([kvB 0 7, kvB 0 7, kvB 0 7, kvB 0 1, kvB 0 3], [], 16, [kvR 102, kvI 0, kvI 1, kvI 2, kvN 106, kvN 3, kvI 3, kvI 4], []), ([], []), (335, [(-1, 4)]))
def kC454_1 : aC := (([kvB 0 7, kvB 0 7, kvB 0 7, kvB 0 12], [], 141, [kvR 102, kvI 0, kvI 1, kvI 2, kvN 106, kvN 3, kvI 3, none], []), ([], []), (141, [(-11, 3)]))
def kC454_2 : aC := (([kvB 0 7, kvB 0 7, kvB 0 7, kvB 0 11, (.negSucc 0, .ofNat 7), kvB 1 12], [(102, 8, .inl (5, .ofNat 0))], 195, [kvR 102, kvI 0, kvI 1, kvI 2, kvN 106, kvN 3, kvI 3, kvI 4], []), ([], []), (139, [(-11, 3), (-1, 4)]))
def kC454_3 : aC := (([kvB 0 7, kvB 0 7, kvB 0 7, (.negSucc 0, .ofNat 2147483647)], [(102, 29, .inl (3, .ofNat 0))], 91, [kvR 102, kvI 0, kvI 1, kvI 2, kvN 106, kvN 3, kvN 1, kvN 3], []), ([], []), (166, []))
def kC454_4 : aC := (([kvB 0 7, kvB 0 7, kvB 0 7, kvB 0 3, (.negSucc 0, .ofNat 99)], [(102, 29, .inl (4, .ofNat 0)), (102, 30, .inr (.ofNat 3))], 110, [kvR 102, kvI 0, kvI 1, kvI 2, kvN 106, kvN 3, kvN 1, kvI 3], []), ([], []), (3, [(-1, 3)]))
theorem ks454 : aseg kS krf kB [kE43, kE89, kE326, kE438, kE450, kE453] (ksp [(192, 200, 7, 0, 7, 0)]) kE454 [kC454_0, kC454_1, kC454_2, kC454_3, kC454_4] 30000 (none) = true := by decide +kernel
theorem ks454_0 : aseg kS krf kB [kE43, kE89, kE326, kE438, kE450, kE453] (ksp [(192, 200, 7, 0, 7, 0)]) kE454 [kC454_0, kC454_1, kC454_2, kC454_3, kC454_4] 30000 (some kC454_0) = true := by decide +kernel
theorem ks454_1 : aseg kS krf kB [kE43, kE89, kE326, kE438, kE450, kE453] (ksp [(192, 200, 7, 0, 7, 0)]) kE454 [kC454_0, kC454_1, kC454_2, kC454_3, kC454_4] 30000 (some kC454_1) = true := by decide +kernel
theorem ks454_2 : aseg kS krf kB [kE43, kE89, kE326, kE438, kE450, kE453] (ksp [(192, 200, 7, 0, 7, 0)]) kE454 [kC454_0, kC454_1, kC454_2, kC454_3, kC454_4] 30000 (some kC454_2) = true := by decide +kernel
theorem ks454_3 : aseg kS krf kB [kE43, kE89, kE326, kE438, kE450, kE453] (ksp [(192, 200, 7, 0, 7, 0)]) kE454 [kC454_0, kC454_1, kC454_2, kC454_3, kC454_4] 30000 (some kC454_3) = true := by decide +kernel
theorem ks454_4 : aseg kS krf kB [kE43, kE89, kE326, kE438, kE450, kE453] (ksp [(192, 200, 7, 0, 7, 0)]) kE454 [kC454_0, kC454_1, kC454_2, kC454_3, kC454_4] 30000 (some kC454_4) = true := by decide +kernel
theorem kok454 : aOK kS krf kB kE454 := aOK_of (kal1 kok43 (kal1 kok89 (kal1 kok326 (kal1 kok438 (kal1 kok450 (kal1 kok453 kal0)))))) (kcl1 ks454_0 (kcl1 ks454_1 (kcl1 ks454_2 (kcl1 ks454_3 (kcl1 ks454_4 kcl0))))) ks454
/-- ColdShodModel.triesWay(IIIII)V -/
def kE455 : aE := (192, 50, ([kvB 0 7, kvB 0 7, kvB 0 7], [], 0, [kvR 102, kvI 0, kvI 1, kvI 2, kvN 105, kvN 3, none, none], []), ([], none), ([], [], none, ([], [])), kvW65)
def kC455_0 : aC := (([kvB 0 7, kvB 0 7, kvB 0 7, kvB 0 1, kvB 0 3], [], 16, [kvR 102, kvI 0, kvI 1, kvI 2, kvN 105, kvN 3, kvI 3, kvI 4], []), ([], []), (335, [(-1, 4)]))
def kC455_1 : aC := (([kvB 0 7, kvB 0 7, kvB 0 7, kvB 0 12], [], 141, [kvR 102, kvI 0, kvI 1, kvI 2, kvN 105, kvN 3, kvI 3, none], []), ([], []), (141, [(-11, 3)]))
def kC455_2 : aC := (([kvB 0 7, kvB 0 7, kvB 0 7, kvB 0 11, (.negSucc 0, .ofNat 7), kvB 1 12], [(102, 8, .inl (5, .ofNat 0))], 195, [kvR 102, kvI 0, kvI 1, kvI 2, kvN 105, kvN 3, kvI 3, kvI 4], []), ([], []), (139, [(-11, 3), (-1, 4)]))
def kC455_3 : aC := (([kvB 0 7, kvB 0 7, kvB 0 7, (.negSucc 0, .ofNat 2147483647)], [(102, 29, .inl (3, .ofNat 0))], 91, [kvR 102, kvI 0, kvI 1, kvI 2, kvN 105, kvN 3, kvN 1, kvN 3], []), ([], []), (166, []))
def kC455_4 : aC := (([kvB 0 7, kvB 0 7, kvB 0 7, kvB 0 3, (.negSucc 0, .ofNat 99)], [(102, 29, .inl (4, .ofNat 0)), (102, 30, .inr (.ofNat 3))], 110, [kvR 102, kvI 0, kvI 1, kvI 2, kvN 105, kvN 3, kvN 1, kvI 3], []), ([], []), (3, [(-1, 3)]))
theorem ks455 : aseg kS krf kB [kE43, kE89, kE327, kE439, kE451, kE453] (ksp [(192, 200, 7, 0, 7, 0)]) kE455 [kC455_0, kC455_1, kC455_2, kC455_3, kC455_4] 30000 (none) = true := by decide +kernel
theorem ks455_0 : aseg kS krf kB [kE43, kE89, kE327, kE439, kE451, kE453] (ksp [(192, 200, 7, 0, 7, 0)]) kE455 [kC455_0, kC455_1, kC455_2, kC455_3, kC455_4] 30000 (some kC455_0) = true := by decide +kernel
theorem ks455_1 : aseg kS krf kB [kE43, kE89, kE327, kE439, kE451, kE453] (ksp [(192, 200, 7, 0, 7, 0)]) kE455 [kC455_0, kC455_1, kC455_2, kC455_3, kC455_4] 30000 (some kC455_1) = true := by decide +kernel
theorem ks455_2 : aseg kS krf kB [kE43, kE89, kE327, kE439, kE451, kE453] (ksp [(192, 200, 7, 0, 7, 0)]) kE455 [kC455_0, kC455_1, kC455_2, kC455_3, kC455_4] 30000 (some kC455_2) = true := by decide +kernel
theorem ks455_3 : aseg kS krf kB [kE43, kE89, kE327, kE439, kE451, kE453] (ksp [(192, 200, 7, 0, 7, 0)]) kE455 [kC455_0, kC455_1, kC455_2, kC455_3, kC455_4] 30000 (some kC455_3) = true := by decide +kernel
theorem ks455_4 : aseg kS krf kB [kE43, kE89, kE327, kE439, kE451, kE453] (ksp [(192, 200, 7, 0, 7, 0)]) kE455 [kC455_0, kC455_1, kC455_2, kC455_3, kC455_4] 30000 (some kC455_4) = true := by decide +kernel
theorem kok455 : aOK kS krf kB kE455 := aOK_of (kal1 kok43 (kal1 kok89 (kal1 kok327 (kal1 kok439 (kal1 kok451 (kal1 kok453 kal0)))))) (kcl1 ks455_0 (kcl1 ks455_1 (kcl1 ks455_2 (kcl1 ks455_3 (kcl1 ks455_4 kcl0))))) ks455
/-- ColdShodModel.triesWay(IIIII)V -/
def kE456 : aE := (192, 51, ([kvB 0 7, kvB 0 7, kvB 0 7], [], 0, [kvR 102, kvI 0, kvI 1, kvI 2, kvN 104, kvN 2, none, none], []), ([], none), ([], [], none, ([], [])), kvW66)
def kC456_0 : aC := (([kvB 0 7, kvB 0 7, kvB 0 7, kvB 0 1, kvB 0 2], [], 16, [kvR 102, kvI 0, kvI 1, kvI 2, kvN 104, kvN 2, kvI 3, kvI 4], []), ([], []), (334, [(-1, 4)]))
def kC456_1 : aC := (([kvB 0 7, kvB 0 7, kvB 0 7, kvB 0 12], [], 141, [kvR 102, kvI 0, kvI 1, kvI 2, kvN 104, kvN 2, kvI 3, none], []), ([], []), (141, [(-11, 3)]))
def kC456_2 : aC := (([kvB 0 7, kvB 0 7, kvB 0 7, kvB 0 11, (.negSucc 0, .ofNat 7), kvB 1 12], [(102, 8, .inl (5, .ofNat 0))], 195, [kvR 102, kvI 0, kvI 1, kvI 2, kvN 104, kvN 2, kvI 3, kvI 4], []), ([], []), (139, [(-11, 3), (-1, 4)]))
def kC456_3 : aC := (([kvB 0 7, kvB 0 7, kvB 0 7, (.negSucc 0, .ofNat 2147483647)], [(102, 29, .inl (3, .ofNat 0))], 91, [kvR 102, kvI 0, kvI 1, kvI 2, kvN 104, kvN 2, kvN 1, kvN 2], []), ([], []), (166, []))
def kC456_4 : aC := (([kvB 0 7, kvB 0 7, kvB 0 7, kvB 0 2, (.negSucc 0, .ofNat 99)], [(102, 29, .inl (4, .ofNat 0)), (102, 30, .inr (.ofNat 2))], 110, [kvR 102, kvI 0, kvI 1, kvI 2, kvN 104, kvN 2, kvN 1, kvI 3], []), ([], []), (2, [(-1, 3)]))
theorem ks456 : aseg kS krf kB [kE43, kE89, kE328, kE440, kE452, kE454, kE455] (ksp [(192, 200, 7, 0, 7, 0)]) kE456 [kC456_0, kC456_1, kC456_2, kC456_3, kC456_4] 30000 (none) = true := by decide +kernel
theorem ks456_0 : aseg kS krf kB [kE43, kE89, kE328, kE440, kE452, kE454, kE455] (ksp [(192, 200, 7, 0, 7, 0)]) kE456 [kC456_0, kC456_1, kC456_2, kC456_3, kC456_4] 30000 (some kC456_0) = true := by decide +kernel
theorem ks456_1 : aseg kS krf kB [kE43, kE89, kE328, kE440, kE452, kE454, kE455] (ksp [(192, 200, 7, 0, 7, 0)]) kE456 [kC456_0, kC456_1, kC456_2, kC456_3, kC456_4] 30000 (some kC456_1) = true := by decide +kernel
theorem ks456_2 : aseg kS krf kB [kE43, kE89, kE328, kE440, kE452, kE454, kE455] (ksp [(192, 200, 7, 0, 7, 0)]) kE456 [kC456_0, kC456_1, kC456_2, kC456_3, kC456_4] 30000 (some kC456_2) = true := by decide +kernel
theorem ks456_3 : aseg kS krf kB [kE43, kE89, kE328, kE440, kE452, kE454, kE455] (ksp [(192, 200, 7, 0, 7, 0)]) kE456 [kC456_0, kC456_1, kC456_2, kC456_3, kC456_4] 30000 (some kC456_3) = true := by decide +kernel
theorem ks456_4 : aseg kS krf kB [kE43, kE89, kE328, kE440, kE452, kE454, kE455] (ksp [(192, 200, 7, 0, 7, 0)]) kE456 [kC456_0, kC456_1, kC456_2, kC456_3, kC456_4] 30000 (some kC456_4) = true := by decide +kernel
theorem kok456 : aOK kS krf kB kE456 := aOK_of (kal1 kok43 (kal1 kok89 (kal1 kok328 (kal1 kok440 (kal1 kok452 (kal1 kok454 (kal1 kok455 kal0))))))) (kcl1 ks456_0 (kcl1 ks456_1 (kcl1 ks456_2 (kcl1 ks456_3 (kcl1 ks456_4 kcl0))))) ks456
/-- ColdShodModel.triesWay(IIIII)V -/
def kE457 : aE := (192, 49, ([kvB 0 7, kvB 0 7, kvB 0 7], [], 0, [kvR 102, kvI 0, kvI 1, kvI 2, kvN 103, kvN 4, none, none], []), ([], none), ([], [], none, ([], [])), kvW64)
def kC457_0 : aC := (([kvB 0 7, kvB 0 7, kvB 0 7, kvB 0 1, kvB 0 4], [], 16, [kvR 102, kvI 0, kvI 1, kvI 2, kvN 103, kvN 4, kvI 3, kvI 4], []), ([], []), (336, [(-1, 4)]))
def kC457_1 : aC := (([kvB 0 7, kvB 0 7, kvB 0 7, kvB 0 12], [], 141, [kvR 102, kvI 0, kvI 1, kvI 2, kvN 103, kvN 4, kvI 3, none], []), ([], []), (141, [(-11, 3)]))
def kC457_2 : aC := (([kvB 0 7, kvB 0 7, kvB 0 7, kvB 0 11, (.negSucc 0, .ofNat 7), kvB 1 12], [(102, 8, .inl (5, .ofNat 0))], 195, [kvR 102, kvI 0, kvI 1, kvI 2, kvN 103, kvN 4, kvI 3, kvI 4], []), ([], []), (139, [(-11, 3), (-1, 4)]))
def kC457_3 : aC := (([kvB 0 7, kvB 0 7, kvB 0 7, (.negSucc 0, .ofNat 2147483647)], [(102, 29, .inl (3, .ofNat 0))], 91, [kvR 102, kvI 0, kvI 1, kvI 2, kvN 103, kvN 4, kvN 1, kvN 4], []), ([], []), (166, []))
def kC457_4 : aC := (([kvB 0 7, kvB 0 7, kvB 0 7, kvB 0 4, (.negSucc 0, .ofNat 99)], [(102, 29, .inl (4, .ofNat 0)), (102, 30, .inr (.ofNat 4))], 110, [kvR 102, kvI 0, kvI 1, kvI 2, kvN 103, kvN 4, kvN 1, kvI 3], []), ([], []), (4, [(-1, 3)]))
theorem ks457 : aseg kS krf kB [kE43, kE89, kE329, kE441, kE449] (ksp [(192, 200, 7, 0, 7, 0)]) kE457 [kC457_0, kC457_1, kC457_2, kC457_3, kC457_4] 30000 (none) = true := by decide +kernel
theorem ks457_0 : aseg kS krf kB [kE43, kE89, kE329, kE441, kE449] (ksp [(192, 200, 7, 0, 7, 0)]) kE457 [kC457_0, kC457_1, kC457_2, kC457_3, kC457_4] 30000 (some kC457_0) = true := by decide +kernel
theorem ks457_1 : aseg kS krf kB [kE43, kE89, kE329, kE441, kE449] (ksp [(192, 200, 7, 0, 7, 0)]) kE457 [kC457_0, kC457_1, kC457_2, kC457_3, kC457_4] 30000 (some kC457_1) = true := by decide +kernel
theorem ks457_2 : aseg kS krf kB [kE43, kE89, kE329, kE441, kE449] (ksp [(192, 200, 7, 0, 7, 0)]) kE457 [kC457_0, kC457_1, kC457_2, kC457_3, kC457_4] 30000 (some kC457_2) = true := by decide +kernel
theorem ks457_3 : aseg kS krf kB [kE43, kE89, kE329, kE441, kE449] (ksp [(192, 200, 7, 0, 7, 0)]) kE457 [kC457_0, kC457_1, kC457_2, kC457_3, kC457_4] 30000 (some kC457_3) = true := by decide +kernel
theorem ks457_4 : aseg kS krf kB [kE43, kE89, kE329, kE441, kE449] (ksp [(192, 200, 7, 0, 7, 0)]) kE457 [kC457_0, kC457_1, kC457_2, kC457_3, kC457_4] 30000 (some kC457_4) = true := by decide +kernel
theorem kok457 : aOK kS krf kB kE457 := aOK_of (kal1 kok43 (kal1 kok89 (kal1 kok329 (kal1 kok441 (kal1 kok449 kal0))))) (kcl1 ks457_0 (kcl1 ks457_1 (kcl1 ks457_2 (kcl1 ks457_3 (kcl1 ks457_4 kcl0))))) ks457
/-- ColdShodModel.triesWay(IIIII)V -/
def kE458 : aE := (192, 50, ([kvB 0 7, kvB 0 7, kvB 0 7], [], 0, [kvR 102, kvI 0, kvI 1, kvI 2, kvN 102, kvN 3, none, none], []), ([], none), ([], [], none, ([], [])), kvW65)
def kC458_0 : aC := (([kvB 0 7, kvB 0 7, kvB 0 7, kvB 0 1, kvB 0 3], [], 16, [kvR 102, kvI 0, kvI 1, kvI 2, kvN 102, kvN 3, kvI 3, kvI 4], []), ([], []), (335, [(-1, 4)]))
def kC458_1 : aC := (([kvB 0 7, kvB 0 7, kvB 0 7, kvB 0 12], [], 141, [kvR 102, kvI 0, kvI 1, kvI 2, kvN 102, kvN 3, kvI 3, none], []), ([], []), (141, [(-11, 3)]))
def kC458_2 : aC := (([kvB 0 7, kvB 0 7, kvB 0 7, kvB 0 11, (.negSucc 0, .ofNat 7), kvB 1 12], [(102, 8, .inl (5, .ofNat 0))], 195, [kvR 102, kvI 0, kvI 1, kvI 2, kvN 102, kvN 3, kvI 3, kvI 4], []), ([], []), (139, [(-11, 3), (-1, 4)]))
def kC458_3 : aC := (([kvB 0 7, kvB 0 7, kvB 0 7, (.negSucc 0, .ofNat 2147483647)], [(102, 29, .inl (3, .ofNat 0))], 91, [kvR 102, kvI 0, kvI 1, kvI 2, kvN 102, kvN 3, kvN 1, kvN 3], []), ([], []), (166, []))
def kC458_4 : aC := (([kvB 0 7, kvB 0 7, kvB 0 7, kvB 0 3, (.negSucc 0, .ofNat 99)], [(102, 29, .inl (4, .ofNat 0)), (102, 30, .inr (.ofNat 3))], 110, [kvR 102, kvI 0, kvI 1, kvI 2, kvN 102, kvN 3, kvN 1, kvI 3], []), ([], []), (3, [(-1, 3)]))
theorem ks458 : aseg kS krf kB [kE43, kE89, kE330, kE442, kE450, kE457] (ksp [(192, 200, 7, 0, 7, 0)]) kE458 [kC458_0, kC458_1, kC458_2, kC458_3, kC458_4] 30000 (none) = true := by decide +kernel
theorem ks458_0 : aseg kS krf kB [kE43, kE89, kE330, kE442, kE450, kE457] (ksp [(192, 200, 7, 0, 7, 0)]) kE458 [kC458_0, kC458_1, kC458_2, kC458_3, kC458_4] 30000 (some kC458_0) = true := by decide +kernel
theorem ks458_1 : aseg kS krf kB [kE43, kE89, kE330, kE442, kE450, kE457] (ksp [(192, 200, 7, 0, 7, 0)]) kE458 [kC458_0, kC458_1, kC458_2, kC458_3, kC458_4] 30000 (some kC458_1) = true := by decide +kernel
theorem ks458_2 : aseg kS krf kB [kE43, kE89, kE330, kE442, kE450, kE457] (ksp [(192, 200, 7, 0, 7, 0)]) kE458 [kC458_0, kC458_1, kC458_2, kC458_3, kC458_4] 30000 (some kC458_2) = true := by decide +kernel
theorem ks458_3 : aseg kS krf kB [kE43, kE89, kE330, kE442, kE450, kE457] (ksp [(192, 200, 7, 0, 7, 0)]) kE458 [kC458_0, kC458_1, kC458_2, kC458_3, kC458_4] 30000 (some kC458_3) = true := by decide +kernel
theorem ks458_4 : aseg kS krf kB [kE43, kE89, kE330, kE442, kE450, kE457] (ksp [(192, 200, 7, 0, 7, 0)]) kE458 [kC458_0, kC458_1, kC458_2, kC458_3, kC458_4] 30000 (some kC458_4) = true := by decide +kernel
theorem kok458 : aOK kS krf kB kE458 := aOK_of (kal1 kok43 (kal1 kok89 (kal1 kok330 (kal1 kok442 (kal1 kok450 (kal1 kok457 kal0)))))) (kcl1 ks458_0 (kcl1 ks458_1 (kcl1 ks458_2 (kcl1 ks458_3 (kcl1 ks458_4 kcl0))))) ks458
/-- ColdShodModel.triesWay(IIIII)V -/
def kE459 : aE := (192, 50, ([kvB 0 7, kvB 0 7, kvB 0 7], [], 0, [kvR 102, kvI 0, kvI 1, kvI 2, kvN 101, kvN 3, none, none], []), ([], none), ([], [], none, ([], [])), kvW65)
def kC459_0 : aC := (([kvB 0 7, kvB 0 7, kvB 0 7, kvB 0 1, kvB 0 3], [], 16, [kvR 102, kvI 0, kvI 1, kvI 2, kvN 101, kvN 3, kvI 3, kvI 4], []), ([], []), (335, [(-1, 4)]))
def kC459_1 : aC := (([kvB 0 7, kvB 0 7, kvB 0 7, kvB 0 12], [], 141, [kvR 102, kvI 0, kvI 1, kvI 2, kvN 101, kvN 3, kvI 3, none], []), ([], []), (141, [(-11, 3)]))
def kC459_2 : aC := (([kvB 0 7, kvB 0 7, kvB 0 7, kvB 0 11, (.negSucc 0, .ofNat 7), kvB 1 12], [(102, 8, .inl (5, .ofNat 0))], 195, [kvR 102, kvI 0, kvI 1, kvI 2, kvN 101, kvN 3, kvI 3, kvI 4], []), ([], []), (139, [(-11, 3), (-1, 4)]))
def kC459_3 : aC := (([kvB 0 7, kvB 0 7, kvB 0 7, (.negSucc 0, .ofNat 2147483647)], [(102, 29, .inl (3, .ofNat 0))], 91, [kvR 102, kvI 0, kvI 1, kvI 2, kvN 101, kvN 3, kvN 1, kvN 3], []), ([], []), (166, []))
def kC459_4 : aC := (([kvB 0 7, kvB 0 7, kvB 0 7, kvB 0 3, (.negSucc 0, .ofNat 99)], [(102, 29, .inl (4, .ofNat 0)), (102, 30, .inr (.ofNat 3))], 110, [kvR 102, kvI 0, kvI 1, kvI 2, kvN 101, kvN 3, kvN 1, kvI 3], []), ([], []), (3, [(-1, 3)]))
theorem ks459 : aseg kS krf kB [kE43, kE89, kE331, kE443, kE451, kE457] (ksp [(192, 200, 7, 0, 7, 0)]) kE459 [kC459_0, kC459_1, kC459_2, kC459_3, kC459_4] 30000 (none) = true := by decide +kernel
theorem ks459_0 : aseg kS krf kB [kE43, kE89, kE331, kE443, kE451, kE457] (ksp [(192, 200, 7, 0, 7, 0)]) kE459 [kC459_0, kC459_1, kC459_2, kC459_3, kC459_4] 30000 (some kC459_0) = true := by decide +kernel
theorem ks459_1 : aseg kS krf kB [kE43, kE89, kE331, kE443, kE451, kE457] (ksp [(192, 200, 7, 0, 7, 0)]) kE459 [kC459_0, kC459_1, kC459_2, kC459_3, kC459_4] 30000 (some kC459_1) = true := by decide +kernel
theorem ks459_2 : aseg kS krf kB [kE43, kE89, kE331, kE443, kE451, kE457] (ksp [(192, 200, 7, 0, 7, 0)]) kE459 [kC459_0, kC459_1, kC459_2, kC459_3, kC459_4] 30000 (some kC459_2) = true := by decide +kernel
theorem ks459_3 : aseg kS krf kB [kE43, kE89, kE331, kE443, kE451, kE457] (ksp [(192, 200, 7, 0, 7, 0)]) kE459 [kC459_0, kC459_1, kC459_2, kC459_3, kC459_4] 30000 (some kC459_3) = true := by decide +kernel
theorem ks459_4 : aseg kS krf kB [kE43, kE89, kE331, kE443, kE451, kE457] (ksp [(192, 200, 7, 0, 7, 0)]) kE459 [kC459_0, kC459_1, kC459_2, kC459_3, kC459_4] 30000 (some kC459_4) = true := by decide +kernel
theorem kok459 : aOK kS krf kB kE459 := aOK_of (kal1 kok43 (kal1 kok89 (kal1 kok331 (kal1 kok443 (kal1 kok451 (kal1 kok457 kal0)))))) (kcl1 ks459_0 (kcl1 ks459_1 (kcl1 ks459_2 (kcl1 ks459_3 (kcl1 ks459_4 kcl0))))) ks459
/-- ColdShodModel.triesWay(IIIII)V -/
def kE460 : aE := (192, 51, ([kvB 0 7, kvB 0 7, kvB 0 7], [], 0, [kvR 102, kvI 0, kvI 1, kvI 2, kvN 100, kvN 2, none, none], []), ([], none), ([], [], none, ([], [])), kvW66)
def kC460_0 : aC := (([kvB 0 7, kvB 0 7, kvB 0 7, kvB 0 1, kvB 0 2], [], 16, [kvR 102, kvI 0, kvI 1, kvI 2, kvN 100, kvN 2, kvI 3, kvI 4], []), ([], []), (334, [(-1, 4)]))
def kC460_1 : aC := (([kvB 0 7, kvB 0 7, kvB 0 7, kvB 0 12], [], 141, [kvR 102, kvI 0, kvI 1, kvI 2, kvN 100, kvN 2, kvI 3, none], []), ([], []), (141, [(-11, 3)]))
def kC460_2 : aC := (([kvB 0 7, kvB 0 7, kvB 0 7, kvB 0 11, (.negSucc 0, .ofNat 7), kvB 1 12], [(102, 8, .inl (5, .ofNat 0))], 195, [kvR 102, kvI 0, kvI 1, kvI 2, kvN 100, kvN 2, kvI 3, kvI 4], []), ([], []), (139, [(-11, 3), (-1, 4)]))
def kC460_3 : aC := (([kvB 0 7, kvB 0 7, kvB 0 7, (.negSucc 0, .ofNat 2147483647)], [(102, 29, .inl (3, .ofNat 0))], 91, [kvR 102, kvI 0, kvI 1, kvI 2, kvN 100, kvN 2, kvN 1, kvN 2], []), ([], []), (166, []))
def kC460_4 : aC := (([kvB 0 7, kvB 0 7, kvB 0 7, kvB 0 2, (.negSucc 0, .ofNat 99)], [(102, 29, .inl (4, .ofNat 0)), (102, 30, .inr (.ofNat 2))], 110, [kvR 102, kvI 0, kvI 1, kvI 2, kvN 100, kvN 2, kvN 1, kvI 3], []), ([], []), (2, [(-1, 3)]))
theorem ks460 : aseg kS krf kB [kE43, kE89, kE332, kE444, kE452, kE458, kE459] (ksp [(192, 200, 7, 0, 7, 0)]) kE460 [kC460_0, kC460_1, kC460_2, kC460_3, kC460_4] 30000 (none) = true := by decide +kernel
theorem ks460_0 : aseg kS krf kB [kE43, kE89, kE332, kE444, kE452, kE458, kE459] (ksp [(192, 200, 7, 0, 7, 0)]) kE460 [kC460_0, kC460_1, kC460_2, kC460_3, kC460_4] 30000 (some kC460_0) = true := by decide +kernel
theorem ks460_1 : aseg kS krf kB [kE43, kE89, kE332, kE444, kE452, kE458, kE459] (ksp [(192, 200, 7, 0, 7, 0)]) kE460 [kC460_0, kC460_1, kC460_2, kC460_3, kC460_4] 30000 (some kC460_1) = true := by decide +kernel
theorem ks460_2 : aseg kS krf kB [kE43, kE89, kE332, kE444, kE452, kE458, kE459] (ksp [(192, 200, 7, 0, 7, 0)]) kE460 [kC460_0, kC460_1, kC460_2, kC460_3, kC460_4] 30000 (some kC460_2) = true := by decide +kernel
theorem ks460_3 : aseg kS krf kB [kE43, kE89, kE332, kE444, kE452, kE458, kE459] (ksp [(192, 200, 7, 0, 7, 0)]) kE460 [kC460_0, kC460_1, kC460_2, kC460_3, kC460_4] 30000 (some kC460_3) = true := by decide +kernel
theorem ks460_4 : aseg kS krf kB [kE43, kE89, kE332, kE444, kE452, kE458, kE459] (ksp [(192, 200, 7, 0, 7, 0)]) kE460 [kC460_0, kC460_1, kC460_2, kC460_3, kC460_4] 30000 (some kC460_4) = true := by decide +kernel
theorem kok460 : aOK kS krf kB kE460 := aOK_of (kal1 kok43 (kal1 kok89 (kal1 kok332 (kal1 kok444 (kal1 kok452 (kal1 kok458 (kal1 kok459 kal0))))))) (kcl1 ks460_0 (kcl1 ks460_1 (kcl1 ks460_2 (kcl1 ks460_3 (kcl1 ks460_4 kcl0))))) ks460
/-- ColdShodModel.triesWay(IIIII)V -/
def kE461 : aE := (192, 50, ([kvB 0 7, kvB 0 7, kvB 0 7], [], 0, [kvR 102, kvI 0, kvI 1, kvI 2, kvN 99, kvN 3, none, none], []), ([], none), ([], [], none, ([], [])), kvW65)
def kC461_0 : aC := (([kvB 0 7, kvB 0 7, kvB 0 7, kvB 0 1, kvB 0 3], [], 16, [kvR 102, kvI 0, kvI 1, kvI 2, kvN 99, kvN 3, kvI 3, kvI 4], []), ([], []), (335, [(-1, 4)]))
def kC461_1 : aC := (([kvB 0 7, kvB 0 7, kvB 0 7, kvB 0 12], [], 141, [kvR 102, kvI 0, kvI 1, kvI 2, kvN 99, kvN 3, kvI 3, none], []), ([], []), (141, [(-11, 3)]))
def kC461_2 : aC := (([kvB 0 7, kvB 0 7, kvB 0 7, kvB 0 11, (.negSucc 0, .ofNat 7), kvB 1 12], [(102, 8, .inl (5, .ofNat 0))], 195, [kvR 102, kvI 0, kvI 1, kvI 2, kvN 99, kvN 3, kvI 3, kvI 4], []), ([], []), (139, [(-11, 3), (-1, 4)]))
def kC461_3 : aC := (([kvB 0 7, kvB 0 7, kvB 0 7, (.negSucc 0, .ofNat 2147483647)], [(102, 29, .inl (3, .ofNat 0))], 91, [kvR 102, kvI 0, kvI 1, kvI 2, kvN 99, kvN 3, kvN 1, kvN 3], []), ([], []), (166, []))
def kC461_4 : aC := (([kvB 0 7, kvB 0 7, kvB 0 7, kvB 0 3, (.negSucc 0, .ofNat 99)], [(102, 29, .inl (4, .ofNat 0)), (102, 30, .inr (.ofNat 3))], 110, [kvR 102, kvI 0, kvI 1, kvI 2, kvN 99, kvN 3, kvN 1, kvI 3], []), ([], []), (3, [(-1, 3)]))
theorem ks461 : aseg kS krf kB [kE43, kE89, kE333, kE445, kE453, kE457] (ksp [(192, 200, 7, 0, 7, 0)]) kE461 [kC461_0, kC461_1, kC461_2, kC461_3, kC461_4] 30000 (none) = true := by decide +kernel
theorem ks461_0 : aseg kS krf kB [kE43, kE89, kE333, kE445, kE453, kE457] (ksp [(192, 200, 7, 0, 7, 0)]) kE461 [kC461_0, kC461_1, kC461_2, kC461_3, kC461_4] 30000 (some kC461_0) = true := by decide +kernel
theorem ks461_1 : aseg kS krf kB [kE43, kE89, kE333, kE445, kE453, kE457] (ksp [(192, 200, 7, 0, 7, 0)]) kE461 [kC461_0, kC461_1, kC461_2, kC461_3, kC461_4] 30000 (some kC461_1) = true := by decide +kernel
theorem ks461_2 : aseg kS krf kB [kE43, kE89, kE333, kE445, kE453, kE457] (ksp [(192, 200, 7, 0, 7, 0)]) kE461 [kC461_0, kC461_1, kC461_2, kC461_3, kC461_4] 30000 (some kC461_2) = true := by decide +kernel
theorem ks461_3 : aseg kS krf kB [kE43, kE89, kE333, kE445, kE453, kE457] (ksp [(192, 200, 7, 0, 7, 0)]) kE461 [kC461_0, kC461_1, kC461_2, kC461_3, kC461_4] 30000 (some kC461_3) = true := by decide +kernel
theorem ks461_4 : aseg kS krf kB [kE43, kE89, kE333, kE445, kE453, kE457] (ksp [(192, 200, 7, 0, 7, 0)]) kE461 [kC461_0, kC461_1, kC461_2, kC461_3, kC461_4] 30000 (some kC461_4) = true := by decide +kernel
theorem kok461 : aOK kS krf kB kE461 := aOK_of (kal1 kok43 (kal1 kok89 (kal1 kok333 (kal1 kok445 (kal1 kok453 (kal1 kok457 kal0)))))) (kcl1 ks461_0 (kcl1 ks461_1 (kcl1 ks461_2 (kcl1 ks461_3 (kcl1 ks461_4 kcl0))))) ks461
/-- ColdShodModel.triesWay(IIIII)V -/
def kE462 : aE := (192, 51, ([kvB 0 7, kvB 0 7, kvB 0 7], [], 0, [kvR 102, kvI 0, kvI 1, kvI 2, kvN 98, kvN 2, none, none], []), ([], none), ([], [], none, ([], [])), kvW66)
def kC462_0 : aC := (([kvB 0 7, kvB 0 7, kvB 0 7, kvB 0 1, kvB 0 2], [], 16, [kvR 102, kvI 0, kvI 1, kvI 2, kvN 98, kvN 2, kvI 3, kvI 4], []), ([], []), (334, [(-1, 4)]))
def kC462_1 : aC := (([kvB 0 7, kvB 0 7, kvB 0 7, kvB 0 12], [], 141, [kvR 102, kvI 0, kvI 1, kvI 2, kvN 98, kvN 2, kvI 3, none], []), ([], []), (141, [(-11, 3)]))
def kC462_2 : aC := (([kvB 0 7, kvB 0 7, kvB 0 7, kvB 0 11, (.negSucc 0, .ofNat 7), kvB 1 12], [(102, 8, .inl (5, .ofNat 0))], 195, [kvR 102, kvI 0, kvI 1, kvI 2, kvN 98, kvN 2, kvI 3, kvI 4], []), ([], []), (139, [(-11, 3), (-1, 4)]))
def kC462_3 : aC := (([kvB 0 7, kvB 0 7, kvB 0 7, (.negSucc 0, .ofNat 2147483647)], [(102, 29, .inl (3, .ofNat 0))], 91, [kvR 102, kvI 0, kvI 1, kvI 2, kvN 98, kvN 2, kvN 1, kvN 2], []), ([], []), (166, []))
def kC462_4 : aC := (([kvB 0 7, kvB 0 7, kvB 0 7, kvB 0 2, (.negSucc 0, .ofNat 99)], [(102, 29, .inl (4, .ofNat 0)), (102, 30, .inr (.ofNat 2))], 110, [kvR 102, kvI 0, kvI 1, kvI 2, kvN 98, kvN 2, kvN 1, kvI 3], []), ([], []), (2, [(-1, 3)]))
theorem ks462 : aseg kS krf kB [kE43, kE89, kE334, kE446, kE454, kE458, kE461] (ksp [(192, 200, 7, 0, 7, 0)]) kE462 [kC462_0, kC462_1, kC462_2, kC462_3, kC462_4] 30000 (none) = true := by decide +kernel
theorem ks462_0 : aseg kS krf kB [kE43, kE89, kE334, kE446, kE454, kE458, kE461] (ksp [(192, 200, 7, 0, 7, 0)]) kE462 [kC462_0, kC462_1, kC462_2, kC462_3, kC462_4] 30000 (some kC462_0) = true := by decide +kernel
theorem ks462_1 : aseg kS krf kB [kE43, kE89, kE334, kE446, kE454, kE458, kE461] (ksp [(192, 200, 7, 0, 7, 0)]) kE462 [kC462_0, kC462_1, kC462_2, kC462_3, kC462_4] 30000 (some kC462_1) = true := by decide +kernel
theorem ks462_2 : aseg kS krf kB [kE43, kE89, kE334, kE446, kE454, kE458, kE461] (ksp [(192, 200, 7, 0, 7, 0)]) kE462 [kC462_0, kC462_1, kC462_2, kC462_3, kC462_4] 30000 (some kC462_2) = true := by decide +kernel
theorem ks462_3 : aseg kS krf kB [kE43, kE89, kE334, kE446, kE454, kE458, kE461] (ksp [(192, 200, 7, 0, 7, 0)]) kE462 [kC462_0, kC462_1, kC462_2, kC462_3, kC462_4] 30000 (some kC462_3) = true := by decide +kernel
theorem ks462_4 : aseg kS krf kB [kE43, kE89, kE334, kE446, kE454, kE458, kE461] (ksp [(192, 200, 7, 0, 7, 0)]) kE462 [kC462_0, kC462_1, kC462_2, kC462_3, kC462_4] 30000 (some kC462_4) = true := by decide +kernel
theorem kok462 : aOK kS krf kB kE462 := aOK_of (kal1 kok43 (kal1 kok89 (kal1 kok334 (kal1 kok446 (kal1 kok454 (kal1 kok458 (kal1 kok461 kal0))))))) (kcl1 ks462_0 (kcl1 ks462_1 (kcl1 ks462_2 (kcl1 ks462_3 (kcl1 ks462_4 kcl0))))) ks462
/-- ColdShodModel.triesWay(IIIII)V -/
def kE463 : aE := (192, 51, ([kvB 0 7, kvB 0 7, kvB 0 7], [], 0, [kvR 102, kvI 0, kvI 1, kvI 2, kvN 97, kvN 2, none, none], []), ([], none), ([], [], none, ([], [])), kvW66)
def kC463_0 : aC := (([kvB 0 7, kvB 0 7, kvB 0 7, kvB 0 1, kvB 0 2], [], 16, [kvR 102, kvI 0, kvI 1, kvI 2, kvN 97, kvN 2, kvI 3, kvI 4], []), ([], []), (334, [(-1, 4)]))
def kC463_1 : aC := (([kvB 0 7, kvB 0 7, kvB 0 7, kvB 0 12], [], 141, [kvR 102, kvI 0, kvI 1, kvI 2, kvN 97, kvN 2, kvI 3, none], []), ([], []), (141, [(-11, 3)]))
def kC463_2 : aC := (([kvB 0 7, kvB 0 7, kvB 0 7, kvB 0 11, (.negSucc 0, .ofNat 7), kvB 1 12], [(102, 8, .inl (5, .ofNat 0))], 195, [kvR 102, kvI 0, kvI 1, kvI 2, kvN 97, kvN 2, kvI 3, kvI 4], []), ([], []), (139, [(-11, 3), (-1, 4)]))
def kC463_3 : aC := (([kvB 0 7, kvB 0 7, kvB 0 7, (.negSucc 0, .ofNat 2147483647)], [(102, 29, .inl (3, .ofNat 0))], 91, [kvR 102, kvI 0, kvI 1, kvI 2, kvN 97, kvN 2, kvN 1, kvN 2], []), ([], []), (166, []))
def kC463_4 : aC := (([kvB 0 7, kvB 0 7, kvB 0 7, kvB 0 2, (.negSucc 0, .ofNat 99)], [(102, 29, .inl (4, .ofNat 0)), (102, 30, .inr (.ofNat 2))], 110, [kvR 102, kvI 0, kvI 1, kvI 2, kvN 97, kvN 2, kvN 1, kvI 3], []), ([], []), (2, [(-1, 3)]))
theorem ks463 : aseg kS krf kB [kE43, kE89, kE335, kE447, kE455, kE459, kE461] (ksp [(192, 200, 7, 0, 7, 0)]) kE463 [kC463_0, kC463_1, kC463_2, kC463_3, kC463_4] 30000 (none) = true := by decide +kernel
theorem ks463_0 : aseg kS krf kB [kE43, kE89, kE335, kE447, kE455, kE459, kE461] (ksp [(192, 200, 7, 0, 7, 0)]) kE463 [kC463_0, kC463_1, kC463_2, kC463_3, kC463_4] 30000 (some kC463_0) = true := by decide +kernel
theorem ks463_1 : aseg kS krf kB [kE43, kE89, kE335, kE447, kE455, kE459, kE461] (ksp [(192, 200, 7, 0, 7, 0)]) kE463 [kC463_0, kC463_1, kC463_2, kC463_3, kC463_4] 30000 (some kC463_1) = true := by decide +kernel
theorem ks463_2 : aseg kS krf kB [kE43, kE89, kE335, kE447, kE455, kE459, kE461] (ksp [(192, 200, 7, 0, 7, 0)]) kE463 [kC463_0, kC463_1, kC463_2, kC463_3, kC463_4] 30000 (some kC463_2) = true := by decide +kernel
theorem ks463_3 : aseg kS krf kB [kE43, kE89, kE335, kE447, kE455, kE459, kE461] (ksp [(192, 200, 7, 0, 7, 0)]) kE463 [kC463_0, kC463_1, kC463_2, kC463_3, kC463_4] 30000 (some kC463_3) = true := by decide +kernel
theorem ks463_4 : aseg kS krf kB [kE43, kE89, kE335, kE447, kE455, kE459, kE461] (ksp [(192, 200, 7, 0, 7, 0)]) kE463 [kC463_0, kC463_1, kC463_2, kC463_3, kC463_4] 30000 (some kC463_4) = true := by decide +kernel
theorem kok463 : aOK kS krf kB kE463 := aOK_of (kal1 kok43 (kal1 kok89 (kal1 kok335 (kal1 kok447 (kal1 kok455 (kal1 kok459 (kal1 kok461 kal0))))))) (kcl1 ks463_0 (kcl1 ks463_1 (kcl1 ks463_2 (kcl1 ks463_3 (kcl1 ks463_4 kcl0))))) ks463
/-- ColdShodModel.triesWay(IIIII)V -/
def kE464 : aE := (192, 52, ([kvB 0 7, kvB 0 7, kvB 0 7], [], 0, [kvR 102, kvI 0, kvI 1, kvI 2, kvN 96, kvN 1, none, none], []), ([], none), ([], [], none, ([], [])), kvW67)
def kC464_0 : aC := (([kvB 0 7, kvB 0 7, kvB 0 7, kvB 0 1, kvB 0 1], [], 16, [kvR 102, kvI 0, kvI 1, kvI 2, kvN 96, kvN 1, kvI 3, kvI 4], []), ([], []), (333, [(-1, 4)]))
def kC464_1 : aC := (([kvB 0 7, kvB 0 7, kvB 0 7, kvB 0 12], [], 141, [kvR 102, kvI 0, kvI 1, kvI 2, kvN 96, kvN 1, kvI 3, none], []), ([], []), (141, [(-11, 3)]))
def kC464_2 : aC := (([kvB 0 7, kvB 0 7, kvB 0 7, kvB 0 11, (.negSucc 0, .ofNat 7), kvB 1 12], [(102, 8, .inl (5, .ofNat 0))], 195, [kvR 102, kvI 0, kvI 1, kvI 2, kvN 96, kvN 1, kvI 3, kvI 4], []), ([], []), (139, [(-11, 3), (-1, 4)]))
def kC464_3 : aC := (([kvB 0 7, kvB 0 7, kvB 0 7, (.negSucc 0, .ofNat 2147483647)], [(102, 29, .inl (3, .ofNat 0))], 91, [kvR 102, kvI 0, kvI 1, kvI 2, kvN 96, kvN 1, kvN 1, kvN 1], []), ([], []), (166, []))
def kC464_4 : aC := (([kvB 0 7, kvB 0 7, kvB 0 7, kvB 0 1, (.negSucc 0, .ofNat 99)], [(102, 29, .inl (4, .ofNat 0)), (102, 30, .inr (.ofNat 1))], 110, [kvR 102, kvI 0, kvI 1, kvI 2, kvN 96, kvN 1, kvN 1, kvI 3], []), ([], []), (1, [(-1, 3)]))
theorem ks464 : aseg kS krf kB [kE43, kE89, kE336, kE448, kE456, kE460, kE462, kE463] (ksp [(192, 200, 7, 0, 7, 0)]) kE464 [kC464_0, kC464_1, kC464_2, kC464_3, kC464_4] 30000 (none) = true := by decide +kernel
theorem ks464_0 : aseg kS krf kB [kE43, kE89, kE336, kE448, kE456, kE460, kE462, kE463] (ksp [(192, 200, 7, 0, 7, 0)]) kE464 [kC464_0, kC464_1, kC464_2, kC464_3, kC464_4] 30000 (some kC464_0) = true := by decide +kernel
theorem ks464_1 : aseg kS krf kB [kE43, kE89, kE336, kE448, kE456, kE460, kE462, kE463] (ksp [(192, 200, 7, 0, 7, 0)]) kE464 [kC464_0, kC464_1, kC464_2, kC464_3, kC464_4] 30000 (some kC464_1) = true := by decide +kernel
theorem ks464_2 : aseg kS krf kB [kE43, kE89, kE336, kE448, kE456, kE460, kE462, kE463] (ksp [(192, 200, 7, 0, 7, 0)]) kE464 [kC464_0, kC464_1, kC464_2, kC464_3, kC464_4] 30000 (some kC464_2) = true := by decide +kernel
theorem ks464_3 : aseg kS krf kB [kE43, kE89, kE336, kE448, kE456, kE460, kE462, kE463] (ksp [(192, 200, 7, 0, 7, 0)]) kE464 [kC464_0, kC464_1, kC464_2, kC464_3, kC464_4] 30000 (some kC464_3) = true := by decide +kernel
theorem ks464_4 : aseg kS krf kB [kE43, kE89, kE336, kE448, kE456, kE460, kE462, kE463] (ksp [(192, 200, 7, 0, 7, 0)]) kE464 [kC464_0, kC464_1, kC464_2, kC464_3, kC464_4] 30000 (some kC464_4) = true := by decide +kernel
theorem kok464 : aOK kS krf kB kE464 := aOK_of (kal1 kok43 (kal1 kok89 (kal1 kok336 (kal1 kok448 (kal1 kok456 (kal1 kok460 (kal1 kok462 (kal1 kok463 kal0)))))))) (kcl1 ks464_0 (kcl1 ks464_1 (kcl1 ks464_2 (kcl1 ks464_3 (kcl1 ks464_4 kcl0))))) ks464
/-- ColdShodModel.triesWay(IIIII)V -/
def kE465 : aE := (192, 48, ([kvB 0 7, kvB 0 7, kvB 0 7], [], 0, [kvR 102, kvI 0, kvI 1, kvI 2, kvN 95, kvN 5, none, none], []), ([], none), ([], [], none, ([], [])), kvW63)
def kC465_0 : aC := (([kvB 0 7, kvB 0 7, kvB 0 7, kvB 0 1, kvB 0 5], [], 16, [kvR 102, kvI 0, kvI 1, kvI 2, kvN 95, kvN 5, kvI 3, kvI 4], []), ([], []), (337, [(-1, 4)]))
def kC465_1 : aC := (([kvB 0 7, kvB 0 7, kvB 0 7, kvB 0 12], [], 141, [kvR 102, kvI 0, kvI 1, kvI 2, kvN 95, kvN 5, kvI 3, none], []), ([], []), (141, [(-11, 3)]))
def kC465_2 : aC := (([kvB 0 7, kvB 0 7, kvB 0 7, kvB 0 11, (.negSucc 0, .ofNat 7), kvB 1 12], [(102, 8, .inl (5, .ofNat 0))], 195, [kvR 102, kvI 0, kvI 1, kvI 2, kvN 95, kvN 5, kvI 3, kvI 4], []), ([], []), (139, [(-11, 3), (-1, 4)]))
def kC465_3 : aC := (([kvB 0 7, kvB 0 7, kvB 0 7, (.negSucc 0, .ofNat 2147483647)], [(102, 29, .inl (3, .ofNat 0))], 91, [kvR 102, kvI 0, kvI 1, kvI 2, kvN 95, kvN 5, kvN 1, kvN 5], []), ([], []), (166, []))
def kC465_4 : aC := (([kvB 0 7, kvB 0 7, kvB 0 7, kvB 0 5, (.negSucc 0, .ofNat 99)], [(102, 29, .inl (4, .ofNat 0)), (102, 30, .inr (.ofNat 5))], 110, [kvR 102, kvI 0, kvI 1, kvI 2, kvN 95, kvN 5, kvN 1, kvI 3], []), ([], []), (5, [(-1, 3)]))
theorem ks465 : aseg kS krf kB [kE43, kE89, kE337, kE433] (ksp [(192, 200, 7, 0, 7, 0)]) kE465 [kC465_0, kC465_1, kC465_2, kC465_3, kC465_4] 30000 (none) = true := by decide +kernel
theorem ks465_0 : aseg kS krf kB [kE43, kE89, kE337, kE433] (ksp [(192, 200, 7, 0, 7, 0)]) kE465 [kC465_0, kC465_1, kC465_2, kC465_3, kC465_4] 30000 (some kC465_0) = true := by decide +kernel
theorem ks465_1 : aseg kS krf kB [kE43, kE89, kE337, kE433] (ksp [(192, 200, 7, 0, 7, 0)]) kE465 [kC465_0, kC465_1, kC465_2, kC465_3, kC465_4] 30000 (some kC465_1) = true := by decide +kernel
theorem ks465_2 : aseg kS krf kB [kE43, kE89, kE337, kE433] (ksp [(192, 200, 7, 0, 7, 0)]) kE465 [kC465_0, kC465_1, kC465_2, kC465_3, kC465_4] 30000 (some kC465_2) = true := by decide +kernel
theorem ks465_3 : aseg kS krf kB [kE43, kE89, kE337, kE433] (ksp [(192, 200, 7, 0, 7, 0)]) kE465 [kC465_0, kC465_1, kC465_2, kC465_3, kC465_4] 30000 (some kC465_3) = true := by decide +kernel
theorem ks465_4 : aseg kS krf kB [kE43, kE89, kE337, kE433] (ksp [(192, 200, 7, 0, 7, 0)]) kE465 [kC465_0, kC465_1, kC465_2, kC465_3, kC465_4] 30000 (some kC465_4) = true := by decide +kernel
theorem kok465 : aOK kS krf kB kE465 := aOK_of (kal1 kok43 (kal1 kok89 (kal1 kok337 (kal1 kok433 kal0)))) (kcl1 ks465_0 (kcl1 ks465_1 (kcl1 ks465_2 (kcl1 ks465_3 (kcl1 ks465_4 kcl0))))) ks465
/-- ColdShodModel.triesWay(IIIII)V -/
def kE466 : aE := (192, 49, ([kvB 0 7, kvB 0 7, kvB 0 7], [], 0, [kvR 102, kvI 0, kvI 1, kvI 2, kvN 94, kvN 4, none, none], []), ([], none), ([], [], none, ([], [])), kvW64)
def kC466_0 : aC := (([kvB 0 7, kvB 0 7, kvB 0 7, kvB 0 1, kvB 0 4], [], 16, [kvR 102, kvI 0, kvI 1, kvI 2, kvN 94, kvN 4, kvI 3, kvI 4], []), ([], []), (336, [(-1, 4)]))
def kC466_1 : aC := (([kvB 0 7, kvB 0 7, kvB 0 7, kvB 0 12], [], 141, [kvR 102, kvI 0, kvI 1, kvI 2, kvN 94, kvN 4, kvI 3, none], []), ([], []), (141, [(-11, 3)]))
def kC466_2 : aC := (([kvB 0 7, kvB 0 7, kvB 0 7, kvB 0 11, (.negSucc 0, .ofNat 7), kvB 1 12], [(102, 8, .inl (5, .ofNat 0))], 195, [kvR 102, kvI 0, kvI 1, kvI 2, kvN 94, kvN 4, kvI 3, kvI 4], []), ([], []), (139, [(-11, 3), (-1, 4)]))
def kC466_3 : aC := (([kvB 0 7, kvB 0 7, kvB 0 7, (.negSucc 0, .ofNat 2147483647)], [(102, 29, .inl (3, .ofNat 0))], 91, [kvR 102, kvI 0, kvI 1, kvI 2, kvN 94, kvN 4, kvN 1, kvN 4], []), ([], []), (166, []))
def kC466_4 : aC := (([kvB 0 7, kvB 0 7, kvB 0 7, kvB 0 4, (.negSucc 0, .ofNat 99)], [(102, 29, .inl (4, .ofNat 0)), (102, 30, .inr (.ofNat 4))], 110, [kvR 102, kvI 0, kvI 1, kvI 2, kvN 94, kvN 4, kvN 1, kvI 3], []), ([], []), (4, [(-1, 3)]))
theorem ks466 : aseg kS krf kB [kE43, kE89, kE338, kE434, kE465] (ksp [(192, 200, 7, 0, 7, 0)]) kE466 [kC466_0, kC466_1, kC466_2, kC466_3, kC466_4] 30000 (none) = true := by decide +kernel
theorem ks466_0 : aseg kS krf kB [kE43, kE89, kE338, kE434, kE465] (ksp [(192, 200, 7, 0, 7, 0)]) kE466 [kC466_0, kC466_1, kC466_2, kC466_3, kC466_4] 30000 (some kC466_0) = true := by decide +kernel
theorem ks466_1 : aseg kS krf kB [kE43, kE89, kE338, kE434, kE465] (ksp [(192, 200, 7, 0, 7, 0)]) kE466 [kC466_0, kC466_1, kC466_2, kC466_3, kC466_4] 30000 (some kC466_1) = true := by decide +kernel
theorem ks466_2 : aseg kS krf kB [kE43, kE89, kE338, kE434, kE465] (ksp [(192, 200, 7, 0, 7, 0)]) kE466 [kC466_0, kC466_1, kC466_2, kC466_3, kC466_4] 30000 (some kC466_2) = true := by decide +kernel
theorem ks466_3 : aseg kS krf kB [kE43, kE89, kE338, kE434, kE465] (ksp [(192, 200, 7, 0, 7, 0)]) kE466 [kC466_0, kC466_1, kC466_2, kC466_3, kC466_4] 30000 (some kC466_3) = true := by decide +kernel
theorem ks466_4 : aseg kS krf kB [kE43, kE89, kE338, kE434, kE465] (ksp [(192, 200, 7, 0, 7, 0)]) kE466 [kC466_0, kC466_1, kC466_2, kC466_3, kC466_4] 30000 (some kC466_4) = true := by decide +kernel
theorem kok466 : aOK kS krf kB kE466 := aOK_of (kal1 kok43 (kal1 kok89 (kal1 kok338 (kal1 kok434 (kal1 kok465 kal0))))) (kcl1 ks466_0 (kcl1 ks466_1 (kcl1 ks466_2 (kcl1 ks466_3 (kcl1 ks466_4 kcl0))))) ks466
/-- ColdShodModel.triesWay(IIIII)V -/
def kE467 : aE := (192, 49, ([kvB 0 7, kvB 0 7, kvB 0 7], [], 0, [kvR 102, kvI 0, kvI 1, kvI 2, kvN 93, kvN 4, none, none], []), ([], none), ([], [], none, ([], [])), kvW64)
def kC467_0 : aC := (([kvB 0 7, kvB 0 7, kvB 0 7, kvB 0 1, kvB 0 4], [], 16, [kvR 102, kvI 0, kvI 1, kvI 2, kvN 93, kvN 4, kvI 3, kvI 4], []), ([], []), (336, [(-1, 4)]))
def kC467_1 : aC := (([kvB 0 7, kvB 0 7, kvB 0 7, kvB 0 12], [], 141, [kvR 102, kvI 0, kvI 1, kvI 2, kvN 93, kvN 4, kvI 3, none], []), ([], []), (141, [(-11, 3)]))
def kC467_2 : aC := (([kvB 0 7, kvB 0 7, kvB 0 7, kvB 0 11, (.negSucc 0, .ofNat 7), kvB 1 12], [(102, 8, .inl (5, .ofNat 0))], 195, [kvR 102, kvI 0, kvI 1, kvI 2, kvN 93, kvN 4, kvI 3, kvI 4], []), ([], []), (139, [(-11, 3), (-1, 4)]))
def kC467_3 : aC := (([kvB 0 7, kvB 0 7, kvB 0 7, (.negSucc 0, .ofNat 2147483647)], [(102, 29, .inl (3, .ofNat 0))], 91, [kvR 102, kvI 0, kvI 1, kvI 2, kvN 93, kvN 4, kvN 1, kvN 4], []), ([], []), (166, []))
def kC467_4 : aC := (([kvB 0 7, kvB 0 7, kvB 0 7, kvB 0 4, (.negSucc 0, .ofNat 99)], [(102, 29, .inl (4, .ofNat 0)), (102, 30, .inr (.ofNat 4))], 110, [kvR 102, kvI 0, kvI 1, kvI 2, kvN 93, kvN 4, kvN 1, kvI 3], []), ([], []), (4, [(-1, 3)]))
theorem ks467 : aseg kS krf kB [kE43, kE89, kE339, kE435, kE465] (ksp [(192, 200, 7, 0, 7, 0)]) kE467 [kC467_0, kC467_1, kC467_2, kC467_3, kC467_4] 30000 (none) = true := by decide +kernel
theorem ks467_0 : aseg kS krf kB [kE43, kE89, kE339, kE435, kE465] (ksp [(192, 200, 7, 0, 7, 0)]) kE467 [kC467_0, kC467_1, kC467_2, kC467_3, kC467_4] 30000 (some kC467_0) = true := by decide +kernel
theorem ks467_1 : aseg kS krf kB [kE43, kE89, kE339, kE435, kE465] (ksp [(192, 200, 7, 0, 7, 0)]) kE467 [kC467_0, kC467_1, kC467_2, kC467_3, kC467_4] 30000 (some kC467_1) = true := by decide +kernel
theorem ks467_2 : aseg kS krf kB [kE43, kE89, kE339, kE435, kE465] (ksp [(192, 200, 7, 0, 7, 0)]) kE467 [kC467_0, kC467_1, kC467_2, kC467_3, kC467_4] 30000 (some kC467_2) = true := by decide +kernel
theorem ks467_3 : aseg kS krf kB [kE43, kE89, kE339, kE435, kE465] (ksp [(192, 200, 7, 0, 7, 0)]) kE467 [kC467_0, kC467_1, kC467_2, kC467_3, kC467_4] 30000 (some kC467_3) = true := by decide +kernel
theorem ks467_4 : aseg kS krf kB [kE43, kE89, kE339, kE435, kE465] (ksp [(192, 200, 7, 0, 7, 0)]) kE467 [kC467_0, kC467_1, kC467_2, kC467_3, kC467_4] 30000 (some kC467_4) = true := by decide +kernel
theorem kok467 : aOK kS krf kB kE467 := aOK_of (kal1 kok43 (kal1 kok89 (kal1 kok339 (kal1 kok435 (kal1 kok465 kal0))))) (kcl1 ks467_0 (kcl1 ks467_1 (kcl1 ks467_2 (kcl1 ks467_3 (kcl1 ks467_4 kcl0))))) ks467
/-- ColdShodModel.triesWay(IIIII)V -/
def kE468 : aE := (192, 50, ([kvB 0 7, kvB 0 7, kvB 0 7], [], 0, [kvR 102, kvI 0, kvI 1, kvI 2, kvN 92, kvN 3, none, none], []), ([], none), ([], [], none, ([], [])), kvW65)
def kC468_0 : aC := (([kvB 0 7, kvB 0 7, kvB 0 7, kvB 0 1, kvB 0 3], [], 16, [kvR 102, kvI 0, kvI 1, kvI 2, kvN 92, kvN 3, kvI 3, kvI 4], []), ([], []), (335, [(-1, 4)]))
def kC468_1 : aC := (([kvB 0 7, kvB 0 7, kvB 0 7, kvB 0 12], [], 141, [kvR 102, kvI 0, kvI 1, kvI 2, kvN 92, kvN 3, kvI 3, none], []), ([], []), (141, [(-11, 3)]))
def kC468_2 : aC := (([kvB 0 7, kvB 0 7, kvB 0 7, kvB 0 11, (.negSucc 0, .ofNat 7), kvB 1 12], [(102, 8, .inl (5, .ofNat 0))], 195, [kvR 102, kvI 0, kvI 1, kvI 2, kvN 92, kvN 3, kvI 3, kvI 4], []), ([], []), (139, [(-11, 3), (-1, 4)]))
def kC468_3 : aC := (([kvB 0 7, kvB 0 7, kvB 0 7, (.negSucc 0, .ofNat 2147483647)], [(102, 29, .inl (3, .ofNat 0))], 91, [kvR 102, kvI 0, kvI 1, kvI 2, kvN 92, kvN 3, kvN 1, kvN 3], []), ([], []), (166, []))
def kC468_4 : aC := (([kvB 0 7, kvB 0 7, kvB 0 7, kvB 0 3, (.negSucc 0, .ofNat 99)], [(102, 29, .inl (4, .ofNat 0)), (102, 30, .inr (.ofNat 3))], 110, [kvR 102, kvI 0, kvI 1, kvI 2, kvN 92, kvN 3, kvN 1, kvI 3], []), ([], []), (3, [(-1, 3)]))
theorem ks468 : aseg kS krf kB [kE43, kE89, kE340, kE436, kE466, kE467] (ksp [(192, 200, 7, 0, 7, 0)]) kE468 [kC468_0, kC468_1, kC468_2, kC468_3, kC468_4] 30000 (none) = true := by decide +kernel
theorem ks468_0 : aseg kS krf kB [kE43, kE89, kE340, kE436, kE466, kE467] (ksp [(192, 200, 7, 0, 7, 0)]) kE468 [kC468_0, kC468_1, kC468_2, kC468_3, kC468_4] 30000 (some kC468_0) = true := by decide +kernel
theorem ks468_1 : aseg kS krf kB [kE43, kE89, kE340, kE436, kE466, kE467] (ksp [(192, 200, 7, 0, 7, 0)]) kE468 [kC468_0, kC468_1, kC468_2, kC468_3, kC468_4] 30000 (some kC468_1) = true := by decide +kernel
theorem ks468_2 : aseg kS krf kB [kE43, kE89, kE340, kE436, kE466, kE467] (ksp [(192, 200, 7, 0, 7, 0)]) kE468 [kC468_0, kC468_1, kC468_2, kC468_3, kC468_4] 30000 (some kC468_2) = true := by decide +kernel
theorem ks468_3 : aseg kS krf kB [kE43, kE89, kE340, kE436, kE466, kE467] (ksp [(192, 200, 7, 0, 7, 0)]) kE468 [kC468_0, kC468_1, kC468_2, kC468_3, kC468_4] 30000 (some kC468_3) = true := by decide +kernel
theorem ks468_4 : aseg kS krf kB [kE43, kE89, kE340, kE436, kE466, kE467] (ksp [(192, 200, 7, 0, 7, 0)]) kE468 [kC468_0, kC468_1, kC468_2, kC468_3, kC468_4] 30000 (some kC468_4) = true := by decide +kernel
theorem kok468 : aOK kS krf kB kE468 := aOK_of (kal1 kok43 (kal1 kok89 (kal1 kok340 (kal1 kok436 (kal1 kok466 (kal1 kok467 kal0)))))) (kcl1 ks468_0 (kcl1 ks468_1 (kcl1 ks468_2 (kcl1 ks468_3 (kcl1 ks468_4 kcl0))))) ks468
/-- ColdShodModel.triesWay(IIIII)V -/
def kE469 : aE := (192, 49, ([kvB 0 7, kvB 0 7, kvB 0 7], [], 0, [kvR 102, kvI 0, kvI 1, kvI 2, kvN 91, kvN 4, none, none], []), ([], none), ([], [], none, ([], [])), kvW64)
def kC469_0 : aC := (([kvB 0 7, kvB 0 7, kvB 0 7, kvB 0 1, kvB 0 4], [], 16, [kvR 102, kvI 0, kvI 1, kvI 2, kvN 91, kvN 4, kvI 3, kvI 4], []), ([], []), (336, [(-1, 4)]))
def kC469_1 : aC := (([kvB 0 7, kvB 0 7, kvB 0 7, kvB 0 12], [], 141, [kvR 102, kvI 0, kvI 1, kvI 2, kvN 91, kvN 4, kvI 3, none], []), ([], []), (141, [(-11, 3)]))
def kC469_2 : aC := (([kvB 0 7, kvB 0 7, kvB 0 7, kvB 0 11, (.negSucc 0, .ofNat 7), kvB 1 12], [(102, 8, .inl (5, .ofNat 0))], 195, [kvR 102, kvI 0, kvI 1, kvI 2, kvN 91, kvN 4, kvI 3, kvI 4], []), ([], []), (139, [(-11, 3), (-1, 4)]))
def kC469_3 : aC := (([kvB 0 7, kvB 0 7, kvB 0 7, (.negSucc 0, .ofNat 2147483647)], [(102, 29, .inl (3, .ofNat 0))], 91, [kvR 102, kvI 0, kvI 1, kvI 2, kvN 91, kvN 4, kvN 1, kvN 4], []), ([], []), (166, []))
def kC469_4 : aC := (([kvB 0 7, kvB 0 7, kvB 0 7, kvB 0 4, (.negSucc 0, .ofNat 99)], [(102, 29, .inl (4, .ofNat 0)), (102, 30, .inr (.ofNat 4))], 110, [kvR 102, kvI 0, kvI 1, kvI 2, kvN 91, kvN 4, kvN 1, kvI 3], []), ([], []), (4, [(-1, 3)]))
theorem ks469 : aseg kS krf kB [kE43, kE89, kE341, kE437, kE465] (ksp [(192, 200, 7, 0, 7, 0)]) kE469 [kC469_0, kC469_1, kC469_2, kC469_3, kC469_4] 30000 (none) = true := by decide +kernel
theorem ks469_0 : aseg kS krf kB [kE43, kE89, kE341, kE437, kE465] (ksp [(192, 200, 7, 0, 7, 0)]) kE469 [kC469_0, kC469_1, kC469_2, kC469_3, kC469_4] 30000 (some kC469_0) = true := by decide +kernel
theorem ks469_1 : aseg kS krf kB [kE43, kE89, kE341, kE437, kE465] (ksp [(192, 200, 7, 0, 7, 0)]) kE469 [kC469_0, kC469_1, kC469_2, kC469_3, kC469_4] 30000 (some kC469_1) = true := by decide +kernel
theorem ks469_2 : aseg kS krf kB [kE43, kE89, kE341, kE437, kE465] (ksp [(192, 200, 7, 0, 7, 0)]) kE469 [kC469_0, kC469_1, kC469_2, kC469_3, kC469_4] 30000 (some kC469_2) = true := by decide +kernel
theorem ks469_3 : aseg kS krf kB [kE43, kE89, kE341, kE437, kE465] (ksp [(192, 200, 7, 0, 7, 0)]) kE469 [kC469_0, kC469_1, kC469_2, kC469_3, kC469_4] 30000 (some kC469_3) = true := by decide +kernel
theorem ks469_4 : aseg kS krf kB [kE43, kE89, kE341, kE437, kE465] (ksp [(192, 200, 7, 0, 7, 0)]) kE469 [kC469_0, kC469_1, kC469_2, kC469_3, kC469_4] 30000 (some kC469_4) = true := by decide +kernel
theorem kok469 : aOK kS krf kB kE469 := aOK_of (kal1 kok43 (kal1 kok89 (kal1 kok341 (kal1 kok437 (kal1 kok465 kal0))))) (kcl1 ks469_0 (kcl1 ks469_1 (kcl1 ks469_2 (kcl1 ks469_3 (kcl1 ks469_4 kcl0))))) ks469
/-- ColdShodModel.triesWay(IIIII)V -/
def kE470 : aE := (192, 50, ([kvB 0 7, kvB 0 7, kvB 0 7], [], 0, [kvR 102, kvI 0, kvI 1, kvI 2, kvN 90, kvN 3, none, none], []), ([], none), ([], [], none, ([], [])), kvW65)
def kC470_0 : aC := (([kvB 0 7, kvB 0 7, kvB 0 7, kvB 0 1, kvB 0 3], [], 16, [kvR 102, kvI 0, kvI 1, kvI 2, kvN 90, kvN 3, kvI 3, kvI 4], []), ([], []), (335, [(-1, 4)]))
def kC470_1 : aC := (([kvB 0 7, kvB 0 7, kvB 0 7, kvB 0 12], [], 141, [kvR 102, kvI 0, kvI 1, kvI 2, kvN 90, kvN 3, kvI 3, none], []), ([], []), (141, [(-11, 3)]))
def kC470_2 : aC := (([kvB 0 7, kvB 0 7, kvB 0 7, kvB 0 11, (.negSucc 0, .ofNat 7), kvB 1 12], [(102, 8, .inl (5, .ofNat 0))], 195, [kvR 102, kvI 0, kvI 1, kvI 2, kvN 90, kvN 3, kvI 3, kvI 4], []), ([], []), (139, [(-11, 3), (-1, 4)]))
def kC470_3 : aC := (([kvB 0 7, kvB 0 7, kvB 0 7, (.negSucc 0, .ofNat 2147483647)], [(102, 29, .inl (3, .ofNat 0))], 91, [kvR 102, kvI 0, kvI 1, kvI 2, kvN 90, kvN 3, kvN 1, kvN 3], []), ([], []), (166, []))
def kC470_4 : aC := (([kvB 0 7, kvB 0 7, kvB 0 7, kvB 0 3, (.negSucc 0, .ofNat 99)], [(102, 29, .inl (4, .ofNat 0)), (102, 30, .inr (.ofNat 3))], 110, [kvR 102, kvI 0, kvI 1, kvI 2, kvN 90, kvN 3, kvN 1, kvI 3], []), ([], []), (3, [(-1, 3)]))
theorem ks470 : aseg kS krf kB [kE43, kE89, kE342, kE438, kE466, kE469] (ksp [(192, 200, 7, 0, 7, 0)]) kE470 [kC470_0, kC470_1, kC470_2, kC470_3, kC470_4] 30000 (none) = true := by decide +kernel
theorem ks470_0 : aseg kS krf kB [kE43, kE89, kE342, kE438, kE466, kE469] (ksp [(192, 200, 7, 0, 7, 0)]) kE470 [kC470_0, kC470_1, kC470_2, kC470_3, kC470_4] 30000 (some kC470_0) = true := by decide +kernel
theorem ks470_1 : aseg kS krf kB [kE43, kE89, kE342, kE438, kE466, kE469] (ksp [(192, 200, 7, 0, 7, 0)]) kE470 [kC470_0, kC470_1, kC470_2, kC470_3, kC470_4] 30000 (some kC470_1) = true := by decide +kernel
theorem ks470_2 : aseg kS krf kB [kE43, kE89, kE342, kE438, kE466, kE469] (ksp [(192, 200, 7, 0, 7, 0)]) kE470 [kC470_0, kC470_1, kC470_2, kC470_3, kC470_4] 30000 (some kC470_2) = true := by decide +kernel
theorem ks470_3 : aseg kS krf kB [kE43, kE89, kE342, kE438, kE466, kE469] (ksp [(192, 200, 7, 0, 7, 0)]) kE470 [kC470_0, kC470_1, kC470_2, kC470_3, kC470_4] 30000 (some kC470_3) = true := by decide +kernel
theorem ks470_4 : aseg kS krf kB [kE43, kE89, kE342, kE438, kE466, kE469] (ksp [(192, 200, 7, 0, 7, 0)]) kE470 [kC470_0, kC470_1, kC470_2, kC470_3, kC470_4] 30000 (some kC470_4) = true := by decide +kernel
theorem kok470 : aOK kS krf kB kE470 := aOK_of (kal1 kok43 (kal1 kok89 (kal1 kok342 (kal1 kok438 (kal1 kok466 (kal1 kok469 kal0)))))) (kcl1 ks470_0 (kcl1 ks470_1 (kcl1 ks470_2 (kcl1 ks470_3 (kcl1 ks470_4 kcl0))))) ks470
/-- ColdShodModel.triesWay(IIIII)V -/
def kE471 : aE := (192, 50, ([kvB 0 7, kvB 0 7, kvB 0 7], [], 0, [kvR 102, kvI 0, kvI 1, kvI 2, kvN 89, kvN 3, none, none], []), ([], none), ([], [], none, ([], [])), kvW65)
def kC471_0 : aC := (([kvB 0 7, kvB 0 7, kvB 0 7, kvB 0 1, kvB 0 3], [], 16, [kvR 102, kvI 0, kvI 1, kvI 2, kvN 89, kvN 3, kvI 3, kvI 4], []), ([], []), (335, [(-1, 4)]))
def kC471_1 : aC := (([kvB 0 7, kvB 0 7, kvB 0 7, kvB 0 12], [], 141, [kvR 102, kvI 0, kvI 1, kvI 2, kvN 89, kvN 3, kvI 3, none], []), ([], []), (141, [(-11, 3)]))
def kC471_2 : aC := (([kvB 0 7, kvB 0 7, kvB 0 7, kvB 0 11, (.negSucc 0, .ofNat 7), kvB 1 12], [(102, 8, .inl (5, .ofNat 0))], 195, [kvR 102, kvI 0, kvI 1, kvI 2, kvN 89, kvN 3, kvI 3, kvI 4], []), ([], []), (139, [(-11, 3), (-1, 4)]))
def kC471_3 : aC := (([kvB 0 7, kvB 0 7, kvB 0 7, (.negSucc 0, .ofNat 2147483647)], [(102, 29, .inl (3, .ofNat 0))], 91, [kvR 102, kvI 0, kvI 1, kvI 2, kvN 89, kvN 3, kvN 1, kvN 3], []), ([], []), (166, []))
def kC471_4 : aC := (([kvB 0 7, kvB 0 7, kvB 0 7, kvB 0 3, (.negSucc 0, .ofNat 99)], [(102, 29, .inl (4, .ofNat 0)), (102, 30, .inr (.ofNat 3))], 110, [kvR 102, kvI 0, kvI 1, kvI 2, kvN 89, kvN 3, kvN 1, kvI 3], []), ([], []), (3, [(-1, 3)]))
theorem ks471 : aseg kS krf kB [kE43, kE89, kE343, kE439, kE467, kE469] (ksp [(192, 200, 7, 0, 7, 0)]) kE471 [kC471_0, kC471_1, kC471_2, kC471_3, kC471_4] 30000 (none) = true := by decide +kernel
theorem ks471_0 : aseg kS krf kB [kE43, kE89, kE343, kE439, kE467, kE469] (ksp [(192, 200, 7, 0, 7, 0)]) kE471 [kC471_0, kC471_1, kC471_2, kC471_3, kC471_4] 30000 (some kC471_0) = true := by decide +kernel
theorem ks471_1 : aseg kS krf kB [kE43, kE89, kE343, kE439, kE467, kE469] (ksp [(192, 200, 7, 0, 7, 0)]) kE471 [kC471_0, kC471_1, kC471_2, kC471_3, kC471_4] 30000 (some kC471_1) = true := by decide +kernel
theorem ks471_2 : aseg kS krf kB [kE43, kE89, kE343, kE439, kE467, kE469] (ksp [(192, 200, 7, 0, 7, 0)]) kE471 [kC471_0, kC471_1, kC471_2, kC471_3, kC471_4] 30000 (some kC471_2) = true := by decide +kernel
theorem ks471_3 : aseg kS krf kB [kE43, kE89, kE343, kE439, kE467, kE469] (ksp [(192, 200, 7, 0, 7, 0)]) kE471 [kC471_0, kC471_1, kC471_2, kC471_3, kC471_4] 30000 (some kC471_3) = true := by decide +kernel
theorem ks471_4 : aseg kS krf kB [kE43, kE89, kE343, kE439, kE467, kE469] (ksp [(192, 200, 7, 0, 7, 0)]) kE471 [kC471_0, kC471_1, kC471_2, kC471_3, kC471_4] 30000 (some kC471_4) = true := by decide +kernel
theorem kok471 : aOK kS krf kB kE471 := aOK_of (kal1 kok43 (kal1 kok89 (kal1 kok343 (kal1 kok439 (kal1 kok467 (kal1 kok469 kal0)))))) (kcl1 ks471_0 (kcl1 ks471_1 (kcl1 ks471_2 (kcl1 ks471_3 (kcl1 ks471_4 kcl0))))) ks471
/-- ColdShodModel.triesWay(IIIII)V -/
def kE472 : aE := (192, 51, ([kvB 0 7, kvB 0 7, kvB 0 7], [], 0, [kvR 102, kvI 0, kvI 1, kvI 2, kvN 88, kvN 2, none, none], []), ([], none), ([], [], none, ([], [])), kvW66)
def kC472_0 : aC := (([kvB 0 7, kvB 0 7, kvB 0 7, kvB 0 1, kvB 0 2], [], 16, [kvR 102, kvI 0, kvI 1, kvI 2, kvN 88, kvN 2, kvI 3, kvI 4], []), ([], []), (334, [(-1, 4)]))
def kC472_1 : aC := (([kvB 0 7, kvB 0 7, kvB 0 7, kvB 0 12], [], 141, [kvR 102, kvI 0, kvI 1, kvI 2, kvN 88, kvN 2, kvI 3, none], []), ([], []), (141, [(-11, 3)]))
def kC472_2 : aC := (([kvB 0 7, kvB 0 7, kvB 0 7, kvB 0 11, (.negSucc 0, .ofNat 7), kvB 1 12], [(102, 8, .inl (5, .ofNat 0))], 195, [kvR 102, kvI 0, kvI 1, kvI 2, kvN 88, kvN 2, kvI 3, kvI 4], []), ([], []), (139, [(-11, 3), (-1, 4)]))
def kC472_3 : aC := (([kvB 0 7, kvB 0 7, kvB 0 7, (.negSucc 0, .ofNat 2147483647)], [(102, 29, .inl (3, .ofNat 0))], 91, [kvR 102, kvI 0, kvI 1, kvI 2, kvN 88, kvN 2, kvN 1, kvN 2], []), ([], []), (166, []))
def kC472_4 : aC := (([kvB 0 7, kvB 0 7, kvB 0 7, kvB 0 2, (.negSucc 0, .ofNat 99)], [(102, 29, .inl (4, .ofNat 0)), (102, 30, .inr (.ofNat 2))], 110, [kvR 102, kvI 0, kvI 1, kvI 2, kvN 88, kvN 2, kvN 1, kvI 3], []), ([], []), (2, [(-1, 3)]))
theorem ks472 : aseg kS krf kB [kE43, kE89, kE344, kE440, kE468, kE470, kE471] (ksp [(192, 200, 7, 0, 7, 0)]) kE472 [kC472_0, kC472_1, kC472_2, kC472_3, kC472_4] 30000 (none) = true := by decide +kernel
theorem ks472_0 : aseg kS krf kB [kE43, kE89, kE344, kE440, kE468, kE470, kE471] (ksp [(192, 200, 7, 0, 7, 0)]) kE472 [kC472_0, kC472_1, kC472_2, kC472_3, kC472_4] 30000 (some kC472_0) = true := by decide +kernel
theorem ks472_1 : aseg kS krf kB [kE43, kE89, kE344, kE440, kE468, kE470, kE471] (ksp [(192, 200, 7, 0, 7, 0)]) kE472 [kC472_0, kC472_1, kC472_2, kC472_3, kC472_4] 30000 (some kC472_1) = true := by decide +kernel
theorem ks472_2 : aseg kS krf kB [kE43, kE89, kE344, kE440, kE468, kE470, kE471] (ksp [(192, 200, 7, 0, 7, 0)]) kE472 [kC472_0, kC472_1, kC472_2, kC472_3, kC472_4] 30000 (some kC472_2) = true := by decide +kernel
theorem ks472_3 : aseg kS krf kB [kE43, kE89, kE344, kE440, kE468, kE470, kE471] (ksp [(192, 200, 7, 0, 7, 0)]) kE472 [kC472_0, kC472_1, kC472_2, kC472_3, kC472_4] 30000 (some kC472_3) = true := by decide +kernel
theorem ks472_4 : aseg kS krf kB [kE43, kE89, kE344, kE440, kE468, kE470, kE471] (ksp [(192, 200, 7, 0, 7, 0)]) kE472 [kC472_0, kC472_1, kC472_2, kC472_3, kC472_4] 30000 (some kC472_4) = true := by decide +kernel
theorem kok472 : aOK kS krf kB kE472 := aOK_of (kal1 kok43 (kal1 kok89 (kal1 kok344 (kal1 kok440 (kal1 kok468 (kal1 kok470 (kal1 kok471 kal0))))))) (kcl1 ks472_0 (kcl1 ks472_1 (kcl1 ks472_2 (kcl1 ks472_3 (kcl1 ks472_4 kcl0))))) ks472
/-- ColdShodModel.triesWay(IIIII)V -/
def kE473 : aE := (192, 49, ([kvB 0 7, kvB 0 7, kvB 0 7], [], 0, [kvR 102, kvI 0, kvI 1, kvI 2, kvN 87, kvN 4, none, none], []), ([], none), ([], [], none, ([], [])), kvW64)
def kC473_0 : aC := (([kvB 0 7, kvB 0 7, kvB 0 7, kvB 0 1, kvB 0 4], [], 16, [kvR 102, kvI 0, kvI 1, kvI 2, kvN 87, kvN 4, kvI 3, kvI 4], []), ([], []), (336, [(-1, 4)]))
def kC473_1 : aC := (([kvB 0 7, kvB 0 7, kvB 0 7, kvB 0 12], [], 141, [kvR 102, kvI 0, kvI 1, kvI 2, kvN 87, kvN 4, kvI 3, none], []), ([], []), (141, [(-11, 3)]))
def kC473_2 : aC := (([kvB 0 7, kvB 0 7, kvB 0 7, kvB 0 11, (.negSucc 0, .ofNat 7), kvB 1 12], [(102, 8, .inl (5, .ofNat 0))], 195, [kvR 102, kvI 0, kvI 1, kvI 2, kvN 87, kvN 4, kvI 3, kvI 4], []), ([], []), (139, [(-11, 3), (-1, 4)]))
def kC473_3 : aC := (([kvB 0 7, kvB 0 7, kvB 0 7, (.negSucc 0, .ofNat 2147483647)], [(102, 29, .inl (3, .ofNat 0))], 91, [kvR 102, kvI 0, kvI 1, kvI 2, kvN 87, kvN 4, kvN 1, kvN 4], []), ([], []), (166, []))
def kC473_4 : aC := (([kvB 0 7, kvB 0 7, kvB 0 7, kvB 0 4, (.negSucc 0, .ofNat 99)], [(102, 29, .inl (4, .ofNat 0)), (102, 30, .inr (.ofNat 4))], 110, [kvR 102, kvI 0, kvI 1, kvI 2, kvN 87, kvN 4, kvN 1, kvI 3], []), ([], []), (4, [(-1, 3)]))
theorem ks473 : aseg kS krf kB [kE43, kE89, kE345, kE441, kE465] (ksp [(192, 200, 7, 0, 7, 0)]) kE473 [kC473_0, kC473_1, kC473_2, kC473_3, kC473_4] 30000 (none) = true := by decide +kernel
theorem ks473_0 : aseg kS krf kB [kE43, kE89, kE345, kE441, kE465] (ksp [(192, 200, 7, 0, 7, 0)]) kE473 [kC473_0, kC473_1, kC473_2, kC473_3, kC473_4] 30000 (some kC473_0) = true := by decide +kernel
theorem ks473_1 : aseg kS krf kB [kE43, kE89, kE345, kE441, kE465] (ksp [(192, 200, 7, 0, 7, 0)]) kE473 [kC473_0, kC473_1, kC473_2, kC473_3, kC473_4] 30000 (some kC473_1) = true := by decide +kernel
theorem ks473_2 : aseg kS krf kB [kE43, kE89, kE345, kE441, kE465] (ksp [(192, 200, 7, 0, 7, 0)]) kE473 [kC473_0, kC473_1, kC473_2, kC473_3, kC473_4] 30000 (some kC473_2) = true := by decide +kernel
theorem ks473_3 : aseg kS krf kB [kE43, kE89, kE345, kE441, kE465] (ksp [(192, 200, 7, 0, 7, 0)]) kE473 [kC473_0, kC473_1, kC473_2, kC473_3, kC473_4] 30000 (some kC473_3) = true := by decide +kernel
theorem ks473_4 : aseg kS krf kB [kE43, kE89, kE345, kE441, kE465] (ksp [(192, 200, 7, 0, 7, 0)]) kE473 [kC473_0, kC473_1, kC473_2, kC473_3, kC473_4] 30000 (some kC473_4) = true := by decide +kernel
theorem kok473 : aOK kS krf kB kE473 := aOK_of (kal1 kok43 (kal1 kok89 (kal1 kok345 (kal1 kok441 (kal1 kok465 kal0))))) (kcl1 ks473_0 (kcl1 ks473_1 (kcl1 ks473_2 (kcl1 ks473_3 (kcl1 ks473_4 kcl0))))) ks473
/-- ColdShodModel.triesWay(IIIII)V -/
def kE474 : aE := (192, 50, ([kvB 0 7, kvB 0 7, kvB 0 7], [], 0, [kvR 102, kvI 0, kvI 1, kvI 2, kvN 86, kvN 3, none, none], []), ([], none), ([], [], none, ([], [])), kvW65)
def kC474_0 : aC := (([kvB 0 7, kvB 0 7, kvB 0 7, kvB 0 1, kvB 0 3], [], 16, [kvR 102, kvI 0, kvI 1, kvI 2, kvN 86, kvN 3, kvI 3, kvI 4], []), ([], []), (335, [(-1, 4)]))
def kC474_1 : aC := (([kvB 0 7, kvB 0 7, kvB 0 7, kvB 0 12], [], 141, [kvR 102, kvI 0, kvI 1, kvI 2, kvN 86, kvN 3, kvI 3, none], []), ([], []), (141, [(-11, 3)]))
def kC474_2 : aC := (([kvB 0 7, kvB 0 7, kvB 0 7, kvB 0 11, (.negSucc 0, .ofNat 7), kvB 1 12], [(102, 8, .inl (5, .ofNat 0))], 195, [kvR 102, kvI 0, kvI 1, kvI 2, kvN 86, kvN 3, kvI 3, kvI 4], []), ([], []), (139, [(-11, 3), (-1, 4)]))
def kC474_3 : aC := (([kvB 0 7, kvB 0 7, kvB 0 7, (.negSucc 0, .ofNat 2147483647)], [(102, 29, .inl (3, .ofNat 0))], 91, [kvR 102, kvI 0, kvI 1, kvI 2, kvN 86, kvN 3, kvN 1, kvN 3], []), ([], []), (166, []))
def kC474_4 : aC := (([kvB 0 7, kvB 0 7, kvB 0 7, kvB 0 3, (.negSucc 0, .ofNat 99)], [(102, 29, .inl (4, .ofNat 0)), (102, 30, .inr (.ofNat 3))], 110, [kvR 102, kvI 0, kvI 1, kvI 2, kvN 86, kvN 3, kvN 1, kvI 3], []), ([], []), (3, [(-1, 3)]))
theorem ks474 : aseg kS krf kB [kE43, kE89, kE346, kE442, kE466, kE473] (ksp [(192, 200, 7, 0, 7, 0)]) kE474 [kC474_0, kC474_1, kC474_2, kC474_3, kC474_4] 30000 (none) = true := by decide +kernel
theorem ks474_0 : aseg kS krf kB [kE43, kE89, kE346, kE442, kE466, kE473] (ksp [(192, 200, 7, 0, 7, 0)]) kE474 [kC474_0, kC474_1, kC474_2, kC474_3, kC474_4] 30000 (some kC474_0) = true := by decide +kernel
theorem ks474_1 : aseg kS krf kB [kE43, kE89, kE346, kE442, kE466, kE473] (ksp [(192, 200, 7, 0, 7, 0)]) kE474 [kC474_0, kC474_1, kC474_2, kC474_3, kC474_4] 30000 (some kC474_1) = true := by decide +kernel
theorem ks474_2 : aseg kS krf kB [kE43, kE89, kE346, kE442, kE466, kE473] (ksp [(192, 200, 7, 0, 7, 0)]) kE474 [kC474_0, kC474_1, kC474_2, kC474_3, kC474_4] 30000 (some kC474_2) = true := by decide +kernel
theorem ks474_3 : aseg kS krf kB [kE43, kE89, kE346, kE442, kE466, kE473] (ksp [(192, 200, 7, 0, 7, 0)]) kE474 [kC474_0, kC474_1, kC474_2, kC474_3, kC474_4] 30000 (some kC474_3) = true := by decide +kernel
theorem ks474_4 : aseg kS krf kB [kE43, kE89, kE346, kE442, kE466, kE473] (ksp [(192, 200, 7, 0, 7, 0)]) kE474 [kC474_0, kC474_1, kC474_2, kC474_3, kC474_4] 30000 (some kC474_4) = true := by decide +kernel
theorem kok474 : aOK kS krf kB kE474 := aOK_of (kal1 kok43 (kal1 kok89 (kal1 kok346 (kal1 kok442 (kal1 kok466 (kal1 kok473 kal0)))))) (kcl1 ks474_0 (kcl1 ks474_1 (kcl1 ks474_2 (kcl1 ks474_3 (kcl1 ks474_4 kcl0))))) ks474
/-- ColdShodModel.triesWay(IIIII)V -/
def kE475 : aE := (192, 50, ([kvB 0 7, kvB 0 7, kvB 0 7], [], 0, [kvR 102, kvI 0, kvI 1, kvI 2, kvN 85, kvN 3, none, none], []), ([], none), ([], [], none, ([], [])), kvW65)
def kC475_0 : aC := (([kvB 0 7, kvB 0 7, kvB 0 7, kvB 0 1, kvB 0 3], [], 16, [kvR 102, kvI 0, kvI 1, kvI 2, kvN 85, kvN 3, kvI 3, kvI 4], []), ([], []), (335, [(-1, 4)]))
def kC475_1 : aC := (([kvB 0 7, kvB 0 7, kvB 0 7, kvB 0 12], [], 141, [kvR 102, kvI 0, kvI 1, kvI 2, kvN 85, kvN 3, kvI 3, none], []), ([], []), (141, [(-11, 3)]))
def kC475_2 : aC := (([kvB 0 7, kvB 0 7, kvB 0 7, kvB 0 11, (.negSucc 0, .ofNat 7), kvB 1 12], [(102, 8, .inl (5, .ofNat 0))], 195, [kvR 102, kvI 0, kvI 1, kvI 2, kvN 85, kvN 3, kvI 3, kvI 4], []), ([], []), (139, [(-11, 3), (-1, 4)]))
def kC475_3 : aC := (([kvB 0 7, kvB 0 7, kvB 0 7, (.negSucc 0, .ofNat 2147483647)], [(102, 29, .inl (3, .ofNat 0))], 91, [kvR 102, kvI 0, kvI 1, kvI 2, kvN 85, kvN 3, kvN 1, kvN 3], []), ([], []), (166, []))
def kC475_4 : aC := (([kvB 0 7, kvB 0 7, kvB 0 7, kvB 0 3, (.negSucc 0, .ofNat 99)], [(102, 29, .inl (4, .ofNat 0)), (102, 30, .inr (.ofNat 3))], 110, [kvR 102, kvI 0, kvI 1, kvI 2, kvN 85, kvN 3, kvN 1, kvI 3], []), ([], []), (3, [(-1, 3)]))
theorem ks475 : aseg kS krf kB [kE43, kE89, kE347, kE443, kE467, kE473] (ksp [(192, 200, 7, 0, 7, 0)]) kE475 [kC475_0, kC475_1, kC475_2, kC475_3, kC475_4] 30000 (none) = true := by decide +kernel
theorem ks475_0 : aseg kS krf kB [kE43, kE89, kE347, kE443, kE467, kE473] (ksp [(192, 200, 7, 0, 7, 0)]) kE475 [kC475_0, kC475_1, kC475_2, kC475_3, kC475_4] 30000 (some kC475_0) = true := by decide +kernel
theorem ks475_1 : aseg kS krf kB [kE43, kE89, kE347, kE443, kE467, kE473] (ksp [(192, 200, 7, 0, 7, 0)]) kE475 [kC475_0, kC475_1, kC475_2, kC475_3, kC475_4] 30000 (some kC475_1) = true := by decide +kernel
theorem ks475_2 : aseg kS krf kB [kE43, kE89, kE347, kE443, kE467, kE473] (ksp [(192, 200, 7, 0, 7, 0)]) kE475 [kC475_0, kC475_1, kC475_2, kC475_3, kC475_4] 30000 (some kC475_2) = true := by decide +kernel
theorem ks475_3 : aseg kS krf kB [kE43, kE89, kE347, kE443, kE467, kE473] (ksp [(192, 200, 7, 0, 7, 0)]) kE475 [kC475_0, kC475_1, kC475_2, kC475_3, kC475_4] 30000 (some kC475_3) = true := by decide +kernel
theorem ks475_4 : aseg kS krf kB [kE43, kE89, kE347, kE443, kE467, kE473] (ksp [(192, 200, 7, 0, 7, 0)]) kE475 [kC475_0, kC475_1, kC475_2, kC475_3, kC475_4] 30000 (some kC475_4) = true := by decide +kernel
theorem kok475 : aOK kS krf kB kE475 := aOK_of (kal1 kok43 (kal1 kok89 (kal1 kok347 (kal1 kok443 (kal1 kok467 (kal1 kok473 kal0)))))) (kcl1 ks475_0 (kcl1 ks475_1 (kcl1 ks475_2 (kcl1 ks475_3 (kcl1 ks475_4 kcl0))))) ks475
/-- ColdShodModel.triesWay(IIIII)V -/
def kE476 : aE := (192, 51, ([kvB 0 7, kvB 0 7, kvB 0 7], [], 0, [kvR 102, kvI 0, kvI 1, kvI 2, kvN 84, kvN 2, none, none], []), ([], none), ([], [], none, ([], [])), kvW66)
def kC476_0 : aC := (([kvB 0 7, kvB 0 7, kvB 0 7, kvB 0 1, kvB 0 2], [], 16, [kvR 102, kvI 0, kvI 1, kvI 2, kvN 84, kvN 2, kvI 3, kvI 4], []), ([], []), (334, [(-1, 4)]))
def kC476_1 : aC := (([kvB 0 7, kvB 0 7, kvB 0 7, kvB 0 12], [], 141, [kvR 102, kvI 0, kvI 1, kvI 2, kvN 84, kvN 2, kvI 3, none], []), ([], []), (141, [(-11, 3)]))
def kC476_2 : aC := (([kvB 0 7, kvB 0 7, kvB 0 7, kvB 0 11, (.negSucc 0, .ofNat 7), kvB 1 12], [(102, 8, .inl (5, .ofNat 0))], 195, [kvR 102, kvI 0, kvI 1, kvI 2, kvN 84, kvN 2, kvI 3, kvI 4], []), ([], []), (139, [(-11, 3), (-1, 4)]))
def kC476_3 : aC := (([kvB 0 7, kvB 0 7, kvB 0 7, (.negSucc 0, .ofNat 2147483647)], [(102, 29, .inl (3, .ofNat 0))], 91, [kvR 102, kvI 0, kvI 1, kvI 2, kvN 84, kvN 2, kvN 1, kvN 2], []), ([], []), (166, []))
def kC476_4 : aC := (([kvB 0 7, kvB 0 7, kvB 0 7, kvB 0 2, (.negSucc 0, .ofNat 99)], [(102, 29, .inl (4, .ofNat 0)), (102, 30, .inr (.ofNat 2))], 110, [kvR 102, kvI 0, kvI 1, kvI 2, kvN 84, kvN 2, kvN 1, kvI 3], []), ([], []), (2, [(-1, 3)]))
theorem ks476 : aseg kS krf kB [kE43, kE89, kE348, kE444, kE468, kE474, kE475] (ksp [(192, 200, 7, 0, 7, 0)]) kE476 [kC476_0, kC476_1, kC476_2, kC476_3, kC476_4] 30000 (none) = true := by decide +kernel
theorem ks476_0 : aseg kS krf kB [kE43, kE89, kE348, kE444, kE468, kE474, kE475] (ksp [(192, 200, 7, 0, 7, 0)]) kE476 [kC476_0, kC476_1, kC476_2, kC476_3, kC476_4] 30000 (some kC476_0) = true := by decide +kernel
theorem ks476_1 : aseg kS krf kB [kE43, kE89, kE348, kE444, kE468, kE474, kE475] (ksp [(192, 200, 7, 0, 7, 0)]) kE476 [kC476_0, kC476_1, kC476_2, kC476_3, kC476_4] 30000 (some kC476_1) = true := by decide +kernel
theorem ks476_2 : aseg kS krf kB [kE43, kE89, kE348, kE444, kE468, kE474, kE475] (ksp [(192, 200, 7, 0, 7, 0)]) kE476 [kC476_0, kC476_1, kC476_2, kC476_3, kC476_4] 30000 (some kC476_2) = true := by decide +kernel
theorem ks476_3 : aseg kS krf kB [kE43, kE89, kE348, kE444, kE468, kE474, kE475] (ksp [(192, 200, 7, 0, 7, 0)]) kE476 [kC476_0, kC476_1, kC476_2, kC476_3, kC476_4] 30000 (some kC476_3) = true := by decide +kernel
theorem ks476_4 : aseg kS krf kB [kE43, kE89, kE348, kE444, kE468, kE474, kE475] (ksp [(192, 200, 7, 0, 7, 0)]) kE476 [kC476_0, kC476_1, kC476_2, kC476_3, kC476_4] 30000 (some kC476_4) = true := by decide +kernel
theorem kok476 : aOK kS krf kB kE476 := aOK_of (kal1 kok43 (kal1 kok89 (kal1 kok348 (kal1 kok444 (kal1 kok468 (kal1 kok474 (kal1 kok475 kal0))))))) (kcl1 ks476_0 (kcl1 ks476_1 (kcl1 ks476_2 (kcl1 ks476_3 (kcl1 ks476_4 kcl0))))) ks476
/-- ColdShodModel.triesWay(IIIII)V -/
def kE477 : aE := (192, 50, ([kvB 0 7, kvB 0 7, kvB 0 7], [], 0, [kvR 102, kvI 0, kvI 1, kvI 2, kvN 83, kvN 3, none, none], []), ([], none), ([], [], none, ([], [])), kvW65)
def kC477_0 : aC := (([kvB 0 7, kvB 0 7, kvB 0 7, kvB 0 1, kvB 0 3], [], 16, [kvR 102, kvI 0, kvI 1, kvI 2, kvN 83, kvN 3, kvI 3, kvI 4], []), ([], []), (335, [(-1, 4)]))
def kC477_1 : aC := (([kvB 0 7, kvB 0 7, kvB 0 7, kvB 0 12], [], 141, [kvR 102, kvI 0, kvI 1, kvI 2, kvN 83, kvN 3, kvI 3, none], []), ([], []), (141, [(-11, 3)]))
def kC477_2 : aC := (([kvB 0 7, kvB 0 7, kvB 0 7, kvB 0 11, (.negSucc 0, .ofNat 7), kvB 1 12], [(102, 8, .inl (5, .ofNat 0))], 195, [kvR 102, kvI 0, kvI 1, kvI 2, kvN 83, kvN 3, kvI 3, kvI 4], []), ([], []), (139, [(-11, 3), (-1, 4)]))
def kC477_3 : aC := (([kvB 0 7, kvB 0 7, kvB 0 7, (.negSucc 0, .ofNat 2147483647)], [(102, 29, .inl (3, .ofNat 0))], 91, [kvR 102, kvI 0, kvI 1, kvI 2, kvN 83, kvN 3, kvN 1, kvN 3], []), ([], []), (166, []))
def kC477_4 : aC := (([kvB 0 7, kvB 0 7, kvB 0 7, kvB 0 3, (.negSucc 0, .ofNat 99)], [(102, 29, .inl (4, .ofNat 0)), (102, 30, .inr (.ofNat 3))], 110, [kvR 102, kvI 0, kvI 1, kvI 2, kvN 83, kvN 3, kvN 1, kvI 3], []), ([], []), (3, [(-1, 3)]))
theorem ks477 : aseg kS krf kB [kE43, kE89, kE349, kE445, kE469, kE473] (ksp [(192, 200, 7, 0, 7, 0)]) kE477 [kC477_0, kC477_1, kC477_2, kC477_3, kC477_4] 30000 (none) = true := by decide +kernel
theorem ks477_0 : aseg kS krf kB [kE43, kE89, kE349, kE445, kE469, kE473] (ksp [(192, 200, 7, 0, 7, 0)]) kE477 [kC477_0, kC477_1, kC477_2, kC477_3, kC477_4] 30000 (some kC477_0) = true := by decide +kernel
theorem ks477_1 : aseg kS krf kB [kE43, kE89, kE349, kE445, kE469, kE473] (ksp [(192, 200, 7, 0, 7, 0)]) kE477 [kC477_0, kC477_1, kC477_2, kC477_3, kC477_4] 30000 (some kC477_1) = true := by decide +kernel
theorem ks477_2 : aseg kS krf kB [kE43, kE89, kE349, kE445, kE469, kE473] (ksp [(192, 200, 7, 0, 7, 0)]) kE477 [kC477_0, kC477_1, kC477_2, kC477_3, kC477_4] 30000 (some kC477_2) = true := by decide +kernel
theorem ks477_3 : aseg kS krf kB [kE43, kE89, kE349, kE445, kE469, kE473] (ksp [(192, 200, 7, 0, 7, 0)]) kE477 [kC477_0, kC477_1, kC477_2, kC477_3, kC477_4] 30000 (some kC477_3) = true := by decide +kernel
theorem ks477_4 : aseg kS krf kB [kE43, kE89, kE349, kE445, kE469, kE473] (ksp [(192, 200, 7, 0, 7, 0)]) kE477 [kC477_0, kC477_1, kC477_2, kC477_3, kC477_4] 30000 (some kC477_4) = true := by decide +kernel
theorem kok477 : aOK kS krf kB kE477 := aOK_of (kal1 kok43 (kal1 kok89 (kal1 kok349 (kal1 kok445 (kal1 kok469 (kal1 kok473 kal0)))))) (kcl1 ks477_0 (kcl1 ks477_1 (kcl1 ks477_2 (kcl1 ks477_3 (kcl1 ks477_4 kcl0))))) ks477
/-- ColdShodModel.triesWay(IIIII)V -/
def kE478 : aE := (192, 51, ([kvB 0 7, kvB 0 7, kvB 0 7], [], 0, [kvR 102, kvI 0, kvI 1, kvI 2, kvN 82, kvN 2, none, none], []), ([], none), ([], [], none, ([], [])), kvW66)
def kC478_0 : aC := (([kvB 0 7, kvB 0 7, kvB 0 7, kvB 0 1, kvB 0 2], [], 16, [kvR 102, kvI 0, kvI 1, kvI 2, kvN 82, kvN 2, kvI 3, kvI 4], []), ([], []), (334, [(-1, 4)]))
def kC478_1 : aC := (([kvB 0 7, kvB 0 7, kvB 0 7, kvB 0 12], [], 141, [kvR 102, kvI 0, kvI 1, kvI 2, kvN 82, kvN 2, kvI 3, none], []), ([], []), (141, [(-11, 3)]))
def kC478_2 : aC := (([kvB 0 7, kvB 0 7, kvB 0 7, kvB 0 11, (.negSucc 0, .ofNat 7), kvB 1 12], [(102, 8, .inl (5, .ofNat 0))], 195, [kvR 102, kvI 0, kvI 1, kvI 2, kvN 82, kvN 2, kvI 3, kvI 4], []), ([], []), (139, [(-11, 3), (-1, 4)]))
def kC478_3 : aC := (([kvB 0 7, kvB 0 7, kvB 0 7, (.negSucc 0, .ofNat 2147483647)], [(102, 29, .inl (3, .ofNat 0))], 91, [kvR 102, kvI 0, kvI 1, kvI 2, kvN 82, kvN 2, kvN 1, kvN 2], []), ([], []), (166, []))
def kC478_4 : aC := (([kvB 0 7, kvB 0 7, kvB 0 7, kvB 0 2, (.negSucc 0, .ofNat 99)], [(102, 29, .inl (4, .ofNat 0)), (102, 30, .inr (.ofNat 2))], 110, [kvR 102, kvI 0, kvI 1, kvI 2, kvN 82, kvN 2, kvN 1, kvI 3], []), ([], []), (2, [(-1, 3)]))
theorem ks478 : aseg kS krf kB [kE43, kE89, kE350, kE446, kE470, kE474, kE477] (ksp [(192, 200, 7, 0, 7, 0)]) kE478 [kC478_0, kC478_1, kC478_2, kC478_3, kC478_4] 30000 (none) = true := by decide +kernel
theorem ks478_0 : aseg kS krf kB [kE43, kE89, kE350, kE446, kE470, kE474, kE477] (ksp [(192, 200, 7, 0, 7, 0)]) kE478 [kC478_0, kC478_1, kC478_2, kC478_3, kC478_4] 30000 (some kC478_0) = true := by decide +kernel
theorem ks478_1 : aseg kS krf kB [kE43, kE89, kE350, kE446, kE470, kE474, kE477] (ksp [(192, 200, 7, 0, 7, 0)]) kE478 [kC478_0, kC478_1, kC478_2, kC478_3, kC478_4] 30000 (some kC478_1) = true := by decide +kernel
theorem ks478_2 : aseg kS krf kB [kE43, kE89, kE350, kE446, kE470, kE474, kE477] (ksp [(192, 200, 7, 0, 7, 0)]) kE478 [kC478_0, kC478_1, kC478_2, kC478_3, kC478_4] 30000 (some kC478_2) = true := by decide +kernel
theorem ks478_3 : aseg kS krf kB [kE43, kE89, kE350, kE446, kE470, kE474, kE477] (ksp [(192, 200, 7, 0, 7, 0)]) kE478 [kC478_0, kC478_1, kC478_2, kC478_3, kC478_4] 30000 (some kC478_3) = true := by decide +kernel
theorem ks478_4 : aseg kS krf kB [kE43, kE89, kE350, kE446, kE470, kE474, kE477] (ksp [(192, 200, 7, 0, 7, 0)]) kE478 [kC478_0, kC478_1, kC478_2, kC478_3, kC478_4] 30000 (some kC478_4) = true := by decide +kernel
theorem kok478 : aOK kS krf kB kE478 := aOK_of (kal1 kok43 (kal1 kok89 (kal1 kok350 (kal1 kok446 (kal1 kok470 (kal1 kok474 (kal1 kok477 kal0))))))) (kcl1 ks478_0 (kcl1 ks478_1 (kcl1 ks478_2 (kcl1 ks478_3 (kcl1 ks478_4 kcl0))))) ks478
/-- ColdShodModel.triesWay(IIIII)V -/
def kE479 : aE := (192, 51, ([kvB 0 7, kvB 0 7, kvB 0 7], [], 0, [kvR 102, kvI 0, kvI 1, kvI 2, kvN 81, kvN 2, none, none], []), ([], none), ([], [], none, ([], [])), kvW66)
def kC479_0 : aC := (([kvB 0 7, kvB 0 7, kvB 0 7, kvB 0 1, kvB 0 2], [], 16, [kvR 102, kvI 0, kvI 1, kvI 2, kvN 81, kvN 2, kvI 3, kvI 4], []), ([], []), (334, [(-1, 4)]))
def kC479_1 : aC := (([kvB 0 7, kvB 0 7, kvB 0 7, kvB 0 12], [], 141, [kvR 102, kvI 0, kvI 1, kvI 2, kvN 81, kvN 2, kvI 3, none], []), ([], []), (141, [(-11, 3)]))
def kC479_2 : aC := (([kvB 0 7, kvB 0 7, kvB 0 7, kvB 0 11, (.negSucc 0, .ofNat 7), kvB 1 12], [(102, 8, .inl (5, .ofNat 0))], 195, [kvR 102, kvI 0, kvI 1, kvI 2, kvN 81, kvN 2, kvI 3, kvI 4], []), ([], []), (139, [(-11, 3), (-1, 4)]))
def kC479_3 : aC := (([kvB 0 7, kvB 0 7, kvB 0 7, (.negSucc 0, .ofNat 2147483647)], [(102, 29, .inl (3, .ofNat 0))], 91, [kvR 102, kvI 0, kvI 1, kvI 2, kvN 81, kvN 2, kvN 1, kvN 2], []), ([], []), (166, []))
def kC479_4 : aC := (([kvB 0 7, kvB 0 7, kvB 0 7, kvB 0 2, (.negSucc 0, .ofNat 99)], [(102, 29, .inl (4, .ofNat 0)), (102, 30, .inr (.ofNat 2))], 110, [kvR 102, kvI 0, kvI 1, kvI 2, kvN 81, kvN 2, kvN 1, kvI 3], []), ([], []), (2, [(-1, 3)]))
theorem ks479 : aseg kS krf kB [kE43, kE89, kE351, kE447, kE471, kE475, kE477] (ksp [(192, 200, 7, 0, 7, 0)]) kE479 [kC479_0, kC479_1, kC479_2, kC479_3, kC479_4] 30000 (none) = true := by decide +kernel
theorem ks479_0 : aseg kS krf kB [kE43, kE89, kE351, kE447, kE471, kE475, kE477] (ksp [(192, 200, 7, 0, 7, 0)]) kE479 [kC479_0, kC479_1, kC479_2, kC479_3, kC479_4] 30000 (some kC479_0) = true := by decide +kernel
theorem ks479_1 : aseg kS krf kB [kE43, kE89, kE351, kE447, kE471, kE475, kE477] (ksp [(192, 200, 7, 0, 7, 0)]) kE479 [kC479_0, kC479_1, kC479_2, kC479_3, kC479_4] 30000 (some kC479_1) = true := by decide +kernel
theorem ks479_2 : aseg kS krf kB [kE43, kE89, kE351, kE447, kE471, kE475, kE477] (ksp [(192, 200, 7, 0, 7, 0)]) kE479 [kC479_0, kC479_1, kC479_2, kC479_3, kC479_4] 30000 (some kC479_2) = true := by decide +kernel
theorem ks479_3 : aseg kS krf kB [kE43, kE89, kE351, kE447, kE471, kE475, kE477] (ksp [(192, 200, 7, 0, 7, 0)]) kE479 [kC479_0, kC479_1, kC479_2, kC479_3, kC479_4] 30000 (some kC479_3) = true := by decide +kernel
theorem ks479_4 : aseg kS krf kB [kE43, kE89, kE351, kE447, kE471, kE475, kE477] (ksp [(192, 200, 7, 0, 7, 0)]) kE479 [kC479_0, kC479_1, kC479_2, kC479_3, kC479_4] 30000 (some kC479_4) = true := by decide +kernel
theorem kok479 : aOK kS krf kB kE479 := aOK_of (kal1 kok43 (kal1 kok89 (kal1 kok351 (kal1 kok447 (kal1 kok471 (kal1 kok475 (kal1 kok477 kal0))))))) (kcl1 ks479_0 (kcl1 ks479_1 (kcl1 ks479_2 (kcl1 ks479_3 (kcl1 ks479_4 kcl0))))) ks479
/-- ColdShodModel.triesWay(IIIII)V -/
def kE480 : aE := (192, 52, ([kvB 0 7, kvB 0 7, kvB 0 7], [], 0, [kvR 102, kvI 0, kvI 1, kvI 2, kvN 80, kvN 1, none, none], []), ([], none), ([], [], none, ([], [])), kvW67)
def kC480_0 : aC := (([kvB 0 7, kvB 0 7, kvB 0 7, kvB 0 1, kvB 0 1], [], 16, [kvR 102, kvI 0, kvI 1, kvI 2, kvN 80, kvN 1, kvI 3, kvI 4], []), ([], []), (333, [(-1, 4)]))
def kC480_1 : aC := (([kvB 0 7, kvB 0 7, kvB 0 7, kvB 0 12], [], 141, [kvR 102, kvI 0, kvI 1, kvI 2, kvN 80, kvN 1, kvI 3, none], []), ([], []), (141, [(-11, 3)]))
def kC480_2 : aC := (([kvB 0 7, kvB 0 7, kvB 0 7, kvB 0 11, (.negSucc 0, .ofNat 7), kvB 1 12], [(102, 8, .inl (5, .ofNat 0))], 195, [kvR 102, kvI 0, kvI 1, kvI 2, kvN 80, kvN 1, kvI 3, kvI 4], []), ([], []), (139, [(-11, 3), (-1, 4)]))
def kC480_3 : aC := (([kvB 0 7, kvB 0 7, kvB 0 7, (.negSucc 0, .ofNat 2147483647)], [(102, 29, .inl (3, .ofNat 0))], 91, [kvR 102, kvI 0, kvI 1, kvI 2, kvN 80, kvN 1, kvN 1, kvN 1], []), ([], []), (166, []))
def kC480_4 : aC := (([kvB 0 7, kvB 0 7, kvB 0 7, kvB 0 1, (.negSucc 0, .ofNat 99)], [(102, 29, .inl (4, .ofNat 0)), (102, 30, .inr (.ofNat 1))], 110, [kvR 102, kvI 0, kvI 1, kvI 2, kvN 80, kvN 1, kvN 1, kvI 3], []), ([], []), (1, [(-1, 3)]))
theorem ks480 : aseg kS krf kB [kE43, kE89, kE352, kE448, kE472, kE476, kE478, kE479] (ksp [(192, 200, 7, 0, 7, 0)]) kE480 [kC480_0, kC480_1, kC480_2, kC480_3, kC480_4] 30000 (none) = true := by decide +kernel
theorem ks480_0 : aseg kS krf kB [kE43, kE89, kE352, kE448, kE472, kE476, kE478, kE479] (ksp [(192, 200, 7, 0, 7, 0)]) kE480 [kC480_0, kC480_1, kC480_2, kC480_3, kC480_4] 30000 (some kC480_0) = true := by decide +kernel
theorem ks480_1 : aseg kS krf kB [kE43, kE89, kE352, kE448, kE472, kE476, kE478, kE479] (ksp [(192, 200, 7, 0, 7, 0)]) kE480 [kC480_0, kC480_1, kC480_2, kC480_3, kC480_4] 30000 (some kC480_1) = true := by decide +kernel
theorem ks480_2 : aseg kS krf kB [kE43, kE89, kE352, kE448, kE472, kE476, kE478, kE479] (ksp [(192, 200, 7, 0, 7, 0)]) kE480 [kC480_0, kC480_1, kC480_2, kC480_3, kC480_4] 30000 (some kC480_2) = true := by decide +kernel
theorem ks480_3 : aseg kS krf kB [kE43, kE89, kE352, kE448, kE472, kE476, kE478, kE479] (ksp [(192, 200, 7, 0, 7, 0)]) kE480 [kC480_0, kC480_1, kC480_2, kC480_3, kC480_4] 30000 (some kC480_3) = true := by decide +kernel
theorem ks480_4 : aseg kS krf kB [kE43, kE89, kE352, kE448, kE472, kE476, kE478, kE479] (ksp [(192, 200, 7, 0, 7, 0)]) kE480 [kC480_0, kC480_1, kC480_2, kC480_3, kC480_4] 30000 (some kC480_4) = true := by decide +kernel
theorem kok480 : aOK kS krf kB kE480 := aOK_of (kal1 kok43 (kal1 kok89 (kal1 kok352 (kal1 kok448 (kal1 kok472 (kal1 kok476 (kal1 kok478 (kal1 kok479 kal0)))))))) (kcl1 ks480_0 (kcl1 ks480_1 (kcl1 ks480_2 (kcl1 ks480_3 (kcl1 ks480_4 kcl0))))) ks480
/-- ColdShodModel.triesWay(IIIII)V -/
def kE481 : aE := (192, 49, ([kvB 0 7, kvB 0 7, kvB 0 7], [], 0, [kvR 102, kvI 0, kvI 1, kvI 2, kvN 79, kvN 4, none, none], []), ([], none), ([], [], none, ([], [])), kvW64)
def kC481_0 : aC := (([kvB 0 7, kvB 0 7, kvB 0 7, kvB 0 1, kvB 0 4], [], 16, [kvR 102, kvI 0, kvI 1, kvI 2, kvN 79, kvN 4, kvI 3, kvI 4], []), ([], []), (336, [(-1, 4)]))
def kC481_1 : aC := (([kvB 0 7, kvB 0 7, kvB 0 7, kvB 0 12], [], 141, [kvR 102, kvI 0, kvI 1, kvI 2, kvN 79, kvN 4, kvI 3, none], []), ([], []), (141, [(-11, 3)]))
def kC481_2 : aC := (([kvB 0 7, kvB 0 7, kvB 0 7, kvB 0 11, (.negSucc 0, .ofNat 7), kvB 1 12], [(102, 8, .inl (5, .ofNat 0))], 195, [kvR 102, kvI 0, kvI 1, kvI 2, kvN 79, kvN 4, kvI 3, kvI 4], []), ([], []), (139, [(-11, 3), (-1, 4)]))
def kC481_3 : aC := (([kvB 0 7, kvB 0 7, kvB 0 7, (.negSucc 0, .ofNat 2147483647)], [(102, 29, .inl (3, .ofNat 0))], 91, [kvR 102, kvI 0, kvI 1, kvI 2, kvN 79, kvN 4, kvN 1, kvN 4], []), ([], []), (166, []))
def kC481_4 : aC := (([kvB 0 7, kvB 0 7, kvB 0 7, kvB 0 4, (.negSucc 0, .ofNat 99)], [(102, 29, .inl (4, .ofNat 0)), (102, 30, .inr (.ofNat 4))], 110, [kvR 102, kvI 0, kvI 1, kvI 2, kvN 79, kvN 4, kvN 1, kvI 3], []), ([], []), (4, [(-1, 3)]))
theorem ks481 : aseg kS krf kB [kE43, kE89, kE353, kE449, kE465] (ksp [(192, 200, 7, 0, 7, 0)]) kE481 [kC481_0, kC481_1, kC481_2, kC481_3, kC481_4] 30000 (none) = true := by decide +kernel
theorem ks481_0 : aseg kS krf kB [kE43, kE89, kE353, kE449, kE465] (ksp [(192, 200, 7, 0, 7, 0)]) kE481 [kC481_0, kC481_1, kC481_2, kC481_3, kC481_4] 30000 (some kC481_0) = true := by decide +kernel
theorem ks481_1 : aseg kS krf kB [kE43, kE89, kE353, kE449, kE465] (ksp [(192, 200, 7, 0, 7, 0)]) kE481 [kC481_0, kC481_1, kC481_2, kC481_3, kC481_4] 30000 (some kC481_1) = true := by decide +kernel
theorem ks481_2 : aseg kS krf kB [kE43, kE89, kE353, kE449, kE465] (ksp [(192, 200, 7, 0, 7, 0)]) kE481 [kC481_0, kC481_1, kC481_2, kC481_3, kC481_4] 30000 (some kC481_2) = true := by decide +kernel
theorem ks481_3 : aseg kS krf kB [kE43, kE89, kE353, kE449, kE465] (ksp [(192, 200, 7, 0, 7, 0)]) kE481 [kC481_0, kC481_1, kC481_2, kC481_3, kC481_4] 30000 (some kC481_3) = true := by decide +kernel
theorem ks481_4 : aseg kS krf kB [kE43, kE89, kE353, kE449, kE465] (ksp [(192, 200, 7, 0, 7, 0)]) kE481 [kC481_0, kC481_1, kC481_2, kC481_3, kC481_4] 30000 (some kC481_4) = true := by decide +kernel
theorem kok481 : aOK kS krf kB kE481 := aOK_of (kal1 kok43 (kal1 kok89 (kal1 kok353 (kal1 kok449 (kal1 kok465 kal0))))) (kcl1 ks481_0 (kcl1 ks481_1 (kcl1 ks481_2 (kcl1 ks481_3 (kcl1 ks481_4 kcl0))))) ks481
/-- ColdShodModel.triesWay(IIIII)V -/
def kE482 : aE := (192, 50, ([kvB 0 7, kvB 0 7, kvB 0 7], [], 0, [kvR 102, kvI 0, kvI 1, kvI 2, kvN 78, kvN 3, none, none], []), ([], none), ([], [], none, ([], [])), kvW65)
def kC482_0 : aC := (([kvB 0 7, kvB 0 7, kvB 0 7, kvB 0 1, kvB 0 3], [], 16, [kvR 102, kvI 0, kvI 1, kvI 2, kvN 78, kvN 3, kvI 3, kvI 4], []), ([], []), (335, [(-1, 4)]))
def kC482_1 : aC := (([kvB 0 7, kvB 0 7, kvB 0 7, kvB 0 12], [], 141, [kvR 102, kvI 0, kvI 1, kvI 2, kvN 78, kvN 3, kvI 3, none], []), ([], []), (141, [(-11, 3)]))
def kC482_2 : aC := (([kvB 0 7, kvB 0 7, kvB 0 7, kvB 0 11, (.negSucc 0, .ofNat 7), kvB 1 12], [(102, 8, .inl (5, .ofNat 0))], 195, [kvR 102, kvI 0, kvI 1, kvI 2, kvN 78, kvN 3, kvI 3, kvI 4], []), ([], []), (139, [(-11, 3), (-1, 4)]))
def kC482_3 : aC := (([kvB 0 7, kvB 0 7, kvB 0 7, (.negSucc 0, .ofNat 2147483647)], [(102, 29, .inl (3, .ofNat 0))], 91, [kvR 102, kvI 0, kvI 1, kvI 2, kvN 78, kvN 3, kvN 1, kvN 3], []), ([], []), (166, []))
def kC482_4 : aC := (([kvB 0 7, kvB 0 7, kvB 0 7, kvB 0 3, (.negSucc 0, .ofNat 99)], [(102, 29, .inl (4, .ofNat 0)), (102, 30, .inr (.ofNat 3))], 110, [kvR 102, kvI 0, kvI 1, kvI 2, kvN 78, kvN 3, kvN 1, kvI 3], []), ([], []), (3, [(-1, 3)]))
theorem ks482 : aseg kS krf kB [kE43, kE89, kE354, kE450, kE466, kE481] (ksp [(192, 200, 7, 0, 7, 0)]) kE482 [kC482_0, kC482_1, kC482_2, kC482_3, kC482_4] 30000 (none) = true := by decide +kernel
theorem ks482_0 : aseg kS krf kB [kE43, kE89, kE354, kE450, kE466, kE481] (ksp [(192, 200, 7, 0, 7, 0)]) kE482 [kC482_0, kC482_1, kC482_2, kC482_3, kC482_4] 30000 (some kC482_0) = true := by decide +kernel
theorem ks482_1 : aseg kS krf kB [kE43, kE89, kE354, kE450, kE466, kE481] (ksp [(192, 200, 7, 0, 7, 0)]) kE482 [kC482_0, kC482_1, kC482_2, kC482_3, kC482_4] 30000 (some kC482_1) = true := by decide +kernel
theorem ks482_2 : aseg kS krf kB [kE43, kE89, kE354, kE450, kE466, kE481] (ksp [(192, 200, 7, 0, 7, 0)]) kE482 [kC482_0, kC482_1, kC482_2, kC482_3, kC482_4] 30000 (some kC482_2) = true := by decide +kernel
theorem ks482_3 : aseg kS krf kB [kE43, kE89, kE354, kE450, kE466, kE481] (ksp [(192, 200, 7, 0, 7, 0)]) kE482 [kC482_0, kC482_1, kC482_2, kC482_3, kC482_4] 30000 (some kC482_3) = true := by decide +kernel
theorem ks482_4 : aseg kS krf kB [kE43, kE89, kE354, kE450, kE466, kE481] (ksp [(192, 200, 7, 0, 7, 0)]) kE482 [kC482_0, kC482_1, kC482_2, kC482_3, kC482_4] 30000 (some kC482_4) = true := by decide +kernel
theorem kok482 : aOK kS krf kB kE482 := aOK_of (kal1 kok43 (kal1 kok89 (kal1 kok354 (kal1 kok450 (kal1 kok466 (kal1 kok481 kal0)))))) (kcl1 ks482_0 (kcl1 ks482_1 (kcl1 ks482_2 (kcl1 ks482_3 (kcl1 ks482_4 kcl0))))) ks482
/-- ColdShodModel.triesWay(IIIII)V -/
def kE483 : aE := (192, 50, ([kvB 0 7, kvB 0 7, kvB 0 7], [], 0, [kvR 102, kvI 0, kvI 1, kvI 2, kvN 77, kvN 3, none, none], []), ([], none), ([], [], none, ([], [])), kvW65)
def kC483_0 : aC := (([kvB 0 7, kvB 0 7, kvB 0 7, kvB 0 1, kvB 0 3], [], 16, [kvR 102, kvI 0, kvI 1, kvI 2, kvN 77, kvN 3, kvI 3, kvI 4], []), ([], []), (335, [(-1, 4)]))
def kC483_1 : aC := (([kvB 0 7, kvB 0 7, kvB 0 7, kvB 0 12], [], 141, [kvR 102, kvI 0, kvI 1, kvI 2, kvN 77, kvN 3, kvI 3, none], []), ([], []), (141, [(-11, 3)]))
def kC483_2 : aC := (([kvB 0 7, kvB 0 7, kvB 0 7, kvB 0 11, (.negSucc 0, .ofNat 7), kvB 1 12], [(102, 8, .inl (5, .ofNat 0))], 195, [kvR 102, kvI 0, kvI 1, kvI 2, kvN 77, kvN 3, kvI 3, kvI 4], []), ([], []), (139, [(-11, 3), (-1, 4)]))
def kC483_3 : aC := (([kvB 0 7, kvB 0 7, kvB 0 7, (.negSucc 0, .ofNat 2147483647)], [(102, 29, .inl (3, .ofNat 0))], 91, [kvR 102, kvI 0, kvI 1, kvI 2, kvN 77, kvN 3, kvN 1, kvN 3], []), ([], []), (166, []))
def kC483_4 : aC := (([kvB 0 7, kvB 0 7, kvB 0 7, kvB 0 3, (.negSucc 0, .ofNat 99)], [(102, 29, .inl (4, .ofNat 0)), (102, 30, .inr (.ofNat 3))], 110, [kvR 102, kvI 0, kvI 1, kvI 2, kvN 77, kvN 3, kvN 1, kvI 3], []), ([], []), (3, [(-1, 3)]))
theorem ks483 : aseg kS krf kB [kE43, kE89, kE355, kE451, kE467, kE481] (ksp [(192, 200, 7, 0, 7, 0)]) kE483 [kC483_0, kC483_1, kC483_2, kC483_3, kC483_4] 30000 (none) = true := by decide +kernel
theorem ks483_0 : aseg kS krf kB [kE43, kE89, kE355, kE451, kE467, kE481] (ksp [(192, 200, 7, 0, 7, 0)]) kE483 [kC483_0, kC483_1, kC483_2, kC483_3, kC483_4] 30000 (some kC483_0) = true := by decide +kernel
theorem ks483_1 : aseg kS krf kB [kE43, kE89, kE355, kE451, kE467, kE481] (ksp [(192, 200, 7, 0, 7, 0)]) kE483 [kC483_0, kC483_1, kC483_2, kC483_3, kC483_4] 30000 (some kC483_1) = true := by decide +kernel
theorem ks483_2 : aseg kS krf kB [kE43, kE89, kE355, kE451, kE467, kE481] (ksp [(192, 200, 7, 0, 7, 0)]) kE483 [kC483_0, kC483_1, kC483_2, kC483_3, kC483_4] 30000 (some kC483_2) = true := by decide +kernel
theorem ks483_3 : aseg kS krf kB [kE43, kE89, kE355, kE451, kE467, kE481] (ksp [(192, 200, 7, 0, 7, 0)]) kE483 [kC483_0, kC483_1, kC483_2, kC483_3, kC483_4] 30000 (some kC483_3) = true := by decide +kernel
theorem ks483_4 : aseg kS krf kB [kE43, kE89, kE355, kE451, kE467, kE481] (ksp [(192, 200, 7, 0, 7, 0)]) kE483 [kC483_0, kC483_1, kC483_2, kC483_3, kC483_4] 30000 (some kC483_4) = true := by decide +kernel
theorem kok483 : aOK kS krf kB kE483 := aOK_of (kal1 kok43 (kal1 kok89 (kal1 kok355 (kal1 kok451 (kal1 kok467 (kal1 kok481 kal0)))))) (kcl1 ks483_0 (kcl1 ks483_1 (kcl1 ks483_2 (kcl1 ks483_3 (kcl1 ks483_4 kcl0))))) ks483
/-- ColdShodModel.triesWay(IIIII)V -/
def kE484 : aE := (192, 51, ([kvB 0 7, kvB 0 7, kvB 0 7], [], 0, [kvR 102, kvI 0, kvI 1, kvI 2, kvN 76, kvN 2, none, none], []), ([], none), ([], [], none, ([], [])), kvW66)
def kC484_0 : aC := (([kvB 0 7, kvB 0 7, kvB 0 7, kvB 0 1, kvB 0 2], [], 16, [kvR 102, kvI 0, kvI 1, kvI 2, kvN 76, kvN 2, kvI 3, kvI 4], []), ([], []), (334, [(-1, 4)]))
def kC484_1 : aC := (([kvB 0 7, kvB 0 7, kvB 0 7, kvB 0 12], [], 141, [kvR 102, kvI 0, kvI 1, kvI 2, kvN 76, kvN 2, kvI 3, none], []), ([], []), (141, [(-11, 3)]))
def kC484_2 : aC := (([kvB 0 7, kvB 0 7, kvB 0 7, kvB 0 11, (.negSucc 0, .ofNat 7), kvB 1 12], [(102, 8, .inl (5, .ofNat 0))], 195, [kvR 102, kvI 0, kvI 1, kvI 2, kvN 76, kvN 2, kvI 3, kvI 4], []), ([], []), (139, [(-11, 3), (-1, 4)]))
def kC484_3 : aC := (([kvB 0 7, kvB 0 7, kvB 0 7, (.negSucc 0, .ofNat 2147483647)], [(102, 29, .inl (3, .ofNat 0))], 91, [kvR 102, kvI 0, kvI 1, kvI 2, kvN 76, kvN 2, kvN 1, kvN 2], []), ([], []), (166, []))
def kC484_4 : aC := (([kvB 0 7, kvB 0 7, kvB 0 7, kvB 0 2, (.negSucc 0, .ofNat 99)], [(102, 29, .inl (4, .ofNat 0)), (102, 30, .inr (.ofNat 2))], 110, [kvR 102, kvI 0, kvI 1, kvI 2, kvN 76, kvN 2, kvN 1, kvI 3], []), ([], []), (2, [(-1, 3)]))
theorem ks484 : aseg kS krf kB [kE43, kE89, kE356, kE452, kE468, kE482, kE483] (ksp [(192, 200, 7, 0, 7, 0)]) kE484 [kC484_0, kC484_1, kC484_2, kC484_3, kC484_4] 30000 (none) = true := by decide +kernel
theorem ks484_0 : aseg kS krf kB [kE43, kE89, kE356, kE452, kE468, kE482, kE483] (ksp [(192, 200, 7, 0, 7, 0)]) kE484 [kC484_0, kC484_1, kC484_2, kC484_3, kC484_4] 30000 (some kC484_0) = true := by decide +kernel
theorem ks484_1 : aseg kS krf kB [kE43, kE89, kE356, kE452, kE468, kE482, kE483] (ksp [(192, 200, 7, 0, 7, 0)]) kE484 [kC484_0, kC484_1, kC484_2, kC484_3, kC484_4] 30000 (some kC484_1) = true := by decide +kernel
theorem ks484_2 : aseg kS krf kB [kE43, kE89, kE356, kE452, kE468, kE482, kE483] (ksp [(192, 200, 7, 0, 7, 0)]) kE484 [kC484_0, kC484_1, kC484_2, kC484_3, kC484_4] 30000 (some kC484_2) = true := by decide +kernel
theorem ks484_3 : aseg kS krf kB [kE43, kE89, kE356, kE452, kE468, kE482, kE483] (ksp [(192, 200, 7, 0, 7, 0)]) kE484 [kC484_0, kC484_1, kC484_2, kC484_3, kC484_4] 30000 (some kC484_3) = true := by decide +kernel
theorem ks484_4 : aseg kS krf kB [kE43, kE89, kE356, kE452, kE468, kE482, kE483] (ksp [(192, 200, 7, 0, 7, 0)]) kE484 [kC484_0, kC484_1, kC484_2, kC484_3, kC484_4] 30000 (some kC484_4) = true := by decide +kernel
theorem kok484 : aOK kS krf kB kE484 := aOK_of (kal1 kok43 (kal1 kok89 (kal1 kok356 (kal1 kok452 (kal1 kok468 (kal1 kok482 (kal1 kok483 kal0))))))) (kcl1 ks484_0 (kcl1 ks484_1 (kcl1 ks484_2 (kcl1 ks484_3 (kcl1 ks484_4 kcl0))))) ks484
/-- ColdShodModel.triesWay(IIIII)V -/
def kE485 : aE := (192, 50, ([kvB 0 7, kvB 0 7, kvB 0 7], [], 0, [kvR 102, kvI 0, kvI 1, kvI 2, kvN 75, kvN 3, none, none], []), ([], none), ([], [], none, ([], [])), kvW65)
def kC485_0 : aC := (([kvB 0 7, kvB 0 7, kvB 0 7, kvB 0 1, kvB 0 3], [], 16, [kvR 102, kvI 0, kvI 1, kvI 2, kvN 75, kvN 3, kvI 3, kvI 4], []), ([], []), (335, [(-1, 4)]))
def kC485_1 : aC := (([kvB 0 7, kvB 0 7, kvB 0 7, kvB 0 12], [], 141, [kvR 102, kvI 0, kvI 1, kvI 2, kvN 75, kvN 3, kvI 3, none], []), ([], []), (141, [(-11, 3)]))
def kC485_2 : aC := (([kvB 0 7, kvB 0 7, kvB 0 7, kvB 0 11, (.negSucc 0, .ofNat 7), kvB 1 12], [(102, 8, .inl (5, .ofNat 0))], 195, [kvR 102, kvI 0, kvI 1, kvI 2, kvN 75, kvN 3, kvI 3, kvI 4], []), ([], []), (139, [(-11, 3), (-1, 4)]))
def kC485_3 : aC := (([kvB 0 7, kvB 0 7, kvB 0 7, (.negSucc 0, .ofNat 2147483647)], [(102, 29, .inl (3, .ofNat 0))], 91, [kvR 102, kvI 0, kvI 1, kvI 2, kvN 75, kvN 3, kvN 1, kvN 3], []), ([], []), (166, []))
def kC485_4 : aC := (([kvB 0 7, kvB 0 7, kvB 0 7, kvB 0 3, (.negSucc 0, .ofNat 99)], [(102, 29, .inl (4, .ofNat 0)), (102, 30, .inr (.ofNat 3))], 110, [kvR 102, kvI 0, kvI 1, kvI 2, kvN 75, kvN 3, kvN 1, kvI 3], []), ([], []), (3, [(-1, 3)]))
theorem ks485 : aseg kS krf kB [kE43, kE89, kE357, kE453, kE469, kE481] (ksp [(192, 200, 7, 0, 7, 0)]) kE485 [kC485_0, kC485_1, kC485_2, kC485_3, kC485_4] 30000 (none) = true := by decide +kernel
theorem ks485_0 : aseg kS krf kB [kE43, kE89, kE357, kE453, kE469, kE481] (ksp [(192, 200, 7, 0, 7, 0)]) kE485 [kC485_0, kC485_1, kC485_2, kC485_3, kC485_4] 30000 (some kC485_0) = true := by decide +kernel
theorem ks485_1 : aseg kS krf kB [kE43, kE89, kE357, kE453, kE469, kE481] (ksp [(192, 200, 7, 0, 7, 0)]) kE485 [kC485_0, kC485_1, kC485_2, kC485_3, kC485_4] 30000 (some kC485_1) = true := by decide +kernel
theorem ks485_2 : aseg kS krf kB [kE43, kE89, kE357, kE453, kE469, kE481] (ksp [(192, 200, 7, 0, 7, 0)]) kE485 [kC485_0, kC485_1, kC485_2, kC485_3, kC485_4] 30000 (some kC485_2) = true := by decide +kernel
theorem ks485_3 : aseg kS krf kB [kE43, kE89, kE357, kE453, kE469, kE481] (ksp [(192, 200, 7, 0, 7, 0)]) kE485 [kC485_0, kC485_1, kC485_2, kC485_3, kC485_4] 30000 (some kC485_3) = true := by decide +kernel
theorem ks485_4 : aseg kS krf kB [kE43, kE89, kE357, kE453, kE469, kE481] (ksp [(192, 200, 7, 0, 7, 0)]) kE485 [kC485_0, kC485_1, kC485_2, kC485_3, kC485_4] 30000 (some kC485_4) = true := by decide +kernel
theorem kok485 : aOK kS krf kB kE485 := aOK_of (kal1 kok43 (kal1 kok89 (kal1 kok357 (kal1 kok453 (kal1 kok469 (kal1 kok481 kal0)))))) (kcl1 ks485_0 (kcl1 ks485_1 (kcl1 ks485_2 (kcl1 ks485_3 (kcl1 ks485_4 kcl0))))) ks485
/-- ColdShodModel.triesWay(IIIII)V -/
def kE486 : aE := (192, 51, ([kvB 0 7, kvB 0 7, kvB 0 7], [], 0, [kvR 102, kvI 0, kvI 1, kvI 2, kvN 74, kvN 2, none, none], []), ([], none), ([], [], none, ([], [])), kvW66)
def kC486_0 : aC := (([kvB 0 7, kvB 0 7, kvB 0 7, kvB 0 1, kvB 0 2], [], 16, [kvR 102, kvI 0, kvI 1, kvI 2, kvN 74, kvN 2, kvI 3, kvI 4], []), ([], []), (334, [(-1, 4)]))
def kC486_1 : aC := (([kvB 0 7, kvB 0 7, kvB 0 7, kvB 0 12], [], 141, [kvR 102, kvI 0, kvI 1, kvI 2, kvN 74, kvN 2, kvI 3, none], []), ([], []), (141, [(-11, 3)]))
def kC486_2 : aC := (([kvB 0 7, kvB 0 7, kvB 0 7, kvB 0 11, (.negSucc 0, .ofNat 7), kvB 1 12], [(102, 8, .inl (5, .ofNat 0))], 195, [kvR 102, kvI 0, kvI 1, kvI 2, kvN 74, kvN 2, kvI 3, kvI 4], []), ([], []), (139, [(-11, 3), (-1, 4)]))
def kC486_3 : aC := (([kvB 0 7, kvB 0 7, kvB 0 7, (.negSucc 0, .ofNat 2147483647)], [(102, 29, .inl (3, .ofNat 0))], 91, [kvR 102, kvI 0, kvI 1, kvI 2, kvN 74, kvN 2, kvN 1, kvN 2], []), ([], []), (166, []))
def kC486_4 : aC := (([kvB 0 7, kvB 0 7, kvB 0 7, kvB 0 2, (.negSucc 0, .ofNat 99)], [(102, 29, .inl (4, .ofNat 0)), (102, 30, .inr (.ofNat 2))], 110, [kvR 102, kvI 0, kvI 1, kvI 2, kvN 74, kvN 2, kvN 1, kvI 3], []), ([], []), (2, [(-1, 3)]))
theorem ks486 : aseg kS krf kB [kE43, kE89, kE358, kE454, kE470, kE482, kE485] (ksp [(192, 200, 7, 0, 7, 0)]) kE486 [kC486_0, kC486_1, kC486_2, kC486_3, kC486_4] 30000 (none) = true := by decide +kernel
theorem ks486_0 : aseg kS krf kB [kE43, kE89, kE358, kE454, kE470, kE482, kE485] (ksp [(192, 200, 7, 0, 7, 0)]) kE486 [kC486_0, kC486_1, kC486_2, kC486_3, kC486_4] 30000 (some kC486_0) = true := by decide +kernel
theorem ks486_1 : aseg kS krf kB [kE43, kE89, kE358, kE454, kE470, kE482, kE485] (ksp [(192, 200, 7, 0, 7, 0)]) kE486 [kC486_0, kC486_1, kC486_2, kC486_3, kC486_4] 30000 (some kC486_1) = true := by decide +kernel
theorem ks486_2 : aseg kS krf kB [kE43, kE89, kE358, kE454, kE470, kE482, kE485] (ksp [(192, 200, 7, 0, 7, 0)]) kE486 [kC486_0, kC486_1, kC486_2, kC486_3, kC486_4] 30000 (some kC486_2) = true := by decide +kernel
theorem ks486_3 : aseg kS krf kB [kE43, kE89, kE358, kE454, kE470, kE482, kE485] (ksp [(192, 200, 7, 0, 7, 0)]) kE486 [kC486_0, kC486_1, kC486_2, kC486_3, kC486_4] 30000 (some kC486_3) = true := by decide +kernel
theorem ks486_4 : aseg kS krf kB [kE43, kE89, kE358, kE454, kE470, kE482, kE485] (ksp [(192, 200, 7, 0, 7, 0)]) kE486 [kC486_0, kC486_1, kC486_2, kC486_3, kC486_4] 30000 (some kC486_4) = true := by decide +kernel
theorem kok486 : aOK kS krf kB kE486 := aOK_of (kal1 kok43 (kal1 kok89 (kal1 kok358 (kal1 kok454 (kal1 kok470 (kal1 kok482 (kal1 kok485 kal0))))))) (kcl1 ks486_0 (kcl1 ks486_1 (kcl1 ks486_2 (kcl1 ks486_3 (kcl1 ks486_4 kcl0))))) ks486
