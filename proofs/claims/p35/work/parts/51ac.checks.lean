/-! ENTRIES and their checks: printed by a program (wip/ai). -/
/-- ColdShod$Country.wearOf(LColdShod$Idea;LColdShod$Road;)I -/
def kE40 : aE := (23, 2, ([], [], 0, [kvR 7, some (.inr [20, 21, 22, 23, 24, 25, 26, 27]), some (.inr [28, 29, 30, 31, 32, 33, 34, 35, 36, 37, 38, 39])], []), ([], none), ([kvB 0 9], [], kvI 0, ([], [])), kvW5)
theorem ks40 : aseg kS krf kB [kE39] (ksp [(23, 0, 1, -1000, 1000, 0)]) kE40 [] 30000 (none) = true := by decide +kernel
theorem kok40 : aOK kS krf kB kE40 := aOK_of (kal1 kok39 kal0) kcl0 ks40
/-- ColdShod$Country.travel(LColdShod$Idea;LColdShod$Road;)I -/
def kE41 : aE := (24, 3, ([], [], 0, [kvR 7, some (.inr [20, 21, 22, 23, 24, 25, 26, 27]), some (.inr [28, 29, 30, 31, 32, 33, 34, 35, 36, 37, 38, 39]), none, none], []), ([], none), ([(.negSucc 1999999999, .ofNat 100000000)], [], kvI 0, ([], [])), kvW6)
def kC41_0 : aC := (([kvB 0 9, kvB 1 100000001], [], 20, [kvR 7, some (.inr [20, 21, 22, 23, 24, 25, 26, 27]), some (.inr [28, 29, 30, 31, 32, 33, 34, 35, 36, 37, 38, 39]), kvI 0, kvI 1], []), ([], []), (100000001, [(-1, 1)]))
theorem ks41 : aseg kS krf kB [kE40] (ksp []) kE41 [kC41_0] 30000 (none) = true := by decide +kernel
theorem ks41_0 : aseg kS krf kB [kE40] (ksp []) kE41 [kC41_0] 30000 (some kC41_0) = true := by decide +kernel
theorem kok41 : aOK kS krf kB kE41 := aOK_of (kal1 kok40 kal0) (kcl1 ks41_0 kcl0) ks41
/-- ColdShod.goes(II)I -/
def kE42 : aE := (118, 4, ([(.negSucc 2147483647, .ofNat 2147483647), (.negSucc 2147483647, .ofNat 2147483647)], [], 0, [some (.inr [6]), some (.inl (.inl (.inl (0, .ofNat 0)))), some (.inl (.inl (.inl (1, .ofNat 0)))), none, none, none], []), ([], none), ([(.negSucc 1999999999, .ofNat 100000000)], [], some (.inl (.inl (.inl (2, .ofNat 0)))), ([], [])), ([(13, 0), (13, 1), (13, 2), (13, 3), (13, 4), (13, 5), (20, 2), (20, 3), (21, 2), (21, 3), (22, 2), (22, 3), (23, 2), (23, 3), (24, 2), (24, 3), (25, 2), (25, 3), (26, 2), (26, 3), (27, 2), (27, 3), (73, 2), (73, 3), (73, 4)], [16, 19]))
theorem ks42 : aseg kS krf kB [kE41] (ksp []) kE42 [] 30000 (none) = true := by decide +kernel
theorem kok42 : aOK kS krf kB kE42 := aOK_of (kal1 kok41 kal0) kcl0 ks42
/-- ColdShodModel.begins(I)V -/
def kE43 : aE := (178, 0, ([kvB 0 7], [], 0, [kvR 102, kvI 0, none], []), ([], none), ([], [], none, ([], [])), kvW7)
def kC43_0 : aC := (([kvB 0 7, kvB 0 6], [], 2, [kvR 102, kvI 0, kvI 1], []), ([], []), (6, [(-1, 1)]))
theorem ks43 : aseg kS krf kB [] (ksp [(178, 34, 1, -1000, 1000, 0)]) kE43 [kC43_0] 30000 (none) = true := by decide +kernel
theorem ks43_0 : aseg kS krf kB [] (ksp [(178, 34, 1, -1000, 1000, 0)]) kE43 [kC43_0] 30000 (some kC43_0) = true := by decide +kernel
theorem kok43 : aOK kS krf kB kE43 := aOK_of kal0 (kcl1 ks43_0 kcl0) ks43
/-- ColdShodModel.one()I -/
def kE44 : aE := (175, 1, ([kvB 6 120, kvB 6 6], [(102, 16, .inl (0, .ofNat 0)), (102, 19, .inl (1, .ofNat 0))], 0, [kvR 102, none, none, none, none], []), ([], none), ([kvA, kvB 6 120, kvB 6 6], [(102, 16, .inl (3, .ofNat 0)), (102, 19, .inl (4, .ofNat 0))], kvI 2, ([(3, 0, 0)], [])), kvW8)
def kC44_0 : aC := (([kvB 6 120, kvB 6 6, kvB 0 255, kvA, kvB 0 4, kvB 6 120], [(102, 16, .inl (5, .ofNat 0)), (102, 19, .inl (1, .ofNat 0)), (102, 18, .inr (.negSucc 0))], 176, [kvR 102, kvI 2, some (.inl (.inl (.inr (.negSucc 0)))), kvI 3, kvI 4], []), ([(5, 0, 0)], []), (4, [(-1, 4)]))
theorem ks44 : aseg kS krf kB [] (ksp []) kE44 [kC44_0] 30000 (none) = true := by decide +kernel
theorem ks44_0 : aseg kS krf kB [] (ksp []) kE44 [kC44_0] 30000 (some kC44_0) = true := by decide +kernel
theorem kok44 : aOK kS krf kB kE44 := aOK_of kal0 (kcl1 ks44_0 kcl0) ks44
/-- ColdShodModel.product()I -/
def kE45 : aE := (173, 2, ([kvB 6 120, kvB 6 6], [(102, 16, .inl (0, .ofNat 0)), (102, 19, .inl (1, .ofNat 0))], 0, [kvR 102, none, none, none], []), ([], none), ([kvA, kvB 6 120, kvB 6 6], [(102, 16, .inl (3, .ofNat 0)), (102, 19, .inl (4, .ofNat 0))], kvI 2, ([(3, 0, 0)], [])), kvW8)
def kC45_0 : aC := (([kvB 6 120, kvB 6 6, kvA, kvB 0 255, kvB 6 119, kvB 7 120], [(102, 19, .inr (.ofNat 6)), (102, 16, .inl (4, .ofNat 0)), (102, 17, .inl (5, .ofNat 0))], 10, [kvR 102, kvI 2, kvI 3, none], []), ([(4, 0, 0)], []), (236, [(-1, 4)]))
def kC45_1 : aC := (([kvB 6 120, kvB 6 6, kvA, kvB 6 120], [(102, 19, .inr (.ofNat 6)), (102, 16, .inl (3, .ofNat 0))], 10, [kvR 102, kvI 2, kvN 0, none], []), ([(3, 0, 0)], []), (0, []))
theorem ks45 : aseg kS krf kB [kE44] (ksp [(173, 62, 3, 0, 0, 0)]) kE45 [kC45_0, kC45_1] 30000 (none) = true := by decide +kernel
theorem ks45_0 : aseg kS krf kB [kE44] (ksp [(173, 62, 3, 0, 0, 0)]) kE45 [kC45_0, kC45_1] 30000 (some kC45_0) = true := by decide +kernel
theorem ks45_1 : aseg kS krf kB [kE44] (ksp [(173, 62, 3, 0, 0, 0)]) kE45 [kC45_0, kC45_1] 30000 (some kC45_1) = true := by decide +kernel
theorem kok45 : aOK kS krf kB kE45 := aOK_of (kal1 kok44 kal0) (kcl1 ks45_0 (kcl1 ks45_1 kcl0)) ks45
/-- ColdShodModel.sums()I -/
def kE46 : aE := (172, 3, ([kvB 6 120, kvB 6 6], [(102, 16, .inl (0, .ofNat 0)), (102, 19, .inl (1, .ofNat 0))], 0, [kvR 102, none, none, none], []), ([], none), ([kvA, kvB 6 120, kvB 6 6], [(102, 16, .inl (3, .ofNat 0)), (102, 19, .inl (4, .ofNat 0))], kvI 2, ([(3, 0, 0)], [])), kvW8)
def kC46_0 : aC := (([kvB 6 120, kvB 6 6, kvA, kvB 6 120], [(102, 19, .inr (.ofNat 6)), (102, 16, .inl (3, .ofNat 0))], 5, [kvR 102, kvI 2, none, none], []), ([(3, 0, 0)], []), (120, [(-1, 3)]))
theorem ks46 : aseg kS krf kB [kE45] (ksp []) kE46 [kC46_0] 30000 (none) = true := by decide +kernel
theorem ks46_0 : aseg kS krf kB [kE45] (ksp []) kE46 [kC46_0] 30000 (some kC46_0) = true := by decide +kernel
theorem kok46 : aOK kS krf kB kE46 := aOK_of (kal1 kok45 kal0) (kcl1 ks46_0 kcl0) ks46
/-- ColdShodModel.compared()I -/
def kE47 : aE := (171, 4, ([kvB 6 120, kvB 6 6], [(102, 16, .inl (0, .ofNat 0)), (102, 19, .inl (1, .ofNat 0))], 0, [kvR 102, none, none, none], []), ([], none), ([kvA, kvB 6 120, kvB 6 6], [(102, 16, .inl (3, .ofNat 0)), (102, 19, .inl (4, .ofNat 0))], kvI 2, ([(3, 0, 0)], [])), kvW8)
theorem ks47 : aseg kS krf kB [kE46] (ksp []) kE47 [] 30000 (none) = true := by decide +kernel
theorem kok47 : aOK kS krf kB kE47 := aOK_of (kal1 kok46 kal0) kcl0 ks47
/-- ColdShodModel.both()I -/
def kE48 : aE := (170, 5, ([kvB 6 120, kvB 6 6], [(102, 16, .inl (0, .ofNat 0)), (102, 19, .inl (1, .ofNat 0))], 0, [kvR 102, none, none], []), ([], none), ([kvA, kvB 6 120, kvB 6 6], [(102, 16, .inl (3, .ofNat 0)), (102, 19, .inl (4, .ofNat 0))], kvI 2, ([(3, 0, 0)], [])), kvW8)
def kC48_0 : aC := (([kvB 6 120, kvB 6 6, kvA, kvB 6 120], [(102, 19, .inr (.ofNat 6)), (102, 16, .inl (3, .ofNat 0))], 5, [kvR 102, kvI 2, none], []), ([(3, 0, 0)], []), (120, [(-1, 3)]))
theorem ks48 : aseg kS krf kB [kE47] (ksp []) kE48 [kC48_0] 30000 (none) = true := by decide +kernel
theorem ks48_0 : aseg kS krf kB [kE47] (ksp []) kE48 [kC48_0] 30000 (some kC48_0) = true := by decide +kernel
theorem kok48 : aOK kS krf kB kE48 := aOK_of (kal1 kok47 kal0) (kcl1 ks48_0 kcl0) ks48
/-- ColdShodModel.either()I -/
def kE49 : aE := (169, 6, ([kvB 6 120, kvB 6 6], [(102, 16, .inl (0, .ofNat 0)), (102, 19, .inl (1, .ofNat 0))], 0, [kvR 102, none, none], []), ([], none), ([kvA, kvB 6 120, kvB 6 6], [(102, 16, .inl (3, .ofNat 0)), (102, 19, .inl (4, .ofNat 0))], kvI 2, ([(3, 0, 0)], [])), kvW8)
def kC49_0 : aC := (([kvB 6 120, kvB 6 6, kvA, kvB 6 120], [(102, 19, .inr (.ofNat 6)), (102, 16, .inl (3, .ofNat 0))], 5, [kvR 102, kvI 2, none], []), ([(3, 0, 0)], []), (120, [(-1, 3)]))
theorem ks49 : aseg kS krf kB [kE48] (ksp []) kE49 [kC49_0] 30000 (none) = true := by decide +kernel
theorem ks49_0 : aseg kS krf kB [kE48] (ksp []) kE49 [kC49_0] 30000 (some kC49_0) = true := by decide +kernel
theorem kok49 : aOK kS krf kB kE49 := aOK_of (kal1 kok48 kal0) (kcl1 ks49_0 kcl0) ks49
/-- ColdShodModel.one()I -/
def kE50 : aE := (175, 7, ([kvB 5 120, kvB 5 6], [(102, 16, .inl (0, .ofNat 0)), (102, 19, .inl (1, .ofNat 0))], 0, [kvR 102, none, none, none, none], []), ([], none), ([kvA, kvB 5 120, kvB 5 6], [(102, 16, .inl (3, .ofNat 0)), (102, 19, .inl (4, .ofNat 0))], kvI 2, ([(3, 0, 0)], [])), kvW9)
def kC50_0 : aC := (([kvB 5 120, kvB 5 6, kvB 0 255, kvA, kvB 0 4, kvB 5 120], [(102, 16, .inl (5, .ofNat 0)), (102, 19, .inl (1, .ofNat 0)), (102, 18, .inr (.negSucc 0))], 176, [kvR 102, kvI 2, some (.inl (.inl (.inr (.negSucc 0)))), kvI 3, kvI 4], []), ([(5, 0, 0)], []), (4, [(-1, 4)]))
theorem ks50 : aseg kS krf kB [kE49, kE44] (ksp []) kE50 [kC50_0] 30000 (none) = true := by decide +kernel
theorem ks50_0 : aseg kS krf kB [kE49, kE44] (ksp []) kE50 [kC50_0] 30000 (some kC50_0) = true := by decide +kernel
theorem kok50 : aOK kS krf kB kE50 := aOK_of (kal1 kok49 (kal1 kok44 kal0)) (kcl1 ks50_0 kcl0) ks50
/-- ColdShodModel.product()I -/
def kE51 : aE := (173, 8, ([kvB 5 120, kvB 5 6], [(102, 16, .inl (0, .ofNat 0)), (102, 19, .inl (1, .ofNat 0))], 0, [kvR 102, none, none, none], []), ([], none), ([kvA, kvB 5 120, kvB 5 6], [(102, 16, .inl (3, .ofNat 0)), (102, 19, .inl (4, .ofNat 0))], kvI 2, ([(3, 0, 0)], [])), kvW9)
def kC51_0 : aC := (([kvB 5 120, kvB 5 6, kvA, kvB 0 255, kvB 5 119, kvB 5 6, kvB 6 120], [(102, 16, .inl (4, .ofNat 0)), (102, 19, .inl (5, .ofNat 0)), (102, 17, .inl (6, .ofNat 0))], 10, [kvR 102, kvI 2, kvI 3, none], []), ([(4, 0, 0)], []), (237, [(-1, 4)]))
def kC51_1 : aC := (([kvB 5 120, kvB 5 6, kvA, kvB 5 120, kvB 5 6], [(102, 16, .inl (3, .ofNat 0)), (102, 19, .inl (4, .ofNat 0))], 10, [kvR 102, kvI 2, kvN 0, none], []), ([(3, 0, 0)], []), (0, []))
theorem ks51 : aseg kS krf kB [kE50] (ksp [(173, 62, 3, 0, 0, 0)]) kE51 [kC51_0, kC51_1] 30000 (none) = true := by decide +kernel
theorem ks51_0 : aseg kS krf kB [kE50] (ksp [(173, 62, 3, 0, 0, 0)]) kE51 [kC51_0, kC51_1] 30000 (some kC51_0) = true := by decide +kernel
theorem ks51_1 : aseg kS krf kB [kE50] (ksp [(173, 62, 3, 0, 0, 0)]) kE51 [kC51_0, kC51_1] 30000 (some kC51_1) = true := by decide +kernel
theorem kok51 : aOK kS krf kB kE51 := aOK_of (kal1 kok50 kal0) (kcl1 ks51_0 (kcl1 ks51_1 kcl0)) ks51
/-- ColdShodModel.sums()I -/
def kE52 : aE := (172, 9, ([kvB 5 120, kvB 5 6], [(102, 16, .inl (0, .ofNat 0)), (102, 19, .inl (1, .ofNat 0))], 0, [kvR 102, none, none, none], []), ([], none), ([kvA, kvB 5 120, kvB 5 6], [(102, 16, .inl (3, .ofNat 0)), (102, 19, .inl (4, .ofNat 0))], kvI 2, ([(3, 0, 0)], [])), kvW9)
def kC52_0 : aC := (([kvB 5 120, kvB 5 6, kvA, kvB 5 120, kvB 5 6], [(102, 16, .inl (3, .ofNat 0)), (102, 19, .inl (4, .ofNat 0))], 5, [kvR 102, kvI 2, none, none], []), ([(3, 0, 0)], []), (120, [(-1, 3)]))
theorem ks52 : aseg kS krf kB [kE51] (ksp []) kE52 [kC52_0] 30000 (none) = true := by decide +kernel
theorem ks52_0 : aseg kS krf kB [kE51] (ksp []) kE52 [kC52_0] 30000 (some kC52_0) = true := by decide +kernel
theorem kok52 : aOK kS krf kB kE52 := aOK_of (kal1 kok51 kal0) (kcl1 ks52_0 kcl0) ks52
/-- ColdShodModel.compared()I -/
def kE53 : aE := (171, 10, ([kvB 5 120, kvB 5 6], [(102, 16, .inl (0, .ofNat 0)), (102, 19, .inl (1, .ofNat 0))], 0, [kvR 102, none, none, none], []), ([], none), ([kvA, kvB 5 120, kvB 5 6], [(102, 16, .inl (3, .ofNat 0)), (102, 19, .inl (4, .ofNat 0))], kvI 2, ([(3, 0, 0)], [])), kvW9)
theorem ks53 : aseg kS krf kB [kE52] (ksp []) kE53 [] 30000 (none) = true := by decide +kernel
theorem kok53 : aOK kS krf kB kE53 := aOK_of (kal1 kok52 kal0) kcl0 ks53
/-- ColdShodModel.both()I -/
def kE54 : aE := (170, 11, ([kvB 5 120, kvB 5 6], [(102, 16, .inl (0, .ofNat 0)), (102, 19, .inl (1, .ofNat 0))], 0, [kvR 102, none, none], []), ([], none), ([kvA, kvB 5 120, kvB 5 6], [(102, 16, .inl (3, .ofNat 0)), (102, 19, .inl (4, .ofNat 0))], kvI 2, ([(3, 0, 0)], [])), kvW9)
def kC54_0 : aC := (([kvB 5 120, kvB 5 6, kvA, kvB 5 120, kvB 5 6], [(102, 16, .inl (3, .ofNat 0)), (102, 19, .inl (4, .ofNat 0))], 5, [kvR 102, kvI 2, none], []), ([(3, 0, 0)], []), (120, [(-1, 3)]))
theorem ks54 : aseg kS krf kB [kE53] (ksp []) kE54 [kC54_0] 30000 (none) = true := by decide +kernel
theorem ks54_0 : aseg kS krf kB [kE53] (ksp []) kE54 [kC54_0] 30000 (some kC54_0) = true := by decide +kernel
theorem kok54 : aOK kS krf kB kE54 := aOK_of (kal1 kok53 kal0) (kcl1 ks54_0 kcl0) ks54
/-- ColdShodModel.either()I -/
def kE55 : aE := (169, 12, ([kvB 5 120, kvB 5 6], [(102, 16, .inl (0, .ofNat 0)), (102, 19, .inl (1, .ofNat 0))], 0, [kvR 102, none, none], []), ([], none), ([kvA, kvB 5 120, kvB 5 6], [(102, 16, .inl (3, .ofNat 0)), (102, 19, .inl (4, .ofNat 0))], kvI 2, ([(3, 0, 0)], [])), kvW9)
def kC55_0 : aC := (([kvB 5 120, kvB 5 6, kvA, kvB 5 120, kvB 5 6], [(102, 16, .inl (3, .ofNat 0)), (102, 19, .inl (4, .ofNat 0))], 5, [kvR 102, kvI 2, none], []), ([(3, 0, 0)], []), (120, [(-1, 3)]))
theorem ks55 : aseg kS krf kB [kE54] (ksp []) kE55 [kC55_0] 30000 (none) = true := by decide +kernel
theorem ks55_0 : aseg kS krf kB [kE54] (ksp []) kE55 [kC55_0] 30000 (some kC55_0) = true := by decide +kernel
theorem kok55 : aOK kS krf kB kE55 := aOK_of (kal1 kok54 kal0) (kcl1 ks55_0 kcl0) ks55
/-- ColdShodModel.one()I -/
def kE56 : aE := (175, 13, ([kvB 4 120, kvB 4 6], [(102, 16, .inl (0, .ofNat 0)), (102, 19, .inl (1, .ofNat 0))], 0, [kvR 102, none, none, none, none], []), ([], none), ([kvA, kvB 4 120, kvB 4 6], [(102, 16, .inl (3, .ofNat 0)), (102, 19, .inl (4, .ofNat 0))], kvI 2, ([(3, 0, 0)], [])), kvW9)
def kC56_0 : aC := (([kvB 4 120, kvB 4 6, kvB 0 255, kvA, kvB 0 4, kvB 4 120], [(102, 16, .inl (5, .ofNat 0)), (102, 19, .inl (1, .ofNat 0)), (102, 18, .inr (.negSucc 0))], 176, [kvR 102, kvI 2, some (.inl (.inl (.inr (.negSucc 0)))), kvI 3, kvI 4], []), ([(5, 0, 0)], []), (4, [(-1, 4)]))
theorem ks56 : aseg kS krf kB [kE55, kE50] (ksp []) kE56 [kC56_0] 30000 (none) = true := by decide +kernel
theorem ks56_0 : aseg kS krf kB [kE55, kE50] (ksp []) kE56 [kC56_0] 30000 (some kC56_0) = true := by decide +kernel
theorem kok56 : aOK kS krf kB kE56 := aOK_of (kal1 kok55 (kal1 kok50 kal0)) (kcl1 ks56_0 kcl0) ks56
/-- ColdShodModel.product()I -/
def kE57 : aE := (173, 14, ([kvB 4 120, kvB 4 6], [(102, 16, .inl (0, .ofNat 0)), (102, 19, .inl (1, .ofNat 0))], 0, [kvR 102, none, none, none], []), ([], none), ([kvA, kvB 4 120, kvB 4 6], [(102, 16, .inl (3, .ofNat 0)), (102, 19, .inl (4, .ofNat 0))], kvI 2, ([(3, 0, 0)], [])), kvW9)
def kC57_0 : aC := (([kvB 4 120, kvB 4 6, kvA, kvB 0 255, kvB 4 119, kvB 4 6, kvB 5 120], [(102, 16, .inl (4, .ofNat 0)), (102, 19, .inl (5, .ofNat 0)), (102, 17, .inl (6, .ofNat 0))], 10, [kvR 102, kvI 2, kvI 3, none], []), ([(4, 0, 0)], []), (238, [(-1, 4)]))
def kC57_1 : aC := (([kvB 4 120, kvB 4 6, kvA, kvB 4 120, kvB 4 6], [(102, 16, .inl (3, .ofNat 0)), (102, 19, .inl (4, .ofNat 0))], 10, [kvR 102, kvI 2, kvN 0, none], []), ([(3, 0, 0)], []), (0, []))
theorem ks57 : aseg kS krf kB [kE56] (ksp [(173, 62, 3, 0, 0, 0)]) kE57 [kC57_0, kC57_1] 30000 (none) = true := by decide +kernel
theorem ks57_0 : aseg kS krf kB [kE56] (ksp [(173, 62, 3, 0, 0, 0)]) kE57 [kC57_0, kC57_1] 30000 (some kC57_0) = true := by decide +kernel
theorem ks57_1 : aseg kS krf kB [kE56] (ksp [(173, 62, 3, 0, 0, 0)]) kE57 [kC57_0, kC57_1] 30000 (some kC57_1) = true := by decide +kernel
theorem kok57 : aOK kS krf kB kE57 := aOK_of (kal1 kok56 kal0) (kcl1 ks57_0 (kcl1 ks57_1 kcl0)) ks57
/-- ColdShodModel.sums()I -/
def kE58 : aE := (172, 15, ([kvB 4 120, kvB 4 6], [(102, 16, .inl (0, .ofNat 0)), (102, 19, .inl (1, .ofNat 0))], 0, [kvR 102, none, none, none], []), ([], none), ([kvA, kvB 4 120, kvB 4 6], [(102, 16, .inl (3, .ofNat 0)), (102, 19, .inl (4, .ofNat 0))], kvI 2, ([(3, 0, 0)], [])), kvW9)
def kC58_0 : aC := (([kvB 4 120, kvB 4 6, kvA, kvB 4 120, kvB 4 6], [(102, 16, .inl (3, .ofNat 0)), (102, 19, .inl (4, .ofNat 0))], 5, [kvR 102, kvI 2, none, none], []), ([(3, 0, 0)], []), (120, [(-1, 3)]))
theorem ks58 : aseg kS krf kB [kE57] (ksp []) kE58 [kC58_0] 30000 (none) = true := by decide +kernel
theorem ks58_0 : aseg kS krf kB [kE57] (ksp []) kE58 [kC58_0] 30000 (some kC58_0) = true := by decide +kernel
theorem kok58 : aOK kS krf kB kE58 := aOK_of (kal1 kok57 kal0) (kcl1 ks58_0 kcl0) ks58
/-- ColdShodModel.compared()I -/
def kE59 : aE := (171, 16, ([kvB 4 120, kvB 4 6], [(102, 16, .inl (0, .ofNat 0)), (102, 19, .inl (1, .ofNat 0))], 0, [kvR 102, none, none, none], []), ([], none), ([kvA, kvB 4 120, kvB 4 6], [(102, 16, .inl (3, .ofNat 0)), (102, 19, .inl (4, .ofNat 0))], kvI 2, ([(3, 0, 0)], [])), kvW9)
theorem ks59 : aseg kS krf kB [kE58] (ksp []) kE59 [] 30000 (none) = true := by decide +kernel
theorem kok59 : aOK kS krf kB kE59 := aOK_of (kal1 kok58 kal0) kcl0 ks59
/-- ColdShodModel.both()I -/
def kE60 : aE := (170, 17, ([kvB 4 120, kvB 4 6], [(102, 16, .inl (0, .ofNat 0)), (102, 19, .inl (1, .ofNat 0))], 0, [kvR 102, none, none], []), ([], none), ([kvA, kvB 4 120, kvB 4 6], [(102, 16, .inl (3, .ofNat 0)), (102, 19, .inl (4, .ofNat 0))], kvI 2, ([(3, 0, 0)], [])), kvW9)
def kC60_0 : aC := (([kvB 4 120, kvB 4 6, kvA, kvB 4 120, kvB 4 6], [(102, 16, .inl (3, .ofNat 0)), (102, 19, .inl (4, .ofNat 0))], 5, [kvR 102, kvI 2, none], []), ([(3, 0, 0)], []), (120, [(-1, 3)]))
theorem ks60 : aseg kS krf kB [kE59] (ksp []) kE60 [kC60_0] 30000 (none) = true := by decide +kernel
theorem ks60_0 : aseg kS krf kB [kE59] (ksp []) kE60 [kC60_0] 30000 (some kC60_0) = true := by decide +kernel
theorem kok60 : aOK kS krf kB kE60 := aOK_of (kal1 kok59 kal0) (kcl1 ks60_0 kcl0) ks60
/-- ColdShodModel.either()I -/
def kE61 : aE := (169, 18, ([kvB 4 120, kvB 4 6], [(102, 16, .inl (0, .ofNat 0)), (102, 19, .inl (1, .ofNat 0))], 0, [kvR 102, none, none], []), ([], none), ([kvA, kvB 4 120, kvB 4 6], [(102, 16, .inl (3, .ofNat 0)), (102, 19, .inl (4, .ofNat 0))], kvI 2, ([(3, 0, 0)], [])), kvW9)
def kC61_0 : aC := (([kvB 4 120, kvB 4 6, kvA, kvB 4 120, kvB 4 6], [(102, 16, .inl (3, .ofNat 0)), (102, 19, .inl (4, .ofNat 0))], 5, [kvR 102, kvI 2, none], []), ([(3, 0, 0)], []), (120, [(-1, 3)]))
theorem ks61 : aseg kS krf kB [kE60] (ksp []) kE61 [kC61_0] 30000 (none) = true := by decide +kernel
theorem ks61_0 : aseg kS krf kB [kE60] (ksp []) kE61 [kC61_0] 30000 (some kC61_0) = true := by decide +kernel
theorem kok61 : aOK kS krf kB kE61 := aOK_of (kal1 kok60 kal0) (kcl1 ks61_0 kcl0) ks61
/-- ColdShodModel.one()I -/
def kE62 : aE := (175, 19, ([kvB 3 120, kvB 3 6], [(102, 16, .inl (0, .ofNat 0)), (102, 19, .inl (1, .ofNat 0))], 0, [kvR 102, none, none, none, none], []), ([], none), ([kvA, kvB 3 120, kvB 3 6], [(102, 16, .inl (3, .ofNat 0)), (102, 19, .inl (4, .ofNat 0))], kvI 2, ([(3, 0, 0)], [])), kvW9)
def kC62_0 : aC := (([kvB 3 120, kvB 3 6, kvB 0 255, kvA, kvB 0 4, kvB 3 120], [(102, 16, .inl (5, .ofNat 0)), (102, 19, .inl (1, .ofNat 0)), (102, 18, .inr (.negSucc 0))], 176, [kvR 102, kvI 2, some (.inl (.inl (.inr (.negSucc 0)))), kvI 3, kvI 4], []), ([(5, 0, 0)], []), (4, [(-1, 4)]))
theorem ks62 : aseg kS krf kB [kE61, kE56] (ksp []) kE62 [kC62_0] 30000 (none) = true := by decide +kernel
theorem ks62_0 : aseg kS krf kB [kE61, kE56] (ksp []) kE62 [kC62_0] 30000 (some kC62_0) = true := by decide +kernel
theorem kok62 : aOK kS krf kB kE62 := aOK_of (kal1 kok61 (kal1 kok56 kal0)) (kcl1 ks62_0 kcl0) ks62
/-- ColdShodModel.product()I -/
def kE63 : aE := (173, 20, ([kvB 3 120, kvB 3 6], [(102, 16, .inl (0, .ofNat 0)), (102, 19, .inl (1, .ofNat 0))], 0, [kvR 102, none, none, none], []), ([], none), ([kvA, kvB 3 120, kvB 3 6], [(102, 16, .inl (3, .ofNat 0)), (102, 19, .inl (4, .ofNat 0))], kvI 2, ([(3, 0, 0)], [])), kvW9)
def kC63_0 : aC := (([kvB 3 120, kvB 3 6, kvA, kvB 0 255, kvB 3 119, kvB 3 6, kvB 4 120], [(102, 16, .inl (4, .ofNat 0)), (102, 19, .inl (5, .ofNat 0)), (102, 17, .inl (6, .ofNat 0))], 10, [kvR 102, kvI 2, kvI 3, none], []), ([(4, 0, 0)], []), (239, [(-1, 4)]))
def kC63_1 : aC := (([kvB 3 120, kvB 3 6, kvA, kvB 3 120, kvB 3 6], [(102, 16, .inl (3, .ofNat 0)), (102, 19, .inl (4, .ofNat 0))], 10, [kvR 102, kvI 2, kvN 0, none], []), ([(3, 0, 0)], []), (0, []))
theorem ks63 : aseg kS krf kB [kE62] (ksp [(173, 62, 3, 0, 0, 0)]) kE63 [kC63_0, kC63_1] 30000 (none) = true := by decide +kernel
theorem ks63_0 : aseg kS krf kB [kE62] (ksp [(173, 62, 3, 0, 0, 0)]) kE63 [kC63_0, kC63_1] 30000 (some kC63_0) = true := by decide +kernel
theorem ks63_1 : aseg kS krf kB [kE62] (ksp [(173, 62, 3, 0, 0, 0)]) kE63 [kC63_0, kC63_1] 30000 (some kC63_1) = true := by decide +kernel
theorem kok63 : aOK kS krf kB kE63 := aOK_of (kal1 kok62 kal0) (kcl1 ks63_0 (kcl1 ks63_1 kcl0)) ks63
/-- ColdShodModel.sums()I -/
def kE64 : aE := (172, 21, ([kvB 3 120, kvB 3 6], [(102, 16, .inl (0, .ofNat 0)), (102, 19, .inl (1, .ofNat 0))], 0, [kvR 102, none, none, none], []), ([], none), ([kvA, kvB 3 120, kvB 3 6], [(102, 16, .inl (3, .ofNat 0)), (102, 19, .inl (4, .ofNat 0))], kvI 2, ([(3, 0, 0)], [])), kvW9)
def kC64_0 : aC := (([kvB 3 120, kvB 3 6, kvA, kvB 3 120, kvB 3 6], [(102, 16, .inl (3, .ofNat 0)), (102, 19, .inl (4, .ofNat 0))], 5, [kvR 102, kvI 2, none, none], []), ([(3, 0, 0)], []), (120, [(-1, 3)]))
theorem ks64 : aseg kS krf kB [kE63] (ksp []) kE64 [kC64_0] 30000 (none) = true := by decide +kernel
theorem ks64_0 : aseg kS krf kB [kE63] (ksp []) kE64 [kC64_0] 30000 (some kC64_0) = true := by decide +kernel
theorem kok64 : aOK kS krf kB kE64 := aOK_of (kal1 kok63 kal0) (kcl1 ks64_0 kcl0) ks64
