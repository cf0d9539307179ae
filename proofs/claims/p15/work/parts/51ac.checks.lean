/-! ENTRIES and their checks: printed by a program (wip/ai). -/
/-- ColdShodModel.product()I -/
def kE52 : aE := (173, 8, ([kvB 5 120, kvB 5 6], [(102, 16, .inl (0, .ofNat 0)), (102, 19, .inl (1, .ofNat 0))], 0, [kvR 102, none, none, none], []), ([], none), ([kvA, kvB 5 120, kvB 5 6], [(102, 16, .inl (3, .ofNat 0)), (102, 19, .inl (4, .ofNat 0))], kvI 2, ([(3, 0, 0)], [])), kvW10)
def kC52_0 : aC := (([kvB 5 120, kvB 5 6, kvA, kvB 0 255, kvB 5 119, kvB 5 6, kvB 6 120], [(102, 16, .inl (4, .ofNat 0)), (102, 19, .inl (5, .ofNat 0)), (102, 17, .inl (6, .ofNat 0))], 10, [kvR 102, kvI 2, kvI 3, none], []), ([(4, 0, 0)], []), (710, [(-3, 4)]))
def kC52_1 : aC := (([kvB 5 120, kvB 5 6, kvA, kvB 5 120, kvB 5 6], [(102, 16, .inl (3, .ofNat 0)), (102, 19, .inl (4, .ofNat 0))], 10, [kvR 102, kvI 2, kvN 0, none], []), ([(3, 0, 0)], []), (0, []))
def kC52_2 : aC := (([kvB 5 120, kvB 5 6, kvA, kvB 37 47, kvB 5 119, kvB 5 6, kvB 6 120], [(102, 16, .inl (4, .ofNat 0)), (102, 19, .inl (5, .ofNat 0)), (102, 17, .inl (6, .ofNat 0)), (102, 18, .inr (.negSucc 0))], 35, [kvR 102, kvI 2, kvI 3, none], []), ([(4, 0, 0)], []), (709, [(-3, 4)]))
theorem ks52 : aseg kS krf kB [kE51] (ksp [(173, 62, 3, 0, 0, 0)]) kE52 [kC52_0, kC52_1, kC52_2] 30000 (none) = true := asgqw (by decide +kernel)
theorem ks52_0 : aseg kS krf kB [kE51] (ksp [(173, 62, 3, 0, 0, 0)]) kE52 [kC52_0, kC52_1, kC52_2] 30000 (some kC52_0) = true := asgqw (by decide +kernel)
theorem ks52_1 : aseg kS krf kB [kE51] (ksp [(173, 62, 3, 0, 0, 0)]) kE52 [kC52_0, kC52_1, kC52_2] 30000 (some kC52_1) = true := asgqw (by decide +kernel)
theorem ks52_2 : aseg kS krf kB [kE51] (ksp [(173, 62, 3, 0, 0, 0)]) kE52 [kC52_0, kC52_1, kC52_2] 30000 (some kC52_2) = true := asgqw (by decide +kernel)
theorem kok52 : aOK kS krf kB kE52 := aOK_of (kal1 kok51 kal0) (kcl1 ks52_0 (kcl1 ks52_1 (kcl1 ks52_2 kcl0))) ks52
/-- ColdShodModel.sums()I -/
def kE53 : aE := (172, 9, ([kvB 5 120, kvB 5 6], [(102, 16, .inl (0, .ofNat 0)), (102, 19, .inl (1, .ofNat 0))], 0, [kvR 102, none, none, none], []), ([], none), ([kvA, kvB 5 120, kvB 5 6], [(102, 16, .inl (3, .ofNat 0)), (102, 19, .inl (4, .ofNat 0))], kvI 2, ([(3, 0, 0)], [])), kvW10)
def kC53_0 : aC := (([kvB 5 120, kvB 5 6, kvA, kvB 5 120, kvB 5 6], [(102, 16, .inl (3, .ofNat 0)), (102, 19, .inl (4, .ofNat 0))], 5, [kvR 102, kvI 2, none, none], []), ([(3, 0, 0)], []), (14155, [(-117, 3)]))
def kC53_1 : aC := (([kvB 5 120, kvB 5 6, kvA, kvB 5 119, kvB 5 6, kvB 6 120], [(102, 16, .inl (3, .ofNat 0)), (102, 19, .inl (4, .ofNat 0)), (102, 18, .inr (.negSucc 0)), (102, 17, .inl (5, .ofNat 0))], 30, [kvR 102, kvI 2, none, none], []), ([(3, 0, 0)], []), (14160, [(-117, 3), (-1, 5)]))
theorem ks53 : aseg kS krf kB [kE52] (ksp []) kE53 [kC53_0, kC53_1] 30000 (none) = true := asgqw (by decide +kernel)
theorem ks53_0 : aseg kS krf kB [kE52] (ksp []) kE53 [kC53_0, kC53_1] 30000 (some kC53_0) = true := asgqw (by decide +kernel)
theorem ks53_1 : aseg kS krf kB [kE52] (ksp []) kE53 [kC53_0, kC53_1] 30000 (some kC53_1) = true := asgqw (by decide +kernel)
theorem kok53 : aOK kS krf kB kE53 := aOK_of (kal1 kok52 kal0) (kcl1 ks53_0 (kcl1 ks53_1 kcl0)) ks53
/-- ColdShodModel.compared()I -/
def kE54 : aE := (171, 10, ([kvB 5 120, kvB 5 6], [(102, 16, .inl (0, .ofNat 0)), (102, 19, .inl (1, .ofNat 0))], 0, [kvR 102, none, none, none], []), ([], none), ([kvA, kvB 5 120, kvB 5 6], [(102, 16, .inl (3, .ofNat 0)), (102, 19, .inl (4, .ofNat 0))], kvI 2, ([(3, 0, 0)], [])), kvW10)
def kC54_0 : aC := (([kvB 5 120, kvB 5 6, kvA, kvB 60 62, kvB 5 119, kvB 5 6, kvB 6 120], [(102, 16, .inl (4, .ofNat 0)), (102, 19, .inl (5, .ofNat 0)), (102, 17, .inl (6, .ofNat 0)), (102, 18, .inr (.negSucc 0))], 37, [kvR 102, kvI 2, kvI 3, none], []), ([(4, 0, 0)], []), (0, []))
theorem ks54 : aseg kS krf kB [kE53] (ksp []) kE54 [kC54_0] 30000 (none) = true := asgqw (by decide +kernel)
theorem ks54_0 : aseg kS krf kB [kE53] (ksp []) kE54 [kC54_0] 30000 (some kC54_0) = true := asgqw (by decide +kernel)
theorem kok54 : aOK kS krf kB kE54 := aOK_of (kal1 kok53 kal0) (kcl1 ks54_0 kcl0) ks54
/-- ColdShodModel.both()I -/
def kE55 : aE := (170, 11, ([kvB 5 120, kvB 5 6], [(102, 16, .inl (0, .ofNat 0)), (102, 19, .inl (1, .ofNat 0))], 0, [kvR 102, none, none], []), ([], none), ([kvA, kvB 5 120, kvB 5 6], [(102, 16, .inl (3, .ofNat 0)), (102, 19, .inl (4, .ofNat 0))], kvI 2, ([(3, 0, 0)], [])), kvW10)
def kC55_0 : aC := (([kvB 5 120, kvB 5 6, kvA, kvB 5 120, kvB 5 6], [(102, 16, .inl (3, .ofNat 0)), (102, 19, .inl (4, .ofNat 0))], 5, [kvR 102, kvI 2, none], []), ([(3, 0, 0)], []), (120, [(-1, 3)]))
theorem ks55 : aseg kS krf kB [kE54] (ksp []) kE55 [kC55_0] 30000 (none) = true := asgqw (by decide +kernel)
theorem ks55_0 : aseg kS krf kB [kE54] (ksp []) kE55 [kC55_0] 30000 (some kC55_0) = true := asgqw (by decide +kernel)
theorem kok55 : aOK kS krf kB kE55 := aOK_of (kal1 kok54 kal0) (kcl1 ks55_0 kcl0) ks55
/-- ColdShodModel.either()I -/
def kE56 : aE := (169, 12, ([kvB 5 120, kvB 5 6], [(102, 16, .inl (0, .ofNat 0)), (102, 19, .inl (1, .ofNat 0))], 0, [kvR 102, none, none], []), ([], none), ([kvA, kvB 5 120, kvB 5 6], [(102, 16, .inl (3, .ofNat 0)), (102, 19, .inl (4, .ofNat 0))], kvI 2, ([(3, 0, 0)], [])), kvW10)
def kC56_0 : aC := (([kvB 5 120, kvB 5 6, kvA, kvB 5 120, kvB 5 6], [(102, 16, .inl (3, .ofNat 0)), (102, 19, .inl (4, .ofNat 0))], 5, [kvR 102, kvI 2, none], []), ([(3, 0, 0)], []), (120, [(-1, 3)]))
theorem ks56 : aseg kS krf kB [kE55] (ksp []) kE56 [kC56_0] 30000 (none) = true := asgqw (by decide +kernel)
theorem ks56_0 : aseg kS krf kB [kE55] (ksp []) kE56 [kC56_0] 30000 (some kC56_0) = true := asgqw (by decide +kernel)
theorem kok56 : aOK kS krf kB kE56 := aOK_of (kal1 kok55 kal0) (kcl1 ks56_0 kcl0) ks56
/-- ColdShodModel.one()I -/
def kE57 : aE := (175, 13, ([kvB 4 120, kvB 4 6], [(102, 16, .inl (0, .ofNat 0)), (102, 19, .inl (1, .ofNat 0))], 0, [kvR 102, none, none, none, none], []), ([], none), ([kvA, kvB 4 120, kvB 4 6], [(102, 16, .inl (3, .ofNat 0)), (102, 19, .inl (4, .ofNat 0))], kvI 2, ([(3, 0, 0)], [])), kvW10)
def kC57_0 : aC := (([kvB 4 119, kvB 4 6, kvB 33 45, kvB 5 120], [(102, 16, .inl (0, .ofNat 0)), (102, 19, .inl (1, .ofNat 0)), (102, 18, .inr (.negSucc 0)), (102, 17, .inl (3, .ofNat 0))], 32, [kvR 102, kvI 2, none, none, none], []), ([], []), (0, []))
def kC57_1 : aC := (([kvB 4 120, kvB 4 6, kvB 0 255, kvA, kvB 0 4, kvB 4 120], [(102, 16, .inl (5, .ofNat 0)), (102, 19, .inl (1, .ofNat 0)), (102, 18, .inr (.negSucc 0))], 176, [kvR 102, kvI 2, some (.inl (.inl (.inr (.negSucc 0)))), kvI 3, kvI 4], []), ([(5, 0, 0)], []), (12, [(-1, 4)]))
def kC57_2 : aC := (([kvB 4 120, kvB 4 6, kvB 0 255, kvA, kvB 0 4, kvB 4 120], [(102, 16, .inl (5, .ofNat 0)), (102, 19, .inl (1, .ofNat 0)), (102, 18, .inr (.negSucc 0))], 229, [kvR 102, kvI 2, some (.inl (.inl (.inr (.negSucc 0)))), kvI 3, kvI 4], []), ([(5, 0, 0)], []), (0, []))
theorem ks57 : aseg kS krf kB [kE44, kE56, kE51] (ksp []) kE57 [kC57_0, kC57_1, kC57_2] 30000 (none) = true := asgqw (by decide +kernel)
theorem ks57_0 : aseg kS krf kB [kE44, kE56, kE51] (ksp []) kE57 [kC57_0, kC57_1, kC57_2] 30000 (some kC57_0) = true := asgqw (by decide +kernel)
theorem ks57_1 : aseg kS krf kB [kE44, kE56, kE51] (ksp []) kE57 [kC57_0, kC57_1, kC57_2] 30000 (some kC57_1) = true := asgqw (by decide +kernel)
theorem ks57_2 : aseg kS krf kB [kE44, kE56, kE51] (ksp []) kE57 [kC57_0, kC57_1, kC57_2] 30000 (some kC57_2) = true := asgqw (by decide +kernel)
theorem kok57 : aOK kS krf kB kE57 := aOK_of (kal1 kok44 (kal1 kok56 (kal1 kok51 kal0))) (kcl1 ks57_0 (kcl1 ks57_1 (kcl1 ks57_2 kcl0))) ks57
/-- ColdShodModel.product()I -/
def kE58 : aE := (173, 14, ([kvB 4 120, kvB 4 6], [(102, 16, .inl (0, .ofNat 0)), (102, 19, .inl (1, .ofNat 0))], 0, [kvR 102, none, none, none], []), ([], none), ([kvA, kvB 4 120, kvB 4 6], [(102, 16, .inl (3, .ofNat 0)), (102, 19, .inl (4, .ofNat 0))], kvI 2, ([(3, 0, 0)], [])), kvW10)
def kC58_0 : aC := (([kvB 4 120, kvB 4 6, kvA, kvB 0 255, kvB 4 119, kvB 4 6, kvB 5 120], [(102, 16, .inl (4, .ofNat 0)), (102, 19, .inl (5, .ofNat 0)), (102, 17, .inl (6, .ofNat 0))], 10, [kvR 102, kvI 2, kvI 3, none], []), ([(4, 0, 0)], []), (713, [(-3, 4)]))
def kC58_1 : aC := (([kvB 4 120, kvB 4 6, kvA, kvB 4 120, kvB 4 6], [(102, 16, .inl (3, .ofNat 0)), (102, 19, .inl (4, .ofNat 0))], 10, [kvR 102, kvI 2, kvN 0, none], []), ([(3, 0, 0)], []), (0, []))
def kC58_2 : aC := (([kvB 4 120, kvB 4 6, kvA, kvB 37 47, kvB 4 119, kvB 4 6, kvB 5 120], [(102, 16, .inl (4, .ofNat 0)), (102, 19, .inl (5, .ofNat 0)), (102, 17, .inl (6, .ofNat 0)), (102, 18, .inr (.negSucc 0))], 35, [kvR 102, kvI 2, kvI 3, none], []), ([(4, 0, 0)], []), (712, [(-3, 4)]))
theorem ks58 : aseg kS krf kB [kE57] (ksp [(173, 62, 3, 0, 0, 0)]) kE58 [kC58_0, kC58_1, kC58_2] 30000 (none) = true := asgqw (by decide +kernel)
theorem ks58_0 : aseg kS krf kB [kE57] (ksp [(173, 62, 3, 0, 0, 0)]) kE58 [kC58_0, kC58_1, kC58_2] 30000 (some kC58_0) = true := asgqw (by decide +kernel)
theorem ks58_1 : aseg kS krf kB [kE57] (ksp [(173, 62, 3, 0, 0, 0)]) kE58 [kC58_0, kC58_1, kC58_2] 30000 (some kC58_1) = true := asgqw (by decide +kernel)
theorem ks58_2 : aseg kS krf kB [kE57] (ksp [(173, 62, 3, 0, 0, 0)]) kE58 [kC58_0, kC58_1, kC58_2] 30000 (some kC58_2) = true := asgqw (by decide +kernel)
theorem kok58 : aOK kS krf kB kE58 := aOK_of (kal1 kok57 kal0) (kcl1 ks58_0 (kcl1 ks58_1 (kcl1 ks58_2 kcl0))) ks58
/-- ColdShodModel.sums()I -/
def kE59 : aE := (172, 15, ([kvB 4 120, kvB 4 6], [(102, 16, .inl (0, .ofNat 0)), (102, 19, .inl (1, .ofNat 0))], 0, [kvR 102, none, none, none], []), ([], none), ([kvA, kvB 4 120, kvB 4 6], [(102, 16, .inl (3, .ofNat 0)), (102, 19, .inl (4, .ofNat 0))], kvI 2, ([(3, 0, 0)], [])), kvW10)
def kC59_0 : aC := (([kvB 4 120, kvB 4 6, kvA, kvB 4 120, kvB 4 6], [(102, 16, .inl (3, .ofNat 0)), (102, 19, .inl (4, .ofNat 0))], 5, [kvR 102, kvI 2, none, none], []), ([(3, 0, 0)], []), (14276, [(-118, 3)]))
def kC59_1 : aC := (([kvB 4 120, kvB 4 6, kvA, kvB 4 119, kvB 4 6, kvB 5 120], [(102, 16, .inl (3, .ofNat 0)), (102, 19, .inl (4, .ofNat 0)), (102, 18, .inr (.negSucc 0)), (102, 17, .inl (5, .ofNat 0))], 30, [kvR 102, kvI 2, none, none], []), ([(3, 0, 0)], []), (14280, [(-118, 3), (-1, 5)]))
theorem ks59 : aseg kS krf kB [kE58] (ksp []) kE59 [kC59_0, kC59_1] 30000 (none) = true := asgqw (by decide +kernel)
theorem ks59_0 : aseg kS krf kB [kE58] (ksp []) kE59 [kC59_0, kC59_1] 30000 (some kC59_0) = true := asgqw (by decide +kernel)
theorem ks59_1 : aseg kS krf kB [kE58] (ksp []) kE59 [kC59_0, kC59_1] 30000 (some kC59_1) = true := asgqw (by decide +kernel)
theorem kok59 : aOK kS krf kB kE59 := aOK_of (kal1 kok58 kal0) (kcl1 ks59_0 (kcl1 ks59_1 kcl0)) ks59
/-- ColdShodModel.compared()I -/
def kE60 : aE := (171, 16, ([kvB 4 120, kvB 4 6], [(102, 16, .inl (0, .ofNat 0)), (102, 19, .inl (1, .ofNat 0))], 0, [kvR 102, none, none, none], []), ([], none), ([kvA, kvB 4 120, kvB 4 6], [(102, 16, .inl (3, .ofNat 0)), (102, 19, .inl (4, .ofNat 0))], kvI 2, ([(3, 0, 0)], [])), kvW10)
def kC60_0 : aC := (([kvB 4 120, kvB 4 6, kvA, kvB 60 62, kvB 4 119, kvB 4 6, kvB 5 120], [(102, 16, .inl (4, .ofNat 0)), (102, 19, .inl (5, .ofNat 0)), (102, 17, .inl (6, .ofNat 0)), (102, 18, .inr (.negSucc 0))], 37, [kvR 102, kvI 2, kvI 3, none], []), ([(4, 0, 0)], []), (0, []))
theorem ks60 : aseg kS krf kB [kE59] (ksp []) kE60 [kC60_0] 30000 (none) = true := asgqw (by decide +kernel)
theorem ks60_0 : aseg kS krf kB [kE59] (ksp []) kE60 [kC60_0] 30000 (some kC60_0) = true := asgqw (by decide +kernel)
theorem kok60 : aOK kS krf kB kE60 := aOK_of (kal1 kok59 kal0) (kcl1 ks60_0 kcl0) ks60
/-- ColdShodModel.both()I -/
def kE61 : aE := (170, 17, ([kvB 4 120, kvB 4 6], [(102, 16, .inl (0, .ofNat 0)), (102, 19, .inl (1, .ofNat 0))], 0, [kvR 102, none, none], []), ([], none), ([kvA, kvB 4 120, kvB 4 6], [(102, 16, .inl (3, .ofNat 0)), (102, 19, .inl (4, .ofNat 0))], kvI 2, ([(3, 0, 0)], [])), kvW10)
def kC61_0 : aC := (([kvB 4 120, kvB 4 6, kvA, kvB 4 120, kvB 4 6], [(102, 16, .inl (3, .ofNat 0)), (102, 19, .inl (4, .ofNat 0))], 5, [kvR 102, kvI 2, none], []), ([(3, 0, 0)], []), (120, [(-1, 3)]))
theorem ks61 : aseg kS krf kB [kE60] (ksp []) kE61 [kC61_0] 30000 (none) = true := asgqw (by decide +kernel)
theorem ks61_0 : aseg kS krf kB [kE60] (ksp []) kE61 [kC61_0] 30000 (some kC61_0) = true := asgqw (by decide +kernel)
theorem kok61 : aOK kS krf kB kE61 := aOK_of (kal1 kok60 kal0) (kcl1 ks61_0 kcl0) ks61
/-- ColdShodModel.either()I -/
def kE62 : aE := (169, 18, ([kvB 4 120, kvB 4 6], [(102, 16, .inl (0, .ofNat 0)), (102, 19, .inl (1, .ofNat 0))], 0, [kvR 102, none, none], []), ([], none), ([kvA, kvB 4 120, kvB 4 6], [(102, 16, .inl (3, .ofNat 0)), (102, 19, .inl (4, .ofNat 0))], kvI 2, ([(3, 0, 0)], [])), kvW10)
def kC62_0 : aC := (([kvB 4 120, kvB 4 6, kvA, kvB 4 120, kvB 4 6], [(102, 16, .inl (3, .ofNat 0)), (102, 19, .inl (4, .ofNat 0))], 5, [kvR 102, kvI 2, none], []), ([(3, 0, 0)], []), (120, [(-1, 3)]))
theorem ks62 : aseg kS krf kB [kE61] (ksp []) kE62 [kC62_0] 30000 (none) = true := asgqw (by decide +kernel)
theorem ks62_0 : aseg kS krf kB [kE61] (ksp []) kE62 [kC62_0] 30000 (some kC62_0) = true := asgqw (by decide +kernel)
theorem kok62 : aOK kS krf kB kE62 := aOK_of (kal1 kok61 kal0) (kcl1 ks62_0 kcl0) ks62
/-- ColdShodModel.one()I -/
def kE63 : aE := (175, 19, ([kvB 3 120, kvB 3 6], [(102, 16, .inl (0, .ofNat 0)), (102, 19, .inl (1, .ofNat 0))], 0, [kvR 102, none, none, none, none], []), ([], none), ([kvA, kvB 3 120, kvB 3 6], [(102, 16, .inl (3, .ofNat 0)), (102, 19, .inl (4, .ofNat 0))], kvI 2, ([(3, 0, 0)], [])), kvW10)
def kC63_0 : aC := (([kvB 3 119, kvB 3 6, kvB 33 45, kvB 4 120], [(102, 16, .inl (0, .ofNat 0)), (102, 19, .inl (1, .ofNat 0)), (102, 18, .inr (.negSucc 0)), (102, 17, .inl (3, .ofNat 0))], 32, [kvR 102, kvI 2, none, none, none], []), ([], []), (0, []))
def kC63_1 : aC := (([kvB 3 120, kvB 3 6, kvB 0 255, kvA, kvB 0 4, kvB 3 120], [(102, 16, .inl (5, .ofNat 0)), (102, 19, .inl (1, .ofNat 0)), (102, 18, .inr (.negSucc 0))], 176, [kvR 102, kvI 2, some (.inl (.inl (.inr (.negSucc 0)))), kvI 3, kvI 4], []), ([(5, 0, 0)], []), (12, [(-1, 4)]))
def kC63_2 : aC := (([kvB 3 120, kvB 3 6, kvB 0 255, kvA, kvB 0 4, kvB 3 120], [(102, 16, .inl (5, .ofNat 0)), (102, 19, .inl (1, .ofNat 0)), (102, 18, .inr (.negSucc 0))], 229, [kvR 102, kvI 2, some (.inl (.inl (.inr (.negSucc 0)))), kvI 3, kvI 4], []), ([(5, 0, 0)], []), (0, []))
theorem ks63 : aseg kS krf kB [kE44, kE62, kE57] (ksp []) kE63 [kC63_0, kC63_1, kC63_2] 30000 (none) = true := asgqw (by decide +kernel)
theorem ks63_0 : aseg kS krf kB [kE44, kE62, kE57] (ksp []) kE63 [kC63_0, kC63_1, kC63_2] 30000 (some kC63_0) = true := asgqw (by decide +kernel)
theorem ks63_1 : aseg kS krf kB [kE44, kE62, kE57] (ksp []) kE63 [kC63_0, kC63_1, kC63_2] 30000 (some kC63_1) = true := asgqw (by decide +kernel)
theorem ks63_2 : aseg kS krf kB [kE44, kE62, kE57] (ksp []) kE63 [kC63_0, kC63_1, kC63_2] 30000 (some kC63_2) = true := asgqw (by decide +kernel)
theorem kok63 : aOK kS krf kB kE63 := aOK_of (kal1 kok44 (kal1 kok62 (kal1 kok57 kal0))) (kcl1 ks63_0 (kcl1 ks63_1 (kcl1 ks63_2 kcl0))) ks63
/-- ColdShodModel.product()I -/
def kE64 : aE := (173, 20, ([kvB 3 120, kvB 3 6], [(102, 16, .inl (0, .ofNat 0)), (102, 19, .inl (1, .ofNat 0))], 0, [kvR 102, none, none, none], []), ([], none), ([kvA, kvB 3 120, kvB 3 6], [(102, 16, .inl (3, .ofNat 0)), (102, 19, .inl (4, .ofNat 0))], kvI 2, ([(3, 0, 0)], [])), kvW10)
def kC64_0 : aC := (([kvB 3 120, kvB 3 6, kvA, kvB 0 255, kvB 3 119, kvB 3 6, kvB 4 120], [(102, 16, .inl (4, .ofNat 0)), (102, 19, .inl (5, .ofNat 0)), (102, 17, .inl (6, .ofNat 0))], 10, [kvR 102, kvI 2, kvI 3, none], []), ([(4, 0, 0)], []), (716, [(-3, 4)]))
def kC64_1 : aC := (([kvB 3 120, kvB 3 6, kvA, kvB 3 120, kvB 3 6], [(102, 16, .inl (3, .ofNat 0)), (102, 19, .inl (4, .ofNat 0))], 10, [kvR 102, kvI 2, kvN 0, none], []), ([(3, 0, 0)], []), (0, []))
def kC64_2 : aC := (([kvB 3 120, kvB 3 6, kvA, kvB 37 47, kvB 3 119, kvB 3 6, kvB 4 120], [(102, 16, .inl (4, .ofNat 0)), (102, 19, .inl (5, .ofNat 0)), (102, 17, .inl (6, .ofNat 0)), (102, 18, .inr (.negSucc 0))], 35, [kvR 102, kvI 2, kvI 3, none], []), ([(4, 0, 0)], []), (715, [(-3, 4)]))
theorem ks64 : aseg kS krf kB [kE63] (ksp [(173, 62, 3, 0, 0, 0)]) kE64 [kC64_0, kC64_1, kC64_2] 30000 (none) = true := asgqw (by decide +kernel)
theorem ks64_0 : aseg kS krf kB [kE63] (ksp [(173, 62, 3, 0, 0, 0)]) kE64 [kC64_0, kC64_1, kC64_2] 30000 (some kC64_0) = true := asgqw (by decide +kernel)
theorem ks64_1 : aseg kS krf kB [kE63] (ksp [(173, 62, 3, 0, 0, 0)]) kE64 [kC64_0, kC64_1, kC64_2] 30000 (some kC64_1) = true := asgqw (by decide +kernel)
theorem ks64_2 : aseg kS krf kB [kE63] (ksp [(173, 62, 3, 0, 0, 0)]) kE64 [kC64_0, kC64_1, kC64_2] 30000 (some kC64_2) = true := asgqw (by decide +kernel)
theorem kok64 : aOK kS krf kB kE64 := aOK_of (kal1 kok63 kal0) (kcl1 ks64_0 (kcl1 ks64_1 (kcl1 ks64_2 kcl0))) ks64
/-- ColdShodModel.sums()I -/
def kE65 : aE := (172, 21, ([kvB 3 120, kvB 3 6], [(102, 16, .inl (0, .ofNat 0)), (102, 19, .inl (1, .ofNat 0))], 0, [kvR 102, none, none, none], []), ([], none), ([kvA, kvB 3 120, kvB 3 6], [(102, 16, .inl (3, .ofNat 0)), (102, 19, .inl (4, .ofNat 0))], kvI 2, ([(3, 0, 0)], [])), kvW10)
def kC65_0 : aC := (([kvB 3 120, kvB 3 6, kvA, kvB 3 120, kvB 3 6], [(102, 16, .inl (3, .ofNat 0)), (102, 19, .inl (4, .ofNat 0))], 5, [kvR 102, kvI 2, none, none], []), ([(3, 0, 0)], []), (14397, [(-119, 3)]))
def kC65_1 : aC := (([kvB 3 120, kvB 3 6, kvA, kvB 3 119, kvB 3 6, kvB 4 120], [(102, 16, .inl (3, .ofNat 0)), (102, 19, .inl (4, .ofNat 0)), (102, 18, .inr (.negSucc 0)), (102, 17, .inl (5, .ofNat 0))], 30, [kvR 102, kvI 2, none, none], []), ([(3, 0, 0)], []), (14400, [(-119, 3), (-1, 5)]))
theorem ks65 : aseg kS krf kB [kE64] (ksp []) kE65 [kC65_0, kC65_1] 30000 (none) = true := asgqw (by decide +kernel)
theorem ks65_0 : aseg kS krf kB [kE64] (ksp []) kE65 [kC65_0, kC65_1] 30000 (some kC65_0) = true := asgqw (by decide +kernel)
theorem ks65_1 : aseg kS krf kB [kE64] (ksp []) kE65 [kC65_0, kC65_1] 30000 (some kC65_1) = true := asgqw (by decide +kernel)
theorem kok65 : aOK kS krf kB kE65 := aOK_of (kal1 kok64 kal0) (kcl1 ks65_0 (kcl1 ks65_1 kcl0)) ks65
/-- ColdShodModel.compared()I -/
def kE66 : aE := (171, 22, ([kvB 3 120, kvB 3 6], [(102, 16, .inl (0, .ofNat 0)), (102, 19, .inl (1, .ofNat 0))], 0, [kvR 102, none, none, none], []), ([], none), ([kvA, kvB 3 120, kvB 3 6], [(102, 16, .inl (3, .ofNat 0)), (102, 19, .inl (4, .ofNat 0))], kvI 2, ([(3, 0, 0)], [])), kvW10)
def kC66_0 : aC := (([kvB 3 120, kvB 3 6, kvA, kvB 60 62, kvB 3 119, kvB 3 6, kvB 4 120], [(102, 16, .inl (4, .ofNat 0)), (102, 19, .inl (5, .ofNat 0)), (102, 17, .inl (6, .ofNat 0)), (102, 18, .inr (.negSucc 0))], 37, [kvR 102, kvI 2, kvI 3, none], []), ([(4, 0, 0)], []), (0, []))
theorem ks66 : aseg kS krf kB [kE65] (ksp []) kE66 [kC66_0] 30000 (none) = true := asgqw (by decide +kernel)
theorem ks66_0 : aseg kS krf kB [kE65] (ksp []) kE66 [kC66_0] 30000 (some kC66_0) = true := asgqw (by decide +kernel)
theorem kok66 : aOK kS krf kB kE66 := aOK_of (kal1 kok65 kal0) (kcl1 ks66_0 kcl0) ks66
/-- ColdShodModel.both()I -/
def kE67 : aE := (170, 23, ([kvB 3 120, kvB 3 6], [(102, 16, .inl (0, .ofNat 0)), (102, 19, .inl (1, .ofNat 0))], 0, [kvR 102, none, none], []), ([], none), ([kvA, kvB 3 120, kvB 3 6], [(102, 16, .inl (3, .ofNat 0)), (102, 19, .inl (4, .ofNat 0))], kvI 2, ([(3, 0, 0)], [])), kvW10)
def kC67_0 : aC := (([kvB 3 120, kvB 3 6, kvA, kvB 3 120, kvB 3 6], [(102, 16, .inl (3, .ofNat 0)), (102, 19, .inl (4, .ofNat 0))], 5, [kvR 102, kvI 2, none], []), ([(3, 0, 0)], []), (120, [(-1, 3)]))
theorem ks67 : aseg kS krf kB [kE66] (ksp []) kE67 [kC67_0] 30000 (none) = true := asgqw (by decide +kernel)
theorem ks67_0 : aseg kS krf kB [kE66] (ksp []) kE67 [kC67_0] 30000 (some kC67_0) = true := asgqw (by decide +kernel)
theorem kok67 : aOK kS krf kB kE67 := aOK_of (kal1 kok66 kal0) (kcl1 ks67_0 kcl0) ks67
/-- ColdShodModel.either()I -/
def kE68 : aE := (169, 24, ([kvB 3 120, kvB 3 6], [(102, 16, .inl (0, .ofNat 0)), (102, 19, .inl (1, .ofNat 0))], 0, [kvR 102, none, none], []), ([], none), ([kvA, kvB 3 120, kvB 3 6], [(102, 16, .inl (3, .ofNat 0)), (102, 19, .inl (4, .ofNat 0))], kvI 2, ([(3, 0, 0)], [])), kvW10)
def kC68_0 : aC := (([kvB 3 120, kvB 3 6, kvA, kvB 3 120, kvB 3 6], [(102, 16, .inl (3, .ofNat 0)), (102, 19, .inl (4, .ofNat 0))], 5, [kvR 102, kvI 2, none], []), ([(3, 0, 0)], []), (120, [(-1, 3)]))
theorem ks68 : aseg kS krf kB [kE67] (ksp []) kE68 [kC68_0] 30000 (none) = true := asgqw (by decide +kernel)
theorem ks68_0 : aseg kS krf kB [kE67] (ksp []) kE68 [kC68_0] 30000 (some kC68_0) = true := asgqw (by decide +kernel)
theorem kok68 : aOK kS krf kB kE68 := aOK_of (kal1 kok67 kal0) (kcl1 ks68_0 kcl0) ks68
/-- ColdShodModel.one()I -/
def kE69 : aE := (175, 25, ([kvB 2 120, kvB 2 6], [(102, 16, .inl (0, .ofNat 0)), (102, 19, .inl (1, .ofNat 0))], 0, [kvR 102, none, none, none, none], []), ([], none), ([kvA, kvB 2 120, kvB 2 6], [(102, 16, .inl (3, .ofNat 0)), (102, 19, .inl (4, .ofNat 0))], kvI 2, ([(3, 0, 0)], [])), kvW10)
def kC69_0 : aC := (([kvB 2 119, kvB 2 6, kvB 33 45, kvB 3 120], [(102, 16, .inl (0, .ofNat 0)), (102, 19, .inl (1, .ofNat 0)), (102, 18, .inr (.negSucc 0)), (102, 17, .inl (3, .ofNat 0))], 32, [kvR 102, kvI 2, none, none, none], []), ([], []), (0, []))
def kC69_1 : aC := (([kvB 2 120, kvB 2 6, kvB 0 255, kvA, kvB 0 4, kvB 2 120], [(102, 16, .inl (5, .ofNat 0)), (102, 19, .inl (1, .ofNat 0)), (102, 18, .inr (.negSucc 0))], 176, [kvR 102, kvI 2, some (.inl (.inl (.inr (.negSucc 0)))), kvI 3, kvI 4], []), ([(5, 0, 0)], []), (12, [(-1, 4)]))
def kC69_2 : aC := (([kvB 2 120, kvB 2 6, kvB 0 255, kvA, kvB 0 4, kvB 2 120], [(102, 16, .inl (5, .ofNat 0)), (102, 19, .inl (1, .ofNat 0)), (102, 18, .inr (.negSucc 0))], 229, [kvR 102, kvI 2, some (.inl (.inl (.inr (.negSucc 0)))), kvI 3, kvI 4], []), ([(5, 0, 0)], []), (0, []))
theorem ks69 : aseg kS krf kB [kE44, kE68, kE63] (ksp []) kE69 [kC69_0, kC69_1, kC69_2] 30000 (none) = true := asgqw (by decide +kernel)
theorem ks69_0 : aseg kS krf kB [kE44, kE68, kE63] (ksp []) kE69 [kC69_0, kC69_1, kC69_2] 30000 (some kC69_0) = true := asgqw (by decide +kernel)
theorem ks69_1 : aseg kS krf kB [kE44, kE68, kE63] (ksp []) kE69 [kC69_0, kC69_1, kC69_2] 30000 (some kC69_1) = true := asgqw (by decide +kernel)
theorem ks69_2 : aseg kS krf kB [kE44, kE68, kE63] (ksp []) kE69 [kC69_0, kC69_1, kC69_2] 30000 (some kC69_2) = true := asgqw (by decide +kernel)
theorem kok69 : aOK kS krf kB kE69 := aOK_of (kal1 kok44 (kal1 kok68 (kal1 kok63 kal0))) (kcl1 ks69_0 (kcl1 ks69_1 (kcl1 ks69_2 kcl0))) ks69
/-- ColdShodModel.product()I -/
def kE70 : aE := (173, 26, ([kvB 2 120, kvB 2 6], [(102, 16, .inl (0, .ofNat 0)), (102, 19, .inl (1, .ofNat 0))], 0, [kvR 102, none, none, none], []), ([], none), ([kvA, kvB 2 120, kvB 2 6], [(102, 16, .inl (3, .ofNat 0)), (102, 19, .inl (4, .ofNat 0))], kvI 2, ([(3, 0, 0)], [])), kvW10)
def kC70_0 : aC := (([kvB 2 120, kvB 2 6, kvA, kvB 0 255, kvB 2 119, kvB 2 6, kvB 3 120], [(102, 16, .inl (4, .ofNat 0)), (102, 19, .inl (5, .ofNat 0)), (102, 17, .inl (6, .ofNat 0))], 10, [kvR 102, kvI 2, kvI 3, none], []), ([(4, 0, 0)], []), (719, [(-3, 4)]))
def kC70_1 : aC := (([kvB 2 120, kvB 2 6, kvA, kvB 2 120, kvB 2 6], [(102, 16, .inl (3, .ofNat 0)), (102, 19, .inl (4, .ofNat 0))], 10, [kvR 102, kvI 2, kvN 0, none], []), ([(3, 0, 0)], []), (0, []))
def kC70_2 : aC := (([kvB 2 120, kvB 2 6, kvA, kvB 37 47, kvB 2 119, kvB 2 6, kvB 3 120], [(102, 16, .inl (4, .ofNat 0)), (102, 19, .inl (5, .ofNat 0)), (102, 17, .inl (6, .ofNat 0)), (102, 18, .inr (.negSucc 0))], 35, [kvR 102, kvI 2, kvI 3, none], []), ([(4, 0, 0)], []), (718, [(-3, 4)]))
theorem ks70 : aseg kS krf kB [kE69] (ksp [(173, 62, 3, 0, 0, 0)]) kE70 [kC70_0, kC70_1, kC70_2] 30000 (none) = true := asgqw (by decide +kernel)
theorem ks70_0 : aseg kS krf kB [kE69] (ksp [(173, 62, 3, 0, 0, 0)]) kE70 [kC70_0, kC70_1, kC70_2] 30000 (some kC70_0) = true := asgqw (by decide +kernel)
theorem ks70_1 : aseg kS krf kB [kE69] (ksp [(173, 62, 3, 0, 0, 0)]) kE70 [kC70_0, kC70_1, kC70_2] 30000 (some kC70_1) = true := asgqw (by decide +kernel)
theorem ks70_2 : aseg kS krf kB [kE69] (ksp [(173, 62, 3, 0, 0, 0)]) kE70 [kC70_0, kC70_1, kC70_2] 30000 (some kC70_2) = true := asgqw (by decide +kernel)
theorem kok70 : aOK kS krf kB kE70 := aOK_of (kal1 kok69 kal0) (kcl1 ks70_0 (kcl1 ks70_1 (kcl1 ks70_2 kcl0))) ks70
/-- ColdShodModel.sums()I -/
def kE71 : aE := (172, 27, ([kvB 2 120, kvB 2 6], [(102, 16, .inl (0, .ofNat 0)), (102, 19, .inl (1, .ofNat 0))], 0, [kvR 102, none, none, none], []), ([], none), ([kvA, kvB 2 120, kvB 2 6], [(102, 16, .inl (3, .ofNat 0)), (102, 19, .inl (4, .ofNat 0))], kvI 2, ([(3, 0, 0)], [])), kvW10)
def kC71_0 : aC := (([kvB 2 120, kvB 2 6, kvA, kvB 2 120, kvB 2 6], [(102, 16, .inl (3, .ofNat 0)), (102, 19, .inl (4, .ofNat 0))], 5, [kvR 102, kvI 2, none, none], []), ([(3, 0, 0)], []), (14518, [(-120, 3)]))
def kC71_1 : aC := (([kvB 2 120, kvB 2 6, kvA, kvB 2 119, kvB 2 6, kvB 3 120], [(102, 16, .inl (3, .ofNat 0)), (102, 19, .inl (4, .ofNat 0)), (102, 18, .inr (.negSucc 0)), (102, 17, .inl (5, .ofNat 0))], 30, [kvR 102, kvI 2, none, none], []), ([(3, 0, 0)], []), (14520, [(-120, 3), (-1, 5)]))
theorem ks71 : aseg kS krf kB [kE70] (ksp []) kE71 [kC71_0, kC71_1] 30000 (none) = true := asgqw (by decide +kernel)
theorem ks71_0 : aseg kS krf kB [kE70] (ksp []) kE71 [kC71_0, kC71_1] 30000 (some kC71_0) = true := asgqw (by decide +kernel)
theorem ks71_1 : aseg kS krf kB [kE70] (ksp []) kE71 [kC71_0, kC71_1] 30000 (some kC71_1) = true := asgqw (by decide +kernel)
theorem kok71 : aOK kS krf kB kE71 := aOK_of (kal1 kok70 kal0) (kcl1 ks71_0 (kcl1 ks71_1 kcl0)) ks71
/-- ColdShodModel.compared()I -/
def kE72 : aE := (171, 28, ([kvB 2 120, kvB 2 6], [(102, 16, .inl (0, .ofNat 0)), (102, 19, .inl (1, .ofNat 0))], 0, [kvR 102, none, none, none], []), ([], none), ([kvA, kvB 2 120, kvB 2 6], [(102, 16, .inl (3, .ofNat 0)), (102, 19, .inl (4, .ofNat 0))], kvI 2, ([(3, 0, 0)], [])), kvW10)
def kC72_0 : aC := (([kvB 2 120, kvB 2 6, kvA, kvB 60 62, kvB 2 119, kvB 2 6, kvB 3 120], [(102, 16, .inl (4, .ofNat 0)), (102, 19, .inl (5, .ofNat 0)), (102, 17, .inl (6, .ofNat 0)), (102, 18, .inr (.negSucc 0))], 37, [kvR 102, kvI 2, kvI 3, none], []), ([(4, 0, 0)], []), (0, []))
theorem ks72 : aseg kS krf kB [kE71] (ksp []) kE72 [kC72_0] 30000 (none) = true := asgqw (by decide +kernel)
theorem ks72_0 : aseg kS krf kB [kE71] (ksp []) kE72 [kC72_0] 30000 (some kC72_0) = true := asgqw (by decide +kernel)
theorem kok72 : aOK kS krf kB kE72 := aOK_of (kal1 kok71 kal0) (kcl1 ks72_0 kcl0) ks72
/-- ColdShodModel.both()I -/
def kE73 : aE := (170, 29, ([kvB 2 120, kvB 2 6], [(102, 16, .inl (0, .ofNat 0)), (102, 19, .inl (1, .ofNat 0))], 0, [kvR 102, none, none], []), ([], none), ([kvA, kvB 2 120, kvB 2 6], [(102, 16, .inl (3, .ofNat 0)), (102, 19, .inl (4, .ofNat 0))], kvI 2, ([(3, 0, 0)], [])), kvW10)
def kC73_0 : aC := (([kvB 2 120, kvB 2 6, kvA, kvB 2 120, kvB 2 6], [(102, 16, .inl (3, .ofNat 0)), (102, 19, .inl (4, .ofNat 0))], 5, [kvR 102, kvI 2, none], []), ([(3, 0, 0)], []), (120, [(-1, 3)]))
theorem ks73 : aseg kS krf kB [kE72] (ksp []) kE73 [kC73_0] 30000 (none) = true := asgqw (by decide +kernel)
theorem ks73_0 : aseg kS krf kB [kE72] (ksp []) kE73 [kC73_0] 30000 (some kC73_0) = true := asgqw (by decide +kernel)
theorem kok73 : aOK kS krf kB kE73 := aOK_of (kal1 kok72 kal0) (kcl1 ks73_0 kcl0) ks73
/-- ColdShodModel.either()I -/
def kE74 : aE := (169, 30, ([kvB 2 120, kvB 2 6], [(102, 16, .inl (0, .ofNat 0)), (102, 19, .inl (1, .ofNat 0))], 0, [kvR 102, none, none], []), ([], none), ([kvA, kvB 2 120, kvB 2 6], [(102, 16, .inl (3, .ofNat 0)), (102, 19, .inl (4, .ofNat 0))], kvI 2, ([(3, 0, 0)], [])), kvW10)
def kC74_0 : aC := (([kvB 2 120, kvB 2 6, kvA, kvB 2 120, kvB 2 6], [(102, 16, .inl (3, .ofNat 0)), (102, 19, .inl (4, .ofNat 0))], 5, [kvR 102, kvI 2, none], []), ([(3, 0, 0)], []), (120, [(-1, 3)]))
theorem ks74 : aseg kS krf kB [kE73] (ksp []) kE74 [kC74_0] 30000 (none) = true := asgqw (by decide +kernel)
theorem ks74_0 : aseg kS krf kB [kE73] (ksp []) kE74 [kC74_0] 30000 (some kC74_0) = true := asgqw (by decide +kernel)
theorem kok74 : aOK kS krf kB kE74 := aOK_of (kal1 kok73 kal0) (kcl1 ks74_0 kcl0) ks74
/-- ColdShodModel.one()I -/
def kE75 : aE := (175, 31, ([kvB 1 120, kvB 1 6], [(102, 16, .inl (0, .ofNat 0)), (102, 19, .inl (1, .ofNat 0))], 0, [kvR 102, none, none, none, none], []), ([], none), ([kvA, kvB 1 120, kvB 1 6], [(102, 16, .inl (3, .ofNat 0)), (102, 19, .inl (4, .ofNat 0))], kvI 2, ([(3, 0, 0)], [])), kvW10)
def kC75_0 : aC := (([kvB 1 119, kvB 1 6, kvB 33 45, kvB 2 120], [(102, 16, .inl (0, .ofNat 0)), (102, 19, .inl (1, .ofNat 0)), (102, 18, .inr (.negSucc 0)), (102, 17, .inl (3, .ofNat 0))], 32, [kvR 102, kvI 2, none, none, none], []), ([], []), (0, []))
def kC75_1 : aC := (([kvB 1 120, kvB 1 6, kvB 0 255, kvA, kvB 0 4, kvB 1 120], [(102, 16, .inl (5, .ofNat 0)), (102, 19, .inl (1, .ofNat 0)), (102, 18, .inr (.negSucc 0))], 176, [kvR 102, kvI 2, some (.inl (.inl (.inr (.negSucc 0)))), kvI 3, kvI 4], []), ([(5, 0, 0)], []), (12, [(-1, 4)]))
def kC75_2 : aC := (([kvB 1 120, kvB 1 6, kvB 0 255, kvA, kvB 0 4, kvB 1 120], [(102, 16, .inl (5, .ofNat 0)), (102, 19, .inl (1, .ofNat 0)), (102, 18, .inr (.negSucc 0))], 229, [kvR 102, kvI 2, some (.inl (.inl (.inr (.negSucc 0)))), kvI 3, kvI 4], []), ([(5, 0, 0)], []), (0, []))
theorem ks75 : aseg kS krf kB [kE44, kE74, kE69] (ksp []) kE75 [kC75_0, kC75_1, kC75_2] 30000 (none) = true := asgqw (by decide +kernel)
theorem ks75_0 : aseg kS krf kB [kE44, kE74, kE69] (ksp []) kE75 [kC75_0, kC75_1, kC75_2] 30000 (some kC75_0) = true := asgqw (by decide +kernel)
theorem ks75_1 : aseg kS krf kB [kE44, kE74, kE69] (ksp []) kE75 [kC75_0, kC75_1, kC75_2] 30000 (some kC75_1) = true := asgqw (by decide +kernel)
theorem ks75_2 : aseg kS krf kB [kE44, kE74, kE69] (ksp []) kE75 [kC75_0, kC75_1, kC75_2] 30000 (some kC75_2) = true := asgqw (by decide +kernel)
theorem kok75 : aOK kS krf kB kE75 := aOK_of (kal1 kok44 (kal1 kok74 (kal1 kok69 kal0))) (kcl1 ks75_0 (kcl1 ks75_1 (kcl1 ks75_2 kcl0))) ks75
/-- ColdShodModel.product()I -/
def kE76 : aE := (173, 32, ([kvB 1 120, kvB 1 6], [(102, 16, .inl (0, .ofNat 0)), (102, 19, .inl (1, .ofNat 0))], 0, [kvR 102, none, none, none], []), ([], none), ([kvA, kvB 1 120, kvB 1 6], [(102, 16, .inl (3, .ofNat 0)), (102, 19, .inl (4, .ofNat 0))], kvI 2, ([(3, 0, 0)], [])), kvW10)
def kC76_0 : aC := (([kvB 1 120, kvB 1 6, kvA, kvB 0 255, kvB 1 119, kvB 1 6, kvB 2 120], [(102, 16, .inl (4, .ofNat 0)), (102, 19, .inl (5, .ofNat 0)), (102, 17, .inl (6, .ofNat 0))], 10, [kvR 102, kvI 2, kvI 3, none], []), ([(4, 0, 0)], []), (722, [(-3, 4)]))
def kC76_1 : aC := (([kvB 1 120, kvB 1 6, kvA, kvB 1 120, kvB 1 6], [(102, 16, .inl (3, .ofNat 0)), (102, 19, .inl (4, .ofNat 0))], 10, [kvR 102, kvI 2, kvN 0, none], []), ([(3, 0, 0)], []), (0, []))
def kC76_2 : aC := (([kvB 1 120, kvB 1 6, kvA, kvB 37 47, kvB 1 119, kvB 1 6, kvB 2 120], [(102, 16, .inl (4, .ofNat 0)), (102, 19, .inl (5, .ofNat 0)), (102, 17, .inl (6, .ofNat 0)), (102, 18, .inr (.negSucc 0))], 35, [kvR 102, kvI 2, kvI 3, none], []), ([(4, 0, 0)], []), (721, [(-3, 4)]))
theorem ks76 : aseg kS krf kB [kE75] (ksp [(173, 62, 3, 0, 0, 0)]) kE76 [kC76_0, kC76_1, kC76_2] 30000 (none) = true := asgqw (by decide +kernel)
theorem ks76_0 : aseg kS krf kB [kE75] (ksp [(173, 62, 3, 0, 0, 0)]) kE76 [kC76_0, kC76_1, kC76_2] 30000 (some kC76_0) = true := asgqw (by decide +kernel)
theorem ks76_1 : aseg kS krf kB [kE75] (ksp [(173, 62, 3, 0, 0, 0)]) kE76 [kC76_0, kC76_1, kC76_2] 30000 (some kC76_1) = true := asgqw (by decide +kernel)
theorem ks76_2 : aseg kS krf kB [kE75] (ksp [(173, 62, 3, 0, 0, 0)]) kE76 [kC76_0, kC76_1, kC76_2] 30000 (some kC76_2) = true := asgqw (by decide +kernel)
theorem kok76 : aOK kS krf kB kE76 := aOK_of (kal1 kok75 kal0) (kcl1 ks76_0 (kcl1 ks76_1 (kcl1 ks76_2 kcl0))) ks76
/-- ColdShodModel.sums()I -/
def kE77 : aE := (172, 33, ([kvB 1 120, kvB 1 6], [(102, 16, .inl (0, .ofNat 0)), (102, 19, .inl (1, .ofNat 0))], 0, [kvR 102, none, none, none], []), ([], none), ([kvA, kvB 1 120, kvB 1 6], [(102, 16, .inl (3, .ofNat 0)), (102, 19, .inl (4, .ofNat 0))], kvI 2, ([(3, 0, 0)], [])), kvW10)
def kC77_0 : aC := (([kvB 1 120, kvB 1 6, kvA, kvB 1 120, kvB 1 6], [(102, 16, .inl (3, .ofNat 0)), (102, 19, .inl (4, .ofNat 0))], 5, [kvR 102, kvI 2, none, none], []), ([(3, 0, 0)], []), (14639, [(-121, 3)]))
def kC77_1 : aC := (([kvB 1 120, kvB 1 6, kvA, kvB 1 119, kvB 1 6, kvB 2 120], [(102, 16, .inl (3, .ofNat 0)), (102, 19, .inl (4, .ofNat 0)), (102, 18, .inr (.negSucc 0)), (102, 17, .inl (5, .ofNat 0))], 30, [kvR 102, kvI 2, none, none], []), ([(3, 0, 0)], []), (14640, [(-121, 3), (-1, 5)]))
theorem ks77 : aseg kS krf kB [kE76] (ksp []) kE77 [kC77_0, kC77_1] 30000 (none) = true := asgqw (by decide +kernel)
theorem ks77_0 : aseg kS krf kB [kE76] (ksp []) kE77 [kC77_0, kC77_1] 30000 (some kC77_0) = true := asgqw (by decide +kernel)
theorem ks77_1 : aseg kS krf kB [kE76] (ksp []) kE77 [kC77_0, kC77_1] 30000 (some kC77_1) = true := asgqw (by decide +kernel)
theorem kok77 : aOK kS krf kB kE77 := aOK_of (kal1 kok76 kal0) (kcl1 ks77_0 (kcl1 ks77_1 kcl0)) ks77
/-- ColdShodModel.compared()I -/
def kE78 : aE := (171, 34, ([kvB 1 120, kvB 1 6], [(102, 16, .inl (0, .ofNat 0)), (102, 19, .inl (1, .ofNat 0))], 0, [kvR 102, none, none, none], []), ([], none), ([kvA, kvB 1 120, kvB 1 6], [(102, 16, .inl (3, .ofNat 0)), (102, 19, .inl (4, .ofNat 0))], kvI 2, ([(3, 0, 0)], [])), kvW10)
def kC78_0 : aC := (([kvB 1 120, kvB 1 6, kvA, kvB 60 62, kvB 1 119, kvB 1 6, kvB 2 120], [(102, 16, .inl (4, .ofNat 0)), (102, 19, .inl (5, .ofNat 0)), (102, 17, .inl (6, .ofNat 0)), (102, 18, .inr (.negSucc 0))], 37, [kvR 102, kvI 2, kvI 3, none], []), ([(4, 0, 0)], []), (0, []))
theorem ks78 : aseg kS krf kB [kE77] (ksp []) kE78 [kC78_0] 30000 (none) = true := asgqw (by decide +kernel)
theorem ks78_0 : aseg kS krf kB [kE77] (ksp []) kE78 [kC78_0] 30000 (some kC78_0) = true := asgqw (by decide +kernel)
theorem kok78 : aOK kS krf kB kE78 := aOK_of (kal1 kok77 kal0) (kcl1 ks78_0 kcl0) ks78
/-- ColdShodModel.both()I -/
def kE79 : aE := (170, 35, ([kvB 1 120, kvB 1 6], [(102, 16, .inl (0, .ofNat 0)), (102, 19, .inl (1, .ofNat 0))], 0, [kvR 102, none, none], []), ([], none), ([kvA, kvB 1 120, kvB 1 6], [(102, 16, .inl (3, .ofNat 0)), (102, 19, .inl (4, .ofNat 0))], kvI 2, ([(3, 0, 0)], [])), kvW10)
def kC79_0 : aC := (([kvB 1 120, kvB 1 6, kvA, kvB 1 120, kvB 1 6], [(102, 16, .inl (3, .ofNat 0)), (102, 19, .inl (4, .ofNat 0))], 5, [kvR 102, kvI 2, none], []), ([(3, 0, 0)], []), (120, [(-1, 3)]))
theorem ks79 : aseg kS krf kB [kE78] (ksp []) kE79 [kC79_0] 30000 (none) = true := asgqw (by decide +kernel)
theorem ks79_0 : aseg kS krf kB [kE78] (ksp []) kE79 [kC79_0] 30000 (some kC79_0) = true := asgqw (by decide +kernel)
theorem kok79 : aOK kS krf kB kE79 := aOK_of (kal1 kok78 kal0) (kcl1 ks79_0 kcl0) ks79
/-- ColdShodModel.either()I -/
def kE80 : aE := (169, 36, ([kvB 1 120, kvB 1 6], [(102, 16, .inl (0, .ofNat 0)), (102, 19, .inl (1, .ofNat 0))], 0, [kvR 102, none, none], []), ([], none), ([kvA, kvB 1 120, kvB 1 6], [(102, 16, .inl (3, .ofNat 0)), (102, 19, .inl (4, .ofNat 0))], kvI 2, ([(3, 0, 0)], [])), kvW10)
def kC80_0 : aC := (([kvB 1 120, kvB 1 6, kvA, kvB 1 120, kvB 1 6], [(102, 16, .inl (3, .ofNat 0)), (102, 19, .inl (4, .ofNat 0))], 5, [kvR 102, kvI 2, none], []), ([(3, 0, 0)], []), (120, [(-1, 3)]))
theorem ks80 : aseg kS krf kB [kE79] (ksp []) kE80 [kC80_0] 30000 (none) = true := asgqw (by decide +kernel)
theorem ks80_0 : aseg kS krf kB [kE79] (ksp []) kE80 [kC80_0] 30000 (some kC80_0) = true := asgqw (by decide +kernel)
theorem kok80 : aOK kS krf kB kE80 := aOK_of (kal1 kok79 kal0) (kcl1 ks80_0 kcl0) ks80
/-- ColdShodModel.one()I -/
def kE81 : aE := (175, 37, ([kvB 0 120, kvB 0 6], [(102, 16, .inl (0, .ofNat 0)), (102, 19, .inl (1, .ofNat 0))], 0, [kvR 102, none, none, none, none], []), ([], none), ([kvA, kvB 0 120, kvB 0 6], [(102, 16, .inl (3, .ofNat 0)), (102, 19, .inl (4, .ofNat 0))], kvI 2, ([(3, 0, 0)], [])), kvW10)
def kC81_0 : aC := (([kvB 0 119, kvB 0 6, kvB 33 45, kvB 1 120], [(102, 16, .inl (0, .ofNat 0)), (102, 19, .inl (1, .ofNat 0)), (102, 18, .inr (.negSucc 0)), (102, 17, .inl (3, .ofNat 0))], 32, [kvR 102, kvI 2, none, none, none], []), ([], []), (0, []))
def kC81_1 : aC := (([kvB 0 120, kvB 0 6, kvB 0 255, kvA, kvB 0 4, kvB 0 120], [(102, 16, .inl (5, .ofNat 0)), (102, 19, .inl (1, .ofNat 0)), (102, 18, .inr (.negSucc 0))], 176, [kvR 102, kvI 2, some (.inl (.inl (.inr (.negSucc 0)))), kvI 3, kvI 4], []), ([(5, 0, 0)], []), (12, [(-1, 4)]))
def kC81_2 : aC := (([kvB 0 120, kvB 0 6, kvB 0 255, kvA, kvB 0 4, kvB 0 120], [(102, 16, .inl (5, .ofNat 0)), (102, 19, .inl (1, .ofNat 0)), (102, 18, .inr (.negSucc 0))], 229, [kvR 102, kvI 2, some (.inl (.inl (.inr (.negSucc 0)))), kvI 3, kvI 4], []), ([(5, 0, 0)], []), (0, []))
theorem ks81 : aseg kS krf kB [kE44, kE80, kE75] (ksp []) kE81 [kC81_0, kC81_1, kC81_2] 30000 (none) = true := asgqw (by decide +kernel)
theorem ks81_0 : aseg kS krf kB [kE44, kE80, kE75] (ksp []) kE81 [kC81_0, kC81_1, kC81_2] 30000 (some kC81_0) = true := asgqw (by decide +kernel)
theorem ks81_1 : aseg kS krf kB [kE44, kE80, kE75] (ksp []) kE81 [kC81_0, kC81_1, kC81_2] 30000 (some kC81_1) = true := asgqw (by decide +kernel)
theorem ks81_2 : aseg kS krf kB [kE44, kE80, kE75] (ksp []) kE81 [kC81_0, kC81_1, kC81_2] 30000 (some kC81_2) = true := asgqw (by decide +kernel)
theorem kok81 : aOK kS krf kB kE81 := aOK_of (kal1 kok44 (kal1 kok80 (kal1 kok75 kal0))) (kcl1 ks81_0 (kcl1 ks81_1 (kcl1 ks81_2 kcl0))) ks81
/-- ColdShodModel.product()I -/
def kE82 : aE := (173, 38, ([kvB 0 120, kvB 0 6], [(102, 16, .inl (0, .ofNat 0)), (102, 19, .inl (1, .ofNat 0))], 0, [kvR 102, none, none, none], []), ([], none), ([kvA, kvB 0 120, kvB 0 6], [(102, 16, .inl (3, .ofNat 0)), (102, 19, .inl (4, .ofNat 0))], kvI 2, ([(3, 0, 0)], [])), kvW10)
def kC82_0 : aC := (([kvB 0 120, kvB 0 6, kvA, kvB 0 255, kvB 0 119, kvB 0 6, kvB 1 120], [(102, 16, .inl (4, .ofNat 0)), (102, 19, .inl (5, .ofNat 0)), (102, 17, .inl (6, .ofNat 0))], 10, [kvR 102, kvI 2, kvI 3, none], []), ([(4, 0, 0)], []), (725, [(-3, 4)]))
def kC82_1 : aC := (([kvB 0 120, kvB 0 6, kvA, kvB 0 120, kvB 0 6], [(102, 16, .inl (3, .ofNat 0)), (102, 19, .inl (4, .ofNat 0))], 10, [kvR 102, kvI 2, kvN 0, none], []), ([(3, 0, 0)], []), (0, []))
def kC82_2 : aC := (([kvB 0 120, kvB 0 6, kvA, kvB 37 47, kvB 0 119, kvB 0 6, kvB 1 120], [(102, 16, .inl (4, .ofNat 0)), (102, 19, .inl (5, .ofNat 0)), (102, 17, .inl (6, .ofNat 0)), (102, 18, .inr (.negSucc 0))], 35, [kvR 102, kvI 2, kvI 3, none], []), ([(4, 0, 0)], []), (724, [(-3, 4)]))
theorem ks82 : aseg kS krf kB [kE81] (ksp [(173, 62, 3, 0, 0, 0)]) kE82 [kC82_0, kC82_1, kC82_2] 30000 (none) = true := asgqw (by decide +kernel)
theorem ks82_0 : aseg kS krf kB [kE81] (ksp [(173, 62, 3, 0, 0, 0)]) kE82 [kC82_0, kC82_1, kC82_2] 30000 (some kC82_0) = true := asgqw (by decide +kernel)
theorem ks82_1 : aseg kS krf kB [kE81] (ksp [(173, 62, 3, 0, 0, 0)]) kE82 [kC82_0, kC82_1, kC82_2] 30000 (some kC82_1) = true := asgqw (by decide +kernel)
theorem ks82_2 : aseg kS krf kB [kE81] (ksp [(173, 62, 3, 0, 0, 0)]) kE82 [kC82_0, kC82_1, kC82_2] 30000 (some kC82_2) = true := asgqw (by decide +kernel)
theorem kok82 : aOK kS krf kB kE82 := aOK_of (kal1 kok81 kal0) (kcl1 ks82_0 (kcl1 ks82_1 (kcl1 ks82_2 kcl0))) ks82
/-- ColdShodModel.sums()I -/
def kE83 : aE := (172, 39, ([kvB 0 120, kvB 0 6], [(102, 16, .inl (0, .ofNat 0)), (102, 19, .inl (1, .ofNat 0))], 0, [kvR 102, none, none, none], []), ([], none), ([kvA, kvB 0 120, kvB 0 6], [(102, 16, .inl (3, .ofNat 0)), (102, 19, .inl (4, .ofNat 0))], kvI 2, ([(3, 0, 0)], [])), kvW10)
def kC83_0 : aC := (([kvB 0 120, kvB 0 6, kvA, kvB 0 120, kvB 0 6], [(102, 16, .inl (3, .ofNat 0)), (102, 19, .inl (4, .ofNat 0))], 5, [kvR 102, kvI 2, none, none], []), ([(3, 0, 0)], []), (14760, [(-122, 3)]))
def kC83_1 : aC := (([kvB 0 120, kvB 0 6, kvA, kvB 0 119, kvB 0 6, kvB 1 120], [(102, 16, .inl (3, .ofNat 0)), (102, 19, .inl (4, .ofNat 0)), (102, 18, .inr (.negSucc 0)), (102, 17, .inl (5, .ofNat 0))], 30, [kvR 102, kvI 2, none, none], []), ([(3, 0, 0)], []), (14760, [(-122, 3), (-1, 5)]))
theorem ks83 : aseg kS krf kB [kE82] (ksp []) kE83 [kC83_0, kC83_1] 30000 (none) = true := asgqw (by decide +kernel)
theorem ks83_0 : aseg kS krf kB [kE82] (ksp []) kE83 [kC83_0, kC83_1] 30000 (some kC83_0) = true := asgqw (by decide +kernel)
theorem ks83_1 : aseg kS krf kB [kE82] (ksp []) kE83 [kC83_0, kC83_1] 30000 (some kC83_1) = true := asgqw (by decide +kernel)
theorem kok83 : aOK kS krf kB kE83 := aOK_of (kal1 kok82 kal0) (kcl1 ks83_0 (kcl1 ks83_1 kcl0)) ks83
/-- ColdShodModel.compared()I -/
def kE84 : aE := (171, 40, ([kvB 0 120, kvB 0 6], [(102, 16, .inl (0, .ofNat 0)), (102, 19, .inl (1, .ofNat 0))], 0, [kvR 102, none, none, none], []), ([], none), ([kvA, kvB 0 120, kvB 0 6], [(102, 16, .inl (3, .ofNat 0)), (102, 19, .inl (4, .ofNat 0))], kvI 2, ([(3, 0, 0)], [])), kvW10)
def kC84_0 : aC := (([kvB 0 120, kvB 0 6, kvA, kvB 60 62, kvB 0 119, kvB 0 6, kvB 1 120], [(102, 16, .inl (4, .ofNat 0)), (102, 19, .inl (5, .ofNat 0)), (102, 17, .inl (6, .ofNat 0)), (102, 18, .inr (.negSucc 0))], 37, [kvR 102, kvI 2, kvI 3, none], []), ([(4, 0, 0)], []), (0, []))
theorem ks84 : aseg kS krf kB [kE83] (ksp []) kE84 [kC84_0] 30000 (none) = true := asgqw (by decide +kernel)
theorem ks84_0 : aseg kS krf kB [kE83] (ksp []) kE84 [kC84_0] 30000 (some kC84_0) = true := asgqw (by decide +kernel)
theorem kok84 : aOK kS krf kB kE84 := aOK_of (kal1 kok83 kal0) (kcl1 ks84_0 kcl0) ks84
/-- ColdShodModel.both()I -/
def kE85 : aE := (170, 41, ([kvB 0 120, kvB 0 6], [(102, 16, .inl (0, .ofNat 0)), (102, 19, .inl (1, .ofNat 0))], 0, [kvR 102, none, none], []), ([], none), ([kvA, kvB 0 120, kvB 0 6], [(102, 16, .inl (3, .ofNat 0)), (102, 19, .inl (4, .ofNat 0))], kvI 2, ([(3, 0, 0)], [])), kvW10)
def kC85_0 : aC := (([kvB 0 120, kvB 0 6, kvA, kvB 0 120, kvB 0 6], [(102, 16, .inl (3, .ofNat 0)), (102, 19, .inl (4, .ofNat 0))], 5, [kvR 102, kvI 2, none], []), ([(3, 0, 0)], []), (120, [(-1, 3)]))
theorem ks85 : aseg kS krf kB [kE84] (ksp []) kE85 [kC85_0] 30000 (none) = true := asgqw (by decide +kernel)
theorem ks85_0 : aseg kS krf kB [kE84] (ksp []) kE85 [kC85_0] 30000 (some kC85_0) = true := asgqw (by decide +kernel)
theorem kok85 : aOK kS krf kB kE85 := aOK_of (kal1 kok84 kal0) (kcl1 ks85_0 kcl0) ks85
/-- ColdShodModel.either()I -/
def kE86 : aE := (169, 42, ([kvB 0 120, kvB 0 6], [(102, 16, .inl (0, .ofNat 0)), (102, 19, .inl (1, .ofNat 0))], 0, [kvR 102, none, none], []), ([], none), ([kvA, kvB 0 120, kvB 0 6], [(102, 16, .inl (3, .ofNat 0)), (102, 19, .inl (4, .ofNat 0))], kvI 2, ([(3, 0, 0)], [])), kvW10)
def kC86_0 : aC := (([kvB 0 120, kvB 0 6, kvA, kvB 0 120, kvB 0 6], [(102, 16, .inl (3, .ofNat 0)), (102, 19, .inl (4, .ofNat 0))], 5, [kvR 102, kvI 2, none], []), ([(3, 0, 0)], []), (120, [(-1, 3)]))
theorem ks86 : aseg kS krf kB [kE85] (ksp []) kE86 [kC86_0] 30000 (none) = true := asgqw (by decide +kernel)
theorem ks86_0 : aseg kS krf kB [kE85] (ksp []) kE86 [kC86_0] 30000 (some kC86_0) = true := asgqw (by decide +kernel)
theorem kok86 : aOK kS krf kB kE86 := aOK_of (kal1 kok85 kal0) (kcl1 ks86_0 kcl0) ks86
/-- ColdShodModel.workOut(II)I -/
def kE87 : aE := (176, 43, ([(.negSucc 0, .ofNat 0), kvB 0 120], [], 0, [kvR 102, kvI 0, kvI 1, none, none, none, none, none], []), ([], none), ([kvA], [], kvI 2, ([], [])), kvW11)
def kC87_0 : aC := (([(.negSucc 0, .ofNat 0), kvB 0 120, kvB 0 1, kvA, kvB 0 1, kvB 0 120, kvB 0 6], [(102, 16, .inl (5, .ofNat 0)), (102, 19, .inl (6, .ofNat 0))], 33, [kvR 102, kvI 0, kvI 1, kvI 2, kvI 3, kvI 4, none, none], []), ([], []), (120, [(123, 4), (-1, 5)]))
theorem ks87 : aseg kS krf kB [kE86, kE44] (ksp []) kE87 [kC87_0] 30000 (none) = true := asgqw (by decide +kernel)
theorem ks87_0 : aseg kS krf kB [kE86, kE44] (ksp []) kE87 [kC87_0] 30000 (some kC87_0) = true := asgqw (by decide +kernel)
theorem kok87 : aOK kS krf kB kE87 := aOK_of (kal1 kok86 (kal1 kok44 kal0)) (kcl1 ks87_0 kcl0) ks87
