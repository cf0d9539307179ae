/-! ENTRIES and their checks: printed by a program (wip/ai). -/
/-- ColdShodModel.compared()I -/
def kE65 : aE := (171, 22, ([kvB 3 120, kvB 3 6], [(102, 16, .inl (0, .ofNat 0)), (102, 19, .inl (1, .ofNat 0))], 0, [kvR 102, none, none, none], []), ([], none), ([kvA, kvB 3 120, kvB 3 6], [(102, 16, .inl (3, .ofNat 0)), (102, 19, .inl (4, .ofNat 0))], kvI 2, ([(3, 0, 0)], [])), kvW9)
theorem ks65 : aseg kS krf kB [kE64] (ksp []) kE65 [] 30000 (none) = true := by decide +kernel
theorem kok65 : aOK kS krf kB kE65 := aOK_of (kal1 kok64 kal0) kcl0 ks65
/-- ColdShodModel.both()I -/
def kE66 : aE := (170, 23, ([kvB 3 120, kvB 3 6], [(102, 16, .inl (0, .ofNat 0)), (102, 19, .inl (1, .ofNat 0))], 0, [kvR 102, none, none], []), ([], none), ([kvA, kvB 3 120, kvB 3 6], [(102, 16, .inl (3, .ofNat 0)), (102, 19, .inl (4, .ofNat 0))], kvI 2, ([(3, 0, 0)], [])), kvW9)
def kC66_0 : aC := (([kvB 3 120, kvB 3 6, kvA, kvB 3 120, kvB 3 6], [(102, 16, .inl (3, .ofNat 0)), (102, 19, .inl (4, .ofNat 0))], 5, [kvR 102, kvI 2, none], []), ([(3, 0, 0)], []), (120, [(-1, 3)]))
theorem ks66 : aseg kS krf kB [kE65] (ksp []) kE66 [kC66_0] 30000 (none) = true := by decide +kernel
theorem ks66_0 : aseg kS krf kB [kE65] (ksp []) kE66 [kC66_0] 30000 (some kC66_0) = true := by decide +kernel
theorem kok66 : aOK kS krf kB kE66 := aOK_of (kal1 kok65 kal0) (kcl1 ks66_0 kcl0) ks66
/-- ColdShodModel.either()I -/
def kE67 : aE := (169, 24, ([kvB 3 120, kvB 3 6], [(102, 16, .inl (0, .ofNat 0)), (102, 19, .inl (1, .ofNat 0))], 0, [kvR 102, none, none], []), ([], none), ([kvA, kvB 3 120, kvB 3 6], [(102, 16, .inl (3, .ofNat 0)), (102, 19, .inl (4, .ofNat 0))], kvI 2, ([(3, 0, 0)], [])), kvW9)
def kC67_0 : aC := (([kvB 3 120, kvB 3 6, kvA, kvB 3 120, kvB 3 6], [(102, 16, .inl (3, .ofNat 0)), (102, 19, .inl (4, .ofNat 0))], 5, [kvR 102, kvI 2, none], []), ([(3, 0, 0)], []), (120, [(-1, 3)]))
theorem ks67 : aseg kS krf kB [kE66] (ksp []) kE67 [kC67_0] 30000 (none) = true := by decide +kernel
theorem ks67_0 : aseg kS krf kB [kE66] (ksp []) kE67 [kC67_0] 30000 (some kC67_0) = true := by decide +kernel
theorem kok67 : aOK kS krf kB kE67 := aOK_of (kal1 kok66 kal0) (kcl1 ks67_0 kcl0) ks67
/-- ColdShodModel.one()I -/
def kE68 : aE := (175, 25, ([kvB 2 120, kvB 2 6], [(102, 16, .inl (0, .ofNat 0)), (102, 19, .inl (1, .ofNat 0))], 0, [kvR 102, none, none, none, none], []), ([], none), ([kvA, kvB 2 120, kvB 2 6], [(102, 16, .inl (3, .ofNat 0)), (102, 19, .inl (4, .ofNat 0))], kvI 2, ([(3, 0, 0)], [])), kvW9)
def kC68_0 : aC := (([kvB 2 120, kvB 2 6, kvB 0 255, kvA, kvB 0 4, kvB 2 120], [(102, 16, .inl (5, .ofNat 0)), (102, 19, .inl (1, .ofNat 0)), (102, 18, .inr (.negSucc 0))], 176, [kvR 102, kvI 2, some (.inl (.inl (.inr (.negSucc 0)))), kvI 3, kvI 4], []), ([(5, 0, 0)], []), (4, [(-1, 4)]))
theorem ks68 : aseg kS krf kB [kE67, kE62] (ksp []) kE68 [kC68_0] 30000 (none) = true := by decide +kernel
theorem ks68_0 : aseg kS krf kB [kE67, kE62] (ksp []) kE68 [kC68_0] 30000 (some kC68_0) = true := by decide +kernel
theorem kok68 : aOK kS krf kB kE68 := aOK_of (kal1 kok67 (kal1 kok62 kal0)) (kcl1 ks68_0 kcl0) ks68
/-- ColdShodModel.product()I -/
def kE69 : aE := (173, 26, ([kvB 2 120, kvB 2 6], [(102, 16, .inl (0, .ofNat 0)), (102, 19, .inl (1, .ofNat 0))], 0, [kvR 102, none, none, none], []), ([], none), ([kvA, kvB 2 120, kvB 2 6], [(102, 16, .inl (3, .ofNat 0)), (102, 19, .inl (4, .ofNat 0))], kvI 2, ([(3, 0, 0)], [])), kvW9)
def kC69_0 : aC := (([kvB 2 120, kvB 2 6, kvA, kvB 0 255, kvB 2 119, kvB 2 6, kvB 3 120], [(102, 16, .inl (4, .ofNat 0)), (102, 19, .inl (5, .ofNat 0)), (102, 17, .inl (6, .ofNat 0))], 10, [kvR 102, kvI 2, kvI 3, none], []), ([(4, 0, 0)], []), (240, [(-1, 4)]))
def kC69_1 : aC := (([kvB 2 120, kvB 2 6, kvA, kvB 2 120, kvB 2 6], [(102, 16, .inl (3, .ofNat 0)), (102, 19, .inl (4, .ofNat 0))], 10, [kvR 102, kvI 2, kvN 0, none], []), ([(3, 0, 0)], []), (0, []))
theorem ks69 : aseg kS krf kB [kE68] (ksp [(173, 62, 3, 0, 0, 0)]) kE69 [kC69_0, kC69_1] 30000 (none) = true := by decide +kernel
theorem ks69_0 : aseg kS krf kB [kE68] (ksp [(173, 62, 3, 0, 0, 0)]) kE69 [kC69_0, kC69_1] 30000 (some kC69_0) = true := by decide +kernel
theorem ks69_1 : aseg kS krf kB [kE68] (ksp [(173, 62, 3, 0, 0, 0)]) kE69 [kC69_0, kC69_1] 30000 (some kC69_1) = true := by decide +kernel
theorem kok69 : aOK kS krf kB kE69 := aOK_of (kal1 kok68 kal0) (kcl1 ks69_0 (kcl1 ks69_1 kcl0)) ks69
/-- ColdShodModel.sums()I -/
def kE70 : aE := (172, 27, ([kvB 2 120, kvB 2 6], [(102, 16, .inl (0, .ofNat 0)), (102, 19, .inl (1, .ofNat 0))], 0, [kvR 102, none, none, none], []), ([], none), ([kvA, kvB 2 120, kvB 2 6], [(102, 16, .inl (3, .ofNat 0)), (102, 19, .inl (4, .ofNat 0))], kvI 2, ([(3, 0, 0)], [])), kvW9)
def kC70_0 : aC := (([kvB 2 120, kvB 2 6, kvA, kvB 2 120, kvB 2 6], [(102, 16, .inl (3, .ofNat 0)), (102, 19, .inl (4, .ofNat 0))], 5, [kvR 102, kvI 2, none, none], []), ([(3, 0, 0)], []), (120, [(-1, 3)]))
theorem ks70 : aseg kS krf kB [kE69] (ksp []) kE70 [kC70_0] 30000 (none) = true := by decide +kernel
theorem ks70_0 : aseg kS krf kB [kE69] (ksp []) kE70 [kC70_0] 30000 (some kC70_0) = true := by decide +kernel
theorem kok70 : aOK kS krf kB kE70 := aOK_of (kal1 kok69 kal0) (kcl1 ks70_0 kcl0) ks70
/-- ColdShodModel.compared()I -/
def kE71 : aE := (171, 28, ([kvB 2 120, kvB 2 6], [(102, 16, .inl (0, .ofNat 0)), (102, 19, .inl (1, .ofNat 0))], 0, [kvR 102, none, none, none], []), ([], none), ([kvA, kvB 2 120, kvB 2 6], [(102, 16, .inl (3, .ofNat 0)), (102, 19, .inl (4, .ofNat 0))], kvI 2, ([(3, 0, 0)], [])), kvW9)
theorem ks71 : aseg kS krf kB [kE70] (ksp []) kE71 [] 30000 (none) = true := by decide +kernel
theorem kok71 : aOK kS krf kB kE71 := aOK_of (kal1 kok70 kal0) kcl0 ks71
/-- ColdShodModel.both()I -/
def kE72 : aE := (170, 29, ([kvB 2 120, kvB 2 6], [(102, 16, .inl (0, .ofNat 0)), (102, 19, .inl (1, .ofNat 0))], 0, [kvR 102, none, none], []), ([], none), ([kvA, kvB 2 120, kvB 2 6], [(102, 16, .inl (3, .ofNat 0)), (102, 19, .inl (4, .ofNat 0))], kvI 2, ([(3, 0, 0)], [])), kvW9)
def kC72_0 : aC := (([kvB 2 120, kvB 2 6, kvA, kvB 2 120, kvB 2 6], [(102, 16, .inl (3, .ofNat 0)), (102, 19, .inl (4, .ofNat 0))], 5, [kvR 102, kvI 2, none], []), ([(3, 0, 0)], []), (120, [(-1, 3)]))
theorem ks72 : aseg kS krf kB [kE71] (ksp []) kE72 [kC72_0] 30000 (none) = true := by decide +kernel
theorem ks72_0 : aseg kS krf kB [kE71] (ksp []) kE72 [kC72_0] 30000 (some kC72_0) = true := by decide +kernel
theorem kok72 : aOK kS krf kB kE72 := aOK_of (kal1 kok71 kal0) (kcl1 ks72_0 kcl0) ks72
/-- ColdShodModel.either()I -/
def kE73 : aE := (169, 30, ([kvB 2 120, kvB 2 6], [(102, 16, .inl (0, .ofNat 0)), (102, 19, .inl (1, .ofNat 0))], 0, [kvR 102, none, none], []), ([], none), ([kvA, kvB 2 120, kvB 2 6], [(102, 16, .inl (3, .ofNat 0)), (102, 19, .inl (4, .ofNat 0))], kvI 2, ([(3, 0, 0)], [])), kvW9)
def kC73_0 : aC := (([kvB 2 120, kvB 2 6, kvA, kvB 2 120, kvB 2 6], [(102, 16, .inl (3, .ofNat 0)), (102, 19, .inl (4, .ofNat 0))], 5, [kvR 102, kvI 2, none], []), ([(3, 0, 0)], []), (120, [(-1, 3)]))
theorem ks73 : aseg kS krf kB [kE72] (ksp []) kE73 [kC73_0] 30000 (none) = true := by decide +kernel
theorem ks73_0 : aseg kS krf kB [kE72] (ksp []) kE73 [kC73_0] 30000 (some kC73_0) = true := by decide +kernel
theorem kok73 : aOK kS krf kB kE73 := aOK_of (kal1 kok72 kal0) (kcl1 ks73_0 kcl0) ks73
/-- ColdShodModel.one()I -/
def kE74 : aE := (175, 31, ([kvB 1 120, kvB 1 6], [(102, 16, .inl (0, .ofNat 0)), (102, 19, .inl (1, .ofNat 0))], 0, [kvR 102, none, none, none, none], []), ([], none), ([kvA, kvB 1 120, kvB 1 6], [(102, 16, .inl (3, .ofNat 0)), (102, 19, .inl (4, .ofNat 0))], kvI 2, ([(3, 0, 0)], [])), kvW9)
def kC74_0 : aC := (([kvB 1 120, kvB 1 6, kvB 0 255, kvA, kvB 0 4, kvB 1 120], [(102, 16, .inl (5, .ofNat 0)), (102, 19, .inl (1, .ofNat 0)), (102, 18, .inr (.negSucc 0))], 176, [kvR 102, kvI 2, some (.inl (.inl (.inr (.negSucc 0)))), kvI 3, kvI 4], []), ([(5, 0, 0)], []), (4, [(-1, 4)]))
theorem ks74 : aseg kS krf kB [kE73, kE68] (ksp []) kE74 [kC74_0] 30000 (none) = true := by decide +kernel
theorem ks74_0 : aseg kS krf kB [kE73, kE68] (ksp []) kE74 [kC74_0] 30000 (some kC74_0) = true := by decide +kernel
theorem kok74 : aOK kS krf kB kE74 := aOK_of (kal1 kok73 (kal1 kok68 kal0)) (kcl1 ks74_0 kcl0) ks74
/-- ColdShodModel.product()I -/
def kE75 : aE := (173, 32, ([kvB 1 120, kvB 1 6], [(102, 16, .inl (0, .ofNat 0)), (102, 19, .inl (1, .ofNat 0))], 0, [kvR 102, none, none, none], []), ([], none), ([kvA, kvB 1 120, kvB 1 6], [(102, 16, .inl (3, .ofNat 0)), (102, 19, .inl (4, .ofNat 0))], kvI 2, ([(3, 0, 0)], [])), kvW9)
def kC75_0 : aC := (([kvB 1 120, kvB 1 6, kvA, kvB 0 255, kvB 1 119, kvB 1 6, kvB 2 120], [(102, 16, .inl (4, .ofNat 0)), (102, 19, .inl (5, .ofNat 0)), (102, 17, .inl (6, .ofNat 0))], 10, [kvR 102, kvI 2, kvI 3, none], []), ([(4, 0, 0)], []), (241, [(-1, 4)]))
def kC75_1 : aC := (([kvB 1 120, kvB 1 6, kvA, kvB 1 120, kvB 1 6], [(102, 16, .inl (3, .ofNat 0)), (102, 19, .inl (4, .ofNat 0))], 10, [kvR 102, kvI 2, kvN 0, none], []), ([(3, 0, 0)], []), (0, []))
theorem ks75 : aseg kS krf kB [kE74] (ksp [(173, 62, 3, 0, 0, 0)]) kE75 [kC75_0, kC75_1] 30000 (none) = true := by decide +kernel
theorem ks75_0 : aseg kS krf kB [kE74] (ksp [(173, 62, 3, 0, 0, 0)]) kE75 [kC75_0, kC75_1] 30000 (some kC75_0) = true := by decide +kernel
theorem ks75_1 : aseg kS krf kB [kE74] (ksp [(173, 62, 3, 0, 0, 0)]) kE75 [kC75_0, kC75_1] 30000 (some kC75_1) = true := by decide +kernel
theorem kok75 : aOK kS krf kB kE75 := aOK_of (kal1 kok74 kal0) (kcl1 ks75_0 (kcl1 ks75_1 kcl0)) ks75
/-- ColdShodModel.sums()I -/
def kE76 : aE := (172, 33, ([kvB 1 120, kvB 1 6], [(102, 16, .inl (0, .ofNat 0)), (102, 19, .inl (1, .ofNat 0))], 0, [kvR 102, none, none, none], []), ([], none), ([kvA, kvB 1 120, kvB 1 6], [(102, 16, .inl (3, .ofNat 0)), (102, 19, .inl (4, .ofNat 0))], kvI 2, ([(3, 0, 0)], [])), kvW9)
def kC76_0 : aC := (([kvB 1 120, kvB 1 6, kvA, kvB 1 120, kvB 1 6], [(102, 16, .inl (3, .ofNat 0)), (102, 19, .inl (4, .ofNat 0))], 5, [kvR 102, kvI 2, none, none], []), ([(3, 0, 0)], []), (120, [(-1, 3)]))
theorem ks76 : aseg kS krf kB [kE75] (ksp []) kE76 [kC76_0] 30000 (none) = true := by decide +kernel
theorem ks76_0 : aseg kS krf kB [kE75] (ksp []) kE76 [kC76_0] 30000 (some kC76_0) = true := by decide +kernel
theorem kok76 : aOK kS krf kB kE76 := aOK_of (kal1 kok75 kal0) (kcl1 ks76_0 kcl0) ks76
/-- ColdShodModel.compared()I -/
def kE77 : aE := (171, 34, ([kvB 1 120, kvB 1 6], [(102, 16, .inl (0, .ofNat 0)), (102, 19, .inl (1, .ofNat 0))], 0, [kvR 102, none, none, none], []), ([], none), ([kvA, kvB 1 120, kvB 1 6], [(102, 16, .inl (3, .ofNat 0)), (102, 19, .inl (4, .ofNat 0))], kvI 2, ([(3, 0, 0)], [])), kvW9)
theorem ks77 : aseg kS krf kB [kE76] (ksp []) kE77 [] 30000 (none) = true := by decide +kernel
theorem kok77 : aOK kS krf kB kE77 := aOK_of (kal1 kok76 kal0) kcl0 ks77
/-- ColdShodModel.both()I -/
def kE78 : aE := (170, 35, ([kvB 1 120, kvB 1 6], [(102, 16, .inl (0, .ofNat 0)), (102, 19, .inl (1, .ofNat 0))], 0, [kvR 102, none, none], []), ([], none), ([kvA, kvB 1 120, kvB 1 6], [(102, 16, .inl (3, .ofNat 0)), (102, 19, .inl (4, .ofNat 0))], kvI 2, ([(3, 0, 0)], [])), kvW9)
def kC78_0 : aC := (([kvB 1 120, kvB 1 6, kvA, kvB 1 120, kvB 1 6], [(102, 16, .inl (3, .ofNat 0)), (102, 19, .inl (4, .ofNat 0))], 5, [kvR 102, kvI 2, none], []), ([(3, 0, 0)], []), (120, [(-1, 3)]))
theorem ks78 : aseg kS krf kB [kE77] (ksp []) kE78 [kC78_0] 30000 (none) = true := by decide +kernel
theorem ks78_0 : aseg kS krf kB [kE77] (ksp []) kE78 [kC78_0] 30000 (some kC78_0) = true := by decide +kernel
theorem kok78 : aOK kS krf kB kE78 := aOK_of (kal1 kok77 kal0) (kcl1 ks78_0 kcl0) ks78
/-- ColdShodModel.either()I -/
def kE79 : aE := (169, 36, ([kvB 1 120, kvB 1 6], [(102, 16, .inl (0, .ofNat 0)), (102, 19, .inl (1, .ofNat 0))], 0, [kvR 102, none, none], []), ([], none), ([kvA, kvB 1 120, kvB 1 6], [(102, 16, .inl (3, .ofNat 0)), (102, 19, .inl (4, .ofNat 0))], kvI 2, ([(3, 0, 0)], [])), kvW9)
def kC79_0 : aC := (([kvB 1 120, kvB 1 6, kvA, kvB 1 120, kvB 1 6], [(102, 16, .inl (3, .ofNat 0)), (102, 19, .inl (4, .ofNat 0))], 5, [kvR 102, kvI 2, none], []), ([(3, 0, 0)], []), (120, [(-1, 3)]))
theorem ks79 : aseg kS krf kB [kE78] (ksp []) kE79 [kC79_0] 30000 (none) = true := by decide +kernel
theorem ks79_0 : aseg kS krf kB [kE78] (ksp []) kE79 [kC79_0] 30000 (some kC79_0) = true := by decide +kernel
theorem kok79 : aOK kS krf kB kE79 := aOK_of (kal1 kok78 kal0) (kcl1 ks79_0 kcl0) ks79
/-- ColdShodModel.one()I -/
def kE80 : aE := (175, 37, ([kvB 0 120, kvB 0 6], [(102, 16, .inl (0, .ofNat 0)), (102, 19, .inl (1, .ofNat 0))], 0, [kvR 102, none, none, none, none], []), ([], none), ([kvA, kvB 0 120, kvB 0 6], [(102, 16, .inl (3, .ofNat 0)), (102, 19, .inl (4, .ofNat 0))], kvI 2, ([(3, 0, 0)], [])), kvW9)
def kC80_0 : aC := (([kvB 0 120, kvB 0 6, kvB 0 255, kvA, kvB 0 4, kvB 0 120], [(102, 16, .inl (5, .ofNat 0)), (102, 19, .inl (1, .ofNat 0)), (102, 18, .inr (.negSucc 0))], 176, [kvR 102, kvI 2, some (.inl (.inl (.inr (.negSucc 0)))), kvI 3, kvI 4], []), ([(5, 0, 0)], []), (4, [(-1, 4)]))
theorem ks80 : aseg kS krf kB [kE79, kE74] (ksp []) kE80 [kC80_0] 30000 (none) = true := by decide +kernel
theorem ks80_0 : aseg kS krf kB [kE79, kE74] (ksp []) kE80 [kC80_0] 30000 (some kC80_0) = true := by decide +kernel
theorem kok80 : aOK kS krf kB kE80 := aOK_of (kal1 kok79 (kal1 kok74 kal0)) (kcl1 ks80_0 kcl0) ks80
/-- ColdShodModel.product()I -/
def kE81 : aE := (173, 38, ([kvB 0 120, kvB 0 6], [(102, 16, .inl (0, .ofNat 0)), (102, 19, .inl (1, .ofNat 0))], 0, [kvR 102, none, none, none], []), ([], none), ([kvA, kvB 0 120, kvB 0 6], [(102, 16, .inl (3, .ofNat 0)), (102, 19, .inl (4, .ofNat 0))], kvI 2, ([(3, 0, 0)], [])), kvW9)
def kC81_0 : aC := (([kvB 0 120, kvB 0 6, kvA, kvB 0 255, kvB 0 119, kvB 0 6, kvB 1 120], [(102, 16, .inl (4, .ofNat 0)), (102, 19, .inl (5, .ofNat 0)), (102, 17, .inl (6, .ofNat 0))], 10, [kvR 102, kvI 2, kvI 3, none], []), ([(4, 0, 0)], []), (242, [(-1, 4)]))
def kC81_1 : aC := (([kvB 0 120, kvB 0 6, kvA, kvB 0 120, kvB 0 6], [(102, 16, .inl (3, .ofNat 0)), (102, 19, .inl (4, .ofNat 0))], 10, [kvR 102, kvI 2, kvN 0, none], []), ([(3, 0, 0)], []), (0, []))
theorem ks81 : aseg kS krf kB [kE80] (ksp [(173, 62, 3, 0, 0, 0)]) kE81 [kC81_0, kC81_1] 30000 (none) = true := by decide +kernel
theorem ks81_0 : aseg kS krf kB [kE80] (ksp [(173, 62, 3, 0, 0, 0)]) kE81 [kC81_0, kC81_1] 30000 (some kC81_0) = true := by decide +kernel
theorem ks81_1 : aseg kS krf kB [kE80] (ksp [(173, 62, 3, 0, 0, 0)]) kE81 [kC81_0, kC81_1] 30000 (some kC81_1) = true := by decide +kernel
theorem kok81 : aOK kS krf kB kE81 := aOK_of (kal1 kok80 kal0) (kcl1 ks81_0 (kcl1 ks81_1 kcl0)) ks81
/-- ColdShodModel.sums()I -/
def kE82 : aE := (172, 39, ([kvB 0 120, kvB 0 6], [(102, 16, .inl (0, .ofNat 0)), (102, 19, .inl (1, .ofNat 0))], 0, [kvR 102, none, none, none], []), ([], none), ([kvA, kvB 0 120, kvB 0 6], [(102, 16, .inl (3, .ofNat 0)), (102, 19, .inl (4, .ofNat 0))], kvI 2, ([(3, 0, 0)], [])), kvW9)
def kC82_0 : aC := (([kvB 0 120, kvB 0 6, kvA, kvB 0 120, kvB 0 6], [(102, 16, .inl (3, .ofNat 0)), (102, 19, .inl (4, .ofNat 0))], 5, [kvR 102, kvI 2, none, none], []), ([(3, 0, 0)], []), (120, [(-1, 3)]))
theorem ks82 : aseg kS krf kB [kE81] (ksp []) kE82 [kC82_0] 30000 (none) = true := by decide +kernel
theorem ks82_0 : aseg kS krf kB [kE81] (ksp []) kE82 [kC82_0] 30000 (some kC82_0) = true := by decide +kernel
theorem kok82 : aOK kS krf kB kE82 := aOK_of (kal1 kok81 kal0) (kcl1 ks82_0 kcl0) ks82
/-- ColdShodModel.compared()I -/
def kE83 : aE := (171, 40, ([kvB 0 120, kvB 0 6], [(102, 16, .inl (0, .ofNat 0)), (102, 19, .inl (1, .ofNat 0))], 0, [kvR 102, none, none, none], []), ([], none), ([kvA, kvB 0 120, kvB 0 6], [(102, 16, .inl (3, .ofNat 0)), (102, 19, .inl (4, .ofNat 0))], kvI 2, ([(3, 0, 0)], [])), kvW9)
theorem ks83 : aseg kS krf kB [kE82] (ksp []) kE83 [] 30000 (none) = true := by decide +kernel
theorem kok83 : aOK kS krf kB kE83 := aOK_of (kal1 kok82 kal0) kcl0 ks83
/-- ColdShodModel.both()I -/
def kE84 : aE := (170, 41, ([kvB 0 120, kvB 0 6], [(102, 16, .inl (0, .ofNat 0)), (102, 19, .inl (1, .ofNat 0))], 0, [kvR 102, none, none], []), ([], none), ([kvA, kvB 0 120, kvB 0 6], [(102, 16, .inl (3, .ofNat 0)), (102, 19, .inl (4, .ofNat 0))], kvI 2, ([(3, 0, 0)], [])), kvW9)
def kC84_0 : aC := (([kvB 0 120, kvB 0 6, kvA, kvB 0 120, kvB 0 6], [(102, 16, .inl (3, .ofNat 0)), (102, 19, .inl (4, .ofNat 0))], 5, [kvR 102, kvI 2, none], []), ([(3, 0, 0)], []), (120, [(-1, 3)]))
theorem ks84 : aseg kS krf kB [kE83] (ksp []) kE84 [kC84_0] 30000 (none) = true := by decide +kernel
theorem ks84_0 : aseg kS krf kB [kE83] (ksp []) kE84 [kC84_0] 30000 (some kC84_0) = true := by decide +kernel
theorem kok84 : aOK kS krf kB kE84 := aOK_of (kal1 kok83 kal0) (kcl1 ks84_0 kcl0) ks84
/-- ColdShodModel.either()I -/
def kE85 : aE := (169, 42, ([kvB 0 120, kvB 0 6], [(102, 16, .inl (0, .ofNat 0)), (102, 19, .inl (1, .ofNat 0))], 0, [kvR 102, none, none], []), ([], none), ([kvA, kvB 0 120, kvB 0 6], [(102, 16, .inl (3, .ofNat 0)), (102, 19, .inl (4, .ofNat 0))], kvI 2, ([(3, 0, 0)], [])), kvW9)
def kC85_0 : aC := (([kvB 0 120, kvB 0 6, kvA, kvB 0 120, kvB 0 6], [(102, 16, .inl (3, .ofNat 0)), (102, 19, .inl (4, .ofNat 0))], 5, [kvR 102, kvI 2, none], []), ([(3, 0, 0)], []), (120, [(-1, 3)]))
theorem ks85 : aseg kS krf kB [kE84] (ksp []) kE85 [kC85_0] 30000 (none) = true := by decide +kernel
theorem ks85_0 : aseg kS krf kB [kE84] (ksp []) kE85 [kC85_0] 30000 (some kC85_0) = true := by decide +kernel
theorem kok85 : aOK kS krf kB kE85 := aOK_of (kal1 kok84 kal0) (kcl1 ks85_0 kcl0) ks85
/-- ColdShodModel.workOut(II)I -/
def kE86 : aE := (176, 43, ([(.negSucc 0, .ofNat 0), kvB 0 120], [], 0, [kvR 102, kvI 0, kvI 1, none, none, none, none, none], []), ([], none), ([kvA], [], kvI 2, ([], [])), kvW10)
def kC86_0 : aC := (([(.negSucc 0, .ofNat 0), kvB 0 120, kvB 0 1, kvA, kvB 0 1, kvB 0 120, kvB 0 6], [(102, 16, .inl (5, .ofNat 0)), (102, 19, .inl (6, .ofNat 0))], 33, [kvR 102, kvI 0, kvI 1, kvI 2, kvI 3, kvI 4, none, none], []), ([], []), (120, [(123, 4), (-1, 5)]))
theorem ks86 : aseg kS krf kB [kE85] (ksp []) kE86 [kC86_0] 30000 (none) = true := by decide +kernel
theorem ks86_0 : aseg kS krf kB [kE85] (ksp []) kE86 [kC86_0] 30000 (some kC86_0) = true := by decide +kernel
theorem kok86 : aOK kS krf kB kE86 := aOK_of (kal1 kok85 kal0) (kcl1 ks86_0 kcl0) ks86
/-- ColdShodModel.goesRoad(I)V -/
def kE87 : aE := (183, 45, ([kvB 0 11], [], 0, [kvR 102, kvI 0, none], []), ([], none), ([], [], none, ([], [])), kvW11)
def kC87_0 : aC := (([kvB 0 11, kvB 0 99], [(102, 22, .inl (1, .ofNat 0)), (102, 23, .inr (.ofNat 0))], 18, [kvR 102, kvI 0, none], []), ([], []), (99, [(-1, 1)]))
theorem ks87 : aseg kS krf kB [kE86] (ksp []) kE87 [kC87_0] 30000 (none) = true := by decide +kernel
theorem ks87_0 : aseg kS krf kB [kE86] (ksp []) kE87 [kC87_0] 30000 (some kC87_0) = true := by decide +kernel
theorem kok87 : aOK kS krf kB kE87 := aOK_of (kal1 kok86 kal0) (kcl1 ks87_0 kcl0) ks87
/-- ColdShodModel.keepsOwn(I)V -/
def kE88 : aE := (210, 0, ([kvB 0 7], [], 0, [kvR 102, kvI 0, none], []), ([], none), ([], [], none, ([], [])), kvW12)
def kC88_0 : aC := (([kvB 0 7, kvB 0 6], [], 2, [kvR 102, kvI 0, kvI 1], []), ([], []), (6, [(-1, 1)]))
theorem ks88 : aseg kS krf kB [] (ksp []) kE88 [kC88_0] 30000 (none) = true := by decide +kernel
theorem ks88_0 : aseg kS krf kB [] (ksp []) kE88 [kC88_0] 30000 (some kC88_0) = true := by decide +kernel
theorem kok88 : aOK kS krf kB kE88 := aOK_of kal0 (kcl1 ks88_0 kcl0) ks88
/-- ColdShodModel.goes(II)I -/
def kE89 : aE := (212, 46, ([(.negSucc 2147483647, .ofNat 2147483647), (.negSucc 2147483647, .ofNat 2147483647)], [], 0, [some (.inr [102]), some (.inl (.inl (.inl (0, .ofNat 0)))), some (.inl (.inl (.inl (1, .ofNat 0))))], []), ([], none), ([(.negSucc 4, .ofNat 99)], [], some (.inl (.inl (.inl (2, .ofNat 0)))), ([], [])), ([(102, 15), (102, 16), (102, 17), (102, 18), (102, 19), (102, 22), (102, 23), (111, 0), (111, 1), (111, 2), (111, 3), (111, 4), (111, 5), (119, 2), (119, 3), (119, 4)], [103, 112]))
theorem ks89 : aseg kS krf kB [kE43, kE87, kE88] (ksp []) kE89 [] 30000 (none) = true := by decide +kernel
theorem kok89 : aOK kS krf kB kE89 := aOK_of (kal1 kok43 (kal1 kok87 (kal1 kok88 kal0))) kcl0 ks89
/-- ColdShod$Idea.strike(I)Z -/
def kE90 : aE := (43, 2, ([kvB 0 3], [], 0, [some (.inr [20, 21, 22, 23, 24, 25, 26, 27]), kvI 0], []), ([], none), ([kvB 0 1], [], kvI 1, ([], [])), kvW13)
theorem ks90 : aseg kS krf kB [] (ksp []) kE90 [] 30000 (none) = true := by decide +kernel
theorem kok90 : aOK kS krf kB kE90 := aOK_of kal0 kcl0 ks90
/-- ColdShod.stroke(II)I -/
def kE91 : aE := (117, 3, ([(.negSucc 2147483647, .ofNat 2147483647), (.negSucc 2147483647, .ofNat 2147483647)], [], 0, [some (.inr [6]), some (.inl (.inl (.inl (0, .ofNat 0)))), some (.inl (.inl (.inl (1, .ofNat 0)))), none], []), ([], none), ([(.negSucc 0, .ofNat 1)], [], some (.inl (.inl (.inl (2, .ofNat 0)))), ([], [])), ([(20, 1), (20, 2), (20, 3), (20, 5), (21, 1), (21, 2), (21, 3), (21, 5), (22, 1), (22, 2), (22, 3), (22, 5), (23, 1), (23, 2), (23, 3), (23, 5), (24, 1), (24, 2), (24, 3), (24, 5), (25, 1), (25, 2), (25, 3), (25, 5), (26, 1), (26, 2), (26, 3), (26, 5), (27, 1), (27, 2), (27, 3), (27, 5), (73, 0), (73, 1)], []))
theorem ks91 : aseg kS krf kB [kE90] (ksp []) kE91 [] 30000 (none) = true := by decide +kernel
theorem kok91 : aOK kS krf kB kE91 := aOK_of (kal1 kok90 kal0) kcl0 ks91
/-- ColdShodModel.strikes(I)Z -/
def kE92 : aE := (184, 2, ([kvB 0 6], [], 0, [kvR 102, kvI 0], []), ([], none), ([kvB 0 1], [], kvI 1, ([], [])), kvW14)
theorem ks92 : aseg kS krf kB [] (ksp []) kE92 [] 30000 (none) = true := by decide +kernel
theorem kok92 : aOK kS krf kB kE92 := aOK_of kal0 kcl0 ks92
