/-! ENTRIES and their checks: printed by a program (wip/ai). -/
/-- ColdShodModel.wearsNow(I)I -/
def kE88 : aE := (180, 44, ([kvB 0 11], [], 0, [kvR 102, kvI 0, none, none], []), ([], none), ([kvB 0 9], [], kvI 1, ([], [])), kvW12)
theorem ks88 : aseg kS krf kB [kE87] (ksp []) kE88 [] 30000 (none) = true := asgqw (by decide +kernel)
theorem kok88 : aOK kS krf kB kE88 := aOK_of (kal1 kok87 kal0) kcl0 ks88
/-- ColdShodModel.goesRoad(I)V -/
def kE89 : aE := (183, 45, ([kvB 0 11], [], 0, [kvR 102, kvI 0, none], []), ([], none), ([], [], none, ([], [])), kvW13)
def kC89_0 : aC := (([kvB 0 11, kvB 0 99], [(102, 22, .inl (1, .ofNat 0)), (102, 23, .inr (.ofNat 0))], 18, [kvR 102, kvI 0, none], []), ([], []), (99, [(-1, 1)]))
theorem ks89 : aseg kS krf kB [kE88] (ksp []) kE89 [kC89_0] 30000 (none) = true := asgqw (by decide +kernel)
theorem ks89_0 : aseg kS krf kB [kE88] (ksp []) kE89 [kC89_0] 30000 (some kC89_0) = true := asgqw (by decide +kernel)
theorem kok89 : aOK kS krf kB kE89 := aOK_of (kal1 kok88 kal0) (kcl1 ks89_0 kcl0) ks89
/-- ColdShodModel.keepsOwn(I)V -/
def kE90 : aE := (210, 0, ([kvB 0 7], [], 0, [kvR 102, kvI 0, none], []), ([], none), ([], [], none, ([], [])), kvW14)
def kC90_0 : aC := (([kvB 0 7, kvB 0 6], [], 2, [kvR 102, kvI 0, kvI 1], []), ([], []), (6, [(-1, 1)]))
theorem ks90 : aseg kS krf kB [] (ksp []) kE90 [kC90_0] 30000 (none) = true := asgqw (by decide +kernel)
theorem ks90_0 : aseg kS krf kB [] (ksp []) kE90 [kC90_0] 30000 (some kC90_0) = true := asgqw (by decide +kernel)
theorem kok90 : aOK kS krf kB kE90 := aOK_of kal0 (kcl1 ks90_0 kcl0) ks90
/-- ColdShodModel.goes(II)I -/
def kE91 : aE := (212, 46, ([(.negSucc 2147483647, .ofNat 2147483647), (.negSucc 2147483647, .ofNat 2147483647)], [], 0, [some (.inr [102]), some (.inl (.inl (.inl (0, .ofNat 0)))), some (.inl (.inl (.inl (1, .ofNat 0))))], []), ([], none), ([(.negSucc 4, .ofNat 99)], [], some (.inl (.inl (.inl (2, .ofNat 0)))), ([], [])), ([(102, 15), (102, 16), (102, 17), (102, 18), (102, 19), (102, 22), (102, 23), (111, 0), (111, 1), (111, 2), (111, 3), (111, 4), (111, 5), (119, 2), (119, 3), (119, 4)], [103, 112]))
theorem ks91 : aseg kS krf kB [kE43, kE89, kE90] (ksp []) kE91 [] 30000 (none) = true := asgqw (by decide +kernel)
theorem kok91 : aOK kS krf kB kE91 := aOK_of (kal1 kok43 (kal1 kok89 (kal1 kok90 kal0))) kcl0 ks91
/-- ColdShod$Idea.strike(I)Z -/
def kE92 : aE := (43, 2, ([kvB 0 3], [], 0, [some (.inr [20, 21, 22, 23, 24, 25, 26, 27]), kvI 0], []), ([], none), ([kvB 0 1], [], kvI 1, ([], [])), kvW15)
theorem ks92 : aseg kS krf kB [] (ksp []) kE92 [] 30000 (none) = true := asgqw (by decide +kernel)
theorem kok92 : aOK kS krf kB kE92 := aOK_of kal0 kcl0 ks92
/-- ColdShod.stroke(II)I -/
def kE93 : aE := (117, 3, ([(.negSucc 2147483647, .ofNat 2147483647), (.negSucc 2147483647, .ofNat 2147483647)], [], 0, [some (.inr [6]), some (.inl (.inl (.inl (0, .ofNat 0)))), some (.inl (.inl (.inl (1, .ofNat 0)))), none], []), ([], none), ([(.negSucc 0, .ofNat 1)], [], some (.inl (.inl (.inl (2, .ofNat 0)))), ([], [])), ([(20, 1), (20, 2), (20, 3), (20, 5), (21, 1), (21, 2), (21, 3), (21, 5), (22, 1), (22, 2), (22, 3), (22, 5), (23, 1), (23, 2), (23, 3), (23, 5), (24, 1), (24, 2), (24, 3), (24, 5), (25, 1), (25, 2), (25, 3), (25, 5), (26, 1), (26, 2), (26, 3), (26, 5), (27, 1), (27, 2), (27, 3), (27, 5), (73, 0), (73, 1)], []))
theorem ks93 : aseg kS krf kB [kE92] (ksp []) kE93 [] 30000 (none) = true := asgqw (by decide +kernel)
theorem kok93 : aOK kS krf kB kE93 := aOK_of (kal1 kok92 kal0) kcl0 ks93
/-- ColdShodModel.strikes(I)Z -/
def kE94 : aE := (184, 2, ([kvB 0 6], [], 0, [kvR 102, kvI 0], []), ([], none), ([kvB 0 1], [], kvI 1, ([], [])), kvW16)
theorem ks94 : aseg kS krf kB [] (ksp []) kE94 [] 30000 (none) = true := asgqw (by decide +kernel)
theorem kok94 : aOK kS krf kB kE94 := aOK_of kal0 kcl0 ks94
/-- ColdShodModel.stroke(II)I -/
def kE95 : aE := (211, 3, ([(.negSucc 2147483647, .ofNat 2147483647), (.negSucc 2147483647, .ofNat 2147483647)], [], 0, [some (.inr [102]), some (.inl (.inl (.inl (0, .ofNat 0)))), some (.inl (.inl (.inl (1, .ofNat 0)))), none], []), ([], none), ([(.negSucc 0, .ofNat 1)], [], some (.inl (.inl (.inl (2, .ofNat 0)))), ([], [])), ([(119, 0), (119, 1)], [103, 112]))
theorem ks95 : aseg kS krf kB [kE43, kE94, kE90] (ksp []) kE95 [] 30000 (none) = true := asgqw (by decide +kernel)
theorem kok95 : aOK kS krf kB kE95 := aOK_of (kal1 kok43 (kal1 kok94 (kal1 kok90 kal0))) kcl0 ks95
/-- ColdShod.thoughtOf(I)LColdShod$Idea; -/
def kE96 : aE := (139, 2, ([kvB 0 7], [], 0, [kvR 6, kvI 0], []), ([], none), ([], [], kvR 88, ([], [])), kvW17)
theorem ks96 : aseg kS krf kB [] (ksp []) kE96 [] 30000 (none) = true := asgqw (by decide +kernel)
theorem kok96 : aOK kS krf kB kE96 := aOK_of kal0 kcl0 ks96
/-- ColdShod$Idea.strike(I)Z -/
def kE97 : aE := (43, 2, ([kvB 3 3], [], 0, [kvR 88, kvI 0], []), ([], none), ([kvB 0 1], [], kvI 1, ([], [])), kvW18)
theorem ks97 : aseg kS krf kB [] (ksp []) kE97 [] 30000 (none) = true := asgqw (by decide +kernel)
theorem kok97 : aOK kS krf kB kE97 := aOK_of kal0 kcl0 ks97
/-- ColdShod$Country.wearOf(LColdShod$Idea;LColdShod$Road;)I -/
def kE98 : aE := (23, 2, ([], [], 0, [kvR 7, kvR 88, some (.inr [28, 29, 30, 31, 32, 33, 34, 35, 36, 37, 38, 39])], []), ([], none), ([kvB 0 9], [], kvI 0, ([], [])), kvW5)
theorem ks98 : aseg kS krf kB [kE39] (ksp [(23, 0, 1, -1000, 1000, 0)]) kE98 [] 30000 (none) = true := asgqw (by decide +kernel)
theorem kok98 : aOK kS krf kB kE98 := aOK_of (kal1 kok39 kal0) kcl0 ks98
/-- ColdShod$Country.travel(LColdShod$Idea;LColdShod$Road;)I -/
def kE99 : aE := (24, 3, ([], [], 0, [kvR 7, kvR 88, some (.inr [28, 29, 30, 31, 32, 33, 34, 35, 36, 37, 38, 39]), none, none], []), ([], none), ([(.negSucc 1999999999, .ofNat 100000000)], [], kvI 0, ([], [])), kvW19)
def kC99_0 : aC := (([kvB 0 9, kvB 1 100000001, (.negSucc 1999999999, .ofNat 99)], [(88, 2, .inl (2, .ofNat 0))], 20, [kvR 7, kvR 88, some (.inr [28, 29, 30, 31, 32, 33, 34, 35, 36, 37, 38, 39]), kvI 0, kvI 1], []), ([], []), (100000001, [(-1, 1)]))
theorem ks99 : aseg kS krf kB [kE98] (ksp []) kE99 [kC99_0] 30000 (none) = true := asgqw (by decide +kernel)
theorem ks99_0 : aseg kS krf kB [kE98] (ksp []) kE99 [kC99_0] 30000 (some kC99_0) = true := asgqw (by decide +kernel)
theorem kok99 : aOK kS krf kB kE99 := aOK_of (kal1 kok98 kal0) (kcl1 ks99_0 kcl0) ks99
/-- ColdShod.drawn(IIII)I -/
def kE100 : aE := (116, 4, ([(.negSucc 2147483647, .ofNat 2147483647), (.negSucc 2147483647, .ofNat 2147483647), (.negSucc 2147483647, .ofNat 2147483647), (.negSucc 2147483647, .ofNat 2147483647)], [], 0, [some (.inr [6]), some (.inl (.inl (.inl (0, .ofNat 0)))), some (.inl (.inl (.inl (1, .ofNat 0)))), some (.inl (.inl (.inl (2, .ofNat 0)))), some (.inl (.inl (.inl (3, .ofNat 0)))), none, none, none, none, none, none, none, none, none], []), ([], none), ([(.negSucc 2147483647, .ofNat 2147483647)], [], some (.inl (.inl (.inl (4, .ofNat 0)))), ([], [])), ([(13, 0), (13, 1), (13, 2), (13, 3), (13, 4), (13, 5), (88, 0), (88, 1), (88, 2), (88, 3), (88, 4), (88, 5), (88, 6)], [16, 19]))
def kC100_0 : aC := (([kvA, (.negSucc 2147483647, .ofNat 3099), kvB 0 7, kvB 0 1, kvB 1 30, kvB 1 40, kvA, kvA, kvA, (.negSucc 1999999999, .ofNat 100000000), kvB 0 30, kvB 1 8], [(7, 7, .inl (11, .ofNat 0))], 94, [kvR 6, kvI 0, kvI 1, kvI 2, kvI 3, kvI 4, kvI 5, kvI 6, kvI 7, kvI 8, kvI 9, kvI 10, none, none], []), ([], []), (1331, [(-43, 10)]))
def kC100_1 : aC := (([kvA, (.negSucc 2147483647, .ofNat 3099), kvB 0 7, kvB 0 1, kvB 1 30, kvB 1 40, kvA, kvA, kvA, (.negSucc 1999999999, .ofNat 100000000), kvB 0 29, kvB 0 40, kvB 1 8], [(7, 7, .inl (12, .ofNat 0))], 111, [kvR 6, kvI 0, kvI 1, kvI 2, kvI 3, kvI 4, kvI 5, kvI 6, kvI 7, kvI 8, kvI 9, kvI 10, kvR 88, kvI 11], []), ([], []), (1330, [(-43, 10), (-1, 11)]))
theorem ks100 : aseg kS krf kB [kE96, kE97, kE99] (ksp [(22, 0, 1, -1000, 1000, 0)]) kE100 [kC100_0, kC100_1] 30000 (none) = true := asgqw (by decide +kernel)
theorem ks100_0 : aseg kS krf kB [kE96, kE97, kE99] (ksp [(22, 0, 1, -1000, 1000, 0)]) kE100 [kC100_0, kC100_1] 30000 (some kC100_0) = true := asgqw (by decide +kernel)
theorem ks100_1 : aseg kS krf kB [kE96, kE97, kE99] (ksp [(22, 0, 1, -1000, 1000, 0)]) kE100 [kC100_0, kC100_1] 30000 (some kC100_1) = true := asgqw (by decide +kernel)
theorem kok100 : aOK kS krf kB kE100 := aOK_of (kal1 kok96 (kal1 kok97 (kal1 kok99 kal0))) (kcl1 ks100_0 (kcl1 ks100_1 kcl0)) ks100
/-- ColdShodModel.drawn(IIII)I -/
def kE101 : aE := (209, 46, ([(.negSucc 2147483647, .ofNat 2147483647), (.negSucc 2147483647, .ofNat 2147483647), (.negSucc 2147483647, .ofNat 2147483647), (.negSucc 2147483647, .ofNat 2147483647)], [], 0, [some (.inr [102]), some (.inl (.inl (.inl (0, .ofNat 0)))), some (.inl (.inl (.inl (1, .ofNat 0)))), some (.inl (.inl (.inl (2, .ofNat 0)))), some (.inl (.inl (.inl (3, .ofNat 0)))), none, none, none, none, none, none], []), ([], none), ([(.negSucc 2147483647, .ofNat 2147483647)], [], some (.inl (.inl (.inl (4, .ofNat 0)))), ([], [])), ([(102, 15), (102, 16), (102, 17), (102, 18), (102, 19), (102, 22), (102, 23), (111, 0), (111, 1), (111, 2), (111, 3), (111, 4), (111, 5)], [112]))
def kC101_0 : aC := (([kvA, kvB 0 3099, kvB 0 7, kvB 0 1, kvA, kvA, kvA, (.negSucc 0, .ofNat 99), kvB 0 30, kvB 1 8], [(102, 7, .inl (9, .ofNat 0))], 104, [kvR 102, kvI 0, kvI 1, kvI 2, kvI 3, kvI 4, kvI 5, kvI 6, kvI 7, kvI 8, none], []), ([], []), (3160, [(-102, 8)]))
def kC101_1 : aC := (([kvA, kvB 0 3099, kvB 0 7, kvB 0 1, kvA, kvA, kvA, (.negSucc 0, .ofNat 99), kvB 0 29, kvB 0 99, kvB 1 8], [(102, 7, .inl (10, .ofNat 0))], 121, [kvR 102, kvI 0, kvI 1, kvI 2, kvI 3, kvI 4, kvI 5, kvI 6, kvI 7, kvI 8, kvI 9], []), ([], []), (3159, [(-102, 8), (-1, 9)]))
theorem ks101 : aseg kS krf kB [kE43, kE94, kE89] (ksp []) kE101 [kC101_0, kC101_1] 30000 (none) = true := asgqw (by decide +kernel)
theorem ks101_0 : aseg kS krf kB [kE43, kE94, kE89] (ksp []) kE101 [kC101_0, kC101_1] 30000 (some kC101_0) = true := asgqw (by decide +kernel)
theorem ks101_1 : aseg kS krf kB [kE43, kE94, kE89] (ksp []) kE101 [kC101_0, kC101_1] 30000 (some kC101_1) = true := asgqw (by decide +kernel)
theorem kok101 : aOK kS krf kB kE101 := aOK_of (kal1 kok43 (kal1 kok94 (kal1 kok89 kal0))) (kcl1 ks101_0 (kcl1 ks101_1 kcl0)) ks101
/-- ColdShod$Idea.strike(I)Z -/
def kE102 : aE := (43, 2, ([kvB 0 4], [], 0, [kvR 89, kvI 0], []), ([], none), ([kvB 0 1], [], kvI 1, ([], [])), kvW20)
theorem ks102 : aseg kS krf kB [] (ksp []) kE102 [] 30000 (none) = true := asgqw (by decide +kernel)
theorem kok102 : aOK kS krf kB kE102 := aOK_of kal0 kcl0 ks102
/-- ColdShod$Idea.strike(I)Z -/
def kE103 : aE := (43, 2, ([kvB 0 4], [], 0, [kvR 91, kvI 0], []), ([], none), ([kvB 0 1], [], kvI 1, ([], [])), kvW21)
theorem ks103 : aseg kS krf kB [] (ksp []) kE103 [] 30000 (none) = true := asgqw (by decide +kernel)
theorem kok103 : aOK kS krf kB kE103 := aOK_of kal0 kcl0 ks103
/-- ColdShod$Idea.strike(I)Z -/
def kE104 : aE := (43, 2, ([kvB 0 4], [], 0, [kvR 93, kvI 0], []), ([], none), ([kvB 0 1], [], kvI 1, ([], [])), kvW22)
theorem ks104 : aseg kS krf kB [] (ksp []) kE104 [] 30000 (none) = true := asgqw (by decide +kernel)
theorem kok104 : aOK kS krf kB kE104 := aOK_of kal0 kcl0 ks104
/-- ColdShod.wornAtBest(II)I -/
def kE105 : aE := (113, 0, ([kvB 5 5], [], 0, [kvR 6, kvN 5, kvI 0], []), ([], none), ([(.negSucc 1999999999, .ofNat 100000000)], [], kvI 1, ([], [])), kvW0)
theorem ks105 : aseg kS krf kB [] (ksp []) kE105 [] 30000 (none) = true := asgqw (by decide +kernel)
theorem kok105 : aOK kS krf kB kE105 := aOK_of kal0 kcl0 ks105
/-- ColdShod.leastBySmith(II)I -/
def kE106 : aE := (114, 3, ([kvB 5 5], [], 0, [kvR 6, kvN 4, kvI 0, none, none, none, none], []), ([], none), ([(.negSucc 1999999999, .ofNat 100)], [], kvI 1, ([], [])), kvW23)
def kC106_0 : aC := (([kvB 5 5, (.negSucc 1999999999, .ofNat 100), kvB 0 3], [], 6, [kvR 6, kvN 4, kvI 0, kvI 1, kvI 2, none, none], []), ([], []), (3, [(-1, 2)]))
theorem ks106 : aseg kS krf kB [kE104, kE105] (ksp []) kE106 [kC106_0] 30000 (none) = true := asgqw (by decide +kernel)
theorem ks106_0 : aseg kS krf kB [kE104, kE105] (ksp []) kE106 [kC106_0] 30000 (some kC106_0) = true := asgqw (by decide +kernel)
theorem kok106 : aOK kS krf kB kE106 := aOK_of (kal1 kok104 (kal1 kok105 kal0)) (kcl1 ks106_0 kcl0) ks106
/-- ColdShod.wornAtBest(II)I -/
def kE107 : aE := (113, 4, ([kvB 4 5], [], 0, [kvR 6, kvN 4, kvI 0], []), ([], none), ([(.negSucc 1999999999, .ofNat 100000000)], [], kvI 1, ([], [])), kvW23)
theorem ks107 : aseg kS krf kB [kE106] (ksp []) kE107 [] 30000 (none) = true := asgqw (by decide +kernel)
theorem kok107 : aOK kS krf kB kE107 := aOK_of (kal1 kok106 kal0) kcl0 ks107
/-- ColdShod.mostByKicker(II)I -/
def kE108 : aE := (115, 5, ([kvB 4 5], [], 0, [kvR 6, kvN 3, kvI 0, none, none, none], []), ([], none), ([kvB 0 100000000], [], kvI 1, ([], [])), kvW24)
def kC108_0 : aC := (([kvB 4 5, kvB 0 100000000, kvB 0 3], [], 5, [kvR 6, kvN 3, kvI 0, kvI 1, kvI 2, none], []), ([], []), (3, [(-1, 2)]))
theorem ks108 : aseg kS krf kB [kE107] (ksp []) kE108 [kC108_0] 30000 (none) = true := asgqw (by decide +kernel)
theorem ks108_0 : aseg kS krf kB [kE107] (ksp []) kE108 [kC108_0] 30000 (some kC108_0) = true := asgqw (by decide +kernel)
theorem kok108 : aOK kS krf kB kE108 := aOK_of (kal1 kok107 kal0) (kcl1 ks108_0 kcl0) ks108
/-- ColdShod.wornAtBest(II)I -/
def kE109 : aE := (113, 6, ([kvB 3 5], [], 0, [kvR 6, kvN 3, kvI 0], []), ([], none), ([(.negSucc 1999999999, .ofNat 100000000)], [], kvI 1, ([], [])), kvW24)
theorem ks109 : aseg kS krf kB [kE108] (ksp []) kE109 [] 30000 (none) = true := asgqw (by decide +kernel)
theorem kok109 : aOK kS krf kB kE109 := aOK_of (kal1 kok108 kal0) kcl0 ks109
/-- ColdShod.leastBySmith(II)I -/
def kE110 : aE := (114, 7, ([kvB 3 5], [], 0, [kvR 6, kvN 2, kvI 0, none, none, none, none], []), ([], none), ([(.negSucc 1999999999, .ofNat 100)], [], kvI 1, ([], [])), kvW25)
def kC110_0 : aC := (([kvB 3 5, (.negSucc 1999999999, .ofNat 100), kvB 0 3], [], 6, [kvR 6, kvN 2, kvI 0, kvI 1, kvI 2, none, none], []), ([], []), (3, [(-1, 2)]))
theorem ks110 : aseg kS krf kB [kE103, kE109] (ksp []) kE110 [kC110_0] 30000 (none) = true := asgqw (by decide +kernel)
theorem ks110_0 : aseg kS krf kB [kE103, kE109] (ksp []) kE110 [kC110_0] 30000 (some kC110_0) = true := asgqw (by decide +kernel)
theorem kok110 : aOK kS krf kB kE110 := aOK_of (kal1 kok103 (kal1 kok109 kal0)) (kcl1 ks110_0 kcl0) ks110
/-- ColdShod.wornAtBest(II)I -/
def kE111 : aE := (113, 8, ([kvB 2 5], [], 0, [kvR 6, kvN 2, kvI 0], []), ([], none), ([(.negSucc 1999999999, .ofNat 100000000)], [], kvI 1, ([], [])), kvW25)
theorem ks111 : aseg kS krf kB [kE110] (ksp []) kE111 [] 30000 (none) = true := asgqw (by decide +kernel)
theorem kok111 : aOK kS krf kB kE111 := aOK_of (kal1 kok110 kal0) kcl0 ks111
/-- ColdShod.mostByKicker(II)I -/
def kE112 : aE := (115, 9, ([kvB 2 5], [], 0, [kvR 6, kvN 1, kvI 0, none, none, none], []), ([], none), ([kvB 0 100000000], [], kvI 1, ([], [])), kvW26)
def kC112_0 : aC := (([kvB 2 5, kvB 0 100000000, kvB 0 3], [], 5, [kvR 6, kvN 1, kvI 0, kvI 1, kvI 2, none], []), ([], []), (3, [(-1, 2)]))
theorem ks112 : aseg kS krf kB [kE111] (ksp []) kE112 [kC112_0] 30000 (none) = true := asgqw (by decide +kernel)
theorem ks112_0 : aseg kS krf kB [kE111] (ksp []) kE112 [kC112_0] 30000 (some kC112_0) = true := asgqw (by decide +kernel)
theorem kok112 : aOK kS krf kB kE112 := aOK_of (kal1 kok111 kal0) (kcl1 ks112_0 kcl0) ks112
/-- ColdShod.wornAtBest(II)I -/
def kE113 : aE := (113, 10, ([kvB 1 5], [], 0, [kvR 6, kvN 1, kvI 0], []), ([], none), ([(.negSucc 1999999999, .ofNat 100000000)], [], kvI 1, ([], [])), kvW26)
theorem ks113 : aseg kS krf kB [kE112] (ksp []) kE113 [] 30000 (none) = true := asgqw (by decide +kernel)
theorem kok113 : aOK kS krf kB kE113 := aOK_of (kal1 kok112 kal0) kcl0 ks113
/-- ColdShod.leastBySmith(II)I -/
def kE114 : aE := (114, 11, ([kvB 1 5], [], 0, [kvR 6, kvN 0, kvI 0, none, none, none, none], []), ([], none), ([(.negSucc 1999999999, .ofNat 100)], [], kvI 1, ([], [])), kvW27)
def kC114_0 : aC := (([kvB 1 5, (.negSucc 1999999999, .ofNat 100), kvB 0 3], [], 6, [kvR 6, kvN 0, kvI 0, kvI 1, kvI 2, none, none], []), ([], []), (3, [(-1, 2)]))
theorem ks114 : aseg kS krf kB [kE102, kE113] (ksp []) kE114 [kC114_0] 30000 (none) = true := asgqw (by decide +kernel)
theorem ks114_0 : aseg kS krf kB [kE102, kE113] (ksp []) kE114 [kC114_0] 30000 (some kC114_0) = true := asgqw (by decide +kernel)
theorem kok114 : aOK kS krf kB kE114 := aOK_of (kal1 kok102 (kal1 kok113 kal0)) (kcl1 ks114_0 kcl0) ks114
/-- ColdShod.wornAtBest(II)I -/
def kE115 : aE := (113, 12, ([kvB 1 5], [], 0, [kvR 6, kvN 0, kvI 0], []), ([], none), ([(.negSucc 1999999999, .ofNat 100)], [], kvI 1, ([], [])), kvW27)
theorem ks115 : aseg kS krf kB [kE114] (ksp []) kE115 [] 30000 (none) = true := asgqw (by decide +kernel)
theorem kok115 : aOK kS krf kB kE115 := aOK_of (kal1 kok114 kal0) kcl0 ks115
/-- ColdShod.byTurns(III)I -/
def kE116 : aE := (112, 13, ([(.negSucc 2147483647, .ofNat 2147483647), (.negSucc 2147483647, .ofNat 2147483647), (.negSucc 2147483647, .ofNat 2147483647)], [], 0, [some (.inr [6]), some (.inl (.inl (.inl (0, .ofNat 0)))), some (.inl (.inl (.inl (1, .ofNat 0)))), some (.inl (.inl (.inl (2, .ofNat 0)))), none], []), ([], none), ([(.negSucc 1999999999, .ofNat 100)], [], some (.inl (.inl (.inl (3, .ofNat 0)))), ([], [])), ([(6, 13), (88, 0), (88, 1), (88, 2), (88, 3), (88, 4), (88, 5), (88, 6), (89, 0), (89, 1), (89, 2), (89, 3), (89, 4), (89, 5), (89, 6), (90, 0), (90, 1), (90, 2), (90, 3), (90, 4), (90, 5), (90, 6), (91, 0), (91, 1), (91, 2), (91, 3), (91, 4), (91, 5), (91, 6), (92, 0), (92, 1), (92, 2), (92, 3), (92, 4), (92, 5), (92, 6), (93, 0), (93, 1), (93, 2), (93, 3), (93, 4), (93, 5), (93, 6)], []))
theorem ks116 : aseg kS krf kB [kE96, kE115] (ksp []) kE116 [] 30000 (none) = true := asgqw (by decide +kernel)
theorem kok116 : aOK kS krf kB kE116 := aOK_of (kal1 kok96 (kal1 kok115 kal0)) kcl0 ks116
/-- ColdShodModel.playsFrom(III)I -/
def kE117 : aE := (207, 3, ([kvB 0 7], [], 0, [kvR 102, kvI 0, kvN 5, kvN 5, none, none, none], []), ([], none), ([(.negSucc 0, .ofNat 99)], [], kvI 1, ([], [])), kvW7)
def kC117_0 : aC := (([kvB 0 7, kvB 0 5], [], 13, [kvR 102, kvI 0, kvN 5, kvN 5, kvI 1, none, none], []), ([], []), (5, [(-1, 1)]))
theorem ks117 : aseg kS krf kB [kE43, kE94] (ksp []) kE117 [kC117_0] 30000 (none) = true := asgqw (by decide +kernel)
theorem ks117_0 : aseg kS krf kB [kE43, kE94] (ksp []) kE117 [kC117_0] 30000 (some kC117_0) = true := asgqw (by decide +kernel)
theorem kok117 : aOK kS krf kB kE117 := aOK_of (kal1 kok43 (kal1 kok94 kal0)) (kcl1 ks117_0 kcl0) ks117
/-- ColdShodModel.playsFrom(III)I -/
def kE118 : aE := (207, 4, ([kvB 0 7], [], 0, [kvR 102, kvI 0, kvN 4, kvN 5, none, none, none], []), ([], none), ([(.negSucc 0, .ofNat 99)], [], kvI 1, ([], [])), kvW28)
def kC118_0 : aC := (([kvB 0 7, (.negSucc 0, .ofNat 99), kvB 0 3], [], 161, [kvR 102, kvI 0, kvN 4, kvN 5, kvI 1, kvI 2, none], []), ([], []), (3, [(-1, 2)]))
theorem ks118 : aseg kS krf kB [kE117] (ksp []) kE118 [kC118_0] 30000 (none) = true := asgqw (by decide +kernel)
theorem ks118_0 : aseg kS krf kB [kE117] (ksp []) kE118 [kC118_0] 30000 (some kC118_0) = true := asgqw (by decide +kernel)
theorem kok118 : aOK kS krf kB kE118 := aOK_of (kal1 kok117 kal0) (kcl1 ks118_0 kcl0) ks118
/-- ColdShodModel.playsFrom(III)I -/
def kE119 : aE := (207, 5, ([kvB 0 7], [], 0, [kvR 102, kvI 0, kvN 3, kvN 5, none, none, none], []), ([], none), ([(.negSucc 0, .ofNat 99)], [], kvI 1, ([], [])), kvW29)
def kC119_0 : aC := (([kvB 0 7, (.negSucc 0, .ofNat 99), kvB 0 3], [], 161, [kvR 102, kvI 0, kvN 3, kvN 5, kvI 1, kvI 2, none], []), ([], []), (3, [(-1, 2)]))
theorem ks119 : aseg kS krf kB [kE118] (ksp []) kE119 [kC119_0] 30000 (none) = true := asgqw (by decide +kernel)
theorem ks119_0 : aseg kS krf kB [kE118] (ksp []) kE119 [kC119_0] 30000 (some kC119_0) = true := asgqw (by decide +kernel)
theorem kok119 : aOK kS krf kB kE119 := aOK_of (kal1 kok118 kal0) (kcl1 ks119_0 kcl0) ks119
/-- ColdShodModel.playsFrom(III)I -/
def kE120 : aE := (207, 6, ([kvB 0 7], [], 0, [kvR 102, kvI 0, kvN 2, kvN 5, none, none, none], []), ([], none), ([(.negSucc 0, .ofNat 99)], [], kvI 1, ([], [])), kvW30)
def kC120_0 : aC := (([kvB 0 7, (.negSucc 0, .ofNat 99), kvB 0 3], [], 161, [kvR 102, kvI 0, kvN 2, kvN 5, kvI 1, kvI 2, none], []), ([], []), (3, [(-1, 2)]))
theorem ks120 : aseg kS krf kB [kE119] (ksp []) kE120 [kC120_0] 30000 (none) = true := asgqw (by decide +kernel)
theorem ks120_0 : aseg kS krf kB [kE119] (ksp []) kE120 [kC120_0] 30000 (some kC120_0) = true := asgqw (by decide +kernel)
theorem kok120 : aOK kS krf kB kE120 := aOK_of (kal1 kok119 kal0) (kcl1 ks120_0 kcl0) ks120
/-- ColdShodModel.playsFrom(III)I -/
def kE121 : aE := (207, 7, ([kvB 0 7], [], 0, [kvR 102, kvI 0, kvN 1, kvN 5, none, none, none], []), ([], none), ([(.negSucc 0, .ofNat 99)], [], kvI 1, ([], [])), kvW31)
def kC121_0 : aC := (([kvB 0 7, (.negSucc 0, .ofNat 99), kvB 0 3], [], 161, [kvR 102, kvI 0, kvN 1, kvN 5, kvI 1, kvI 2, none], []), ([], []), (3, [(-1, 2)]))
theorem ks121 : aseg kS krf kB [kE120] (ksp []) kE121 [kC121_0] 30000 (none) = true := asgqw (by decide +kernel)
theorem ks121_0 : aseg kS krf kB [kE120] (ksp []) kE121 [kC121_0] 30000 (some kC121_0) = true := asgqw (by decide +kernel)
theorem kok121 : aOK kS krf kB kE121 := aOK_of (kal1 kok120 kal0) (kcl1 ks121_0 kcl0) ks121
/-- ColdShodModel.playsFrom(III)I -/
def kE122 : aE := (207, 8, ([kvB 0 7], [], 0, [kvR 102, kvI 0, kvN 0, kvN 5, none, none, none], []), ([], none), ([(.negSucc 0, .ofNat 99)], [], kvI 1, ([], [])), kvW32)
def kC122_0 : aC := (([kvB 0 7, (.negSucc 0, .ofNat 99), kvB 0 3], [], 161, [kvR 102, kvI 0, kvN 0, kvN 5, kvI 1, kvI 2, none], []), ([], []), (3, [(-1, 2)]))
theorem ks122 : aseg kS krf kB [kE121] (ksp []) kE122 [kC122_0] 30000 (none) = true := asgqw (by decide +kernel)
theorem ks122_0 : aseg kS krf kB [kE121] (ksp []) kE122 [kC122_0] 30000 (some kC122_0) = true := asgqw (by decide +kernel)
theorem kok122 : aOK kS krf kB kE122 := aOK_of (kal1 kok121 kal0) (kcl1 ks122_0 kcl0) ks122
/-- ColdShodModel.playsFrom(III)I -/
def kE123 : aE := (207, 3, ([kvB 0 7], [], 0, [kvR 102, kvI 0, kvN 4, kvN 4, none, none, none], []), ([], none), ([(.negSucc 0, .ofNat 99)], [], kvI 1, ([], [])), kvW7)
def kC123_0 : aC := (([kvB 0 7, kvB 0 4], [], 13, [kvR 102, kvI 0, kvN 4, kvN 4, kvI 1, none, none], []), ([], []), (4, [(-1, 1)]))
theorem ks123 : aseg kS krf kB [kE43, kE94] (ksp []) kE123 [kC123_0] 30000 (none) = true := asgqw (by decide +kernel)
theorem ks123_0 : aseg kS krf kB [kE43, kE94] (ksp []) kE123 [kC123_0] 30000 (some kC123_0) = true := asgqw (by decide +kernel)
theorem kok123 : aOK kS krf kB kE123 := aOK_of (kal1 kok43 (kal1 kok94 kal0)) (kcl1 ks123_0 kcl0) ks123
/-- ColdShodModel.playsFrom(III)I -/
def kE124 : aE := (207, 4, ([kvB 0 7], [], 0, [kvR 102, kvI 0, kvN 3, kvN 4, none, none, none], []), ([], none), ([(.negSucc 0, .ofNat 99)], [], kvI 1, ([], [])), kvW33)
def kC124_0 : aC := (([kvB 0 7, (.negSucc 0, .ofNat 99), kvB 0 3], [], 161, [kvR 102, kvI 0, kvN 3, kvN 4, kvI 1, kvI 2, none], []), ([], []), (3, [(-1, 2)]))
theorem ks124 : aseg kS krf kB [kE123] (ksp []) kE124 [kC124_0] 30000 (none) = true := asgqw (by decide +kernel)
theorem ks124_0 : aseg kS krf kB [kE123] (ksp []) kE124 [kC124_0] 30000 (some kC124_0) = true := asgqw (by decide +kernel)
theorem kok124 : aOK kS krf kB kE124 := aOK_of (kal1 kok123 kal0) (kcl1 ks124_0 kcl0) ks124
/-- ColdShodModel.playsFrom(III)I -/
def kE125 : aE := (207, 5, ([kvB 0 7], [], 0, [kvR 102, kvI 0, kvN 2, kvN 4, none, none, none], []), ([], none), ([(.negSucc 0, .ofNat 99)], [], kvI 1, ([], [])), kvW34)
def kC125_0 : aC := (([kvB 0 7, (.negSucc 0, .ofNat 99), kvB 0 3], [], 161, [kvR 102, kvI 0, kvN 2, kvN 4, kvI 1, kvI 2, none], []), ([], []), (3, [(-1, 2)]))
theorem ks125 : aseg kS krf kB [kE124] (ksp []) kE125 [kC125_0] 30000 (none) = true := asgqw (by decide +kernel)
theorem ks125_0 : aseg kS krf kB [kE124] (ksp []) kE125 [kC125_0] 30000 (some kC125_0) = true := asgqw (by decide +kernel)
theorem kok125 : aOK kS krf kB kE125 := aOK_of (kal1 kok124 kal0) (kcl1 ks125_0 kcl0) ks125
/-- ColdShodModel.playsFrom(III)I -/
def kE126 : aE := (207, 6, ([kvB 0 7], [], 0, [kvR 102, kvI 0, kvN 1, kvN 4, none, none, none], []), ([], none), ([(.negSucc 0, .ofNat 99)], [], kvI 1, ([], [])), kvW35)
def kC126_0 : aC := (([kvB 0 7, (.negSucc 0, .ofNat 99), kvB 0 3], [], 161, [kvR 102, kvI 0, kvN 1, kvN 4, kvI 1, kvI 2, none], []), ([], []), (3, [(-1, 2)]))
theorem ks126 : aseg kS krf kB [kE125] (ksp []) kE126 [kC126_0] 30000 (none) = true := asgqw (by decide +kernel)
theorem ks126_0 : aseg kS krf kB [kE125] (ksp []) kE126 [kC126_0] 30000 (some kC126_0) = true := asgqw (by decide +kernel)
theorem kok126 : aOK kS krf kB kE126 := aOK_of (kal1 kok125 kal0) (kcl1 ks126_0 kcl0) ks126
/-- ColdShodModel.playsFrom(III)I -/
def kE127 : aE := (207, 7, ([kvB 0 7], [], 0, [kvR 102, kvI 0, kvN 0, kvN 4, none, none, none], []), ([], none), ([(.negSucc 0, .ofNat 99)], [], kvI 1, ([], [])), kvW36)
def kC127_0 : aC := (([kvB 0 7, (.negSucc 0, .ofNat 99), kvB 0 3], [], 161, [kvR 102, kvI 0, kvN 0, kvN 4, kvI 1, kvI 2, none], []), ([], []), (3, [(-1, 2)]))
theorem ks127 : aseg kS krf kB [kE126] (ksp []) kE127 [kC127_0] 30000 (none) = true := asgqw (by decide +kernel)
theorem ks127_0 : aseg kS krf kB [kE126] (ksp []) kE127 [kC127_0] 30000 (some kC127_0) = true := asgqw (by decide +kernel)
theorem kok127 : aOK kS krf kB kE127 := aOK_of (kal1 kok126 kal0) (kcl1 ks127_0 kcl0) ks127
/-- ColdShodModel.playsFrom(III)I -/
def kE128 : aE := (207, 3, ([kvB 0 7], [], 0, [kvR 102, kvI 0, kvN 3, kvN 3, none, none, none], []), ([], none), ([(.negSucc 0, .ofNat 99)], [], kvI 1, ([], [])), kvW7)
def kC128_0 : aC := (([kvB 0 7, kvB 0 3], [], 13, [kvR 102, kvI 0, kvN 3, kvN 3, kvI 1, none, none], []), ([], []), (3, [(-1, 1)]))
theorem ks128 : aseg kS krf kB [kE43, kE94] (ksp []) kE128 [kC128_0] 30000 (none) = true := asgqw (by decide +kernel)
theorem ks128_0 : aseg kS krf kB [kE43, kE94] (ksp []) kE128 [kC128_0] 30000 (some kC128_0) = true := asgqw (by decide +kernel)
theorem kok128 : aOK kS krf kB kE128 := aOK_of (kal1 kok43 (kal1 kok94 kal0)) (kcl1 ks128_0 kcl0) ks128
/-- ColdShodModel.playsFrom(III)I -/
def kE129 : aE := (207, 4, ([kvB 0 7], [], 0, [kvR 102, kvI 0, kvN 2, kvN 3, none, none, none], []), ([], none), ([(.negSucc 0, .ofNat 99)], [], kvI 1, ([], [])), kvW37)
def kC129_0 : aC := (([kvB 0 7, (.negSucc 0, .ofNat 99), kvB 0 3], [], 161, [kvR 102, kvI 0, kvN 2, kvN 3, kvI 1, kvI 2, none], []), ([], []), (3, [(-1, 2)]))
theorem ks129 : aseg kS krf kB [kE128] (ksp []) kE129 [kC129_0] 30000 (none) = true := asgqw (by decide +kernel)
theorem ks129_0 : aseg kS krf kB [kE128] (ksp []) kE129 [kC129_0] 30000 (some kC129_0) = true := asgqw (by decide +kernel)
theorem kok129 : aOK kS krf kB kE129 := aOK_of (kal1 kok128 kal0) (kcl1 ks129_0 kcl0) ks129
/-- ColdShodModel.playsFrom(III)I -/
def kE130 : aE := (207, 5, ([kvB 0 7], [], 0, [kvR 102, kvI 0, kvN 1, kvN 3, none, none, none], []), ([], none), ([(.negSucc 0, .ofNat 99)], [], kvI 1, ([], [])), kvW38)
def kC130_0 : aC := (([kvB 0 7, (.negSucc 0, .ofNat 99), kvB 0 3], [], 161, [kvR 102, kvI 0, kvN 1, kvN 3, kvI 1, kvI 2, none], []), ([], []), (3, [(-1, 2)]))
theorem ks130 : aseg kS krf kB [kE129] (ksp []) kE130 [kC130_0] 30000 (none) = true := asgqw (by decide +kernel)
theorem ks130_0 : aseg kS krf kB [kE129] (ksp []) kE130 [kC130_0] 30000 (some kC130_0) = true := asgqw (by decide +kernel)
theorem kok130 : aOK kS krf kB kE130 := aOK_of (kal1 kok129 kal0) (kcl1 ks130_0 kcl0) ks130
/-- ColdShodModel.playsFrom(III)I -/
def kE131 : aE := (207, 6, ([kvB 0 7], [], 0, [kvR 102, kvI 0, kvN 0, kvN 3, none, none, none], []), ([], none), ([(.negSucc 0, .ofNat 99)], [], kvI 1, ([], [])), kvW39)
def kC131_0 : aC := (([kvB 0 7, (.negSucc 0, .ofNat 99), kvB 0 3], [], 161, [kvR 102, kvI 0, kvN 0, kvN 3, kvI 1, kvI 2, none], []), ([], []), (3, [(-1, 2)]))
theorem ks131 : aseg kS krf kB [kE130] (ksp []) kE131 [kC131_0] 30000 (none) = true := asgqw (by decide +kernel)
theorem ks131_0 : aseg kS krf kB [kE130] (ksp []) kE131 [kC131_0] 30000 (some kC131_0) = true := asgqw (by decide +kernel)
theorem kok131 : aOK kS krf kB kE131 := aOK_of (kal1 kok130 kal0) (kcl1 ks131_0 kcl0) ks131
/-- ColdShodModel.playsFrom(III)I -/
def kE132 : aE := (207, 3, ([kvB 0 7], [], 0, [kvR 102, kvI 0, kvN 2, kvN 2, none, none, none], []), ([], none), ([(.negSucc 0, .ofNat 99)], [], kvI 1, ([], [])), kvW7)
def kC132_0 : aC := (([kvB 0 7, kvB 0 2], [], 13, [kvR 102, kvI 0, kvN 2, kvN 2, kvI 1, none, none], []), ([], []), (2, [(-1, 1)]))
theorem ks132 : aseg kS krf kB [kE43, kE94] (ksp []) kE132 [kC132_0] 30000 (none) = true := asgqw (by decide +kernel)
theorem ks132_0 : aseg kS krf kB [kE43, kE94] (ksp []) kE132 [kC132_0] 30000 (some kC132_0) = true := asgqw (by decide +kernel)
theorem kok132 : aOK kS krf kB kE132 := aOK_of (kal1 kok43 (kal1 kok94 kal0)) (kcl1 ks132_0 kcl0) ks132
/-- ColdShodModel.playsFrom(III)I -/
def kE133 : aE := (207, 4, ([kvB 0 7], [], 0, [kvR 102, kvI 0, kvN 1, kvN 2, none, none, none], []), ([], none), ([(.negSucc 0, .ofNat 99)], [], kvI 1, ([], [])), kvW40)
def kC133_0 : aC := (([kvB 0 7, (.negSucc 0, .ofNat 99), kvB 0 3], [], 161, [kvR 102, kvI 0, kvN 1, kvN 2, kvI 1, kvI 2, none], []), ([], []), (3, [(-1, 2)]))
theorem ks133 : aseg kS krf kB [kE132] (ksp []) kE133 [kC133_0] 30000 (none) = true := asgqw (by decide +kernel)
theorem ks133_0 : aseg kS krf kB [kE132] (ksp []) kE133 [kC133_0] 30000 (some kC133_0) = true := asgqw (by decide +kernel)
theorem kok133 : aOK kS krf kB kE133 := aOK_of (kal1 kok132 kal0) (kcl1 ks133_0 kcl0) ks133
/-- ColdShodModel.playsFrom(III)I -/
def kE134 : aE := (207, 5, ([kvB 0 7], [], 0, [kvR 102, kvI 0, kvN 0, kvN 2, none, none, none], []), ([], none), ([(.negSucc 0, .ofNat 99)], [], kvI 1, ([], [])), kvW41)
def kC134_0 : aC := (([kvB 0 7, (.negSucc 0, .ofNat 99), kvB 0 3], [], 161, [kvR 102, kvI 0, kvN 0, kvN 2, kvI 1, kvI 2, none], []), ([], []), (3, [(-1, 2)]))
theorem ks134 : aseg kS krf kB [kE133] (ksp []) kE134 [kC134_0] 30000 (none) = true := asgqw (by decide +kernel)
theorem ks134_0 : aseg kS krf kB [kE133] (ksp []) kE134 [kC134_0] 30000 (some kC134_0) = true := asgqw (by decide +kernel)
theorem kok134 : aOK kS krf kB kE134 := aOK_of (kal1 kok133 kal0) (kcl1 ks134_0 kcl0) ks134
/-- ColdShodModel.playsFrom(III)I -/
def kE135 : aE := (207, 3, ([kvB 0 7], [], 0, [kvR 102, kvI 0, kvN 1, kvN 1, none, none, none], []), ([], none), ([(.negSucc 0, .ofNat 99)], [], kvI 1, ([], [])), kvW7)
def kC135_0 : aC := (([kvB 0 7, kvB 0 1], [], 13, [kvR 102, kvI 0, kvN 1, kvN 1, kvI 1, none, none], []), ([], []), (1, [(-1, 1)]))
theorem ks135 : aseg kS krf kB [kE43, kE94] (ksp []) kE135 [kC135_0] 30000 (none) = true := asgqw (by decide +kernel)
theorem ks135_0 : aseg kS krf kB [kE43, kE94] (ksp []) kE135 [kC135_0] 30000 (some kC135_0) = true := asgqw (by decide +kernel)
theorem kok135 : aOK kS krf kB kE135 := aOK_of (kal1 kok43 (kal1 kok94 kal0)) (kcl1 ks135_0 kcl0) ks135
/-- ColdShodModel.playsFrom(III)I -/
def kE136 : aE := (207, 4, ([kvB 0 7], [], 0, [kvR 102, kvI 0, kvN 0, kvN 1, none, none, none], []), ([], none), ([(.negSucc 0, .ofNat 99)], [], kvI 1, ([], [])), kvW42)
def kC136_0 : aC := (([kvB 0 7, (.negSucc 0, .ofNat 99), kvB 0 3], [], 161, [kvR 102, kvI 0, kvN 0, kvN 1, kvI 1, kvI 2, none], []), ([], []), (3, [(-1, 2)]))
theorem ks136 : aseg kS krf kB [kE135] (ksp []) kE136 [kC136_0] 30000 (none) = true := asgqw (by decide +kernel)
theorem ks136_0 : aseg kS krf kB [kE135] (ksp []) kE136 [kC136_0] 30000 (some kC136_0) = true := asgqw (by decide +kernel)
theorem kok136 : aOK kS krf kB kE136 := aOK_of (kal1 kok135 kal0) (kcl1 ks136_0 kcl0) ks136
/-- ColdShodModel.byTurns(III)I -/
def kE137 : aE := (208, 9, ([(.negSucc 2147483647, .ofNat 2147483647), (.negSucc 2147483647, .ofNat 2147483647), (.negSucc 2147483647, .ofNat 2147483647)], [], 0, [some (.inr [102]), some (.inl (.inl (.inl (0, .ofNat 0)))), some (.inl (.inl (.inl (1, .ofNat 0)))), some (.inl (.inl (.inl (2, .ofNat 0)))), none], []), ([], none), ([(.negSucc 0, .ofNat 99)], [], some (.inl (.inl (.inl (3, .ofNat 0)))), ([], [])), ([(118, 0), (118, 1), (118, 2), (118, 3), (118, 4)], [112]))
theorem ks137 : aseg kS krf kB [kE122, kE121, kE127, kE126, kE131, kE130, kE134, kE133, kE136, kE135] (ksp [(208, 0, 2, 1, 5, 0)]) kE137 [] 30000 (none) = true := asgqw (by decide +kernel)
theorem kok137 : aOK kS krf kB kE137 := aOK_of (kal1 kok122 (kal1 kok121 (kal1 kok127 (kal1 kok126 (kal1 kok131 (kal1 kok130 (kal1 kok134 (kal1 kok133 (kal1 kok136 (kal1 kok135 kal0)))))))))) kcl0 ks137
/-- ColdShod.refusalOfBytes(LColdShod$Shelf;)I -/
def kE138 : aE := (140, 1, ([], [], 0, [kvR 86], []), ([], none), ([(.negSucc 11, .ofNat 0)], [], kvI 0, ([], [])), kvW0)
theorem ks138 : aseg kS krf kB [] (ksp []) kE138 [] 30000 (none) = true := asgqw (by decide +kernel)
theorem kok138 : aOK kS krf kB kE138 := aOK_of kal0 kcl0 ks138
/-- ColdShod$Journey.read(LColdShod$Shelf;I)V -/
def kE139 : aE := (48, 0, ([kvB 0 12], [], 0, [kvR 50, kvR 86, kvI 0, none, none, none], []), ([], none), ([], [], none, ([], [])), kvW43)
def kC139_0 : aC := (([kvB 0 12, kvB 0 20], [], 7, [kvR 50, kvR 86, kvI 0, kvI 1, none, none], []), ([], []), (20, [(-1, 1)]))
theorem ks139 : aseg kS krf kB [] (ksp []) kE139 [kC139_0] 30000 (none) = true := asgqw (by decide +kernel)
theorem ks139_0 : aseg kS krf kB [] (ksp []) kE139 [kC139_0] 30000 (some kC139_0) = true := asgqw (by decide +kernel)
theorem kok139 : aOK kS krf kB kE139 := aOK_of kal0 (kcl1 ks139_0 kcl0) ks139
/-- ColdShod.refusalOfBytes(LColdShod$Shelf;)I -/
def kE140 : aE := (140, 1, ([], [], 0, [kvR 84], []), ([], none), ([(.negSucc 11, .ofNat 0)], [], kvI 0, ([], [])), kvW0)
theorem ks140 : aseg kS krf kB [] (ksp []) kE140 [] 30000 (none) = true := asgqw (by decide +kernel)
theorem kok140 : aOK kS krf kB kE140 := aOK_of kal0 kcl0 ks140
/-- ColdShod.refusalOfBytes(LColdShod$Shelf;)I -/
def kE141 : aE := (140, 1, ([], [], 0, [kvR 82], []), ([], none), ([(.negSucc 11, .ofNat 0)], [], kvI 0, ([], [])), kvW0)
theorem ks141 : aseg kS krf kB [] (ksp []) kE141 [] 30000 (none) = true := asgqw (by decide +kernel)
theorem kok141 : aOK kS krf kB kE141 := aOK_of kal0 kcl0 ks141
/-- ColdShod.refusalOfBytes(LColdShod$Shelf;)I -/
def kE142 : aE := (140, 1, ([], [], 0, [kvR 80], []), ([], none), ([(.negSucc 11, .ofNat 0)], [], kvI 0, ([], [])), kvW0)
theorem ks142 : aseg kS krf kB [] (ksp []) kE142 [] 30000 (none) = true := asgqw (by decide +kernel)
theorem kok142 : aOK kS krf kB kE142 := aOK_of kal0 kcl0 ks142
/-- ColdShod.refusalOfBytes(LColdShod$Shelf;)I -/
def kE143 : aE := (140, 1, ([], [], 0, [kvR 78], []), ([], none), ([(.negSucc 11, .ofNat 0)], [], kvI 0, ([], [])), kvW0)
theorem ks143 : aseg kS krf kB [] (ksp []) kE143 [] 30000 (none) = true := asgqw (by decide +kernel)
theorem kok143 : aOK kS krf kB kE143 := aOK_of kal0 kcl0 ks143
/-- ColdShod.refusalOfBytes(LColdShod$Shelf;)I -/
def kE144 : aE := (140, 1, ([], [], 0, [kvR 76], []), ([], none), ([(.negSucc 11, .ofNat 0)], [], kvI 0, ([], [])), kvW0)
theorem ks144 : aseg kS krf kB [] (ksp []) kE144 [] 30000 (none) = true := asgqw (by decide +kernel)
theorem kok144 : aOK kS krf kB kE144 := aOK_of kal0 kcl0 ks144
/-- ColdShod$Journey.read(LColdShod$Shelf;I)V -/
def kE145 : aE := (48, 0, ([kvB 0 12], [], 0, [kvR 50, kvR 84, kvI 0, none, none, none], []), ([], none), ([], [], none, ([], [])), kvW43)
def kC145_0 : aC := (([kvB 0 12, kvB 0 20], [], 7, [kvR 50, kvR 84, kvI 0, kvI 1, none, none], []), ([], []), (20, [(-1, 1)]))
theorem ks145 : aseg kS krf kB [] (ksp []) kE145 [kC145_0] 30000 (none) = true := asgqw (by decide +kernel)
theorem ks145_0 : aseg kS krf kB [] (ksp []) kE145 [kC145_0] 30000 (some kC145_0) = true := asgqw (by decide +kernel)
theorem kok145 : aOK kS krf kB kE145 := aOK_of kal0 (kcl1 ks145_0 kcl0) ks145
/-- ColdShod$Journey.read(LColdShod$Shelf;I)V -/
def kE146 : aE := (48, 0, ([kvB 0 12], [], 0, [kvR 50, kvR 82, kvI 0, none, none, none], []), ([], none), ([], [], none, ([], [])), kvW43)
def kC146_0 : aC := (([kvB 0 12, kvB 0 20], [], 7, [kvR 50, kvR 82, kvI 0, kvI 1, none, none], []), ([], []), (20, [(-1, 1)]))
theorem ks146 : aseg kS krf kB [] (ksp []) kE146 [kC146_0] 30000 (none) = true := asgqw (by decide +kernel)
theorem ks146_0 : aseg kS krf kB [] (ksp []) kE146 [kC146_0] 30000 (some kC146_0) = true := asgqw (by decide +kernel)
theorem kok146 : aOK kS krf kB kE146 := aOK_of kal0 (kcl1 ks146_0 kcl0) ks146
/-- ColdShod$Journey.read(LColdShod$Shelf;I)V -/
def kE147 : aE := (48, 0, ([kvB 0 12], [], 0, [kvR 50, kvR 80, kvI 0, none, none, none], []), ([], none), ([], [], none, ([], [])), kvW43)
def kC147_0 : aC := (([kvB 0 12, kvB 0 20], [], 7, [kvR 50, kvR 80, kvI 0, kvI 1, none, none], []), ([], []), (20, [(-1, 1)]))
theorem ks147 : aseg kS krf kB [] (ksp []) kE147 [kC147_0] 30000 (none) = true := asgqw (by decide +kernel)
theorem ks147_0 : aseg kS krf kB [] (ksp []) kE147 [kC147_0] 30000 (some kC147_0) = true := asgqw (by decide +kernel)
theorem kok147 : aOK kS krf kB kE147 := aOK_of kal0 (kcl1 ks147_0 kcl0) ks147
/-- ColdShod$Journey.read(LColdShod$Shelf;I)V -/
def kE148 : aE := (48, 0, ([kvB 0 12], [], 0, [kvR 50, kvR 78, kvI 0, none, none, none], []), ([], none), ([], [], none, ([], [])), kvW43)
def kC148_0 : aC := (([kvB 0 12, kvB 0 20], [], 7, [kvR 50, kvR 78, kvI 0, kvI 1, none, none], []), ([], []), (20, [(-1, 1)]))
theorem ks148 : aseg kS krf kB [] (ksp []) kE148 [kC148_0] 30000 (none) = true := asgqw (by decide +kernel)
theorem ks148_0 : aseg kS krf kB [] (ksp []) kE148 [kC148_0] 30000 (some kC148_0) = true := asgqw (by decide +kernel)
theorem kok148 : aOK kS krf kB kE148 := aOK_of kal0 (kcl1 ks148_0 kcl0) ks148
/-- ColdShod$Journey.read(LColdShod$Shelf;I)V -/
def kE149 : aE := (48, 0, ([kvB 0 12], [], 0, [kvR 50, kvR 76, kvI 0, none, none, none], []), ([], none), ([], [], none, ([], [])), kvW43)
def kC149_0 : aC := (([kvB 0 12, kvB 0 20], [], 7, [kvR 50, kvR 76, kvI 0, kvI 1, none, none], []), ([], []), (20, [(-1, 1)]))
theorem ks149 : aseg kS krf kB [] (ksp []) kE149 [kC149_0] 30000 (none) = true := asgqw (by decide +kernel)
theorem ks149_0 : aseg kS krf kB [] (ksp []) kE149 [kC149_0] 30000 (some kC149_0) = true := asgqw (by decide +kernel)
theorem kok149 : aOK kS krf kB kE149 := aOK_of kal0 (kcl1 ks149_0 kcl0) ks149
/-- ColdShod$Journey.firstWrong(LColdShod$Idea;LColdShod$Shelf;LColdShod$Country;)I -/
def kE150 : aE := (51, 5, ([], [], 0, [kvR 50, kvR 88, kvR 86, kvR 7, none, none], []), ([], none), ([(.negSucc 1, .ofNat 21)], [], kvI 0, ([], [])), kvW44)
def kC150_0 : aC := (([kvB 0 21], [], 3, [kvR 50, kvR 88, kvR 86, kvR 7, kvI 0, none], []), ([], []), (21, [(-1, 0)]))
theorem ks150 : aseg kS krf kB [kE99] (ksp []) kE150 [kC150_0] 30000 (none) = true := asgqw (by decide +kernel)
theorem ks150_0 : aseg kS krf kB [kE99] (ksp []) kE150 [kC150_0] 30000 (some kC150_0) = true := asgqw (by decide +kernel)
theorem kok150 : aOK kS krf kB kE150 := aOK_of (kal1 kok99 kal0) (kcl1 ks150_0 kcl0) ks150
/-- ColdShod$Journey.firstWrong(LColdShod$Idea;LColdShod$Shelf;LColdShod$Country;)I -/
def kE151 : aE := (51, 5, ([], [], 0, [kvR 50, kvR 88, kvR 84, kvR 7, none, none], []), ([], none), ([(.negSucc 1, .ofNat 21)], [], kvI 0, ([], [])), kvW44)
def kC151_0 : aC := (([kvB 0 21], [], 3, [kvR 50, kvR 88, kvR 84, kvR 7, kvI 0, none], []), ([], []), (21, [(-1, 0)]))
theorem ks151 : aseg kS krf kB [kE99] (ksp []) kE151 [kC151_0] 30000 (none) = true := asgqw (by decide +kernel)
theorem ks151_0 : aseg kS krf kB [kE99] (ksp []) kE151 [kC151_0] 30000 (some kC151_0) = true := asgqw (by decide +kernel)
theorem kok151 : aOK kS krf kB kE151 := aOK_of (kal1 kok99 kal0) (kcl1 ks151_0 kcl0) ks151
/-- ColdShod$Journey.firstWrong(LColdShod$Idea;LColdShod$Shelf;LColdShod$Country;)I -/
def kE152 : aE := (51, 5, ([], [], 0, [kvR 50, kvR 88, kvR 82, kvR 7, none, none], []), ([], none), ([(.negSucc 1, .ofNat 21)], [], kvI 0, ([], [])), kvW44)
def kC152_0 : aC := (([kvB 0 21], [], 3, [kvR 50, kvR 88, kvR 82, kvR 7, kvI 0, none], []), ([], []), (21, [(-1, 0)]))
theorem ks152 : aseg kS krf kB [kE99] (ksp []) kE152 [kC152_0] 30000 (none) = true := asgqw (by decide +kernel)
theorem ks152_0 : aseg kS krf kB [kE99] (ksp []) kE152 [kC152_0] 30000 (some kC152_0) = true := asgqw (by decide +kernel)
theorem kok152 : aOK kS krf kB kE152 := aOK_of (kal1 kok99 kal0) (kcl1 ks152_0 kcl0) ks152
/-- ColdShod$Journey.firstWrong(LColdShod$Idea;LColdShod$Shelf;LColdShod$Country;)I -/
def kE153 : aE := (51, 5, ([], [], 0, [kvR 50, kvR 88, kvR 80, kvR 7, none, none], []), ([], none), ([(.negSucc 1, .ofNat 21)], [], kvI 0, ([], [])), kvW44)
def kC153_0 : aC := (([kvB 0 21], [], 3, [kvR 50, kvR 88, kvR 80, kvR 7, kvI 0, none], []), ([], []), (21, [(-1, 0)]))
theorem ks153 : aseg kS krf kB [kE99] (ksp []) kE153 [kC153_0] 30000 (none) = true := asgqw (by decide +kernel)
theorem ks153_0 : aseg kS krf kB [kE99] (ksp []) kE153 [kC153_0] 30000 (some kC153_0) = true := asgqw (by decide +kernel)
theorem kok153 : aOK kS krf kB kE153 := aOK_of (kal1 kok99 kal0) (kcl1 ks153_0 kcl0) ks153
/-- ColdShod$Journey.firstWrong(LColdShod$Idea;LColdShod$Shelf;LColdShod$Country;)I -/
def kE154 : aE := (51, 5, ([], [], 0, [kvR 50, kvR 88, kvR 78, kvR 7, none, none], []), ([], none), ([(.negSucc 1, .ofNat 21)], [], kvI 0, ([], [])), kvW44)
def kC154_0 : aC := (([kvB 0 21], [], 3, [kvR 50, kvR 88, kvR 78, kvR 7, kvI 0, none], []), ([], []), (21, [(-1, 0)]))
theorem ks154 : aseg kS krf kB [kE99] (ksp []) kE154 [kC154_0] 30000 (none) = true := asgqw (by decide +kernel)
theorem ks154_0 : aseg kS krf kB [kE99] (ksp []) kE154 [kC154_0] 30000 (some kC154_0) = true := asgqw (by decide +kernel)
theorem kok154 : aOK kS krf kB kE154 := aOK_of (kal1 kok99 kal0) (kcl1 ks154_0 kcl0) ks154
/-- ColdShod$Journey.firstWrong(LColdShod$Idea;LColdShod$Shelf;LColdShod$Country;)I -/
def kE155 : aE := (51, 5, ([], [], 0, [kvR 50, kvR 88, kvR 76, kvR 7, none, none], []), ([], none), ([(.negSucc 1, .ofNat 21)], [], kvI 0, ([], [])), kvW44)
def kC155_0 : aC := (([kvB 0 21], [], 3, [kvR 50, kvR 88, kvR 76, kvR 7, kvI 0, none], []), ([], []), (21, [(-1, 0)]))
theorem ks155 : aseg kS krf kB [kE99] (ksp []) kE155 [kC155_0] 30000 (none) = true := asgqw (by decide +kernel)
theorem ks155_0 : aseg kS krf kB [kE99] (ksp []) kE155 [kC155_0] 30000 (some kC155_0) = true := asgqw (by decide +kernel)
theorem kok155 : aOK kS krf kB kE155 := aOK_of (kal1 kok99 kal0) (kcl1 ks155_0 kcl0) ks155
/-- ColdShod.edge(III)I -/
def kE156 : aE := (111, 6, ([(.negSucc 2147483647, .ofNat 2147483647), (.negSucc 2147483647, .ofNat 2147483647), (.negSucc 2147483647, .ofNat 2147483647)], [], 0, [some (.inr [6]), some (.inl (.inl (.inl (0, .ofNat 0)))), some (.inl (.inl (.inl (1, .ofNat 0)))), some (.inl (.inl (.inl (2, .ofNat 0)))), none, none, none, none, none], []), ([], none), ([(.negSucc 2147483647, .ofNat 2147483647)], [], some (.inl (.inl (.inl (3, .ofNat 0)))), ([], [])), ([(13, 0), (13, 1), (13, 2), (13, 3), (13, 4), (13, 5), (50, 1), (50, 2), (50, 3), (88, 0), (88, 1), (88, 2), (88, 3), (88, 4), (88, 5), (88, 6)], [16, 19, 51]))
def kC156_0 : aC := (([kvB 55 55, kvB 0 7, kvB 0 1, kvB 3 5, kvA, kvB 0 6, kvB 1 8], [(7, 7, .inl (6, .ofNat 0))], 84, [kvR 6, kvI 0, kvI 1, kvI 2, kvN 0, kvI 3, kvI 4, kvI 5, none], []), ([], []), (6, [(-1, 5)]))
def kC156_1 : aC := (([kvB 54 54, kvB 0 7, kvB 0 1, kvB 3 5, kvA, kvB 0 6, kvB 1 8], [(7, 7, .inl (6, .ofNat 0))], 84, [kvR 6, kvI 0, kvI 1, kvI 2, kvN 0, kvI 3, kvI 4, kvI 5, none], []), ([], []), (6, [(-1, 5)]))
def kC156_2 : aC := (([kvB 53 53, kvB 0 7, kvB 0 1, kvB 3 5, kvA, kvB 0 6, kvB 1 8], [(7, 7, .inl (6, .ofNat 0))], 84, [kvR 6, kvI 0, kvI 1, kvI 2, kvN 0, kvI 3, kvI 4, kvI 5, none], []), ([], []), (6, [(-1, 5)]))
def kC156_3 : aC := (([kvB 52 52, kvB 0 7, kvB 0 1, kvB 3 5, kvA, kvB 0 6, kvB 1 8], [(7, 7, .inl (6, .ofNat 0))], 84, [kvR 6, kvI 0, kvI 1, kvI 2, kvN 0, kvI 3, kvI 4, kvI 5, none], []), ([], []), (6, [(-1, 5)]))
def kC156_4 : aC := (([kvB 51 51, kvB 0 7, kvB 0 1, kvB 3 5, kvA, kvB 0 6, kvB 1 8], [(7, 7, .inl (6, .ofNat 0))], 84, [kvR 6, kvI 0, kvI 1, kvI 2, kvN 0, kvI 3, kvI 4, kvI 5, none], []), ([], []), (6, [(-1, 5)]))
def kC156_5 : aC := (([kvB 50 50, kvB 0 7, kvB 0 1, kvB 3 5, kvA, kvB 0 6, kvB 1 8], [(7, 7, .inl (6, .ofNat 0))], 84, [kvR 6, kvI 0, kvI 1, kvI 2, kvN 0, kvI 3, kvI 4, kvI 5, none], []), ([], []), (6, [(-1, 5)]))
def kC156_6 : aC := (([kvB 45 45, kvB 0 7, kvB 0 1, kvB 3 5, kvA, kvB 0 6, kvB 1 8], [(7, 7, .inl (6, .ofNat 0))], 84, [kvR 6, kvI 0, kvI 1, kvI 2, kvN 0, kvI 3, kvI 4, kvI 5, none], []), ([], []), (6, [(-1, 5)]))
def kC156_7 : aC := (([kvB 44 44, kvB 0 7, kvB 0 1, kvB 3 5, kvA, kvB 0 6, kvB 1 8], [(7, 7, .inl (6, .ofNat 0))], 84, [kvR 6, kvI 0, kvI 1, kvI 2, kvN 0, kvI 3, kvI 4, kvI 5, none], []), ([], []), (6, [(-1, 5)]))
def kC156_8 : aC := (([kvB 43 43, kvB 0 7, kvB 0 1, kvB 3 5, kvA, kvB 0 6, kvB 1 8], [(7, 7, .inl (6, .ofNat 0))], 84, [kvR 6, kvI 0, kvI 1, kvI 2, kvN 0, kvI 3, kvI 4, kvI 5, none], []), ([], []), (6, [(-1, 5)]))
def kC156_9 : aC := (([kvB 42 42, kvB 0 7, kvB 0 1, kvB 3 5, kvA, kvB 0 6, kvB 1 8], [(7, 7, .inl (6, .ofNat 0))], 84, [kvR 6, kvI 0, kvI 1, kvI 2, kvN 0, kvI 3, kvI 4, kvI 5, none], []), ([], []), (6, [(-1, 5)]))
def kC156_10 : aC := (([kvB 41 41, kvB 0 7, kvB 0 1, kvB 3 5, kvA, kvB 0 6, kvB 1 8], [(7, 7, .inl (6, .ofNat 0))], 84, [kvR 6, kvI 0, kvI 1, kvI 2, kvN 0, kvI 3, kvI 4, kvI 5, none], []), ([], []), (6, [(-1, 5)]))
def kC156_11 : aC := (([kvB 40 40, kvB 0 7, kvB 0 1, kvB 3 5, kvA, kvB 0 6, kvB 1 8], [(7, 7, .inl (6, .ofNat 0))], 84, [kvR 6, kvI 0, kvI 1, kvI 2, kvN 0, kvI 3, kvI 4, kvI 5, none], []), ([], []), (6, [(-1, 5)]))
def kC156_12 : aC := (([kvB 35 35, kvB 0 7, kvB 0 1, kvB 3 5, kvA, kvB 0 6, kvB 1 8], [(7, 7, .inl (6, .ofNat 0))], 84, [kvR 6, kvI 0, kvI 1, kvI 2, kvN 0, kvI 3, kvI 4, kvI 5, none], []), ([], []), (6, [(-1, 5)]))
def kC156_13 : aC := (([kvB 34 34, kvB 0 7, kvB 0 1, kvB 3 5, kvA, kvB 0 6, kvB 1 8], [(7, 7, .inl (6, .ofNat 0))], 84, [kvR 6, kvI 0, kvI 1, kvI 2, kvN 0, kvI 3, kvI 4, kvI 5, none], []), ([], []), (6, [(-1, 5)]))
def kC156_14 : aC := (([kvB 33 33, kvB 0 7, kvB 0 1, kvB 3 5, kvA, kvB 0 6, kvB 1 8], [(7, 7, .inl (6, .ofNat 0))], 84, [kvR 6, kvI 0, kvI 1, kvI 2, kvN 0, kvI 3, kvI 4, kvI 5, none], []), ([], []), (6, [(-1, 5)]))
def kC156_15 : aC := (([kvB 32 32, kvB 0 7, kvB 0 1, kvB 3 5, kvA, kvB 0 6, kvB 1 8], [(7, 7, .inl (6, .ofNat 0))], 84, [kvR 6, kvI 0, kvI 1, kvI 2, kvN 0, kvI 3, kvI 4, kvI 5, none], []), ([], []), (6, [(-1, 5)]))
def kC156_16 : aC := (([kvB 31 31, kvB 0 7, kvB 0 1, kvB 3 5, kvA, kvB 0 6, kvB 1 8], [(7, 7, .inl (6, .ofNat 0))], 84, [kvR 6, kvI 0, kvI 1, kvI 2, kvN 0, kvI 3, kvI 4, kvI 5, none], []), ([], []), (6, [(-1, 5)]))
def kC156_17 : aC := (([kvB 30 30, kvB 0 7, kvB 0 1, kvB 3 5, kvA, kvB 0 6, kvB 1 8], [(7, 7, .inl (6, .ofNat 0))], 84, [kvR 6, kvI 0, kvI 1, kvI 2, kvN 0, kvI 3, kvI 4, kvI 5, none], []), ([], []), (6, [(-1, 5)]))
def kC156_18 : aC := (([kvB 25 25, kvB 0 7, kvB 0 1, kvB 3 5, kvA, kvB 0 6, kvB 1 8], [(7, 7, .inl (6, .ofNat 0))], 84, [kvR 6, kvI 0, kvI 1, kvI 2, kvN 0, kvI 3, kvI 4, kvI 5, none], []), ([], []), (6, [(-1, 5)]))
def kC156_19 : aC := (([kvB 24 24, kvB 0 7, kvB 0 1, kvB 3 5, kvA, kvB 0 6, kvB 1 8], [(7, 7, .inl (6, .ofNat 0))], 84, [kvR 6, kvI 0, kvI 1, kvI 2, kvN 0, kvI 3, kvI 4, kvI 5, none], []), ([], []), (6, [(-1, 5)]))
def kC156_20 : aC := (([kvB 23 23, kvB 0 7, kvB 0 1, kvB 3 5, kvA, kvB 0 6, kvB 1 8], [(7, 7, .inl (6, .ofNat 0))], 84, [kvR 6, kvI 0, kvI 1, kvI 2, kvN 0, kvI 3, kvI 4, kvI 5, none], []), ([], []), (6, [(-1, 5)]))
def kC156_21 : aC := (([kvB 22 22, kvB 0 7, kvB 0 1, kvB 3 5, kvA, kvB 0 6, kvB 1 8], [(7, 7, .inl (6, .ofNat 0))], 84, [kvR 6, kvI 0, kvI 1, kvI 2, kvN 0, kvI 3, kvI 4, kvI 5, none], []), ([], []), (6, [(-1, 5)]))
def kC156_22 : aC := (([kvB 21 21, kvB 0 7, kvB 0 1, kvB 3 5, kvA, kvB 0 6, kvB 1 8], [(7, 7, .inl (6, .ofNat 0))], 84, [kvR 6, kvI 0, kvI 1, kvI 2, kvN 0, kvI 3, kvI 4, kvI 5, none], []), ([], []), (6, [(-1, 5)]))
def kC156_23 : aC := (([kvB 20 20, kvB 0 7, kvB 0 1, kvB 3 5, kvA, kvB 0 6, kvB 1 8], [(7, 7, .inl (6, .ofNat 0))], 84, [kvR 6, kvI 0, kvI 1, kvI 2, kvN 0, kvI 3, kvI 4, kvI 5, none], []), ([], []), (6, [(-1, 5)]))
def kC156_24 : aC := (([kvB 15 15, kvB 0 7, kvB 0 1, kvB 3 5, kvA, kvB 0 6, kvB 1 8], [(7, 7, .inl (6, .ofNat 0))], 84, [kvR 6, kvI 0, kvI 1, kvI 2, kvN 0, kvI 3, kvI 4, kvI 5, none], []), ([], []), (6, [(-1, 5)]))
def kC156_25 : aC := (([kvB 14 14, kvB 0 7, kvB 0 1, kvB 3 5, kvA, kvB 0 6, kvB 1 8], [(7, 7, .inl (6, .ofNat 0))], 84, [kvR 6, kvI 0, kvI 1, kvI 2, kvN 0, kvI 3, kvI 4, kvI 5, none], []), ([], []), (6, [(-1, 5)]))
def kC156_26 : aC := (([kvB 13 13, kvB 0 7, kvB 0 1, kvB 3 5, kvA, kvB 0 6, kvB 1 8], [(7, 7, .inl (6, .ofNat 0))], 84, [kvR 6, kvI 0, kvI 1, kvI 2, kvN 0, kvI 3, kvI 4, kvI 5, none], []), ([], []), (6, [(-1, 5)]))
def kC156_27 : aC := (([kvB 12 12, kvB 0 7, kvB 0 1, kvB 3 5, kvA, kvB 0 6, kvB 1 8], [(7, 7, .inl (6, .ofNat 0))], 84, [kvR 6, kvI 0, kvI 1, kvI 2, kvN 0, kvI 3, kvI 4, kvI 5, none], []), ([], []), (6, [(-1, 5)]))
def kC156_28 : aC := (([kvB 11 11, kvB 0 7, kvB 0 1, kvB 3 5, kvA, kvB 0 6, kvB 1 8], [(7, 7, .inl (6, .ofNat 0))], 84, [kvR 6, kvI 0, kvI 1, kvI 2, kvN 0, kvI 3, kvI 4, kvI 5, none], []), ([], []), (6, [(-1, 5)]))
def kC156_29 : aC := (([kvB 10 10, kvB 0 7, kvB 0 1, kvB 3 5, kvA, kvB 0 6, kvB 1 8], [(7, 7, .inl (6, .ofNat 0))], 84, [kvR 6, kvI 0, kvI 1, kvI 2, kvN 0, kvI 3, kvI 4, kvI 5, none], []), ([], []), (6, [(-1, 5)]))
def kC156_30 : aC := (([kvB 5 5, kvB 0 7, kvB 0 1, kvB 3 5, kvA, kvB 0 6, kvB 1 8], [(7, 7, .inl (6, .ofNat 0))], 84, [kvR 6, kvI 0, kvI 1, kvI 2, kvN 0, kvI 3, kvI 4, kvI 5, none], []), ([], []), (6, [(-1, 5)]))
def kC156_31 : aC := (([kvB 4 4, kvB 0 7, kvB 0 1, kvB 3 5, kvA, kvB 0 6, kvB 1 8], [(7, 7, .inl (6, .ofNat 0))], 84, [kvR 6, kvI 0, kvI 1, kvI 2, kvN 0, kvI 3, kvI 4, kvI 5, none], []), ([], []), (6, [(-1, 5)]))
def kC156_32 : aC := (([kvB 3 3, kvB 0 7, kvB 0 1, kvB 3 5, kvA, kvB 0 6, kvB 1 8], [(7, 7, .inl (6, .ofNat 0))], 84, [kvR 6, kvI 0, kvI 1, kvI 2, kvN 0, kvI 3, kvI 4, kvI 5, none], []), ([], []), (6, [(-1, 5)]))
def kC156_33 : aC := (([kvB 2 2, kvB 0 7, kvB 0 1, kvB 3 5, kvA, kvB 0 6, kvB 1 8], [(7, 7, .inl (6, .ofNat 0))], 84, [kvR 6, kvI 0, kvI 1, kvI 2, kvN 0, kvI 3, kvI 4, kvI 5, none], []), ([], []), (6, [(-1, 5)]))
def kC156_34 : aC := (([kvB 1 1, kvB 0 7, kvB 0 1, kvB 3 5, kvA, kvB 0 6, kvB 1 8], [(7, 7, .inl (6, .ofNat 0))], 84, [kvR 6, kvI 0, kvI 1, kvI 2, kvN 0, kvI 3, kvI 4, kvI 5, none], []), ([], []), (6, [(-1, 5)]))
def kC156_35 : aC := (([kvB 0 0, kvB 0 7, kvB 0 1, kvB 3 5, kvA, kvB 0 6, kvB 1 8], [(7, 7, .inl (6, .ofNat 0))], 84, [kvR 6, kvI 0, kvI 1, kvI 2, kvN 0, kvI 3, kvI 4, kvI 5, none], []), ([], []), (6, [(-1, 5)]))
theorem ks156 : aseg kS krf kB [kE138, kE139, kE140, kE141, kE142, kE143, kE144, kE145, kE146, kE147, kE148, kE149, kE96, kE150, kE151, kE152, kE153, kE154, kE155] (ksp [(111, 0, 1, 0, 59, 0)]) kE156 [kC156_0, kC156_1, kC156_2, kC156_3, kC156_4, kC156_5, kC156_6, kC156_7, kC156_8, kC156_9, kC156_10, kC156_11, kC156_12, kC156_13, kC156_14, kC156_15, kC156_16, kC156_17, kC156_18, kC156_19, kC156_20, kC156_21, kC156_22, kC156_23, kC156_24, kC156_25, kC156_26, kC156_27, kC156_28, kC156_29, kC156_30, kC156_31, kC156_32, kC156_33, kC156_34, kC156_35] 30000 (none) = true := asgqw (by decide +kernel)
theorem ks156_0 : aseg kS krf kB [kE138, kE139, kE140, kE141, kE142, kE143, kE144, kE145, kE146, kE147, kE148, kE149, kE96, kE150, kE151, kE152, kE153, kE154, kE155] (ksp [(111, 0, 1, 0, 59, 0)]) kE156 [kC156_0, kC156_1, kC156_2, kC156_3, kC156_4, kC156_5, kC156_6, kC156_7, kC156_8, kC156_9, kC156_10, kC156_11, kC156_12, kC156_13, kC156_14, kC156_15, kC156_16, kC156_17, kC156_18, kC156_19, kC156_20, kC156_21, kC156_22, kC156_23, kC156_24, kC156_25, kC156_26, kC156_27, kC156_28, kC156_29, kC156_30, kC156_31, kC156_32, kC156_33, kC156_34, kC156_35] 30000 (some kC156_0) = true := asgqw (by decide +kernel)
theorem ks156_1 : aseg kS krf kB [kE138, kE139, kE140, kE141, kE142, kE143, kE144, kE145, kE146, kE147, kE148, kE149, kE96, kE150, kE151, kE152, kE153, kE154, kE155] (ksp [(111, 0, 1, 0, 59, 0)]) kE156 [kC156_0, kC156_1, kC156_2, kC156_3, kC156_4, kC156_5, kC156_6, kC156_7, kC156_8, kC156_9, kC156_10, kC156_11, kC156_12, kC156_13, kC156_14, kC156_15, kC156_16, kC156_17, kC156_18, kC156_19, kC156_20, kC156_21, kC156_22, kC156_23, kC156_24, kC156_25, kC156_26, kC156_27, kC156_28, kC156_29, kC156_30, kC156_31, kC156_32, kC156_33, kC156_34, kC156_35] 30000 (some kC156_1) = true := asgqw (by decide +kernel)
theorem ks156_2 : aseg kS krf kB [kE138, kE139, kE140, kE141, kE142, kE143, kE144, kE145, kE146, kE147, kE148, kE149, kE96, kE150, kE151, kE152, kE153, kE154, kE155] (ksp [(111, 0, 1, 0, 59, 0)]) kE156 [kC156_0, kC156_1, kC156_2, kC156_3, kC156_4, kC156_5, kC156_6, kC156_7, kC156_8, kC156_9, kC156_10, kC156_11, kC156_12, kC156_13, kC156_14, kC156_15, kC156_16, kC156_17, kC156_18, kC156_19, kC156_20, kC156_21, kC156_22, kC156_23, kC156_24, kC156_25, kC156_26, kC156_27, kC156_28, kC156_29, kC156_30, kC156_31, kC156_32, kC156_33, kC156_34, kC156_35] 30000 (some kC156_2) = true := asgqw (by decide +kernel)
theorem ks156_3 : aseg kS krf kB [kE138, kE139, kE140, kE141, kE142, kE143, kE144, kE145, kE146, kE147, kE148, kE149, kE96, kE150, kE151, kE152, kE153, kE154, kE155] (ksp [(111, 0, 1, 0, 59, 0)]) kE156 [kC156_0, kC156_1, kC156_2, kC156_3, kC156_4, kC156_5, kC156_6, kC156_7, kC156_8, kC156_9, kC156_10, kC156_11, kC156_12, kC156_13, kC156_14, kC156_15, kC156_16, kC156_17, kC156_18, kC156_19, kC156_20, kC156_21, kC156_22, kC156_23, kC156_24, kC156_25, kC156_26, kC156_27, kC156_28, kC156_29, kC156_30, kC156_31, kC156_32, kC156_33, kC156_34, kC156_35] 30000 (some kC156_3) = true := asgqw (by decide +kernel)
theorem ks156_4 : aseg kS krf kB [kE138, kE139, kE140, kE141, kE142, kE143, kE144, kE145, kE146, kE147, kE148, kE149, kE96, kE150, kE151, kE152, kE153, kE154, kE155] (ksp [(111, 0, 1, 0, 59, 0)]) kE156 [kC156_0, kC156_1, kC156_2, kC156_3, kC156_4, kC156_5, kC156_6, kC156_7, kC156_8, kC156_9, kC156_10, kC156_11, kC156_12, kC156_13, kC156_14, kC156_15, kC156_16, kC156_17, kC156_18, kC156_19, kC156_20, kC156_21, kC156_22, kC156_23, kC156_24, kC156_25, kC156_26, kC156_27, kC156_28, kC156_29, kC156_30, kC156_31, kC156_32, kC156_33, kC156_34, kC156_35] 30000 (some kC156_4) = true := asgqw (by decide +kernel)
theorem ks156_5 : aseg kS krf kB [kE138, kE139, kE140, kE141, kE142, kE143, kE144, kE145, kE146, kE147, kE148, kE149, kE96, kE150, kE151, kE152, kE153, kE154, kE155] (ksp [(111, 0, 1, 0, 59, 0)]) kE156 [kC156_0, kC156_1, kC156_2, kC156_3, kC156_4, kC156_5, kC156_6, kC156_7, kC156_8, kC156_9, kC156_10, kC156_11, kC156_12, kC156_13, kC156_14, kC156_15, kC156_16, kC156_17, kC156_18, kC156_19, kC156_20, kC156_21, kC156_22, kC156_23, kC156_24, kC156_25, kC156_26, kC156_27, kC156_28, kC156_29, kC156_30, kC156_31, kC156_32, kC156_33, kC156_34, kC156_35] 30000 (some kC156_5) = true := asgqw (by decide +kernel)
theorem ks156_6 : aseg kS krf kB [kE138, kE139, kE140, kE141, kE142, kE143, kE144, kE145, kE146, kE147, kE148, kE149, kE96, kE150, kE151, kE152, kE153, kE154, kE155] (ksp [(111, 0, 1, 0, 59, 0)]) kE156 [kC156_0, kC156_1, kC156_2, kC156_3, kC156_4, kC156_5, kC156_6, kC156_7, kC156_8, kC156_9, kC156_10, kC156_11, kC156_12, kC156_13, kC156_14, kC156_15, kC156_16, kC156_17, kC156_18, kC156_19, kC156_20, kC156_21, kC156_22, kC156_23, kC156_24, kC156_25, kC156_26, kC156_27, kC156_28, kC156_29, kC156_30, kC156_31, kC156_32, kC156_33, kC156_34, kC156_35] 30000 (some kC156_6) = true := asgqw (by decide +kernel)
theorem ks156_7 : aseg kS krf kB [kE138, kE139, kE140, kE141, kE142, kE143, kE144, kE145, kE146, kE147, kE148, kE149, kE96, kE150, kE151, kE152, kE153, kE154, kE155] (ksp [(111, 0, 1, 0, 59, 0)]) kE156 [kC156_0, kC156_1, kC156_2, kC156_3, kC156_4, kC156_5, kC156_6, kC156_7, kC156_8, kC156_9, kC156_10, kC156_11, kC156_12, kC156_13, kC156_14, kC156_15, kC156_16, kC156_17, kC156_18, kC156_19, kC156_20, kC156_21, kC156_22, kC156_23, kC156_24, kC156_25, kC156_26, kC156_27, kC156_28, kC156_29, kC156_30, kC156_31, kC156_32, kC156_33, kC156_34, kC156_35] 30000 (some kC156_7) = true := asgqw (by decide +kernel)
theorem ks156_8 : aseg kS krf kB [kE138, kE139, kE140, kE141, kE142, kE143, kE144, kE145, kE146, kE147, kE148, kE149, kE96, kE150, kE151, kE152, kE153, kE154, kE155] (ksp [(111, 0, 1, 0, 59, 0)]) kE156 [kC156_0, kC156_1, kC156_2, kC156_3, kC156_4, kC156_5, kC156_6, kC156_7, kC156_8, kC156_9, kC156_10, kC156_11, kC156_12, kC156_13, kC156_14, kC156_15, kC156_16, kC156_17, kC156_18, kC156_19, kC156_20, kC156_21, kC156_22, kC156_23, kC156_24, kC156_25, kC156_26, kC156_27, kC156_28, kC156_29, kC156_30, kC156_31, kC156_32, kC156_33, kC156_34, kC156_35] 30000 (some kC156_8) = true := asgqw (by decide +kernel)
theorem ks156_9 : aseg kS krf kB [kE138, kE139, kE140, kE141, kE142, kE143, kE144, kE145, kE146, kE147, kE148, kE149, kE96, kE150, kE151, kE152, kE153, kE154, kE155] (ksp [(111, 0, 1, 0, 59, 0)]) kE156 [kC156_0, kC156_1, kC156_2, kC156_3, kC156_4, kC156_5, kC156_6, kC156_7, kC156_8, kC156_9, kC156_10, kC156_11, kC156_12, kC156_13, kC156_14, kC156_15, kC156_16, kC156_17, kC156_18, kC156_19, kC156_20, kC156_21, kC156_22, kC156_23, kC156_24, kC156_25, kC156_26, kC156_27, kC156_28, kC156_29, kC156_30, kC156_31, kC156_32, kC156_33, kC156_34, kC156_35] 30000 (some kC156_9) = true := asgqw (by decide +kernel)
theorem ks156_10 : aseg kS krf kB [kE138, kE139, kE140, kE141, kE142, kE143, kE144, kE145, kE146, kE147, kE148, kE149, kE96, kE150, kE151, kE152, kE153, kE154, kE155] (ksp [(111, 0, 1, 0, 59, 0)]) kE156 [kC156_0, kC156_1, kC156_2, kC156_3, kC156_4, kC156_5, kC156_6, kC156_7, kC156_8, kC156_9, kC156_10, kC156_11, kC156_12, kC156_13, kC156_14, kC156_15, kC156_16, kC156_17, kC156_18, kC156_19, kC156_20, kC156_21, kC156_22, kC156_23, kC156_24, kC156_25, kC156_26, kC156_27, kC156_28, kC156_29, kC156_30, kC156_31, kC156_32, kC156_33, kC156_34, kC156_35] 30000 (some kC156_10) = true := asgqw (by decide +kernel)
theorem ks156_11 : aseg kS krf kB [kE138, kE139, kE140, kE141, kE142, kE143, kE144, kE145, kE146, kE147, kE148, kE149, kE96, kE150, kE151, kE152, kE153, kE154, kE155] (ksp [(111, 0, 1, 0, 59, 0)]) kE156 [kC156_0, kC156_1, kC156_2, kC156_3, kC156_4, kC156_5, kC156_6, kC156_7, kC156_8, kC156_9, kC156_10, kC156_11, kC156_12, kC156_13, kC156_14, kC156_15, kC156_16, kC156_17, kC156_18, kC156_19, kC156_20, kC156_21, kC156_22, kC156_23, kC156_24, kC156_25, kC156_26, kC156_27, kC156_28, kC156_29, kC156_30, kC156_31, kC156_32, kC156_33, kC156_34, kC156_35] 30000 (some kC156_11) = true := asgqw (by decide +kernel)
theorem ks156_12 : aseg kS krf kB [kE138, kE139, kE140, kE141, kE142, kE143, kE144, kE145, kE146, kE147, kE148, kE149, kE96, kE150, kE151, kE152, kE153, kE154, kE155] (ksp [(111, 0, 1, 0, 59, 0)]) kE156 [kC156_0, kC156_1, kC156_2, kC156_3, kC156_4, kC156_5, kC156_6, kC156_7, kC156_8, kC156_9, kC156_10, kC156_11, kC156_12, kC156_13, kC156_14, kC156_15, kC156_16, kC156_17, kC156_18, kC156_19, kC156_20, kC156_21, kC156_22, kC156_23, kC156_24, kC156_25, kC156_26, kC156_27, kC156_28, kC156_29, kC156_30, kC156_31, kC156_32, kC156_33, kC156_34, kC156_35] 30000 (some kC156_12) = true := asgqw (by decide +kernel)
theorem ks156_13 : aseg kS krf kB [kE138, kE139, kE140, kE141, kE142, kE143, kE144, kE145, kE146, kE147, kE148, kE149, kE96, kE150, kE151, kE152, kE153, kE154, kE155] (ksp [(111, 0, 1, 0, 59, 0)]) kE156 [kC156_0, kC156_1, kC156_2, kC156_3, kC156_4, kC156_5, kC156_6, kC156_7, kC156_8, kC156_9, kC156_10, kC156_11, kC156_12, kC156_13, kC156_14, kC156_15, kC156_16, kC156_17, kC156_18, kC156_19, kC156_20, kC156_21, kC156_22, kC156_23, kC156_24, kC156_25, kC156_26, kC156_27, kC156_28, kC156_29, kC156_30, kC156_31, kC156_32, kC156_33, kC156_34, kC156_35] 30000 (some kC156_13) = true := asgqw (by decide +kernel)
theorem ks156_14 : aseg kS krf kB [kE138, kE139, kE140, kE141, kE142, kE143, kE144, kE145, kE146, kE147, kE148, kE149, kE96, kE150, kE151, kE152, kE153, kE154, kE155] (ksp [(111, 0, 1, 0, 59, 0)]) kE156 [kC156_0, kC156_1, kC156_2, kC156_3, kC156_4, kC156_5, kC156_6, kC156_7, kC156_8, kC156_9, kC156_10, kC156_11, kC156_12, kC156_13, kC156_14, kC156_15, kC156_16, kC156_17, kC156_18, kC156_19, kC156_20, kC156_21, kC156_22, kC156_23, kC156_24, kC156_25, kC156_26, kC156_27, kC156_28, kC156_29, kC156_30, kC156_31, kC156_32, kC156_33, kC156_34, kC156_35] 30000 (some kC156_14) = true := asgqw (by decide +kernel)
theorem ks156_15 : aseg kS krf kB [kE138, kE139, kE140, kE141, kE142, kE143, kE144, kE145, kE146, kE147, kE148, kE149, kE96, kE150, kE151, kE152, kE153, kE154, kE155] (ksp [(111, 0, 1, 0, 59, 0)]) kE156 [kC156_0, kC156_1, kC156_2, kC156_3, kC156_4, kC156_5, kC156_6, kC156_7, kC156_8, kC156_9, kC156_10, kC156_11, kC156_12, kC156_13, kC156_14, kC156_15, kC156_16, kC156_17, kC156_18, kC156_19, kC156_20, kC156_21, kC156_22, kC156_23, kC156_24, kC156_25, kC156_26, kC156_27, kC156_28, kC156_29, kC156_30, kC156_31, kC156_32, kC156_33, kC156_34, kC156_35] 30000 (some kC156_15) = true := asgqw (by decide +kernel)
theorem ks156_16 : aseg kS krf kB [kE138, kE139, kE140, kE141, kE142, kE143, kE144, kE145, kE146, kE147, kE148, kE149, kE96, kE150, kE151, kE152, kE153, kE154, kE155] (ksp [(111, 0, 1, 0, 59, 0)]) kE156 [kC156_0, kC156_1, kC156_2, kC156_3, kC156_4, kC156_5, kC156_6, kC156_7, kC156_8, kC156_9, kC156_10, kC156_11, kC156_12, kC156_13, kC156_14, kC156_15, kC156_16, kC156_17, kC156_18, kC156_19, kC156_20, kC156_21, kC156_22, kC156_23, kC156_24, kC156_25, kC156_26, kC156_27, kC156_28, kC156_29, kC156_30, kC156_31, kC156_32, kC156_33, kC156_34, kC156_35] 30000 (some kC156_16) = true := asgqw (by decide +kernel)
theorem ks156_17 : aseg kS krf kB [kE138, kE139, kE140, kE141, kE142, kE143, kE144, kE145, kE146, kE147, kE148, kE149, kE96, kE150, kE151, kE152, kE153, kE154, kE155] (ksp [(111, 0, 1, 0, 59, 0)]) kE156 [kC156_0, kC156_1, kC156_2, kC156_3, kC156_4, kC156_5, kC156_6, kC156_7, kC156_8, kC156_9, kC156_10, kC156_11, kC156_12, kC156_13, kC156_14, kC156_15, kC156_16, kC156_17, kC156_18, kC156_19, kC156_20, kC156_21, kC156_22, kC156_23, kC156_24, kC156_25, kC156_26, kC156_27, kC156_28, kC156_29, kC156_30, kC156_31, kC156_32, kC156_33, kC156_34, kC156_35] 30000 (some kC156_17) = true := asgqw (by decide +kernel)
theorem ks156_18 : aseg kS krf kB [kE138, kE139, kE140, kE141, kE142, kE143, kE144, kE145, kE146, kE147, kE148, kE149, kE96, kE150, kE151, kE152, kE153, kE154, kE155] (ksp [(111, 0, 1, 0, 59, 0)]) kE156 [kC156_0, kC156_1, kC156_2, kC156_3, kC156_4, kC156_5, kC156_6, kC156_7, kC156_8, kC156_9, kC156_10, kC156_11, kC156_12, kC156_13, kC156_14, kC156_15, kC156_16, kC156_17, kC156_18, kC156_19, kC156_20, kC156_21, kC156_22, kC156_23, kC156_24, kC156_25, kC156_26, kC156_27, kC156_28, kC156_29, kC156_30, kC156_31, kC156_32, kC156_33, kC156_34, kC156_35] 30000 (some kC156_18) = true := asgqw (by decide +kernel)
theorem ks156_19 : aseg kS krf kB [kE138, kE139, kE140, kE141, kE142, kE143, kE144, kE145, kE146, kE147, kE148, kE149, kE96, kE150, kE151, kE152, kE153, kE154, kE155] (ksp [(111, 0, 1, 0, 59, 0)]) kE156 [kC156_0, kC156_1, kC156_2, kC156_3, kC156_4, kC156_5, kC156_6, kC156_7, kC156_8, kC156_9, kC156_10, kC156_11, kC156_12, kC156_13, kC156_14, kC156_15, kC156_16, kC156_17, kC156_18, kC156_19, kC156_20, kC156_21, kC156_22, kC156_23, kC156_24, kC156_25, kC156_26, kC156_27, kC156_28, kC156_29, kC156_30, kC156_31, kC156_32, kC156_33, kC156_34, kC156_35] 30000 (some kC156_19) = true := asgqw (by decide +kernel)
theorem ks156_20 : aseg kS krf kB [kE138, kE139, kE140, kE141, kE142, kE143, kE144, kE145, kE146, kE147, kE148, kE149, kE96, kE150, kE151, kE152, kE153, kE154, kE155] (ksp [(111, 0, 1, 0, 59, 0)]) kE156 [kC156_0, kC156_1, kC156_2, kC156_3, kC156_4, kC156_5, kC156_6, kC156_7, kC156_8, kC156_9, kC156_10, kC156_11, kC156_12, kC156_13, kC156_14, kC156_15, kC156_16, kC156_17, kC156_18, kC156_19, kC156_20, kC156_21, kC156_22, kC156_23, kC156_24, kC156_25, kC156_26, kC156_27, kC156_28, kC156_29, kC156_30, kC156_31, kC156_32, kC156_33, kC156_34, kC156_35] 30000 (some kC156_20) = true := asgqw (by decide +kernel)
theorem ks156_21 : aseg kS krf kB [kE138, kE139, kE140, kE141, kE142, kE143, kE144, kE145, kE146, kE147, kE148, kE149, kE96, kE150, kE151, kE152, kE153, kE154, kE155] (ksp [(111, 0, 1, 0, 59, 0)]) kE156 [kC156_0, kC156_1, kC156_2, kC156_3, kC156_4, kC156_5, kC156_6, kC156_7, kC156_8, kC156_9, kC156_10, kC156_11, kC156_12, kC156_13, kC156_14, kC156_15, kC156_16, kC156_17, kC156_18, kC156_19, kC156_20, kC156_21, kC156_22, kC156_23, kC156_24, kC156_25, kC156_26, kC156_27, kC156_28, kC156_29, kC156_30, kC156_31, kC156_32, kC156_33, kC156_34, kC156_35] 30000 (some kC156_21) = true := asgqw (by decide +kernel)
theorem ks156_22 : aseg kS krf kB [kE138, kE139, kE140, kE141, kE142, kE143, kE144, kE145, kE146, kE147, kE148, kE149, kE96, kE150, kE151, kE152, kE153, kE154, kE155] (ksp [(111, 0, 1, 0, 59, 0)]) kE156 [kC156_0, kC156_1, kC156_2, kC156_3, kC156_4, kC156_5, kC156_6, kC156_7, kC156_8, kC156_9, kC156_10, kC156_11, kC156_12, kC156_13, kC156_14, kC156_15, kC156_16, kC156_17, kC156_18, kC156_19, kC156_20, kC156_21, kC156_22, kC156_23, kC156_24, kC156_25, kC156_26, kC156_27, kC156_28, kC156_29, kC156_30, kC156_31, kC156_32, kC156_33, kC156_34, kC156_35] 30000 (some kC156_22) = true := asgqw (by decide +kernel)
theorem ks156_23 : aseg kS krf kB [kE138, kE139, kE140, kE141, kE142, kE143, kE144, kE145, kE146, kE147, kE148, kE149, kE96, kE150, kE151, kE152, kE153, kE154, kE155] (ksp [(111, 0, 1, 0, 59, 0)]) kE156 [kC156_0, kC156_1, kC156_2, kC156_3, kC156_4, kC156_5, kC156_6, kC156_7, kC156_8, kC156_9, kC156_10, kC156_11, kC156_12, kC156_13, kC156_14, kC156_15, kC156_16, kC156_17, kC156_18, kC156_19, kC156_20, kC156_21, kC156_22, kC156_23, kC156_24, kC156_25, kC156_26, kC156_27, kC156_28, kC156_29, kC156_30, kC156_31, kC156_32, kC156_33, kC156_34, kC156_35] 30000 (some kC156_23) = true := asgqw (by decide +kernel)
theorem ks156_24 : aseg kS krf kB [kE138, kE139, kE140, kE141, kE142, kE143, kE144, kE145, kE146, kE147, kE148, kE149, kE96, kE150, kE151, kE152, kE153, kE154, kE155] (ksp [(111, 0, 1, 0, 59, 0)]) kE156 [kC156_0, kC156_1, kC156_2, kC156_3, kC156_4, kC156_5, kC156_6, kC156_7, kC156_8, kC156_9, kC156_10, kC156_11, kC156_12, kC156_13, kC156_14, kC156_15, kC156_16, kC156_17, kC156_18, kC156_19, kC156_20, kC156_21, kC156_22, kC156_23, kC156_24, kC156_25, kC156_26, kC156_27, kC156_28, kC156_29, kC156_30, kC156_31, kC156_32, kC156_33, kC156_34, kC156_35] 30000 (some kC156_24) = true := asgqw (by decide +kernel)
theorem ks156_25 : aseg kS krf kB [kE138, kE139, kE140, kE141, kE142, kE143, kE144, kE145, kE146, kE147, kE148, kE149, kE96, kE150, kE151, kE152, kE153, kE154, kE155] (ksp [(111, 0, 1, 0, 59, 0)]) kE156 [kC156_0, kC156_1, kC156_2, kC156_3, kC156_4, kC156_5, kC156_6, kC156_7, kC156_8, kC156_9, kC156_10, kC156_11, kC156_12, kC156_13, kC156_14, kC156_15, kC156_16, kC156_17, kC156_18, kC156_19, kC156_20, kC156_21, kC156_22, kC156_23, kC156_24, kC156_25, kC156_26, kC156_27, kC156_28, kC156_29, kC156_30, kC156_31, kC156_32, kC156_33, kC156_34, kC156_35] 30000 (some kC156_25) = true := asgqw (by decide +kernel)
theorem ks156_26 : aseg kS krf kB [kE138, kE139, kE140, kE141, kE142, kE143, kE144, kE145, kE146, kE147, kE148, kE149, kE96, kE150, kE151, kE152, kE153, kE154, kE155] (ksp [(111, 0, 1, 0, 59, 0)]) kE156 [kC156_0, kC156_1, kC156_2, kC156_3, kC156_4, kC156_5, kC156_6, kC156_7, kC156_8, kC156_9, kC156_10, kC156_11, kC156_12, kC156_13, kC156_14, kC156_15, kC156_16, kC156_17, kC156_18, kC156_19, kC156_20, kC156_21, kC156_22, kC156_23, kC156_24, kC156_25, kC156_26, kC156_27, kC156_28, kC156_29, kC156_30, kC156_31, kC156_32, kC156_33, kC156_34, kC156_35] 30000 (some kC156_26) = true := asgqw (by decide +kernel)
theorem ks156_27 : aseg kS krf kB [kE138, kE139, kE140, kE141, kE142, kE143, kE144, kE145, kE146, kE147, kE148, kE149, kE96, kE150, kE151, kE152, kE153, kE154, kE155] (ksp [(111, 0, 1, 0, 59, 0)]) kE156 [kC156_0, kC156_1, kC156_2, kC156_3, kC156_4, kC156_5, kC156_6, kC156_7, kC156_8, kC156_9, kC156_10, kC156_11, kC156_12, kC156_13, kC156_14, kC156_15, kC156_16, kC156_17, kC156_18, kC156_19, kC156_20, kC156_21, kC156_22, kC156_23, kC156_24, kC156_25, kC156_26, kC156_27, kC156_28, kC156_29, kC156_30, kC156_31, kC156_32, kC156_33, kC156_34, kC156_35] 30000 (some kC156_27) = true := asgqw (by decide +kernel)
theorem ks156_28 : aseg kS krf kB [kE138, kE139, kE140, kE141, kE142, kE143, kE144, kE145, kE146, kE147, kE148, kE149, kE96, kE150, kE151, kE152, kE153, kE154, kE155] (ksp [(111, 0, 1, 0, 59, 0)]) kE156 [kC156_0, kC156_1, kC156_2, kC156_3, kC156_4, kC156_5, kC156_6, kC156_7, kC156_8, kC156_9, kC156_10, kC156_11, kC156_12, kC156_13, kC156_14, kC156_15, kC156_16, kC156_17, kC156_18, kC156_19, kC156_20, kC156_21, kC156_22, kC156_23, kC156_24, kC156_25, kC156_26, kC156_27, kC156_28, kC156_29, kC156_30, kC156_31, kC156_32, kC156_33, kC156_34, kC156_35] 30000 (some kC156_28) = true := asgqw (by decide +kernel)
theorem ks156_29 : aseg kS krf kB [kE138, kE139, kE140, kE141, kE142, kE143, kE144, kE145, kE146, kE147, kE148, kE149, kE96, kE150, kE151, kE152, kE153, kE154, kE155] (ksp [(111, 0, 1, 0, 59, 0)]) kE156 [kC156_0, kC156_1, kC156_2, kC156_3, kC156_4, kC156_5, kC156_6, kC156_7, kC156_8, kC156_9, kC156_10, kC156_11, kC156_12, kC156_13, kC156_14, kC156_15, kC156_16, kC156_17, kC156_18, kC156_19, kC156_20, kC156_21, kC156_22, kC156_23, kC156_24, kC156_25, kC156_26, kC156_27, kC156_28, kC156_29, kC156_30, kC156_31, kC156_32, kC156_33, kC156_34, kC156_35] 30000 (some kC156_29) = true := asgqw (by decide +kernel)
theorem ks156_30 : aseg kS krf kB [kE138, kE139, kE140, kE141, kE142, kE143, kE144, kE145, kE146, kE147, kE148, kE149, kE96, kE150, kE151, kE152, kE153, kE154, kE155] (ksp [(111, 0, 1, 0, 59, 0)]) kE156 [kC156_0, kC156_1, kC156_2, kC156_3, kC156_4, kC156_5, kC156_6, kC156_7, kC156_8, kC156_9, kC156_10, kC156_11, kC156_12, kC156_13, kC156_14, kC156_15, kC156_16, kC156_17, kC156_18, kC156_19, kC156_20, kC156_21, kC156_22, kC156_23, kC156_24, kC156_25, kC156_26, kC156_27, kC156_28, kC156_29, kC156_30, kC156_31, kC156_32, kC156_33, kC156_34, kC156_35] 30000 (some kC156_30) = true := asgqw (by decide +kernel)
theorem ks156_31 : aseg kS krf kB [kE138, kE139, kE140, kE141, kE142, kE143, kE144, kE145, kE146, kE147, kE148, kE149, kE96, kE150, kE151, kE152, kE153, kE154, kE155] (ksp [(111, 0, 1, 0, 59, 0)]) kE156 [kC156_0, kC156_1, kC156_2, kC156_3, kC156_4, kC156_5, kC156_6, kC156_7, kC156_8, kC156_9, kC156_10, kC156_11, kC156_12, kC156_13, kC156_14, kC156_15, kC156_16, kC156_17, kC156_18, kC156_19, kC156_20, kC156_21, kC156_22, kC156_23, kC156_24, kC156_25, kC156_26, kC156_27, kC156_28, kC156_29, kC156_30, kC156_31, kC156_32, kC156_33, kC156_34, kC156_35] 30000 (some kC156_31) = true := asgqw (by decide +kernel)
theorem ks156_32 : aseg kS krf kB [kE138, kE139, kE140, kE141, kE142, kE143, kE144, kE145, kE146, kE147, kE148, kE149, kE96, kE150, kE151, kE152, kE153, kE154, kE155] (ksp [(111, 0, 1, 0, 59, 0)]) kE156 [kC156_0, kC156_1, kC156_2, kC156_3, kC156_4, kC156_5, kC156_6, kC156_7, kC156_8, kC156_9, kC156_10, kC156_11, kC156_12, kC156_13, kC156_14, kC156_15, kC156_16, kC156_17, kC156_18, kC156_19, kC156_20, kC156_21, kC156_22, kC156_23, kC156_24, kC156_25, kC156_26, kC156_27, kC156_28, kC156_29, kC156_30, kC156_31, kC156_32, kC156_33, kC156_34, kC156_35] 30000 (some kC156_32) = true := asgqw (by decide +kernel)
theorem ks156_33 : aseg kS krf kB [kE138, kE139, kE140, kE141, kE142, kE143, kE144, kE145, kE146, kE147, kE148, kE149, kE96, kE150, kE151, kE152, kE153, kE154, kE155] (ksp [(111, 0, 1, 0, 59, 0)]) kE156 [kC156_0, kC156_1, kC156_2, kC156_3, kC156_4, kC156_5, kC156_6, kC156_7, kC156_8, kC156_9, kC156_10, kC156_11, kC156_12, kC156_13, kC156_14, kC156_15, kC156_16, kC156_17, kC156_18, kC156_19, kC156_20, kC156_21, kC156_22, kC156_23, kC156_24, kC156_25, kC156_26, kC156_27, kC156_28, kC156_29, kC156_30, kC156_31, kC156_32, kC156_33, kC156_34, kC156_35] 30000 (some kC156_33) = true := asgqw (by decide +kernel)
theorem ks156_34 : aseg kS krf kB [kE138, kE139, kE140, kE141, kE142, kE143, kE144, kE145, kE146, kE147, kE148, kE149, kE96, kE150, kE151, kE152, kE153, kE154, kE155] (ksp [(111, 0, 1, 0, 59, 0)]) kE156 [kC156_0, kC156_1, kC156_2, kC156_3, kC156_4, kC156_5, kC156_6, kC156_7, kC156_8, kC156_9, kC156_10, kC156_11, kC156_12, kC156_13, kC156_14, kC156_15, kC156_16, kC156_17, kC156_18, kC156_19, kC156_20, kC156_21, kC156_22, kC156_23, kC156_24, kC156_25, kC156_26, kC156_27, kC156_28, kC156_29, kC156_30, kC156_31, kC156_32, kC156_33, kC156_34, kC156_35] 30000 (some kC156_34) = true := asgqw (by decide +kernel)
theorem ks156_35 : aseg kS krf kB [kE138, kE139, kE140, kE141, kE142, kE143, kE144, kE145, kE146, kE147, kE148, kE149, kE96, kE150, kE151, kE152, kE153, kE154, kE155] (ksp [(111, 0, 1, 0, 59, 0)]) kE156 [kC156_0, kC156_1, kC156_2, kC156_3, kC156_4, kC156_5, kC156_6, kC156_7, kC156_8, kC156_9, kC156_10, kC156_11, kC156_12, kC156_13, kC156_14, kC156_15, kC156_16, kC156_17, kC156_18, kC156_19, kC156_20, kC156_21, kC156_22, kC156_23, kC156_24, kC156_25, kC156_26, kC156_27, kC156_28, kC156_29, kC156_30, kC156_31, kC156_32, kC156_33, kC156_34, kC156_35] 30000 (some kC156_35) = true := asgqw (by decide +kernel)
theorem kok156 : aOK kS krf kB kE156 := aOK_of (kal1 kok138 (kal1 kok139 (kal1 kok140 (kal1 kok141 (kal1 kok142 (kal1 kok143 (kal1 kok144 (kal1 kok145 (kal1 kok146 (kal1 kok147 (kal1 kok148 (kal1 kok149 (kal1 kok96 (kal1 kok150 (kal1 kok151 (kal1 kok152 (kal1 kok153 (kal1 kok154 (kal1 kok155 kal0))))))))))))))))))) (kcl1 ks156_0 (kcl1 ks156_1 (kcl1 ks156_2 (kcl1 ks156_3 (kcl1 ks156_4 (kcl1 ks156_5 (kcl1 ks156_6 (kcl1 ks156_7 (kcl1 ks156_8 (kcl1 ks156_9 (kcl1 ks156_10 (kcl1 ks156_11 (kcl1 ks156_12 (kcl1 ks156_13 (kcl1 ks156_14 (kcl1 ks156_15 (kcl1 ks156_16 (kcl1 ks156_17 (kcl1 ks156_18 (kcl1 ks156_19 (kcl1 ks156_20 (kcl1 ks156_21 (kcl1 ks156_22 (kcl1 ks156_23 (kcl1 ks156_24 (kcl1 ks156_25 (kcl1 ks156_26 (kcl1 ks156_27 (kcl1 ks156_28 (kcl1 ks156_29 (kcl1 ks156_30 (kcl1 ks156_31 (kcl1 ks156_32 (kcl1 ks156_33 (kcl1 ks156_34 (kcl1 ks156_35 kcl0)))))))))))))))))))))))))))))))))))) ks156
