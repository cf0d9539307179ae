/-! ENTRIES and their checks: printed by a program (wip/ai). -/
/-- ColdShodModel.act(III)I -/
def kE19 : aE := (226, 7, ([(.negSucc 2147483647, .ofNat 2147483647), (.negSucc 2147483647, .ofNat 2147483647), (.negSucc 2147483647, .ofNat 2147483647)], [], 0, [some (.inr [102]), some (.inl (.inl (.inl (0, .ofNat 0)))), some (.inl (.inl (.inl (1, .ofNat 0)))), some (.inl (.inl (.inl (2, .ofNat 0))))], []), ([], none), ([(.negSucc 2147483647, .ofNat 2147483647)], [], some (.inl (.inl (.inl (3, .ofNat 0)))), ([], [])), ([(102, 42), (102, 43), (102, 44), (123, 0), (123, 1), (123, 2), (123, 3), (123, 4), (123, 5), (123, 6), (123, 7), (123, 8), (123, 9), (123, 10), (123, 11), (123, 12), (123, 13)], []))
theorem ks19 : aseg kS krf kB [] (ksp []) kE19 [] 30000 (none) = true := by decide +kernel
theorem kok19 : aOK kS krf kB kE19 := aOK_of kal0 kcl0 ks19
/-- ColdShod.body(I)I -/
def kE20 : aE := (125, 1, ([(.negSucc 2147483647, .ofNat 2147483647)], [], 0, [some (.inr [6]), some (.inl (.inl (.inl (0, .ofNat 0))))], []), ([], none), ([(.negSucc 2, .ofNat 49)], [], some (.inl (.inl (.inl (1, .ofNat 0)))), ([], [])), ([(47, 1)], [48]))
theorem ks20 : aseg kS krf kB [] (ksp []) kE20 [] 30000 (none) = true := by decide +kernel
theorem kok20 : aOK kS krf kB kE20 := aOK_of kal0 kcl0 ks20
/-- ColdShodModel.body(I)I -/
def kE21 : aE := (219, 1, ([(.negSucc 2147483647, .ofNat 2147483647)], [], 0, [some (.inr [102]), some (.inl (.inl (.inl (0, .ofNat 0))))], []), ([], none), ([(.negSucc 2, .ofNat 49)], [], some (.inl (.inl (.inl (1, .ofNat 0)))), ([], [])), ([(102, 39)], [122]))
theorem ks21 : aseg kS krf kB [] (ksp []) kE21 [] 30000 (none) = true := by decide +kernel
theorem kok21 : aOK kS krf kB kE21 := aOK_of kal0 kcl0 ks21
/-- ColdShod.redo()I -/
def kE22 : aE := (124, 4, ([], [], 0, [some (.inr [6])], []), ([], none), ([(.negSucc 2147483647, .ofNat 2147483647)], [], some (.inl (.inl (.inl (0, .ofNat 0)))), ([], [])), ([(20, 0), (20, 1), (20, 2), (20, 3), (20, 4), (20, 5), (20, 6), (21, 0), (21, 1), (21, 2), (21, 3), (21, 4), (21, 5), (21, 6), (22, 0), (22, 1), (22, 2), (22, 3), (22, 4), (22, 5), (22, 6), (23, 0), (23, 1), (23, 2), (23, 3), (23, 4), (23, 5), (23, 6), (24, 0), (24, 1), (24, 2), (24, 3), (24, 4), (24, 5), (24, 6), (25, 0), (25, 1), (25, 2), (25, 3), (25, 4), (25, 5), (25, 6), (26, 0), (26, 1), (26, 2), (26, 3), (26, 4), (26, 5), (26, 6), (27, 0), (27, 1), (27, 2), (27, 3), (27, 4), (27, 5), (27, 6), (28, 2), (28, 3), (28, 4), (29, 2), (29, 3), (29, 4), (30, 2), (30, 3), (30, 4), (31, 2), (31, 3), (31, 4), (32, 2), (32, 3), (32, 4), (33, 2), (33, 3), (33, 4), (34, 2), (34, 3), (34, 4), (35, 2), (35, 3), (35, 4), (36, 2), (36, 3), (36, 4), (37, 2), (37, 3), (37, 4), (38, 2), (38, 3), (38, 4), (39, 2), (39, 3), (39, 4), (42, 0), (42, 1)], [8, 9]))
theorem ks22 : aseg kS krf kB [] (ksp []) kE22 [] 30000 (none) = true := by decide +kernel
theorem kok22 : aOK kS krf kB kE22 := aOK_of kal0 kcl0 ks22
/-- ColdShodModel.redo()I -/
def kE23 : aE := (150, 0, ([], [], 0, [some (.inr [102])], []), ([], none), ([(.negSucc 4, .ofNat 40)], [], some (.inl (.inl (.inl (0, .ofNat 0)))), ([], [])), ([(102, 5)], [103]))
theorem kok23 : aOK kS krf kB kE23 := hand_redo
/-- ColdShod.undo()I -/
def kE24 : aE := (123, 4, ([], [], 0, [some (.inr [6])], []), ([], none), ([(.negSucc 4, .ofNat 39)], [], some (.inl (.inl (.inl (0, .ofNat 0)))), ([], [])), ([(20, 0), (20, 1), (20, 2), (20, 3), (20, 4), (20, 5), (20, 6), (21, 0), (21, 1), (21, 2), (21, 3), (21, 4), (21, 5), (21, 6), (22, 0), (22, 1), (22, 2), (22, 3), (22, 4), (22, 5), (22, 6), (23, 0), (23, 1), (23, 2), (23, 3), (23, 4), (23, 5), (23, 6), (24, 0), (24, 1), (24, 2), (24, 3), (24, 4), (24, 5), (24, 6), (25, 0), (25, 1), (25, 2), (25, 3), (25, 4), (25, 5), (25, 6), (26, 0), (26, 1), (26, 2), (26, 3), (26, 4), (26, 5), (26, 6), (27, 0), (27, 1), (27, 2), (27, 3), (27, 4), (27, 5), (27, 6), (28, 2), (28, 3), (28, 4), (29, 2), (29, 3), (29, 4), (30, 2), (30, 3), (30, 4), (31, 2), (31, 3), (31, 4), (32, 2), (32, 3), (32, 4), (33, 2), (33, 3), (33, 4), (34, 2), (34, 3), (34, 4), (35, 2), (35, 3), (35, 4), (36, 2), (36, 3), (36, 4), (37, 2), (37, 3), (37, 4), (38, 2), (38, 3), (38, 4), (39, 2), (39, 3), (39, 4), (42, 0), (42, 1)], [8, 9]))
theorem ks24 : aseg kS krf kB [] (ksp []) kE24 [] 30000 (none) = true := by decide +kernel
theorem kok24 : aOK kS krf kB kE24 := aOK_of kal0 kcl0 ks24
/-- ColdShodModel.undo()I -/
def kE25 : aE := (149, 0, ([], [], 0, [some (.inr [102])], []), ([], none), ([(.negSucc 4, .ofNat 40)], [], some (.inl (.inl (.inl (0, .ofNat 0)))), ([], [])), ([(102, 5)], [103]))
theorem kok25 : aOK kS krf kB kE25 := hand_undo
/-- ColdShod.back()I -/
def kE26 : aE := (122, 1, ([], [], 0, [some (.inr [6]), none], []), ([], none), ([(.negSucc 2147483647, .ofNat 2147483647)], [], some (.inl (.inl (.inl (0, .ofNat 0)))), ([], [])), ([(20, 1), (20, 2), (20, 3), (20, 5), (20, 6), (21, 1), (21, 2), (21, 3), (21, 5), (21, 6), (22, 1), (22, 2), (22, 3), (22, 5), (22, 6), (23, 1), (23, 2), (23, 3), (23, 5), (23, 6), (24, 1), (24, 2), (24, 3), (24, 5), (24, 6), (25, 1), (25, 2), (25, 3), (25, 5), (25, 6), (26, 1), (26, 2), (26, 3), (26, 5), (26, 6), (27, 1), (27, 2), (27, 3), (27, 5), (27, 6)], [73, 1000]))
def kC26_0 : aC := (([(.ofNat 0, .ofNat 8), (.ofNat 0, .ofNat 8)], [(6, 12, .inl (1, .ofNat 0))], 13, [some (.inr [6]), some (.inl (.inl (.inl (0, .ofNat 0))))], []), ([], []), (8, [(-1, 0)]))
theorem ks26 : aseg kS krf kB [] (ksp []) kE26 [kC26_0] 30000 (none) = true := by decide +kernel
theorem ks26_0 : aseg kS krf kB [] (ksp []) kE26 [kC26_0] 30000 (some kC26_0) = true := by decide +kernel
theorem kok26 : aOK kS krf kB kE26 := aOK_of kal0 (kcl1 ks26_0 kcl0) ks26
/-- ColdShodModel.back()I -/
def kE27 : aE := (216, 0, ([], [], 0, [some (.inr [102]), none], []), ([], none), ([(.negSucc 2147483647, .ofNat 2147483647)], [], some (.inl (.inl (.inl (0, .ofNat 0)))), ([], [])), ([], [103, 119]))
def kC27_0 : aC := (([(.ofNat 0, .ofNat 8)], [(102, 35, .inr (.ofNat 1))], 12, [some (.inr [102]), some (.inl (.inl (.inl (0, .ofNat 0))))], []), ([], []), (20, [(-1, 0)]))
def kC27_1 : aC := (([(.ofNat 0, .ofNat 5)], [(102, 35, .inr (.ofNat 1))], 118, [some (.inr [102]), some (.inl (.inl (.inl (0, .ofNat 0))))], []), ([], []), (5, [(-1, 0)]))
theorem ks27 : aseg kS krf kB [] (ksp []) kE27 [kC27_0, kC27_1] 30000 (none) = true := by decide +kernel
theorem ks27_0 : aseg kS krf kB [] (ksp []) kE27 [kC27_0, kC27_1] 30000 (some kC27_0) = true := by decide +kernel
theorem ks27_1 : aseg kS krf kB [] (ksp []) kE27 [kC27_0, kC27_1] 30000 (some kC27_1) = true := by decide +kernel
theorem kok27 : aOK kS krf kB kE27 := aOK_of kal0 (kcl1 ks27_0 (kcl1 ks27_1 kcl0)) ks27
/-- ColdShod.image()I -/
def kE28 : aE := (121, 2, ([], [], 0, [some (.inr [6]), none], []), ([], none), ([(.negSucc 2147483647, .ofNat 2147483647)], [], some (.inl (.inl (.inl (0, .ofNat 0)))), ([], [])), ([(6, 12), (94, 0), (94, 1), (94, 2), (94, 3), (94, 4), (94, 5), (94, 6), (95, 0), (95, 1), (95, 2), (95, 3), (95, 4), (95, 5), (95, 6), (96, 0), (96, 1), (96, 2), (96, 3), (96, 4), (96, 5), (96, 6), (97, 0), (97, 1), (97, 2), (97, 3), (97, 4), (97, 5), (97, 6), (98, 0), (98, 1), (98, 2), (98, 3), (98, 4), (98, 5), (98, 6), (99, 0), (99, 1), (99, 2), (99, 3), (99, 4), (99, 5), (99, 6), (100, 0), (100, 1), (100, 2), (100, 3), (100, 4), (100, 5), (100, 6), (101, 0), (101, 1), (101, 2), (101, 3), (101, 4), (101, 5), (101, 6)], [75, 1000]))
def kC28_0 : aC := (([(.ofNat 0, .ofNat 8)], [], 2, [some (.inr [6]), some (.inl (.inl (.inl (0, .ofNat 0))))], []), ([], []), (8, [(-1, 0)]))
theorem ks28 : aseg kS krf kB [] (ksp []) kE28 [kC28_0] 30000 (none) = true := by decide +kernel
theorem ks28_0 : aseg kS krf kB [] (ksp []) kE28 [kC28_0] 30000 (some kC28_0) = true := by decide +kernel
theorem kok28 : aOK kS krf kB kE28 := aOK_of kal0 (kcl1 ks28_0 kcl0) ks28
/-- ColdShodModel.image()I -/
def kE29 : aE := (215, 0, ([], [], 0, [some (.inr [102]), none], []), ([], none), ([(.negSucc 2147483647, .ofNat 2147483647)], [], some (.inl (.inl (.inl (0, .ofNat 0)))), ([], [])), ([(102, 35), (102, 36), (120, 0), (120, 1), (120, 2), (120, 3), (120, 4), (120, 5), (120, 6), (120, 7), (120, 8), (120, 9), (120, 10), (120, 11), (120, 12), (120, 13), (120, 14), (120, 15), (120, 16), (120, 17), (120, 18), (120, 19), (120, 20), (120, 21), (120, 22), (120, 23), (120, 24), (120, 25), (120, 26), (120, 27), (120, 28), (120, 29), (120, 30), (120, 31), (120, 32), (120, 33), (120, 34), (120, 35), (120, 36), (120, 37), (120, 38), (120, 39), (120, 40), (120, 41), (120, 42), (120, 43), (120, 44), (120, 45), (120, 46), (120, 47), (120, 48), (120, 49), (120, 50), (120, 51), (120, 52), (120, 53), (120, 54), (120, 55), (120, 56), (120, 57), (120, 58), (120, 59), (120, 60), (120, 61), (120, 62), (120, 63), (120, 64), (120, 65), (120, 66), (120, 67), (120, 68), (120, 69), (120, 70), (120, 71), (120, 72), (120, 73), (120, 74), (120, 75), (120, 76), (120, 77), (120, 78), (120, 79), (120, 80), (120, 81), (120, 82), (120, 83), (120, 84), (120, 85), (120, 86), (120, 87), (120, 88), (120, 89), (120, 90), (120, 91), (120, 92), (120, 93), (120, 94), (120, 95), (120, 96), (120, 97), (120, 98), (120, 99), (120, 100), (120, 101), (120, 102), (120, 103)], [121]))
def kC29_0 : aC := (([(.ofNat 0, .ofNat 104)], [(102, 35, .inr (.ofNat 1))], 15, [some (.inr [102]), some (.inl (.inl (.inl (0, .ofNat 0))))], []), ([], []), (212, [(-1, 0)]))
def kC29_1 : aC := (([(.ofNat 0, .ofNat 5)], [(102, 35, .inr (.ofNat 1))], 41, [some (.inr [102]), some (.inl (.inl (.inl (0, .ofNat 0))))], []), ([], []), (5, [(-1, 0)]))
theorem ks29 : aseg kS krf kB [] (ksp [(215, 15, 1, -1000, 1000, 0)]) kE29 [kC29_0, kC29_1] 30000 (none) = true := by decide +kernel
theorem ks29_0 : aseg kS krf kB [] (ksp [(215, 15, 1, -1000, 1000, 0)]) kE29 [kC29_0, kC29_1] 30000 (some kC29_0) = true := by decide +kernel
theorem ks29_1 : aseg kS krf kB [] (ksp [(215, 15, 1, -1000, 1000, 0)]) kE29 [kC29_0, kC29_1] 30000 (some kC29_1) = true := by decide +kernel
theorem kok29 : aOK kS krf kB kE29 := aOK_of kal0 (kcl1 ks29_0 (kcl1 ks29_1 kcl0)) ks29
/-- ColdShod.led(I)I -/
def kE30 : aE := (120, 0, ([(.negSucc 2147483647, .ofNat 2147483647)], [], 0, [some (.inr [6]), some (.inl (.inl (.inl (0, .ofNat 0))))], []), ([], none), ([(.negSucc 2147483647, .ofNat 2147483647)], [], some (.inl (.inl (.inl (1, .ofNat 0)))), ([], [])), ([], []))
theorem ks30 : aseg kS krf kB [] (ksp []) kE30 [] 30000 (none) = true := by decide +kernel
theorem kok30 : aOK kS krf kB kE30 := aOK_of kal0 kcl0 ks30
/-- ColdShodModel.led(I)I -/
def kE31 : aE := (214, 1, ([(.negSucc 2147483647, .ofNat 2147483647)], [], 0, [some (.inr [102]), some (.inl (.inl (.inl (0, .ofNat 0))))], []), ([], none), ([(.negSucc 2147483647, .ofNat 2147483647)], [], some (.inl (.inl (.inl (1, .ofNat 0)))), ([], [])), ([], []))
theorem ks31 : aseg kS krf kB [] (ksp []) kE31 [] 30000 (none) = true := by decide +kernel
theorem kok31 : aOK kS krf kB kE31 := aOK_of kal0 kcl0 ks31
/-- java/util/Arrays.fill([II)V -/
def kE32 : aE := (240, 0, ([(.negSucc 1, .negSucc 1)], [], 0, [some (.inr [12]), some (.inl (.inl (.inl (0, .ofNat 0)))), none, none], []), ([], none), ([], [], none, ([], [])), ([], [12]))
def kC32_0 : aC := (([(.negSucc 1, .negSucc 1), (.ofNat 0, .ofNat 6)], [], 5, [some (.inr [12]), some (.inl (.inl (.inl (0, .ofNat 0)))), some (.inl (.inl (.inl (1, .ofNat 0)))), some (.inl (.inl (.inr (.ofNat 6))))], []), ([], []), (6, [(-1, 1)]))
theorem ks32 : aseg kS krf kB [] (ksp []) kE32 [kC32_0] 30000 (none) = true := by decide +kernel
theorem ks32_0 : aseg kS krf kB [] (ksp []) kE32 [kC32_0] 30000 (some kC32_0) = true := by decide +kernel
theorem kok32 : aOK kS krf kB kE32 := aOK_of kal0 (kcl1 ks32_0 kcl0) ks32
/-- ColdShod$Country.firstOfOthers(I)I -/
def kE33 : aE := (26, 2, ([(.negSucc 2147483647, .ofNat 2147483647)], [], 0, [some (.inr [7]), some (.inl (.inl (.inl (0, .ofNat 0)))), none, none], []), ([], none), ([(.negSucc 0, .ofNat 5)], [], some (.inl (.inl (.inl (1, .ofNat 0)))), ([], [])), ([], []))
def kC33_0 : aC := (([(.negSucc 2147483647, .ofNat 2147483647), (.negSucc 0, .ofNat 5), (.ofNat 0, .ofNat 6)], [], 4, [some (.inr [7]), some (.inl (.inl (.inl (0, .ofNat 0)))), some (.inl (.inl (.inl (1, .ofNat 0)))), some (.inl (.inl (.inl (2, .ofNat 0))))], []), ([], []), (6, [(-1, 2)]))
theorem ks33 : aseg kS krf kB [] (ksp []) kE33 [kC33_0] 30000 (none) = true := by decide +kernel
theorem ks33_0 : aseg kS krf kB [] (ksp []) kE33 [kC33_0] 30000 (some kC33_0) = true := by decide +kernel
theorem kok33 : aOK kS krf kB kE33 := aOK_of kal0 (kcl1 ks33_0 kcl0) ks33
/-- ColdShod$Country.nearestOfOthers(II)I -/
def kE34 : aE := (27, 2, ([(.ofNat 0, .ofNat 5), (.negSucc 2147483647, .ofNat 2147483647)], [], 0, [some (.inr [7]), some (.inl (.inl (.inl (0, .ofNat 0)))), some (.inl (.inl (.inl (1, .ofNat 0)))), none, none], []), ([], none), ([(.negSucc 1, .ofNat 7)], [], some (.inl (.inl (.inl (2, .ofNat 0)))), ([], [])), ([], []))
def kC34_0 : aC := (([(.ofNat 0, .ofNat 5), (.negSucc 2147483647, .ofNat 2147483647), (.negSucc 1, .ofNat 7), (.ofNat 0, .ofNat 8)], [], 6, [some (.inr [7]), some (.inl (.inl (.inl (0, .ofNat 0)))), some (.inl (.inl (.inl (1, .ofNat 0)))), some (.inl (.inl (.inl (2, .ofNat 0)))), some (.inl (.inl (.inl (3, .ofNat 0))))], []), ([], []), (8, [(-1, 3)]))
theorem ks34 : aseg kS krf kB [] (ksp []) kE34 [kC34_0] 30000 (none) = true := by decide +kernel
theorem ks34_0 : aseg kS krf kB [] (ksp []) kE34 [kC34_0] 30000 (some kC34_0) = true := by decide +kernel
theorem kok34 : aOK kS krf kB kE34 := aOK_of kal0 (kcl1 ks34_0 kcl0) ks34
/-- ColdShod$Country.letAllAsk()V -/
def kE35 : aE := (25, 3, ([], [], 0, [some (.inr [7]), none, none, none, none], []), ([], none), ([], [], none, ([], [])), ([], [12]))
def kC35_0 : aC := (([(.negSucc 2147483647, .ofNat 2147483647), (.negSucc 2147483647, .ofNat 2147483647), (.ofNat 0, .ofNat 6)], [], 15, [some (.inr [7]), some (.inl (.inl (.inl (0, .ofNat 0)))), some (.inl (.inl (.inl (1, .ofNat 0)))), some (.inl (.inl (.inl (2, .ofNat 0)))), none], []), ([], []), (6, [(-1, 2)]))
theorem ks35 : aseg kS krf kB [kE32, kE33, kE34] (ksp []) kE35 [kC35_0] 30000 (none) = true := by decide +kernel
theorem ks35_0 : aseg kS krf kB [kE32, kE33, kE34] (ksp []) kE35 [kC35_0] 30000 (some kC35_0) = true := by decide +kernel
theorem kok35 : aOK kS krf kB kE35 := aOK_of (kal1 kok32 (kal1 kok33 (kal1 kok34 kal0))) (kcl1 ks35_0 kcl0) ks35
/-- ColdShod.deal()I -/
def kE36 : aE := (119, 4, ([], [], 0, [some (.inr [6]), none, none], []), ([], none), ([(.negSucc 2147483647, .ofNat 2147483647)], [], some (.inl (.inl (.inl (0, .ofNat 0)))), ([], [])), ([(20, 6), (21, 6), (22, 6), (23, 6), (24, 6), (25, 6), (26, 6), (27, 6)], [12]))
def kC36_0 : aC := (([(.ofNat 0, .ofNat 8)], [], 9, [some (.inr [6]), some (.inl (.inl (.inl (0, .ofNat 0)))), none], []), ([], []), (20, [(-1, 0)]))
def kC36_1 : aC := (([(.negSucc 2147483647, .ofNat 2147483647), (.ofNat 0, .ofNat 6)], [], 43, [some (.inr [6]), some (.inl (.inl (.inl (0, .ofNat 0)))), some (.inl (.inl (.inl (1, .ofNat 0))))], []), ([], []), (6, [(-1, 1)]))
theorem ks36 : aseg kS krf kB [kE35] (ksp [(119, 43, 2, -1000, 1000, 0)]) kE36 [kC36_0, kC36_1] 30000 (none) = true := by decide +kernel
theorem ks36_0 : aseg kS krf kB [kE35] (ksp [(119, 43, 2, -1000, 1000, 0)]) kE36 [kC36_0, kC36_1] 30000 (some kC36_0) = true := by decide +kernel
theorem ks36_1 : aseg kS krf kB [kE35] (ksp [(119, 43, 2, -1000, 1000, 0)]) kE36 [kC36_0, kC36_1] 30000 (some kC36_1) = true := by decide +kernel
theorem kok36 : aOK kS krf kB kE36 := aOK_of (kal1 kok35 kal0) (kcl1 ks36_0 (kcl1 ks36_1 kcl0)) ks36
/-- ColdShodModel.allAsk()V -/
def kE37 : aE := (198, 2, ([], [], 0, [some (.inr [102]), none, none, none, none], []), ([], none), ([], [], none, ([], [])), ([], [116, 117]))
theorem kok37 : aOK kS krf kB kE37 := hand_allAsk
/-- ColdShodModel.deal()I -/
def kE38 : aE := (213, 3, ([], [], 0, [some (.inr [102]), none, none], []), ([], none), ([(.negSucc 2147483647, .ofNat 2147483647)], [], some (.inl (.inl (.inl (0, .ofNat 0)))), ([], [])), ([], [103, 116, 117]))
def kC38_0 : aC := (([(.negSucc 2147483647, .ofNat 2147483647), (.ofNat 0, .ofNat 8)], [], 8, [some (.inr [102]), some (.inl (.inl (.inl (0, .ofNat 0)))), some (.inl (.inl (.inl (1, .ofNat 0))))], []), ([], []), (8, [(-1, 1)]))
theorem ks38 : aseg kS krf kB [kE37] (ksp []) kE38 [kC38_0] 30000 (none) = true := by decide +kernel
theorem ks38_0 : aseg kS krf kB [kE37] (ksp []) kE38 [kC38_0] 30000 (some kC38_0) = true := by decide +kernel
theorem kok38 : aOK kS krf kB kE38 := aOK_of (kal1 kok37 kal0) (kcl1 ks38_0 kcl0) ks38
/-- ColdShod$LawCode.worth([I)I -/
def kE39 : aE := (58, 1, ([], [], 0, [some (.inr [14, 17]), some (.inr [13]), none, none, none, none, none, none], []), ([], none), ([(.negSucc 2147483647, .ofNat 2147483647)], [], some (.inl (.inl (.inl (0, .ofNat 0)))), ([], [])), ([], [16, 19]))
def kC39_0 : aC := (([(.ofNat 0, .ofNat 64), (.ofNat 0, .ofNat 2147483647), (.ofNat 0, .ofNat 242)], [], 32, [some (.inr [14, 17]), some (.inr [13]), some (.inl (.inl (.inl (0, .ofNat 0)))), some (.inl (.inl (.inl (1, .ofNat 0)))), some (.inl (.inl (.inl (2, .ofNat 0)))), none, none, none], []), ([], []), (242, [(-1, 2)]))
theorem ks39 : aseg kS krf kB [] (ksp [(60, 165, 2, 0, 0, 0), (60, 177, 2, 0, 0, 0)]) kE39 [kC39_0] 30000 (none) = true := by decide +kernel
theorem ks39_0 : aseg kS krf kB [] (ksp [(60, 165, 2, 0, 0, 0), (60, 177, 2, 0, 0, 0)]) kE39 [kC39_0] 30000 (some kC39_0) = true := by decide +kernel
theorem kok39 : aOK kS krf kB kE39 := aOK_of kal0 (kcl1 ks39_0 kcl0) ks39
/-- ColdShod$Country.wearOf(LColdShod$Idea;LColdShod$Road;)I -/
def kE40 : aE := (23, 2, ([], [], 0, [some (.inr [7]), some (.inr [20, 21, 22, 23, 24, 25, 26, 27]), some (.inr [28, 29, 30, 31, 32, 33, 34, 35, 36, 37, 38, 39])], []), ([], none), ([(.ofNat 0, .ofNat 9)], [], some (.inl (.inl (.inl (0, .ofNat 0)))), ([], [])), ([(13, 0), (13, 1), (13, 2), (13, 3), (13, 4), (13, 5)], [16, 19]))
theorem ks40 : aseg kS krf kB [kE39] (ksp [(23, 0, 1, -1000, 1000, 0)]) kE40 [] 30000 (none) = true := by decide +kernel
theorem kok40 : aOK kS krf kB kE40 := aOK_of (kal1 kok39 kal0) kcl0 ks40
/-- ColdShod$Country.travel(LColdShod$Idea;LColdShod$Road;)I -/
def kE41 : aE := (24, 3, ([], [], 0, [some (.inr [7]), some (.inr [20, 21, 22, 23, 24, 25, 26, 27]), some (.inr [28, 29, 30, 31, 32, 33, 34, 35, 36, 37, 38, 39]), none, none], []), ([], none), ([(.negSucc 1999999999, .ofNat 100000000)], [], some (.inl (.inl (.inl (0, .ofNat 0)))), ([], [])), ([(13, 0), (13, 1), (13, 2), (13, 3), (13, 4), (13, 5), (20, 2), (20, 3), (21, 2), (21, 3), (22, 2), (22, 3), (23, 2), (23, 3), (24, 2), (24, 3), (25, 2), (25, 3), (26, 2), (26, 3), (27, 2), (27, 3)], [16, 19]))
def kC41_0 : aC := (([(.ofNat 0, .ofNat 9), (.ofNat 1, .ofNat 100000001)], [], 20, [some (.inr [7]), some (.inr [20, 21, 22, 23, 24, 25, 26, 27]), some (.inr [28, 29, 30, 31, 32, 33, 34, 35, 36, 37, 38, 39]), some (.inl (.inl (.inl (0, .ofNat 0)))), some (.inl (.inl (.inl (1, .ofNat 0))))], []), ([], []), (100000001, [(-1, 1)]))
theorem ks41 : aseg kS krf kB [kE40] (ksp []) kE41 [kC41_0] 30000 (none) = true := by decide +kernel
theorem ks41_0 : aseg kS krf kB [kE40] (ksp []) kE41 [kC41_0] 30000 (some kC41_0) = true := by decide +kernel
theorem kok41 : aOK kS krf kB kE41 := aOK_of (kal1 kok40 kal0) (kcl1 ks41_0 kcl0) ks41
/-- ColdShod.goes(II)I -/
def kE42 : aE := (118, 4, ([(.negSucc 2147483647, .ofNat 2147483647), (.negSucc 2147483647, .ofNat 2147483647)], [], 0, [some (.inr [6]), some (.inl (.inl (.inl (0, .ofNat 0)))), some (.inl (.inl (.inl (1, .ofNat 0)))), none, none, none], []), ([], none), ([(.negSucc 1999999999, .ofNat 100000000)], [], some (.inl (.inl (.inl (2, .ofNat 0)))), ([], [])), ([(13, 0), (13, 1), (13, 2), (13, 3), (13, 4), (13, 5), (20, 2), (20, 3), (21, 2), (21, 3), (22, 2), (22, 3), (23, 2), (23, 3), (24, 2), (24, 3), (25, 2), (25, 3), (26, 2), (26, 3), (27, 2), (27, 3), (73, 2), (73, 3), (73, 4)], [16, 19]))
theorem ks42 : aseg kS krf kB [kE41] (ksp []) kE42 [] 30000 (none) = true := by decide +kernel
theorem kok42 : aOK kS krf kB kE42 := aOK_of (kal1 kok41 kal0) kcl0 ks42
/-- ColdShodModel.begins(I)V -/
def kE43 : aE := (178, 0, ([(.ofNat 0, .ofNat 7)], [], 0, [some (.inr [102]), some (.inl (.inl (.inl (0, .ofNat 0)))), none], []), ([], none), ([], [], none, ([], [])), ([], [112]))
def kC43_0 : aC := (([(.ofNat 0, .ofNat 7), (.ofNat 0, .ofNat 6)], [], 2, [some (.inr [102]), some (.inl (.inl (.inl (0, .ofNat 0)))), some (.inl (.inl (.inl (1, .ofNat 0))))], []), ([], []), (6, [(-1, 1)]))
theorem ks43 : aseg kS krf kB [] (ksp [(178, 34, 1, -1000, 1000, 0)]) kE43 [kC43_0] 30000 (none) = true := by decide +kernel
theorem ks43_0 : aseg kS krf kB [] (ksp [(178, 34, 1, -1000, 1000, 0)]) kE43 [kC43_0] 30000 (some kC43_0) = true := by decide +kernel
theorem kok43 : aOK kS krf kB kE43 := aOK_of kal0 (kcl1 ks43_0 kcl0) ks43
/-- ColdShodModel.wrong()I -/
def kE44 : aE := (167, 0, ([], [], 0, [some (.inr [102])], []), ([], none), ([(.ofNat 0, .ofNat 0)], [], some (.inl (.inl (.inl (0, .ofNat 0)))), ([], [])), ([(102, 18)], []))
theorem ks44 : aseg kS krf kB [] (ksp []) kE44 [] 30000 (none) = true := by decide +kernel
theorem kok44 : aOK kS krf kB kE44 := aOK_of kal0 kcl0 ks44
/-- ColdShodModel.one()I -/
def kE45 : aE := (175, 1, ([(.ofNat 6, .ofNat 120), (.ofNat 6, .ofNat 6)], [(102, 16, .inl (0, .ofNat 0)), (102, 19, .inl (1, .ofNat 0))], 0, [some (.inr [102]), none, none, none, none], []), ([], none), ([(.negSucc 2147483647, .ofNat 2147483647), (.ofNat 6, .ofNat 120), (.ofNat 6, .ofNat 6)], [(102, 16, .inl (3, .ofNat 0)), (102, 19, .inl (4, .ofNat 0))], some (.inl (.inl (.inl (2, .ofNat 0)))), ([(3, 0, 0)], [])), ([(102, 16), (102, 18)], []))
def kC45_0 : aC := (([(.ofNat 6, .ofNat 119), (.ofNat 6, .ofNat 6), (.ofNat 33, .ofNat 45), (.ofNat 7, .ofNat 120)], [(102, 16, .inl (0, .ofNat 0)), (102, 19, .inl (1, .ofNat 0)), (102, 18, .inr (.negSucc 0)), (102, 17, .inl (3, .ofNat 0))], 32, [some (.inr [102]), some (.inl (.inl (.inl (2, .ofNat 0)))), none, none, none], []), ([], []), (0, []))
def kC45_1 : aC := (([(.ofNat 6, .ofNat 120), (.ofNat 6, .ofNat 6), (.ofNat 0, .ofNat 255), (.negSucc 2147483647, .ofNat 2147483647), (.ofNat 0, .ofNat 4), (.ofNat 6, .ofNat 120)], [(102, 16, .inl (5, .ofNat 0)), (102, 19, .inl (1, .ofNat 0)), (102, 18, .inr (.negSucc 0))], 176, [some (.inr [102]), some (.inl (.inl (.inl (2, .ofNat 0)))), some (.inl (.inl (.inr (.negSucc 0)))), some (.inl (.inl (.inl (3, .ofNat 0)))), some (.inl (.inl (.inl (4, .ofNat 0))))], []), ([(5, 0, 0)], []), (12, [(-1, 4)]))
def kC45_2 : aC := (([(.ofNat 6, .ofNat 120), (.ofNat 6, .ofNat 6), (.ofNat 0, .ofNat 255), (.negSucc 2147483647, .ofNat 2147483647), (.ofNat 0, .ofNat 4), (.ofNat 6, .ofNat 120)], [(102, 16, .inl (5, .ofNat 0)), (102, 19, .inl (1, .ofNat 0)), (102, 18, .inr (.negSucc 0))], 229, [some (.inr [102]), some (.inl (.inl (.inl (2, .ofNat 0)))), some (.inl (.inl (.inr (.negSucc 0)))), some (.inl (.inl (.inl (3, .ofNat 0)))), some (.inl (.inl (.inl (4, .ofNat 0))))], []), ([(5, 0, 0)], []), (0, []))
theorem ks45 : aseg kS krf kB [kE44] (ksp []) kE45 [kC45_0, kC45_1, kC45_2] 30000 (none) = true := by decide +kernel
theorem ks45_0 : aseg kS krf kB [kE44] (ksp []) kE45 [kC45_0, kC45_1, kC45_2] 30000 (some kC45_0) = true := by decide +kernel
theorem ks45_1 : aseg kS krf kB [kE44] (ksp []) kE45 [kC45_0, kC45_1, kC45_2] 30000 (some kC45_1) = true := by decide +kernel
theorem ks45_2 : aseg kS krf kB [kE44] (ksp []) kE45 [kC45_0, kC45_1, kC45_2] 30000 (some kC45_2) = true := by decide +kernel
theorem kok45 : aOK kS krf kB kE45 := aOK_of (kal1 kok44 kal0) (kcl1 ks45_0 (kcl1 ks45_1 (kcl1 ks45_2 kcl0))) ks45
/-- ColdShodModel.product()I -/
def kE46 : aE := (173, 2, ([(.ofNat 6, .ofNat 120), (.ofNat 6, .ofNat 6)], [(102, 16, .inl (0, .ofNat 0)), (102, 19, .inl (1, .ofNat 0))], 0, [some (.inr [102]), none, none, none], []), ([], none), ([(.negSucc 2147483647, .ofNat 2147483647), (.ofNat 6, .ofNat 120), (.ofNat 6, .ofNat 6)], [(102, 16, .inl (3, .ofNat 0)), (102, 19, .inl (4, .ofNat 0))], some (.inl (.inl (.inl (2, .ofNat 0)))), ([(3, 0, 0)], [])), ([(102, 16), (102, 18)], []))
def kC46_0 : aC := (([(.ofNat 6, .ofNat 120), (.ofNat 6, .ofNat 6), (.negSucc 2147483647, .ofNat 2147483647), (.ofNat 0, .ofNat 255), (.ofNat 6, .ofNat 119), (.ofNat 7, .ofNat 120)], [(102, 19, .inr (.ofNat 6)), (102, 16, .inl (4, .ofNat 0)), (102, 17, .inl (5, .ofNat 0))], 10, [some (.inr [102]), some (.inl (.inl (.inl (2, .ofNat 0)))), some (.inl (.inl (.inl (3, .ofNat 0)))), none], []), ([(4, 0, 0)], []), (707, [(-3, 4)]))
def kC46_1 : aC := (([(.ofNat 6, .ofNat 120), (.ofNat 6, .ofNat 6), (.negSucc 2147483647, .ofNat 2147483647), (.ofNat 6, .ofNat 120)], [(102, 19, .inr (.ofNat 6)), (102, 16, .inl (3, .ofNat 0))], 10, [some (.inr [102]), some (.inl (.inl (.inl (2, .ofNat 0)))), some (.inl (.inl (.inr (.ofNat 0)))), none], []), ([(3, 0, 0)], []), (0, []))
def kC46_2 : aC := (([(.ofNat 6, .ofNat 120), (.ofNat 6, .ofNat 6), (.negSucc 2147483647, .ofNat 2147483647), (.ofNat 37, .ofNat 47), (.ofNat 6, .ofNat 119), (.ofNat 7, .ofNat 120)], [(102, 19, .inr (.ofNat 6)), (102, 16, .inl (4, .ofNat 0)), (102, 17, .inl (5, .ofNat 0)), (102, 18, .inr (.negSucc 0))], 35, [some (.inr [102]), some (.inl (.inl (.inl (2, .ofNat 0)))), some (.inl (.inl (.inl (3, .ofNat 0)))), none], []), ([(4, 0, 0)], []), (706, [(-3, 4)]))
theorem ks46 : aseg kS krf kB [kE45] (ksp [(173, 62, 3, 0, 0, 0)]) kE46 [kC46_0, kC46_1, kC46_2] 30000 (none) = true := by decide +kernel
theorem ks46_0 : aseg kS krf kB [kE45] (ksp [(173, 62, 3, 0, 0, 0)]) kE46 [kC46_0, kC46_1, kC46_2] 30000 (some kC46_0) = true := by decide +kernel
theorem ks46_1 : aseg kS krf kB [kE45] (ksp [(173, 62, 3, 0, 0, 0)]) kE46 [kC46_0, kC46_1, kC46_2] 30000 (some kC46_1) = true := by decide +kernel
theorem ks46_2 : aseg kS krf kB [kE45] (ksp [(173, 62, 3, 0, 0, 0)]) kE46 [kC46_0, kC46_1, kC46_2] 30000 (some kC46_2) = true := by decide +kernel
theorem kok46 : aOK kS krf kB kE46 := aOK_of (kal1 kok45 kal0) (kcl1 ks46_0 (kcl1 ks46_1 (kcl1 ks46_2 kcl0))) ks46
/-- ColdShodModel.sums()I -/
def kE47 : aE := (172, 3, ([(.ofNat 6, .ofNat 120), (.ofNat 6, .ofNat 6)], [(102, 16, .inl (0, .ofNat 0)), (102, 19, .inl (1, .ofNat 0))], 0, [some (.inr [102]), none, none, none], []), ([], none), ([(.negSucc 2147483647, .ofNat 2147483647), (.ofNat 6, .ofNat 120), (.ofNat 6, .ofNat 6)], [(102, 16, .inl (3, .ofNat 0)), (102, 19, .inl (4, .ofNat 0))], some (.inl (.inl (.inl (2, .ofNat 0)))), ([(3, 0, 0)], [])), ([(102, 16), (102, 18)], []))
def kC47_0 : aC := (([(.ofNat 6, .ofNat 120), (.ofNat 6, .ofNat 6), (.negSucc 2147483647, .ofNat 2147483647), (.ofNat 6, .ofNat 120)], [(102, 19, .inr (.ofNat 6)), (102, 16, .inl (3, .ofNat 0))], 5, [some (.inr [102]), some (.inl (.inl (.inl (2, .ofNat 0)))), none, none], []), ([(3, 0, 0)], []), (14034, [(-116, 3)]))
def kC47_1 : aC := (([(.ofNat 6, .ofNat 120), (.ofNat 6, .ofNat 6), (.negSucc 2147483647, .ofNat 2147483647), (.ofNat 6, .ofNat 119), (.ofNat 7, .ofNat 120)], [(102, 19, .inr (.ofNat 6)), (102, 16, .inl (3, .ofNat 0)), (102, 18, .inr (.negSucc 0)), (102, 17, .inl (4, .ofNat 0))], 30, [some (.inr [102]), some (.inl (.inl (.inl (2, .ofNat 0)))), none, none], []), ([(3, 0, 0)], []), (14040, [(-116, 3), (-1, 4)]))
theorem ks47 : aseg kS krf kB [kE46] (ksp []) kE47 [kC47_0, kC47_1] 30000 (none) = true := by decide +kernel
theorem ks47_0 : aseg kS krf kB [kE46] (ksp []) kE47 [kC47_0, kC47_1] 30000 (some kC47_0) = true := by decide +kernel
theorem ks47_1 : aseg kS krf kB [kE46] (ksp []) kE47 [kC47_0, kC47_1] 30000 (some kC47_1) = true := by decide +kernel
theorem kok47 : aOK kS krf kB kE47 := aOK_of (kal1 kok46 kal0) (kcl1 ks47_0 (kcl1 ks47_1 kcl0)) ks47
/-- ColdShodModel.compared()I -/
def kE48 : aE := (171, 4, ([(.ofNat 6, .ofNat 120), (.ofNat 6, .ofNat 6)], [(102, 16, .inl (0, .ofNat 0)), (102, 19, .inl (1, .ofNat 0))], 0, [some (.inr [102]), none, none, none], []), ([], none), ([(.negSucc 2147483647, .ofNat 2147483647), (.ofNat 6, .ofNat 120), (.ofNat 6, .ofNat 6)], [(102, 16, .inl (3, .ofNat 0)), (102, 19, .inl (4, .ofNat 0))], some (.inl (.inl (.inl (2, .ofNat 0)))), ([(3, 0, 0)], [])), ([(102, 16), (102, 18)], []))
def kC48_0 : aC := (([(.ofNat 6, .ofNat 120), (.ofNat 6, .ofNat 6), (.negSucc 2147483647, .ofNat 2147483647), (.ofNat 60, .ofNat 62), (.ofNat 6, .ofNat 119), (.ofNat 7, .ofNat 120)], [(102, 19, .inr (.ofNat 6)), (102, 16, .inl (4, .ofNat 0)), (102, 17, .inl (5, .ofNat 0)), (102, 18, .inr (.negSucc 0))], 37, [some (.inr [102]), some (.inl (.inl (.inl (2, .ofNat 0)))), some (.inl (.inl (.inl (3, .ofNat 0)))), none], []), ([(4, 0, 0)], []), (0, []))
theorem ks48 : aseg kS krf kB [kE47] (ksp []) kE48 [kC48_0] 30000 (none) = true := by decide +kernel
theorem ks48_0 : aseg kS krf kB [kE47] (ksp []) kE48 [kC48_0] 30000 (some kC48_0) = true := by decide +kernel
theorem kok48 : aOK kS krf kB kE48 := aOK_of (kal1 kok47 kal0) (kcl1 ks48_0 kcl0) ks48
/-- ColdShodModel.both()I -/
def kE49 : aE := (170, 5, ([(.ofNat 6, .ofNat 120), (.ofNat 6, .ofNat 6)], [(102, 16, .inl (0, .ofNat 0)), (102, 19, .inl (1, .ofNat 0))], 0, [some (.inr [102]), none, none], []), ([], none), ([(.negSucc 2147483647, .ofNat 2147483647), (.ofNat 6, .ofNat 120), (.ofNat 6, .ofNat 6)], [(102, 16, .inl (3, .ofNat 0)), (102, 19, .inl (4, .ofNat 0))], some (.inl (.inl (.inl (2, .ofNat 0)))), ([(3, 0, 0)], [])), ([(102, 16), (102, 18)], []))
def kC49_0 : aC := (([(.ofNat 6, .ofNat 120), (.ofNat 6, .ofNat 6), (.negSucc 2147483647, .ofNat 2147483647), (.ofNat 6, .ofNat 120)], [(102, 19, .inr (.ofNat 6)), (102, 16, .inl (3, .ofNat 0))], 5, [some (.inr [102]), some (.inl (.inl (.inl (2, .ofNat 0)))), none], []), ([(3, 0, 0)], []), (120, [(-1, 3)]))
theorem ks49 : aseg kS krf kB [kE48] (ksp []) kE49 [kC49_0] 30000 (none) = true := by decide +kernel
theorem ks49_0 : aseg kS krf kB [kE48] (ksp []) kE49 [kC49_0] 30000 (some kC49_0) = true := by decide +kernel
theorem kok49 : aOK kS krf kB kE49 := aOK_of (kal1 kok48 kal0) (kcl1 ks49_0 kcl0) ks49
/-- ColdShodModel.either()I -/
def kE50 : aE := (169, 6, ([(.ofNat 6, .ofNat 120), (.ofNat 6, .ofNat 6)], [(102, 16, .inl (0, .ofNat 0)), (102, 19, .inl (1, .ofNat 0))], 0, [some (.inr [102]), none, none], []), ([], none), ([(.negSucc 2147483647, .ofNat 2147483647), (.ofNat 6, .ofNat 120), (.ofNat 6, .ofNat 6)], [(102, 16, .inl (3, .ofNat 0)), (102, 19, .inl (4, .ofNat 0))], some (.inl (.inl (.inl (2, .ofNat 0)))), ([(3, 0, 0)], [])), ([(102, 16), (102, 18)], []))
def kC50_0 : aC := (([(.ofNat 6, .ofNat 120), (.ofNat 6, .ofNat 6), (.negSucc 2147483647, .ofNat 2147483647), (.ofNat 6, .ofNat 120)], [(102, 19, .inr (.ofNat 6)), (102, 16, .inl (3, .ofNat 0))], 5, [some (.inr [102]), some (.inl (.inl (.inl (2, .ofNat 0)))), none], []), ([(3, 0, 0)], []), (120, [(-1, 3)]))
theorem ks50 : aseg kS krf kB [kE49] (ksp []) kE50 [kC50_0] 30000 (none) = true := by decide +kernel
theorem ks50_0 : aseg kS krf kB [kE49] (ksp []) kE50 [kC50_0] 30000 (some kC50_0) = true := by decide +kernel
theorem kok50 : aOK kS krf kB kE50 := aOK_of (kal1 kok49 kal0) (kcl1 ks50_0 kcl0) ks50
/-- ColdShodModel.one()I -/
def kE51 : aE := (175, 7, ([(.ofNat 5, .ofNat 120), (.ofNat 5, .ofNat 6)], [(102, 16, .inl (0, .ofNat 0)), (102, 19, .inl (1, .ofNat 0))], 0, [some (.inr [102]), none, none, none, none], []), ([], none), ([(.negSucc 2147483647, .ofNat 2147483647), (.ofNat 5, .ofNat 120), (.ofNat 5, .ofNat 6)], [(102, 16, .inl (3, .ofNat 0)), (102, 19, .inl (4, .ofNat 0))], some (.inl (.inl (.inl (2, .ofNat 0)))), ([(3, 0, 0)], [])), ([(102, 16), (102, 18), (102, 19)], []))
def kC51_0 : aC := (([(.ofNat 5, .ofNat 119), (.ofNat 5, .ofNat 6), (.ofNat 33, .ofNat 45), (.ofNat 6, .ofNat 120)], [(102, 16, .inl (0, .ofNat 0)), (102, 19, .inl (1, .ofNat 0)), (102, 18, .inr (.negSucc 0)), (102, 17, .inl (3, .ofNat 0))], 32, [some (.inr [102]), some (.inl (.inl (.inl (2, .ofNat 0)))), none, none, none], []), ([], []), (0, []))
def kC51_1 : aC := (([(.ofNat 5, .ofNat 120), (.ofNat 5, .ofNat 6), (.ofNat 0, .ofNat 255), (.negSucc 2147483647, .ofNat 2147483647), (.ofNat 0, .ofNat 4), (.ofNat 5, .ofNat 120)], [(102, 16, .inl (5, .ofNat 0)), (102, 19, .inl (1, .ofNat 0)), (102, 18, .inr (.negSucc 0))], 176, [some (.inr [102]), some (.inl (.inl (.inl (2, .ofNat 0)))), some (.inl (.inl (.inr (.negSucc 0)))), some (.inl (.inl (.inl (3, .ofNat 0)))), some (.inl (.inl (.inl (4, .ofNat 0))))], []), ([(5, 0, 0)], []), (12, [(-1, 4)]))
def kC51_2 : aC := (([(.ofNat 5, .ofNat 120), (.ofNat 5, .ofNat 6), (.ofNat 0, .ofNat 255), (.negSucc 2147483647, .ofNat 2147483647), (.ofNat 0, .ofNat 4), (.ofNat 5, .ofNat 120)], [(102, 16, .inl (5, .ofNat 0)), (102, 19, .inl (1, .ofNat 0)), (102, 18, .inr (.negSucc 0))], 229, [some (.inr [102]), some (.inl (.inl (.inl (2, .ofNat 0)))), some (.inl (.inl (.inr (.negSucc 0)))), some (.inl (.inl (.inl (3, .ofNat 0)))), some (.inl (.inl (.inl (4, .ofNat 0))))], []), ([(5, 0, 0)], []), (0, []))
theorem ks51 : aseg kS krf kB [kE44, kE50, kE45] (ksp []) kE51 [kC51_0, kC51_1, kC51_2] 30000 (none) = true := by decide +kernel
theorem ks51_0 : aseg kS krf kB [kE44, kE50, kE45] (ksp []) kE51 [kC51_0, kC51_1, kC51_2] 30000 (some kC51_0) = true := by decide +kernel
theorem ks51_1 : aseg kS krf kB [kE44, kE50, kE45] (ksp []) kE51 [kC51_0, kC51_1, kC51_2] 30000 (some kC51_1) = true := by decide +kernel
theorem ks51_2 : aseg kS krf kB [kE44, kE50, kE45] (ksp []) kE51 [kC51_0, kC51_1, kC51_2] 30000 (some kC51_2) = true := by decide +kernel
theorem kok51 : aOK kS krf kB kE51 := aOK_of (kal1 kok44 (kal1 kok50 (kal1 kok45 kal0))) (kcl1 ks51_0 (kcl1 ks51_1 (kcl1 ks51_2 kcl0))) ks51
