/-! ENTRIES and their checks: printed by a program (wip/ai). -/
/-- ColdShodModel.becomes(II)I -/
def kE1092 : aE := (148, 0, ([(.ofNat 92, .ofNat 103), (.ofNat 0, .ofNat 2)], [], 0, [some (.inr [102]), some (.inl (.inl (.inl (0, .ofNat 0)))), some (.inl (.inl (.inl (1, .ofNat 0)))), none, none], []), ([], none), ([(.negSucc 0, .ofNat 99)], [], some (.inl (.inl (.inl (2, .ofNat 0)))), ([], [])), ([(102, 4), (102, 5)], [103, 104, 105, 106]))
theorem kok1092 : aOK kS krf kB kE1092 := hand_becomes (wb := (.ofNat 92, .ofNat 103)) (vb := (.ofNat 0, .ofNat 2)) (by decide +kernel)
/-- ColdShodModel.becomes(II)I -/
def kE1093 : aE := (148, 0, ([(.ofNat 80, .ofNat 91), (.ofNat 0, .ofNat 9)], [], 0, [some (.inr [102]), some (.inl (.inl (.inl (0, .ofNat 0)))), some (.inl (.inl (.inl (1, .ofNat 0)))), none, none], []), ([], none), ([(.negSucc 0, .ofNat 99)], [], some (.inl (.inl (.inl (2, .ofNat 0)))), ([], [])), ([(102, 4), (102, 5)], [103, 104, 105, 106]))
theorem kok1093 : aOK kS krf kB kE1093 := hand_becomes (wb := (.ofNat 80, .ofNat 91)) (vb := (.ofNat 0, .ofNat 9)) (by decide +kernel)
/-- ColdShodModel.becomes(II)I -/
def kE1094 : aE := (148, 0, ([(.ofNat 68, .ofNat 79), (.ofNat 1, .ofNat 9)], [], 0, [some (.inr [102]), some (.inl (.inl (.inl (0, .ofNat 0)))), some (.inl (.inl (.inl (1, .ofNat 0)))), none, none], []), ([], none), ([(.negSucc 0, .ofNat 99)], [], some (.inl (.inl (.inl (2, .ofNat 0)))), ([], [])), ([(102, 4), (102, 5)], [103, 104, 105, 106]))
theorem kok1094 : aOK kS krf kB kE1094 := hand_becomes (wb := (.ofNat 68, .ofNat 79)) (vb := (.ofNat 1, .ofNat 9)) (by decide +kernel)
/-- ColdShodModel.becomes(II)I -/
def kE1095 : aE := (148, 0, ([(.ofNat 60, .ofNat 67), (.negSucc 0, .ofNat 5)], [], 0, [some (.inr [102]), some (.inl (.inl (.inl (0, .ofNat 0)))), some (.inl (.inl (.inl (1, .ofNat 0)))), none, none], []), ([], none), ([(.negSucc 0, .ofNat 99)], [], some (.inl (.inl (.inl (2, .ofNat 0)))), ([], [])), ([(102, 4), (102, 5)], [103, 104, 105, 106]))
theorem kok1095 : aOK kS krf kB kE1095 := hand_becomes (wb := (.ofNat 60, .ofNat 67)) (vb := (.negSucc 0, .ofNat 5)) (by decide +kernel)
/-- ColdShodModel.becomes(II)I -/
def kE1096 : aE := (148, 0, ([(.ofNat 52, .ofNat 59), (.ofNat 0, .ofNat 9)], [], 0, [some (.inr [102]), some (.inl (.inl (.inl (0, .ofNat 0)))), some (.inl (.inl (.inl (1, .ofNat 0)))), none, none], []), ([], none), ([(.negSucc 0, .ofNat 99)], [], some (.inl (.inl (.inl (2, .ofNat 0)))), ([], [])), ([(102, 4), (102, 5)], [103, 104, 105, 106]))
theorem kok1096 : aOK kS krf kB kE1096 := hand_becomes (wb := (.ofNat 52, .ofNat 59)) (vb := (.ofNat 0, .ofNat 9)) (by decide +kernel)
/-- ColdShodModel.becomes(II)I -/
def kE1097 : aE := (148, 0, ([(.ofNat 44, .ofNat 51), (.ofNat 0, .ofNat 1)], [], 0, [some (.inr [102]), some (.inl (.inl (.inl (0, .ofNat 0)))), some (.inl (.inl (.inl (1, .ofNat 0)))), none, none], []), ([], none), ([(.negSucc 0, .ofNat 99)], [], some (.inl (.inl (.inl (2, .ofNat 0)))), ([], [])), ([(102, 4), (102, 5)], [103, 104, 105, 106]))
theorem kok1097 : aOK kS krf kB kE1097 := hand_becomes (wb := (.ofNat 44, .ofNat 51)) (vb := (.ofNat 0, .ofNat 1)) (by decide +kernel)
/-- ColdShodModel.becomes(II)I -/
def kE1098 : aE := (148, 0, ([(.ofNat 36, .ofNat 43), (.ofNat 0, .ofNat 9)], [], 0, [some (.inr [102]), some (.inl (.inl (.inl (0, .ofNat 0)))), some (.inl (.inl (.inl (1, .ofNat 0)))), none, none], []), ([], none), ([(.negSucc 0, .ofNat 99)], [], some (.inl (.inl (.inl (2, .ofNat 0)))), ([], [])), ([(102, 4), (102, 5)], [103, 104, 105, 106]))
theorem kok1098 : aOK kS krf kB kE1098 := hand_becomes (wb := (.ofNat 36, .ofNat 43)) (vb := (.ofNat 0, .ofNat 9)) (by decide +kernel)
/-- ColdShodModel.becomes(II)I -/
def kE1099 : aE := (148, 0, ([(.ofNat 28, .ofNat 35), (.ofNat 0, .ofNat 99)], [], 0, [some (.inr [102]), some (.inl (.inl (.inl (0, .ofNat 0)))), some (.inl (.inl (.inl (1, .ofNat 0)))), none, none], []), ([], none), ([(.negSucc 0, .ofNat 99)], [], some (.inl (.inl (.inl (2, .ofNat 0)))), ([], [])), ([(102, 4), (102, 5)], [103, 104, 105, 106]))
theorem kok1099 : aOK kS krf kB kE1099 := hand_becomes (wb := (.ofNat 28, .ofNat 35)) (vb := (.ofNat 0, .ofNat 99)) (by decide +kernel)
/-- ColdShodModel.becomes(II)I -/
def kE1100 : aE := (148, 0, ([(.ofNat 20, .ofNat 27), (.ofNat 0, .ofNat 5)], [], 0, [some (.inr [102]), some (.inl (.inl (.inl (0, .ofNat 0)))), some (.inl (.inl (.inl (1, .ofNat 0)))), none, none], []), ([], none), ([(.negSucc 0, .ofNat 99)], [], some (.inl (.inl (.inl (2, .ofNat 0)))), ([], [])), ([(102, 4), (102, 5)], [103, 104, 105, 106]))
theorem kok1100 : aOK kS krf kB kE1100 := hand_becomes (wb := (.ofNat 20, .ofNat 27)) (vb := (.ofNat 0, .ofNat 5)) (by decide +kernel)
/-- ColdShodModel.becomes(II)I -/
def kE1101 : aE := (148, 0, ([(.ofNat 12, .ofNat 19), (.ofNat 0, .ofNat 3)], [], 0, [some (.inr [102]), some (.inl (.inl (.inl (0, .ofNat 0)))), some (.inl (.inl (.inl (1, .ofNat 0)))), none, none], []), ([], none), ([(.negSucc 0, .ofNat 99)], [], some (.inl (.inl (.inl (2, .ofNat 0)))), ([], [])), ([(102, 4), (102, 5)], [103, 104, 105, 106]))
theorem kok1101 : aOK kS krf kB kE1101 := hand_becomes (wb := (.ofNat 12, .ofNat 19)) (vb := (.ofNat 0, .ofNat 3)) (by decide +kernel)
/-- ColdShodModel.becomes(II)I -/
def kE1102 : aE := (148, 0, ([(.ofNat 6, .ofNat 11), (.ofNat 0, .ofNat 12)], [], 0, [some (.inr [102]), some (.inl (.inl (.inl (0, .ofNat 0)))), some (.inl (.inl (.inl (1, .ofNat 0)))), none, none], []), ([], none), ([(.negSucc 0, .ofNat 99)], [], some (.inl (.inl (.inl (2, .ofNat 0)))), ([], [])), ([(102, 4), (102, 5)], [103, 104, 105, 106]))
theorem kok1102 : aOK kS krf kB kE1102 := hand_becomes (wb := (.ofNat 6, .ofNat 11)) (vb := (.ofNat 0, .ofNat 12)) (by decide +kernel)
/-- ColdShodModel.becomes(II)I -/
def kE1103 : aE := (148, 0, ([(.ofNat 0, .ofNat 5), (.ofNat 0, .ofNat 5)], [], 0, [some (.inr [102]), some (.inl (.inl (.inl (0, .ofNat 0)))), some (.inl (.inl (.inl (1, .ofNat 0)))), none, none], []), ([], none), ([(.negSucc 0, .ofNat 99)], [], some (.inl (.inl (.inl (2, .ofNat 0)))), ([], [])), ([(102, 4), (102, 5)], [103, 104, 105, 106]))
theorem kok1103 : aOK kS krf kB kE1103 := hand_becomes (wb := (.ofNat 0, .ofNat 5)) (vb := (.ofNat 0, .ofNat 5)) (by decide +kernel)
/-- ColdShodModel.mend(III)I -/
def kE1104 : aE := (163, 3, ([(.negSucc 2147483647, .ofNat 2147483647), (.negSucc 2147483647, .ofNat 2147483647), (.negSucc 2147483647, .ofNat 2147483647)], [], 0, [some (.inr [102]), some (.inl (.inl (.inl (0, .ofNat 0)))), some (.inl (.inl (.inl (1, .ofNat 0)))), some (.inl (.inl (.inl (2, .ofNat 0)))), none], []), ([], none), ([(.negSucc 1999999999, .ofNat 99)], [], some (.inl (.inl (.inl (3, .ofNat 0)))), ([], [])), ([(102, 4), (102, 5)], [103, 104, 105, 106]))
theorem ks1104 : aseg kS krf kB [kE1092, kE1093, kE1094, kE1095, kE1096, kE1097, kE1098, kE1099, kE1100, kE1101, kE1102, kE1103] (ksp [(163, 0, 2, 0, 11, 0)]) kE1104 [] 30000 (none) = true := by decide +kernel
theorem kok1104 : aOK kS krf kB kE1104 := aOK_of (kal1 kok1092 (kal1 kok1093 (kal1 kok1094 (kal1 kok1095 (kal1 kok1096 (kal1 kok1097 (kal1 kok1098 (kal1 kok1099 (kal1 kok1100 (kal1 kok1101 (kal1 kok1102 (kal1 kok1103 kal0)))))))))))) kcl0 ks1104
/-- ColdShod.roads(III)I -/
def kE1105 : aE := (96, 2, ([(.negSucc 2147483647, .ofNat 2147483647), (.negSucc 2147483647, .ofNat 2147483647), (.negSucc 2147483647, .ofNat 2147483647)], [], 0, [some (.inr [6]), some (.inl (.inl (.inl (0, .ofNat 0)))), some (.inl (.inl (.inl (1, .ofNat 0)))), some (.inl (.inl (.inl (2, .ofNat 0)))), none, none, none], []), ([], none), ([(.negSucc 11, .ofNat 12)], [], some (.inl (.inl (.inl (3, .ofNat 0)))), ([], [])), ([(7, 8), (28, 0), (28, 1), (28, 2), (29, 0), (29, 1), (29, 2), (30, 0), (30, 1), (30, 2), (31, 0), (31, 1), (31, 2), (32, 0), (32, 1), (32, 2), (33, 0), (33, 1), (33, 2), (34, 0), (34, 1), (34, 2), (35, 0), (35, 1), (35, 2), (36, 0), (36, 1), (36, 2), (37, 0), (37, 1), (37, 2), (38, 0), (38, 1), (38, 2), (39, 0), (39, 1), (39, 2)], []))
def kC1105_0 : aC := (([(.ofNat 0, .ofNat 5), (.ofNat 0, .ofNat 2147483647), (.ofNat 1, .ofNat 12), (.ofNat 0, .ofNat 12), (.ofNat 0, .ofNat 2147483647)], [], 61, [some (.inr [6]), some (.inl (.inl (.inl (0, .ofNat 0)))), some (.inl (.inl (.inl (1, .ofNat 0)))), some (.inl (.inl (.inl (2, .ofNat 0)))), some (.inr [76, 78, 80, 82, 84, 86]), some (.inl (.inl (.inl (3, .ofNat 0)))), some (.inl (.inl (.inl (4, .ofNat 0))))], []), ([], []), (12, [(-1, 3)]))
theorem ks1105 : aseg kS krf kB [] (ksp []) kE1105 [kC1105_0] 30000 (none) = true := by decide +kernel
theorem ks1105_0 : aseg kS krf kB [] (ksp []) kE1105 [kC1105_0] 30000 (some kC1105_0) = true := by decide +kernel
theorem kok1105 : aOK kS krf kB kE1105 := aOK_of kal0 (kcl1 ks1105_0 kcl0) ks1105
/-- ColdShodModel.roads(III)I -/
def kE1106 : aE := (160, 3, ([(.negSucc 2147483647, .ofNat 2147483647), (.negSucc 2147483647, .ofNat 2147483647), (.negSucc 2147483647, .ofNat 2147483647)], [], 0, [some (.inr [102]), some (.inl (.inl (.inl (0, .ofNat 0)))), some (.inl (.inl (.inl (1, .ofNat 0)))), some (.inl (.inl (.inl (2, .ofNat 0)))), none, none, none], []), ([], none), ([(.negSucc 11, .ofNat 12)], [], some (.inl (.inl (.inl (3, .ofNat 0)))), ([], [])), ([(102, 8)], [103, 107, 108]))
def kC1106_0 : aC := (([(.ofNat 0, .ofNat 5), (.ofNat 0, .ofNat 2147483647), (.ofNat 1, .ofNat 12), (.ofNat 0, .ofNat 12)], [], 69, [some (.inr [102]), some (.inl (.inl (.inl (0, .ofNat 0)))), some (.inl (.inl (.inl (1, .ofNat 0)))), some (.inl (.inl (.inl (2, .ofNat 0)))), some (.inl (.inl (.inl (3, .ofNat 0)))), some (.inl (.inl (.inr (.ofNat 1)))), none], []), ([], []), (28, [(-1, 3)]))
def kC1106_1 : aC := (([(.ofNat 0, .ofNat 5), (.negSucc 2147483647, .ofNat 2147483647), (.ofNat 1, .ofNat 12), (.ofNat 0, .ofNat 11)], [], 69, [some (.inr [102]), some (.inl (.inl (.inl (0, .ofNat 0)))), some (.inl (.inl (.inl (1, .ofNat 0)))), some (.inl (.inl (.inl (2, .ofNat 0)))), some (.inl (.inl (.inl (3, .ofNat 0)))), some (.inl (.inl (.inr (.ofNat 0)))), none], []), ([], []), (0, []))
theorem ks1106 : aseg kS krf kB [] (ksp [(160, 80, 4, -1000, 1000, 0)]) kE1106 [kC1106_0, kC1106_1] 30000 (none) = true := by decide +kernel
theorem ks1106_0 : aseg kS krf kB [] (ksp [(160, 80, 4, -1000, 1000, 0)]) kE1106 [kC1106_0, kC1106_1] 30000 (some kC1106_0) = true := by decide +kernel
theorem ks1106_1 : aseg kS krf kB [] (ksp [(160, 80, 4, -1000, 1000, 0)]) kE1106 [kC1106_0, kC1106_1] 30000 (some kC1106_1) = true := by decide +kernel
theorem kok1106 : aOK kS krf kB kE1106 := aOK_of kal0 (kcl1 ks1106_0 (kcl1 ks1106_1 kcl0)) ks1106
/-- ColdShod.road(II)I -/
def kE1107 : aE := (95, 2, ([(.negSucc 2147483647, .ofNat 2147483647), (.negSucc 2147483647, .ofNat 2147483647)], [], 0, [some (.inr [6]), some (.inl (.inl (.inl (0, .ofNat 0)))), some (.inl (.inl (.inl (1, .ofNat 0))))], []), ([], none), ([(.negSucc 2, .ofNat 11)], [], some (.inl (.inl (.inl (2, .ofNat 0)))), ([], [])), ([(7, 8), (28, 0), (28, 1), (28, 2), (29, 0), (29, 1), (29, 2), (30, 0), (30, 1), (30, 2), (31, 0), (31, 1), (31, 2), (32, 0), (32, 1), (32, 2), (33, 0), (33, 1), (33, 2), (34, 0), (34, 1), (34, 2), (35, 0), (35, 1), (35, 2), (36, 0), (36, 1), (36, 2), (37, 0), (37, 1), (37, 2), (38, 0), (38, 1), (38, 2), (39, 0), (39, 1), (39, 2)], []))
theorem ks1107 : aseg kS krf kB [] (ksp []) kE1107 [] 30000 (none) = true := by decide +kernel
theorem kok1107 : aOK kS krf kB kE1107 := aOK_of kal0 kcl0 ks1107
/-- ColdShodModel.road(II)I -/
def kE1108 : aE := (159, 3, ([(.negSucc 2147483647, .ofNat 2147483647), (.negSucc 2147483647, .ofNat 2147483647)], [], 0, [some (.inr [102]), some (.inl (.inl (.inl (0, .ofNat 0)))), some (.inl (.inl (.inl (1, .ofNat 0))))], []), ([], none), ([(.negSucc 2, .ofNat 11)], [], some (.inl (.inl (.inl (2, .ofNat 0)))), ([], [])), ([(102, 8)], [103, 107, 108]))
theorem ks1108 : aseg kS krf kB [] (ksp []) kE1108 [] 30000 (none) = true := by decide +kernel
theorem kok1108 : aOK kS krf kB kE1108 := aOK_of kal0 kcl0 ks1108
