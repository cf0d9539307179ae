/-! ENTRIES and their checks: printed by a program (wip/ai). -/
/-- ColdShod.mend(III)I -/
def kE1095 : aE := (98, 3, ([(.negSucc 2147483647, .ofNat 2147483647), (.negSucc 2147483647, .ofNat 2147483647), (.negSucc 2147483647, .ofNat 2147483647)], [], 0, [some (.inr [6]), some (.inl (.inl (.inl (0, .ofNat 0)))), some (.inl (.inl (.inl (1, .ofNat 0)))), some (.inl (.inl (.inl (2, .ofNat 0)))), none], []), ([], none), ([(.negSucc 1999999999, .ofNat 100000000)], [], some (.inl (.inl (.inl (3, .ofNat 0)))), ([], [])), ([(20, 0), (20, 1), (20, 2), (20, 3), (20, 4), (20, 5), (20, 6), (21, 0), (21, 1), (21, 2), (21, 3), (21, 4), (21, 5), (21, 6), (22, 0), (22, 1), (22, 2), (22, 3), (22, 4), (22, 5), (22, 6), (23, 0), (23, 1), (23, 2), (23, 3), (23, 4), (23, 5), (23, 6), (24, 0), (24, 1), (24, 2), (24, 3), (24, 4), (24, 5), (24, 6), (25, 0), (25, 1), (25, 2), (25, 3), (25, 4), (25, 5), (25, 6), (26, 0), (26, 1), (26, 2), (26, 3), (26, 4), (26, 5), (26, 6), (27, 0), (27, 1), (27, 2), (27, 3), (27, 4), (27, 5), (27, 6), (28, 2), (28, 3), (28, 4), (29, 2), (29, 3), (29, 4), (30, 2), (30, 3), (30, 4), (31, 2), (31, 3), (31, 4), (32, 2), (32, 3), (32, 4), (33, 2), (33, 3), (33, 4), (34, 2), (34, 3), (34, 4), (35, 2), (35, 3), (35, 4), (36, 2), (36, 3), (36, 4), (37, 2), (37, 3), (37, 4), (38, 2), (38, 3), (38, 4), (39, 2), (39, 3), (39, 4), (42, 0), (42, 1)], [8, 9, 43, 44, 45, 46, 1000]))
theorem ks1095 : aseg kS krf kB [] (ksp []) kE1095 [] 30000 (none) = true := by decide +kernel
theorem kok1095 : aOK kS krf kB kE1095 := aOK_of kal0 kcl0 ks1095
/-- ColdShodModel.becomes(II)I -/
def kE1096 : aE := (148, 0, ([(.ofNat 92, .ofNat 103), (.ofNat 0, .ofNat 2)], [], 0, [some (.inr [102]), some (.inl (.inl (.inl (0, .ofNat 0)))), some (.inl (.inl (.inl (1, .ofNat 0)))), none, none], []), ([], none), ([(.negSucc 0, .ofNat 99)], [], some (.inl (.inl (.inl (2, .ofNat 0)))), ([], [])), ([(102, 4), (102, 5)], [103, 104, 105, 106]))
theorem kok1096 : aOK kS krf kB kE1096 := by sorry
/-- ColdShodModel.becomes(II)I -/
def kE1097 : aE := (148, 0, ([(.ofNat 80, .ofNat 91), (.ofNat 0, .ofNat 9)], [], 0, [some (.inr [102]), some (.inl (.inl (.inl (0, .ofNat 0)))), some (.inl (.inl (.inl (1, .ofNat 0)))), none, none], []), ([], none), ([(.negSucc 0, .ofNat 99)], [], some (.inl (.inl (.inl (2, .ofNat 0)))), ([], [])), ([(102, 4), (102, 5)], [103, 104, 105, 106]))
theorem kok1097 : aOK kS krf kB kE1097 := by sorry
/-- ColdShodModel.becomes(II)I -/
def kE1098 : aE := (148, 0, ([(.ofNat 68, .ofNat 79), (.ofNat 1, .ofNat 9)], [], 0, [some (.inr [102]), some (.inl (.inl (.inl (0, .ofNat 0)))), some (.inl (.inl (.inl (1, .ofNat 0)))), none, none], []), ([], none), ([(.negSucc 0, .ofNat 99)], [], some (.inl (.inl (.inl (2, .ofNat 0)))), ([], [])), ([(102, 4), (102, 5)], [103, 104, 105, 106]))
theorem kok1098 : aOK kS krf kB kE1098 := by sorry
/-- ColdShodModel.becomes(II)I -/
def kE1099 : aE := (148, 0, ([(.ofNat 60, .ofNat 67), (.negSucc 0, .ofNat 5)], [], 0, [some (.inr [102]), some (.inl (.inl (.inl (0, .ofNat 0)))), some (.inl (.inl (.inl (1, .ofNat 0)))), none, none], []), ([], none), ([(.negSucc 0, .ofNat 99)], [], some (.inl (.inl (.inl (2, .ofNat 0)))), ([], [])), ([(102, 4), (102, 5)], [103, 104, 105, 106]))
theorem kok1099 : aOK kS krf kB kE1099 := by sorry
/-- ColdShodModel.becomes(II)I -/
def kE1100 : aE := (148, 0, ([(.ofNat 52, .ofNat 59), (.ofNat 0, .ofNat 9)], [], 0, [some (.inr [102]), some (.inl (.inl (.inl (0, .ofNat 0)))), some (.inl (.inl (.inl (1, .ofNat 0)))), none, none], []), ([], none), ([(.negSucc 0, .ofNat 99)], [], some (.inl (.inl (.inl (2, .ofNat 0)))), ([], [])), ([(102, 4), (102, 5)], [103, 104, 105, 106]))
theorem kok1100 : aOK kS krf kB kE1100 := by sorry
/-- ColdShodModel.becomes(II)I -/
def kE1101 : aE := (148, 0, ([(.ofNat 44, .ofNat 51), (.ofNat 0, .ofNat 1)], [], 0, [some (.inr [102]), some (.inl (.inl (.inl (0, .ofNat 0)))), some (.inl (.inl (.inl (1, .ofNat 0)))), none, none], []), ([], none), ([(.negSucc 0, .ofNat 99)], [], some (.inl (.inl (.inl (2, .ofNat 0)))), ([], [])), ([(102, 4), (102, 5)], [103, 104, 105, 106]))
theorem kok1101 : aOK kS krf kB kE1101 := by sorry
/-- ColdShodModel.becomes(II)I -/
def kE1102 : aE := (148, 0, ([(.ofNat 36, .ofNat 43), (.ofNat 0, .ofNat 9)], [], 0, [some (.inr [102]), some (.inl (.inl (.inl (0, .ofNat 0)))), some (.inl (.inl (.inl (1, .ofNat 0)))), none, none], []), ([], none), ([(.negSucc 0, .ofNat 99)], [], some (.inl (.inl (.inl (2, .ofNat 0)))), ([], [])), ([(102, 4), (102, 5)], [103, 104, 105, 106]))
theorem kok1102 : aOK kS krf kB kE1102 := by sorry
/-- ColdShodModel.becomes(II)I -/
def kE1103 : aE := (148, 0, ([(.ofNat 28, .ofNat 35), (.ofNat 0, .ofNat 99)], [], 0, [some (.inr [102]), some (.inl (.inl (.inl (0, .ofNat 0)))), some (.inl (.inl (.inl (1, .ofNat 0)))), none, none], []), ([], none), ([(.negSucc 0, .ofNat 99)], [], some (.inl (.inl (.inl (2, .ofNat 0)))), ([], [])), ([(102, 4), (102, 5)], [103, 104, 105, 106]))
theorem kok1103 : aOK kS krf kB kE1103 := by sorry
/-- ColdShodModel.becomes(II)I -/
def kE1104 : aE := (148, 0, ([(.ofNat 20, .ofNat 27), (.ofNat 0, .ofNat 5)], [], 0, [some (.inr [102]), some (.inl (.inl (.inl (0, .ofNat 0)))), some (.inl (.inl (.inl (1, .ofNat 0)))), none, none], []), ([], none), ([(.negSucc 0, .ofNat 99)], [], some (.inl (.inl (.inl (2, .ofNat 0)))), ([], [])), ([(102, 4), (102, 5)], [103, 104, 105, 106]))
theorem kok1104 : aOK kS krf kB kE1104 := by sorry
/-- ColdShodModel.becomes(II)I -/
def kE1105 : aE := (148, 0, ([(.ofNat 12, .ofNat 19), (.ofNat 0, .ofNat 3)], [], 0, [some (.inr [102]), some (.inl (.inl (.inl (0, .ofNat 0)))), some (.inl (.inl (.inl (1, .ofNat 0)))), none, none], []), ([], none), ([(.negSucc 0, .ofNat 99)], [], some (.inl (.inl (.inl (2, .ofNat 0)))), ([], [])), ([(102, 4), (102, 5)], [103, 104, 105, 106]))
theorem kok1105 : aOK kS krf kB kE1105 := by sorry
/-- ColdShodModel.becomes(II)I -/
def kE1106 : aE := (148, 0, ([(.ofNat 6, .ofNat 11), (.ofNat 0, .ofNat 12)], [], 0, [some (.inr [102]), some (.inl (.inl (.inl (0, .ofNat 0)))), some (.inl (.inl (.inl (1, .ofNat 0)))), none, none], []), ([], none), ([(.negSucc 0, .ofNat 99)], [], some (.inl (.inl (.inl (2, .ofNat 0)))), ([], [])), ([(102, 4), (102, 5)], [103, 104, 105, 106]))
theorem kok1106 : aOK kS krf kB kE1106 := by sorry
/-- ColdShodModel.becomes(II)I -/
def kE1107 : aE := (148, 0, ([(.ofNat 0, .ofNat 5), (.ofNat 0, .ofNat 5)], [], 0, [some (.inr [102]), some (.inl (.inl (.inl (0, .ofNat 0)))), some (.inl (.inl (.inl (1, .ofNat 0)))), none, none], []), ([], none), ([(.negSucc 0, .ofNat 99)], [], some (.inl (.inl (.inl (2, .ofNat 0)))), ([], [])), ([(102, 4), (102, 5)], [103, 104, 105, 106]))
theorem kok1107 : aOK kS krf kB kE1107 := by sorry
/-- ColdShodModel.mend(III)I -/
def kE1108 : aE := (163, 3, ([(.negSucc 2147483647, .ofNat 2147483647), (.negSucc 2147483647, .ofNat 2147483647), (.negSucc 2147483647, .ofNat 2147483647)], [], 0, [some (.inr [102]), some (.inl (.inl (.inl (0, .ofNat 0)))), some (.inl (.inl (.inl (1, .ofNat 0)))), some (.inl (.inl (.inl (2, .ofNat 0)))), none], []), ([], none), ([(.negSucc 1999999999, .ofNat 99)], [], some (.inl (.inl (.inl (3, .ofNat 0)))), ([], [])), ([(102, 4), (102, 5)], [103, 104, 105, 106]))
theorem ks1108 : aseg kS krf kB [kE1096, kE1097, kE1098, kE1099, kE1100, kE1101, kE1102, kE1103, kE1104, kE1105, kE1106, kE1107] (ksp [(163, 0, 2, 0, 11, 0)]) kE1108 [] 30000 (none) = true := by decide +kernel
theorem kok1108 : aOK kS krf kB kE1108 := aOK_of (kal1 kok1096 (kal1 kok1097 (kal1 kok1098 (kal1 kok1099 (kal1 kok1100 (kal1 kok1101 (kal1 kok1102 (kal1 kok1103 (kal1 kok1104 (kal1 kok1105 (kal1 kok1106 (kal1 kok1107 kal0)))))))))))) kcl0 ks1108
/-- ColdShod.roads(III)I -/
def kE1109 : aE := (96, 2, ([(.negSucc 2147483647, .ofNat 2147483647), (.negSucc 2147483647, .ofNat 2147483647), (.negSucc 2147483647, .ofNat 2147483647)], [], 0, [some (.inr [6]), some (.inl (.inl (.inl (0, .ofNat 0)))), some (.inl (.inl (.inl (1, .ofNat 0)))), some (.inl (.inl (.inl (2, .ofNat 0)))), none, none, none], []), ([], none), ([(.negSucc 11, .ofNat 12)], [], some (.inl (.inl (.inl (3, .ofNat 0)))), ([], [])), ([(7, 8), (28, 0), (28, 1), (28, 2), (29, 0), (29, 1), (29, 2), (30, 0), (30, 1), (30, 2), (31, 0), (31, 1), (31, 2), (32, 0), (32, 1), (32, 2), (33, 0), (33, 1), (33, 2), (34, 0), (34, 1), (34, 2), (35, 0), (35, 1), (35, 2), (36, 0), (36, 1), (36, 2), (37, 0), (37, 1), (37, 2), (38, 0), (38, 1), (38, 2), (39, 0), (39, 1), (39, 2)], []))
def kC1109_0 : aC := (([(.ofNat 0, .ofNat 5), (.ofNat 0, .ofNat 2147483647), (.ofNat 1, .ofNat 12), (.ofNat 0, .ofNat 12), (.ofNat 0, .ofNat 2147483647)], [], 61, [some (.inr [6]), some (.inl (.inl (.inl (0, .ofNat 0)))), some (.inl (.inl (.inl (1, .ofNat 0)))), some (.inl (.inl (.inl (2, .ofNat 0)))), some (.inr [76, 78, 80, 82, 84, 86]), some (.inl (.inl (.inl (3, .ofNat 0)))), some (.inl (.inl (.inl (4, .ofNat 0))))], []), ([], []), (12, [(-1, 3)]))
theorem ks1109 : aseg kS krf kB [] (ksp []) kE1109 [kC1109_0] 30000 (none) = true := by decide +kernel
theorem ks1109_0 : aseg kS krf kB [] (ksp []) kE1109 [kC1109_0] 30000 (some kC1109_0) = true := by decide +kernel
theorem kok1109 : aOK kS krf kB kE1109 := aOK_of kal0 (kcl1 ks1109_0 kcl0) ks1109
/-- ColdShodModel.roads(III)I -/
def kE1110 : aE := (160, 3, ([(.negSucc 2147483647, .ofNat 2147483647), (.negSucc 2147483647, .ofNat 2147483647), (.negSucc 2147483647, .ofNat 2147483647)], [], 0, [some (.inr [102]), some (.inl (.inl (.inl (0, .ofNat 0)))), some (.inl (.inl (.inl (1, .ofNat 0)))), some (.inl (.inl (.inl (2, .ofNat 0)))), none, none, none], []), ([], none), ([(.negSucc 11, .ofNat 12)], [], some (.inl (.inl (.inl (3, .ofNat 0)))), ([], [])), ([(102, 8)], [103, 107, 108]))
def kC1110_0 : aC := (([(.ofNat 0, .ofNat 5), (.ofNat 0, .ofNat 2147483647), (.ofNat 1, .ofNat 12), (.ofNat 0, .ofNat 12)], [], 69, [some (.inr [102]), some (.inl (.inl (.inl (0, .ofNat 0)))), some (.inl (.inl (.inl (1, .ofNat 0)))), some (.inl (.inl (.inl (2, .ofNat 0)))), some (.inl (.inl (.inl (3, .ofNat 0)))), some (.inl (.inl (.inr (.ofNat 1)))), none], []), ([], []), (28, [(-1, 3)]))
def kC1110_1 : aC := (([(.ofNat 0, .ofNat 5), (.negSucc 2147483647, .ofNat 2147483647), (.ofNat 1, .ofNat 12), (.ofNat 0, .ofNat 11)], [], 69, [some (.inr [102]), some (.inl (.inl (.inl (0, .ofNat 0)))), some (.inl (.inl (.inl (1, .ofNat 0)))), some (.inl (.inl (.inl (2, .ofNat 0)))), some (.inl (.inl (.inl (3, .ofNat 0)))), some (.inl (.inl (.inr (.ofNat 0)))), none], []), ([], []), (0, []))
theorem ks1110 : aseg kS krf kB [] (ksp [(160, 80, 4, -1000, 1000, 0)]) kE1110 [kC1110_0, kC1110_1] 30000 (none) = true := by decide +kernel
theorem ks1110_0 : aseg kS krf kB [] (ksp [(160, 80, 4, -1000, 1000, 0)]) kE1110 [kC1110_0, kC1110_1] 30000 (some kC1110_0) = true := by decide +kernel
theorem ks1110_1 : aseg kS krf kB [] (ksp [(160, 80, 4, -1000, 1000, 0)]) kE1110 [kC1110_0, kC1110_1] 30000 (some kC1110_1) = true := by decide +kernel
theorem kok1110 : aOK kS krf kB kE1110 := aOK_of kal0 (kcl1 ks1110_0 (kcl1 ks1110_1 kcl0)) ks1110
