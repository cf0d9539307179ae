/-! ENTRIES and their checks: printed by a program (wip/ai). -/
/-- ColdShodModel.becomes(II)I -/
def kE1129 : aE := (148, 0, ([kvB 92 103, kvB 0 2], [], 0, [kvR 102, kvI 0, kvI 1, none, none], []), ([], none), ([(.negSucc 0, .ofNat 99)], [], kvI 2, ([], [])), kvW100)
theorem kok1129 : aOK kS krf kB kE1129 := hand_becomes (wb := (.ofNat 92, .ofNat 103)) (vb := (.ofNat 0, .ofNat 2)) (by decide +kernel)
/-- ColdShodModel.becomes(II)I -/
def kE1130 : aE := (148, 0, ([kvB 80 91, kvB 0 9], [], 0, [kvR 102, kvI 0, kvI 1, none, none], []), ([], none), ([(.negSucc 0, .ofNat 99)], [], kvI 2, ([], [])), kvW100)
theorem kok1130 : aOK kS krf kB kE1130 := hand_becomes (wb := (.ofNat 80, .ofNat 91)) (vb := (.ofNat 0, .ofNat 9)) (by decide +kernel)
/-- ColdShodModel.becomes(II)I -/
def kE1131 : aE := (148, 0, ([kvB 68 79, kvB 1 9], [], 0, [kvR 102, kvI 0, kvI 1, none, none], []), ([], none), ([(.negSucc 0, .ofNat 99)], [], kvI 2, ([], [])), kvW100)
theorem kok1131 : aOK kS krf kB kE1131 := hand_becomes (wb := (.ofNat 68, .ofNat 79)) (vb := (.ofNat 1, .ofNat 9)) (by decide +kernel)
/-- ColdShodModel.becomes(II)I -/
def kE1132 : aE := (148, 0, ([kvB 60 67, (.negSucc 0, .ofNat 5)], [], 0, [kvR 102, kvI 0, kvI 1, none, none], []), ([], none), ([(.negSucc 0, .ofNat 99)], [], kvI 2, ([], [])), kvW100)
theorem kok1132 : aOK kS krf kB kE1132 := hand_becomes (wb := (.ofNat 60, .ofNat 67)) (vb := (.negSucc 0, .ofNat 5)) (by decide +kernel)
/-- ColdShodModel.becomes(II)I -/
def kE1133 : aE := (148, 0, ([kvB 52 59, kvB 0 9], [], 0, [kvR 102, kvI 0, kvI 1, none, none], []), ([], none), ([(.negSucc 0, .ofNat 99)], [], kvI 2, ([], [])), kvW100)
theorem kok1133 : aOK kS krf kB kE1133 := hand_becomes (wb := (.ofNat 52, .ofNat 59)) (vb := (.ofNat 0, .ofNat 9)) (by decide +kernel)
/-- ColdShodModel.becomes(II)I -/
def kE1134 : aE := (148, 0, ([kvB 44 51, kvB 0 1], [], 0, [kvR 102, kvI 0, kvI 1, none, none], []), ([], none), ([(.negSucc 0, .ofNat 99)], [], kvI 2, ([], [])), kvW100)
theorem kok1134 : aOK kS krf kB kE1134 := hand_becomes (wb := (.ofNat 44, .ofNat 51)) (vb := (.ofNat 0, .ofNat 1)) (by decide +kernel)
/-- ColdShodModel.becomes(II)I -/
def kE1135 : aE := (148, 0, ([kvB 36 43, kvB 0 9], [], 0, [kvR 102, kvI 0, kvI 1, none, none], []), ([], none), ([(.negSucc 0, .ofNat 99)], [], kvI 2, ([], [])), kvW100)
theorem kok1135 : aOK kS krf kB kE1135 := hand_becomes (wb := (.ofNat 36, .ofNat 43)) (vb := (.ofNat 0, .ofNat 9)) (by decide +kernel)
/-- ColdShodModel.becomes(II)I -/
def kE1136 : aE := (148, 0, ([kvB 28 35, kvB 0 99], [], 0, [kvR 102, kvI 0, kvI 1, none, none], []), ([], none), ([(.negSucc 0, .ofNat 99)], [], kvI 2, ([], [])), kvW100)
theorem kok1136 : aOK kS krf kB kE1136 := hand_becomes (wb := (.ofNat 28, .ofNat 35)) (vb := (.ofNat 0, .ofNat 99)) (by decide +kernel)
/-- ColdShodModel.becomes(II)I -/
def kE1137 : aE := (148, 0, ([kvB 20 27, kvB 0 5], [], 0, [kvR 102, kvI 0, kvI 1, none, none], []), ([], none), ([(.negSucc 0, .ofNat 99)], [], kvI 2, ([], [])), kvW100)
theorem kok1137 : aOK kS krf kB kE1137 := hand_becomes (wb := (.ofNat 20, .ofNat 27)) (vb := (.ofNat 0, .ofNat 5)) (by decide +kernel)
/-- ColdShodModel.becomes(II)I -/
def kE1138 : aE := (148, 0, ([kvB 12 19, kvB 0 3], [], 0, [kvR 102, kvI 0, kvI 1, none, none], []), ([], none), ([(.negSucc 0, .ofNat 99)], [], kvI 2, ([], [])), kvW100)
theorem kok1138 : aOK kS krf kB kE1138 := hand_becomes (wb := (.ofNat 12, .ofNat 19)) (vb := (.ofNat 0, .ofNat 3)) (by decide +kernel)
/-- ColdShodModel.becomes(II)I -/
def kE1139 : aE := (148, 0, ([kvB 6 11, kvB 0 12], [], 0, [kvR 102, kvI 0, kvI 1, none, none], []), ([], none), ([(.negSucc 0, .ofNat 99)], [], kvI 2, ([], [])), kvW100)
theorem kok1139 : aOK kS krf kB kE1139 := hand_becomes (wb := (.ofNat 6, .ofNat 11)) (vb := (.ofNat 0, .ofNat 12)) (by decide +kernel)
/-- ColdShodModel.becomes(II)I -/
def kE1140 : aE := (148, 0, ([kvB 0 5, kvB 0 5], [], 0, [kvR 102, kvI 0, kvI 1, none, none], []), ([], none), ([(.negSucc 0, .ofNat 99)], [], kvI 2, ([], [])), kvW100)
theorem kok1140 : aOK kS krf kB kE1140 := hand_becomes (wb := (.ofNat 0, .ofNat 5)) (vb := (.ofNat 0, .ofNat 5)) (by decide +kernel)
/-- ColdShodModel.mend(III)I -/
def kE1141 : aE := (163, 3, ([(.negSucc 2147483647, .ofNat 2147483647), (.negSucc 2147483647, .ofNat 2147483647), (.negSucc 2147483647, .ofNat 2147483647)], [], 0, [some (.inr [102]), some (.inl (.inl (.inl (0, .ofNat 0)))), some (.inl (.inl (.inl (1, .ofNat 0)))), some (.inl (.inl (.inl (2, .ofNat 0)))), none], []), ([], none), ([(.negSucc 1999999999, .ofNat 99)], [], some (.inl (.inl (.inl (3, .ofNat 0)))), ([], [])), ([(102, 4), (102, 5)], [103, 104, 105, 106]))
def kC1141_0 : aC := (([kvA, kvA, kvA, (.negSucc 0, .ofNat 103)], [], 32, [kvR 102, kvI 0, kvI 1, kvI 2, kvI 3], []), ([], []), (0, []))
theorem ks1141 : aseg kS krf kB [kE1129, kE1130, kE1131, kE1132, kE1133, kE1134, kE1135, kE1136, kE1137, kE1138, kE1139, kE1140] (ksp [(163, 0, 2, 0, 11, 0)]) kE1141 [kC1141_0] 30000 (none) = true := asgqw (by decide +kernel)
theorem ks1141_0 : aseg kS krf kB [kE1129, kE1130, kE1131, kE1132, kE1133, kE1134, kE1135, kE1136, kE1137, kE1138, kE1139, kE1140] (ksp [(163, 0, 2, 0, 11, 0)]) kE1141 [kC1141_0] 30000 (some kC1141_0) = true := asgqw (by decide +kernel)
theorem kok1141 : aOK kS krf kB kE1141 := aOK_of (kal1 kok1129 (kal1 kok1130 (kal1 kok1131 (kal1 kok1132 (kal1 kok1133 (kal1 kok1134 (kal1 kok1135 (kal1 kok1136 (kal1 kok1137 (kal1 kok1138 (kal1 kok1139 (kal1 kok1140 kal0)))))))))))) (kcl1 ks1141_0 kcl0) ks1141
/-- ColdShod.roads(III)I -/
def kE1142 : aE := (96, 2, ([(.negSucc 2147483647, .ofNat 2147483647), (.negSucc 2147483647, .ofNat 2147483647), (.negSucc 2147483647, .ofNat 2147483647)], [], 0, [some (.inr [6]), some (.inl (.inl (.inl (0, .ofNat 0)))), some (.inl (.inl (.inl (1, .ofNat 0)))), some (.inl (.inl (.inl (2, .ofNat 0)))), none, none, none], []), ([], none), ([(.negSucc 11, .ofNat 12)], [], some (.inl (.inl (.inl (3, .ofNat 0)))), ([], [])), ([(7, 8), (28, 0), (28, 1), (28, 2), (29, 0), (29, 1), (29, 2), (30, 0), (30, 1), (30, 2), (31, 0), (31, 1), (31, 2), (32, 0), (32, 1), (32, 2), (33, 0), (33, 1), (33, 2), (34, 0), (34, 1), (34, 2), (35, 0), (35, 1), (35, 2), (36, 0), (36, 1), (36, 2), (37, 0), (37, 1), (37, 2), (38, 0), (38, 1), (38, 2), (39, 0), (39, 1), (39, 2)], []))
def kC1142_0 : aC := (([kvB 0 5, kvB 0 2147483647, kvB 1 12, kvB 0 12, kvB 0 2147483647], [], 61, [kvR 6, kvI 0, kvI 1, kvI 2, some (.inr [76, 78, 80, 82, 84, 86]), kvI 3, kvI 4], []), ([], []), (12, [(-1, 3)]))
theorem ks1142 : aseg kS krf kB [] (ksp []) kE1142 [kC1142_0] 30000 (none) = true := asgqw (by decide +kernel)
theorem ks1142_0 : aseg kS krf kB [] (ksp []) kE1142 [kC1142_0] 30000 (some kC1142_0) = true := asgqw (by decide +kernel)
theorem kok1142 : aOK kS krf kB kE1142 := aOK_of kal0 (kcl1 ks1142_0 kcl0) ks1142
/-- ColdShodModel.roads(III)I -/
def kE1143 : aE := (160, 3, ([(.negSucc 2147483647, .ofNat 2147483647), (.negSucc 2147483647, .ofNat 2147483647), (.negSucc 2147483647, .ofNat 2147483647)], [], 0, [some (.inr [102]), some (.inl (.inl (.inl (0, .ofNat 0)))), some (.inl (.inl (.inl (1, .ofNat 0)))), some (.inl (.inl (.inl (2, .ofNat 0)))), none, none, none], []), ([], none), ([(.negSucc 11, .ofNat 12)], [], some (.inl (.inl (.inl (3, .ofNat 0)))), ([], [])), ([(102, 8)], [103, 107, 108]))
def kC1143_0 : aC := (([kvB 0 5, kvB 0 2147483647, kvB 1 12, kvB 0 12], [], 69, [kvR 102, kvI 0, kvI 1, kvI 2, kvI 3, kvN 1, none], []), ([], []), (60, [(-1, 3)]))
def kC1143_1 : aC := (([kvB 0 5, kvA, kvB 1 12, kvB 0 11], [], 69, [kvR 102, kvI 0, kvI 1, kvI 2, kvI 3, kvN 0, none], []), ([], []), (0, []))
def kC1143_2 : aC := (([kvB 0 5, kvB 0 2147483647, kvB 1 12, kvB 0 11, kvB 0 1, kvA], [], 166, [kvR 102, kvI 0, kvI 1, kvI 2, kvI 3, kvI 4, kvI 5], []), ([], []), (16, []))
def kC1143_3 : aC := (([kvB 0 5, kvB 0 2147483647, kvB 1 12, kvB 0 11], [], 110, [kvR 102, kvI 0, kvI 1, kvI 2, kvI 3, kvN 1, none], []), ([], []), (32, []))
theorem ks1143 : aseg kS krf kB [] (ksp [(160, 80, 4, -1000, 1000, 0)]) kE1143 [kC1143_0, kC1143_1, kC1143_2, kC1143_3] 30000 (none) = true := asgqw (by decide +kernel)
theorem ks1143_0 : aseg kS krf kB [] (ksp [(160, 80, 4, -1000, 1000, 0)]) kE1143 [kC1143_0, kC1143_1, kC1143_2, kC1143_3] 30000 (some kC1143_0) = true := asgqw (by decide +kernel)
theorem ks1143_1 : aseg kS krf kB [] (ksp [(160, 80, 4, -1000, 1000, 0)]) kE1143 [kC1143_0, kC1143_1, kC1143_2, kC1143_3] 30000 (some kC1143_1) = true := asgqw (by decide +kernel)
theorem ks1143_2 : aseg kS krf kB [] (ksp [(160, 80, 4, -1000, 1000, 0)]) kE1143 [kC1143_0, kC1143_1, kC1143_2, kC1143_3] 30000 (some kC1143_2) = true := asgqw (by decide +kernel)
theorem ks1143_3 : aseg kS krf kB [] (ksp [(160, 80, 4, -1000, 1000, 0)]) kE1143 [kC1143_0, kC1143_1, kC1143_2, kC1143_3] 30000 (some kC1143_3) = true := asgqw (by decide +kernel)
theorem kok1143 : aOK kS krf kB kE1143 := aOK_of kal0 (kcl1 ks1143_0 (kcl1 ks1143_1 (kcl1 ks1143_2 (kcl1 ks1143_3 kcl0)))) ks1143
/-- ColdShod.road(II)I -/
def kE1144 : aE := (95, 2, ([(.negSucc 2147483647, .ofNat 2147483647), (.negSucc 2147483647, .ofNat 2147483647)], [], 0, [some (.inr [6]), some (.inl (.inl (.inl (0, .ofNat 0)))), some (.inl (.inl (.inl (1, .ofNat 0))))], []), ([], none), ([(.negSucc 2, .ofNat 11)], [], some (.inl (.inl (.inl (2, .ofNat 0)))), ([], [])), ([(7, 8), (28, 0), (28, 1), (28, 2), (29, 0), (29, 1), (29, 2), (30, 0), (30, 1), (30, 2), (31, 0), (31, 1), (31, 2), (32, 0), (32, 1), (32, 2), (33, 0), (33, 1), (33, 2), (34, 0), (34, 1), (34, 2), (35, 0), (35, 1), (35, 2), (36, 0), (36, 1), (36, 2), (37, 0), (37, 1), (37, 2), (38, 0), (38, 1), (38, 2), (39, 0), (39, 1), (39, 2)], []))
theorem ks1144 : aseg kS krf kB [] (ksp []) kE1144 [] 30000 (none) = true := asgqw (by decide +kernel)
theorem kok1144 : aOK kS krf kB kE1144 := aOK_of kal0 kcl0 ks1144
/-- ColdShodModel.road(II)I -/
def kE1145 : aE := (159, 3, ([(.negSucc 2147483647, .ofNat 2147483647), (.negSucc 2147483647, .ofNat 2147483647)], [], 0, [some (.inr [102]), some (.inl (.inl (.inl (0, .ofNat 0)))), some (.inl (.inl (.inl (1, .ofNat 0))))], []), ([], none), ([(.negSucc 2, .ofNat 11)], [], some (.inl (.inl (.inl (2, .ofNat 0)))), ([], [])), ([(102, 8)], [103, 107, 108]))
theorem ks1145 : aseg kS krf kB [] (ksp []) kE1145 [] 30000 (none) = true := asgqw (by decide +kernel)
theorem kok1145 : aOK kS krf kB kE1145 := aOK_of kal0 kcl0 ks1145
/-- ColdShod.idea(II)I -/
def kE1146 : aE := (94, 0, ([(.negSucc 2147483647, .ofNat 2147483647), (.negSucc 2147483647, .ofNat 2147483647)], [], 0, [some (.inr [6]), some (.inl (.inl (.inl (0, .ofNat 0)))), some (.inl (.inl (.inl (1, .ofNat 0)))), none], []), ([], none), ([(.negSucc 2, .ofNat 7)], [], some (.inl (.inl (.inl (2, .ofNat 0)))), ([], [])), ([(7, 7), (20, 0), (20, 1), (21, 0), (21, 1), (22, 0), (22, 1), (23, 0), (23, 1), (24, 0), (24, 1), (25, 0), (25, 1), (26, 0), (26, 1), (27, 0), (27, 1)], []))
theorem ks1146 : aseg kS krf kB [] (ksp []) kE1146 [] 30000 (none) = true := asgqw (by decide +kernel)
theorem kok1146 : aOK kS krf kB kE1146 := aOK_of kal0 kcl0 ks1146
/-- ColdShodModel.idea(II)I -/
def kE1147 : aE := (156, 1, ([(.negSucc 2147483647, .ofNat 2147483647), (.negSucc 2147483647, .ofNat 2147483647)], [], 0, [some (.inr [102]), some (.inl (.inl (.inl (0, .ofNat 0)))), some (.inl (.inl (.inl (1, .ofNat 0))))], []), ([], none), ([(.negSucc 2, .ofNat 7)], [], some (.inl (.inl (.inl (2, .ofNat 0)))), ([], [])), ([(102, 7)], [103]))
theorem ks1147 : aseg kS krf kB [] (ksp []) kE1147 [] 30000 (none) = true := asgqw (by decide +kernel)
theorem kok1147 : aOK kS krf kB kE1147 := aOK_of kal0 kcl0 ks1147
/-- ColdShod.head(I)I -/
def kE1148 : aE := (93, 0, ([(.negSucc 2147483647, .ofNat 2147483647)], [], 0, [some (.inr [6]), some (.inl (.inl (.inl (0, .ofNat 0))))], []), ([], none), ([(.negSucc 2, .ofNat 5)], [], some (.inl (.inl (.inl (1, .ofNat 0)))), ([], [])), ([(7, 6)], [8, 9]))
theorem ks1148 : aseg kS krf kB [] (ksp []) kE1148 [] 30000 (none) = true := asgqw (by decide +kernel)
theorem kok1148 : aOK kS krf kB kE1148 := aOK_of kal0 kcl0 ks1148
/-- ColdShodModel.head(I)I -/
def kE1149 : aE := (155, 1, ([(.negSucc 2147483647, .ofNat 2147483647)], [], 0, [some (.inr [102]), some (.inl (.inl (.inl (0, .ofNat 0))))], []), ([], none), ([(.negSucc 2, .ofNat 5)], [], some (.inl (.inl (.inl (1, .ofNat 0)))), ([], [])), ([(102, 6)], [103]))
theorem ks1149 : aseg kS krf kB [] (ksp []) kE1149 [] 30000 (none) = true := asgqw (by decide +kernel)
theorem kok1149 : aOK kS krf kB kE1149 := aOK_of kal0 kcl0 ks1149
/-- ColdShodLaw.law([I)Z -/
def kE1150 : aE := (241, 55, ([kvB 0 3072], [], 18, [kvR 0, kvR 6, kvR 102, kvN 0], []), ([], some 0), ([kvB 0 1], [], kvI 1, ([], [])), kvW101)
def kC1150_0 : aC := (([kvB 6 3072, kvB 6 3072], [], 18, [kvR 0, kvR 6, kvR 102, kvI 1], []), ([], []), (3072, [(-1, 1)]))
theorem ks1150 : aseg kS krf kB [kE0, kE1, kE3, kE4, kE5, kE6, kE7, kE8, kE9, kE10, kE12, kE13, kE14, kE15, kE16, kE17, kE18, kE19, kE20, kE21, kE22, kE23, kE24, kE25, kE26, kE27, kE28, kE29, kE30, kE31, kE36, kE38, kE42, kE91, kE93, kE95, kE100, kE101, kE116, kE137, kE156, kE261, kE265, kE266, kE270, kE272, kE274, kE276, kE277, kE278, kE279, kE280, kE304, kE560, kE912, kE1009, kE1011, kE1012, kE1013, kE1014, kE1121, kE1122, kE1123, kE1124, kE1125, kE1126, kE1128, kE1141, kE1142, kE1143, kE1144, kE1145, kE1146, kE1147, kE1148, kE1149] (ksp []) kE1150 [kC1150_0] 30000 (none) = true := asgqw (by decide +kernel)
theorem ks1150_0 : aseg kS krf kB [kE0, kE1, kE3, kE4, kE5, kE6, kE7, kE8, kE9, kE10, kE12, kE13, kE14, kE15, kE16, kE17, kE18, kE19, kE20, kE21, kE22, kE23, kE24, kE25, kE26, kE27, kE28, kE29, kE30, kE31, kE36, kE38, kE42, kE91, kE93, kE95, kE100, kE101, kE116, kE137, kE156, kE261, kE265, kE266, kE270, kE272, kE274, kE276, kE277, kE278, kE279, kE280, kE304, kE560, kE912, kE1009, kE1011, kE1012, kE1013, kE1014, kE1121, kE1122, kE1123, kE1124, kE1125, kE1126, kE1128, kE1141, kE1142, kE1143, kE1144, kE1145, kE1146, kE1147, kE1148, kE1149] (ksp []) kE1150 [kC1150_0] 30000 (some kC1150_0) = true := asgqw (by decide +kernel)
set_option maxRecDepth 100000 in
theorem kok1150 : aOK kS krf kB kE1150 := aOK_of (kal1 kok0 (kal1 kok1 (kal1 kok3 (kal1 kok4 (kal1 kok5 (kal1 kok6 (kal1 kok7 (kal1 kok8 (kal1 kok9 (kal1 kok10 (kal1 kok12 (kal1 kok13 (kal1 kok14 (kal1 kok15 (kal1 kok16 (kal1 kok17 (kal1 kok18 (kal1 kok19 (kal1 kok20 (kal1 kok21 (kal1 kok22 (kal1 kok23 (kal1 kok24 (kal1 kok25 (kal1 kok26 (kal1 kok27 (kal1 kok28 (kal1 kok29 (kal1 kok30 (kal1 kok31 (kal1 kok36 (kal1 kok38 (kal1 kok42 (kal1 kok91 (kal1 kok93 (kal1 kok95 (kal1 kok100 (kal1 kok101 (kal1 kok116 (kal1 kok137 (kal1 kok156 (kal1 kok261 (kal1 kok265 (kal1 kok266 (kal1 kok270 (kal1 kok272 (kal1 kok274 (kal1 kok276 (kal1 kok277 (kal1 kok278 (kal1 kok279 (kal1 kok280 (kal1 kok304 (kal1 kok560 (kal1 kok912 (kal1 kok1009 (kal1 kok1011 (kal1 kok1012 (kal1 kok1013 (kal1 kok1014 (kal1 kok1121 (kal1 kok1122 (kal1 kok1123 (kal1 kok1124 (kal1 kok1125 (kal1 kok1126 (kal1 kok1128 (kal1 kok1141 (kal1 kok1142 (kal1 kok1143 (kal1 kok1144 (kal1 kok1145 (kal1 kok1146 (kal1 kok1147 (kal1 kok1148 (kal1 kok1149 kal0)))))))))))))))))))))))))))))))))))))))))))))))))))))))))))))))))))))))))))) (kcl1 ks1150_0 kcl0) ks1150
