/-! ENTRIES and their checks: printed by a program (wip/ai). -/
/-- ColdShod.law()I -/
def kE1106 : aE := (101, 53, ([], [], 0, [some (.inr [6]), none, none], []), ([], none), ([(.negSucc 219, .ofNat 1)], [], some (.inl (.inl (.inl (0, .ofNat 0)))), ([], [])), ([(14, 0), (14, 2), (17, 0), (17, 2), (40, 1), (40, 2)], [15, 18]))
theorem ks1106 : aseg kS krf kB [kE1105] (ksp []) kE1106 [] 30000 (none) = true := by decide +kernel
theorem kok1106 : aOK kS krf kB kE1106 := aOK_of (kal1 kok1105 kal0) kcl0 ks1106
/-- ColdShodModel.law()I -/
def kE1107 : aE := (177, 44, ([], [], 0, [some (.inr [102]), none, none, none], []), ([], none), ([(.negSucc 219, .ofNat 1)], [], some (.inl (.inl (.inl (0, .ofNat 0)))), ([], [])), ([(102, 12), (102, 14), (102, 15), (102, 16), (102, 17), (102, 18), (102, 19)], [110]))
def kC1107_0 : aC := (([kvA, kvB 0 120, kvB 0 120], [(102, 12, .inr (.ofNat 0)), (102, 18, .inr (.negSucc 0))], 37, [kvR 102, kvI 0, kvI 1, kvI 2], []), ([], []), (120, [(-1, 2)]))
theorem ks1107 : aseg kS krf kB [kE86] (ksp []) kE1107 [kC1107_0] 30000 (none) = true := by decide +kernel
theorem ks1107_0 : aseg kS krf kB [kE86] (ksp []) kE1107 [kC1107_0] 30000 (some kC1107_0) = true := by decide +kernel
theorem kok1107 : aOK kS krf kB kE1107 := aOK_of (kal1 kok86 kal0) (kcl1 ks1107_0 kcl0) ks1107
/-- ColdShod.feed(I)I -/
def kE1108 : aE := (100, 1, ([(.negSucc 2147483647, .ofNat 2147483647)], [], 0, [some (.inr [6]), some (.inl (.inl (.inl (0, .ofNat 0))))], []), ([], none), ([(.negSucc 2, .ofNat 120)], [], some (.inl (.inl (.inl (1, .ofNat 0)))), ([], [])), ([(40, 1)], [41]))
theorem ks1108 : aseg kS krf kB [] (ksp []) kE1108 [] 30000 (none) = true := by decide +kernel
theorem kok1108 : aOK kS krf kB kE1108 := aOK_of kal0 kcl0 ks1108
/-- ColdShodModel.feed(I)I -/
def kE1109 : aE := (165, 1, ([(.negSucc 2147483647, .ofNat 2147483647)], [], 0, [some (.inr [102]), some (.inl (.inl (.inl (0, .ofNat 0))))], []), ([], none), ([(.negSucc 2, .ofNat 120)], [], some (.inl (.inl (.inl (1, .ofNat 0)))), ([], [])), ([(102, 12)], [109]))
theorem ks1109 : aseg kS krf kB [] (ksp []) kE1109 [] 30000 (none) = true := by decide +kernel
theorem kok1109 : aOK kS krf kB kE1109 := aOK_of kal0 kcl0 ks1109
/-- ColdShod.of(II)I -/
def kE1110 : aE := (99, 3, ([(.negSucc 2147483647, .ofNat 2147483647), (.negSucc 2147483647, .ofNat 2147483647)], [], 0, [some (.inr [6]), some (.inl (.inl (.inl (0, .ofNat 0)))), some (.inl (.inl (.inl (1, .ofNat 0))))], []), ([], none), ([(.negSucc 2147483647, .ofNat 2147483647)], [], some (.inl (.inl (.inl (2, .ofNat 0)))), ([], [])), ([], []))
theorem ks1110 : aseg kS krf kB [] (ksp []) kE1110 [] 30000 (none) = true := by decide +kernel
theorem kok1110 : aOK kS krf kB kE1110 := aOK_of kal0 kcl0 ks1110
/-- ColdShodModel.of(II)I -/
def kE1111 : aE := (164, 3, ([(.negSucc 2147483647, .ofNat 2147483647), (.negSucc 2147483647, .ofNat 2147483647)], [], 0, [some (.inr [102]), some (.inl (.inl (.inl (0, .ofNat 0)))), some (.inl (.inl (.inl (1, .ofNat 0)))), none], []), ([], none), ([(.negSucc 1999999999, .ofNat 99)], [], some (.inl (.inl (.inl (2, .ofNat 0)))), ([], [])), ([], []))
theorem ks1111 : aseg kS krf kB [] (ksp []) kE1111 [] 30000 (none) = true := by decide +kernel
theorem kok1111 : aOK kS krf kB kE1111 := aOK_of kal0 kcl0 ks1111
/-- ColdShod$Changes.note(IIII)V -/
def kE1112 : aE := (9, 1, ([kvB 0 11, kvB 0 11, (.negSucc 1999999999, .ofNat 100000000), (.negSucc 0, .ofNat 99)], [], 0, [kvR 42, kvI 0, kvI 1, kvI 2, kvI 3], []), ([], none), ([], [], none, ([], [])), kvW93)
theorem ks1112 : aseg kS krf kB [] (ksp []) kE1112 [] 30000 (none) = true := by decide +kernel
theorem kok1112 : aOK kS krf kB kE1112 := aOK_of kal0 kcl0 ks1112
/-- ColdShod.mend(III)I -/
def kE1113 : aE := (98, 3, ([(.negSucc 2147483647, .ofNat 2147483647), (.negSucc 2147483647, .ofNat 2147483647), (.negSucc 2147483647, .ofNat 2147483647)], [], 0, [some (.inr [6]), some (.inl (.inl (.inl (0, .ofNat 0)))), some (.inl (.inl (.inl (1, .ofNat 0)))), some (.inl (.inl (.inl (2, .ofNat 0)))), none], []), ([], none), ([(.negSucc 1999999999, .ofNat 100000000)], [], some (.inl (.inl (.inl (3, .ofNat 0)))), ([], [])), ([(20, 0), (20, 1), (20, 2), (20, 3), (20, 4), (20, 5), (20, 6), (21, 0), (21, 1), (21, 2), (21, 3), (21, 4), (21, 5), (21, 6), (22, 0), (22, 1), (22, 2), (22, 3), (22, 4), (22, 5), (22, 6), (23, 0), (23, 1), (23, 2), (23, 3), (23, 4), (23, 5), (23, 6), (24, 0), (24, 1), (24, 2), (24, 3), (24, 4), (24, 5), (24, 6), (25, 0), (25, 1), (25, 2), (25, 3), (25, 4), (25, 5), (25, 6), (26, 0), (26, 1), (26, 2), (26, 3), (26, 4), (26, 5), (26, 6), (27, 0), (27, 1), (27, 2), (27, 3), (27, 4), (27, 5), (27, 6), (28, 2), (28, 3), (28, 4), (29, 2), (29, 3), (29, 4), (30, 2), (30, 3), (30, 4), (31, 2), (31, 3), (31, 4), (32, 2), (32, 3), (32, 4), (33, 2), (33, 3), (33, 4), (34, 2), (34, 3), (34, 4), (35, 2), (35, 3), (35, 4), (36, 2), (36, 3), (36, 4), (37, 2), (37, 3), (37, 4), (38, 2), (38, 3), (38, 4), (39, 2), (39, 3), (39, 4), (42, 0), (42, 1)], [8, 9, 43, 44, 45, 46, 1000]))
theorem ks1113 : aseg kS krf kB [kE1112] (ksp []) kE1113 [] 30000 (none) = true := by decide +kernel
theorem kok1113 : aOK kS krf kB kE1113 := aOK_of (kal1 kok1112 kal0) kcl0 ks1113
/-- ColdShodModel.becomes(II)I -/
def kE1114 : aE := (148, 0, ([kvB 92 103, kvB 0 2], [], 0, [kvR 102, kvI 0, kvI 1, none, none], []), ([], none), ([(.negSucc 0, .ofNat 99)], [], kvI 2, ([], [])), kvW94)
theorem kok1114 : aOK kS krf kB kE1114 := hand_becomes (wb := (.ofNat 92, .ofNat 103)) (vb := (.ofNat 0, .ofNat 2)) (by decide +kernel)
/-- ColdShodModel.becomes(II)I -/
def kE1115 : aE := (148, 0, ([kvB 80 91, kvB 0 9], [], 0, [kvR 102, kvI 0, kvI 1, none, none], []), ([], none), ([(.negSucc 0, .ofNat 99)], [], kvI 2, ([], [])), kvW94)
theorem kok1115 : aOK kS krf kB kE1115 := hand_becomes (wb := (.ofNat 80, .ofNat 91)) (vb := (.ofNat 0, .ofNat 9)) (by decide +kernel)
/-- ColdShodModel.becomes(II)I -/
def kE1116 : aE := (148, 0, ([kvB 68 79, kvB 1 9], [], 0, [kvR 102, kvI 0, kvI 1, none, none], []), ([], none), ([(.negSucc 0, .ofNat 99)], [], kvI 2, ([], [])), kvW94)
theorem kok1116 : aOK kS krf kB kE1116 := hand_becomes (wb := (.ofNat 68, .ofNat 79)) (vb := (.ofNat 1, .ofNat 9)) (by decide +kernel)
/-- ColdShodModel.becomes(II)I -/
def kE1117 : aE := (148, 0, ([kvB 60 67, (.negSucc 0, .ofNat 5)], [], 0, [kvR 102, kvI 0, kvI 1, none, none], []), ([], none), ([(.negSucc 0, .ofNat 99)], [], kvI 2, ([], [])), kvW94)
theorem kok1117 : aOK kS krf kB kE1117 := hand_becomes (wb := (.ofNat 60, .ofNat 67)) (vb := (.negSucc 0, .ofNat 5)) (by decide +kernel)
/-- ColdShodModel.becomes(II)I -/
def kE1118 : aE := (148, 0, ([kvB 52 59, kvB 0 9], [], 0, [kvR 102, kvI 0, kvI 1, none, none], []), ([], none), ([(.negSucc 0, .ofNat 99)], [], kvI 2, ([], [])), kvW94)
theorem kok1118 : aOK kS krf kB kE1118 := hand_becomes (wb := (.ofNat 52, .ofNat 59)) (vb := (.ofNat 0, .ofNat 9)) (by decide +kernel)
/-- ColdShodModel.becomes(II)I -/
def kE1119 : aE := (148, 0, ([kvB 44 51, kvB 0 1], [], 0, [kvR 102, kvI 0, kvI 1, none, none], []), ([], none), ([(.negSucc 0, .ofNat 99)], [], kvI 2, ([], [])), kvW94)
theorem kok1119 : aOK kS krf kB kE1119 := hand_becomes (wb := (.ofNat 44, .ofNat 51)) (vb := (.ofNat 0, .ofNat 1)) (by decide +kernel)
/-- ColdShodModel.becomes(II)I -/
def kE1120 : aE := (148, 0, ([kvB 36 43, kvB 0 9], [], 0, [kvR 102, kvI 0, kvI 1, none, none], []), ([], none), ([(.negSucc 0, .ofNat 99)], [], kvI 2, ([], [])), kvW94)
theorem kok1120 : aOK kS krf kB kE1120 := hand_becomes (wb := (.ofNat 36, .ofNat 43)) (vb := (.ofNat 0, .ofNat 9)) (by decide +kernel)
/-- ColdShodModel.becomes(II)I -/
def kE1121 : aE := (148, 0, ([kvB 28 35, kvB 0 99], [], 0, [kvR 102, kvI 0, kvI 1, none, none], []), ([], none), ([(.negSucc 0, .ofNat 99)], [], kvI 2, ([], [])), kvW94)
theorem kok1121 : aOK kS krf kB kE1121 := hand_becomes (wb := (.ofNat 28, .ofNat 35)) (vb := (.ofNat 0, .ofNat 99)) (by decide +kernel)
/-- ColdShodModel.becomes(II)I -/
def kE1122 : aE := (148, 0, ([kvB 20 27, kvB 0 5], [], 0, [kvR 102, kvI 0, kvI 1, none, none], []), ([], none), ([(.negSucc 0, .ofNat 99)], [], kvI 2, ([], [])), kvW94)
theorem kok1122 : aOK kS krf kB kE1122 := hand_becomes (wb := (.ofNat 20, .ofNat 27)) (vb := (.ofNat 0, .ofNat 5)) (by decide +kernel)
/-- ColdShodModel.becomes(II)I -/
def kE1123 : aE := (148, 0, ([kvB 12 19, kvB 0 3], [], 0, [kvR 102, kvI 0, kvI 1, none, none], []), ([], none), ([(.negSucc 0, .ofNat 99)], [], kvI 2, ([], [])), kvW94)
theorem kok1123 : aOK kS krf kB kE1123 := hand_becomes (wb := (.ofNat 12, .ofNat 19)) (vb := (.ofNat 0, .ofNat 3)) (by decide +kernel)
/-- ColdShodModel.becomes(II)I -/
def kE1124 : aE := (148, 0, ([kvB 6 11, kvB 0 12], [], 0, [kvR 102, kvI 0, kvI 1, none, none], []), ([], none), ([(.negSucc 0, .ofNat 99)], [], kvI 2, ([], [])), kvW94)
theorem kok1124 : aOK kS krf kB kE1124 := hand_becomes (wb := (.ofNat 6, .ofNat 11)) (vb := (.ofNat 0, .ofNat 12)) (by decide +kernel)
/-- ColdShodModel.becomes(II)I -/
def kE1125 : aE := (148, 0, ([kvB 0 5, kvB 0 5], [], 0, [kvR 102, kvI 0, kvI 1, none, none], []), ([], none), ([(.negSucc 0, .ofNat 99)], [], kvI 2, ([], [])), kvW94)
theorem kok1125 : aOK kS krf kB kE1125 := hand_becomes (wb := (.ofNat 0, .ofNat 5)) (vb := (.ofNat 0, .ofNat 5)) (by decide +kernel)
/-- ColdShodModel.mend(III)I -/
def kE1126 : aE := (163, 3, ([(.negSucc 2147483647, .ofNat 2147483647), (.negSucc 2147483647, .ofNat 2147483647), (.negSucc 2147483647, .ofNat 2147483647)], [], 0, [some (.inr [102]), some (.inl (.inl (.inl (0, .ofNat 0)))), some (.inl (.inl (.inl (1, .ofNat 0)))), some (.inl (.inl (.inl (2, .ofNat 0)))), none], []), ([], none), ([(.negSucc 1999999999, .ofNat 99)], [], some (.inl (.inl (.inl (3, .ofNat 0)))), ([], [])), ([(102, 4), (102, 5)], [103, 104, 105, 106]))
theorem ks1126 : aseg kS krf kB [kE1114, kE1115, kE1116, kE1117, kE1118, kE1119, kE1120, kE1121, kE1122, kE1123, kE1124, kE1125] (ksp [(163, 0, 2, 0, 11, 0)]) kE1126 [] 30000 (none) = true := by decide +kernel
theorem kok1126 : aOK kS krf kB kE1126 := aOK_of (kal1 kok1114 (kal1 kok1115 (kal1 kok1116 (kal1 kok1117 (kal1 kok1118 (kal1 kok1119 (kal1 kok1120 (kal1 kok1121 (kal1 kok1122 (kal1 kok1123 (kal1 kok1124 (kal1 kok1125 kal0)))))))))))) kcl0 ks1126
/-- ColdShod.roads(III)I -/
def kE1127 : aE := (96, 2, ([(.negSucc 2147483647, .ofNat 2147483647), (.negSucc 2147483647, .ofNat 2147483647), (.negSucc 2147483647, .ofNat 2147483647)], [], 0, [some (.inr [6]), some (.inl (.inl (.inl (0, .ofNat 0)))), some (.inl (.inl (.inl (1, .ofNat 0)))), some (.inl (.inl (.inl (2, .ofNat 0)))), none, none, none], []), ([], none), ([(.negSucc 11, .ofNat 12)], [], some (.inl (.inl (.inl (3, .ofNat 0)))), ([], [])), ([(7, 8), (28, 0), (28, 1), (28, 2), (29, 0), (29, 1), (29, 2), (30, 0), (30, 1), (30, 2), (31, 0), (31, 1), (31, 2), (32, 0), (32, 1), (32, 2), (33, 0), (33, 1), (33, 2), (34, 0), (34, 1), (34, 2), (35, 0), (35, 1), (35, 2), (36, 0), (36, 1), (36, 2), (37, 0), (37, 1), (37, 2), (38, 0), (38, 1), (38, 2), (39, 0), (39, 1), (39, 2)], []))
def kC1127_0 : aC := (([kvB 0 5, kvB 0 2147483647, kvB 1 12, kvB 0 12, kvB 0 2147483647], [], 61, [kvR 6, kvI 0, kvI 1, kvI 2, some (.inr [76, 78, 80, 82, 84, 86]), kvI 3, kvI 4], []), ([], []), (12, [(-1, 3)]))
theorem ks1127 : aseg kS krf kB [] (ksp []) kE1127 [kC1127_0] 30000 (none) = true := by decide +kernel
theorem ks1127_0 : aseg kS krf kB [] (ksp []) kE1127 [kC1127_0] 30000 (some kC1127_0) = true := by decide +kernel
theorem kok1127 : aOK kS krf kB kE1127 := aOK_of kal0 (kcl1 ks1127_0 kcl0) ks1127
/-- ColdShodModel.roads(III)I -/
def kE1128 : aE := (160, 3, ([(.negSucc 2147483647, .ofNat 2147483647), (.negSucc 2147483647, .ofNat 2147483647), (.negSucc 2147483647, .ofNat 2147483647)], [], 0, [some (.inr [102]), some (.inl (.inl (.inl (0, .ofNat 0)))), some (.inl (.inl (.inl (1, .ofNat 0)))), some (.inl (.inl (.inl (2, .ofNat 0)))), none, none, none], []), ([], none), ([(.negSucc 11, .ofNat 12)], [], some (.inl (.inl (.inl (3, .ofNat 0)))), ([], [])), ([(102, 8)], [103, 107, 108]))
def kC1128_0 : aC := (([kvB 0 5, kvB 0 2147483647, kvB 1 12, kvB 0 12], [], 69, [kvR 102, kvI 0, kvI 1, kvI 2, kvI 3, kvN 1, none], []), ([], []), (28, [(-1, 3)]))
def kC1128_1 : aC := (([kvB 0 5, kvA, kvB 1 12, kvB 0 11], [], 69, [kvR 102, kvI 0, kvI 1, kvI 2, kvI 3, kvN 0, none], []), ([], []), (0, []))
theorem ks1128 : aseg kS krf kB [] (ksp [(160, 80, 4, -1000, 1000, 0)]) kE1128 [kC1128_0, kC1128_1] 30000 (none) = true := by decide +kernel
theorem ks1128_0 : aseg kS krf kB [] (ksp [(160, 80, 4, -1000, 1000, 0)]) kE1128 [kC1128_0, kC1128_1] 30000 (some kC1128_0) = true := by decide +kernel
theorem ks1128_1 : aseg kS krf kB [] (ksp [(160, 80, 4, -1000, 1000, 0)]) kE1128 [kC1128_0, kC1128_1] 30000 (some kC1128_1) = true := by decide +kernel
theorem kok1128 : aOK kS krf kB kE1128 := aOK_of kal0 (kcl1 ks1128_0 (kcl1 ks1128_1 kcl0)) ks1128
/-- ColdShod.road(II)I -/
def kE1129 : aE := (95, 2, ([(.negSucc 2147483647, .ofNat 2147483647), (.negSucc 2147483647, .ofNat 2147483647)], [], 0, [some (.inr [6]), some (.inl (.inl (.inl (0, .ofNat 0)))), some (.inl (.inl (.inl (1, .ofNat 0))))], []), ([], none), ([(.negSucc 2, .ofNat 11)], [], some (.inl (.inl (.inl (2, .ofNat 0)))), ([], [])), ([(7, 8), (28, 0), (28, 1), (28, 2), (29, 0), (29, 1), (29, 2), (30, 0), (30, 1), (30, 2), (31, 0), (31, 1), (31, 2), (32, 0), (32, 1), (32, 2), (33, 0), (33, 1), (33, 2), (34, 0), (34, 1), (34, 2), (35, 0), (35, 1), (35, 2), (36, 0), (36, 1), (36, 2), (37, 0), (37, 1), (37, 2), (38, 0), (38, 1), (38, 2), (39, 0), (39, 1), (39, 2)], []))
theorem ks1129 : aseg kS krf kB [] (ksp []) kE1129 [] 30000 (none) = true := by decide +kernel
theorem kok1129 : aOK kS krf kB kE1129 := aOK_of kal0 kcl0 ks1129
/-- ColdShodModel.road(II)I -/
def kE1130 : aE := (159, 3, ([(.negSucc 2147483647, .ofNat 2147483647), (.negSucc 2147483647, .ofNat 2147483647)], [], 0, [some (.inr [102]), some (.inl (.inl (.inl (0, .ofNat 0)))), some (.inl (.inl (.inl (1, .ofNat 0))))], []), ([], none), ([(.negSucc 2, .ofNat 11)], [], some (.inl (.inl (.inl (2, .ofNat 0)))), ([], [])), ([(102, 8)], [103, 107, 108]))
theorem ks1130 : aseg kS krf kB [] (ksp []) kE1130 [] 30000 (none) = true := by decide +kernel
theorem kok1130 : aOK kS krf kB kE1130 := aOK_of kal0 kcl0 ks1130
/-- ColdShod.idea(II)I -/
def kE1131 : aE := (94, 0, ([(.negSucc 2147483647, .ofNat 2147483647), (.negSucc 2147483647, .ofNat 2147483647)], [], 0, [some (.inr [6]), some (.inl (.inl (.inl (0, .ofNat 0)))), some (.inl (.inl (.inl (1, .ofNat 0)))), none], []), ([], none), ([(.negSucc 2, .ofNat 7)], [], some (.inl (.inl (.inl (2, .ofNat 0)))), ([], [])), ([(7, 7), (20, 0), (20, 1), (21, 0), (21, 1), (22, 0), (22, 1), (23, 0), (23, 1), (24, 0), (24, 1), (25, 0), (25, 1), (26, 0), (26, 1), (27, 0), (27, 1)], []))
theorem ks1131 : aseg kS krf kB [] (ksp []) kE1131 [] 30000 (none) = true := by decide +kernel
theorem kok1131 : aOK kS krf kB kE1131 := aOK_of kal0 kcl0 ks1131
/-- ColdShodModel.idea(II)I -/
def kE1132 : aE := (156, 1, ([(.negSucc 2147483647, .ofNat 2147483647), (.negSucc 2147483647, .ofNat 2147483647)], [], 0, [some (.inr [102]), some (.inl (.inl (.inl (0, .ofNat 0)))), some (.inl (.inl (.inl (1, .ofNat 0))))], []), ([], none), ([(.negSucc 2, .ofNat 7)], [], some (.inl (.inl (.inl (2, .ofNat 0)))), ([], [])), ([(102, 7)], [103]))
theorem ks1132 : aseg kS krf kB [] (ksp []) kE1132 [] 30000 (none) = true := by decide +kernel
theorem kok1132 : aOK kS krf kB kE1132 := aOK_of kal0 kcl0 ks1132
/-- ColdShod.head(I)I -/
def kE1133 : aE := (93, 0, ([(.negSucc 2147483647, .ofNat 2147483647)], [], 0, [some (.inr [6]), some (.inl (.inl (.inl (0, .ofNat 0))))], []), ([], none), ([(.negSucc 2, .ofNat 5)], [], some (.inl (.inl (.inl (1, .ofNat 0)))), ([], [])), ([(7, 6)], [8, 9]))
theorem ks1133 : aseg kS krf kB [] (ksp []) kE1133 [] 30000 (none) = true := by decide +kernel
theorem kok1133 : aOK kS krf kB kE1133 := aOK_of kal0 kcl0 ks1133
/-- ColdShodModel.head(I)I -/
def kE1134 : aE := (155, 1, ([(.negSucc 2147483647, .ofNat 2147483647)], [], 0, [some (.inr [102]), some (.inl (.inl (.inl (0, .ofNat 0))))], []), ([], none), ([(.negSucc 2, .ofNat 5)], [], some (.inl (.inl (.inl (1, .ofNat 0)))), ([], [])), ([(102, 6)], [103]))
theorem ks1134 : aseg kS krf kB [] (ksp []) kE1134 [] 30000 (none) = true := by decide +kernel
theorem kok1134 : aOK kS krf kB kE1134 := aOK_of kal0 kcl0 ks1134
/-- ColdShodLaw.law([I)Z -/
def kE1135 : aE := (241, 55, ([kvB 0 3072], [], 18, [kvR 0, kvR 6, kvR 102, kvN 0], []), ([], some 0), ([kvB 0 1], [], kvI 1, ([], [])), kvW95)
def kC1135_0 : aC := (([kvB 6 3072, kvB 6 3072], [], 18, [kvR 0, kvR 6, kvR 102, kvI 1], []), ([], []), (3072, [(-1, 1)]))
theorem ks1135 : aseg kS krf kB [kE0, kE1, kE3, kE4, kE5, kE6, kE7, kE8, kE9, kE10, kE12, kE13, kE14, kE15, kE16, kE17, kE18, kE19, kE20, kE21, kE22, kE23, kE24, kE25, kE26, kE27, kE28, kE29, kE30, kE31, kE36, kE38, kE42, kE89, kE91, kE93, kE97, kE98, kE113, kE134, kE147, kE252, kE253, kE254, kE258, kE260, kE262, kE264, kE265, kE266, kE267, kE268, kE291, kE547, kE900, kE997, kE999, kE1000, kE1001, kE1002, kE1106, kE1107, kE1108, kE1109, kE1110, kE1111, kE1113, kE1126, kE1127, kE1128, kE1129, kE1130, kE1131, kE1132, kE1133, kE1134] (ksp []) kE1135 [kC1135_0] 30000 (none) = true := by decide +kernel
theorem ks1135_0 : aseg kS krf kB [kE0, kE1, kE3, kE4, kE5, kE6, kE7, kE8, kE9, kE10, kE12, kE13, kE14, kE15, kE16, kE17, kE18, kE19, kE20, kE21, kE22, kE23, kE24, kE25, kE26, kE27, kE28, kE29, kE30, kE31, kE36, kE38, kE42, kE89, kE91, kE93, kE97, kE98, kE113, kE134, kE147, kE252, kE253, kE254, kE258, kE260, kE262, kE264, kE265, kE266, kE267, kE268, kE291, kE547, kE900, kE997, kE999, kE1000, kE1001, kE1002, kE1106, kE1107, kE1108, kE1109, kE1110, kE1111, kE1113, kE1126, kE1127, kE1128, kE1129, kE1130, kE1131, kE1132, kE1133, kE1134] (ksp []) kE1135 [kC1135_0] 30000 (some kC1135_0) = true := by decide +kernel
set_option maxRecDepth 100000 in
theorem kok1135 : aOK kS krf kB kE1135 := aOK_of (kal1 kok0 (kal1 kok1 (kal1 kok3 (kal1 kok4 (kal1 kok5 (kal1 kok6 (kal1 kok7 (kal1 kok8 (kal1 kok9 (kal1 kok10 (kal1 kok12 (kal1 kok13 (kal1 kok14 (kal1 kok15 (kal1 kok16 (kal1 kok17 (kal1 kok18 (kal1 kok19 (kal1 kok20 (kal1 kok21 (kal1 kok22 (kal1 kok23 (kal1 kok24 (kal1 kok25 (kal1 kok26 (kal1 kok27 (kal1 kok28 (kal1 kok29 (kal1 kok30 (kal1 kok31 (kal1 kok36 (kal1 kok38 (kal1 kok42 (kal1 kok89 (kal1 kok91 (kal1 kok93 (kal1 kok97 (kal1 kok98 (kal1 kok113 (kal1 kok134 (kal1 kok147 (kal1 kok252 (kal1 kok253 (kal1 kok254 (kal1 kok258 (kal1 kok260 (kal1 kok262 (kal1 kok264 (kal1 kok265 (kal1 kok266 (kal1 kok267 (kal1 kok268 (kal1 kok291 (kal1 kok547 (kal1 kok900 (kal1 kok997 (kal1 kok999 (kal1 kok1000 (kal1 kok1001 (kal1 kok1002 (kal1 kok1106 (kal1 kok1107 (kal1 kok1108 (kal1 kok1109 (kal1 kok1110 (kal1 kok1111 (kal1 kok1113 (kal1 kok1126 (kal1 kok1127 (kal1 kok1128 (kal1 kok1129 (kal1 kok1130 (kal1 kok1131 (kal1 kok1132 (kal1 kok1133 (kal1 kok1134 kal0)))))))))))))))))))))))))))))))))))))))))))))))))))))))))))))))))))))))))))) (kcl1 ks1135_0 kcl0) ks1135
