/-! ENTRIES and their checks: printed by a program (wip/ai). -/
/-- ColdShodModel.either()I -/
def kE60 : aE := (169, 18, ([(.ofNat 4, .ofNat 120), (.ofNat 4, .ofNat 6)], [(102, 16, .inl (0, .ofNat 0)), (102, 19, .inl (1, .ofNat 0))], 0, [some (.inr [102]), none, none], []), ([], none), ([(.negSucc 2147483647, .ofNat 2147483647), (.ofNat 4, .ofNat 120), (.ofNat 4, .ofNat 6)], [(102, 16, .inl (3, .ofNat 0)), (102, 19, .inl (4, .ofNat 0))], some (.inl (.inl (.inl (2, .ofNat 0)))), ([(3, 0, 0)], [])), ([(102, 16), (102, 18), (102, 19)], []))
def kC60_0 : aC := (([(.ofNat 4, .ofNat 120), (.ofNat 4, .ofNat 6), (.negSucc 2147483647, .ofNat 2147483647), (.ofNat 4, .ofNat 120), (.ofNat 4, .ofNat 6)], [(102, 16, .inl (3, .ofNat 0)), (102, 19, .inl (4, .ofNat 0))], 5, [some (.inr [102]), some (.inl (.inl (.inl (2, .ofNat 0)))), none], []), ([(3, 0, 0)], []), (120, [(-1, 3)]))
theorem ks60 : aseg kS krf kB [kE59] (ksp []) kE60 [kC60_0] 30000 (none) = true := by decide +kernel
theorem ks60_0 : aseg kS krf kB [kE59] (ksp []) kE60 [kC60_0] 30000 (some kC60_0) = true := by decide +kernel
theorem kok60 : aOK kS krf kB kE60 := aOK_of (kal1 kok59 kal0) (kcl1 ks60_0 kcl0) ks60
/-- ColdShodModel.one()I -/
def kE61 : aE := (175, 19, ([(.ofNat 3, .ofNat 120), (.ofNat 3, .ofNat 6)], [(102, 16, .inl (0, .ofNat 0)), (102, 19, .inl (1, .ofNat 0))], 0, [some (.inr [102]), none, none, none, none], []), ([], none), ([(.negSucc 2147483647, .ofNat 2147483647), (.ofNat 3, .ofNat 120), (.ofNat 3, .ofNat 6)], [(102, 16, .inl (3, .ofNat 0)), (102, 19, .inl (4, .ofNat 0))], some (.inl (.inl (.inl (2, .ofNat 0)))), ([(3, 0, 0)], [])), ([(102, 16), (102, 18), (102, 19)], []))
def kC61_0 : aC := (([(.ofNat 3, .ofNat 120), (.ofNat 3, .ofNat 6), (.ofNat 0, .ofNat 255), (.negSucc 2147483647, .ofNat 2147483647), (.ofNat 0, .ofNat 4), (.ofNat 3, .ofNat 120)], [(102, 16, .inl (5, .ofNat 0)), (102, 19, .inl (1, .ofNat 0)), (102, 18, .inr (.negSucc 0))], 176, [some (.inr [102]), some (.inl (.inl (.inl (2, .ofNat 0)))), some (.inl (.inl (.inr (.negSucc 0)))), some (.inl (.inl (.inl (3, .ofNat 0)))), some (.inl (.inl (.inl (4, .ofNat 0))))], []), ([(5, 0, 0)], []), (4, [(-1, 4)]))
theorem ks61 : aseg kS krf kB [kE60, kE55] (ksp []) kE61 [kC61_0] 30000 (none) = true := by decide +kernel
theorem ks61_0 : aseg kS krf kB [kE60, kE55] (ksp []) kE61 [kC61_0] 30000 (some kC61_0) = true := by decide +kernel
theorem kok61 : aOK kS krf kB kE61 := aOK_of (kal1 kok60 (kal1 kok55 kal0)) (kcl1 ks61_0 kcl0) ks61
/-- ColdShodModel.product()I -/
def kE62 : aE := (173, 20, ([(.ofNat 3, .ofNat 120), (.ofNat 3, .ofNat 6)], [(102, 16, .inl (0, .ofNat 0)), (102, 19, .inl (1, .ofNat 0))], 0, [some (.inr [102]), none, none, none], []), ([], none), ([(.negSucc 2147483647, .ofNat 2147483647), (.ofNat 3, .ofNat 120), (.ofNat 3, .ofNat 6)], [(102, 16, .inl (3, .ofNat 0)), (102, 19, .inl (4, .ofNat 0))], some (.inl (.inl (.inl (2, .ofNat 0)))), ([(3, 0, 0)], [])), ([(102, 16), (102, 18), (102, 19)], []))
def kC62_0 : aC := (([(.ofNat 3, .ofNat 120), (.ofNat 3, .ofNat 6), (.negSucc 2147483647, .ofNat 2147483647), (.ofNat 0, .ofNat 255), (.ofNat 3, .ofNat 119), (.ofNat 3, .ofNat 6), (.ofNat 4, .ofNat 120)], [(102, 16, .inl (4, .ofNat 0)), (102, 19, .inl (5, .ofNat 0)), (102, 17, .inl (6, .ofNat 0))], 10, [some (.inr [102]), some (.inl (.inl (.inl (2, .ofNat 0)))), some (.inl (.inl (.inl (3, .ofNat 0)))), none], []), ([(4, 0, 0)], []), (239, [(-1, 4)]))
def kC62_1 : aC := (([(.ofNat 3, .ofNat 120), (.ofNat 3, .ofNat 6), (.negSucc 2147483647, .ofNat 2147483647), (.ofNat 3, .ofNat 120), (.ofNat 3, .ofNat 6)], [(102, 16, .inl (3, .ofNat 0)), (102, 19, .inl (4, .ofNat 0))], 10, [some (.inr [102]), some (.inl (.inl (.inl (2, .ofNat 0)))), some (.inl (.inl (.inr (.ofNat 0)))), none], []), ([(3, 0, 0)], []), (0, []))
theorem ks62 : aseg kS krf kB [kE61] (ksp [(173, 62, 3, 0, 0, 0)]) kE62 [kC62_0, kC62_1] 30000 (none) = true := by decide +kernel
theorem ks62_0 : aseg kS krf kB [kE61] (ksp [(173, 62, 3, 0, 0, 0)]) kE62 [kC62_0, kC62_1] 30000 (some kC62_0) = true := by decide +kernel
theorem ks62_1 : aseg kS krf kB [kE61] (ksp [(173, 62, 3, 0, 0, 0)]) kE62 [kC62_0, kC62_1] 30000 (some kC62_1) = true := by decide +kernel
theorem kok62 : aOK kS krf kB kE62 := aOK_of (kal1 kok61 kal0) (kcl1 ks62_0 (kcl1 ks62_1 kcl0)) ks62
/-- ColdShodModel.sums()I -/
def kE63 : aE := (172, 21, ([(.ofNat 3, .ofNat 120), (.ofNat 3, .ofNat 6)], [(102, 16, .inl (0, .ofNat 0)), (102, 19, .inl (1, .ofNat 0))], 0, [some (.inr [102]), none, none, none], []), ([], none), ([(.negSucc 2147483647, .ofNat 2147483647), (.ofNat 3, .ofNat 120), (.ofNat 3, .ofNat 6)], [(102, 16, .inl (3, .ofNat 0)), (102, 19, .inl (4, .ofNat 0))], some (.inl (.inl (.inl (2, .ofNat 0)))), ([(3, 0, 0)], [])), ([(102, 16), (102, 18), (102, 19)], []))
def kC63_0 : aC := (([(.ofNat 3, .ofNat 120), (.ofNat 3, .ofNat 6), (.negSucc 2147483647, .ofNat 2147483647), (.ofNat 3, .ofNat 120), (.ofNat 3, .ofNat 6)], [(102, 16, .inl (3, .ofNat 0)), (102, 19, .inl (4, .ofNat 0))], 5, [some (.inr [102]), some (.inl (.inl (.inl (2, .ofNat 0)))), none, none], []), ([(3, 0, 0)], []), (120, [(-1, 3)]))
theorem ks63 : aseg kS krf kB [kE62] (ksp []) kE63 [kC63_0] 30000 (none) = true := by decide +kernel
theorem ks63_0 : aseg kS krf kB [kE62] (ksp []) kE63 [kC63_0] 30000 (some kC63_0) = true := by decide +kernel
theorem kok63 : aOK kS krf kB kE63 := aOK_of (kal1 kok62 kal0) (kcl1 ks63_0 kcl0) ks63
/-- ColdShodModel.compared()I -/
def kE64 : aE := (171, 22, ([(.ofNat 3, .ofNat 120), (.ofNat 3, .ofNat 6)], [(102, 16, .inl (0, .ofNat 0)), (102, 19, .inl (1, .ofNat 0))], 0, [some (.inr [102]), none, none, none], []), ([], none), ([(.negSucc 2147483647, .ofNat 2147483647), (.ofNat 3, .ofNat 120), (.ofNat 3, .ofNat 6)], [(102, 16, .inl (3, .ofNat 0)), (102, 19, .inl (4, .ofNat 0))], some (.inl (.inl (.inl (2, .ofNat 0)))), ([(3, 0, 0)], [])), ([(102, 16), (102, 18), (102, 19)], []))
theorem ks64 : aseg kS krf kB [kE63] (ksp []) kE64 [] 30000 (none) = true := by decide +kernel
theorem kok64 : aOK kS krf kB kE64 := aOK_of (kal1 kok63 kal0) kcl0 ks64
/-- ColdShodModel.both()I -/
def kE65 : aE := (170, 23, ([(.ofNat 3, .ofNat 120), (.ofNat 3, .ofNat 6)], [(102, 16, .inl (0, .ofNat 0)), (102, 19, .inl (1, .ofNat 0))], 0, [some (.inr [102]), none, none], []), ([], none), ([(.negSucc 2147483647, .ofNat 2147483647), (.ofNat 3, .ofNat 120), (.ofNat 3, .ofNat 6)], [(102, 16, .inl (3, .ofNat 0)), (102, 19, .inl (4, .ofNat 0))], some (.inl (.inl (.inl (2, .ofNat 0)))), ([(3, 0, 0)], [])), ([(102, 16), (102, 18), (102, 19)], []))
def kC65_0 : aC := (([(.ofNat 3, .ofNat 120), (.ofNat 3, .ofNat 6), (.negSucc 2147483647, .ofNat 2147483647), (.ofNat 3, .ofNat 120), (.ofNat 3, .ofNat 6)], [(102, 16, .inl (3, .ofNat 0)), (102, 19, .inl (4, .ofNat 0))], 5, [some (.inr [102]), some (.inl (.inl (.inl (2, .ofNat 0)))), none], []), ([(3, 0, 0)], []), (120, [(-1, 3)]))
theorem ks65 : aseg kS krf kB [kE64] (ksp []) kE65 [kC65_0] 30000 (none) = true := by decide +kernel
theorem ks65_0 : aseg kS krf kB [kE64] (ksp []) kE65 [kC65_0] 30000 (some kC65_0) = true := by decide +kernel
theorem kok65 : aOK kS krf kB kE65 := aOK_of (kal1 kok64 kal0) (kcl1 ks65_0 kcl0) ks65
/-- ColdShodModel.either()I -/
def kE66 : aE := (169, 24, ([(.ofNat 3, .ofNat 120), (.ofNat 3, .ofNat 6)], [(102, 16, .inl (0, .ofNat 0)), (102, 19, .inl (1, .ofNat 0))], 0, [some (.inr [102]), none, none], []), ([], none), ([(.negSucc 2147483647, .ofNat 2147483647), (.ofNat 3, .ofNat 120), (.ofNat 3, .ofNat 6)], [(102, 16, .inl (3, .ofNat 0)), (102, 19, .inl (4, .ofNat 0))], some (.inl (.inl (.inl (2, .ofNat 0)))), ([(3, 0, 0)], [])), ([(102, 16), (102, 18), (102, 19)], []))
def kC66_0 : aC := (([(.ofNat 3, .ofNat 120), (.ofNat 3, .ofNat 6), (.negSucc 2147483647, .ofNat 2147483647), (.ofNat 3, .ofNat 120), (.ofNat 3, .ofNat 6)], [(102, 16, .inl (3, .ofNat 0)), (102, 19, .inl (4, .ofNat 0))], 5, [some (.inr [102]), some (.inl (.inl (.inl (2, .ofNat 0)))), none], []), ([(3, 0, 0)], []), (120, [(-1, 3)]))
theorem ks66 : aseg kS krf kB [kE65] (ksp []) kE66 [kC66_0] 30000 (none) = true := by decide +kernel
theorem ks66_0 : aseg kS krf kB [kE65] (ksp []) kE66 [kC66_0] 30000 (some kC66_0) = true := by decide +kernel
theorem kok66 : aOK kS krf kB kE66 := aOK_of (kal1 kok65 kal0) (kcl1 ks66_0 kcl0) ks66
/-- ColdShodModel.one()I -/
def kE67 : aE := (175, 25, ([(.ofNat 2, .ofNat 120), (.ofNat 2, .ofNat 6)], [(102, 16, .inl (0, .ofNat 0)), (102, 19, .inl (1, .ofNat 0))], 0, [some (.inr [102]), none, none, none, none], []), ([], none), ([(.negSucc 2147483647, .ofNat 2147483647), (.ofNat 2, .ofNat 120), (.ofNat 2, .ofNat 6)], [(102, 16, .inl (3, .ofNat 0)), (102, 19, .inl (4, .ofNat 0))], some (.inl (.inl (.inl (2, .ofNat 0)))), ([(3, 0, 0)], [])), ([(102, 16), (102, 18), (102, 19)], []))
def kC67_0 : aC := (([(.ofNat 2, .ofNat 120), (.ofNat 2, .ofNat 6), (.ofNat 0, .ofNat 255), (.negSucc 2147483647, .ofNat 2147483647), (.ofNat 0, .ofNat 4), (.ofNat 2, .ofNat 120)], [(102, 16, .inl (5, .ofNat 0)), (102, 19, .inl (1, .ofNat 0)), (102, 18, .inr (.negSucc 0))], 176, [some (.inr [102]), some (.inl (.inl (.inl (2, .ofNat 0)))), some (.inl (.inl (.inr (.negSucc 0)))), some (.inl (.inl (.inl (3, .ofNat 0)))), some (.inl (.inl (.inl (4, .ofNat 0))))], []), ([(5, 0, 0)], []), (4, [(-1, 4)]))
theorem ks67 : aseg kS krf kB [kE66, kE61] (ksp []) kE67 [kC67_0] 30000 (none) = true := by decide +kernel
theorem ks67_0 : aseg kS krf kB [kE66, kE61] (ksp []) kE67 [kC67_0] 30000 (some kC67_0) = true := by decide +kernel
theorem kok67 : aOK kS krf kB kE67 := aOK_of (kal1 kok66 (kal1 kok61 kal0)) (kcl1 ks67_0 kcl0) ks67
/-- ColdShodModel.product()I -/
def kE68 : aE := (173, 26, ([(.ofNat 2, .ofNat 120), (.ofNat 2, .ofNat 6)], [(102, 16, .inl (0, .ofNat 0)), (102, 19, .inl (1, .ofNat 0))], 0, [some (.inr [102]), none, none, none], []), ([], none), ([(.negSucc 2147483647, .ofNat 2147483647), (.ofNat 2, .ofNat 120), (.ofNat 2, .ofNat 6)], [(102, 16, .inl (3, .ofNat 0)), (102, 19, .inl (4, .ofNat 0))], some (.inl (.inl (.inl (2, .ofNat 0)))), ([(3, 0, 0)], [])), ([(102, 16), (102, 18), (102, 19)], []))
def kC68_0 : aC := (([(.ofNat 2, .ofNat 120), (.ofNat 2, .ofNat 6), (.negSucc 2147483647, .ofNat 2147483647), (.ofNat 0, .ofNat 255), (.ofNat 2, .ofNat 119), (.ofNat 2, .ofNat 6), (.ofNat 3, .ofNat 120)], [(102, 16, .inl (4, .ofNat 0)), (102, 19, .inl (5, .ofNat 0)), (102, 17, .inl (6, .ofNat 0))], 10, [some (.inr [102]), some (.inl (.inl (.inl (2, .ofNat 0)))), some (.inl (.inl (.inl (3, .ofNat 0)))), none], []), ([(4, 0, 0)], []), (240, [(-1, 4)]))
def kC68_1 : aC := (([(.ofNat 2, .ofNat 120), (.ofNat 2, .ofNat 6), (.negSucc 2147483647, .ofNat 2147483647), (.ofNat 2, .ofNat 120), (.ofNat 2, .ofNat 6)], [(102, 16, .inl (3, .ofNat 0)), (102, 19, .inl (4, .ofNat 0))], 10, [some (.inr [102]), some (.inl (.inl (.inl (2, .ofNat 0)))), some (.inl (.inl (.inr (.ofNat 0)))), none], []), ([(3, 0, 0)], []), (0, []))
theorem ks68 : aseg kS krf kB [kE67] (ksp [(173, 62, 3, 0, 0, 0)]) kE68 [kC68_0, kC68_1] 30000 (none) = true := by decide +kernel
theorem ks68_0 : aseg kS krf kB [kE67] (ksp [(173, 62, 3, 0, 0, 0)]) kE68 [kC68_0, kC68_1] 30000 (some kC68_0) = true := by decide +kernel
theorem ks68_1 : aseg kS krf kB [kE67] (ksp [(173, 62, 3, 0, 0, 0)]) kE68 [kC68_0, kC68_1] 30000 (some kC68_1) = true := by decide +kernel
theorem kok68 : aOK kS krf kB kE68 := aOK_of (kal1 kok67 kal0) (kcl1 ks68_0 (kcl1 ks68_1 kcl0)) ks68
/-- ColdShodModel.sums()I -/
def kE69 : aE := (172, 27, ([(.ofNat 2, .ofNat 120), (.ofNat 2, .ofNat 6)], [(102, 16, .inl (0, .ofNat 0)), (102, 19, .inl (1, .ofNat 0))], 0, [some (.inr [102]), none, none, none], []), ([], none), ([(.negSucc 2147483647, .ofNat 2147483647), (.ofNat 2, .ofNat 120), (.ofNat 2, .ofNat 6)], [(102, 16, .inl (3, .ofNat 0)), (102, 19, .inl (4, .ofNat 0))], some (.inl (.inl (.inl (2, .ofNat 0)))), ([(3, 0, 0)], [])), ([(102, 16), (102, 18), (102, 19)], []))
def kC69_0 : aC := (([(.ofNat 2, .ofNat 120), (.ofNat 2, .ofNat 6), (.negSucc 2147483647, .ofNat 2147483647), (.ofNat 2, .ofNat 120), (.ofNat 2, .ofNat 6)], [(102, 16, .inl (3, .ofNat 0)), (102, 19, .inl (4, .ofNat 0))], 5, [some (.inr [102]), some (.inl (.inl (.inl (2, .ofNat 0)))), none, none], []), ([(3, 0, 0)], []), (120, [(-1, 3)]))
theorem ks69 : aseg kS krf kB [kE68] (ksp []) kE69 [kC69_0] 30000 (none) = true := by decide +kernel
theorem ks69_0 : aseg kS krf kB [kE68] (ksp []) kE69 [kC69_0] 30000 (some kC69_0) = true := by decide +kernel
theorem kok69 : aOK kS krf kB kE69 := aOK_of (kal1 kok68 kal0) (kcl1 ks69_0 kcl0) ks69
/-- ColdShodModel.compared()I -/
def kE70 : aE := (171, 28, ([(.ofNat 2, .ofNat 120), (.ofNat 2, .ofNat 6)], [(102, 16, .inl (0, .ofNat 0)), (102, 19, .inl (1, .ofNat 0))], 0, [some (.inr [102]), none, none, none], []), ([], none), ([(.negSucc 2147483647, .ofNat 2147483647), (.ofNat 2, .ofNat 120), (.ofNat 2, .ofNat 6)], [(102, 16, .inl (3, .ofNat 0)), (102, 19, .inl (4, .ofNat 0))], some (.inl (.inl (.inl (2, .ofNat 0)))), ([(3, 0, 0)], [])), ([(102, 16), (102, 18), (102, 19)], []))
theorem ks70 : aseg kS krf kB [kE69] (ksp []) kE70 [] 30000 (none) = true := by decide +kernel
theorem kok70 : aOK kS krf kB kE70 := aOK_of (kal1 kok69 kal0) kcl0 ks70
/-- ColdShodModel.both()I -/
def kE71 : aE := (170, 29, ([(.ofNat 2, .ofNat 120), (.ofNat 2, .ofNat 6)], [(102, 16, .inl (0, .ofNat 0)), (102, 19, .inl (1, .ofNat 0))], 0, [some (.inr [102]), none, none], []), ([], none), ([(.negSucc 2147483647, .ofNat 2147483647), (.ofNat 2, .ofNat 120), (.ofNat 2, .ofNat 6)], [(102, 16, .inl (3, .ofNat 0)), (102, 19, .inl (4, .ofNat 0))], some (.inl (.inl (.inl (2, .ofNat 0)))), ([(3, 0, 0)], [])), ([(102, 16), (102, 18), (102, 19)], []))
def kC71_0 : aC := (([(.ofNat 2, .ofNat 120), (.ofNat 2, .ofNat 6), (.negSucc 2147483647, .ofNat 2147483647), (.ofNat 2, .ofNat 120), (.ofNat 2, .ofNat 6)], [(102, 16, .inl (3, .ofNat 0)), (102, 19, .inl (4, .ofNat 0))], 5, [some (.inr [102]), some (.inl (.inl (.inl (2, .ofNat 0)))), none], []), ([(3, 0, 0)], []), (120, [(-1, 3)]))
theorem ks71 : aseg kS krf kB [kE70] (ksp []) kE71 [kC71_0] 30000 (none) = true := by decide +kernel
theorem ks71_0 : aseg kS krf kB [kE70] (ksp []) kE71 [kC71_0] 30000 (some kC71_0) = true := by decide +kernel
theorem kok71 : aOK kS krf kB kE71 := aOK_of (kal1 kok70 kal0) (kcl1 ks71_0 kcl0) ks71
/-- ColdShodModel.either()I -/
def kE72 : aE := (169, 30, ([(.ofNat 2, .ofNat 120), (.ofNat 2, .ofNat 6)], [(102, 16, .inl (0, .ofNat 0)), (102, 19, .inl (1, .ofNat 0))], 0, [some (.inr [102]), none, none], []), ([], none), ([(.negSucc 2147483647, .ofNat 2147483647), (.ofNat 2, .ofNat 120), (.ofNat 2, .ofNat 6)], [(102, 16, .inl (3, .ofNat 0)), (102, 19, .inl (4, .ofNat 0))], some (.inl (.inl (.inl (2, .ofNat 0)))), ([(3, 0, 0)], [])), ([(102, 16), (102, 18), (102, 19)], []))
def kC72_0 : aC := (([(.ofNat 2, .ofNat 120), (.ofNat 2, .ofNat 6), (.negSucc 2147483647, .ofNat 2147483647), (.ofNat 2, .ofNat 120), (.ofNat 2, .ofNat 6)], [(102, 16, .inl (3, .ofNat 0)), (102, 19, .inl (4, .ofNat 0))], 5, [some (.inr [102]), some (.inl (.inl (.inl (2, .ofNat 0)))), none], []), ([(3, 0, 0)], []), (120, [(-1, 3)]))
theorem ks72 : aseg kS krf kB [kE71] (ksp []) kE72 [kC72_0] 30000 (none) = true := by decide +kernel
theorem ks72_0 : aseg kS krf kB [kE71] (ksp []) kE72 [kC72_0] 30000 (some kC72_0) = true := by decide +kernel
theorem kok72 : aOK kS krf kB kE72 := aOK_of (kal1 kok71 kal0) (kcl1 ks72_0 kcl0) ks72
/-- ColdShodModel.one()I -/
def kE73 : aE := (175, 31, ([(.ofNat 1, .ofNat 120), (.ofNat 1, .ofNat 6)], [(102, 16, .inl (0, .ofNat 0)), (102, 19, .inl (1, .ofNat 0))], 0, [some (.inr [102]), none, none, none, none], []), ([], none), ([(.negSucc 2147483647, .ofNat 2147483647), (.ofNat 1, .ofNat 120), (.ofNat 1, .ofNat 6)], [(102, 16, .inl (3, .ofNat 0)), (102, 19, .inl (4, .ofNat 0))], some (.inl (.inl (.inl (2, .ofNat 0)))), ([(3, 0, 0)], [])), ([(102, 16), (102, 18), (102, 19)], []))
def kC73_0 : aC := (([(.ofNat 1, .ofNat 120), (.ofNat 1, .ofNat 6), (.ofNat 0, .ofNat 255), (.negSucc 2147483647, .ofNat 2147483647), (.ofNat 0, .ofNat 4), (.ofNat 1, .ofNat 120)], [(102, 16, .inl (5, .ofNat 0)), (102, 19, .inl (1, .ofNat 0)), (102, 18, .inr (.negSucc 0))], 176, [some (.inr [102]), some (.inl (.inl (.inl (2, .ofNat 0)))), some (.inl (.inl (.inr (.negSucc 0)))), some (.inl (.inl (.inl (3, .ofNat 0)))), some (.inl (.inl (.inl (4, .ofNat 0))))], []), ([(5, 0, 0)], []), (4, [(-1, 4)]))
theorem ks73 : aseg kS krf kB [kE72, kE67] (ksp []) kE73 [kC73_0] 30000 (none) = true := by decide +kernel
theorem ks73_0 : aseg kS krf kB [kE72, kE67] (ksp []) kE73 [kC73_0] 30000 (some kC73_0) = true := by decide +kernel
theorem kok73 : aOK kS krf kB kE73 := aOK_of (kal1 kok72 (kal1 kok67 kal0)) (kcl1 ks73_0 kcl0) ks73
/-- ColdShodModel.product()I -/
def kE74 : aE := (173, 32, ([(.ofNat 1, .ofNat 120), (.ofNat 1, .ofNat 6)], [(102, 16, .inl (0, .ofNat 0)), (102, 19, .inl (1, .ofNat 0))], 0, [some (.inr [102]), none, none, none], []), ([], none), ([(.negSucc 2147483647, .ofNat 2147483647), (.ofNat 1, .ofNat 120), (.ofNat 1, .ofNat 6)], [(102, 16, .inl (3, .ofNat 0)), (102, 19, .inl (4, .ofNat 0))], some (.inl (.inl (.inl (2, .ofNat 0)))), ([(3, 0, 0)], [])), ([(102, 16), (102, 18), (102, 19)], []))
def kC74_0 : aC := (([(.ofNat 1, .ofNat 120), (.ofNat 1, .ofNat 6), (.negSucc 2147483647, .ofNat 2147483647), (.ofNat 0, .ofNat 255), (.ofNat 1, .ofNat 119), (.ofNat 1, .ofNat 6), (.ofNat 2, .ofNat 120)], [(102, 16, .inl (4, .ofNat 0)), (102, 19, .inl (5, .ofNat 0)), (102, 17, .inl (6, .ofNat 0))], 10, [some (.inr [102]), some (.inl (.inl (.inl (2, .ofNat 0)))), some (.inl (.inl (.inl (3, .ofNat 0)))), none], []), ([(4, 0, 0)], []), (241, [(-1, 4)]))
def kC74_1 : aC := (([(.ofNat 1, .ofNat 120), (.ofNat 1, .ofNat 6), (.negSucc 2147483647, .ofNat 2147483647), (.ofNat 1, .ofNat 120), (.ofNat 1, .ofNat 6)], [(102, 16, .inl (3, .ofNat 0)), (102, 19, .inl (4, .ofNat 0))], 10, [some (.inr [102]), some (.inl (.inl (.inl (2, .ofNat 0)))), some (.inl (.inl (.inr (.ofNat 0)))), none], []), ([(3, 0, 0)], []), (0, []))
theorem ks74 : aseg kS krf kB [kE73] (ksp [(173, 62, 3, 0, 0, 0)]) kE74 [kC74_0, kC74_1] 30000 (none) = true := by decide +kernel
theorem ks74_0 : aseg kS krf kB [kE73] (ksp [(173, 62, 3, 0, 0, 0)]) kE74 [kC74_0, kC74_1] 30000 (some kC74_0) = true := by decide +kernel
theorem ks74_1 : aseg kS krf kB [kE73] (ksp [(173, 62, 3, 0, 0, 0)]) kE74 [kC74_0, kC74_1] 30000 (some kC74_1) = true := by decide +kernel
theorem kok74 : aOK kS krf kB kE74 := aOK_of (kal1 kok73 kal0) (kcl1 ks74_0 (kcl1 ks74_1 kcl0)) ks74
/-- ColdShodModel.sums()I -/
def kE75 : aE := (172, 33, ([(.ofNat 1, .ofNat 120), (.ofNat 1, .ofNat 6)], [(102, 16, .inl (0, .ofNat 0)), (102, 19, .inl (1, .ofNat 0))], 0, [some (.inr [102]), none, none, none], []), ([], none), ([(.negSucc 2147483647, .ofNat 2147483647), (.ofNat 1, .ofNat 120), (.ofNat 1, .ofNat 6)], [(102, 16, .inl (3, .ofNat 0)), (102, 19, .inl (4, .ofNat 0))], some (.inl (.inl (.inl (2, .ofNat 0)))), ([(3, 0, 0)], [])), ([(102, 16), (102, 18), (102, 19)], []))
def kC75_0 : aC := (([(.ofNat 1, .ofNat 120), (.ofNat 1, .ofNat 6), (.negSucc 2147483647, .ofNat 2147483647), (.ofNat 1, .ofNat 120), (.ofNat 1, .ofNat 6)], [(102, 16, .inl (3, .ofNat 0)), (102, 19, .inl (4, .ofNat 0))], 5, [some (.inr [102]), some (.inl (.inl (.inl (2, .ofNat 0)))), none, none], []), ([(3, 0, 0)], []), (120, [(-1, 3)]))
theorem ks75 : aseg kS krf kB [kE74] (ksp []) kE75 [kC75_0] 30000 (none) = true := by decide +kernel
theorem ks75_0 : aseg kS krf kB [kE74] (ksp []) kE75 [kC75_0] 30000 (some kC75_0) = true := by decide +kernel
theorem kok75 : aOK kS krf kB kE75 := aOK_of (kal1 kok74 kal0) (kcl1 ks75_0 kcl0) ks75
/-- ColdShodModel.compared()I -/
def kE76 : aE := (171, 34, ([(.ofNat 1, .ofNat 120), (.ofNat 1, .ofNat 6)], [(102, 16, .inl (0, .ofNat 0)), (102, 19, .inl (1, .ofNat 0))], 0, [some (.inr [102]), none, none, none], []), ([], none), ([(.negSucc 2147483647, .ofNat 2147483647), (.ofNat 1, .ofNat 120), (.ofNat 1, .ofNat 6)], [(102, 16, .inl (3, .ofNat 0)), (102, 19, .inl (4, .ofNat 0))], some (.inl (.inl (.inl (2, .ofNat 0)))), ([(3, 0, 0)], [])), ([(102, 16), (102, 18), (102, 19)], []))
theorem ks76 : aseg kS krf kB [kE75] (ksp []) kE76 [] 30000 (none) = true := by decide +kernel
theorem kok76 : aOK kS krf kB kE76 := aOK_of (kal1 kok75 kal0) kcl0 ks76
/-- ColdShodModel.both()I -/
def kE77 : aE := (170, 35, ([(.ofNat 1, .ofNat 120), (.ofNat 1, .ofNat 6)], [(102, 16, .inl (0, .ofNat 0)), (102, 19, .inl (1, .ofNat 0))], 0, [some (.inr [102]), none, none], []), ([], none), ([(.negSucc 2147483647, .ofNat 2147483647), (.ofNat 1, .ofNat 120), (.ofNat 1, .ofNat 6)], [(102, 16, .inl (3, .ofNat 0)), (102, 19, .inl (4, .ofNat 0))], some (.inl (.inl (.inl (2, .ofNat 0)))), ([(3, 0, 0)], [])), ([(102, 16), (102, 18), (102, 19)], []))
def kC77_0 : aC := (([(.ofNat 1, .ofNat 120), (.ofNat 1, .ofNat 6), (.negSucc 2147483647, .ofNat 2147483647), (.ofNat 1, .ofNat 120), (.ofNat 1, .ofNat 6)], [(102, 16, .inl (3, .ofNat 0)), (102, 19, .inl (4, .ofNat 0))], 5, [some (.inr [102]), some (.inl (.inl (.inl (2, .ofNat 0)))), none], []), ([(3, 0, 0)], []), (120, [(-1, 3)]))
theorem ks77 : aseg kS krf kB [kE76] (ksp []) kE77 [kC77_0] 30000 (none) = true := by decide +kernel
theorem ks77_0 : aseg kS krf kB [kE76] (ksp []) kE77 [kC77_0] 30000 (some kC77_0) = true := by decide +kernel
theorem kok77 : aOK kS krf kB kE77 := aOK_of (kal1 kok76 kal0) (kcl1 ks77_0 kcl0) ks77
/-- ColdShodModel.either()I -/
def kE78 : aE := (169, 36, ([(.ofNat 1, .ofNat 120), (.ofNat 1, .ofNat 6)], [(102, 16, .inl (0, .ofNat 0)), (102, 19, .inl (1, .ofNat 0))], 0, [some (.inr [102]), none, none], []), ([], none), ([(.negSucc 2147483647, .ofNat 2147483647), (.ofNat 1, .ofNat 120), (.ofNat 1, .ofNat 6)], [(102, 16, .inl (3, .ofNat 0)), (102, 19, .inl (4, .ofNat 0))], some (.inl (.inl (.inl (2, .ofNat 0)))), ([(3, 0, 0)], [])), ([(102, 16), (102, 18), (102, 19)], []))
def kC78_0 : aC := (([(.ofNat 1, .ofNat 120), (.ofNat 1, .ofNat 6), (.negSucc 2147483647, .ofNat 2147483647), (.ofNat 1, .ofNat 120), (.ofNat 1, .ofNat 6)], [(102, 16, .inl (3, .ofNat 0)), (102, 19, .inl (4, .ofNat 0))], 5, [some (.inr [102]), some (.inl (.inl (.inl (2, .ofNat 0)))), none], []), ([(3, 0, 0)], []), (120, [(-1, 3)]))
theorem ks78 : aseg kS krf kB [kE77] (ksp []) kE78 [kC78_0] 30000 (none) = true := by decide +kernel
theorem ks78_0 : aseg kS krf kB [kE77] (ksp []) kE78 [kC78_0] 30000 (some kC78_0) = true := by decide +kernel
theorem kok78 : aOK kS krf kB kE78 := aOK_of (kal1 kok77 kal0) (kcl1 ks78_0 kcl0) ks78
/-- ColdShodModel.one()I -/
def kE79 : aE := (175, 37, ([(.ofNat 0, .ofNat 120), (.ofNat 0, .ofNat 6)], [(102, 16, .inl (0, .ofNat 0)), (102, 19, .inl (1, .ofNat 0))], 0, [some (.inr [102]), none, none, none, none], []), ([], none), ([(.negSucc 2147483647, .ofNat 2147483647), (.ofNat 0, .ofNat 120), (.ofNat 0, .ofNat 6)], [(102, 16, .inl (3, .ofNat 0)), (102, 19, .inl (4, .ofNat 0))], some (.inl (.inl (.inl (2, .ofNat 0)))), ([(3, 0, 0)], [])), ([(102, 16), (102, 18), (102, 19)], []))
def kC79_0 : aC := (([(.ofNat 0, .ofNat 120), (.ofNat 0, .ofNat 6), (.ofNat 0, .ofNat 255), (.negSucc 2147483647, .ofNat 2147483647), (.ofNat 0, .ofNat 4), (.ofNat 0, .ofNat 120)], [(102, 16, .inl (5, .ofNat 0)), (102, 19, .inl (1, .ofNat 0)), (102, 18, .inr (.negSucc 0))], 176, [some (.inr [102]), some (.inl (.inl (.inl (2, .ofNat 0)))), some (.inl (.inl (.inr (.negSucc 0)))), some (.inl (.inl (.inl (3, .ofNat 0)))), some (.inl (.inl (.inl (4, .ofNat 0))))], []), ([(5, 0, 0)], []), (4, [(-1, 4)]))
theorem ks79 : aseg kS krf kB [kE78, kE73] (ksp []) kE79 [kC79_0] 30000 (none) = true := by decide +kernel
theorem ks79_0 : aseg kS krf kB [kE78, kE73] (ksp []) kE79 [kC79_0] 30000 (some kC79_0) = true := by decide +kernel
theorem kok79 : aOK kS krf kB kE79 := aOK_of (kal1 kok78 (kal1 kok73 kal0)) (kcl1 ks79_0 kcl0) ks79
/-- ColdShodModel.product()I -/
def kE80 : aE := (173, 38, ([(.ofNat 0, .ofNat 120), (.ofNat 0, .ofNat 6)], [(102, 16, .inl (0, .ofNat 0)), (102, 19, .inl (1, .ofNat 0))], 0, [some (.inr [102]), none, none, none], []), ([], none), ([(.negSucc 2147483647, .ofNat 2147483647), (.ofNat 0, .ofNat 120), (.ofNat 0, .ofNat 6)], [(102, 16, .inl (3, .ofNat 0)), (102, 19, .inl (4, .ofNat 0))], some (.inl (.inl (.inl (2, .ofNat 0)))), ([(3, 0, 0)], [])), ([(102, 16), (102, 18), (102, 19)], []))
def kC80_0 : aC := (([(.ofNat 0, .ofNat 120), (.ofNat 0, .ofNat 6), (.negSucc 2147483647, .ofNat 2147483647), (.ofNat 0, .ofNat 255), (.ofNat 0, .ofNat 119), (.ofNat 0, .ofNat 6), (.ofNat 1, .ofNat 120)], [(102, 16, .inl (4, .ofNat 0)), (102, 19, .inl (5, .ofNat 0)), (102, 17, .inl (6, .ofNat 0))], 10, [some (.inr [102]), some (.inl (.inl (.inl (2, .ofNat 0)))), some (.inl (.inl (.inl (3, .ofNat 0)))), none], []), ([(4, 0, 0)], []), (242, [(-1, 4)]))
def kC80_1 : aC := (([(.ofNat 0, .ofNat 120), (.ofNat 0, .ofNat 6), (.negSucc 2147483647, .ofNat 2147483647), (.ofNat 0, .ofNat 120), (.ofNat 0, .ofNat 6)], [(102, 16, .inl (3, .ofNat 0)), (102, 19, .inl (4, .ofNat 0))], 10, [some (.inr [102]), some (.inl (.inl (.inl (2, .ofNat 0)))), some (.inl (.inl (.inr (.ofNat 0)))), none], []), ([(3, 0, 0)], []), (0, []))
theorem ks80 : aseg kS krf kB [kE79] (ksp [(173, 62, 3, 0, 0, 0)]) kE80 [kC80_0, kC80_1] 30000 (none) = true := by decide +kernel
theorem ks80_0 : aseg kS krf kB [kE79] (ksp [(173, 62, 3, 0, 0, 0)]) kE80 [kC80_0, kC80_1] 30000 (some kC80_0) = true := by decide +kernel
theorem ks80_1 : aseg kS krf kB [kE79] (ksp [(173, 62, 3, 0, 0, 0)]) kE80 [kC80_0, kC80_1] 30000 (some kC80_1) = true := by decide +kernel
theorem kok80 : aOK kS krf kB kE80 := aOK_of (kal1 kok79 kal0) (kcl1 ks80_0 (kcl1 ks80_1 kcl0)) ks80
/-- ColdShodModel.sums()I -/
def kE81 : aE := (172, 39, ([(.ofNat 0, .ofNat 120), (.ofNat 0, .ofNat 6)], [(102, 16, .inl (0, .ofNat 0)), (102, 19, .inl (1, .ofNat 0))], 0, [some (.inr [102]), none, none, none], []), ([], none), ([(.negSucc 2147483647, .ofNat 2147483647), (.ofNat 0, .ofNat 120), (.ofNat 0, .ofNat 6)], [(102, 16, .inl (3, .ofNat 0)), (102, 19, .inl (4, .ofNat 0))], some (.inl (.inl (.inl (2, .ofNat 0)))), ([(3, 0, 0)], [])), ([(102, 16), (102, 18), (102, 19)], []))
def kC81_0 : aC := (([(.ofNat 0, .ofNat 120), (.ofNat 0, .ofNat 6), (.negSucc 2147483647, .ofNat 2147483647), (.ofNat 0, .ofNat 120), (.ofNat 0, .ofNat 6)], [(102, 16, .inl (3, .ofNat 0)), (102, 19, .inl (4, .ofNat 0))], 5, [some (.inr [102]), some (.inl (.inl (.inl (2, .ofNat 0)))), none, none], []), ([(3, 0, 0)], []), (120, [(-1, 3)]))
theorem ks81 : aseg kS krf kB [kE80] (ksp []) kE81 [kC81_0] 30000 (none) = true := by decide +kernel
theorem ks81_0 : aseg kS krf kB [kE80] (ksp []) kE81 [kC81_0] 30000 (some kC81_0) = true := by decide +kernel
theorem kok81 : aOK kS krf kB kE81 := aOK_of (kal1 kok80 kal0) (kcl1 ks81_0 kcl0) ks81
/-- ColdShodModel.compared()I -/
def kE82 : aE := (171, 40, ([(.ofNat 0, .ofNat 120), (.ofNat 0, .ofNat 6)], [(102, 16, .inl (0, .ofNat 0)), (102, 19, .inl (1, .ofNat 0))], 0, [some (.inr [102]), none, none, none], []), ([], none), ([(.negSucc 2147483647, .ofNat 2147483647), (.ofNat 0, .ofNat 120), (.ofNat 0, .ofNat 6)], [(102, 16, .inl (3, .ofNat 0)), (102, 19, .inl (4, .ofNat 0))], some (.inl (.inl (.inl (2, .ofNat 0)))), ([(3, 0, 0)], [])), ([(102, 16), (102, 18), (102, 19)], []))
theorem ks82 : aseg kS krf kB [kE81] (ksp []) kE82 [] 30000 (none) = true := by decide +kernel
theorem kok82 : aOK kS krf kB kE82 := aOK_of (kal1 kok81 kal0) kcl0 ks82
/-- ColdShodModel.both()I -/
def kE83 : aE := (170, 41, ([(.ofNat 0, .ofNat 120), (.ofNat 0, .ofNat 6)], [(102, 16, .inl (0, .ofNat 0)), (102, 19, .inl (1, .ofNat 0))], 0, [some (.inr [102]), none, none], []), ([], none), ([(.negSucc 2147483647, .ofNat 2147483647), (.ofNat 0, .ofNat 120), (.ofNat 0, .ofNat 6)], [(102, 16, .inl (3, .ofNat 0)), (102, 19, .inl (4, .ofNat 0))], some (.inl (.inl (.inl (2, .ofNat 0)))), ([(3, 0, 0)], [])), ([(102, 16), (102, 18), (102, 19)], []))
def kC83_0 : aC := (([(.ofNat 0, .ofNat 120), (.ofNat 0, .ofNat 6), (.negSucc 2147483647, .ofNat 2147483647), (.ofNat 0, .ofNat 120), (.ofNat 0, .ofNat 6)], [(102, 16, .inl (3, .ofNat 0)), (102, 19, .inl (4, .ofNat 0))], 5, [some (.inr [102]), some (.inl (.inl (.inl (2, .ofNat 0)))), none], []), ([(3, 0, 0)], []), (120, [(-1, 3)]))
theorem ks83 : aseg kS krf kB [kE82] (ksp []) kE83 [kC83_0] 30000 (none) = true := by decide +kernel
theorem ks83_0 : aseg kS krf kB [kE82] (ksp []) kE83 [kC83_0] 30000 (some kC83_0) = true := by decide +kernel
theorem kok83 : aOK kS krf kB kE83 := aOK_of (kal1 kok82 kal0) (kcl1 ks83_0 kcl0) ks83
/-- ColdShodModel.either()I -/
def kE84 : aE := (169, 42, ([(.ofNat 0, .ofNat 120), (.ofNat 0, .ofNat 6)], [(102, 16, .inl (0, .ofNat 0)), (102, 19, .inl (1, .ofNat 0))], 0, [some (.inr [102]), none, none], []), ([], none), ([(.negSucc 2147483647, .ofNat 2147483647), (.ofNat 0, .ofNat 120), (.ofNat 0, .ofNat 6)], [(102, 16, .inl (3, .ofNat 0)), (102, 19, .inl (4, .ofNat 0))], some (.inl (.inl (.inl (2, .ofNat 0)))), ([(3, 0, 0)], [])), ([(102, 16), (102, 18), (102, 19)], []))
def kC84_0 : aC := (([(.ofNat 0, .ofNat 120), (.ofNat 0, .ofNat 6), (.negSucc 2147483647, .ofNat 2147483647), (.ofNat 0, .ofNat 120), (.ofNat 0, .ofNat 6)], [(102, 16, .inl (3, .ofNat 0)), (102, 19, .inl (4, .ofNat 0))], 5, [some (.inr [102]), some (.inl (.inl (.inl (2, .ofNat 0)))), none], []), ([(3, 0, 0)], []), (120, [(-1, 3)]))
theorem ks84 : aseg kS krf kB [kE83] (ksp []) kE84 [kC84_0] 30000 (none) = true := by decide +kernel
theorem ks84_0 : aseg kS krf kB [kE83] (ksp []) kE84 [kC84_0] 30000 (some kC84_0) = true := by decide +kernel
theorem kok84 : aOK kS krf kB kE84 := aOK_of (kal1 kok83 kal0) (kcl1 ks84_0 kcl0) ks84
/-- ColdShodModel.workOut(II)I -/
def kE85 : aE := (176, 43, ([(.negSucc 0, .ofNat 0), (.ofNat 0, .ofNat 120)], [], 0, [some (.inr [102]), some (.inl (.inl (.inl (0, .ofNat 0)))), some (.inl (.inl (.inl (1, .ofNat 0)))), none, none, none, none, none], []), ([], none), ([(.negSucc 2147483647, .ofNat 2147483647)], [], some (.inl (.inl (.inl (2, .ofNat 0)))), ([], [])), ([(102, 15), (102, 16), (102, 17), (102, 18), (102, 19)], []))
def kC85_0 : aC := (([(.negSucc 0, .ofNat 0), (.ofNat 0, .ofNat 120), (.ofNat 0, .ofNat 1), (.negSucc 2147483647, .ofNat 2147483647), (.ofNat 0, .ofNat 1), (.ofNat 0, .ofNat 120), (.ofNat 0, .ofNat 6)], [(102, 16, .inl (5, .ofNat 0)), (102, 19, .inl (6, .ofNat 0))], 33, [some (.inr [102]), some (.inl (.inl (.inl (0, .ofNat 0)))), some (.inl (.inl (.inl (1, .ofNat 0)))), some (.inl (.inl (.inl (2, .ofNat 0)))), some (.inl (.inl (.inl (3, .ofNat 0)))), some (.inl (.inl (.inl (4, .ofNat 0)))), none, none], []), ([], []), (120, [(123, 4), (-1, 5)]))
theorem ks85 : aseg kS krf kB [kE84] (ksp []) kE85 [kC85_0] 30000 (none) = true := by decide +kernel
theorem ks85_0 : aseg kS krf kB [kE84] (ksp []) kE85 [kC85_0] 30000 (some kC85_0) = true := by decide +kernel
theorem kok85 : aOK kS krf kB kE85 := aOK_of (kal1 kok84 kal0) (kcl1 ks85_0 kcl0) ks85
