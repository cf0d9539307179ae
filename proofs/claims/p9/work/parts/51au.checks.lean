/-! ENTRIES and their checks: printed by a program (wip/ai). -/
/-- ColdShod$Journey.read(LColdShod$Shelf;I)V -/
def kE538 : aE := (48, 0, ([(.ofNat 0, .ofNat 12)], [], 0, [some (.inr [50]), some (.inr [76, 78, 80, 82, 84, 86]), some (.inl (.inl (.inl (0, .ofNat 0)))), none, none, none], []), ([], none), ([], [], none, ([], [])), ([(50, 1)], [51]))
def kC538_0 : aC := (([(.ofNat 0, .ofNat 12), (.ofNat 0, .ofNat 20)], [], 7, [some (.inr [50]), some (.inr [76, 78, 80, 82, 84, 86]), some (.inl (.inl (.inl (0, .ofNat 0)))), some (.inl (.inl (.inl (1, .ofNat 0)))), none, none], []), ([], []), (20, [(-1, 1)]))
theorem ks538 : aseg kS krf kB [] (ksp []) kE538 [kC538_0] 30000 (none) = true := by decide +kernel
theorem ks538_0 : aseg kS krf kB [] (ksp []) kE538 [kC538_0] 30000 (some kC538_0) = true := by decide +kernel
theorem kok538 : aOK kS krf kB kE538 := aOK_of kal0 (kcl1 ks538_0 kcl0) ks538
/-- ColdShod$Country.travel(LColdShod$Idea;LColdShod$Road;)I -/
def kE539 : aE := (24, 3, ([], [], 0, [some (.inr [7]), some (.inr [58]), some (.inr [28, 29, 30, 31, 32, 33, 34, 35, 36, 37, 38, 39]), none, none], []), ([], none), ([(.negSucc 1999999999, .ofNat 100000000)], [], some (.inl (.inl (.inl (0, .ofNat 0)))), ([], [])), ([(13, 0), (13, 1), (13, 2), (13, 3), (13, 4), (13, 5), (58, 2), (58, 3)], [16, 19]))
def kC539_0 : aC := (([(.ofNat 0, .ofNat 9), (.ofNat 1, .ofNat 100000001), (.negSucc 1999999999, .ofNat 99), (.negSucc 1999999999, .ofNat 100000000), (.negSucc 1999999999, .ofNat 99), (.negSucc 1999999999, .ofNat 100000000), (.ofNat 0, .ofNat 2100000000), (.negSucc 1999999999, .ofNat 100000000), (.negSucc 1999999999, .ofNat 100000000)], [(58, 2, .inl (2, .ofNat 0)), (13, 0, .inl (3, .ofNat 0)), (13, 1, .inl (4, .ofNat 0)), (13, 2, .inl (5, .ofNat 0)), (13, 3, .inl (6, .ofNat 0)), (13, 4, .inl (7, .ofNat 0)), (13, 5, .inl (8, .ofNat 0))], 20, [some (.inr [7]), some (.inr [58]), some (.inr [28, 29, 30, 31, 32, 33, 34, 35, 36, 37, 38, 39]), some (.inl (.inl (.inl (0, .ofNat 0)))), some (.inl (.inl (.inl (1, .ofNat 0))))], []), ([], []), (100000001, [(-1, 1)]))
theorem ks539 : aseg kS krf kB [kE39] (ksp [(23, 0, 1, -1000, 1000, 0)]) kE539 [kC539_0] 30000 (none) = true := by decide +kernel
theorem ks539_0 : aseg kS krf kB [kE39] (ksp [(23, 0, 1, -1000, 1000, 0)]) kE539 [kC539_0] 30000 (some kC539_0) = true := by decide +kernel
theorem kok539 : aOK kS krf kB kE539 := aOK_of (kal1 kok39 kal0) (kcl1 ks539_0 kcl0) ks539
/-- ColdShod$Journey.allGone(LColdShod$Idea;LColdShod$Country;)Z -/
def kE540 : aE := (49, 5, ([], [], 0, [some (.inr [50]), some (.inr [58]), some (.inr [7]), none], []), ([], none), ([(.ofNat 0, .ofNat 1)], [], some (.inl (.inl (.inl (0, .ofNat 0)))), ([], [])), ([(13, 0), (13, 1), (13, 2), (13, 3), (13, 4), (13, 5), (50, 2), (50, 3), (58, 2), (58, 3)], [16, 19]))
def kC540_0 : aC := (([(.ofNat 0, .ofNat 20)], [], 12, [some (.inr [50]), some (.inr [58]), some (.inr [7]), some (.inl (.inl (.inl (0, .ofNat 0))))], []), ([], []), (20, [(-1, 0)]))
theorem ks540 : aseg kS krf kB [kE539] (ksp []) kE540 [kC540_0] 30000 (none) = true := by decide +kernel
theorem ks540_0 : aseg kS krf kB [kE539] (ksp []) kE540 [kC540_0] 30000 (some kC540_0) = true := by decide +kernel
theorem kok540 : aOK kS krf kB kE540 := aOK_of (kal1 kok539 kal0) (kcl1 ks540_0 kcl0) ks540
/-- ColdShod$StrokePlan.tellPlan(I)I -/
def kE541 : aE := (85, 0, ([(.ofNat 0, .ofNat 340)], [], 0, [some (.inr [52]), some (.inl (.inl (.inl (0, .ofNat 0)))), none, none, none], []), ([], none), ([(.ofNat 0, .ofNat 4)], [], some (.inl (.inl (.inl (1, .ofNat 0)))), ([], [])), ([], [53]))
def kC541_0 : aC := (([(.ofNat 0, .ofNat 340), (.ofNat 0, .ofNat 4), (.ofNat 0, .ofNat 340), (.negSucc 0, .ofNat 3)], [], 14, [some (.inr [52]), some (.inl (.inl (.inl (0, .ofNat 0)))), some (.inl (.inl (.inl (1, .ofNat 0)))), some (.inl (.inl (.inl (2, .ofNat 0)))), some (.inl (.inl (.inl (3, .ofNat 0))))], []), ([], []), (1, [(1, 3)]))
theorem ks541 : aseg kS krf kB [] (ksp []) kE541 [kC541_0] 30000 (none) = true := by decide +kernel
theorem ks541_0 : aseg kS krf kB [] (ksp []) kE541 [kC541_0] 30000 (some kC541_0) = true := by decide +kernel
theorem kok541 : aOK kS krf kB kE541 := aOK_of kal0 (kcl1 ks541_0 kcl0) ks541
/-- ColdShod$Idea.strike(I)Z -/
def kE542 : aE := (43, 2, ([(.ofNat 0, .ofNat 3)], [], 0, [some (.inr [58]), some (.inl (.inl (.inl (0, .ofNat 0))))], []), ([], none), ([(.ofNat 0, .ofNat 1)], [], some (.inl (.inl (.inl (1, .ofNat 0)))), ([], [])), ([(58, 1), (58, 2), (58, 3), (58, 5)], []))
theorem ks542 : aseg kS krf kB [] (ksp []) kE542 [] 30000 (none) = true := by decide +kernel
theorem kok542 : aOK kS krf kB kE542 := aOK_of kal0 kcl0 ks542
/-- ColdShod$StrokePlan.isFound(I)Z -/
def kE543 : aE := (84, 0, ([(.negSucc 2147483647, .ofNat 2147483647)], [], 0, [some (.inr [52]), some (.inl (.inl (.inl (0, .ofNat 0)))), none], []), ([], none), ([(.ofNat 0, .ofNat 1)], [], some (.inl (.inl (.inl (1, .ofNat 0)))), ([], [])), ([], []))
def kC543_0 : aC := (([(.negSucc 2147483647, .ofNat 2147483647), (.ofNat 0, .ofNat 341)], [], 2, [some (.inr [52]), some (.inl (.inl (.inl (0, .ofNat 0)))), some (.inl (.inl (.inl (1, .ofNat 0))))], []), ([], []), (341, [(-1, 1)]))
theorem ks543 : aseg kS krf kB [] (ksp []) kE543 [kC543_0] 30000 (none) = true := by decide +kernel
theorem ks543_0 : aseg kS krf kB [] (ksp []) kE543 [kC543_0] 30000 (some kC543_0) = true := by decide +kernel
theorem kok543 : aOK kS krf kB kE543 := aOK_of kal0 (kcl1 ks543_0 kcl0) ks543
/-- ColdShod$StrokePlan.addNext(LColdShod$Idea;I)V -/
def kE544 : aE := (83, 3, ([(.ofNat 0, .ofNat 3), (.ofNat 20, .ofNat 341)], [(57, 19, .inl (0, .ofNat 0)), (52, 6, .inl (1, .ofNat 0))], 0, [some (.inr [52]), some (.inr [20, 21, 22, 23, 24, 25, 26, 27]), some (.inl (.inl (.inr (.ofNat 19)))), none, none], []), ([], none), ([], [], none, ([], [])), ([(52, 6), (58, 0), (58, 1), (58, 2), (58, 3), (58, 4), (58, 5), (58, 6)], [54, 55, 56, 57]))
def kC544_0 : aC := (([(.ofNat 0, .ofNat 3), (.ofNat 20, .ofNat 341), (.ofNat 0, .ofNat 4), (.ofNat 20, .ofNat 341)], [(57, 19, .inl (0, .ofNat 0)), (52, 6, .inl (3, .ofNat 0))], 2, [some (.inr [52]), some (.inr [20, 21, 22, 23, 24, 25, 26, 27]), some (.inl (.inl (.inr (.ofNat 19)))), some (.inl (.inl (.inl (2, .ofNat 0)))), none], []), ([], []), (4, [(-1, 2)]))
theorem ks544 : aseg kS krf kB [kE542, kE543] (ksp []) kE544 [kC544_0] 30000 (none) = true := by decide +kernel
theorem ks544_0 : aseg kS krf kB [kE542, kE543] (ksp []) kE544 [kC544_0] 30000 (some kC544_0) = true := by decide +kernel
theorem kok544 : aOK kS krf kB kE544 := aOK_of (kal1 kok542 (kal1 kok543 kal0)) (kcl1 ks544_0 kcl0) ks544
/-- ColdShod$StrokePlan.addNext(LColdShod$Idea;I)V -/
def kE545 : aE := (83, 3, ([(.ofNat 0, .ofNat 3), (.ofNat 19, .ofNat 341)], [(57, 18, .inl (0, .ofNat 0)), (52, 6, .inl (1, .ofNat 0))], 0, [some (.inr [52]), some (.inr [20, 21, 22, 23, 24, 25, 26, 27]), some (.inl (.inl (.inr (.ofNat 18)))), none, none], []), ([], none), ([], [], none, ([], [])), ([(52, 6), (58, 0), (58, 1), (58, 2), (58, 3), (58, 4), (58, 5), (58, 6)], [54, 55, 56, 57]))
def kC545_0 : aC := (([(.ofNat 0, .ofNat 3), (.ofNat 19, .ofNat 341), (.ofNat 0, .ofNat 4), (.ofNat 19, .ofNat 341)], [(57, 18, .inl (0, .ofNat 0)), (52, 6, .inl (3, .ofNat 0))], 2, [some (.inr [52]), some (.inr [20, 21, 22, 23, 24, 25, 26, 27]), some (.inl (.inl (.inr (.ofNat 18)))), some (.inl (.inl (.inl (2, .ofNat 0)))), none], []), ([], []), (4, [(-1, 2)]))
theorem ks545 : aseg kS krf kB [kE542, kE543] (ksp []) kE545 [kC545_0] 30000 (none) = true := by decide +kernel
theorem ks545_0 : aseg kS krf kB [kE542, kE543] (ksp []) kE545 [kC545_0] 30000 (some kC545_0) = true := by decide +kernel
theorem kok545 : aOK kS krf kB kE545 := aOK_of (kal1 kok542 (kal1 kok543 kal0)) (kcl1 ks545_0 kcl0) ks545
/-- ColdShod$StrokePlan.addNext(LColdShod$Idea;I)V -/
def kE546 : aE := (83, 3, ([(.ofNat 0, .ofNat 3), (.ofNat 18, .ofNat 341)], [(57, 17, .inl (0, .ofNat 0)), (52, 6, .inl (1, .ofNat 0))], 0, [some (.inr [52]), some (.inr [20, 21, 22, 23, 24, 25, 26, 27]), some (.inl (.inl (.inr (.ofNat 17)))), none, none], []), ([], none), ([], [], none, ([], [])), ([(52, 6), (58, 0), (58, 1), (58, 2), (58, 3), (58, 4), (58, 5), (58, 6)], [54, 55, 56, 57]))
def kC546_0 : aC := (([(.ofNat 0, .ofNat 3), (.ofNat 18, .ofNat 341), (.ofNat 0, .ofNat 4), (.ofNat 18, .ofNat 341)], [(57, 17, .inl (0, .ofNat 0)), (52, 6, .inl (3, .ofNat 0))], 2, [some (.inr [52]), some (.inr [20, 21, 22, 23, 24, 25, 26, 27]), some (.inl (.inl (.inr (.ofNat 17)))), some (.inl (.inl (.inl (2, .ofNat 0)))), none], []), ([], []), (4, [(-1, 2)]))
theorem ks546 : aseg kS krf kB [kE542, kE543] (ksp []) kE546 [kC546_0] 30000 (none) = true := by decide +kernel
theorem ks546_0 : aseg kS krf kB [kE542, kE543] (ksp []) kE546 [kC546_0] 30000 (some kC546_0) = true := by decide +kernel
theorem kok546 : aOK kS krf kB kE546 := aOK_of (kal1 kok542 (kal1 kok543 kal0)) (kcl1 ks546_0 kcl0) ks546
/-- ColdShod$StrokePlan.addNext(LColdShod$Idea;I)V -/
def kE547 : aE := (83, 3, ([(.ofNat 0, .ofNat 3), (.ofNat 17, .ofNat 341)], [(57, 16, .inl (0, .ofNat 0)), (52, 6, .inl (1, .ofNat 0))], 0, [some (.inr [52]), some (.inr [20, 21, 22, 23, 24, 25, 26, 27]), some (.inl (.inl (.inr (.ofNat 16)))), none, none], []), ([], none), ([], [], none, ([], [])), ([(52, 6), (58, 0), (58, 1), (58, 2), (58, 3), (58, 4), (58, 5), (58, 6)], [54, 55, 56, 57]))
def kC547_0 : aC := (([(.ofNat 0, .ofNat 3), (.ofNat 17, .ofNat 341), (.ofNat 0, .ofNat 4), (.ofNat 17, .ofNat 341)], [(57, 16, .inl (0, .ofNat 0)), (52, 6, .inl (3, .ofNat 0))], 2, [some (.inr [52]), some (.inr [20, 21, 22, 23, 24, 25, 26, 27]), some (.inl (.inl (.inr (.ofNat 16)))), some (.inl (.inl (.inl (2, .ofNat 0)))), none], []), ([], []), (4, [(-1, 2)]))
theorem ks547 : aseg kS krf kB [kE542, kE543] (ksp []) kE547 [kC547_0] 30000 (none) = true := by decide +kernel
theorem ks547_0 : aseg kS krf kB [kE542, kE543] (ksp []) kE547 [kC547_0] 30000 (some kC547_0) = true := by decide +kernel
theorem kok547 : aOK kS krf kB kE547 := aOK_of (kal1 kok542 (kal1 kok543 kal0)) (kcl1 ks547_0 kcl0) ks547
/-- ColdShod$StrokePlan.addNext(LColdShod$Idea;I)V -/
def kE548 : aE := (83, 3, ([(.ofNat 0, .ofNat 3), (.ofNat 16, .ofNat 341)], [(57, 15, .inl (0, .ofNat 0)), (52, 6, .inl (1, .ofNat 0))], 0, [some (.inr [52]), some (.inr [20, 21, 22, 23, 24, 25, 26, 27]), some (.inl (.inl (.inr (.ofNat 15)))), none, none], []), ([], none), ([], [], none, ([], [])), ([(52, 6), (58, 0), (58, 1), (58, 2), (58, 3), (58, 4), (58, 5), (58, 6)], [54, 55, 56, 57]))
def kC548_0 : aC := (([(.ofNat 0, .ofNat 3), (.ofNat 16, .ofNat 341), (.ofNat 0, .ofNat 4), (.ofNat 16, .ofNat 341)], [(57, 15, .inl (0, .ofNat 0)), (52, 6, .inl (3, .ofNat 0))], 2, [some (.inr [52]), some (.inr [20, 21, 22, 23, 24, 25, 26, 27]), some (.inl (.inl (.inr (.ofNat 15)))), some (.inl (.inl (.inl (2, .ofNat 0)))), none], []), ([], []), (4, [(-1, 2)]))
theorem ks548 : aseg kS krf kB [kE542, kE543] (ksp []) kE548 [kC548_0] 30000 (none) = true := by decide +kernel
theorem ks548_0 : aseg kS krf kB [kE542, kE543] (ksp []) kE548 [kC548_0] 30000 (some kC548_0) = true := by decide +kernel
theorem kok548 : aOK kS krf kB kE548 := aOK_of (kal1 kok542 (kal1 kok543 kal0)) (kcl1 ks548_0 kcl0) ks548
/-- ColdShod$StrokePlan.addNext(LColdShod$Idea;I)V -/
def kE549 : aE := (83, 3, ([(.ofNat 0, .ofNat 3), (.ofNat 15, .ofNat 341)], [(57, 14, .inl (0, .ofNat 0)), (52, 6, .inl (1, .ofNat 0))], 0, [some (.inr [52]), some (.inr [20, 21, 22, 23, 24, 25, 26, 27]), some (.inl (.inl (.inr (.ofNat 14)))), none, none], []), ([], none), ([], [], none, ([], [])), ([(52, 6), (58, 0), (58, 1), (58, 2), (58, 3), (58, 4), (58, 5), (58, 6)], [54, 55, 56, 57]))
def kC549_0 : aC := (([(.ofNat 0, .ofNat 3), (.ofNat 15, .ofNat 341), (.ofNat 0, .ofNat 4), (.ofNat 15, .ofNat 341)], [(57, 14, .inl (0, .ofNat 0)), (52, 6, .inl (3, .ofNat 0))], 2, [some (.inr [52]), some (.inr [20, 21, 22, 23, 24, 25, 26, 27]), some (.inl (.inl (.inr (.ofNat 14)))), some (.inl (.inl (.inl (2, .ofNat 0)))), none], []), ([], []), (4, [(-1, 2)]))
theorem ks549 : aseg kS krf kB [kE542, kE543] (ksp []) kE549 [kC549_0] 30000 (none) = true := by decide +kernel
theorem ks549_0 : aseg kS krf kB [kE542, kE543] (ksp []) kE549 [kC549_0] 30000 (some kC549_0) = true := by decide +kernel
theorem kok549 : aOK kS krf kB kE549 := aOK_of (kal1 kok542 (kal1 kok543 kal0)) (kcl1 ks549_0 kcl0) ks549
/-- ColdShod$StrokePlan.addNext(LColdShod$Idea;I)V -/
def kE550 : aE := (83, 3, ([(.ofNat 0, .ofNat 3), (.ofNat 14, .ofNat 341)], [(57, 13, .inl (0, .ofNat 0)), (52, 6, .inl (1, .ofNat 0))], 0, [some (.inr [52]), some (.inr [20, 21, 22, 23, 24, 25, 26, 27]), some (.inl (.inl (.inr (.ofNat 13)))), none, none], []), ([], none), ([], [], none, ([], [])), ([(52, 6), (58, 0), (58, 1), (58, 2), (58, 3), (58, 4), (58, 5), (58, 6)], [54, 55, 56, 57]))
def kC550_0 : aC := (([(.ofNat 0, .ofNat 3), (.ofNat 14, .ofNat 341), (.ofNat 0, .ofNat 4), (.ofNat 14, .ofNat 341)], [(57, 13, .inl (0, .ofNat 0)), (52, 6, .inl (3, .ofNat 0))], 2, [some (.inr [52]), some (.inr [20, 21, 22, 23, 24, 25, 26, 27]), some (.inl (.inl (.inr (.ofNat 13)))), some (.inl (.inl (.inl (2, .ofNat 0)))), none], []), ([], []), (4, [(-1, 2)]))
theorem ks550 : aseg kS krf kB [kE542, kE543] (ksp []) kE550 [kC550_0] 30000 (none) = true := by decide +kernel
theorem ks550_0 : aseg kS krf kB [kE542, kE543] (ksp []) kE550 [kC550_0] 30000 (some kC550_0) = true := by decide +kernel
theorem kok550 : aOK kS krf kB kE550 := aOK_of (kal1 kok542 (kal1 kok543 kal0)) (kcl1 ks550_0 kcl0) ks550
/-- ColdShod$StrokePlan.addNext(LColdShod$Idea;I)V -/
def kE551 : aE := (83, 3, ([(.ofNat 0, .ofNat 3), (.ofNat 13, .ofNat 341)], [(57, 12, .inl (0, .ofNat 0)), (52, 6, .inl (1, .ofNat 0))], 0, [some (.inr [52]), some (.inr [20, 21, 22, 23, 24, 25, 26, 27]), some (.inl (.inl (.inr (.ofNat 12)))), none, none], []), ([], none), ([], [], none, ([], [])), ([(52, 6), (58, 0), (58, 1), (58, 2), (58, 3), (58, 4), (58, 5), (58, 6)], [54, 55, 56, 57]))
def kC551_0 : aC := (([(.ofNat 0, .ofNat 3), (.ofNat 13, .ofNat 341), (.ofNat 0, .ofNat 4), (.ofNat 13, .ofNat 341)], [(57, 12, .inl (0, .ofNat 0)), (52, 6, .inl (3, .ofNat 0))], 2, [some (.inr [52]), some (.inr [20, 21, 22, 23, 24, 25, 26, 27]), some (.inl (.inl (.inr (.ofNat 12)))), some (.inl (.inl (.inl (2, .ofNat 0)))), none], []), ([], []), (4, [(-1, 2)]))
theorem ks551 : aseg kS krf kB [kE542, kE543] (ksp []) kE551 [kC551_0] 30000 (none) = true := by decide +kernel
theorem ks551_0 : aseg kS krf kB [kE542, kE543] (ksp []) kE551 [kC551_0] 30000 (some kC551_0) = true := by decide +kernel
theorem kok551 : aOK kS krf kB kE551 := aOK_of (kal1 kok542 (kal1 kok543 kal0)) (kcl1 ks551_0 kcl0) ks551
/-- ColdShod$StrokePlan.addNext(LColdShod$Idea;I)V -/
def kE552 : aE := (83, 3, ([(.ofNat 0, .ofNat 3), (.ofNat 12, .ofNat 341)], [(57, 11, .inl (0, .ofNat 0)), (52, 6, .inl (1, .ofNat 0))], 0, [some (.inr [52]), some (.inr [20, 21, 22, 23, 24, 25, 26, 27]), some (.inl (.inl (.inr (.ofNat 11)))), none, none], []), ([], none), ([], [], none, ([], [])), ([(52, 6), (58, 0), (58, 1), (58, 2), (58, 3), (58, 4), (58, 5), (58, 6)], [54, 55, 56, 57]))
def kC552_0 : aC := (([(.ofNat 0, .ofNat 3), (.ofNat 12, .ofNat 341), (.ofNat 0, .ofNat 4), (.ofNat 12, .ofNat 341)], [(57, 11, .inl (0, .ofNat 0)), (52, 6, .inl (3, .ofNat 0))], 2, [some (.inr [52]), some (.inr [20, 21, 22, 23, 24, 25, 26, 27]), some (.inl (.inl (.inr (.ofNat 11)))), some (.inl (.inl (.inl (2, .ofNat 0)))), none], []), ([], []), (4, [(-1, 2)]))
theorem ks552 : aseg kS krf kB [kE542, kE543] (ksp []) kE552 [kC552_0] 30000 (none) = true := by decide +kernel
theorem ks552_0 : aseg kS krf kB [kE542, kE543] (ksp []) kE552 [kC552_0] 30000 (some kC552_0) = true := by decide +kernel
theorem kok552 : aOK kS krf kB kE552 := aOK_of (kal1 kok542 (kal1 kok543 kal0)) (kcl1 ks552_0 kcl0) ks552
/-- ColdShod$StrokePlan.addNext(LColdShod$Idea;I)V -/
def kE553 : aE := (83, 3, ([(.ofNat 0, .ofNat 3), (.ofNat 11, .ofNat 341)], [(57, 10, .inl (0, .ofNat 0)), (52, 6, .inl (1, .ofNat 0))], 0, [some (.inr [52]), some (.inr [20, 21, 22, 23, 24, 25, 26, 27]), some (.inl (.inl (.inr (.ofNat 10)))), none, none], []), ([], none), ([], [], none, ([], [])), ([(52, 6), (58, 0), (58, 1), (58, 2), (58, 3), (58, 4), (58, 5), (58, 6)], [54, 55, 56, 57]))
def kC553_0 : aC := (([(.ofNat 0, .ofNat 3), (.ofNat 11, .ofNat 341), (.ofNat 0, .ofNat 4), (.ofNat 11, .ofNat 341)], [(57, 10, .inl (0, .ofNat 0)), (52, 6, .inl (3, .ofNat 0))], 2, [some (.inr [52]), some (.inr [20, 21, 22, 23, 24, 25, 26, 27]), some (.inl (.inl (.inr (.ofNat 10)))), some (.inl (.inl (.inl (2, .ofNat 0)))), none], []), ([], []), (4, [(-1, 2)]))
theorem ks553 : aseg kS krf kB [kE542, kE543] (ksp []) kE553 [kC553_0] 30000 (none) = true := by decide +kernel
theorem ks553_0 : aseg kS krf kB [kE542, kE543] (ksp []) kE553 [kC553_0] 30000 (some kC553_0) = true := by decide +kernel
theorem kok553 : aOK kS krf kB kE553 := aOK_of (kal1 kok542 (kal1 kok543 kal0)) (kcl1 ks553_0 kcl0) ks553
/-- ColdShod$StrokePlan.addNext(LColdShod$Idea;I)V -/
def kE554 : aE := (83, 3, ([(.ofNat 0, .ofNat 3), (.ofNat 10, .ofNat 341)], [(57, 9, .inl (0, .ofNat 0)), (52, 6, .inl (1, .ofNat 0))], 0, [some (.inr [52]), some (.inr [20, 21, 22, 23, 24, 25, 26, 27]), some (.inl (.inl (.inr (.ofNat 9)))), none, none], []), ([], none), ([], [], none, ([], [])), ([(52, 6), (58, 0), (58, 1), (58, 2), (58, 3), (58, 4), (58, 5), (58, 6)], [54, 55, 56, 57]))
def kC554_0 : aC := (([(.ofNat 0, .ofNat 3), (.ofNat 10, .ofNat 341), (.ofNat 0, .ofNat 4), (.ofNat 10, .ofNat 341)], [(57, 9, .inl (0, .ofNat 0)), (52, 6, .inl (3, .ofNat 0))], 2, [some (.inr [52]), some (.inr [20, 21, 22, 23, 24, 25, 26, 27]), some (.inl (.inl (.inr (.ofNat 9)))), some (.inl (.inl (.inl (2, .ofNat 0)))), none], []), ([], []), (4, [(-1, 2)]))
theorem ks554 : aseg kS krf kB [kE542, kE543] (ksp []) kE554 [kC554_0] 30000 (none) = true := by decide +kernel
theorem ks554_0 : aseg kS krf kB [kE542, kE543] (ksp []) kE554 [kC554_0] 30000 (some kC554_0) = true := by decide +kernel
theorem kok554 : aOK kS krf kB kE554 := aOK_of (kal1 kok542 (kal1 kok543 kal0)) (kcl1 ks554_0 kcl0) ks554
/-- ColdShod$StrokePlan.addNext(LColdShod$Idea;I)V -/
def kE555 : aE := (83, 3, ([(.ofNat 0, .ofNat 3), (.ofNat 9, .ofNat 341)], [(57, 8, .inl (0, .ofNat 0)), (52, 6, .inl (1, .ofNat 0))], 0, [some (.inr [52]), some (.inr [20, 21, 22, 23, 24, 25, 26, 27]), some (.inl (.inl (.inr (.ofNat 8)))), none, none], []), ([], none), ([], [], none, ([], [])), ([(52, 6), (58, 0), (58, 1), (58, 2), (58, 3), (58, 4), (58, 5), (58, 6)], [54, 55, 56, 57]))
def kC555_0 : aC := (([(.ofNat 0, .ofNat 3), (.ofNat 9, .ofNat 341), (.ofNat 0, .ofNat 4), (.ofNat 9, .ofNat 341)], [(57, 8, .inl (0, .ofNat 0)), (52, 6, .inl (3, .ofNat 0))], 2, [some (.inr [52]), some (.inr [20, 21, 22, 23, 24, 25, 26, 27]), some (.inl (.inl (.inr (.ofNat 8)))), some (.inl (.inl (.inl (2, .ofNat 0)))), none], []), ([], []), (4, [(-1, 2)]))
theorem ks555 : aseg kS krf kB [kE542, kE543] (ksp []) kE555 [kC555_0] 30000 (none) = true := by decide +kernel
theorem ks555_0 : aseg kS krf kB [kE542, kE543] (ksp []) kE555 [kC555_0] 30000 (some kC555_0) = true := by decide +kernel
theorem kok555 : aOK kS krf kB kE555 := aOK_of (kal1 kok542 (kal1 kok543 kal0)) (kcl1 ks555_0 kcl0) ks555
/-- ColdShod$StrokePlan.addNext(LColdShod$Idea;I)V -/
def kE556 : aE := (83, 3, ([(.ofNat 0, .ofNat 3), (.ofNat 8, .ofNat 341)], [(57, 7, .inl (0, .ofNat 0)), (52, 6, .inl (1, .ofNat 0))], 0, [some (.inr [52]), some (.inr [20, 21, 22, 23, 24, 25, 26, 27]), some (.inl (.inl (.inr (.ofNat 7)))), none, none], []), ([], none), ([], [], none, ([], [])), ([(52, 6), (58, 0), (58, 1), (58, 2), (58, 3), (58, 4), (58, 5), (58, 6)], [54, 55, 56, 57]))
def kC556_0 : aC := (([(.ofNat 0, .ofNat 3), (.ofNat 8, .ofNat 341), (.ofNat 0, .ofNat 4), (.ofNat 8, .ofNat 341)], [(57, 7, .inl (0, .ofNat 0)), (52, 6, .inl (3, .ofNat 0))], 2, [some (.inr [52]), some (.inr [20, 21, 22, 23, 24, 25, 26, 27]), some (.inl (.inl (.inr (.ofNat 7)))), some (.inl (.inl (.inl (2, .ofNat 0)))), none], []), ([], []), (4, [(-1, 2)]))
theorem ks556 : aseg kS krf kB [kE542, kE543] (ksp []) kE556 [kC556_0] 30000 (none) = true := by decide +kernel
theorem ks556_0 : aseg kS krf kB [kE542, kE543] (ksp []) kE556 [kC556_0] 30000 (some kC556_0) = true := by decide +kernel
theorem kok556 : aOK kS krf kB kE556 := aOK_of (kal1 kok542 (kal1 kok543 kal0)) (kcl1 ks556_0 kcl0) ks556
/-- ColdShod$StrokePlan.addNext(LColdShod$Idea;I)V -/
def kE557 : aE := (83, 3, ([(.ofNat 0, .ofNat 3), (.ofNat 7, .ofNat 341)], [(57, 6, .inl (0, .ofNat 0)), (52, 6, .inl (1, .ofNat 0))], 0, [some (.inr [52]), some (.inr [20, 21, 22, 23, 24, 25, 26, 27]), some (.inl (.inl (.inr (.ofNat 6)))), none, none], []), ([], none), ([], [], none, ([], [])), ([(52, 6), (58, 0), (58, 1), (58, 2), (58, 3), (58, 4), (58, 5), (58, 6)], [54, 55, 56, 57]))
def kC557_0 : aC := (([(.ofNat 0, .ofNat 3), (.ofNat 7, .ofNat 341), (.ofNat 0, .ofNat 4), (.ofNat 7, .ofNat 341)], [(57, 6, .inl (0, .ofNat 0)), (52, 6, .inl (3, .ofNat 0))], 2, [some (.inr [52]), some (.inr [20, 21, 22, 23, 24, 25, 26, 27]), some (.inl (.inl (.inr (.ofNat 6)))), some (.inl (.inl (.inl (2, .ofNat 0)))), none], []), ([], []), (4, [(-1, 2)]))
theorem ks557 : aseg kS krf kB [kE542, kE543] (ksp []) kE557 [kC557_0] 30000 (none) = true := by decide +kernel
theorem ks557_0 : aseg kS krf kB [kE542, kE543] (ksp []) kE557 [kC557_0] 30000 (some kC557_0) = true := by decide +kernel
theorem kok557 : aOK kS krf kB kE557 := aOK_of (kal1 kok542 (kal1 kok543 kal0)) (kcl1 ks557_0 kcl0) ks557
/-- ColdShod$StrokePlan.addNext(LColdShod$Idea;I)V -/
def kE558 : aE := (83, 3, ([(.ofNat 0, .ofNat 3), (.ofNat 6, .ofNat 341)], [(57, 5, .inl (0, .ofNat 0)), (52, 6, .inl (1, .ofNat 0))], 0, [some (.inr [52]), some (.inr [20, 21, 22, 23, 24, 25, 26, 27]), some (.inl (.inl (.inr (.ofNat 5)))), none, none], []), ([], none), ([], [], none, ([], [])), ([(52, 6), (58, 0), (58, 1), (58, 2), (58, 3), (58, 4), (58, 5), (58, 6)], [54, 55, 56, 57]))
def kC558_0 : aC := (([(.ofNat 0, .ofNat 3), (.ofNat 6, .ofNat 341), (.ofNat 0, .ofNat 4), (.ofNat 6, .ofNat 341)], [(57, 5, .inl (0, .ofNat 0)), (52, 6, .inl (3, .ofNat 0))], 2, [some (.inr [52]), some (.inr [20, 21, 22, 23, 24, 25, 26, 27]), some (.inl (.inl (.inr (.ofNat 5)))), some (.inl (.inl (.inl (2, .ofNat 0)))), none], []), ([], []), (4, [(-1, 2)]))
theorem ks558 : aseg kS krf kB [kE542, kE543] (ksp []) kE558 [kC558_0] 30000 (none) = true := by decide +kernel
theorem ks558_0 : aseg kS krf kB [kE542, kE543] (ksp []) kE558 [kC558_0] 30000 (some kC558_0) = true := by decide +kernel
theorem kok558 : aOK kS krf kB kE558 := aOK_of (kal1 kok542 (kal1 kok543 kal0)) (kcl1 ks558_0 kcl0) ks558
/-- ColdShod$StrokePlan.addNext(LColdShod$Idea;I)V -/
def kE559 : aE := (83, 3, ([(.ofNat 0, .ofNat 3), (.ofNat 5, .ofNat 341)], [(57, 4, .inl (0, .ofNat 0)), (52, 6, .inl (1, .ofNat 0))], 0, [some (.inr [52]), some (.inr [20, 21, 22, 23, 24, 25, 26, 27]), some (.inl (.inl (.inr (.ofNat 4)))), none, none], []), ([], none), ([], [], none, ([], [])), ([(52, 6), (58, 0), (58, 1), (58, 2), (58, 3), (58, 4), (58, 5), (58, 6)], [54, 55, 56, 57]))
def kC559_0 : aC := (([(.ofNat 0, .ofNat 3), (.ofNat 5, .ofNat 341), (.ofNat 0, .ofNat 4), (.ofNat 5, .ofNat 341)], [(57, 4, .inl (0, .ofNat 0)), (52, 6, .inl (3, .ofNat 0))], 2, [some (.inr [52]), some (.inr [20, 21, 22, 23, 24, 25, 26, 27]), some (.inl (.inl (.inr (.ofNat 4)))), some (.inl (.inl (.inl (2, .ofNat 0)))), none], []), ([], []), (4, [(-1, 2)]))
theorem ks559 : aseg kS krf kB [kE542, kE543] (ksp []) kE559 [kC559_0] 30000 (none) = true := by decide +kernel
theorem ks559_0 : aseg kS krf kB [kE542, kE543] (ksp []) kE559 [kC559_0] 30000 (some kC559_0) = true := by decide +kernel
theorem kok559 : aOK kS krf kB kE559 := aOK_of (kal1 kok542 (kal1 kok543 kal0)) (kcl1 ks559_0 kcl0) ks559
/-- ColdShod$StrokePlan.addNext(LColdShod$Idea;I)V -/
def kE560 : aE := (83, 3, ([(.ofNat 0, .ofNat 3), (.ofNat 4, .ofNat 341)], [(57, 3, .inl (0, .ofNat 0)), (52, 6, .inl (1, .ofNat 0))], 0, [some (.inr [52]), some (.inr [20, 21, 22, 23, 24, 25, 26, 27]), some (.inl (.inl (.inr (.ofNat 3)))), none, none], []), ([], none), ([], [], none, ([], [])), ([(52, 6), (58, 0), (58, 1), (58, 2), (58, 3), (58, 4), (58, 5), (58, 6)], [54, 55, 56, 57]))
def kC560_0 : aC := (([(.ofNat 0, .ofNat 3), (.ofNat 4, .ofNat 341), (.ofNat 0, .ofNat 4), (.ofNat 4, .ofNat 341)], [(57, 3, .inl (0, .ofNat 0)), (52, 6, .inl (3, .ofNat 0))], 2, [some (.inr [52]), some (.inr [20, 21, 22, 23, 24, 25, 26, 27]), some (.inl (.inl (.inr (.ofNat 3)))), some (.inl (.inl (.inl (2, .ofNat 0)))), none], []), ([], []), (4, [(-1, 2)]))
theorem ks560 : aseg kS krf kB [kE542, kE543] (ksp []) kE560 [kC560_0] 30000 (none) = true := by decide +kernel
theorem ks560_0 : aseg kS krf kB [kE542, kE543] (ksp []) kE560 [kC560_0] 30000 (some kC560_0) = true := by decide +kernel
theorem kok560 : aOK kS krf kB kE560 := aOK_of (kal1 kok542 (kal1 kok543 kal0)) (kcl1 ks560_0 kcl0) ks560
/-- ColdShod$StrokePlan.addNext(LColdShod$Idea;I)V -/
def kE561 : aE := (83, 3, ([(.ofNat 0, .ofNat 3), (.ofNat 3, .ofNat 341)], [(57, 2, .inl (0, .ofNat 0)), (52, 6, .inl (1, .ofNat 0))], 0, [some (.inr [52]), some (.inr [20, 21, 22, 23, 24, 25, 26, 27]), some (.inl (.inl (.inr (.ofNat 2)))), none, none], []), ([], none), ([], [], none, ([], [])), ([(52, 6), (58, 0), (58, 1), (58, 2), (58, 3), (58, 4), (58, 5), (58, 6)], [54, 55, 56, 57]))
def kC561_0 : aC := (([(.ofNat 0, .ofNat 3), (.ofNat 3, .ofNat 341), (.ofNat 0, .ofNat 4), (.ofNat 3, .ofNat 341)], [(57, 2, .inl (0, .ofNat 0)), (52, 6, .inl (3, .ofNat 0))], 2, [some (.inr [52]), some (.inr [20, 21, 22, 23, 24, 25, 26, 27]), some (.inl (.inl (.inr (.ofNat 2)))), some (.inl (.inl (.inl (2, .ofNat 0)))), none], []), ([], []), (4, [(-1, 2)]))
theorem ks561 : aseg kS krf kB [kE542, kE543] (ksp []) kE561 [kC561_0] 30000 (none) = true := by decide +kernel
theorem ks561_0 : aseg kS krf kB [kE542, kE543] (ksp []) kE561 [kC561_0] 30000 (some kC561_0) = true := by decide +kernel
theorem kok561 : aOK kS krf kB kE561 := aOK_of (kal1 kok542 (kal1 kok543 kal0)) (kcl1 ks561_0 kcl0) ks561
/-- ColdShod$StrokePlan.addNext(LColdShod$Idea;I)V -/
def kE562 : aE := (83, 3, ([(.ofNat 0, .ofNat 3), (.ofNat 2, .ofNat 341)], [(57, 1, .inl (0, .ofNat 0)), (52, 6, .inl (1, .ofNat 0))], 0, [some (.inr [52]), some (.inr [20, 21, 22, 23, 24, 25, 26, 27]), some (.inl (.inl (.inr (.ofNat 1)))), none, none], []), ([], none), ([], [], none, ([], [])), ([(52, 6), (58, 0), (58, 1), (58, 2), (58, 3), (58, 4), (58, 5), (58, 6)], [54, 55, 56, 57]))
def kC562_0 : aC := (([(.ofNat 0, .ofNat 3), (.ofNat 2, .ofNat 341), (.ofNat 0, .ofNat 4), (.ofNat 2, .ofNat 341)], [(57, 1, .inl (0, .ofNat 0)), (52, 6, .inl (3, .ofNat 0))], 2, [some (.inr [52]), some (.inr [20, 21, 22, 23, 24, 25, 26, 27]), some (.inl (.inl (.inr (.ofNat 1)))), some (.inl (.inl (.inl (2, .ofNat 0)))), none], []), ([], []), (4, [(-1, 2)]))
theorem ks562 : aseg kS krf kB [kE542, kE543] (ksp []) kE562 [kC562_0] 30000 (none) = true := by decide +kernel
theorem ks562_0 : aseg kS krf kB [kE542, kE543] (ksp []) kE562 [kC562_0] 30000 (some kC562_0) = true := by decide +kernel
theorem kok562 : aOK kS krf kB kE562 := aOK_of (kal1 kok542 (kal1 kok543 kal0)) (kcl1 ks562_0 kcl0) ks562
/-- ColdShod$StrokePlan.addNext(LColdShod$Idea;I)V -/
def kE563 : aE := (83, 3, ([(.ofNat 0, .ofNat 3), (.ofNat 1, .ofNat 341)], [(57, 0, .inl (0, .ofNat 0)), (52, 6, .inl (1, .ofNat 0))], 0, [some (.inr [52]), some (.inr [20, 21, 22, 23, 24, 25, 26, 27]), some (.inl (.inl (.inr (.ofNat 0)))), none, none], []), ([], none), ([], [], none, ([], [])), ([(52, 6), (58, 0), (58, 1), (58, 2), (58, 3), (58, 4), (58, 5), (58, 6)], [54, 55, 56, 57]))
def kC563_0 : aC := (([(.ofNat 0, .ofNat 3), (.ofNat 1, .ofNat 341), (.ofNat 0, .ofNat 4), (.ofNat 1, .ofNat 341)], [(57, 0, .inl (0, .ofNat 0)), (52, 6, .inl (3, .ofNat 0))], 2, [some (.inr [52]), some (.inr [20, 21, 22, 23, 24, 25, 26, 27]), some (.inl (.inl (.inr (.ofNat 0)))), some (.inl (.inl (.inl (2, .ofNat 0)))), none], []), ([], []), (4, [(-1, 2)]))
theorem ks563 : aseg kS krf kB [kE542, kE543] (ksp []) kE563 [kC563_0] 30000 (none) = true := by decide +kernel
theorem ks563_0 : aseg kS krf kB [kE542, kE543] (ksp []) kE563 [kC563_0] 30000 (some kC563_0) = true := by decide +kernel
theorem kok563 : aOK kS krf kB kE563 := aOK_of (kal1 kok542 (kal1 kok543 kal0)) (kcl1 ks563_0 kcl0) ks563
/-- ColdShod$StrokePlan.addNext(LColdShod$Idea;I)V -/
def kE564 : aE := (83, 3, ([(.ofNat 0, .ofNat 3), (.ofNat 80, .ofNat 341)], [(57, 79, .inl (0, .ofNat 0)), (52, 6, .inl (1, .ofNat 0))], 0, [some (.inr [52]), some (.inr [20, 21, 22, 23, 24, 25, 26, 27]), some (.inl (.inl (.inr (.ofNat 79)))), none, none], []), ([], none), ([], [], none, ([], [])), ([(52, 6), (58, 0), (58, 1), (58, 2), (58, 3), (58, 4), (58, 5), (58, 6)], [54, 55, 56, 57]))
def kC564_0 : aC := (([(.ofNat 0, .ofNat 3), (.ofNat 80, .ofNat 341), (.ofNat 0, .ofNat 4), (.ofNat 80, .ofNat 341)], [(57, 79, .inl (0, .ofNat 0)), (52, 6, .inl (3, .ofNat 0))], 2, [some (.inr [52]), some (.inr [20, 21, 22, 23, 24, 25, 26, 27]), some (.inl (.inl (.inr (.ofNat 79)))), some (.inl (.inl (.inl (2, .ofNat 0)))), none], []), ([], []), (4, [(-1, 2)]))
theorem ks564 : aseg kS krf kB [kE542, kE543] (ksp []) kE564 [kC564_0] 30000 (none) = true := by decide +kernel
theorem ks564_0 : aseg kS krf kB [kE542, kE543] (ksp []) kE564 [kC564_0] 30000 (some kC564_0) = true := by decide +kernel
theorem kok564 : aOK kS krf kB kE564 := aOK_of (kal1 kok542 (kal1 kok543 kal0)) (kcl1 ks564_0 kcl0) ks564
/-- ColdShod$StrokePlan.addNext(LColdShod$Idea;I)V -/
def kE565 : aE := (83, 3, ([(.ofNat 0, .ofNat 3), (.ofNat 79, .ofNat 341)], [(57, 78, .inl (0, .ofNat 0)), (52, 6, .inl (1, .ofNat 0))], 0, [some (.inr [52]), some (.inr [20, 21, 22, 23, 24, 25, 26, 27]), some (.inl (.inl (.inr (.ofNat 78)))), none, none], []), ([], none), ([], [], none, ([], [])), ([(52, 6), (58, 0), (58, 1), (58, 2), (58, 3), (58, 4), (58, 5), (58, 6)], [54, 55, 56, 57]))
def kC565_0 : aC := (([(.ofNat 0, .ofNat 3), (.ofNat 79, .ofNat 341), (.ofNat 0, .ofNat 4), (.ofNat 79, .ofNat 341)], [(57, 78, .inl (0, .ofNat 0)), (52, 6, .inl (3, .ofNat 0))], 2, [some (.inr [52]), some (.inr [20, 21, 22, 23, 24, 25, 26, 27]), some (.inl (.inl (.inr (.ofNat 78)))), some (.inl (.inl (.inl (2, .ofNat 0)))), none], []), ([], []), (4, [(-1, 2)]))
theorem ks565 : aseg kS krf kB [kE542, kE543] (ksp []) kE565 [kC565_0] 30000 (none) = true := by decide +kernel
theorem ks565_0 : aseg kS krf kB [kE542, kE543] (ksp []) kE565 [kC565_0] 30000 (some kC565_0) = true := by decide +kernel
theorem kok565 : aOK kS krf kB kE565 := aOK_of (kal1 kok542 (kal1 kok543 kal0)) (kcl1 ks565_0 kcl0) ks565
/-- ColdShod$StrokePlan.addNext(LColdShod$Idea;I)V -/
def kE566 : aE := (83, 3, ([(.ofNat 0, .ofNat 3), (.ofNat 78, .ofNat 341)], [(57, 77, .inl (0, .ofNat 0)), (52, 6, .inl (1, .ofNat 0))], 0, [some (.inr [52]), some (.inr [20, 21, 22, 23, 24, 25, 26, 27]), some (.inl (.inl (.inr (.ofNat 77)))), none, none], []), ([], none), ([], [], none, ([], [])), ([(52, 6), (58, 0), (58, 1), (58, 2), (58, 3), (58, 4), (58, 5), (58, 6)], [54, 55, 56, 57]))
def kC566_0 : aC := (([(.ofNat 0, .ofNat 3), (.ofNat 78, .ofNat 341), (.ofNat 0, .ofNat 4), (.ofNat 78, .ofNat 341)], [(57, 77, .inl (0, .ofNat 0)), (52, 6, .inl (3, .ofNat 0))], 2, [some (.inr [52]), some (.inr [20, 21, 22, 23, 24, 25, 26, 27]), some (.inl (.inl (.inr (.ofNat 77)))), some (.inl (.inl (.inl (2, .ofNat 0)))), none], []), ([], []), (4, [(-1, 2)]))
theorem ks566 : aseg kS krf kB [kE542, kE543] (ksp []) kE566 [kC566_0] 30000 (none) = true := by decide +kernel
theorem ks566_0 : aseg kS krf kB [kE542, kE543] (ksp []) kE566 [kC566_0] 30000 (some kC566_0) = true := by decide +kernel
theorem kok566 : aOK kS krf kB kE566 := aOK_of (kal1 kok542 (kal1 kok543 kal0)) (kcl1 ks566_0 kcl0) ks566
/-- ColdShod$StrokePlan.addNext(LColdShod$Idea;I)V -/
def kE567 : aE := (83, 3, ([(.ofNat 0, .ofNat 3), (.ofNat 77, .ofNat 341)], [(57, 76, .inl (0, .ofNat 0)), (52, 6, .inl (1, .ofNat 0))], 0, [some (.inr [52]), some (.inr [20, 21, 22, 23, 24, 25, 26, 27]), some (.inl (.inl (.inr (.ofNat 76)))), none, none], []), ([], none), ([], [], none, ([], [])), ([(52, 6), (58, 0), (58, 1), (58, 2), (58, 3), (58, 4), (58, 5), (58, 6)], [54, 55, 56, 57]))
def kC567_0 : aC := (([(.ofNat 0, .ofNat 3), (.ofNat 77, .ofNat 341), (.ofNat 0, .ofNat 4), (.ofNat 77, .ofNat 341)], [(57, 76, .inl (0, .ofNat 0)), (52, 6, .inl (3, .ofNat 0))], 2, [some (.inr [52]), some (.inr [20, 21, 22, 23, 24, 25, 26, 27]), some (.inl (.inl (.inr (.ofNat 76)))), some (.inl (.inl (.inl (2, .ofNat 0)))), none], []), ([], []), (4, [(-1, 2)]))
theorem ks567 : aseg kS krf kB [kE542, kE543] (ksp []) kE567 [kC567_0] 30000 (none) = true := by decide +kernel
theorem ks567_0 : aseg kS krf kB [kE542, kE543] (ksp []) kE567 [kC567_0] 30000 (some kC567_0) = true := by decide +kernel
theorem kok567 : aOK kS krf kB kE567 := aOK_of (kal1 kok542 (kal1 kok543 kal0)) (kcl1 ks567_0 kcl0) ks567
/-- ColdShod$StrokePlan.addNext(LColdShod$Idea;I)V -/
def kE568 : aE := (83, 3, ([(.ofNat 0, .ofNat 3), (.ofNat 76, .ofNat 341)], [(57, 75, .inl (0, .ofNat 0)), (52, 6, .inl (1, .ofNat 0))], 0, [some (.inr [52]), some (.inr [20, 21, 22, 23, 24, 25, 26, 27]), some (.inl (.inl (.inr (.ofNat 75)))), none, none], []), ([], none), ([], [], none, ([], [])), ([(52, 6), (58, 0), (58, 1), (58, 2), (58, 3), (58, 4), (58, 5), (58, 6)], [54, 55, 56, 57]))
def kC568_0 : aC := (([(.ofNat 0, .ofNat 3), (.ofNat 76, .ofNat 341), (.ofNat 0, .ofNat 4), (.ofNat 76, .ofNat 341)], [(57, 75, .inl (0, .ofNat 0)), (52, 6, .inl (3, .ofNat 0))], 2, [some (.inr [52]), some (.inr [20, 21, 22, 23, 24, 25, 26, 27]), some (.inl (.inl (.inr (.ofNat 75)))), some (.inl (.inl (.inl (2, .ofNat 0)))), none], []), ([], []), (4, [(-1, 2)]))
theorem ks568 : aseg kS krf kB [kE542, kE543] (ksp []) kE568 [kC568_0] 30000 (none) = true := by decide +kernel
theorem ks568_0 : aseg kS krf kB [kE542, kE543] (ksp []) kE568 [kC568_0] 30000 (some kC568_0) = true := by decide +kernel
theorem kok568 : aOK kS krf kB kE568 := aOK_of (kal1 kok542 (kal1 kok543 kal0)) (kcl1 ks568_0 kcl0) ks568
/-- ColdShod$StrokePlan.addNext(LColdShod$Idea;I)V -/
def kE569 : aE := (83, 3, ([(.ofNat 0, .ofNat 3), (.ofNat 75, .ofNat 341)], [(57, 74, .inl (0, .ofNat 0)), (52, 6, .inl (1, .ofNat 0))], 0, [some (.inr [52]), some (.inr [20, 21, 22, 23, 24, 25, 26, 27]), some (.inl (.inl (.inr (.ofNat 74)))), none, none], []), ([], none), ([], [], none, ([], [])), ([(52, 6), (58, 0), (58, 1), (58, 2), (58, 3), (58, 4), (58, 5), (58, 6)], [54, 55, 56, 57]))
def kC569_0 : aC := (([(.ofNat 0, .ofNat 3), (.ofNat 75, .ofNat 341), (.ofNat 0, .ofNat 4), (.ofNat 75, .ofNat 341)], [(57, 74, .inl (0, .ofNat 0)), (52, 6, .inl (3, .ofNat 0))], 2, [some (.inr [52]), some (.inr [20, 21, 22, 23, 24, 25, 26, 27]), some (.inl (.inl (.inr (.ofNat 74)))), some (.inl (.inl (.inl (2, .ofNat 0)))), none], []), ([], []), (4, [(-1, 2)]))
theorem ks569 : aseg kS krf kB [kE542, kE543] (ksp []) kE569 [kC569_0] 30000 (none) = true := by decide +kernel
theorem ks569_0 : aseg kS krf kB [kE542, kE543] (ksp []) kE569 [kC569_0] 30000 (some kC569_0) = true := by decide +kernel
theorem kok569 : aOK kS krf kB kE569 := aOK_of (kal1 kok542 (kal1 kok543 kal0)) (kcl1 ks569_0 kcl0) ks569
/-- ColdShod$StrokePlan.addNext(LColdShod$Idea;I)V -/
def kE570 : aE := (83, 3, ([(.ofNat 0, .ofNat 3), (.ofNat 74, .ofNat 341)], [(57, 73, .inl (0, .ofNat 0)), (52, 6, .inl (1, .ofNat 0))], 0, [some (.inr [52]), some (.inr [20, 21, 22, 23, 24, 25, 26, 27]), some (.inl (.inl (.inr (.ofNat 73)))), none, none], []), ([], none), ([], [], none, ([], [])), ([(52, 6), (58, 0), (58, 1), (58, 2), (58, 3), (58, 4), (58, 5), (58, 6)], [54, 55, 56, 57]))
def kC570_0 : aC := (([(.ofNat 0, .ofNat 3), (.ofNat 74, .ofNat 341), (.ofNat 0, .ofNat 4), (.ofNat 74, .ofNat 341)], [(57, 73, .inl (0, .ofNat 0)), (52, 6, .inl (3, .ofNat 0))], 2, [some (.inr [52]), some (.inr [20, 21, 22, 23, 24, 25, 26, 27]), some (.inl (.inl (.inr (.ofNat 73)))), some (.inl (.inl (.inl (2, .ofNat 0)))), none], []), ([], []), (4, [(-1, 2)]))
theorem ks570 : aseg kS krf kB [kE542, kE543] (ksp []) kE570 [kC570_0] 30000 (none) = true := by decide +kernel
theorem ks570_0 : aseg kS krf kB [kE542, kE543] (ksp []) kE570 [kC570_0] 30000 (some kC570_0) = true := by decide +kernel
theorem kok570 : aOK kS krf kB kE570 := aOK_of (kal1 kok542 (kal1 kok543 kal0)) (kcl1 ks570_0 kcl0) ks570
/-- ColdShod$StrokePlan.addNext(LColdShod$Idea;I)V -/
def kE571 : aE := (83, 3, ([(.ofNat 0, .ofNat 3), (.ofNat 73, .ofNat 341)], [(57, 72, .inl (0, .ofNat 0)), (52, 6, .inl (1, .ofNat 0))], 0, [some (.inr [52]), some (.inr [20, 21, 22, 23, 24, 25, 26, 27]), some (.inl (.inl (.inr (.ofNat 72)))), none, none], []), ([], none), ([], [], none, ([], [])), ([(52, 6), (58, 0), (58, 1), (58, 2), (58, 3), (58, 4), (58, 5), (58, 6)], [54, 55, 56, 57]))
def kC571_0 : aC := (([(.ofNat 0, .ofNat 3), (.ofNat 73, .ofNat 341), (.ofNat 0, .ofNat 4), (.ofNat 73, .ofNat 341)], [(57, 72, .inl (0, .ofNat 0)), (52, 6, .inl (3, .ofNat 0))], 2, [some (.inr [52]), some (.inr [20, 21, 22, 23, 24, 25, 26, 27]), some (.inl (.inl (.inr (.ofNat 72)))), some (.inl (.inl (.inl (2, .ofNat 0)))), none], []), ([], []), (4, [(-1, 2)]))
theorem ks571 : aseg kS krf kB [kE542, kE543] (ksp []) kE571 [kC571_0] 30000 (none) = true := by decide +kernel
theorem ks571_0 : aseg kS krf kB [kE542, kE543] (ksp []) kE571 [kC571_0] 30000 (some kC571_0) = true := by decide +kernel
theorem kok571 : aOK kS krf kB kE571 := aOK_of (kal1 kok542 (kal1 kok543 kal0)) (kcl1 ks571_0 kcl0) ks571
/-- ColdShod$StrokePlan.addNext(LColdShod$Idea;I)V -/
def kE572 : aE := (83, 3, ([(.ofNat 0, .ofNat 3), (.ofNat 72, .ofNat 341)], [(57, 71, .inl (0, .ofNat 0)), (52, 6, .inl (1, .ofNat 0))], 0, [some (.inr [52]), some (.inr [20, 21, 22, 23, 24, 25, 26, 27]), some (.inl (.inl (.inr (.ofNat 71)))), none, none], []), ([], none), ([], [], none, ([], [])), ([(52, 6), (58, 0), (58, 1), (58, 2), (58, 3), (58, 4), (58, 5), (58, 6)], [54, 55, 56, 57]))
def kC572_0 : aC := (([(.ofNat 0, .ofNat 3), (.ofNat 72, .ofNat 341), (.ofNat 0, .ofNat 4), (.ofNat 72, .ofNat 341)], [(57, 71, .inl (0, .ofNat 0)), (52, 6, .inl (3, .ofNat 0))], 2, [some (.inr [52]), some (.inr [20, 21, 22, 23, 24, 25, 26, 27]), some (.inl (.inl (.inr (.ofNat 71)))), some (.inl (.inl (.inl (2, .ofNat 0)))), none], []), ([], []), (4, [(-1, 2)]))
theorem ks572 : aseg kS krf kB [kE542, kE543] (ksp []) kE572 [kC572_0] 30000 (none) = true := by decide +kernel
theorem ks572_0 : aseg kS krf kB [kE542, kE543] (ksp []) kE572 [kC572_0] 30000 (some kC572_0) = true := by decide +kernel
theorem kok572 : aOK kS krf kB kE572 := aOK_of (kal1 kok542 (kal1 kok543 kal0)) (kcl1 ks572_0 kcl0) ks572
/-- ColdShod$StrokePlan.addNext(LColdShod$Idea;I)V -/
def kE573 : aE := (83, 3, ([(.ofNat 0, .ofNat 3), (.ofNat 71, .ofNat 341)], [(57, 70, .inl (0, .ofNat 0)), (52, 6, .inl (1, .ofNat 0))], 0, [some (.inr [52]), some (.inr [20, 21, 22, 23, 24, 25, 26, 27]), some (.inl (.inl (.inr (.ofNat 70)))), none, none], []), ([], none), ([], [], none, ([], [])), ([(52, 6), (58, 0), (58, 1), (58, 2), (58, 3), (58, 4), (58, 5), (58, 6)], [54, 55, 56, 57]))
def kC573_0 : aC := (([(.ofNat 0, .ofNat 3), (.ofNat 71, .ofNat 341), (.ofNat 0, .ofNat 4), (.ofNat 71, .ofNat 341)], [(57, 70, .inl (0, .ofNat 0)), (52, 6, .inl (3, .ofNat 0))], 2, [some (.inr [52]), some (.inr [20, 21, 22, 23, 24, 25, 26, 27]), some (.inl (.inl (.inr (.ofNat 70)))), some (.inl (.inl (.inl (2, .ofNat 0)))), none], []), ([], []), (4, [(-1, 2)]))
theorem ks573 : aseg kS krf kB [kE542, kE543] (ksp []) kE573 [kC573_0] 30000 (none) = true := by decide +kernel
theorem ks573_0 : aseg kS krf kB [kE542, kE543] (ksp []) kE573 [kC573_0] 30000 (some kC573_0) = true := by decide +kernel
theorem kok573 : aOK kS krf kB kE573 := aOK_of (kal1 kok542 (kal1 kok543 kal0)) (kcl1 ks573_0 kcl0) ks573
/-- ColdShod$StrokePlan.addNext(LColdShod$Idea;I)V -/
def kE574 : aE := (83, 3, ([(.ofNat 0, .ofNat 3), (.ofNat 70, .ofNat 341)], [(57, 69, .inl (0, .ofNat 0)), (52, 6, .inl (1, .ofNat 0))], 0, [some (.inr [52]), some (.inr [20, 21, 22, 23, 24, 25, 26, 27]), some (.inl (.inl (.inr (.ofNat 69)))), none, none], []), ([], none), ([], [], none, ([], [])), ([(52, 6), (58, 0), (58, 1), (58, 2), (58, 3), (58, 4), (58, 5), (58, 6)], [54, 55, 56, 57]))
def kC574_0 : aC := (([(.ofNat 0, .ofNat 3), (.ofNat 70, .ofNat 341), (.ofNat 0, .ofNat 4), (.ofNat 70, .ofNat 341)], [(57, 69, .inl (0, .ofNat 0)), (52, 6, .inl (3, .ofNat 0))], 2, [some (.inr [52]), some (.inr [20, 21, 22, 23, 24, 25, 26, 27]), some (.inl (.inl (.inr (.ofNat 69)))), some (.inl (.inl (.inl (2, .ofNat 0)))), none], []), ([], []), (4, [(-1, 2)]))
theorem ks574 : aseg kS krf kB [kE542, kE543] (ksp []) kE574 [kC574_0] 30000 (none) = true := by decide +kernel
theorem ks574_0 : aseg kS krf kB [kE542, kE543] (ksp []) kE574 [kC574_0] 30000 (some kC574_0) = true := by decide +kernel
theorem kok574 : aOK kS krf kB kE574 := aOK_of (kal1 kok542 (kal1 kok543 kal0)) (kcl1 ks574_0 kcl0) ks574
/-- ColdShod$StrokePlan.addNext(LColdShod$Idea;I)V -/
def kE575 : aE := (83, 3, ([(.ofNat 0, .ofNat 3), (.ofNat 69, .ofNat 341)], [(57, 68, .inl (0, .ofNat 0)), (52, 6, .inl (1, .ofNat 0))], 0, [some (.inr [52]), some (.inr [20, 21, 22, 23, 24, 25, 26, 27]), some (.inl (.inl (.inr (.ofNat 68)))), none, none], []), ([], none), ([], [], none, ([], [])), ([(52, 6), (58, 0), (58, 1), (58, 2), (58, 3), (58, 4), (58, 5), (58, 6)], [54, 55, 56, 57]))
def kC575_0 : aC := (([(.ofNat 0, .ofNat 3), (.ofNat 69, .ofNat 341), (.ofNat 0, .ofNat 4), (.ofNat 69, .ofNat 341)], [(57, 68, .inl (0, .ofNat 0)), (52, 6, .inl (3, .ofNat 0))], 2, [some (.inr [52]), some (.inr [20, 21, 22, 23, 24, 25, 26, 27]), some (.inl (.inl (.inr (.ofNat 68)))), some (.inl (.inl (.inl (2, .ofNat 0)))), none], []), ([], []), (4, [(-1, 2)]))
theorem ks575 : aseg kS krf kB [kE542, kE543] (ksp []) kE575 [kC575_0] 30000 (none) = true := by decide +kernel
theorem ks575_0 : aseg kS krf kB [kE542, kE543] (ksp []) kE575 [kC575_0] 30000 (some kC575_0) = true := by decide +kernel
theorem kok575 : aOK kS krf kB kE575 := aOK_of (kal1 kok542 (kal1 kok543 kal0)) (kcl1 ks575_0 kcl0) ks575
/-- ColdShod$StrokePlan.addNext(LColdShod$Idea;I)V -/
def kE576 : aE := (83, 3, ([(.ofNat 0, .ofNat 3), (.ofNat 68, .ofNat 341)], [(57, 67, .inl (0, .ofNat 0)), (52, 6, .inl (1, .ofNat 0))], 0, [some (.inr [52]), some (.inr [20, 21, 22, 23, 24, 25, 26, 27]), some (.inl (.inl (.inr (.ofNat 67)))), none, none], []), ([], none), ([], [], none, ([], [])), ([(52, 6), (58, 0), (58, 1), (58, 2), (58, 3), (58, 4), (58, 5), (58, 6)], [54, 55, 56, 57]))
def kC576_0 : aC := (([(.ofNat 0, .ofNat 3), (.ofNat 68, .ofNat 341), (.ofNat 0, .ofNat 4), (.ofNat 68, .ofNat 341)], [(57, 67, .inl (0, .ofNat 0)), (52, 6, .inl (3, .ofNat 0))], 2, [some (.inr [52]), some (.inr [20, 21, 22, 23, 24, 25, 26, 27]), some (.inl (.inl (.inr (.ofNat 67)))), some (.inl (.inl (.inl (2, .ofNat 0)))), none], []), ([], []), (4, [(-1, 2)]))
theorem ks576 : aseg kS krf kB [kE542, kE543] (ksp []) kE576 [kC576_0] 30000 (none) = true := by decide +kernel
theorem ks576_0 : aseg kS krf kB [kE542, kE543] (ksp []) kE576 [kC576_0] 30000 (some kC576_0) = true := by decide +kernel
theorem kok576 : aOK kS krf kB kE576 := aOK_of (kal1 kok542 (kal1 kok543 kal0)) (kcl1 ks576_0 kcl0) ks576
/-- ColdShod$StrokePlan.addNext(LColdShod$Idea;I)V -/
def kE577 : aE := (83, 3, ([(.ofNat 0, .ofNat 3), (.ofNat 67, .ofNat 341)], [(57, 66, .inl (0, .ofNat 0)), (52, 6, .inl (1, .ofNat 0))], 0, [some (.inr [52]), some (.inr [20, 21, 22, 23, 24, 25, 26, 27]), some (.inl (.inl (.inr (.ofNat 66)))), none, none], []), ([], none), ([], [], none, ([], [])), ([(52, 6), (58, 0), (58, 1), (58, 2), (58, 3), (58, 4), (58, 5), (58, 6)], [54, 55, 56, 57]))
def kC577_0 : aC := (([(.ofNat 0, .ofNat 3), (.ofNat 67, .ofNat 341), (.ofNat 0, .ofNat 4), (.ofNat 67, .ofNat 341)], [(57, 66, .inl (0, .ofNat 0)), (52, 6, .inl (3, .ofNat 0))], 2, [some (.inr [52]), some (.inr [20, 21, 22, 23, 24, 25, 26, 27]), some (.inl (.inl (.inr (.ofNat 66)))), some (.inl (.inl (.inl (2, .ofNat 0)))), none], []), ([], []), (4, [(-1, 2)]))
theorem ks577 : aseg kS krf kB [kE542, kE543] (ksp []) kE577 [kC577_0] 30000 (none) = true := by decide +kernel
theorem ks577_0 : aseg kS krf kB [kE542, kE543] (ksp []) kE577 [kC577_0] 30000 (some kC577_0) = true := by decide +kernel
theorem kok577 : aOK kS krf kB kE577 := aOK_of (kal1 kok542 (kal1 kok543 kal0)) (kcl1 ks577_0 kcl0) ks577
/-- ColdShod$StrokePlan.addNext(LColdShod$Idea;I)V -/
def kE578 : aE := (83, 3, ([(.ofNat 0, .ofNat 3), (.ofNat 66, .ofNat 341)], [(57, 65, .inl (0, .ofNat 0)), (52, 6, .inl (1, .ofNat 0))], 0, [some (.inr [52]), some (.inr [20, 21, 22, 23, 24, 25, 26, 27]), some (.inl (.inl (.inr (.ofNat 65)))), none, none], []), ([], none), ([], [], none, ([], [])), ([(52, 6), (58, 0), (58, 1), (58, 2), (58, 3), (58, 4), (58, 5), (58, 6)], [54, 55, 56, 57]))
def kC578_0 : aC := (([(.ofNat 0, .ofNat 3), (.ofNat 66, .ofNat 341), (.ofNat 0, .ofNat 4), (.ofNat 66, .ofNat 341)], [(57, 65, .inl (0, .ofNat 0)), (52, 6, .inl (3, .ofNat 0))], 2, [some (.inr [52]), some (.inr [20, 21, 22, 23, 24, 25, 26, 27]), some (.inl (.inl (.inr (.ofNat 65)))), some (.inl (.inl (.inl (2, .ofNat 0)))), none], []), ([], []), (4, [(-1, 2)]))
theorem ks578 : aseg kS krf kB [kE542, kE543] (ksp []) kE578 [kC578_0] 30000 (none) = true := by decide +kernel
theorem ks578_0 : aseg kS krf kB [kE542, kE543] (ksp []) kE578 [kC578_0] 30000 (some kC578_0) = true := by decide +kernel
theorem kok578 : aOK kS krf kB kE578 := aOK_of (kal1 kok542 (kal1 kok543 kal0)) (kcl1 ks578_0 kcl0) ks578
/-- ColdShod$StrokePlan.addNext(LColdShod$Idea;I)V -/
def kE579 : aE := (83, 3, ([(.ofNat 0, .ofNat 3), (.ofNat 65, .ofNat 341)], [(57, 64, .inl (0, .ofNat 0)), (52, 6, .inl (1, .ofNat 0))], 0, [some (.inr [52]), some (.inr [20, 21, 22, 23, 24, 25, 26, 27]), some (.inl (.inl (.inr (.ofNat 64)))), none, none], []), ([], none), ([], [], none, ([], [])), ([(52, 6), (58, 0), (58, 1), (58, 2), (58, 3), (58, 4), (58, 5), (58, 6)], [54, 55, 56, 57]))
def kC579_0 : aC := (([(.ofNat 0, .ofNat 3), (.ofNat 65, .ofNat 341), (.ofNat 0, .ofNat 4), (.ofNat 65, .ofNat 341)], [(57, 64, .inl (0, .ofNat 0)), (52, 6, .inl (3, .ofNat 0))], 2, [some (.inr [52]), some (.inr [20, 21, 22, 23, 24, 25, 26, 27]), some (.inl (.inl (.inr (.ofNat 64)))), some (.inl (.inl (.inl (2, .ofNat 0)))), none], []), ([], []), (4, [(-1, 2)]))
theorem ks579 : aseg kS krf kB [kE542, kE543] (ksp []) kE579 [kC579_0] 30000 (none) = true := by decide +kernel
theorem ks579_0 : aseg kS krf kB [kE542, kE543] (ksp []) kE579 [kC579_0] 30000 (some kC579_0) = true := by decide +kernel
theorem kok579 : aOK kS krf kB kE579 := aOK_of (kal1 kok542 (kal1 kok543 kal0)) (kcl1 ks579_0 kcl0) ks579
/-- ColdShod$StrokePlan.addNext(LColdShod$Idea;I)V -/
def kE580 : aE := (83, 3, ([(.ofNat 0, .ofNat 3), (.ofNat 64, .ofNat 341)], [(57, 63, .inl (0, .ofNat 0)), (52, 6, .inl (1, .ofNat 0))], 0, [some (.inr [52]), some (.inr [20, 21, 22, 23, 24, 25, 26, 27]), some (.inl (.inl (.inr (.ofNat 63)))), none, none], []), ([], none), ([], [], none, ([], [])), ([(52, 6), (58, 0), (58, 1), (58, 2), (58, 3), (58, 4), (58, 5), (58, 6)], [54, 55, 56, 57]))
def kC580_0 : aC := (([(.ofNat 0, .ofNat 3), (.ofNat 64, .ofNat 341), (.ofNat 0, .ofNat 4), (.ofNat 64, .ofNat 341)], [(57, 63, .inl (0, .ofNat 0)), (52, 6, .inl (3, .ofNat 0))], 2, [some (.inr [52]), some (.inr [20, 21, 22, 23, 24, 25, 26, 27]), some (.inl (.inl (.inr (.ofNat 63)))), some (.inl (.inl (.inl (2, .ofNat 0)))), none], []), ([], []), (4, [(-1, 2)]))
theorem ks580 : aseg kS krf kB [kE542, kE543] (ksp []) kE580 [kC580_0] 30000 (none) = true := by decide +kernel
theorem ks580_0 : aseg kS krf kB [kE542, kE543] (ksp []) kE580 [kC580_0] 30000 (some kC580_0) = true := by decide +kernel
theorem kok580 : aOK kS krf kB kE580 := aOK_of (kal1 kok542 (kal1 kok543 kal0)) (kcl1 ks580_0 kcl0) ks580
/-- ColdShod$StrokePlan.addNext(LColdShod$Idea;I)V -/
def kE581 : aE := (83, 3, ([(.ofNat 0, .ofNat 3), (.ofNat 63, .ofNat 341)], [(57, 62, .inl (0, .ofNat 0)), (52, 6, .inl (1, .ofNat 0))], 0, [some (.inr [52]), some (.inr [20, 21, 22, 23, 24, 25, 26, 27]), some (.inl (.inl (.inr (.ofNat 62)))), none, none], []), ([], none), ([], [], none, ([], [])), ([(52, 6), (58, 0), (58, 1), (58, 2), (58, 3), (58, 4), (58, 5), (58, 6)], [54, 55, 56, 57]))
def kC581_0 : aC := (([(.ofNat 0, .ofNat 3), (.ofNat 63, .ofNat 341), (.ofNat 0, .ofNat 4), (.ofNat 63, .ofNat 341)], [(57, 62, .inl (0, .ofNat 0)), (52, 6, .inl (3, .ofNat 0))], 2, [some (.inr [52]), some (.inr [20, 21, 22, 23, 24, 25, 26, 27]), some (.inl (.inl (.inr (.ofNat 62)))), some (.inl (.inl (.inl (2, .ofNat 0)))), none], []), ([], []), (4, [(-1, 2)]))
theorem ks581 : aseg kS krf kB [kE542, kE543] (ksp []) kE581 [kC581_0] 30000 (none) = true := by decide +kernel
theorem ks581_0 : aseg kS krf kB [kE542, kE543] (ksp []) kE581 [kC581_0] 30000 (some kC581_0) = true := by decide +kernel
theorem kok581 : aOK kS krf kB kE581 := aOK_of (kal1 kok542 (kal1 kok543 kal0)) (kcl1 ks581_0 kcl0) ks581
/-- ColdShod$StrokePlan.addNext(LColdShod$Idea;I)V -/
def kE582 : aE := (83, 3, ([(.ofNat 0, .ofNat 3), (.ofNat 62, .ofNat 341)], [(57, 61, .inl (0, .ofNat 0)), (52, 6, .inl (1, .ofNat 0))], 0, [some (.inr [52]), some (.inr [20, 21, 22, 23, 24, 25, 26, 27]), some (.inl (.inl (.inr (.ofNat 61)))), none, none], []), ([], none), ([], [], none, ([], [])), ([(52, 6), (58, 0), (58, 1), (58, 2), (58, 3), (58, 4), (58, 5), (58, 6)], [54, 55, 56, 57]))
def kC582_0 : aC := (([(.ofNat 0, .ofNat 3), (.ofNat 62, .ofNat 341), (.ofNat 0, .ofNat 4), (.ofNat 62, .ofNat 341)], [(57, 61, .inl (0, .ofNat 0)), (52, 6, .inl (3, .ofNat 0))], 2, [some (.inr [52]), some (.inr [20, 21, 22, 23, 24, 25, 26, 27]), some (.inl (.inl (.inr (.ofNat 61)))), some (.inl (.inl (.inl (2, .ofNat 0)))), none], []), ([], []), (4, [(-1, 2)]))
theorem ks582 : aseg kS krf kB [kE542, kE543] (ksp []) kE582 [kC582_0] 30000 (none) = true := by decide +kernel
theorem ks582_0 : aseg kS krf kB [kE542, kE543] (ksp []) kE582 [kC582_0] 30000 (some kC582_0) = true := by decide +kernel
theorem kok582 : aOK kS krf kB kE582 := aOK_of (kal1 kok542 (kal1 kok543 kal0)) (kcl1 ks582_0 kcl0) ks582
/-- ColdShod$StrokePlan.addNext(LColdShod$Idea;I)V -/
def kE583 : aE := (83, 3, ([(.ofNat 0, .ofNat 3), (.ofNat 61, .ofNat 341)], [(57, 60, .inl (0, .ofNat 0)), (52, 6, .inl (1, .ofNat 0))], 0, [some (.inr [52]), some (.inr [20, 21, 22, 23, 24, 25, 26, 27]), some (.inl (.inl (.inr (.ofNat 60)))), none, none], []), ([], none), ([], [], none, ([], [])), ([(52, 6), (58, 0), (58, 1), (58, 2), (58, 3), (58, 4), (58, 5), (58, 6)], [54, 55, 56, 57]))
def kC583_0 : aC := (([(.ofNat 0, .ofNat 3), (.ofNat 61, .ofNat 341), (.ofNat 0, .ofNat 4), (.ofNat 61, .ofNat 341)], [(57, 60, .inl (0, .ofNat 0)), (52, 6, .inl (3, .ofNat 0))], 2, [some (.inr [52]), some (.inr [20, 21, 22, 23, 24, 25, 26, 27]), some (.inl (.inl (.inr (.ofNat 60)))), some (.inl (.inl (.inl (2, .ofNat 0)))), none], []), ([], []), (4, [(-1, 2)]))
theorem ks583 : aseg kS krf kB [kE542, kE543] (ksp []) kE583 [kC583_0] 30000 (none) = true := by decide +kernel
theorem ks583_0 : aseg kS krf kB [kE542, kE543] (ksp []) kE583 [kC583_0] 30000 (some kC583_0) = true := by decide +kernel
theorem kok583 : aOK kS krf kB kE583 := aOK_of (kal1 kok542 (kal1 kok543 kal0)) (kcl1 ks583_0 kcl0) ks583
/-- ColdShod$StrokePlan.addNext(LColdShod$Idea;I)V -/
def kE584 : aE := (83, 3, ([(.ofNat 0, .ofNat 3), (.ofNat 60, .ofNat 341)], [(57, 59, .inl (0, .ofNat 0)), (52, 6, .inl (1, .ofNat 0))], 0, [some (.inr [52]), some (.inr [20, 21, 22, 23, 24, 25, 26, 27]), some (.inl (.inl (.inr (.ofNat 59)))), none, none], []), ([], none), ([], [], none, ([], [])), ([(52, 6), (58, 0), (58, 1), (58, 2), (58, 3), (58, 4), (58, 5), (58, 6)], [54, 55, 56, 57]))
def kC584_0 : aC := (([(.ofNat 0, .ofNat 3), (.ofNat 60, .ofNat 341), (.ofNat 0, .ofNat 4), (.ofNat 60, .ofNat 341)], [(57, 59, .inl (0, .ofNat 0)), (52, 6, .inl (3, .ofNat 0))], 2, [some (.inr [52]), some (.inr [20, 21, 22, 23, 24, 25, 26, 27]), some (.inl (.inl (.inr (.ofNat 59)))), some (.inl (.inl (.inl (2, .ofNat 0)))), none], []), ([], []), (4, [(-1, 2)]))
theorem ks584 : aseg kS krf kB [kE542, kE543] (ksp []) kE584 [kC584_0] 30000 (none) = true := by decide +kernel
theorem ks584_0 : aseg kS krf kB [kE542, kE543] (ksp []) kE584 [kC584_0] 30000 (some kC584_0) = true := by decide +kernel
theorem kok584 : aOK kS krf kB kE584 := aOK_of (kal1 kok542 (kal1 kok543 kal0)) (kcl1 ks584_0 kcl0) ks584
/-- ColdShod$StrokePlan.addNext(LColdShod$Idea;I)V -/
def kE585 : aE := (83, 3, ([(.ofNat 0, .ofNat 3), (.ofNat 59, .ofNat 341)], [(57, 58, .inl (0, .ofNat 0)), (52, 6, .inl (1, .ofNat 0))], 0, [some (.inr [52]), some (.inr [20, 21, 22, 23, 24, 25, 26, 27]), some (.inl (.inl (.inr (.ofNat 58)))), none, none], []), ([], none), ([], [], none, ([], [])), ([(52, 6), (58, 0), (58, 1), (58, 2), (58, 3), (58, 4), (58, 5), (58, 6)], [54, 55, 56, 57]))
def kC585_0 : aC := (([(.ofNat 0, .ofNat 3), (.ofNat 59, .ofNat 341), (.ofNat 0, .ofNat 4), (.ofNat 59, .ofNat 341)], [(57, 58, .inl (0, .ofNat 0)), (52, 6, .inl (3, .ofNat 0))], 2, [some (.inr [52]), some (.inr [20, 21, 22, 23, 24, 25, 26, 27]), some (.inl (.inl (.inr (.ofNat 58)))), some (.inl (.inl (.inl (2, .ofNat 0)))), none], []), ([], []), (4, [(-1, 2)]))
theorem ks585 : aseg kS krf kB [kE542, kE543] (ksp []) kE585 [kC585_0] 30000 (none) = true := by decide +kernel
theorem ks585_0 : aseg kS krf kB [kE542, kE543] (ksp []) kE585 [kC585_0] 30000 (some kC585_0) = true := by decide +kernel
theorem kok585 : aOK kS krf kB kE585 := aOK_of (kal1 kok542 (kal1 kok543 kal0)) (kcl1 ks585_0 kcl0) ks585
/-- ColdShod$StrokePlan.addNext(LColdShod$Idea;I)V -/
def kE586 : aE := (83, 3, ([(.ofNat 0, .ofNat 3), (.ofNat 58, .ofNat 341)], [(57, 57, .inl (0, .ofNat 0)), (52, 6, .inl (1, .ofNat 0))], 0, [some (.inr [52]), some (.inr [20, 21, 22, 23, 24, 25, 26, 27]), some (.inl (.inl (.inr (.ofNat 57)))), none, none], []), ([], none), ([], [], none, ([], [])), ([(52, 6), (58, 0), (58, 1), (58, 2), (58, 3), (58, 4), (58, 5), (58, 6)], [54, 55, 56, 57]))
def kC586_0 : aC := (([(.ofNat 0, .ofNat 3), (.ofNat 58, .ofNat 341), (.ofNat 0, .ofNat 4), (.ofNat 58, .ofNat 341)], [(57, 57, .inl (0, .ofNat 0)), (52, 6, .inl (3, .ofNat 0))], 2, [some (.inr [52]), some (.inr [20, 21, 22, 23, 24, 25, 26, 27]), some (.inl (.inl (.inr (.ofNat 57)))), some (.inl (.inl (.inl (2, .ofNat 0)))), none], []), ([], []), (4, [(-1, 2)]))
theorem ks586 : aseg kS krf kB [kE542, kE543] (ksp []) kE586 [kC586_0] 30000 (none) = true := by decide +kernel
theorem ks586_0 : aseg kS krf kB [kE542, kE543] (ksp []) kE586 [kC586_0] 30000 (some kC586_0) = true := by decide +kernel
theorem kok586 : aOK kS krf kB kE586 := aOK_of (kal1 kok542 (kal1 kok543 kal0)) (kcl1 ks586_0 kcl0) ks586
/-- ColdShod$StrokePlan.addNext(LColdShod$Idea;I)V -/
def kE587 : aE := (83, 3, ([(.ofNat 0, .ofNat 3), (.ofNat 57, .ofNat 341)], [(57, 56, .inl (0, .ofNat 0)), (52, 6, .inl (1, .ofNat 0))], 0, [some (.inr [52]), some (.inr [20, 21, 22, 23, 24, 25, 26, 27]), some (.inl (.inl (.inr (.ofNat 56)))), none, none], []), ([], none), ([], [], none, ([], [])), ([(52, 6), (58, 0), (58, 1), (58, 2), (58, 3), (58, 4), (58, 5), (58, 6)], [54, 55, 56, 57]))
def kC587_0 : aC := (([(.ofNat 0, .ofNat 3), (.ofNat 57, .ofNat 341), (.ofNat 0, .ofNat 4), (.ofNat 57, .ofNat 341)], [(57, 56, .inl (0, .ofNat 0)), (52, 6, .inl (3, .ofNat 0))], 2, [some (.inr [52]), some (.inr [20, 21, 22, 23, 24, 25, 26, 27]), some (.inl (.inl (.inr (.ofNat 56)))), some (.inl (.inl (.inl (2, .ofNat 0)))), none], []), ([], []), (4, [(-1, 2)]))
theorem ks587 : aseg kS krf kB [kE542, kE543] (ksp []) kE587 [kC587_0] 30000 (none) = true := by decide +kernel
theorem ks587_0 : aseg kS krf kB [kE542, kE543] (ksp []) kE587 [kC587_0] 30000 (some kC587_0) = true := by decide +kernel
theorem kok587 : aOK kS krf kB kE587 := aOK_of (kal1 kok542 (kal1 kok543 kal0)) (kcl1 ks587_0 kcl0) ks587
/-- ColdShod$StrokePlan.addNext(LColdShod$Idea;I)V -/
def kE588 : aE := (83, 3, ([(.ofNat 0, .ofNat 3), (.ofNat 56, .ofNat 341)], [(57, 55, .inl (0, .ofNat 0)), (52, 6, .inl (1, .ofNat 0))], 0, [some (.inr [52]), some (.inr [20, 21, 22, 23, 24, 25, 26, 27]), some (.inl (.inl (.inr (.ofNat 55)))), none, none], []), ([], none), ([], [], none, ([], [])), ([(52, 6), (58, 0), (58, 1), (58, 2), (58, 3), (58, 4), (58, 5), (58, 6)], [54, 55, 56, 57]))
def kC588_0 : aC := (([(.ofNat 0, .ofNat 3), (.ofNat 56, .ofNat 341), (.ofNat 0, .ofNat 4), (.ofNat 56, .ofNat 341)], [(57, 55, .inl (0, .ofNat 0)), (52, 6, .inl (3, .ofNat 0))], 2, [some (.inr [52]), some (.inr [20, 21, 22, 23, 24, 25, 26, 27]), some (.inl (.inl (.inr (.ofNat 55)))), some (.inl (.inl (.inl (2, .ofNat 0)))), none], []), ([], []), (4, [(-1, 2)]))
theorem ks588 : aseg kS krf kB [kE542, kE543] (ksp []) kE588 [kC588_0] 30000 (none) = true := by decide +kernel
theorem ks588_0 : aseg kS krf kB [kE542, kE543] (ksp []) kE588 [kC588_0] 30000 (some kC588_0) = true := by decide +kernel
theorem kok588 : aOK kS krf kB kE588 := aOK_of (kal1 kok542 (kal1 kok543 kal0)) (kcl1 ks588_0 kcl0) ks588
/-- ColdShod$StrokePlan.addNext(LColdShod$Idea;I)V -/
def kE589 : aE := (83, 3, ([(.ofNat 0, .ofNat 3), (.ofNat 55, .ofNat 341)], [(57, 54, .inl (0, .ofNat 0)), (52, 6, .inl (1, .ofNat 0))], 0, [some (.inr [52]), some (.inr [20, 21, 22, 23, 24, 25, 26, 27]), some (.inl (.inl (.inr (.ofNat 54)))), none, none], []), ([], none), ([], [], none, ([], [])), ([(52, 6), (58, 0), (58, 1), (58, 2), (58, 3), (58, 4), (58, 5), (58, 6)], [54, 55, 56, 57]))
def kC589_0 : aC := (([(.ofNat 0, .ofNat 3), (.ofNat 55, .ofNat 341), (.ofNat 0, .ofNat 4), (.ofNat 55, .ofNat 341)], [(57, 54, .inl (0, .ofNat 0)), (52, 6, .inl (3, .ofNat 0))], 2, [some (.inr [52]), some (.inr [20, 21, 22, 23, 24, 25, 26, 27]), some (.inl (.inl (.inr (.ofNat 54)))), some (.inl (.inl (.inl (2, .ofNat 0)))), none], []), ([], []), (4, [(-1, 2)]))
theorem ks589 : aseg kS krf kB [kE542, kE543] (ksp []) kE589 [kC589_0] 30000 (none) = true := by decide +kernel
theorem ks589_0 : aseg kS krf kB [kE542, kE543] (ksp []) kE589 [kC589_0] 30000 (some kC589_0) = true := by decide +kernel
theorem kok589 : aOK kS krf kB kE589 := aOK_of (kal1 kok542 (kal1 kok543 kal0)) (kcl1 ks589_0 kcl0) ks589
/-- ColdShod$StrokePlan.addNext(LColdShod$Idea;I)V -/
def kE590 : aE := (83, 3, ([(.ofNat 0, .ofNat 3), (.ofNat 54, .ofNat 341)], [(57, 53, .inl (0, .ofNat 0)), (52, 6, .inl (1, .ofNat 0))], 0, [some (.inr [52]), some (.inr [20, 21, 22, 23, 24, 25, 26, 27]), some (.inl (.inl (.inr (.ofNat 53)))), none, none], []), ([], none), ([], [], none, ([], [])), ([(52, 6), (58, 0), (58, 1), (58, 2), (58, 3), (58, 4), (58, 5), (58, 6)], [54, 55, 56, 57]))
def kC590_0 : aC := (([(.ofNat 0, .ofNat 3), (.ofNat 54, .ofNat 341), (.ofNat 0, .ofNat 4), (.ofNat 54, .ofNat 341)], [(57, 53, .inl (0, .ofNat 0)), (52, 6, .inl (3, .ofNat 0))], 2, [some (.inr [52]), some (.inr [20, 21, 22, 23, 24, 25, 26, 27]), some (.inl (.inl (.inr (.ofNat 53)))), some (.inl (.inl (.inl (2, .ofNat 0)))), none], []), ([], []), (4, [(-1, 2)]))
theorem ks590 : aseg kS krf kB [kE542, kE543] (ksp []) kE590 [kC590_0] 30000 (none) = true := by decide +kernel
theorem ks590_0 : aseg kS krf kB [kE542, kE543] (ksp []) kE590 [kC590_0] 30000 (some kC590_0) = true := by decide +kernel
theorem kok590 : aOK kS krf kB kE590 := aOK_of (kal1 kok542 (kal1 kok543 kal0)) (kcl1 ks590_0 kcl0) ks590
/-- ColdShod$StrokePlan.addNext(LColdShod$Idea;I)V -/
def kE591 : aE := (83, 3, ([(.ofNat 0, .ofNat 3), (.ofNat 53, .ofNat 341)], [(57, 52, .inl (0, .ofNat 0)), (52, 6, .inl (1, .ofNat 0))], 0, [some (.inr [52]), some (.inr [20, 21, 22, 23, 24, 25, 26, 27]), some (.inl (.inl (.inr (.ofNat 52)))), none, none], []), ([], none), ([], [], none, ([], [])), ([(52, 6), (58, 0), (58, 1), (58, 2), (58, 3), (58, 4), (58, 5), (58, 6)], [54, 55, 56, 57]))
def kC591_0 : aC := (([(.ofNat 0, .ofNat 3), (.ofNat 53, .ofNat 341), (.ofNat 0, .ofNat 4), (.ofNat 53, .ofNat 341)], [(57, 52, .inl (0, .ofNat 0)), (52, 6, .inl (3, .ofNat 0))], 2, [some (.inr [52]), some (.inr [20, 21, 22, 23, 24, 25, 26, 27]), some (.inl (.inl (.inr (.ofNat 52)))), some (.inl (.inl (.inl (2, .ofNat 0)))), none], []), ([], []), (4, [(-1, 2)]))
theorem ks591 : aseg kS krf kB [kE542, kE543] (ksp []) kE591 [kC591_0] 30000 (none) = true := by decide +kernel
theorem ks591_0 : aseg kS krf kB [kE542, kE543] (ksp []) kE591 [kC591_0] 30000 (some kC591_0) = true := by decide +kernel
theorem kok591 : aOK kS krf kB kE591 := aOK_of (kal1 kok542 (kal1 kok543 kal0)) (kcl1 ks591_0 kcl0) ks591
/-- ColdShod$StrokePlan.addNext(LColdShod$Idea;I)V -/
def kE592 : aE := (83, 3, ([(.ofNat 0, .ofNat 3), (.ofNat 52, .ofNat 341)], [(57, 51, .inl (0, .ofNat 0)), (52, 6, .inl (1, .ofNat 0))], 0, [some (.inr [52]), some (.inr [20, 21, 22, 23, 24, 25, 26, 27]), some (.inl (.inl (.inr (.ofNat 51)))), none, none], []), ([], none), ([], [], none, ([], [])), ([(52, 6), (58, 0), (58, 1), (58, 2), (58, 3), (58, 4), (58, 5), (58, 6)], [54, 55, 56, 57]))
def kC592_0 : aC := (([(.ofNat 0, .ofNat 3), (.ofNat 52, .ofNat 341), (.ofNat 0, .ofNat 4), (.ofNat 52, .ofNat 341)], [(57, 51, .inl (0, .ofNat 0)), (52, 6, .inl (3, .ofNat 0))], 2, [some (.inr [52]), some (.inr [20, 21, 22, 23, 24, 25, 26, 27]), some (.inl (.inl (.inr (.ofNat 51)))), some (.inl (.inl (.inl (2, .ofNat 0)))), none], []), ([], []), (4, [(-1, 2)]))
theorem ks592 : aseg kS krf kB [kE542, kE543] (ksp []) kE592 [kC592_0] 30000 (none) = true := by decide +kernel
theorem ks592_0 : aseg kS krf kB [kE542, kE543] (ksp []) kE592 [kC592_0] 30000 (some kC592_0) = true := by decide +kernel
theorem kok592 : aOK kS krf kB kE592 := aOK_of (kal1 kok542 (kal1 kok543 kal0)) (kcl1 ks592_0 kcl0) ks592
/-- ColdShod$StrokePlan.addNext(LColdShod$Idea;I)V -/
def kE593 : aE := (83, 3, ([(.ofNat 0, .ofNat 3), (.ofNat 51, .ofNat 341)], [(57, 50, .inl (0, .ofNat 0)), (52, 6, .inl (1, .ofNat 0))], 0, [some (.inr [52]), some (.inr [20, 21, 22, 23, 24, 25, 26, 27]), some (.inl (.inl (.inr (.ofNat 50)))), none, none], []), ([], none), ([], [], none, ([], [])), ([(52, 6), (58, 0), (58, 1), (58, 2), (58, 3), (58, 4), (58, 5), (58, 6)], [54, 55, 56, 57]))
def kC593_0 : aC := (([(.ofNat 0, .ofNat 3), (.ofNat 51, .ofNat 341), (.ofNat 0, .ofNat 4), (.ofNat 51, .ofNat 341)], [(57, 50, .inl (0, .ofNat 0)), (52, 6, .inl (3, .ofNat 0))], 2, [some (.inr [52]), some (.inr [20, 21, 22, 23, 24, 25, 26, 27]), some (.inl (.inl (.inr (.ofNat 50)))), some (.inl (.inl (.inl (2, .ofNat 0)))), none], []), ([], []), (4, [(-1, 2)]))
theorem ks593 : aseg kS krf kB [kE542, kE543] (ksp []) kE593 [kC593_0] 30000 (none) = true := by decide +kernel
theorem ks593_0 : aseg kS krf kB [kE542, kE543] (ksp []) kE593 [kC593_0] 30000 (some kC593_0) = true := by decide +kernel
theorem kok593 : aOK kS krf kB kE593 := aOK_of (kal1 kok542 (kal1 kok543 kal0)) (kcl1 ks593_0 kcl0) ks593
/-- ColdShod$StrokePlan.addNext(LColdShod$Idea;I)V -/
def kE594 : aE := (83, 3, ([(.ofNat 0, .ofNat 3), (.ofNat 50, .ofNat 341)], [(57, 49, .inl (0, .ofNat 0)), (52, 6, .inl (1, .ofNat 0))], 0, [some (.inr [52]), some (.inr [20, 21, 22, 23, 24, 25, 26, 27]), some (.inl (.inl (.inr (.ofNat 49)))), none, none], []), ([], none), ([], [], none, ([], [])), ([(52, 6), (58, 0), (58, 1), (58, 2), (58, 3), (58, 4), (58, 5), (58, 6)], [54, 55, 56, 57]))
def kC594_0 : aC := (([(.ofNat 0, .ofNat 3), (.ofNat 50, .ofNat 341), (.ofNat 0, .ofNat 4), (.ofNat 50, .ofNat 341)], [(57, 49, .inl (0, .ofNat 0)), (52, 6, .inl (3, .ofNat 0))], 2, [some (.inr [52]), some (.inr [20, 21, 22, 23, 24, 25, 26, 27]), some (.inl (.inl (.inr (.ofNat 49)))), some (.inl (.inl (.inl (2, .ofNat 0)))), none], []), ([], []), (4, [(-1, 2)]))
theorem ks594 : aseg kS krf kB [kE542, kE543] (ksp []) kE594 [kC594_0] 30000 (none) = true := by decide +kernel
theorem ks594_0 : aseg kS krf kB [kE542, kE543] (ksp []) kE594 [kC594_0] 30000 (some kC594_0) = true := by decide +kernel
theorem kok594 : aOK kS krf kB kE594 := aOK_of (kal1 kok542 (kal1 kok543 kal0)) (kcl1 ks594_0 kcl0) ks594
/-- ColdShod$StrokePlan.addNext(LColdShod$Idea;I)V -/
def kE595 : aE := (83, 3, ([(.ofNat 0, .ofNat 3), (.ofNat 49, .ofNat 341)], [(57, 48, .inl (0, .ofNat 0)), (52, 6, .inl (1, .ofNat 0))], 0, [some (.inr [52]), some (.inr [20, 21, 22, 23, 24, 25, 26, 27]), some (.inl (.inl (.inr (.ofNat 48)))), none, none], []), ([], none), ([], [], none, ([], [])), ([(52, 6), (58, 0), (58, 1), (58, 2), (58, 3), (58, 4), (58, 5), (58, 6)], [54, 55, 56, 57]))
def kC595_0 : aC := (([(.ofNat 0, .ofNat 3), (.ofNat 49, .ofNat 341), (.ofNat 0, .ofNat 4), (.ofNat 49, .ofNat 341)], [(57, 48, .inl (0, .ofNat 0)), (52, 6, .inl (3, .ofNat 0))], 2, [some (.inr [52]), some (.inr [20, 21, 22, 23, 24, 25, 26, 27]), some (.inl (.inl (.inr (.ofNat 48)))), some (.inl (.inl (.inl (2, .ofNat 0)))), none], []), ([], []), (4, [(-1, 2)]))
theorem ks595 : aseg kS krf kB [kE542, kE543] (ksp []) kE595 [kC595_0] 30000 (none) = true := by decide +kernel
theorem ks595_0 : aseg kS krf kB [kE542, kE543] (ksp []) kE595 [kC595_0] 30000 (some kC595_0) = true := by decide +kernel
theorem kok595 : aOK kS krf kB kE595 := aOK_of (kal1 kok542 (kal1 kok543 kal0)) (kcl1 ks595_0 kcl0) ks595
/-- ColdShod$StrokePlan.addNext(LColdShod$Idea;I)V -/
def kE596 : aE := (83, 3, ([(.ofNat 0, .ofNat 3), (.ofNat 48, .ofNat 341)], [(57, 47, .inl (0, .ofNat 0)), (52, 6, .inl (1, .ofNat 0))], 0, [some (.inr [52]), some (.inr [20, 21, 22, 23, 24, 25, 26, 27]), some (.inl (.inl (.inr (.ofNat 47)))), none, none], []), ([], none), ([], [], none, ([], [])), ([(52, 6), (58, 0), (58, 1), (58, 2), (58, 3), (58, 4), (58, 5), (58, 6)], [54, 55, 56, 57]))
def kC596_0 : aC := (([(.ofNat 0, .ofNat 3), (.ofNat 48, .ofNat 341), (.ofNat 0, .ofNat 4), (.ofNat 48, .ofNat 341)], [(57, 47, .inl (0, .ofNat 0)), (52, 6, .inl (3, .ofNat 0))], 2, [some (.inr [52]), some (.inr [20, 21, 22, 23, 24, 25, 26, 27]), some (.inl (.inl (.inr (.ofNat 47)))), some (.inl (.inl (.inl (2, .ofNat 0)))), none], []), ([], []), (4, [(-1, 2)]))
theorem ks596 : aseg kS krf kB [kE542, kE543] (ksp []) kE596 [kC596_0] 30000 (none) = true := by decide +kernel
theorem ks596_0 : aseg kS krf kB [kE542, kE543] (ksp []) kE596 [kC596_0] 30000 (some kC596_0) = true := by decide +kernel
theorem kok596 : aOK kS krf kB kE596 := aOK_of (kal1 kok542 (kal1 kok543 kal0)) (kcl1 ks596_0 kcl0) ks596
/-- ColdShod$StrokePlan.addNext(LColdShod$Idea;I)V -/
def kE597 : aE := (83, 3, ([(.ofNat 0, .ofNat 3), (.ofNat 47, .ofNat 341)], [(57, 46, .inl (0, .ofNat 0)), (52, 6, .inl (1, .ofNat 0))], 0, [some (.inr [52]), some (.inr [20, 21, 22, 23, 24, 25, 26, 27]), some (.inl (.inl (.inr (.ofNat 46)))), none, none], []), ([], none), ([], [], none, ([], [])), ([(52, 6), (58, 0), (58, 1), (58, 2), (58, 3), (58, 4), (58, 5), (58, 6)], [54, 55, 56, 57]))
def kC597_0 : aC := (([(.ofNat 0, .ofNat 3), (.ofNat 47, .ofNat 341), (.ofNat 0, .ofNat 4), (.ofNat 47, .ofNat 341)], [(57, 46, .inl (0, .ofNat 0)), (52, 6, .inl (3, .ofNat 0))], 2, [some (.inr [52]), some (.inr [20, 21, 22, 23, 24, 25, 26, 27]), some (.inl (.inl (.inr (.ofNat 46)))), some (.inl (.inl (.inl (2, .ofNat 0)))), none], []), ([], []), (4, [(-1, 2)]))
theorem ks597 : aseg kS krf kB [kE542, kE543] (ksp []) kE597 [kC597_0] 30000 (none) = true := by decide +kernel
theorem ks597_0 : aseg kS krf kB [kE542, kE543] (ksp []) kE597 [kC597_0] 30000 (some kC597_0) = true := by decide +kernel
theorem kok597 : aOK kS krf kB kE597 := aOK_of (kal1 kok542 (kal1 kok543 kal0)) (kcl1 ks597_0 kcl0) ks597
/-- ColdShod$StrokePlan.addNext(LColdShod$Idea;I)V -/
def kE598 : aE := (83, 3, ([(.ofNat 0, .ofNat 3), (.ofNat 46, .ofNat 341)], [(57, 45, .inl (0, .ofNat 0)), (52, 6, .inl (1, .ofNat 0))], 0, [some (.inr [52]), some (.inr [20, 21, 22, 23, 24, 25, 26, 27]), some (.inl (.inl (.inr (.ofNat 45)))), none, none], []), ([], none), ([], [], none, ([], [])), ([(52, 6), (58, 0), (58, 1), (58, 2), (58, 3), (58, 4), (58, 5), (58, 6)], [54, 55, 56, 57]))
def kC598_0 : aC := (([(.ofNat 0, .ofNat 3), (.ofNat 46, .ofNat 341), (.ofNat 0, .ofNat 4), (.ofNat 46, .ofNat 341)], [(57, 45, .inl (0, .ofNat 0)), (52, 6, .inl (3, .ofNat 0))], 2, [some (.inr [52]), some (.inr [20, 21, 22, 23, 24, 25, 26, 27]), some (.inl (.inl (.inr (.ofNat 45)))), some (.inl (.inl (.inl (2, .ofNat 0)))), none], []), ([], []), (4, [(-1, 2)]))
theorem ks598 : aseg kS krf kB [kE542, kE543] (ksp []) kE598 [kC598_0] 30000 (none) = true := by decide +kernel
theorem ks598_0 : aseg kS krf kB [kE542, kE543] (ksp []) kE598 [kC598_0] 30000 (some kC598_0) = true := by decide +kernel
theorem kok598 : aOK kS krf kB kE598 := aOK_of (kal1 kok542 (kal1 kok543 kal0)) (kcl1 ks598_0 kcl0) ks598
/-- ColdShod$StrokePlan.addNext(LColdShod$Idea;I)V -/
def kE599 : aE := (83, 3, ([(.ofNat 0, .ofNat 3), (.ofNat 45, .ofNat 341)], [(57, 44, .inl (0, .ofNat 0)), (52, 6, .inl (1, .ofNat 0))], 0, [some (.inr [52]), some (.inr [20, 21, 22, 23, 24, 25, 26, 27]), some (.inl (.inl (.inr (.ofNat 44)))), none, none], []), ([], none), ([], [], none, ([], [])), ([(52, 6), (58, 0), (58, 1), (58, 2), (58, 3), (58, 4), (58, 5), (58, 6)], [54, 55, 56, 57]))
def kC599_0 : aC := (([(.ofNat 0, .ofNat 3), (.ofNat 45, .ofNat 341), (.ofNat 0, .ofNat 4), (.ofNat 45, .ofNat 341)], [(57, 44, .inl (0, .ofNat 0)), (52, 6, .inl (3, .ofNat 0))], 2, [some (.inr [52]), some (.inr [20, 21, 22, 23, 24, 25, 26, 27]), some (.inl (.inl (.inr (.ofNat 44)))), some (.inl (.inl (.inl (2, .ofNat 0)))), none], []), ([], []), (4, [(-1, 2)]))
theorem ks599 : aseg kS krf kB [kE542, kE543] (ksp []) kE599 [kC599_0] 30000 (none) = true := by decide +kernel
theorem ks599_0 : aseg kS krf kB [kE542, kE543] (ksp []) kE599 [kC599_0] 30000 (some kC599_0) = true := by decide +kernel
theorem kok599 : aOK kS krf kB kE599 := aOK_of (kal1 kok542 (kal1 kok543 kal0)) (kcl1 ks599_0 kcl0) ks599
/-- ColdShod$StrokePlan.addNext(LColdShod$Idea;I)V -/
def kE600 : aE := (83, 3, ([(.ofNat 0, .ofNat 3), (.ofNat 44, .ofNat 341)], [(57, 43, .inl (0, .ofNat 0)), (52, 6, .inl (1, .ofNat 0))], 0, [some (.inr [52]), some (.inr [20, 21, 22, 23, 24, 25, 26, 27]), some (.inl (.inl (.inr (.ofNat 43)))), none, none], []), ([], none), ([], [], none, ([], [])), ([(52, 6), (58, 0), (58, 1), (58, 2), (58, 3), (58, 4), (58, 5), (58, 6)], [54, 55, 56, 57]))
def kC600_0 : aC := (([(.ofNat 0, .ofNat 3), (.ofNat 44, .ofNat 341), (.ofNat 0, .ofNat 4), (.ofNat 44, .ofNat 341)], [(57, 43, .inl (0, .ofNat 0)), (52, 6, .inl (3, .ofNat 0))], 2, [some (.inr [52]), some (.inr [20, 21, 22, 23, 24, 25, 26, 27]), some (.inl (.inl (.inr (.ofNat 43)))), some (.inl (.inl (.inl (2, .ofNat 0)))), none], []), ([], []), (4, [(-1, 2)]))
theorem ks600 : aseg kS krf kB [kE542, kE543] (ksp []) kE600 [kC600_0] 30000 (none) = true := by decide +kernel
theorem ks600_0 : aseg kS krf kB [kE542, kE543] (ksp []) kE600 [kC600_0] 30000 (some kC600_0) = true := by decide +kernel
theorem kok600 : aOK kS krf kB kE600 := aOK_of (kal1 kok542 (kal1 kok543 kal0)) (kcl1 ks600_0 kcl0) ks600
/-- ColdShod$StrokePlan.addNext(LColdShod$Idea;I)V -/
def kE601 : aE := (83, 3, ([(.ofNat 0, .ofNat 3), (.ofNat 43, .ofNat 341)], [(57, 42, .inl (0, .ofNat 0)), (52, 6, .inl (1, .ofNat 0))], 0, [some (.inr [52]), some (.inr [20, 21, 22, 23, 24, 25, 26, 27]), some (.inl (.inl (.inr (.ofNat 42)))), none, none], []), ([], none), ([], [], none, ([], [])), ([(52, 6), (58, 0), (58, 1), (58, 2), (58, 3), (58, 4), (58, 5), (58, 6)], [54, 55, 56, 57]))
def kC601_0 : aC := (([(.ofNat 0, .ofNat 3), (.ofNat 43, .ofNat 341), (.ofNat 0, .ofNat 4), (.ofNat 43, .ofNat 341)], [(57, 42, .inl (0, .ofNat 0)), (52, 6, .inl (3, .ofNat 0))], 2, [some (.inr [52]), some (.inr [20, 21, 22, 23, 24, 25, 26, 27]), some (.inl (.inl (.inr (.ofNat 42)))), some (.inl (.inl (.inl (2, .ofNat 0)))), none], []), ([], []), (4, [(-1, 2)]))
theorem ks601 : aseg kS krf kB [kE542, kE543] (ksp []) kE601 [kC601_0] 30000 (none) = true := by decide +kernel
theorem ks601_0 : aseg kS krf kB [kE542, kE543] (ksp []) kE601 [kC601_0] 30000 (some kC601_0) = true := by decide +kernel
theorem kok601 : aOK kS krf kB kE601 := aOK_of (kal1 kok542 (kal1 kok543 kal0)) (kcl1 ks601_0 kcl0) ks601
/-- ColdShod$StrokePlan.addNext(LColdShod$Idea;I)V -/
def kE602 : aE := (83, 3, ([(.ofNat 0, .ofNat 3), (.ofNat 42, .ofNat 341)], [(57, 41, .inl (0, .ofNat 0)), (52, 6, .inl (1, .ofNat 0))], 0, [some (.inr [52]), some (.inr [20, 21, 22, 23, 24, 25, 26, 27]), some (.inl (.inl (.inr (.ofNat 41)))), none, none], []), ([], none), ([], [], none, ([], [])), ([(52, 6), (58, 0), (58, 1), (58, 2), (58, 3), (58, 4), (58, 5), (58, 6)], [54, 55, 56, 57]))
def kC602_0 : aC := (([(.ofNat 0, .ofNat 3), (.ofNat 42, .ofNat 341), (.ofNat 0, .ofNat 4), (.ofNat 42, .ofNat 341)], [(57, 41, .inl (0, .ofNat 0)), (52, 6, .inl (3, .ofNat 0))], 2, [some (.inr [52]), some (.inr [20, 21, 22, 23, 24, 25, 26, 27]), some (.inl (.inl (.inr (.ofNat 41)))), some (.inl (.inl (.inl (2, .ofNat 0)))), none], []), ([], []), (4, [(-1, 2)]))
theorem ks602 : aseg kS krf kB [kE542, kE543] (ksp []) kE602 [kC602_0] 30000 (none) = true := by decide +kernel
theorem ks602_0 : aseg kS krf kB [kE542, kE543] (ksp []) kE602 [kC602_0] 30000 (some kC602_0) = true := by decide +kernel
theorem kok602 : aOK kS krf kB kE602 := aOK_of (kal1 kok542 (kal1 kok543 kal0)) (kcl1 ks602_0 kcl0) ks602
/-- ColdShod$StrokePlan.addNext(LColdShod$Idea;I)V -/
def kE603 : aE := (83, 3, ([(.ofNat 0, .ofNat 3), (.ofNat 41, .ofNat 341)], [(57, 40, .inl (0, .ofNat 0)), (52, 6, .inl (1, .ofNat 0))], 0, [some (.inr [52]), some (.inr [20, 21, 22, 23, 24, 25, 26, 27]), some (.inl (.inl (.inr (.ofNat 40)))), none, none], []), ([], none), ([], [], none, ([], [])), ([(52, 6), (58, 0), (58, 1), (58, 2), (58, 3), (58, 4), (58, 5), (58, 6)], [54, 55, 56, 57]))
def kC603_0 : aC := (([(.ofNat 0, .ofNat 3), (.ofNat 41, .ofNat 341), (.ofNat 0, .ofNat 4), (.ofNat 41, .ofNat 341)], [(57, 40, .inl (0, .ofNat 0)), (52, 6, .inl (3, .ofNat 0))], 2, [some (.inr [52]), some (.inr [20, 21, 22, 23, 24, 25, 26, 27]), some (.inl (.inl (.inr (.ofNat 40)))), some (.inl (.inl (.inl (2, .ofNat 0)))), none], []), ([], []), (4, [(-1, 2)]))
theorem ks603 : aseg kS krf kB [kE542, kE543] (ksp []) kE603 [kC603_0] 30000 (none) = true := by decide +kernel
theorem ks603_0 : aseg kS krf kB [kE542, kE543] (ksp []) kE603 [kC603_0] 30000 (some kC603_0) = true := by decide +kernel
theorem kok603 : aOK kS krf kB kE603 := aOK_of (kal1 kok542 (kal1 kok543 kal0)) (kcl1 ks603_0 kcl0) ks603
/-- ColdShod$StrokePlan.addNext(LColdShod$Idea;I)V -/
def kE604 : aE := (83, 3, ([(.ofNat 0, .ofNat 3), (.ofNat 40, .ofNat 341)], [(57, 39, .inl (0, .ofNat 0)), (52, 6, .inl (1, .ofNat 0))], 0, [some (.inr [52]), some (.inr [20, 21, 22, 23, 24, 25, 26, 27]), some (.inl (.inl (.inr (.ofNat 39)))), none, none], []), ([], none), ([], [], none, ([], [])), ([(52, 6), (58, 0), (58, 1), (58, 2), (58, 3), (58, 4), (58, 5), (58, 6)], [54, 55, 56, 57]))
def kC604_0 : aC := (([(.ofNat 0, .ofNat 3), (.ofNat 40, .ofNat 341), (.ofNat 0, .ofNat 4), (.ofNat 40, .ofNat 341)], [(57, 39, .inl (0, .ofNat 0)), (52, 6, .inl (3, .ofNat 0))], 2, [some (.inr [52]), some (.inr [20, 21, 22, 23, 24, 25, 26, 27]), some (.inl (.inl (.inr (.ofNat 39)))), some (.inl (.inl (.inl (2, .ofNat 0)))), none], []), ([], []), (4, [(-1, 2)]))
theorem ks604 : aseg kS krf kB [kE542, kE543] (ksp []) kE604 [kC604_0] 30000 (none) = true := by decide +kernel
theorem ks604_0 : aseg kS krf kB [kE542, kE543] (ksp []) kE604 [kC604_0] 30000 (some kC604_0) = true := by decide +kernel
theorem kok604 : aOK kS krf kB kE604 := aOK_of (kal1 kok542 (kal1 kok543 kal0)) (kcl1 ks604_0 kcl0) ks604
/-- ColdShod$StrokePlan.addNext(LColdShod$Idea;I)V -/
def kE605 : aE := (83, 3, ([(.ofNat 0, .ofNat 3), (.ofNat 39, .ofNat 341)], [(57, 38, .inl (0, .ofNat 0)), (52, 6, .inl (1, .ofNat 0))], 0, [some (.inr [52]), some (.inr [20, 21, 22, 23, 24, 25, 26, 27]), some (.inl (.inl (.inr (.ofNat 38)))), none, none], []), ([], none), ([], [], none, ([], [])), ([(52, 6), (58, 0), (58, 1), (58, 2), (58, 3), (58, 4), (58, 5), (58, 6)], [54, 55, 56, 57]))
def kC605_0 : aC := (([(.ofNat 0, .ofNat 3), (.ofNat 39, .ofNat 341), (.ofNat 0, .ofNat 4), (.ofNat 39, .ofNat 341)], [(57, 38, .inl (0, .ofNat 0)), (52, 6, .inl (3, .ofNat 0))], 2, [some (.inr [52]), some (.inr [20, 21, 22, 23, 24, 25, 26, 27]), some (.inl (.inl (.inr (.ofNat 38)))), some (.inl (.inl (.inl (2, .ofNat 0)))), none], []), ([], []), (4, [(-1, 2)]))
theorem ks605 : aseg kS krf kB [kE542, kE543] (ksp []) kE605 [kC605_0] 30000 (none) = true := by decide +kernel
theorem ks605_0 : aseg kS krf kB [kE542, kE543] (ksp []) kE605 [kC605_0] 30000 (some kC605_0) = true := by decide +kernel
theorem kok605 : aOK kS krf kB kE605 := aOK_of (kal1 kok542 (kal1 kok543 kal0)) (kcl1 ks605_0 kcl0) ks605
/-- ColdShod$StrokePlan.addNext(LColdShod$Idea;I)V -/
def kE606 : aE := (83, 3, ([(.ofNat 0, .ofNat 3), (.ofNat 38, .ofNat 341)], [(57, 37, .inl (0, .ofNat 0)), (52, 6, .inl (1, .ofNat 0))], 0, [some (.inr [52]), some (.inr [20, 21, 22, 23, 24, 25, 26, 27]), some (.inl (.inl (.inr (.ofNat 37)))), none, none], []), ([], none), ([], [], none, ([], [])), ([(52, 6), (58, 0), (58, 1), (58, 2), (58, 3), (58, 4), (58, 5), (58, 6)], [54, 55, 56, 57]))
def kC606_0 : aC := (([(.ofNat 0, .ofNat 3), (.ofNat 38, .ofNat 341), (.ofNat 0, .ofNat 4), (.ofNat 38, .ofNat 341)], [(57, 37, .inl (0, .ofNat 0)), (52, 6, .inl (3, .ofNat 0))], 2, [some (.inr [52]), some (.inr [20, 21, 22, 23, 24, 25, 26, 27]), some (.inl (.inl (.inr (.ofNat 37)))), some (.inl (.inl (.inl (2, .ofNat 0)))), none], []), ([], []), (4, [(-1, 2)]))
theorem ks606 : aseg kS krf kB [kE542, kE543] (ksp []) kE606 [kC606_0] 30000 (none) = true := by decide +kernel
theorem ks606_0 : aseg kS krf kB [kE542, kE543] (ksp []) kE606 [kC606_0] 30000 (some kC606_0) = true := by decide +kernel
theorem kok606 : aOK kS krf kB kE606 := aOK_of (kal1 kok542 (kal1 kok543 kal0)) (kcl1 ks606_0 kcl0) ks606
/-- ColdShod$StrokePlan.addNext(LColdShod$Idea;I)V -/
def kE607 : aE := (83, 3, ([(.ofNat 0, .ofNat 3), (.ofNat 37, .ofNat 341)], [(57, 36, .inl (0, .ofNat 0)), (52, 6, .inl (1, .ofNat 0))], 0, [some (.inr [52]), some (.inr [20, 21, 22, 23, 24, 25, 26, 27]), some (.inl (.inl (.inr (.ofNat 36)))), none, none], []), ([], none), ([], [], none, ([], [])), ([(52, 6), (58, 0), (58, 1), (58, 2), (58, 3), (58, 4), (58, 5), (58, 6)], [54, 55, 56, 57]))
def kC607_0 : aC := (([(.ofNat 0, .ofNat 3), (.ofNat 37, .ofNat 341), (.ofNat 0, .ofNat 4), (.ofNat 37, .ofNat 341)], [(57, 36, .inl (0, .ofNat 0)), (52, 6, .inl (3, .ofNat 0))], 2, [some (.inr [52]), some (.inr [20, 21, 22, 23, 24, 25, 26, 27]), some (.inl (.inl (.inr (.ofNat 36)))), some (.inl (.inl (.inl (2, .ofNat 0)))), none], []), ([], []), (4, [(-1, 2)]))
theorem ks607 : aseg kS krf kB [kE542, kE543] (ksp []) kE607 [kC607_0] 30000 (none) = true := by decide +kernel
theorem ks607_0 : aseg kS krf kB [kE542, kE543] (ksp []) kE607 [kC607_0] 30000 (some kC607_0) = true := by decide +kernel
theorem kok607 : aOK kS krf kB kE607 := aOK_of (kal1 kok542 (kal1 kok543 kal0)) (kcl1 ks607_0 kcl0) ks607
/-- ColdShod$StrokePlan.addNext(LColdShod$Idea;I)V -/
def kE608 : aE := (83, 3, ([(.ofNat 0, .ofNat 3), (.ofNat 36, .ofNat 341)], [(57, 35, .inl (0, .ofNat 0)), (52, 6, .inl (1, .ofNat 0))], 0, [some (.inr [52]), some (.inr [20, 21, 22, 23, 24, 25, 26, 27]), some (.inl (.inl (.inr (.ofNat 35)))), none, none], []), ([], none), ([], [], none, ([], [])), ([(52, 6), (58, 0), (58, 1), (58, 2), (58, 3), (58, 4), (58, 5), (58, 6)], [54, 55, 56, 57]))
def kC608_0 : aC := (([(.ofNat 0, .ofNat 3), (.ofNat 36, .ofNat 341), (.ofNat 0, .ofNat 4), (.ofNat 36, .ofNat 341)], [(57, 35, .inl (0, .ofNat 0)), (52, 6, .inl (3, .ofNat 0))], 2, [some (.inr [52]), some (.inr [20, 21, 22, 23, 24, 25, 26, 27]), some (.inl (.inl (.inr (.ofNat 35)))), some (.inl (.inl (.inl (2, .ofNat 0)))), none], []), ([], []), (4, [(-1, 2)]))
theorem ks608 : aseg kS krf kB [kE542, kE543] (ksp []) kE608 [kC608_0] 30000 (none) = true := by decide +kernel
theorem ks608_0 : aseg kS krf kB [kE542, kE543] (ksp []) kE608 [kC608_0] 30000 (some kC608_0) = true := by decide +kernel
theorem kok608 : aOK kS krf kB kE608 := aOK_of (kal1 kok542 (kal1 kok543 kal0)) (kcl1 ks608_0 kcl0) ks608
/-- ColdShod$StrokePlan.addNext(LColdShod$Idea;I)V -/
def kE609 : aE := (83, 3, ([(.ofNat 0, .ofNat 3), (.ofNat 35, .ofNat 341)], [(57, 34, .inl (0, .ofNat 0)), (52, 6, .inl (1, .ofNat 0))], 0, [some (.inr [52]), some (.inr [20, 21, 22, 23, 24, 25, 26, 27]), some (.inl (.inl (.inr (.ofNat 34)))), none, none], []), ([], none), ([], [], none, ([], [])), ([(52, 6), (58, 0), (58, 1), (58, 2), (58, 3), (58, 4), (58, 5), (58, 6)], [54, 55, 56, 57]))
def kC609_0 : aC := (([(.ofNat 0, .ofNat 3), (.ofNat 35, .ofNat 341), (.ofNat 0, .ofNat 4), (.ofNat 35, .ofNat 341)], [(57, 34, .inl (0, .ofNat 0)), (52, 6, .inl (3, .ofNat 0))], 2, [some (.inr [52]), some (.inr [20, 21, 22, 23, 24, 25, 26, 27]), some (.inl (.inl (.inr (.ofNat 34)))), some (.inl (.inl (.inl (2, .ofNat 0)))), none], []), ([], []), (4, [(-1, 2)]))
theorem ks609 : aseg kS krf kB [kE542, kE543] (ksp []) kE609 [kC609_0] 30000 (none) = true := by decide +kernel
theorem ks609_0 : aseg kS krf kB [kE542, kE543] (ksp []) kE609 [kC609_0] 30000 (some kC609_0) = true := by decide +kernel
theorem kok609 : aOK kS krf kB kE609 := aOK_of (kal1 kok542 (kal1 kok543 kal0)) (kcl1 ks609_0 kcl0) ks609
/-- ColdShod$StrokePlan.addNext(LColdShod$Idea;I)V -/
def kE610 : aE := (83, 3, ([(.ofNat 0, .ofNat 3), (.ofNat 34, .ofNat 341)], [(57, 33, .inl (0, .ofNat 0)), (52, 6, .inl (1, .ofNat 0))], 0, [some (.inr [52]), some (.inr [20, 21, 22, 23, 24, 25, 26, 27]), some (.inl (.inl (.inr (.ofNat 33)))), none, none], []), ([], none), ([], [], none, ([], [])), ([(52, 6), (58, 0), (58, 1), (58, 2), (58, 3), (58, 4), (58, 5), (58, 6)], [54, 55, 56, 57]))
def kC610_0 : aC := (([(.ofNat 0, .ofNat 3), (.ofNat 34, .ofNat 341), (.ofNat 0, .ofNat 4), (.ofNat 34, .ofNat 341)], [(57, 33, .inl (0, .ofNat 0)), (52, 6, .inl (3, .ofNat 0))], 2, [some (.inr [52]), some (.inr [20, 21, 22, 23, 24, 25, 26, 27]), some (.inl (.inl (.inr (.ofNat 33)))), some (.inl (.inl (.inl (2, .ofNat 0)))), none], []), ([], []), (4, [(-1, 2)]))
theorem ks610 : aseg kS krf kB [kE542, kE543] (ksp []) kE610 [kC610_0] 30000 (none) = true := by decide +kernel
theorem ks610_0 : aseg kS krf kB [kE542, kE543] (ksp []) kE610 [kC610_0] 30000 (some kC610_0) = true := by decide +kernel
theorem kok610 : aOK kS krf kB kE610 := aOK_of (kal1 kok542 (kal1 kok543 kal0)) (kcl1 ks610_0 kcl0) ks610
/-- ColdShod$StrokePlan.addNext(LColdShod$Idea;I)V -/
def kE611 : aE := (83, 3, ([(.ofNat 0, .ofNat 3), (.ofNat 33, .ofNat 341)], [(57, 32, .inl (0, .ofNat 0)), (52, 6, .inl (1, .ofNat 0))], 0, [some (.inr [52]), some (.inr [20, 21, 22, 23, 24, 25, 26, 27]), some (.inl (.inl (.inr (.ofNat 32)))), none, none], []), ([], none), ([], [], none, ([], [])), ([(52, 6), (58, 0), (58, 1), (58, 2), (58, 3), (58, 4), (58, 5), (58, 6)], [54, 55, 56, 57]))
def kC611_0 : aC := (([(.ofNat 0, .ofNat 3), (.ofNat 33, .ofNat 341), (.ofNat 0, .ofNat 4), (.ofNat 33, .ofNat 341)], [(57, 32, .inl (0, .ofNat 0)), (52, 6, .inl (3, .ofNat 0))], 2, [some (.inr [52]), some (.inr [20, 21, 22, 23, 24, 25, 26, 27]), some (.inl (.inl (.inr (.ofNat 32)))), some (.inl (.inl (.inl (2, .ofNat 0)))), none], []), ([], []), (4, [(-1, 2)]))
theorem ks611 : aseg kS krf kB [kE542, kE543] (ksp []) kE611 [kC611_0] 30000 (none) = true := by decide +kernel
theorem ks611_0 : aseg kS krf kB [kE542, kE543] (ksp []) kE611 [kC611_0] 30000 (some kC611_0) = true := by decide +kernel
theorem kok611 : aOK kS krf kB kE611 := aOK_of (kal1 kok542 (kal1 kok543 kal0)) (kcl1 ks611_0 kcl0) ks611
