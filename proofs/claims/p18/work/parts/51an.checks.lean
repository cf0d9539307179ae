/-! ENTRIES and their checks: printed by a program (wip/ai). -/
/-- ColdShodModel.way(III)I -/
def kE560 : aE := (193, 54, ([(.negSucc 2147483647, .ofNat 2147483647), (.negSucc 2147483647, .ofNat 2147483647), (.negSucc 2147483647, .ofNat 2147483647)], [], 0, [some (.inr [102]), some (.inl (.inl (.inl (0, .ofNat 0)))), some (.inl (.inl (.inl (1, .ofNat 0)))), some (.inl (.inl (.inl (2, .ofNat 0))))], []), ([], none), ([(.negSucc 2147483647, .ofNat 2147483647)], [], some (.inl (.inl (.inl (3, .ofNat 0)))), ([], [])), ([(102, 15), (102, 16), (102, 17), (102, 18), (102, 19), (102, 22), (102, 23), (102, 29), (102, 30), (111, 0), (111, 1), (111, 2), (111, 3), (111, 4), (111, 5), (114, 0), (114, 1), (114, 2), (114, 3), (114, 4), (114, 5), (114, 6)], [112, 115]))
theorem ks560 : aseg kS krf kB [kE432, kE496, kE528, kE544, kE552, kE556, kE558, kE559] (ksp [(193, 0, 2, 0, 79, 9), (193, 99, 3, -2, 8, 0)]) kE560 [] 30000 (none) = true := by decide +kernel
theorem kok560 : aOK kS krf kB kE560 := aOK_of (kal1 kok432 (kal1 kok496 (kal1 kok528 (kal1 kok544 (kal1 kok552 (kal1 kok556 (kal1 kok558 (kal1 kok559 kal0)))))))) kcl0 ks560
/-- ColdShod$StrokePlan.stateOf(LColdShod$Idea;)I -/
def kE561 : aE := (86, 0, ([], [], 0, [some (.inr [20, 21, 22, 23, 24, 25, 26, 27])], []), ([], none), ([(.negSucc 2147483647, .ofNat 2147483647)], [], some (.inl (.inl (.inl (0, .ofNat 0)))), ([], [])), ([], []))
theorem ks561 : aseg kS krf kB [] (ksp []) kE561 [] 30000 (none) = true := by decide +kernel
theorem kok561 : aOK kS krf kB kE561 := aOK_of kal0 kcl0 ks561
/-- ColdShod$StrokePlan.recall(LColdShod$Idea;I)V -/
def kE562 : aE := (87, 2, ([(.negSucc 2147483647, .ofNat 2147483647)], [], 0, [some (.inr [52]), some (.inr [20, 21, 22, 23, 24, 25, 26, 27]), some (.inl (.inl (.inl (0, .ofNat 0))))], []), ([], none), ([], [], none, ([], [])), ([(58, 0), (58, 1), (58, 2), (58, 3), (58, 4), (58, 5), (58, 6)], []))
theorem ks562 : aseg kS krf kB [] (ksp []) kE562 [] 30000 (none) = true := by decide +kernel
theorem kok562 : aOK kS krf kB kE562 := aOK_of kal0 kcl0 ks562
/-- ColdShod$Country.wearOf(LColdShod$Idea;LColdShod$Road;)I -/
def kE563 : aE := (23, 2, ([], [], 0, [some (.inr [7]), some (.inr [58]), some (.inr [28, 29, 30, 31, 32, 33, 34, 35, 36, 37, 38, 39])], []), ([], none), ([(.ofNat 0, .ofNat 9)], [], some (.inl (.inl (.inl (0, .ofNat 0)))), ([], [])), ([(13, 0), (13, 1), (13, 2), (13, 3), (13, 4), (13, 5)], [16, 19]))
theorem ks563 : aseg kS krf kB [kE39] (ksp [(23, 0, 1, -1000, 1000, 0)]) kE563 [] 30000 (none) = true := by decide +kernel
theorem kok563 : aOK kS krf kB kE563 := aOK_of (kal1 kok39 kal0) kcl0 ks563
/-- ColdShod$Country.travel(LColdShod$Idea;LColdShod$Road;)I -/
def kE564 : aE := (24, 3, ([], [], 0, [some (.inr [7]), some (.inr [58]), some (.inr [28, 29, 30, 31, 32, 33, 34, 35, 36, 37, 38, 39]), none, none], []), ([], none), ([(.negSucc 1999999999, .ofNat 100000000)], [], some (.inl (.inl (.inl (0, .ofNat 0)))), ([], [])), ([(13, 0), (13, 1), (13, 2), (13, 3), (13, 4), (13, 5), (58, 2), (58, 3)], [16, 19]))
def kC564_0 : aC := (([(.ofNat 0, .ofNat 9), (.ofNat 1, .ofNat 100000001), (.negSucc 1999999999, .ofNat 99)], [(58, 2, .inl (2, .ofNat 0))], 20, [some (.inr [7]), some (.inr [58]), some (.inr [28, 29, 30, 31, 32, 33, 34, 35, 36, 37, 38, 39]), some (.inl (.inl (.inl (0, .ofNat 0)))), some (.inl (.inl (.inl (1, .ofNat 0))))], []), ([], []), (100000001, [(-1, 1)]))
theorem ks564 : aseg kS krf kB [kE563] (ksp []) kE564 [kC564_0] 30000 (none) = true := by decide +kernel
theorem ks564_0 : aseg kS krf kB [kE563] (ksp []) kE564 [kC564_0] 30000 (some kC564_0) = true := by decide +kernel
theorem kok564 : aOK kS krf kB kE564 := aOK_of (kal1 kok563 kal0) (kcl1 ks564_0 kcl0) ks564
/-- ColdShod$Journey.allGone(LColdShod$Idea;LColdShod$Country;)Z -/
def kE565 : aE := (49, 5, ([], [], 0, [some (.inr [50]), some (.inr [58]), some (.inr [7]), none], []), ([], none), ([(.ofNat 0, .ofNat 1)], [], some (.inl (.inl (.inl (0, .ofNat 0)))), ([], [])), ([(13, 0), (13, 1), (13, 2), (13, 3), (13, 4), (13, 5), (50, 2), (50, 3), (58, 2), (58, 3)], [16, 19]))
def kC565_0 : aC := (([(.ofNat 0, .ofNat 20)], [], 12, [some (.inr [50]), some (.inr [58]), some (.inr [7]), some (.inl (.inl (.inl (0, .ofNat 0))))], []), ([], []), (20, [(-1, 0)]))
theorem ks565 : aseg kS krf kB [kE564] (ksp []) kE565 [kC565_0] 30000 (none) = true := by decide +kernel
theorem ks565_0 : aseg kS krf kB [kE564] (ksp []) kE565 [kC565_0] 30000 (some kC565_0) = true := by decide +kernel
theorem kok565 : aOK kS krf kB kE565 := aOK_of (kal1 kok564 kal0) (kcl1 ks565_0 kcl0) ks565
/-- ColdShod$StrokePlan.tellPlan(I)I -/
def kE566 : aE := (85, 0, ([(.ofNat 0, .ofNat 340)], [], 0, [some (.inr [52]), some (.inl (.inl (.inl (0, .ofNat 0)))), none, none, none], []), ([], none), ([(.ofNat 0, .ofNat 4)], [], some (.inl (.inl (.inl (1, .ofNat 0)))), ([], [])), ([], [53]))
def kC566_0 : aC := (([(.ofNat 0, .ofNat 340), (.ofNat 0, .ofNat 4), (.ofNat 0, .ofNat 340), (.negSucc 0, .ofNat 3)], [], 14, [some (.inr [52]), some (.inl (.inl (.inl (0, .ofNat 0)))), some (.inl (.inl (.inl (1, .ofNat 0)))), some (.inl (.inl (.inl (2, .ofNat 0)))), some (.inl (.inl (.inl (3, .ofNat 0))))], []), ([], []), (1, [(1, 3)]))
theorem ks566 : aseg kS krf kB [] (ksp []) kE566 [kC566_0] 30000 (none) = true := by decide +kernel
theorem ks566_0 : aseg kS krf kB [] (ksp []) kE566 [kC566_0] 30000 (some kC566_0) = true := by decide +kernel
theorem kok566 : aOK kS krf kB kE566 := aOK_of kal0 (kcl1 ks566_0 kcl0) ks566
/-- ColdShod$Idea.strike(I)Z -/
def kE567 : aE := (43, 2, ([(.ofNat 0, .ofNat 3)], [], 0, [some (.inr [58]), some (.inl (.inl (.inl (0, .ofNat 0))))], []), ([], none), ([(.ofNat 0, .ofNat 1)], [], some (.inl (.inl (.inl (1, .ofNat 0)))), ([], [])), ([(58, 1), (58, 2), (58, 3), (58, 5)], []))
theorem ks567 : aseg kS krf kB [] (ksp []) kE567 [] 30000 (none) = true := by decide +kernel
theorem kok567 : aOK kS krf kB kE567 := aOK_of kal0 kcl0 ks567
/-- ColdShod$StrokePlan.stateOf(LColdShod$Idea;)I -/
def kE568 : aE := (86, 0, ([], [], 0, [some (.inr [58])], []), ([], none), ([(.negSucc 2147483647, .ofNat 2147483647)], [], some (.inl (.inl (.inl (0, .ofNat 0)))), ([], [])), ([], []))
theorem ks568 : aseg kS krf kB [] (ksp []) kE568 [] 30000 (none) = true := by decide +kernel
theorem kok568 : aOK kS krf kB kE568 := aOK_of kal0 kcl0 ks568
/-- ColdShod$StrokePlan.isFound(I)Z -/
def kE569 : aE := (84, 0, ([(.negSucc 2147483647, .ofNat 2147483647)], [], 0, [some (.inr [52]), some (.inl (.inl (.inl (0, .ofNat 0)))), none], []), ([], none), ([(.ofNat 0, .ofNat 1)], [], some (.inl (.inl (.inl (1, .ofNat 0)))), ([], [])), ([], []))
def kC569_0 : aC := (([(.negSucc 2147483647, .ofNat 2147483647), (.ofNat 0, .ofNat 341)], [], 2, [some (.inr [52]), some (.inl (.inl (.inl (0, .ofNat 0)))), some (.inl (.inl (.inl (1, .ofNat 0))))], []), ([], []), (341, [(-1, 1)]))
theorem ks569 : aseg kS krf kB [] (ksp []) kE569 [kC569_0] 30000 (none) = true := by decide +kernel
theorem ks569_0 : aseg kS krf kB [] (ksp []) kE569 [kC569_0] 30000 (some kC569_0) = true := by decide +kernel
theorem kok569 : aOK kS krf kB kE569 := aOK_of kal0 (kcl1 ks569_0 kcl0) ks569
/-- ColdShod$StrokePlan.addNext(LColdShod$Idea;I)V -/
def kE570 : aE := (83, 3, ([(.ofNat 0, .ofNat 3), (.ofNat 20, .ofNat 341)], [(57, 19, .inl (0, .ofNat 0)), (52, 6, .inl (1, .ofNat 0))], 0, [some (.inr [52]), some (.inr [20, 21, 22, 23, 24, 25, 26, 27]), some (.inl (.inl (.inr (.ofNat 19)))), none, none], []), ([], none), ([], [], none, ([], [])), ([(52, 6), (58, 0), (58, 1), (58, 2), (58, 3), (58, 4), (58, 5), (58, 6)], [54, 55, 56, 57]))
def kC570_0 : aC := (([(.ofNat 0, .ofNat 3), (.ofNat 20, .ofNat 341), (.ofNat 0, .ofNat 4), (.ofNat 20, .ofNat 341)], [(57, 19, .inl (0, .ofNat 0)), (52, 6, .inl (3, .ofNat 0))], 2, [some (.inr [52]), some (.inr [20, 21, 22, 23, 24, 25, 26, 27]), some (.inl (.inl (.inr (.ofNat 19)))), some (.inl (.inl (.inl (2, .ofNat 0)))), none], []), ([], []), (4, [(-1, 2)]))
theorem ks570 : aseg kS krf kB [kE562, kE567, kE568, kE569] (ksp []) kE570 [kC570_0] 30000 (none) = true := by decide +kernel
theorem ks570_0 : aseg kS krf kB [kE562, kE567, kE568, kE569] (ksp []) kE570 [kC570_0] 30000 (some kC570_0) = true := by decide +kernel
theorem kok570 : aOK kS krf kB kE570 := aOK_of (kal1 kok562 (kal1 kok567 (kal1 kok568 (kal1 kok569 kal0)))) (kcl1 ks570_0 kcl0) ks570
/-- ColdShod$StrokePlan.addNext(LColdShod$Idea;I)V -/
def kE571 : aE := (83, 3, ([(.ofNat 0, .ofNat 3), (.ofNat 19, .ofNat 341)], [(57, 18, .inl (0, .ofNat 0)), (52, 6, .inl (1, .ofNat 0))], 0, [some (.inr [52]), some (.inr [20, 21, 22, 23, 24, 25, 26, 27]), some (.inl (.inl (.inr (.ofNat 18)))), none, none], []), ([], none), ([], [], none, ([], [])), ([(52, 6), (58, 0), (58, 1), (58, 2), (58, 3), (58, 4), (58, 5), (58, 6)], [54, 55, 56, 57]))
def kC571_0 : aC := (([(.ofNat 0, .ofNat 3), (.ofNat 19, .ofNat 341), (.ofNat 0, .ofNat 4), (.ofNat 19, .ofNat 341)], [(57, 18, .inl (0, .ofNat 0)), (52, 6, .inl (3, .ofNat 0))], 2, [some (.inr [52]), some (.inr [20, 21, 22, 23, 24, 25, 26, 27]), some (.inl (.inl (.inr (.ofNat 18)))), some (.inl (.inl (.inl (2, .ofNat 0)))), none], []), ([], []), (4, [(-1, 2)]))
theorem ks571 : aseg kS krf kB [kE562, kE567, kE568, kE569] (ksp []) kE571 [kC571_0] 30000 (none) = true := by decide +kernel
theorem ks571_0 : aseg kS krf kB [kE562, kE567, kE568, kE569] (ksp []) kE571 [kC571_0] 30000 (some kC571_0) = true := by decide +kernel
theorem kok571 : aOK kS krf kB kE571 := aOK_of (kal1 kok562 (kal1 kok567 (kal1 kok568 (kal1 kok569 kal0)))) (kcl1 ks571_0 kcl0) ks571
/-- ColdShod$StrokePlan.addNext(LColdShod$Idea;I)V -/
def kE572 : aE := (83, 3, ([(.ofNat 0, .ofNat 3), (.ofNat 18, .ofNat 341)], [(57, 17, .inl (0, .ofNat 0)), (52, 6, .inl (1, .ofNat 0))], 0, [some (.inr [52]), some (.inr [20, 21, 22, 23, 24, 25, 26, 27]), some (.inl (.inl (.inr (.ofNat 17)))), none, none], []), ([], none), ([], [], none, ([], [])), ([(52, 6), (58, 0), (58, 1), (58, 2), (58, 3), (58, 4), (58, 5), (58, 6)], [54, 55, 56, 57]))
def kC572_0 : aC := (([(.ofNat 0, .ofNat 3), (.ofNat 18, .ofNat 341), (.ofNat 0, .ofNat 4), (.ofNat 18, .ofNat 341)], [(57, 17, .inl (0, .ofNat 0)), (52, 6, .inl (3, .ofNat 0))], 2, [some (.inr [52]), some (.inr [20, 21, 22, 23, 24, 25, 26, 27]), some (.inl (.inl (.inr (.ofNat 17)))), some (.inl (.inl (.inl (2, .ofNat 0)))), none], []), ([], []), (4, [(-1, 2)]))
theorem ks572 : aseg kS krf kB [kE562, kE567, kE568, kE569] (ksp []) kE572 [kC572_0] 30000 (none) = true := by decide +kernel
theorem ks572_0 : aseg kS krf kB [kE562, kE567, kE568, kE569] (ksp []) kE572 [kC572_0] 30000 (some kC572_0) = true := by decide +kernel
theorem kok572 : aOK kS krf kB kE572 := aOK_of (kal1 kok562 (kal1 kok567 (kal1 kok568 (kal1 kok569 kal0)))) (kcl1 ks572_0 kcl0) ks572
/-- ColdShod$StrokePlan.addNext(LColdShod$Idea;I)V -/
def kE573 : aE := (83, 3, ([(.ofNat 0, .ofNat 3), (.ofNat 17, .ofNat 341)], [(57, 16, .inl (0, .ofNat 0)), (52, 6, .inl (1, .ofNat 0))], 0, [some (.inr [52]), some (.inr [20, 21, 22, 23, 24, 25, 26, 27]), some (.inl (.inl (.inr (.ofNat 16)))), none, none], []), ([], none), ([], [], none, ([], [])), ([(52, 6), (58, 0), (58, 1), (58, 2), (58, 3), (58, 4), (58, 5), (58, 6)], [54, 55, 56, 57]))
def kC573_0 : aC := (([(.ofNat 0, .ofNat 3), (.ofNat 17, .ofNat 341), (.ofNat 0, .ofNat 4), (.ofNat 17, .ofNat 341)], [(57, 16, .inl (0, .ofNat 0)), (52, 6, .inl (3, .ofNat 0))], 2, [some (.inr [52]), some (.inr [20, 21, 22, 23, 24, 25, 26, 27]), some (.inl (.inl (.inr (.ofNat 16)))), some (.inl (.inl (.inl (2, .ofNat 0)))), none], []), ([], []), (4, [(-1, 2)]))
theorem ks573 : aseg kS krf kB [kE562, kE567, kE568, kE569] (ksp []) kE573 [kC573_0] 30000 (none) = true := by decide +kernel
theorem ks573_0 : aseg kS krf kB [kE562, kE567, kE568, kE569] (ksp []) kE573 [kC573_0] 30000 (some kC573_0) = true := by decide +kernel
theorem kok573 : aOK kS krf kB kE573 := aOK_of (kal1 kok562 (kal1 kok567 (kal1 kok568 (kal1 kok569 kal0)))) (kcl1 ks573_0 kcl0) ks573
/-- ColdShod$StrokePlan.addNext(LColdShod$Idea;I)V -/
def kE574 : aE := (83, 3, ([(.ofNat 0, .ofNat 3), (.ofNat 16, .ofNat 341)], [(57, 15, .inl (0, .ofNat 0)), (52, 6, .inl (1, .ofNat 0))], 0, [some (.inr [52]), some (.inr [20, 21, 22, 23, 24, 25, 26, 27]), some (.inl (.inl (.inr (.ofNat 15)))), none, none], []), ([], none), ([], [], none, ([], [])), ([(52, 6), (58, 0), (58, 1), (58, 2), (58, 3), (58, 4), (58, 5), (58, 6)], [54, 55, 56, 57]))
def kC574_0 : aC := (([(.ofNat 0, .ofNat 3), (.ofNat 16, .ofNat 341), (.ofNat 0, .ofNat 4), (.ofNat 16, .ofNat 341)], [(57, 15, .inl (0, .ofNat 0)), (52, 6, .inl (3, .ofNat 0))], 2, [some (.inr [52]), some (.inr [20, 21, 22, 23, 24, 25, 26, 27]), some (.inl (.inl (.inr (.ofNat 15)))), some (.inl (.inl (.inl (2, .ofNat 0)))), none], []), ([], []), (4, [(-1, 2)]))
theorem ks574 : aseg kS krf kB [kE562, kE567, kE568, kE569] (ksp []) kE574 [kC574_0] 30000 (none) = true := by decide +kernel
theorem ks574_0 : aseg kS krf kB [kE562, kE567, kE568, kE569] (ksp []) kE574 [kC574_0] 30000 (some kC574_0) = true := by decide +kernel
theorem kok574 : aOK kS krf kB kE574 := aOK_of (kal1 kok562 (kal1 kok567 (kal1 kok568 (kal1 kok569 kal0)))) (kcl1 ks574_0 kcl0) ks574
/-- ColdShod$StrokePlan.addNext(LColdShod$Idea;I)V -/
def kE575 : aE := (83, 3, ([(.ofNat 0, .ofNat 3), (.ofNat 15, .ofNat 341)], [(57, 14, .inl (0, .ofNat 0)), (52, 6, .inl (1, .ofNat 0))], 0, [some (.inr [52]), some (.inr [20, 21, 22, 23, 24, 25, 26, 27]), some (.inl (.inl (.inr (.ofNat 14)))), none, none], []), ([], none), ([], [], none, ([], [])), ([(52, 6), (58, 0), (58, 1), (58, 2), (58, 3), (58, 4), (58, 5), (58, 6)], [54, 55, 56, 57]))
def kC575_0 : aC := (([(.ofNat 0, .ofNat 3), (.ofNat 15, .ofNat 341), (.ofNat 0, .ofNat 4), (.ofNat 15, .ofNat 341)], [(57, 14, .inl (0, .ofNat 0)), (52, 6, .inl (3, .ofNat 0))], 2, [some (.inr [52]), some (.inr [20, 21, 22, 23, 24, 25, 26, 27]), some (.inl (.inl (.inr (.ofNat 14)))), some (.inl (.inl (.inl (2, .ofNat 0)))), none], []), ([], []), (4, [(-1, 2)]))
theorem ks575 : aseg kS krf kB [kE562, kE567, kE568, kE569] (ksp []) kE575 [kC575_0] 30000 (none) = true := by decide +kernel
theorem ks575_0 : aseg kS krf kB [kE562, kE567, kE568, kE569] (ksp []) kE575 [kC575_0] 30000 (some kC575_0) = true := by decide +kernel
theorem kok575 : aOK kS krf kB kE575 := aOK_of (kal1 kok562 (kal1 kok567 (kal1 kok568 (kal1 kok569 kal0)))) (kcl1 ks575_0 kcl0) ks575
/-- ColdShod$StrokePlan.addNext(LColdShod$Idea;I)V -/
def kE576 : aE := (83, 3, ([(.ofNat 0, .ofNat 3), (.ofNat 14, .ofNat 341)], [(57, 13, .inl (0, .ofNat 0)), (52, 6, .inl (1, .ofNat 0))], 0, [some (.inr [52]), some (.inr [20, 21, 22, 23, 24, 25, 26, 27]), some (.inl (.inl (.inr (.ofNat 13)))), none, none], []), ([], none), ([], [], none, ([], [])), ([(52, 6), (58, 0), (58, 1), (58, 2), (58, 3), (58, 4), (58, 5), (58, 6)], [54, 55, 56, 57]))
def kC576_0 : aC := (([(.ofNat 0, .ofNat 3), (.ofNat 14, .ofNat 341), (.ofNat 0, .ofNat 4), (.ofNat 14, .ofNat 341)], [(57, 13, .inl (0, .ofNat 0)), (52, 6, .inl (3, .ofNat 0))], 2, [some (.inr [52]), some (.inr [20, 21, 22, 23, 24, 25, 26, 27]), some (.inl (.inl (.inr (.ofNat 13)))), some (.inl (.inl (.inl (2, .ofNat 0)))), none], []), ([], []), (4, [(-1, 2)]))
theorem ks576 : aseg kS krf kB [kE562, kE567, kE568, kE569] (ksp []) kE576 [kC576_0] 30000 (none) = true := by decide +kernel
theorem ks576_0 : aseg kS krf kB [kE562, kE567, kE568, kE569] (ksp []) kE576 [kC576_0] 30000 (some kC576_0) = true := by decide +kernel
theorem kok576 : aOK kS krf kB kE576 := aOK_of (kal1 kok562 (kal1 kok567 (kal1 kok568 (kal1 kok569 kal0)))) (kcl1 ks576_0 kcl0) ks576
/-- ColdShod$StrokePlan.addNext(LColdShod$Idea;I)V -/
def kE577 : aE := (83, 3, ([(.ofNat 0, .ofNat 3), (.ofNat 13, .ofNat 341)], [(57, 12, .inl (0, .ofNat 0)), (52, 6, .inl (1, .ofNat 0))], 0, [some (.inr [52]), some (.inr [20, 21, 22, 23, 24, 25, 26, 27]), some (.inl (.inl (.inr (.ofNat 12)))), none, none], []), ([], none), ([], [], none, ([], [])), ([(52, 6), (58, 0), (58, 1), (58, 2), (58, 3), (58, 4), (58, 5), (58, 6)], [54, 55, 56, 57]))
def kC577_0 : aC := (([(.ofNat 0, .ofNat 3), (.ofNat 13, .ofNat 341), (.ofNat 0, .ofNat 4), (.ofNat 13, .ofNat 341)], [(57, 12, .inl (0, .ofNat 0)), (52, 6, .inl (3, .ofNat 0))], 2, [some (.inr [52]), some (.inr [20, 21, 22, 23, 24, 25, 26, 27]), some (.inl (.inl (.inr (.ofNat 12)))), some (.inl (.inl (.inl (2, .ofNat 0)))), none], []), ([], []), (4, [(-1, 2)]))
theorem ks577 : aseg kS krf kB [kE562, kE567, kE568, kE569] (ksp []) kE577 [kC577_0] 30000 (none) = true := by decide +kernel
theorem ks577_0 : aseg kS krf kB [kE562, kE567, kE568, kE569] (ksp []) kE577 [kC577_0] 30000 (some kC577_0) = true := by decide +kernel
theorem kok577 : aOK kS krf kB kE577 := aOK_of (kal1 kok562 (kal1 kok567 (kal1 kok568 (kal1 kok569 kal0)))) (kcl1 ks577_0 kcl0) ks577
/-- ColdShod$StrokePlan.addNext(LColdShod$Idea;I)V -/
def kE578 : aE := (83, 3, ([(.ofNat 0, .ofNat 3), (.ofNat 12, .ofNat 341)], [(57, 11, .inl (0, .ofNat 0)), (52, 6, .inl (1, .ofNat 0))], 0, [some (.inr [52]), some (.inr [20, 21, 22, 23, 24, 25, 26, 27]), some (.inl (.inl (.inr (.ofNat 11)))), none, none], []), ([], none), ([], [], none, ([], [])), ([(52, 6), (58, 0), (58, 1), (58, 2), (58, 3), (58, 4), (58, 5), (58, 6)], [54, 55, 56, 57]))
def kC578_0 : aC := (([(.ofNat 0, .ofNat 3), (.ofNat 12, .ofNat 341), (.ofNat 0, .ofNat 4), (.ofNat 12, .ofNat 341)], [(57, 11, .inl (0, .ofNat 0)), (52, 6, .inl (3, .ofNat 0))], 2, [some (.inr [52]), some (.inr [20, 21, 22, 23, 24, 25, 26, 27]), some (.inl (.inl (.inr (.ofNat 11)))), some (.inl (.inl (.inl (2, .ofNat 0)))), none], []), ([], []), (4, [(-1, 2)]))
theorem ks578 : aseg kS krf kB [kE562, kE567, kE568, kE569] (ksp []) kE578 [kC578_0] 30000 (none) = true := by decide +kernel
theorem ks578_0 : aseg kS krf kB [kE562, kE567, kE568, kE569] (ksp []) kE578 [kC578_0] 30000 (some kC578_0) = true := by decide +kernel
theorem kok578 : aOK kS krf kB kE578 := aOK_of (kal1 kok562 (kal1 kok567 (kal1 kok568 (kal1 kok569 kal0)))) (kcl1 ks578_0 kcl0) ks578
/-- ColdShod$StrokePlan.addNext(LColdShod$Idea;I)V -/
def kE579 : aE := (83, 3, ([(.ofNat 0, .ofNat 3), (.ofNat 11, .ofNat 341)], [(57, 10, .inl (0, .ofNat 0)), (52, 6, .inl (1, .ofNat 0))], 0, [some (.inr [52]), some (.inr [20, 21, 22, 23, 24, 25, 26, 27]), some (.inl (.inl (.inr (.ofNat 10)))), none, none], []), ([], none), ([], [], none, ([], [])), ([(52, 6), (58, 0), (58, 1), (58, 2), (58, 3), (58, 4), (58, 5), (58, 6)], [54, 55, 56, 57]))
def kC579_0 : aC := (([(.ofNat 0, .ofNat 3), (.ofNat 11, .ofNat 341), (.ofNat 0, .ofNat 4), (.ofNat 11, .ofNat 341)], [(57, 10, .inl (0, .ofNat 0)), (52, 6, .inl (3, .ofNat 0))], 2, [some (.inr [52]), some (.inr [20, 21, 22, 23, 24, 25, 26, 27]), some (.inl (.inl (.inr (.ofNat 10)))), some (.inl (.inl (.inl (2, .ofNat 0)))), none], []), ([], []), (4, [(-1, 2)]))
theorem ks579 : aseg kS krf kB [kE562, kE567, kE568, kE569] (ksp []) kE579 [kC579_0] 30000 (none) = true := by decide +kernel
theorem ks579_0 : aseg kS krf kB [kE562, kE567, kE568, kE569] (ksp []) kE579 [kC579_0] 30000 (some kC579_0) = true := by decide +kernel
theorem kok579 : aOK kS krf kB kE579 := aOK_of (kal1 kok562 (kal1 kok567 (kal1 kok568 (kal1 kok569 kal0)))) (kcl1 ks579_0 kcl0) ks579
/-- ColdShod$StrokePlan.addNext(LColdShod$Idea;I)V -/
def kE580 : aE := (83, 3, ([(.ofNat 0, .ofNat 3), (.ofNat 10, .ofNat 341)], [(57, 9, .inl (0, .ofNat 0)), (52, 6, .inl (1, .ofNat 0))], 0, [some (.inr [52]), some (.inr [20, 21, 22, 23, 24, 25, 26, 27]), some (.inl (.inl (.inr (.ofNat 9)))), none, none], []), ([], none), ([], [], none, ([], [])), ([(52, 6), (58, 0), (58, 1), (58, 2), (58, 3), (58, 4), (58, 5), (58, 6)], [54, 55, 56, 57]))
def kC580_0 : aC := (([(.ofNat 0, .ofNat 3), (.ofNat 10, .ofNat 341), (.ofNat 0, .ofNat 4), (.ofNat 10, .ofNat 341)], [(57, 9, .inl (0, .ofNat 0)), (52, 6, .inl (3, .ofNat 0))], 2, [some (.inr [52]), some (.inr [20, 21, 22, 23, 24, 25, 26, 27]), some (.inl (.inl (.inr (.ofNat 9)))), some (.inl (.inl (.inl (2, .ofNat 0)))), none], []), ([], []), (4, [(-1, 2)]))
theorem ks580 : aseg kS krf kB [kE562, kE567, kE568, kE569] (ksp []) kE580 [kC580_0] 30000 (none) = true := by decide +kernel
theorem ks580_0 : aseg kS krf kB [kE562, kE567, kE568, kE569] (ksp []) kE580 [kC580_0] 30000 (some kC580_0) = true := by decide +kernel
theorem kok580 : aOK kS krf kB kE580 := aOK_of (kal1 kok562 (kal1 kok567 (kal1 kok568 (kal1 kok569 kal0)))) (kcl1 ks580_0 kcl0) ks580
/-- ColdShod$StrokePlan.addNext(LColdShod$Idea;I)V -/
def kE581 : aE := (83, 3, ([(.ofNat 0, .ofNat 3), (.ofNat 9, .ofNat 341)], [(57, 8, .inl (0, .ofNat 0)), (52, 6, .inl (1, .ofNat 0))], 0, [some (.inr [52]), some (.inr [20, 21, 22, 23, 24, 25, 26, 27]), some (.inl (.inl (.inr (.ofNat 8)))), none, none], []), ([], none), ([], [], none, ([], [])), ([(52, 6), (58, 0), (58, 1), (58, 2), (58, 3), (58, 4), (58, 5), (58, 6)], [54, 55, 56, 57]))
def kC581_0 : aC := (([(.ofNat 0, .ofNat 3), (.ofNat 9, .ofNat 341), (.ofNat 0, .ofNat 4), (.ofNat 9, .ofNat 341)], [(57, 8, .inl (0, .ofNat 0)), (52, 6, .inl (3, .ofNat 0))], 2, [some (.inr [52]), some (.inr [20, 21, 22, 23, 24, 25, 26, 27]), some (.inl (.inl (.inr (.ofNat 8)))), some (.inl (.inl (.inl (2, .ofNat 0)))), none], []), ([], []), (4, [(-1, 2)]))
theorem ks581 : aseg kS krf kB [kE562, kE567, kE568, kE569] (ksp []) kE581 [kC581_0] 30000 (none) = true := by decide +kernel
theorem ks581_0 : aseg kS krf kB [kE562, kE567, kE568, kE569] (ksp []) kE581 [kC581_0] 30000 (some kC581_0) = true := by decide +kernel
theorem kok581 : aOK kS krf kB kE581 := aOK_of (kal1 kok562 (kal1 kok567 (kal1 kok568 (kal1 kok569 kal0)))) (kcl1 ks581_0 kcl0) ks581
/-- ColdShod$StrokePlan.addNext(LColdShod$Idea;I)V -/
def kE582 : aE := (83, 3, ([(.ofNat 0, .ofNat 3), (.ofNat 8, .ofNat 341)], [(57, 7, .inl (0, .ofNat 0)), (52, 6, .inl (1, .ofNat 0))], 0, [some (.inr [52]), some (.inr [20, 21, 22, 23, 24, 25, 26, 27]), some (.inl (.inl (.inr (.ofNat 7)))), none, none], []), ([], none), ([], [], none, ([], [])), ([(52, 6), (58, 0), (58, 1), (58, 2), (58, 3), (58, 4), (58, 5), (58, 6)], [54, 55, 56, 57]))
def kC582_0 : aC := (([(.ofNat 0, .ofNat 3), (.ofNat 8, .ofNat 341), (.ofNat 0, .ofNat 4), (.ofNat 8, .ofNat 341)], [(57, 7, .inl (0, .ofNat 0)), (52, 6, .inl (3, .ofNat 0))], 2, [some (.inr [52]), some (.inr [20, 21, 22, 23, 24, 25, 26, 27]), some (.inl (.inl (.inr (.ofNat 7)))), some (.inl (.inl (.inl (2, .ofNat 0)))), none], []), ([], []), (4, [(-1, 2)]))
theorem ks582 : aseg kS krf kB [kE562, kE567, kE568, kE569] (ksp []) kE582 [kC582_0] 30000 (none) = true := by decide +kernel
theorem ks582_0 : aseg kS krf kB [kE562, kE567, kE568, kE569] (ksp []) kE582 [kC582_0] 30000 (some kC582_0) = true := by decide +kernel
theorem kok582 : aOK kS krf kB kE582 := aOK_of (kal1 kok562 (kal1 kok567 (kal1 kok568 (kal1 kok569 kal0)))) (kcl1 ks582_0 kcl0) ks582
/-- ColdShod$StrokePlan.addNext(LColdShod$Idea;I)V -/
def kE583 : aE := (83, 3, ([(.ofNat 0, .ofNat 3), (.ofNat 7, .ofNat 341)], [(57, 6, .inl (0, .ofNat 0)), (52, 6, .inl (1, .ofNat 0))], 0, [some (.inr [52]), some (.inr [20, 21, 22, 23, 24, 25, 26, 27]), some (.inl (.inl (.inr (.ofNat 6)))), none, none], []), ([], none), ([], [], none, ([], [])), ([(52, 6), (58, 0), (58, 1), (58, 2), (58, 3), (58, 4), (58, 5), (58, 6)], [54, 55, 56, 57]))
def kC583_0 : aC := (([(.ofNat 0, .ofNat 3), (.ofNat 7, .ofNat 341), (.ofNat 0, .ofNat 4), (.ofNat 7, .ofNat 341)], [(57, 6, .inl (0, .ofNat 0)), (52, 6, .inl (3, .ofNat 0))], 2, [some (.inr [52]), some (.inr [20, 21, 22, 23, 24, 25, 26, 27]), some (.inl (.inl (.inr (.ofNat 6)))), some (.inl (.inl (.inl (2, .ofNat 0)))), none], []), ([], []), (4, [(-1, 2)]))
theorem ks583 : aseg kS krf kB [kE562, kE567, kE568, kE569] (ksp []) kE583 [kC583_0] 30000 (none) = true := by decide +kernel
theorem ks583_0 : aseg kS krf kB [kE562, kE567, kE568, kE569] (ksp []) kE583 [kC583_0] 30000 (some kC583_0) = true := by decide +kernel
theorem kok583 : aOK kS krf kB kE583 := aOK_of (kal1 kok562 (kal1 kok567 (kal1 kok568 (kal1 kok569 kal0)))) (kcl1 ks583_0 kcl0) ks583
/-- ColdShod$StrokePlan.addNext(LColdShod$Idea;I)V -/
def kE584 : aE := (83, 3, ([(.ofNat 0, .ofNat 3), (.ofNat 6, .ofNat 341)], [(57, 5, .inl (0, .ofNat 0)), (52, 6, .inl (1, .ofNat 0))], 0, [some (.inr [52]), some (.inr [20, 21, 22, 23, 24, 25, 26, 27]), some (.inl (.inl (.inr (.ofNat 5)))), none, none], []), ([], none), ([], [], none, ([], [])), ([(52, 6), (58, 0), (58, 1), (58, 2), (58, 3), (58, 4), (58, 5), (58, 6)], [54, 55, 56, 57]))
def kC584_0 : aC := (([(.ofNat 0, .ofNat 3), (.ofNat 6, .ofNat 341), (.ofNat 0, .ofNat 4), (.ofNat 6, .ofNat 341)], [(57, 5, .inl (0, .ofNat 0)), (52, 6, .inl (3, .ofNat 0))], 2, [some (.inr [52]), some (.inr [20, 21, 22, 23, 24, 25, 26, 27]), some (.inl (.inl (.inr (.ofNat 5)))), some (.inl (.inl (.inl (2, .ofNat 0)))), none], []), ([], []), (4, [(-1, 2)]))
theorem ks584 : aseg kS krf kB [kE562, kE567, kE568, kE569] (ksp []) kE584 [kC584_0] 30000 (none) = true := by decide +kernel
theorem ks584_0 : aseg kS krf kB [kE562, kE567, kE568, kE569] (ksp []) kE584 [kC584_0] 30000 (some kC584_0) = true := by decide +kernel
theorem kok584 : aOK kS krf kB kE584 := aOK_of (kal1 kok562 (kal1 kok567 (kal1 kok568 (kal1 kok569 kal0)))) (kcl1 ks584_0 kcl0) ks584
/-- ColdShod$StrokePlan.addNext(LColdShod$Idea;I)V -/
def kE585 : aE := (83, 3, ([(.ofNat 0, .ofNat 3), (.ofNat 5, .ofNat 341)], [(57, 4, .inl (0, .ofNat 0)), (52, 6, .inl (1, .ofNat 0))], 0, [some (.inr [52]), some (.inr [20, 21, 22, 23, 24, 25, 26, 27]), some (.inl (.inl (.inr (.ofNat 4)))), none, none], []), ([], none), ([], [], none, ([], [])), ([(52, 6), (58, 0), (58, 1), (58, 2), (58, 3), (58, 4), (58, 5), (58, 6)], [54, 55, 56, 57]))
def kC585_0 : aC := (([(.ofNat 0, .ofNat 3), (.ofNat 5, .ofNat 341), (.ofNat 0, .ofNat 4), (.ofNat 5, .ofNat 341)], [(57, 4, .inl (0, .ofNat 0)), (52, 6, .inl (3, .ofNat 0))], 2, [some (.inr [52]), some (.inr [20, 21, 22, 23, 24, 25, 26, 27]), some (.inl (.inl (.inr (.ofNat 4)))), some (.inl (.inl (.inl (2, .ofNat 0)))), none], []), ([], []), (4, [(-1, 2)]))
theorem ks585 : aseg kS krf kB [kE562, kE567, kE568, kE569] (ksp []) kE585 [kC585_0] 30000 (none) = true := by decide +kernel
theorem ks585_0 : aseg kS krf kB [kE562, kE567, kE568, kE569] (ksp []) kE585 [kC585_0] 30000 (some kC585_0) = true := by decide +kernel
theorem kok585 : aOK kS krf kB kE585 := aOK_of (kal1 kok562 (kal1 kok567 (kal1 kok568 (kal1 kok569 kal0)))) (kcl1 ks585_0 kcl0) ks585
/-- ColdShod$StrokePlan.addNext(LColdShod$Idea;I)V -/
def kE586 : aE := (83, 3, ([(.ofNat 0, .ofNat 3), (.ofNat 4, .ofNat 341)], [(57, 3, .inl (0, .ofNat 0)), (52, 6, .inl (1, .ofNat 0))], 0, [some (.inr [52]), some (.inr [20, 21, 22, 23, 24, 25, 26, 27]), some (.inl (.inl (.inr (.ofNat 3)))), none, none], []), ([], none), ([], [], none, ([], [])), ([(52, 6), (58, 0), (58, 1), (58, 2), (58, 3), (58, 4), (58, 5), (58, 6)], [54, 55, 56, 57]))
def kC586_0 : aC := (([(.ofNat 0, .ofNat 3), (.ofNat 4, .ofNat 341), (.ofNat 0, .ofNat 4), (.ofNat 4, .ofNat 341)], [(57, 3, .inl (0, .ofNat 0)), (52, 6, .inl (3, .ofNat 0))], 2, [some (.inr [52]), some (.inr [20, 21, 22, 23, 24, 25, 26, 27]), some (.inl (.inl (.inr (.ofNat 3)))), some (.inl (.inl (.inl (2, .ofNat 0)))), none], []), ([], []), (4, [(-1, 2)]))
theorem ks586 : aseg kS krf kB [kE562, kE567, kE568, kE569] (ksp []) kE586 [kC586_0] 30000 (none) = true := by decide +kernel
theorem ks586_0 : aseg kS krf kB [kE562, kE567, kE568, kE569] (ksp []) kE586 [kC586_0] 30000 (some kC586_0) = true := by decide +kernel
theorem kok586 : aOK kS krf kB kE586 := aOK_of (kal1 kok562 (kal1 kok567 (kal1 kok568 (kal1 kok569 kal0)))) (kcl1 ks586_0 kcl0) ks586
/-- ColdShod$StrokePlan.addNext(LColdShod$Idea;I)V -/
def kE587 : aE := (83, 3, ([(.ofNat 0, .ofNat 3), (.ofNat 3, .ofNat 341)], [(57, 2, .inl (0, .ofNat 0)), (52, 6, .inl (1, .ofNat 0))], 0, [some (.inr [52]), some (.inr [20, 21, 22, 23, 24, 25, 26, 27]), some (.inl (.inl (.inr (.ofNat 2)))), none, none], []), ([], none), ([], [], none, ([], [])), ([(52, 6), (58, 0), (58, 1), (58, 2), (58, 3), (58, 4), (58, 5), (58, 6)], [54, 55, 56, 57]))
def kC587_0 : aC := (([(.ofNat 0, .ofNat 3), (.ofNat 3, .ofNat 341), (.ofNat 0, .ofNat 4), (.ofNat 3, .ofNat 341)], [(57, 2, .inl (0, .ofNat 0)), (52, 6, .inl (3, .ofNat 0))], 2, [some (.inr [52]), some (.inr [20, 21, 22, 23, 24, 25, 26, 27]), some (.inl (.inl (.inr (.ofNat 2)))), some (.inl (.inl (.inl (2, .ofNat 0)))), none], []), ([], []), (4, [(-1, 2)]))
theorem ks587 : aseg kS krf kB [kE562, kE567, kE568, kE569] (ksp []) kE587 [kC587_0] 30000 (none) = true := by decide +kernel
theorem ks587_0 : aseg kS krf kB [kE562, kE567, kE568, kE569] (ksp []) kE587 [kC587_0] 30000 (some kC587_0) = true := by decide +kernel
theorem kok587 : aOK kS krf kB kE587 := aOK_of (kal1 kok562 (kal1 kok567 (kal1 kok568 (kal1 kok569 kal0)))) (kcl1 ks587_0 kcl0) ks587
/-- ColdShod$StrokePlan.addNext(LColdShod$Idea;I)V -/
def kE588 : aE := (83, 3, ([(.ofNat 0, .ofNat 3), (.ofNat 2, .ofNat 341)], [(57, 1, .inl (0, .ofNat 0)), (52, 6, .inl (1, .ofNat 0))], 0, [some (.inr [52]), some (.inr [20, 21, 22, 23, 24, 25, 26, 27]), some (.inl (.inl (.inr (.ofNat 1)))), none, none], []), ([], none), ([], [], none, ([], [])), ([(52, 6), (58, 0), (58, 1), (58, 2), (58, 3), (58, 4), (58, 5), (58, 6)], [54, 55, 56, 57]))
def kC588_0 : aC := (([(.ofNat 0, .ofNat 3), (.ofNat 2, .ofNat 341), (.ofNat 0, .ofNat 4), (.ofNat 2, .ofNat 341)], [(57, 1, .inl (0, .ofNat 0)), (52, 6, .inl (3, .ofNat 0))], 2, [some (.inr [52]), some (.inr [20, 21, 22, 23, 24, 25, 26, 27]), some (.inl (.inl (.inr (.ofNat 1)))), some (.inl (.inl (.inl (2, .ofNat 0)))), none], []), ([], []), (4, [(-1, 2)]))
theorem ks588 : aseg kS krf kB [kE562, kE567, kE568, kE569] (ksp []) kE588 [kC588_0] 30000 (none) = true := by decide +kernel
theorem ks588_0 : aseg kS krf kB [kE562, kE567, kE568, kE569] (ksp []) kE588 [kC588_0] 30000 (some kC588_0) = true := by decide +kernel
theorem kok588 : aOK kS krf kB kE588 := aOK_of (kal1 kok562 (kal1 kok567 (kal1 kok568 (kal1 kok569 kal0)))) (kcl1 ks588_0 kcl0) ks588
/-- ColdShod$StrokePlan.addNext(LColdShod$Idea;I)V -/
def kE589 : aE := (83, 3, ([(.ofNat 0, .ofNat 3), (.ofNat 1, .ofNat 341)], [(57, 0, .inl (0, .ofNat 0)), (52, 6, .inl (1, .ofNat 0))], 0, [some (.inr [52]), some (.inr [20, 21, 22, 23, 24, 25, 26, 27]), some (.inl (.inl (.inr (.ofNat 0)))), none, none], []), ([], none), ([], [], none, ([], [])), ([(52, 6), (58, 0), (58, 1), (58, 2), (58, 3), (58, 4), (58, 5), (58, 6)], [54, 55, 56, 57]))
def kC589_0 : aC := (([(.ofNat 0, .ofNat 3), (.ofNat 1, .ofNat 341), (.ofNat 0, .ofNat 4), (.ofNat 1, .ofNat 341)], [(57, 0, .inl (0, .ofNat 0)), (52, 6, .inl (3, .ofNat 0))], 2, [some (.inr [52]), some (.inr [20, 21, 22, 23, 24, 25, 26, 27]), some (.inl (.inl (.inr (.ofNat 0)))), some (.inl (.inl (.inl (2, .ofNat 0)))), none], []), ([], []), (4, [(-1, 2)]))
theorem ks589 : aseg kS krf kB [kE562, kE567, kE568, kE569] (ksp []) kE589 [kC589_0] 30000 (none) = true := by decide +kernel
theorem ks589_0 : aseg kS krf kB [kE562, kE567, kE568, kE569] (ksp []) kE589 [kC589_0] 30000 (some kC589_0) = true := by decide +kernel
theorem kok589 : aOK kS krf kB kE589 := aOK_of (kal1 kok562 (kal1 kok567 (kal1 kok568 (kal1 kok569 kal0)))) (kcl1 ks589_0 kcl0) ks589
/-- ColdShod$StrokePlan.addNext(LColdShod$Idea;I)V -/
def kE590 : aE := (83, 3, ([(.ofNat 0, .ofNat 3), (.ofNat 80, .ofNat 341)], [(57, 79, .inl (0, .ofNat 0)), (52, 6, .inl (1, .ofNat 0))], 0, [some (.inr [52]), some (.inr [20, 21, 22, 23, 24, 25, 26, 27]), some (.inl (.inl (.inr (.ofNat 79)))), none, none], []), ([], none), ([], [], none, ([], [])), ([(52, 6), (58, 0), (58, 1), (58, 2), (58, 3), (58, 4), (58, 5), (58, 6)], [54, 55, 56, 57]))
def kC590_0 : aC := (([(.ofNat 0, .ofNat 3), (.ofNat 80, .ofNat 341), (.ofNat 0, .ofNat 4), (.ofNat 80, .ofNat 341)], [(57, 79, .inl (0, .ofNat 0)), (52, 6, .inl (3, .ofNat 0))], 2, [some (.inr [52]), some (.inr [20, 21, 22, 23, 24, 25, 26, 27]), some (.inl (.inl (.inr (.ofNat 79)))), some (.inl (.inl (.inl (2, .ofNat 0)))), none], []), ([], []), (4, [(-1, 2)]))
theorem ks590 : aseg kS krf kB [kE562, kE567, kE568, kE569] (ksp []) kE590 [kC590_0] 30000 (none) = true := by decide +kernel
theorem ks590_0 : aseg kS krf kB [kE562, kE567, kE568, kE569] (ksp []) kE590 [kC590_0] 30000 (some kC590_0) = true := by decide +kernel
theorem kok590 : aOK kS krf kB kE590 := aOK_of (kal1 kok562 (kal1 kok567 (kal1 kok568 (kal1 kok569 kal0)))) (kcl1 ks590_0 kcl0) ks590
/-- ColdShod$StrokePlan.addNext(LColdShod$Idea;I)V -/
def kE591 : aE := (83, 3, ([(.ofNat 0, .ofNat 3), (.ofNat 79, .ofNat 341)], [(57, 78, .inl (0, .ofNat 0)), (52, 6, .inl (1, .ofNat 0))], 0, [some (.inr [52]), some (.inr [20, 21, 22, 23, 24, 25, 26, 27]), some (.inl (.inl (.inr (.ofNat 78)))), none, none], []), ([], none), ([], [], none, ([], [])), ([(52, 6), (58, 0), (58, 1), (58, 2), (58, 3), (58, 4), (58, 5), (58, 6)], [54, 55, 56, 57]))
def kC591_0 : aC := (([(.ofNat 0, .ofNat 3), (.ofNat 79, .ofNat 341), (.ofNat 0, .ofNat 4), (.ofNat 79, .ofNat 341)], [(57, 78, .inl (0, .ofNat 0)), (52, 6, .inl (3, .ofNat 0))], 2, [some (.inr [52]), some (.inr [20, 21, 22, 23, 24, 25, 26, 27]), some (.inl (.inl (.inr (.ofNat 78)))), some (.inl (.inl (.inl (2, .ofNat 0)))), none], []), ([], []), (4, [(-1, 2)]))
theorem ks591 : aseg kS krf kB [kE562, kE567, kE568, kE569] (ksp []) kE591 [kC591_0] 30000 (none) = true := by decide +kernel
theorem ks591_0 : aseg kS krf kB [kE562, kE567, kE568, kE569] (ksp []) kE591 [kC591_0] 30000 (some kC591_0) = true := by decide +kernel
theorem kok591 : aOK kS krf kB kE591 := aOK_of (kal1 kok562 (kal1 kok567 (kal1 kok568 (kal1 kok569 kal0)))) (kcl1 ks591_0 kcl0) ks591
/-- ColdShod$StrokePlan.addNext(LColdShod$Idea;I)V -/
def kE592 : aE := (83, 3, ([(.ofNat 0, .ofNat 3), (.ofNat 78, .ofNat 341)], [(57, 77, .inl (0, .ofNat 0)), (52, 6, .inl (1, .ofNat 0))], 0, [some (.inr [52]), some (.inr [20, 21, 22, 23, 24, 25, 26, 27]), some (.inl (.inl (.inr (.ofNat 77)))), none, none], []), ([], none), ([], [], none, ([], [])), ([(52, 6), (58, 0), (58, 1), (58, 2), (58, 3), (58, 4), (58, 5), (58, 6)], [54, 55, 56, 57]))
def kC592_0 : aC := (([(.ofNat 0, .ofNat 3), (.ofNat 78, .ofNat 341), (.ofNat 0, .ofNat 4), (.ofNat 78, .ofNat 341)], [(57, 77, .inl (0, .ofNat 0)), (52, 6, .inl (3, .ofNat 0))], 2, [some (.inr [52]), some (.inr [20, 21, 22, 23, 24, 25, 26, 27]), some (.inl (.inl (.inr (.ofNat 77)))), some (.inl (.inl (.inl (2, .ofNat 0)))), none], []), ([], []), (4, [(-1, 2)]))
theorem ks592 : aseg kS krf kB [kE562, kE567, kE568, kE569] (ksp []) kE592 [kC592_0] 30000 (none) = true := by decide +kernel
theorem ks592_0 : aseg kS krf kB [kE562, kE567, kE568, kE569] (ksp []) kE592 [kC592_0] 30000 (some kC592_0) = true := by decide +kernel
theorem kok592 : aOK kS krf kB kE592 := aOK_of (kal1 kok562 (kal1 kok567 (kal1 kok568 (kal1 kok569 kal0)))) (kcl1 ks592_0 kcl0) ks592
/-- ColdShod$StrokePlan.addNext(LColdShod$Idea;I)V -/
def kE593 : aE := (83, 3, ([(.ofNat 0, .ofNat 3), (.ofNat 77, .ofNat 341)], [(57, 76, .inl (0, .ofNat 0)), (52, 6, .inl (1, .ofNat 0))], 0, [some (.inr [52]), some (.inr [20, 21, 22, 23, 24, 25, 26, 27]), some (.inl (.inl (.inr (.ofNat 76)))), none, none], []), ([], none), ([], [], none, ([], [])), ([(52, 6), (58, 0), (58, 1), (58, 2), (58, 3), (58, 4), (58, 5), (58, 6)], [54, 55, 56, 57]))
def kC593_0 : aC := (([(.ofNat 0, .ofNat 3), (.ofNat 77, .ofNat 341), (.ofNat 0, .ofNat 4), (.ofNat 77, .ofNat 341)], [(57, 76, .inl (0, .ofNat 0)), (52, 6, .inl (3, .ofNat 0))], 2, [some (.inr [52]), some (.inr [20, 21, 22, 23, 24, 25, 26, 27]), some (.inl (.inl (.inr (.ofNat 76)))), some (.inl (.inl (.inl (2, .ofNat 0)))), none], []), ([], []), (4, [(-1, 2)]))
theorem ks593 : aseg kS krf kB [kE562, kE567, kE568, kE569] (ksp []) kE593 [kC593_0] 30000 (none) = true := by decide +kernel
theorem ks593_0 : aseg kS krf kB [kE562, kE567, kE568, kE569] (ksp []) kE593 [kC593_0] 30000 (some kC593_0) = true := by decide +kernel
theorem kok593 : aOK kS krf kB kE593 := aOK_of (kal1 kok562 (kal1 kok567 (kal1 kok568 (kal1 kok569 kal0)))) (kcl1 ks593_0 kcl0) ks593
/-- ColdShod$StrokePlan.addNext(LColdShod$Idea;I)V -/
def kE594 : aE := (83, 3, ([(.ofNat 0, .ofNat 3), (.ofNat 76, .ofNat 341)], [(57, 75, .inl (0, .ofNat 0)), (52, 6, .inl (1, .ofNat 0))], 0, [some (.inr [52]), some (.inr [20, 21, 22, 23, 24, 25, 26, 27]), some (.inl (.inl (.inr (.ofNat 75)))), none, none], []), ([], none), ([], [], none, ([], [])), ([(52, 6), (58, 0), (58, 1), (58, 2), (58, 3), (58, 4), (58, 5), (58, 6)], [54, 55, 56, 57]))
def kC594_0 : aC := (([(.ofNat 0, .ofNat 3), (.ofNat 76, .ofNat 341), (.ofNat 0, .ofNat 4), (.ofNat 76, .ofNat 341)], [(57, 75, .inl (0, .ofNat 0)), (52, 6, .inl (3, .ofNat 0))], 2, [some (.inr [52]), some (.inr [20, 21, 22, 23, 24, 25, 26, 27]), some (.inl (.inl (.inr (.ofNat 75)))), some (.inl (.inl (.inl (2, .ofNat 0)))), none], []), ([], []), (4, [(-1, 2)]))
theorem ks594 : aseg kS krf kB [kE562, kE567, kE568, kE569] (ksp []) kE594 [kC594_0] 30000 (none) = true := by decide +kernel
theorem ks594_0 : aseg kS krf kB [kE562, kE567, kE568, kE569] (ksp []) kE594 [kC594_0] 30000 (some kC594_0) = true := by decide +kernel
theorem kok594 : aOK kS krf kB kE594 := aOK_of (kal1 kok562 (kal1 kok567 (kal1 kok568 (kal1 kok569 kal0)))) (kcl1 ks594_0 kcl0) ks594
/-- ColdShod$StrokePlan.addNext(LColdShod$Idea;I)V -/
def kE595 : aE := (83, 3, ([(.ofNat 0, .ofNat 3), (.ofNat 75, .ofNat 341)], [(57, 74, .inl (0, .ofNat 0)), (52, 6, .inl (1, .ofNat 0))], 0, [some (.inr [52]), some (.inr [20, 21, 22, 23, 24, 25, 26, 27]), some (.inl (.inl (.inr (.ofNat 74)))), none, none], []), ([], none), ([], [], none, ([], [])), ([(52, 6), (58, 0), (58, 1), (58, 2), (58, 3), (58, 4), (58, 5), (58, 6)], [54, 55, 56, 57]))
def kC595_0 : aC := (([(.ofNat 0, .ofNat 3), (.ofNat 75, .ofNat 341), (.ofNat 0, .ofNat 4), (.ofNat 75, .ofNat 341)], [(57, 74, .inl (0, .ofNat 0)), (52, 6, .inl (3, .ofNat 0))], 2, [some (.inr [52]), some (.inr [20, 21, 22, 23, 24, 25, 26, 27]), some (.inl (.inl (.inr (.ofNat 74)))), some (.inl (.inl (.inl (2, .ofNat 0)))), none], []), ([], []), (4, [(-1, 2)]))
theorem ks595 : aseg kS krf kB [kE562, kE567, kE568, kE569] (ksp []) kE595 [kC595_0] 30000 (none) = true := by decide +kernel
theorem ks595_0 : aseg kS krf kB [kE562, kE567, kE568, kE569] (ksp []) kE595 [kC595_0] 30000 (some kC595_0) = true := by decide +kernel
theorem kok595 : aOK kS krf kB kE595 := aOK_of (kal1 kok562 (kal1 kok567 (kal1 kok568 (kal1 kok569 kal0)))) (kcl1 ks595_0 kcl0) ks595
/-- ColdShod$StrokePlan.addNext(LColdShod$Idea;I)V -/
def kE596 : aE := (83, 3, ([(.ofNat 0, .ofNat 3), (.ofNat 74, .ofNat 341)], [(57, 73, .inl (0, .ofNat 0)), (52, 6, .inl (1, .ofNat 0))], 0, [some (.inr [52]), some (.inr [20, 21, 22, 23, 24, 25, 26, 27]), some (.inl (.inl (.inr (.ofNat 73)))), none, none], []), ([], none), ([], [], none, ([], [])), ([(52, 6), (58, 0), (58, 1), (58, 2), (58, 3), (58, 4), (58, 5), (58, 6)], [54, 55, 56, 57]))
def kC596_0 : aC := (([(.ofNat 0, .ofNat 3), (.ofNat 74, .ofNat 341), (.ofNat 0, .ofNat 4), (.ofNat 74, .ofNat 341)], [(57, 73, .inl (0, .ofNat 0)), (52, 6, .inl (3, .ofNat 0))], 2, [some (.inr [52]), some (.inr [20, 21, 22, 23, 24, 25, 26, 27]), some (.inl (.inl (.inr (.ofNat 73)))), some (.inl (.inl (.inl (2, .ofNat 0)))), none], []), ([], []), (4, [(-1, 2)]))
theorem ks596 : aseg kS krf kB [kE562, kE567, kE568, kE569] (ksp []) kE596 [kC596_0] 30000 (none) = true := by decide +kernel
theorem ks596_0 : aseg kS krf kB [kE562, kE567, kE568, kE569] (ksp []) kE596 [kC596_0] 30000 (some kC596_0) = true := by decide +kernel
theorem kok596 : aOK kS krf kB kE596 := aOK_of (kal1 kok562 (kal1 kok567 (kal1 kok568 (kal1 kok569 kal0)))) (kcl1 ks596_0 kcl0) ks596
/-- ColdShod$StrokePlan.addNext(LColdShod$Idea;I)V -/
def kE597 : aE := (83, 3, ([(.ofNat 0, .ofNat 3), (.ofNat 73, .ofNat 341)], [(57, 72, .inl (0, .ofNat 0)), (52, 6, .inl (1, .ofNat 0))], 0, [some (.inr [52]), some (.inr [20, 21, 22, 23, 24, 25, 26, 27]), some (.inl (.inl (.inr (.ofNat 72)))), none, none], []), ([], none), ([], [], none, ([], [])), ([(52, 6), (58, 0), (58, 1), (58, 2), (58, 3), (58, 4), (58, 5), (58, 6)], [54, 55, 56, 57]))
def kC597_0 : aC := (([(.ofNat 0, .ofNat 3), (.ofNat 73, .ofNat 341), (.ofNat 0, .ofNat 4), (.ofNat 73, .ofNat 341)], [(57, 72, .inl (0, .ofNat 0)), (52, 6, .inl (3, .ofNat 0))], 2, [some (.inr [52]), some (.inr [20, 21, 22, 23, 24, 25, 26, 27]), some (.inl (.inl (.inr (.ofNat 72)))), some (.inl (.inl (.inl (2, .ofNat 0)))), none], []), ([], []), (4, [(-1, 2)]))
theorem ks597 : aseg kS krf kB [kE562, kE567, kE568, kE569] (ksp []) kE597 [kC597_0] 30000 (none) = true := by decide +kernel
theorem ks597_0 : aseg kS krf kB [kE562, kE567, kE568, kE569] (ksp []) kE597 [kC597_0] 30000 (some kC597_0) = true := by decide +kernel
theorem kok597 : aOK kS krf kB kE597 := aOK_of (kal1 kok562 (kal1 kok567 (kal1 kok568 (kal1 kok569 kal0)))) (kcl1 ks597_0 kcl0) ks597
/-- ColdShod$StrokePlan.addNext(LColdShod$Idea;I)V -/
def kE598 : aE := (83, 3, ([(.ofNat 0, .ofNat 3), (.ofNat 72, .ofNat 341)], [(57, 71, .inl (0, .ofNat 0)), (52, 6, .inl (1, .ofNat 0))], 0, [some (.inr [52]), some (.inr [20, 21, 22, 23, 24, 25, 26, 27]), some (.inl (.inl (.inr (.ofNat 71)))), none, none], []), ([], none), ([], [], none, ([], [])), ([(52, 6), (58, 0), (58, 1), (58, 2), (58, 3), (58, 4), (58, 5), (58, 6)], [54, 55, 56, 57]))
def kC598_0 : aC := (([(.ofNat 0, .ofNat 3), (.ofNat 72, .ofNat 341), (.ofNat 0, .ofNat 4), (.ofNat 72, .ofNat 341)], [(57, 71, .inl (0, .ofNat 0)), (52, 6, .inl (3, .ofNat 0))], 2, [some (.inr [52]), some (.inr [20, 21, 22, 23, 24, 25, 26, 27]), some (.inl (.inl (.inr (.ofNat 71)))), some (.inl (.inl (.inl (2, .ofNat 0)))), none], []), ([], []), (4, [(-1, 2)]))
theorem ks598 : aseg kS krf kB [kE562, kE567, kE568, kE569] (ksp []) kE598 [kC598_0] 30000 (none) = true := by decide +kernel
theorem ks598_0 : aseg kS krf kB [kE562, kE567, kE568, kE569] (ksp []) kE598 [kC598_0] 30000 (some kC598_0) = true := by decide +kernel
theorem kok598 : aOK kS krf kB kE598 := aOK_of (kal1 kok562 (kal1 kok567 (kal1 kok568 (kal1 kok569 kal0)))) (kcl1 ks598_0 kcl0) ks598
/-- ColdShod$StrokePlan.addNext(LColdShod$Idea;I)V -/
def kE599 : aE := (83, 3, ([(.ofNat 0, .ofNat 3), (.ofNat 71, .ofNat 341)], [(57, 70, .inl (0, .ofNat 0)), (52, 6, .inl (1, .ofNat 0))], 0, [some (.inr [52]), some (.inr [20, 21, 22, 23, 24, 25, 26, 27]), some (.inl (.inl (.inr (.ofNat 70)))), none, none], []), ([], none), ([], [], none, ([], [])), ([(52, 6), (58, 0), (58, 1), (58, 2), (58, 3), (58, 4), (58, 5), (58, 6)], [54, 55, 56, 57]))
def kC599_0 : aC := (([(.ofNat 0, .ofNat 3), (.ofNat 71, .ofNat 341), (.ofNat 0, .ofNat 4), (.ofNat 71, .ofNat 341)], [(57, 70, .inl (0, .ofNat 0)), (52, 6, .inl (3, .ofNat 0))], 2, [some (.inr [52]), some (.inr [20, 21, 22, 23, 24, 25, 26, 27]), some (.inl (.inl (.inr (.ofNat 70)))), some (.inl (.inl (.inl (2, .ofNat 0)))), none], []), ([], []), (4, [(-1, 2)]))
theorem ks599 : aseg kS krf kB [kE562, kE567, kE568, kE569] (ksp []) kE599 [kC599_0] 30000 (none) = true := by decide +kernel
theorem ks599_0 : aseg kS krf kB [kE562, kE567, kE568, kE569] (ksp []) kE599 [kC599_0] 30000 (some kC599_0) = true := by decide +kernel
theorem kok599 : aOK kS krf kB kE599 := aOK_of (kal1 kok562 (kal1 kok567 (kal1 kok568 (kal1 kok569 kal0)))) (kcl1 ks599_0 kcl0) ks599
/-- ColdShod$StrokePlan.addNext(LColdShod$Idea;I)V -/
def kE600 : aE := (83, 3, ([(.ofNat 0, .ofNat 3), (.ofNat 70, .ofNat 341)], [(57, 69, .inl (0, .ofNat 0)), (52, 6, .inl (1, .ofNat 0))], 0, [some (.inr [52]), some (.inr [20, 21, 22, 23, 24, 25, 26, 27]), some (.inl (.inl (.inr (.ofNat 69)))), none, none], []), ([], none), ([], [], none, ([], [])), ([(52, 6), (58, 0), (58, 1), (58, 2), (58, 3), (58, 4), (58, 5), (58, 6)], [54, 55, 56, 57]))
def kC600_0 : aC := (([(.ofNat 0, .ofNat 3), (.ofNat 70, .ofNat 341), (.ofNat 0, .ofNat 4), (.ofNat 70, .ofNat 341)], [(57, 69, .inl (0, .ofNat 0)), (52, 6, .inl (3, .ofNat 0))], 2, [some (.inr [52]), some (.inr [20, 21, 22, 23, 24, 25, 26, 27]), some (.inl (.inl (.inr (.ofNat 69)))), some (.inl (.inl (.inl (2, .ofNat 0)))), none], []), ([], []), (4, [(-1, 2)]))
theorem ks600 : aseg kS krf kB [kE562, kE567, kE568, kE569] (ksp []) kE600 [kC600_0] 30000 (none) = true := by decide +kernel
theorem ks600_0 : aseg kS krf kB [kE562, kE567, kE568, kE569] (ksp []) kE600 [kC600_0] 30000 (some kC600_0) = true := by decide +kernel
theorem kok600 : aOK kS krf kB kE600 := aOK_of (kal1 kok562 (kal1 kok567 (kal1 kok568 (kal1 kok569 kal0)))) (kcl1 ks600_0 kcl0) ks600
/-- ColdShod$StrokePlan.addNext(LColdShod$Idea;I)V -/
def kE601 : aE := (83, 3, ([(.ofNat 0, .ofNat 3), (.ofNat 69, .ofNat 341)], [(57, 68, .inl (0, .ofNat 0)), (52, 6, .inl (1, .ofNat 0))], 0, [some (.inr [52]), some (.inr [20, 21, 22, 23, 24, 25, 26, 27]), some (.inl (.inl (.inr (.ofNat 68)))), none, none], []), ([], none), ([], [], none, ([], [])), ([(52, 6), (58, 0), (58, 1), (58, 2), (58, 3), (58, 4), (58, 5), (58, 6)], [54, 55, 56, 57]))
def kC601_0 : aC := (([(.ofNat 0, .ofNat 3), (.ofNat 69, .ofNat 341), (.ofNat 0, .ofNat 4), (.ofNat 69, .ofNat 341)], [(57, 68, .inl (0, .ofNat 0)), (52, 6, .inl (3, .ofNat 0))], 2, [some (.inr [52]), some (.inr [20, 21, 22, 23, 24, 25, 26, 27]), some (.inl (.inl (.inr (.ofNat 68)))), some (.inl (.inl (.inl (2, .ofNat 0)))), none], []), ([], []), (4, [(-1, 2)]))
theorem ks601 : aseg kS krf kB [kE562, kE567, kE568, kE569] (ksp []) kE601 [kC601_0] 30000 (none) = true := by decide +kernel
theorem ks601_0 : aseg kS krf kB [kE562, kE567, kE568, kE569] (ksp []) kE601 [kC601_0] 30000 (some kC601_0) = true := by decide +kernel
theorem kok601 : aOK kS krf kB kE601 := aOK_of (kal1 kok562 (kal1 kok567 (kal1 kok568 (kal1 kok569 kal0)))) (kcl1 ks601_0 kcl0) ks601
/-- ColdShod$StrokePlan.addNext(LColdShod$Idea;I)V -/
def kE602 : aE := (83, 3, ([(.ofNat 0, .ofNat 3), (.ofNat 68, .ofNat 341)], [(57, 67, .inl (0, .ofNat 0)), (52, 6, .inl (1, .ofNat 0))], 0, [some (.inr [52]), some (.inr [20, 21, 22, 23, 24, 25, 26, 27]), some (.inl (.inl (.inr (.ofNat 67)))), none, none], []), ([], none), ([], [], none, ([], [])), ([(52, 6), (58, 0), (58, 1), (58, 2), (58, 3), (58, 4), (58, 5), (58, 6)], [54, 55, 56, 57]))
def kC602_0 : aC := (([(.ofNat 0, .ofNat 3), (.ofNat 68, .ofNat 341), (.ofNat 0, .ofNat 4), (.ofNat 68, .ofNat 341)], [(57, 67, .inl (0, .ofNat 0)), (52, 6, .inl (3, .ofNat 0))], 2, [some (.inr [52]), some (.inr [20, 21, 22, 23, 24, 25, 26, 27]), some (.inl (.inl (.inr (.ofNat 67)))), some (.inl (.inl (.inl (2, .ofNat 0)))), none], []), ([], []), (4, [(-1, 2)]))
theorem ks602 : aseg kS krf kB [kE562, kE567, kE568, kE569] (ksp []) kE602 [kC602_0] 30000 (none) = true := by decide +kernel
theorem ks602_0 : aseg kS krf kB [kE562, kE567, kE568, kE569] (ksp []) kE602 [kC602_0] 30000 (some kC602_0) = true := by decide +kernel
theorem kok602 : aOK kS krf kB kE602 := aOK_of (kal1 kok562 (kal1 kok567 (kal1 kok568 (kal1 kok569 kal0)))) (kcl1 ks602_0 kcl0) ks602
/-- ColdShod$StrokePlan.addNext(LColdShod$Idea;I)V -/
def kE603 : aE := (83, 3, ([(.ofNat 0, .ofNat 3), (.ofNat 67, .ofNat 341)], [(57, 66, .inl (0, .ofNat 0)), (52, 6, .inl (1, .ofNat 0))], 0, [some (.inr [52]), some (.inr [20, 21, 22, 23, 24, 25, 26, 27]), some (.inl (.inl (.inr (.ofNat 66)))), none, none], []), ([], none), ([], [], none, ([], [])), ([(52, 6), (58, 0), (58, 1), (58, 2), (58, 3), (58, 4), (58, 5), (58, 6)], [54, 55, 56, 57]))
def kC603_0 : aC := (([(.ofNat 0, .ofNat 3), (.ofNat 67, .ofNat 341), (.ofNat 0, .ofNat 4), (.ofNat 67, .ofNat 341)], [(57, 66, .inl (0, .ofNat 0)), (52, 6, .inl (3, .ofNat 0))], 2, [some (.inr [52]), some (.inr [20, 21, 22, 23, 24, 25, 26, 27]), some (.inl (.inl (.inr (.ofNat 66)))), some (.inl (.inl (.inl (2, .ofNat 0)))), none], []), ([], []), (4, [(-1, 2)]))
theorem ks603 : aseg kS krf kB [kE562, kE567, kE568, kE569] (ksp []) kE603 [kC603_0] 30000 (none) = true := by decide +kernel
theorem ks603_0 : aseg kS krf kB [kE562, kE567, kE568, kE569] (ksp []) kE603 [kC603_0] 30000 (some kC603_0) = true := by decide +kernel
theorem kok603 : aOK kS krf kB kE603 := aOK_of (kal1 kok562 (kal1 kok567 (kal1 kok568 (kal1 kok569 kal0)))) (kcl1 ks603_0 kcl0) ks603
/-- ColdShod$StrokePlan.addNext(LColdShod$Idea;I)V -/
def kE604 : aE := (83, 3, ([(.ofNat 0, .ofNat 3), (.ofNat 66, .ofNat 341)], [(57, 65, .inl (0, .ofNat 0)), (52, 6, .inl (1, .ofNat 0))], 0, [some (.inr [52]), some (.inr [20, 21, 22, 23, 24, 25, 26, 27]), some (.inl (.inl (.inr (.ofNat 65)))), none, none], []), ([], none), ([], [], none, ([], [])), ([(52, 6), (58, 0), (58, 1), (58, 2), (58, 3), (58, 4), (58, 5), (58, 6)], [54, 55, 56, 57]))
def kC604_0 : aC := (([(.ofNat 0, .ofNat 3), (.ofNat 66, .ofNat 341), (.ofNat 0, .ofNat 4), (.ofNat 66, .ofNat 341)], [(57, 65, .inl (0, .ofNat 0)), (52, 6, .inl (3, .ofNat 0))], 2, [some (.inr [52]), some (.inr [20, 21, 22, 23, 24, 25, 26, 27]), some (.inl (.inl (.inr (.ofNat 65)))), some (.inl (.inl (.inl (2, .ofNat 0)))), none], []), ([], []), (4, [(-1, 2)]))
theorem ks604 : aseg kS krf kB [kE562, kE567, kE568, kE569] (ksp []) kE604 [kC604_0] 30000 (none) = true := by decide +kernel
theorem ks604_0 : aseg kS krf kB [kE562, kE567, kE568, kE569] (ksp []) kE604 [kC604_0] 30000 (some kC604_0) = true := by decide +kernel
theorem kok604 : aOK kS krf kB kE604 := aOK_of (kal1 kok562 (kal1 kok567 (kal1 kok568 (kal1 kok569 kal0)))) (kcl1 ks604_0 kcl0) ks604
/-- ColdShod$StrokePlan.addNext(LColdShod$Idea;I)V -/
def kE605 : aE := (83, 3, ([(.ofNat 0, .ofNat 3), (.ofNat 65, .ofNat 341)], [(57, 64, .inl (0, .ofNat 0)), (52, 6, .inl (1, .ofNat 0))], 0, [some (.inr [52]), some (.inr [20, 21, 22, 23, 24, 25, 26, 27]), some (.inl (.inl (.inr (.ofNat 64)))), none, none], []), ([], none), ([], [], none, ([], [])), ([(52, 6), (58, 0), (58, 1), (58, 2), (58, 3), (58, 4), (58, 5), (58, 6)], [54, 55, 56, 57]))
def kC605_0 : aC := (([(.ofNat 0, .ofNat 3), (.ofNat 65, .ofNat 341), (.ofNat 0, .ofNat 4), (.ofNat 65, .ofNat 341)], [(57, 64, .inl (0, .ofNat 0)), (52, 6, .inl (3, .ofNat 0))], 2, [some (.inr [52]), some (.inr [20, 21, 22, 23, 24, 25, 26, 27]), some (.inl (.inl (.inr (.ofNat 64)))), some (.inl (.inl (.inl (2, .ofNat 0)))), none], []), ([], []), (4, [(-1, 2)]))
theorem ks605 : aseg kS krf kB [kE562, kE567, kE568, kE569] (ksp []) kE605 [kC605_0] 30000 (none) = true := by decide +kernel
theorem ks605_0 : aseg kS krf kB [kE562, kE567, kE568, kE569] (ksp []) kE605 [kC605_0] 30000 (some kC605_0) = true := by decide +kernel
theorem kok605 : aOK kS krf kB kE605 := aOK_of (kal1 kok562 (kal1 kok567 (kal1 kok568 (kal1 kok569 kal0)))) (kcl1 ks605_0 kcl0) ks605
/-- ColdShod$StrokePlan.addNext(LColdShod$Idea;I)V -/
def kE606 : aE := (83, 3, ([(.ofNat 0, .ofNat 3), (.ofNat 64, .ofNat 341)], [(57, 63, .inl (0, .ofNat 0)), (52, 6, .inl (1, .ofNat 0))], 0, [some (.inr [52]), some (.inr [20, 21, 22, 23, 24, 25, 26, 27]), some (.inl (.inl (.inr (.ofNat 63)))), none, none], []), ([], none), ([], [], none, ([], [])), ([(52, 6), (58, 0), (58, 1), (58, 2), (58, 3), (58, 4), (58, 5), (58, 6)], [54, 55, 56, 57]))
def kC606_0 : aC := (([(.ofNat 0, .ofNat 3), (.ofNat 64, .ofNat 341), (.ofNat 0, .ofNat 4), (.ofNat 64, .ofNat 341)], [(57, 63, .inl (0, .ofNat 0)), (52, 6, .inl (3, .ofNat 0))], 2, [some (.inr [52]), some (.inr [20, 21, 22, 23, 24, 25, 26, 27]), some (.inl (.inl (.inr (.ofNat 63)))), some (.inl (.inl (.inl (2, .ofNat 0)))), none], []), ([], []), (4, [(-1, 2)]))
theorem ks606 : aseg kS krf kB [kE562, kE567, kE568, kE569] (ksp []) kE606 [kC606_0] 30000 (none) = true := by decide +kernel
theorem ks606_0 : aseg kS krf kB [kE562, kE567, kE568, kE569] (ksp []) kE606 [kC606_0] 30000 (some kC606_0) = true := by decide +kernel
theorem kok606 : aOK kS krf kB kE606 := aOK_of (kal1 kok562 (kal1 kok567 (kal1 kok568 (kal1 kok569 kal0)))) (kcl1 ks606_0 kcl0) ks606
/-- ColdShod$StrokePlan.addNext(LColdShod$Idea;I)V -/
def kE607 : aE := (83, 3, ([(.ofNat 0, .ofNat 3), (.ofNat 63, .ofNat 341)], [(57, 62, .inl (0, .ofNat 0)), (52, 6, .inl (1, .ofNat 0))], 0, [some (.inr [52]), some (.inr [20, 21, 22, 23, 24, 25, 26, 27]), some (.inl (.inl (.inr (.ofNat 62)))), none, none], []), ([], none), ([], [], none, ([], [])), ([(52, 6), (58, 0), (58, 1), (58, 2), (58, 3), (58, 4), (58, 5), (58, 6)], [54, 55, 56, 57]))
def kC607_0 : aC := (([(.ofNat 0, .ofNat 3), (.ofNat 63, .ofNat 341), (.ofNat 0, .ofNat 4), (.ofNat 63, .ofNat 341)], [(57, 62, .inl (0, .ofNat 0)), (52, 6, .inl (3, .ofNat 0))], 2, [some (.inr [52]), some (.inr [20, 21, 22, 23, 24, 25, 26, 27]), some (.inl (.inl (.inr (.ofNat 62)))), some (.inl (.inl (.inl (2, .ofNat 0)))), none], []), ([], []), (4, [(-1, 2)]))
theorem ks607 : aseg kS krf kB [kE562, kE567, kE568, kE569] (ksp []) kE607 [kC607_0] 30000 (none) = true := by decide +kernel
theorem ks607_0 : aseg kS krf kB [kE562, kE567, kE568, kE569] (ksp []) kE607 [kC607_0] 30000 (some kC607_0) = true := by decide +kernel
theorem kok607 : aOK kS krf kB kE607 := aOK_of (kal1 kok562 (kal1 kok567 (kal1 kok568 (kal1 kok569 kal0)))) (kcl1 ks607_0 kcl0) ks607
/-- ColdShod$StrokePlan.addNext(LColdShod$Idea;I)V -/
def kE608 : aE := (83, 3, ([(.ofNat 0, .ofNat 3), (.ofNat 62, .ofNat 341)], [(57, 61, .inl (0, .ofNat 0)), (52, 6, .inl (1, .ofNat 0))], 0, [some (.inr [52]), some (.inr [20, 21, 22, 23, 24, 25, 26, 27]), some (.inl (.inl (.inr (.ofNat 61)))), none, none], []), ([], none), ([], [], none, ([], [])), ([(52, 6), (58, 0), (58, 1), (58, 2), (58, 3), (58, 4), (58, 5), (58, 6)], [54, 55, 56, 57]))
def kC608_0 : aC := (([(.ofNat 0, .ofNat 3), (.ofNat 62, .ofNat 341), (.ofNat 0, .ofNat 4), (.ofNat 62, .ofNat 341)], [(57, 61, .inl (0, .ofNat 0)), (52, 6, .inl (3, .ofNat 0))], 2, [some (.inr [52]), some (.inr [20, 21, 22, 23, 24, 25, 26, 27]), some (.inl (.inl (.inr (.ofNat 61)))), some (.inl (.inl (.inl (2, .ofNat 0)))), none], []), ([], []), (4, [(-1, 2)]))
theorem ks608 : aseg kS krf kB [kE562, kE567, kE568, kE569] (ksp []) kE608 [kC608_0] 30000 (none) = true := by decide +kernel
theorem ks608_0 : aseg kS krf kB [kE562, kE567, kE568, kE569] (ksp []) kE608 [kC608_0] 30000 (some kC608_0) = true := by decide +kernel
theorem kok608 : aOK kS krf kB kE608 := aOK_of (kal1 kok562 (kal1 kok567 (kal1 kok568 (kal1 kok569 kal0)))) (kcl1 ks608_0 kcl0) ks608
/-- ColdShod$StrokePlan.addNext(LColdShod$Idea;I)V -/
def kE609 : aE := (83, 3, ([(.ofNat 0, .ofNat 3), (.ofNat 61, .ofNat 341)], [(57, 60, .inl (0, .ofNat 0)), (52, 6, .inl (1, .ofNat 0))], 0, [some (.inr [52]), some (.inr [20, 21, 22, 23, 24, 25, 26, 27]), some (.inl (.inl (.inr (.ofNat 60)))), none, none], []), ([], none), ([], [], none, ([], [])), ([(52, 6), (58, 0), (58, 1), (58, 2), (58, 3), (58, 4), (58, 5), (58, 6)], [54, 55, 56, 57]))
def kC609_0 : aC := (([(.ofNat 0, .ofNat 3), (.ofNat 61, .ofNat 341), (.ofNat 0, .ofNat 4), (.ofNat 61, .ofNat 341)], [(57, 60, .inl (0, .ofNat 0)), (52, 6, .inl (3, .ofNat 0))], 2, [some (.inr [52]), some (.inr [20, 21, 22, 23, 24, 25, 26, 27]), some (.inl (.inl (.inr (.ofNat 60)))), some (.inl (.inl (.inl (2, .ofNat 0)))), none], []), ([], []), (4, [(-1, 2)]))
theorem ks609 : aseg kS krf kB [kE562, kE567, kE568, kE569] (ksp []) kE609 [kC609_0] 30000 (none) = true := by decide +kernel
theorem ks609_0 : aseg kS krf kB [kE562, kE567, kE568, kE569] (ksp []) kE609 [kC609_0] 30000 (some kC609_0) = true := by decide +kernel
theorem kok609 : aOK kS krf kB kE609 := aOK_of (kal1 kok562 (kal1 kok567 (kal1 kok568 (kal1 kok569 kal0)))) (kcl1 ks609_0 kcl0) ks609
/-- ColdShod$StrokePlan.addNext(LColdShod$Idea;I)V -/
def kE610 : aE := (83, 3, ([(.ofNat 0, .ofNat 3), (.ofNat 60, .ofNat 341)], [(57, 59, .inl (0, .ofNat 0)), (52, 6, .inl (1, .ofNat 0))], 0, [some (.inr [52]), some (.inr [20, 21, 22, 23, 24, 25, 26, 27]), some (.inl (.inl (.inr (.ofNat 59)))), none, none], []), ([], none), ([], [], none, ([], [])), ([(52, 6), (58, 0), (58, 1), (58, 2), (58, 3), (58, 4), (58, 5), (58, 6)], [54, 55, 56, 57]))
def kC610_0 : aC := (([(.ofNat 0, .ofNat 3), (.ofNat 60, .ofNat 341), (.ofNat 0, .ofNat 4), (.ofNat 60, .ofNat 341)], [(57, 59, .inl (0, .ofNat 0)), (52, 6, .inl (3, .ofNat 0))], 2, [some (.inr [52]), some (.inr [20, 21, 22, 23, 24, 25, 26, 27]), some (.inl (.inl (.inr (.ofNat 59)))), some (.inl (.inl (.inl (2, .ofNat 0)))), none], []), ([], []), (4, [(-1, 2)]))
theorem ks610 : aseg kS krf kB [kE562, kE567, kE568, kE569] (ksp []) kE610 [kC610_0] 30000 (none) = true := by decide +kernel
theorem ks610_0 : aseg kS krf kB [kE562, kE567, kE568, kE569] (ksp []) kE610 [kC610_0] 30000 (some kC610_0) = true := by decide +kernel
theorem kok610 : aOK kS krf kB kE610 := aOK_of (kal1 kok562 (kal1 kok567 (kal1 kok568 (kal1 kok569 kal0)))) (kcl1 ks610_0 kcl0) ks610
/-- ColdShod$StrokePlan.addNext(LColdShod$Idea;I)V -/
def kE611 : aE := (83, 3, ([(.ofNat 0, .ofNat 3), (.ofNat 59, .ofNat 341)], [(57, 58, .inl (0, .ofNat 0)), (52, 6, .inl (1, .ofNat 0))], 0, [some (.inr [52]), some (.inr [20, 21, 22, 23, 24, 25, 26, 27]), some (.inl (.inl (.inr (.ofNat 58)))), none, none], []), ([], none), ([], [], none, ([], [])), ([(52, 6), (58, 0), (58, 1), (58, 2), (58, 3), (58, 4), (58, 5), (58, 6)], [54, 55, 56, 57]))
def kC611_0 : aC := (([(.ofNat 0, .ofNat 3), (.ofNat 59, .ofNat 341), (.ofNat 0, .ofNat 4), (.ofNat 59, .ofNat 341)], [(57, 58, .inl (0, .ofNat 0)), (52, 6, .inl (3, .ofNat 0))], 2, [some (.inr [52]), some (.inr [20, 21, 22, 23, 24, 25, 26, 27]), some (.inl (.inl (.inr (.ofNat 58)))), some (.inl (.inl (.inl (2, .ofNat 0)))), none], []), ([], []), (4, [(-1, 2)]))
theorem ks611 : aseg kS krf kB [kE562, kE567, kE568, kE569] (ksp []) kE611 [kC611_0] 30000 (none) = true := by decide +kernel
theorem ks611_0 : aseg kS krf kB [kE562, kE567, kE568, kE569] (ksp []) kE611 [kC611_0] 30000 (some kC611_0) = true := by decide +kernel
theorem kok611 : aOK kS krf kB kE611 := aOK_of (kal1 kok562 (kal1 kok567 (kal1 kok568 (kal1 kok569 kal0)))) (kcl1 ks611_0 kcl0) ks611
/-- ColdShod$StrokePlan.addNext(LColdShod$Idea;I)V -/
def kE612 : aE := (83, 3, ([(.ofNat 0, .ofNat 3), (.ofNat 58, .ofNat 341)], [(57, 57, .inl (0, .ofNat 0)), (52, 6, .inl (1, .ofNat 0))], 0, [some (.inr [52]), some (.inr [20, 21, 22, 23, 24, 25, 26, 27]), some (.inl (.inl (.inr (.ofNat 57)))), none, none], []), ([], none), ([], [], none, ([], [])), ([(52, 6), (58, 0), (58, 1), (58, 2), (58, 3), (58, 4), (58, 5), (58, 6)], [54, 55, 56, 57]))
def kC612_0 : aC := (([(.ofNat 0, .ofNat 3), (.ofNat 58, .ofNat 341), (.ofNat 0, .ofNat 4), (.ofNat 58, .ofNat 341)], [(57, 57, .inl (0, .ofNat 0)), (52, 6, .inl (3, .ofNat 0))], 2, [some (.inr [52]), some (.inr [20, 21, 22, 23, 24, 25, 26, 27]), some (.inl (.inl (.inr (.ofNat 57)))), some (.inl (.inl (.inl (2, .ofNat 0)))), none], []), ([], []), (4, [(-1, 2)]))
theorem ks612 : aseg kS krf kB [kE562, kE567, kE568, kE569] (ksp []) kE612 [kC612_0] 30000 (none) = true := by decide +kernel
theorem ks612_0 : aseg kS krf kB [kE562, kE567, kE568, kE569] (ksp []) kE612 [kC612_0] 30000 (some kC612_0) = true := by decide +kernel
theorem kok612 : aOK kS krf kB kE612 := aOK_of (kal1 kok562 (kal1 kok567 (kal1 kok568 (kal1 kok569 kal0)))) (kcl1 ks612_0 kcl0) ks612
/-- ColdShod$StrokePlan.addNext(LColdShod$Idea;I)V -/
def kE613 : aE := (83, 3, ([(.ofNat 0, .ofNat 3), (.ofNat 57, .ofNat 341)], [(57, 56, .inl (0, .ofNat 0)), (52, 6, .inl (1, .ofNat 0))], 0, [some (.inr [52]), some (.inr [20, 21, 22, 23, 24, 25, 26, 27]), some (.inl (.inl (.inr (.ofNat 56)))), none, none], []), ([], none), ([], [], none, ([], [])), ([(52, 6), (58, 0), (58, 1), (58, 2), (58, 3), (58, 4), (58, 5), (58, 6)], [54, 55, 56, 57]))
def kC613_0 : aC := (([(.ofNat 0, .ofNat 3), (.ofNat 57, .ofNat 341), (.ofNat 0, .ofNat 4), (.ofNat 57, .ofNat 341)], [(57, 56, .inl (0, .ofNat 0)), (52, 6, .inl (3, .ofNat 0))], 2, [some (.inr [52]), some (.inr [20, 21, 22, 23, 24, 25, 26, 27]), some (.inl (.inl (.inr (.ofNat 56)))), some (.inl (.inl (.inl (2, .ofNat 0)))), none], []), ([], []), (4, [(-1, 2)]))
theorem ks613 : aseg kS krf kB [kE562, kE567, kE568, kE569] (ksp []) kE613 [kC613_0] 30000 (none) = true := by decide +kernel
theorem ks613_0 : aseg kS krf kB [kE562, kE567, kE568, kE569] (ksp []) kE613 [kC613_0] 30000 (some kC613_0) = true := by decide +kernel
theorem kok613 : aOK kS krf kB kE613 := aOK_of (kal1 kok562 (kal1 kok567 (kal1 kok568 (kal1 kok569 kal0)))) (kcl1 ks613_0 kcl0) ks613
/-- ColdShod$StrokePlan.addNext(LColdShod$Idea;I)V -/
def kE614 : aE := (83, 3, ([(.ofNat 0, .ofNat 3), (.ofNat 56, .ofNat 341)], [(57, 55, .inl (0, .ofNat 0)), (52, 6, .inl (1, .ofNat 0))], 0, [some (.inr [52]), some (.inr [20, 21, 22, 23, 24, 25, 26, 27]), some (.inl (.inl (.inr (.ofNat 55)))), none, none], []), ([], none), ([], [], none, ([], [])), ([(52, 6), (58, 0), (58, 1), (58, 2), (58, 3), (58, 4), (58, 5), (58, 6)], [54, 55, 56, 57]))
def kC614_0 : aC := (([(.ofNat 0, .ofNat 3), (.ofNat 56, .ofNat 341), (.ofNat 0, .ofNat 4), (.ofNat 56, .ofNat 341)], [(57, 55, .inl (0, .ofNat 0)), (52, 6, .inl (3, .ofNat 0))], 2, [some (.inr [52]), some (.inr [20, 21, 22, 23, 24, 25, 26, 27]), some (.inl (.inl (.inr (.ofNat 55)))), some (.inl (.inl (.inl (2, .ofNat 0)))), none], []), ([], []), (4, [(-1, 2)]))
theorem ks614 : aseg kS krf kB [kE562, kE567, kE568, kE569] (ksp []) kE614 [kC614_0] 30000 (none) = true := by decide +kernel
theorem ks614_0 : aseg kS krf kB [kE562, kE567, kE568, kE569] (ksp []) kE614 [kC614_0] 30000 (some kC614_0) = true := by decide +kernel
theorem kok614 : aOK kS krf kB kE614 := aOK_of (kal1 kok562 (kal1 kok567 (kal1 kok568 (kal1 kok569 kal0)))) (kcl1 ks614_0 kcl0) ks614
/-- ColdShod$StrokePlan.addNext(LColdShod$Idea;I)V -/
def kE615 : aE := (83, 3, ([(.ofNat 0, .ofNat 3), (.ofNat 55, .ofNat 341)], [(57, 54, .inl (0, .ofNat 0)), (52, 6, .inl (1, .ofNat 0))], 0, [some (.inr [52]), some (.inr [20, 21, 22, 23, 24, 25, 26, 27]), some (.inl (.inl (.inr (.ofNat 54)))), none, none], []), ([], none), ([], [], none, ([], [])), ([(52, 6), (58, 0), (58, 1), (58, 2), (58, 3), (58, 4), (58, 5), (58, 6)], [54, 55, 56, 57]))
def kC615_0 : aC := (([(.ofNat 0, .ofNat 3), (.ofNat 55, .ofNat 341), (.ofNat 0, .ofNat 4), (.ofNat 55, .ofNat 341)], [(57, 54, .inl (0, .ofNat 0)), (52, 6, .inl (3, .ofNat 0))], 2, [some (.inr [52]), some (.inr [20, 21, 22, 23, 24, 25, 26, 27]), some (.inl (.inl (.inr (.ofNat 54)))), some (.inl (.inl (.inl (2, .ofNat 0)))), none], []), ([], []), (4, [(-1, 2)]))
theorem ks615 : aseg kS krf kB [kE562, kE567, kE568, kE569] (ksp []) kE615 [kC615_0] 30000 (none) = true := by decide +kernel
theorem ks615_0 : aseg kS krf kB [kE562, kE567, kE568, kE569] (ksp []) kE615 [kC615_0] 30000 (some kC615_0) = true := by decide +kernel
theorem kok615 : aOK kS krf kB kE615 := aOK_of (kal1 kok562 (kal1 kok567 (kal1 kok568 (kal1 kok569 kal0)))) (kcl1 ks615_0 kcl0) ks615
/-- ColdShod$StrokePlan.addNext(LColdShod$Idea;I)V -/
def kE616 : aE := (83, 3, ([(.ofNat 0, .ofNat 3), (.ofNat 54, .ofNat 341)], [(57, 53, .inl (0, .ofNat 0)), (52, 6, .inl (1, .ofNat 0))], 0, [some (.inr [52]), some (.inr [20, 21, 22, 23, 24, 25, 26, 27]), some (.inl (.inl (.inr (.ofNat 53)))), none, none], []), ([], none), ([], [], none, ([], [])), ([(52, 6), (58, 0), (58, 1), (58, 2), (58, 3), (58, 4), (58, 5), (58, 6)], [54, 55, 56, 57]))
def kC616_0 : aC := (([(.ofNat 0, .ofNat 3), (.ofNat 54, .ofNat 341), (.ofNat 0, .ofNat 4), (.ofNat 54, .ofNat 341)], [(57, 53, .inl (0, .ofNat 0)), (52, 6, .inl (3, .ofNat 0))], 2, [some (.inr [52]), some (.inr [20, 21, 22, 23, 24, 25, 26, 27]), some (.inl (.inl (.inr (.ofNat 53)))), some (.inl (.inl (.inl (2, .ofNat 0)))), none], []), ([], []), (4, [(-1, 2)]))
theorem ks616 : aseg kS krf kB [kE562, kE567, kE568, kE569] (ksp []) kE616 [kC616_0] 30000 (none) = true := by decide +kernel
theorem ks616_0 : aseg kS krf kB [kE562, kE567, kE568, kE569] (ksp []) kE616 [kC616_0] 30000 (some kC616_0) = true := by decide +kernel
theorem kok616 : aOK kS krf kB kE616 := aOK_of (kal1 kok562 (kal1 kok567 (kal1 kok568 (kal1 kok569 kal0)))) (kcl1 ks616_0 kcl0) ks616
/-- ColdShod$StrokePlan.addNext(LColdShod$Idea;I)V -/
def kE617 : aE := (83, 3, ([(.ofNat 0, .ofNat 3), (.ofNat 53, .ofNat 341)], [(57, 52, .inl (0, .ofNat 0)), (52, 6, .inl (1, .ofNat 0))], 0, [some (.inr [52]), some (.inr [20, 21, 22, 23, 24, 25, 26, 27]), some (.inl (.inl (.inr (.ofNat 52)))), none, none], []), ([], none), ([], [], none, ([], [])), ([(52, 6), (58, 0), (58, 1), (58, 2), (58, 3), (58, 4), (58, 5), (58, 6)], [54, 55, 56, 57]))
def kC617_0 : aC := (([(.ofNat 0, .ofNat 3), (.ofNat 53, .ofNat 341), (.ofNat 0, .ofNat 4), (.ofNat 53, .ofNat 341)], [(57, 52, .inl (0, .ofNat 0)), (52, 6, .inl (3, .ofNat 0))], 2, [some (.inr [52]), some (.inr [20, 21, 22, 23, 24, 25, 26, 27]), some (.inl (.inl (.inr (.ofNat 52)))), some (.inl (.inl (.inl (2, .ofNat 0)))), none], []), ([], []), (4, [(-1, 2)]))
theorem ks617 : aseg kS krf kB [kE562, kE567, kE568, kE569] (ksp []) kE617 [kC617_0] 30000 (none) = true := by decide +kernel
theorem ks617_0 : aseg kS krf kB [kE562, kE567, kE568, kE569] (ksp []) kE617 [kC617_0] 30000 (some kC617_0) = true := by decide +kernel
theorem kok617 : aOK kS krf kB kE617 := aOK_of (kal1 kok562 (kal1 kok567 (kal1 kok568 (kal1 kok569 kal0)))) (kcl1 ks617_0 kcl0) ks617
/-- ColdShod$StrokePlan.addNext(LColdShod$Idea;I)V -/
def kE618 : aE := (83, 3, ([(.ofNat 0, .ofNat 3), (.ofNat 52, .ofNat 341)], [(57, 51, .inl (0, .ofNat 0)), (52, 6, .inl (1, .ofNat 0))], 0, [some (.inr [52]), some (.inr [20, 21, 22, 23, 24, 25, 26, 27]), some (.inl (.inl (.inr (.ofNat 51)))), none, none], []), ([], none), ([], [], none, ([], [])), ([(52, 6), (58, 0), (58, 1), (58, 2), (58, 3), (58, 4), (58, 5), (58, 6)], [54, 55, 56, 57]))
def kC618_0 : aC := (([(.ofNat 0, .ofNat 3), (.ofNat 52, .ofNat 341), (.ofNat 0, .ofNat 4), (.ofNat 52, .ofNat 341)], [(57, 51, .inl (0, .ofNat 0)), (52, 6, .inl (3, .ofNat 0))], 2, [some (.inr [52]), some (.inr [20, 21, 22, 23, 24, 25, 26, 27]), some (.inl (.inl (.inr (.ofNat 51)))), some (.inl (.inl (.inl (2, .ofNat 0)))), none], []), ([], []), (4, [(-1, 2)]))
theorem ks618 : aseg kS krf kB [kE562, kE567, kE568, kE569] (ksp []) kE618 [kC618_0] 30000 (none) = true := by decide +kernel
theorem ks618_0 : aseg kS krf kB [kE562, kE567, kE568, kE569] (ksp []) kE618 [kC618_0] 30000 (some kC618_0) = true := by decide +kernel
theorem kok618 : aOK kS krf kB kE618 := aOK_of (kal1 kok562 (kal1 kok567 (kal1 kok568 (kal1 kok569 kal0)))) (kcl1 ks618_0 kcl0) ks618
/-- ColdShod$StrokePlan.addNext(LColdShod$Idea;I)V -/
def kE619 : aE := (83, 3, ([(.ofNat 0, .ofNat 3), (.ofNat 51, .ofNat 341)], [(57, 50, .inl (0, .ofNat 0)), (52, 6, .inl (1, .ofNat 0))], 0, [some (.inr [52]), some (.inr [20, 21, 22, 23, 24, 25, 26, 27]), some (.inl (.inl (.inr (.ofNat 50)))), none, none], []), ([], none), ([], [], none, ([], [])), ([(52, 6), (58, 0), (58, 1), (58, 2), (58, 3), (58, 4), (58, 5), (58, 6)], [54, 55, 56, 57]))
def kC619_0 : aC := (([(.ofNat 0, .ofNat 3), (.ofNat 51, .ofNat 341), (.ofNat 0, .ofNat 4), (.ofNat 51, .ofNat 341)], [(57, 50, .inl (0, .ofNat 0)), (52, 6, .inl (3, .ofNat 0))], 2, [some (.inr [52]), some (.inr [20, 21, 22, 23, 24, 25, 26, 27]), some (.inl (.inl (.inr (.ofNat 50)))), some (.inl (.inl (.inl (2, .ofNat 0)))), none], []), ([], []), (4, [(-1, 2)]))
theorem ks619 : aseg kS krf kB [kE562, kE567, kE568, kE569] (ksp []) kE619 [kC619_0] 30000 (none) = true := by decide +kernel
theorem ks619_0 : aseg kS krf kB [kE562, kE567, kE568, kE569] (ksp []) kE619 [kC619_0] 30000 (some kC619_0) = true := by decide +kernel
theorem kok619 : aOK kS krf kB kE619 := aOK_of (kal1 kok562 (kal1 kok567 (kal1 kok568 (kal1 kok569 kal0)))) (kcl1 ks619_0 kcl0) ks619
/-- ColdShod$StrokePlan.addNext(LColdShod$Idea;I)V -/
def kE620 : aE := (83, 3, ([(.ofNat 0, .ofNat 3), (.ofNat 50, .ofNat 341)], [(57, 49, .inl (0, .ofNat 0)), (52, 6, .inl (1, .ofNat 0))], 0, [some (.inr [52]), some (.inr [20, 21, 22, 23, 24, 25, 26, 27]), some (.inl (.inl (.inr (.ofNat 49)))), none, none], []), ([], none), ([], [], none, ([], [])), ([(52, 6), (58, 0), (58, 1), (58, 2), (58, 3), (58, 4), (58, 5), (58, 6)], [54, 55, 56, 57]))
def kC620_0 : aC := (([(.ofNat 0, .ofNat 3), (.ofNat 50, .ofNat 341), (.ofNat 0, .ofNat 4), (.ofNat 50, .ofNat 341)], [(57, 49, .inl (0, .ofNat 0)), (52, 6, .inl (3, .ofNat 0))], 2, [some (.inr [52]), some (.inr [20, 21, 22, 23, 24, 25, 26, 27]), some (.inl (.inl (.inr (.ofNat 49)))), some (.inl (.inl (.inl (2, .ofNat 0)))), none], []), ([], []), (4, [(-1, 2)]))
theorem ks620 : aseg kS krf kB [kE562, kE567, kE568, kE569] (ksp []) kE620 [kC620_0] 30000 (none) = true := by decide +kernel
theorem ks620_0 : aseg kS krf kB [kE562, kE567, kE568, kE569] (ksp []) kE620 [kC620_0] 30000 (some kC620_0) = true := by decide +kernel
theorem kok620 : aOK kS krf kB kE620 := aOK_of (kal1 kok562 (kal1 kok567 (kal1 kok568 (kal1 kok569 kal0)))) (kcl1 ks620_0 kcl0) ks620
/-- ColdShod$StrokePlan.addNext(LColdShod$Idea;I)V -/
def kE621 : aE := (83, 3, ([(.ofNat 0, .ofNat 3), (.ofNat 49, .ofNat 341)], [(57, 48, .inl (0, .ofNat 0)), (52, 6, .inl (1, .ofNat 0))], 0, [some (.inr [52]), some (.inr [20, 21, 22, 23, 24, 25, 26, 27]), some (.inl (.inl (.inr (.ofNat 48)))), none, none], []), ([], none), ([], [], none, ([], [])), ([(52, 6), (58, 0), (58, 1), (58, 2), (58, 3), (58, 4), (58, 5), (58, 6)], [54, 55, 56, 57]))
def kC621_0 : aC := (([(.ofNat 0, .ofNat 3), (.ofNat 49, .ofNat 341), (.ofNat 0, .ofNat 4), (.ofNat 49, .ofNat 341)], [(57, 48, .inl (0, .ofNat 0)), (52, 6, .inl (3, .ofNat 0))], 2, [some (.inr [52]), some (.inr [20, 21, 22, 23, 24, 25, 26, 27]), some (.inl (.inl (.inr (.ofNat 48)))), some (.inl (.inl (.inl (2, .ofNat 0)))), none], []), ([], []), (4, [(-1, 2)]))
theorem ks621 : aseg kS krf kB [kE562, kE567, kE568, kE569] (ksp []) kE621 [kC621_0] 30000 (none) = true := by decide +kernel
theorem ks621_0 : aseg kS krf kB [kE562, kE567, kE568, kE569] (ksp []) kE621 [kC621_0] 30000 (some kC621_0) = true := by decide +kernel
theorem kok621 : aOK kS krf kB kE621 := aOK_of (kal1 kok562 (kal1 kok567 (kal1 kok568 (kal1 kok569 kal0)))) (kcl1 ks621_0 kcl0) ks621
/-- ColdShod$StrokePlan.addNext(LColdShod$Idea;I)V -/
def kE622 : aE := (83, 3, ([(.ofNat 0, .ofNat 3), (.ofNat 48, .ofNat 341)], [(57, 47, .inl (0, .ofNat 0)), (52, 6, .inl (1, .ofNat 0))], 0, [some (.inr [52]), some (.inr [20, 21, 22, 23, 24, 25, 26, 27]), some (.inl (.inl (.inr (.ofNat 47)))), none, none], []), ([], none), ([], [], none, ([], [])), ([(52, 6), (58, 0), (58, 1), (58, 2), (58, 3), (58, 4), (58, 5), (58, 6)], [54, 55, 56, 57]))
def kC622_0 : aC := (([(.ofNat 0, .ofNat 3), (.ofNat 48, .ofNat 341), (.ofNat 0, .ofNat 4), (.ofNat 48, .ofNat 341)], [(57, 47, .inl (0, .ofNat 0)), (52, 6, .inl (3, .ofNat 0))], 2, [some (.inr [52]), some (.inr [20, 21, 22, 23, 24, 25, 26, 27]), some (.inl (.inl (.inr (.ofNat 47)))), some (.inl (.inl (.inl (2, .ofNat 0)))), none], []), ([], []), (4, [(-1, 2)]))
theorem ks622 : aseg kS krf kB [kE562, kE567, kE568, kE569] (ksp []) kE622 [kC622_0] 30000 (none) = true := by decide +kernel
theorem ks622_0 : aseg kS krf kB [kE562, kE567, kE568, kE569] (ksp []) kE622 [kC622_0] 30000 (some kC622_0) = true := by decide +kernel
theorem kok622 : aOK kS krf kB kE622 := aOK_of (kal1 kok562 (kal1 kok567 (kal1 kok568 (kal1 kok569 kal0)))) (kcl1 ks622_0 kcl0) ks622
/-- ColdShod$StrokePlan.addNext(LColdShod$Idea;I)V -/
def kE623 : aE := (83, 3, ([(.ofNat 0, .ofNat 3), (.ofNat 47, .ofNat 341)], [(57, 46, .inl (0, .ofNat 0)), (52, 6, .inl (1, .ofNat 0))], 0, [some (.inr [52]), some (.inr [20, 21, 22, 23, 24, 25, 26, 27]), some (.inl (.inl (.inr (.ofNat 46)))), none, none], []), ([], none), ([], [], none, ([], [])), ([(52, 6), (58, 0), (58, 1), (58, 2), (58, 3), (58, 4), (58, 5), (58, 6)], [54, 55, 56, 57]))
def kC623_0 : aC := (([(.ofNat 0, .ofNat 3), (.ofNat 47, .ofNat 341), (.ofNat 0, .ofNat 4), (.ofNat 47, .ofNat 341)], [(57, 46, .inl (0, .ofNat 0)), (52, 6, .inl (3, .ofNat 0))], 2, [some (.inr [52]), some (.inr [20, 21, 22, 23, 24, 25, 26, 27]), some (.inl (.inl (.inr (.ofNat 46)))), some (.inl (.inl (.inl (2, .ofNat 0)))), none], []), ([], []), (4, [(-1, 2)]))
theorem ks623 : aseg kS krf kB [kE562, kE567, kE568, kE569] (ksp []) kE623 [kC623_0] 30000 (none) = true := by decide +kernel
theorem ks623_0 : aseg kS krf kB [kE562, kE567, kE568, kE569] (ksp []) kE623 [kC623_0] 30000 (some kC623_0) = true := by decide +kernel
theorem kok623 : aOK kS krf kB kE623 := aOK_of (kal1 kok562 (kal1 kok567 (kal1 kok568 (kal1 kok569 kal0)))) (kcl1 ks623_0 kcl0) ks623
/-- ColdShod$StrokePlan.addNext(LColdShod$Idea;I)V -/
def kE624 : aE := (83, 3, ([(.ofNat 0, .ofNat 3), (.ofNat 46, .ofNat 341)], [(57, 45, .inl (0, .ofNat 0)), (52, 6, .inl (1, .ofNat 0))], 0, [some (.inr [52]), some (.inr [20, 21, 22, 23, 24, 25, 26, 27]), some (.inl (.inl (.inr (.ofNat 45)))), none, none], []), ([], none), ([], [], none, ([], [])), ([(52, 6), (58, 0), (58, 1), (58, 2), (58, 3), (58, 4), (58, 5), (58, 6)], [54, 55, 56, 57]))
def kC624_0 : aC := (([(.ofNat 0, .ofNat 3), (.ofNat 46, .ofNat 341), (.ofNat 0, .ofNat 4), (.ofNat 46, .ofNat 341)], [(57, 45, .inl (0, .ofNat 0)), (52, 6, .inl (3, .ofNat 0))], 2, [some (.inr [52]), some (.inr [20, 21, 22, 23, 24, 25, 26, 27]), some (.inl (.inl (.inr (.ofNat 45)))), some (.inl (.inl (.inl (2, .ofNat 0)))), none], []), ([], []), (4, [(-1, 2)]))
theorem ks624 : aseg kS krf kB [kE562, kE567, kE568, kE569] (ksp []) kE624 [kC624_0] 30000 (none) = true := by decide +kernel
theorem ks624_0 : aseg kS krf kB [kE562, kE567, kE568, kE569] (ksp []) kE624 [kC624_0] 30000 (some kC624_0) = true := by decide +kernel
theorem kok624 : aOK kS krf kB kE624 := aOK_of (kal1 kok562 (kal1 kok567 (kal1 kok568 (kal1 kok569 kal0)))) (kcl1 ks624_0 kcl0) ks624
/-- ColdShod$StrokePlan.addNext(LColdShod$Idea;I)V -/
def kE625 : aE := (83, 3, ([(.ofNat 0, .ofNat 3), (.ofNat 45, .ofNat 341)], [(57, 44, .inl (0, .ofNat 0)), (52, 6, .inl (1, .ofNat 0))], 0, [some (.inr [52]), some (.inr [20, 21, 22, 23, 24, 25, 26, 27]), some (.inl (.inl (.inr (.ofNat 44)))), none, none], []), ([], none), ([], [], none, ([], [])), ([(52, 6), (58, 0), (58, 1), (58, 2), (58, 3), (58, 4), (58, 5), (58, 6)], [54, 55, 56, 57]))
def kC625_0 : aC := (([(.ofNat 0, .ofNat 3), (.ofNat 45, .ofNat 341), (.ofNat 0, .ofNat 4), (.ofNat 45, .ofNat 341)], [(57, 44, .inl (0, .ofNat 0)), (52, 6, .inl (3, .ofNat 0))], 2, [some (.inr [52]), some (.inr [20, 21, 22, 23, 24, 25, 26, 27]), some (.inl (.inl (.inr (.ofNat 44)))), some (.inl (.inl (.inl (2, .ofNat 0)))), none], []), ([], []), (4, [(-1, 2)]))
theorem ks625 : aseg kS krf kB [kE562, kE567, kE568, kE569] (ksp []) kE625 [kC625_0] 30000 (none) = true := by decide +kernel
theorem ks625_0 : aseg kS krf kB [kE562, kE567, kE568, kE569] (ksp []) kE625 [kC625_0] 30000 (some kC625_0) = true := by decide +kernel
theorem kok625 : aOK kS krf kB kE625 := aOK_of (kal1 kok562 (kal1 kok567 (kal1 kok568 (kal1 kok569 kal0)))) (kcl1 ks625_0 kcl0) ks625
/-- ColdShod$StrokePlan.addNext(LColdShod$Idea;I)V -/
def kE626 : aE := (83, 3, ([(.ofNat 0, .ofNat 3), (.ofNat 44, .ofNat 341)], [(57, 43, .inl (0, .ofNat 0)), (52, 6, .inl (1, .ofNat 0))], 0, [some (.inr [52]), some (.inr [20, 21, 22, 23, 24, 25, 26, 27]), some (.inl (.inl (.inr (.ofNat 43)))), none, none], []), ([], none), ([], [], none, ([], [])), ([(52, 6), (58, 0), (58, 1), (58, 2), (58, 3), (58, 4), (58, 5), (58, 6)], [54, 55, 56, 57]))
def kC626_0 : aC := (([(.ofNat 0, .ofNat 3), (.ofNat 44, .ofNat 341), (.ofNat 0, .ofNat 4), (.ofNat 44, .ofNat 341)], [(57, 43, .inl (0, .ofNat 0)), (52, 6, .inl (3, .ofNat 0))], 2, [some (.inr [52]), some (.inr [20, 21, 22, 23, 24, 25, 26, 27]), some (.inl (.inl (.inr (.ofNat 43)))), some (.inl (.inl (.inl (2, .ofNat 0)))), none], []), ([], []), (4, [(-1, 2)]))
theorem ks626 : aseg kS krf kB [kE562, kE567, kE568, kE569] (ksp []) kE626 [kC626_0] 30000 (none) = true := by decide +kernel
theorem ks626_0 : aseg kS krf kB [kE562, kE567, kE568, kE569] (ksp []) kE626 [kC626_0] 30000 (some kC626_0) = true := by decide +kernel
theorem kok626 : aOK kS krf kB kE626 := aOK_of (kal1 kok562 (kal1 kok567 (kal1 kok568 (kal1 kok569 kal0)))) (kcl1 ks626_0 kcl0) ks626
/-- ColdShod$StrokePlan.addNext(LColdShod$Idea;I)V -/
def kE627 : aE := (83, 3, ([(.ofNat 0, .ofNat 3), (.ofNat 43, .ofNat 341)], [(57, 42, .inl (0, .ofNat 0)), (52, 6, .inl (1, .ofNat 0))], 0, [some (.inr [52]), some (.inr [20, 21, 22, 23, 24, 25, 26, 27]), some (.inl (.inl (.inr (.ofNat 42)))), none, none], []), ([], none), ([], [], none, ([], [])), ([(52, 6), (58, 0), (58, 1), (58, 2), (58, 3), (58, 4), (58, 5), (58, 6)], [54, 55, 56, 57]))
def kC627_0 : aC := (([(.ofNat 0, .ofNat 3), (.ofNat 43, .ofNat 341), (.ofNat 0, .ofNat 4), (.ofNat 43, .ofNat 341)], [(57, 42, .inl (0, .ofNat 0)), (52, 6, .inl (3, .ofNat 0))], 2, [some (.inr [52]), some (.inr [20, 21, 22, 23, 24, 25, 26, 27]), some (.inl (.inl (.inr (.ofNat 42)))), some (.inl (.inl (.inl (2, .ofNat 0)))), none], []), ([], []), (4, [(-1, 2)]))
theorem ks627 : aseg kS krf kB [kE562, kE567, kE568, kE569] (ksp []) kE627 [kC627_0] 30000 (none) = true := by decide +kernel
theorem ks627_0 : aseg kS krf kB [kE562, kE567, kE568, kE569] (ksp []) kE627 [kC627_0] 30000 (some kC627_0) = true := by decide +kernel
theorem kok627 : aOK kS krf kB kE627 := aOK_of (kal1 kok562 (kal1 kok567 (kal1 kok568 (kal1 kok569 kal0)))) (kcl1 ks627_0 kcl0) ks627
/-- ColdShod$StrokePlan.addNext(LColdShod$Idea;I)V -/
def kE628 : aE := (83, 3, ([(.ofNat 0, .ofNat 3), (.ofNat 42, .ofNat 341)], [(57, 41, .inl (0, .ofNat 0)), (52, 6, .inl (1, .ofNat 0))], 0, [some (.inr [52]), some (.inr [20, 21, 22, 23, 24, 25, 26, 27]), some (.inl (.inl (.inr (.ofNat 41)))), none, none], []), ([], none), ([], [], none, ([], [])), ([(52, 6), (58, 0), (58, 1), (58, 2), (58, 3), (58, 4), (58, 5), (58, 6)], [54, 55, 56, 57]))
def kC628_0 : aC := (([(.ofNat 0, .ofNat 3), (.ofNat 42, .ofNat 341), (.ofNat 0, .ofNat 4), (.ofNat 42, .ofNat 341)], [(57, 41, .inl (0, .ofNat 0)), (52, 6, .inl (3, .ofNat 0))], 2, [some (.inr [52]), some (.inr [20, 21, 22, 23, 24, 25, 26, 27]), some (.inl (.inl (.inr (.ofNat 41)))), some (.inl (.inl (.inl (2, .ofNat 0)))), none], []), ([], []), (4, [(-1, 2)]))
theorem ks628 : aseg kS krf kB [kE562, kE567, kE568, kE569] (ksp []) kE628 [kC628_0] 30000 (none) = true := by decide +kernel
theorem ks628_0 : aseg kS krf kB [kE562, kE567, kE568, kE569] (ksp []) kE628 [kC628_0] 30000 (some kC628_0) = true := by decide +kernel
theorem kok628 : aOK kS krf kB kE628 := aOK_of (kal1 kok562 (kal1 kok567 (kal1 kok568 (kal1 kok569 kal0)))) (kcl1 ks628_0 kcl0) ks628
/-- ColdShod$StrokePlan.addNext(LColdShod$Idea;I)V -/
def kE629 : aE := (83, 3, ([(.ofNat 0, .ofNat 3), (.ofNat 41, .ofNat 341)], [(57, 40, .inl (0, .ofNat 0)), (52, 6, .inl (1, .ofNat 0))], 0, [some (.inr [52]), some (.inr [20, 21, 22, 23, 24, 25, 26, 27]), some (.inl (.inl (.inr (.ofNat 40)))), none, none], []), ([], none), ([], [], none, ([], [])), ([(52, 6), (58, 0), (58, 1), (58, 2), (58, 3), (58, 4), (58, 5), (58, 6)], [54, 55, 56, 57]))
def kC629_0 : aC := (([(.ofNat 0, .ofNat 3), (.ofNat 41, .ofNat 341), (.ofNat 0, .ofNat 4), (.ofNat 41, .ofNat 341)], [(57, 40, .inl (0, .ofNat 0)), (52, 6, .inl (3, .ofNat 0))], 2, [some (.inr [52]), some (.inr [20, 21, 22, 23, 24, 25, 26, 27]), some (.inl (.inl (.inr (.ofNat 40)))), some (.inl (.inl (.inl (2, .ofNat 0)))), none], []), ([], []), (4, [(-1, 2)]))
theorem ks629 : aseg kS krf kB [kE562, kE567, kE568, kE569] (ksp []) kE629 [kC629_0] 30000 (none) = true := by decide +kernel
theorem ks629_0 : aseg kS krf kB [kE562, kE567, kE568, kE569] (ksp []) kE629 [kC629_0] 30000 (some kC629_0) = true := by decide +kernel
theorem kok629 : aOK kS krf kB kE629 := aOK_of (kal1 kok562 (kal1 kok567 (kal1 kok568 (kal1 kok569 kal0)))) (kcl1 ks629_0 kcl0) ks629
/-- ColdShod$StrokePlan.addNext(LColdShod$Idea;I)V -/
def kE630 : aE := (83, 3, ([(.ofNat 0, .ofNat 3), (.ofNat 40, .ofNat 341)], [(57, 39, .inl (0, .ofNat 0)), (52, 6, .inl (1, .ofNat 0))], 0, [some (.inr [52]), some (.inr [20, 21, 22, 23, 24, 25, 26, 27]), some (.inl (.inl (.inr (.ofNat 39)))), none, none], []), ([], none), ([], [], none, ([], [])), ([(52, 6), (58, 0), (58, 1), (58, 2), (58, 3), (58, 4), (58, 5), (58, 6)], [54, 55, 56, 57]))
def kC630_0 : aC := (([(.ofNat 0, .ofNat 3), (.ofNat 40, .ofNat 341), (.ofNat 0, .ofNat 4), (.ofNat 40, .ofNat 341)], [(57, 39, .inl (0, .ofNat 0)), (52, 6, .inl (3, .ofNat 0))], 2, [some (.inr [52]), some (.inr [20, 21, 22, 23, 24, 25, 26, 27]), some (.inl (.inl (.inr (.ofNat 39)))), some (.inl (.inl (.inl (2, .ofNat 0)))), none], []), ([], []), (4, [(-1, 2)]))
theorem ks630 : aseg kS krf kB [kE562, kE567, kE568, kE569] (ksp []) kE630 [kC630_0] 30000 (none) = true := by decide +kernel
theorem ks630_0 : aseg kS krf kB [kE562, kE567, kE568, kE569] (ksp []) kE630 [kC630_0] 30000 (some kC630_0) = true := by decide +kernel
theorem kok630 : aOK kS krf kB kE630 := aOK_of (kal1 kok562 (kal1 kok567 (kal1 kok568 (kal1 kok569 kal0)))) (kcl1 ks630_0 kcl0) ks630
/-- ColdShod$StrokePlan.addNext(LColdShod$Idea;I)V -/
def kE631 : aE := (83, 3, ([(.ofNat 0, .ofNat 3), (.ofNat 39, .ofNat 341)], [(57, 38, .inl (0, .ofNat 0)), (52, 6, .inl (1, .ofNat 0))], 0, [some (.inr [52]), some (.inr [20, 21, 22, 23, 24, 25, 26, 27]), some (.inl (.inl (.inr (.ofNat 38)))), none, none], []), ([], none), ([], [], none, ([], [])), ([(52, 6), (58, 0), (58, 1), (58, 2), (58, 3), (58, 4), (58, 5), (58, 6)], [54, 55, 56, 57]))
def kC631_0 : aC := (([(.ofNat 0, .ofNat 3), (.ofNat 39, .ofNat 341), (.ofNat 0, .ofNat 4), (.ofNat 39, .ofNat 341)], [(57, 38, .inl (0, .ofNat 0)), (52, 6, .inl (3, .ofNat 0))], 2, [some (.inr [52]), some (.inr [20, 21, 22, 23, 24, 25, 26, 27]), some (.inl (.inl (.inr (.ofNat 38)))), some (.inl (.inl (.inl (2, .ofNat 0)))), none], []), ([], []), (4, [(-1, 2)]))
theorem ks631 : aseg kS krf kB [kE562, kE567, kE568, kE569] (ksp []) kE631 [kC631_0] 30000 (none) = true := by decide +kernel
theorem ks631_0 : aseg kS krf kB [kE562, kE567, kE568, kE569] (ksp []) kE631 [kC631_0] 30000 (some kC631_0) = true := by decide +kernel
theorem kok631 : aOK kS krf kB kE631 := aOK_of (kal1 kok562 (kal1 kok567 (kal1 kok568 (kal1 kok569 kal0)))) (kcl1 ks631_0 kcl0) ks631
/-- ColdShod$StrokePlan.addNext(LColdShod$Idea;I)V -/
def kE632 : aE := (83, 3, ([(.ofNat 0, .ofNat 3), (.ofNat 38, .ofNat 341)], [(57, 37, .inl (0, .ofNat 0)), (52, 6, .inl (1, .ofNat 0))], 0, [some (.inr [52]), some (.inr [20, 21, 22, 23, 24, 25, 26, 27]), some (.inl (.inl (.inr (.ofNat 37)))), none, none], []), ([], none), ([], [], none, ([], [])), ([(52, 6), (58, 0), (58, 1), (58, 2), (58, 3), (58, 4), (58, 5), (58, 6)], [54, 55, 56, 57]))
def kC632_0 : aC := (([(.ofNat 0, .ofNat 3), (.ofNat 38, .ofNat 341), (.ofNat 0, .ofNat 4), (.ofNat 38, .ofNat 341)], [(57, 37, .inl (0, .ofNat 0)), (52, 6, .inl (3, .ofNat 0))], 2, [some (.inr [52]), some (.inr [20, 21, 22, 23, 24, 25, 26, 27]), some (.inl (.inl (.inr (.ofNat 37)))), some (.inl (.inl (.inl (2, .ofNat 0)))), none], []), ([], []), (4, [(-1, 2)]))
theorem ks632 : aseg kS krf kB [kE562, kE567, kE568, kE569] (ksp []) kE632 [kC632_0] 30000 (none) = true := by decide +kernel
theorem ks632_0 : aseg kS krf kB [kE562, kE567, kE568, kE569] (ksp []) kE632 [kC632_0] 30000 (some kC632_0) = true := by decide +kernel
theorem kok632 : aOK kS krf kB kE632 := aOK_of (kal1 kok562 (kal1 kok567 (kal1 kok568 (kal1 kok569 kal0)))) (kcl1 ks632_0 kcl0) ks632
/-- ColdShod$StrokePlan.addNext(LColdShod$Idea;I)V -/
def kE633 : aE := (83, 3, ([(.ofNat 0, .ofNat 3), (.ofNat 37, .ofNat 341)], [(57, 36, .inl (0, .ofNat 0)), (52, 6, .inl (1, .ofNat 0))], 0, [some (.inr [52]), some (.inr [20, 21, 22, 23, 24, 25, 26, 27]), some (.inl (.inl (.inr (.ofNat 36)))), none, none], []), ([], none), ([], [], none, ([], [])), ([(52, 6), (58, 0), (58, 1), (58, 2), (58, 3), (58, 4), (58, 5), (58, 6)], [54, 55, 56, 57]))
def kC633_0 : aC := (([(.ofNat 0, .ofNat 3), (.ofNat 37, .ofNat 341), (.ofNat 0, .ofNat 4), (.ofNat 37, .ofNat 341)], [(57, 36, .inl (0, .ofNat 0)), (52, 6, .inl (3, .ofNat 0))], 2, [some (.inr [52]), some (.inr [20, 21, 22, 23, 24, 25, 26, 27]), some (.inl (.inl (.inr (.ofNat 36)))), some (.inl (.inl (.inl (2, .ofNat 0)))), none], []), ([], []), (4, [(-1, 2)]))
theorem ks633 : aseg kS krf kB [kE562, kE567, kE568, kE569] (ksp []) kE633 [kC633_0] 30000 (none) = true := by decide +kernel
theorem ks633_0 : aseg kS krf kB [kE562, kE567, kE568, kE569] (ksp []) kE633 [kC633_0] 30000 (some kC633_0) = true := by decide +kernel
theorem kok633 : aOK kS krf kB kE633 := aOK_of (kal1 kok562 (kal1 kok567 (kal1 kok568 (kal1 kok569 kal0)))) (kcl1 ks633_0 kcl0) ks633
/-- ColdShod$StrokePlan.addNext(LColdShod$Idea;I)V -/
def kE634 : aE := (83, 3, ([(.ofNat 0, .ofNat 3), (.ofNat 36, .ofNat 341)], [(57, 35, .inl (0, .ofNat 0)), (52, 6, .inl (1, .ofNat 0))], 0, [some (.inr [52]), some (.inr [20, 21, 22, 23, 24, 25, 26, 27]), some (.inl (.inl (.inr (.ofNat 35)))), none, none], []), ([], none), ([], [], none, ([], [])), ([(52, 6), (58, 0), (58, 1), (58, 2), (58, 3), (58, 4), (58, 5), (58, 6)], [54, 55, 56, 57]))
def kC634_0 : aC := (([(.ofNat 0, .ofNat 3), (.ofNat 36, .ofNat 341), (.ofNat 0, .ofNat 4), (.ofNat 36, .ofNat 341)], [(57, 35, .inl (0, .ofNat 0)), (52, 6, .inl (3, .ofNat 0))], 2, [some (.inr [52]), some (.inr [20, 21, 22, 23, 24, 25, 26, 27]), some (.inl (.inl (.inr (.ofNat 35)))), some (.inl (.inl (.inl (2, .ofNat 0)))), none], []), ([], []), (4, [(-1, 2)]))
theorem ks634 : aseg kS krf kB [kE562, kE567, kE568, kE569] (ksp []) kE634 [kC634_0] 30000 (none) = true := by decide +kernel
theorem ks634_0 : aseg kS krf kB [kE562, kE567, kE568, kE569] (ksp []) kE634 [kC634_0] 30000 (some kC634_0) = true := by decide +kernel
theorem kok634 : aOK kS krf kB kE634 := aOK_of (kal1 kok562 (kal1 kok567 (kal1 kok568 (kal1 kok569 kal0)))) (kcl1 ks634_0 kcl0) ks634
/-- ColdShod$StrokePlan.addNext(LColdShod$Idea;I)V -/
def kE635 : aE := (83, 3, ([(.ofNat 0, .ofNat 3), (.ofNat 35, .ofNat 341)], [(57, 34, .inl (0, .ofNat 0)), (52, 6, .inl (1, .ofNat 0))], 0, [some (.inr [52]), some (.inr [20, 21, 22, 23, 24, 25, 26, 27]), some (.inl (.inl (.inr (.ofNat 34)))), none, none], []), ([], none), ([], [], none, ([], [])), ([(52, 6), (58, 0), (58, 1), (58, 2), (58, 3), (58, 4), (58, 5), (58, 6)], [54, 55, 56, 57]))
def kC635_0 : aC := (([(.ofNat 0, .ofNat 3), (.ofNat 35, .ofNat 341), (.ofNat 0, .ofNat 4), (.ofNat 35, .ofNat 341)], [(57, 34, .inl (0, .ofNat 0)), (52, 6, .inl (3, .ofNat 0))], 2, [some (.inr [52]), some (.inr [20, 21, 22, 23, 24, 25, 26, 27]), some (.inl (.inl (.inr (.ofNat 34)))), some (.inl (.inl (.inl (2, .ofNat 0)))), none], []), ([], []), (4, [(-1, 2)]))
theorem ks635 : aseg kS krf kB [kE562, kE567, kE568, kE569] (ksp []) kE635 [kC635_0] 30000 (none) = true := by decide +kernel
theorem ks635_0 : aseg kS krf kB [kE562, kE567, kE568, kE569] (ksp []) kE635 [kC635_0] 30000 (some kC635_0) = true := by decide +kernel
theorem kok635 : aOK kS krf kB kE635 := aOK_of (kal1 kok562 (kal1 kok567 (kal1 kok568 (kal1 kok569 kal0)))) (kcl1 ks635_0 kcl0) ks635
/-- ColdShod$StrokePlan.addNext(LColdShod$Idea;I)V -/
def kE636 : aE := (83, 3, ([(.ofNat 0, .ofNat 3), (.ofNat 34, .ofNat 341)], [(57, 33, .inl (0, .ofNat 0)), (52, 6, .inl (1, .ofNat 0))], 0, [some (.inr [52]), some (.inr [20, 21, 22, 23, 24, 25, 26, 27]), some (.inl (.inl (.inr (.ofNat 33)))), none, none], []), ([], none), ([], [], none, ([], [])), ([(52, 6), (58, 0), (58, 1), (58, 2), (58, 3), (58, 4), (58, 5), (58, 6)], [54, 55, 56, 57]))
def kC636_0 : aC := (([(.ofNat 0, .ofNat 3), (.ofNat 34, .ofNat 341), (.ofNat 0, .ofNat 4), (.ofNat 34, .ofNat 341)], [(57, 33, .inl (0, .ofNat 0)), (52, 6, .inl (3, .ofNat 0))], 2, [some (.inr [52]), some (.inr [20, 21, 22, 23, 24, 25, 26, 27]), some (.inl (.inl (.inr (.ofNat 33)))), some (.inl (.inl (.inl (2, .ofNat 0)))), none], []), ([], []), (4, [(-1, 2)]))
theorem ks636 : aseg kS krf kB [kE562, kE567, kE568, kE569] (ksp []) kE636 [kC636_0] 30000 (none) = true := by decide +kernel
theorem ks636_0 : aseg kS krf kB [kE562, kE567, kE568, kE569] (ksp []) kE636 [kC636_0] 30000 (some kC636_0) = true := by decide +kernel
theorem kok636 : aOK kS krf kB kE636 := aOK_of (kal1 kok562 (kal1 kok567 (kal1 kok568 (kal1 kok569 kal0)))) (kcl1 ks636_0 kcl0) ks636
/-- ColdShod$StrokePlan.addNext(LColdShod$Idea;I)V -/
def kE637 : aE := (83, 3, ([(.ofNat 0, .ofNat 3), (.ofNat 33, .ofNat 341)], [(57, 32, .inl (0, .ofNat 0)), (52, 6, .inl (1, .ofNat 0))], 0, [some (.inr [52]), some (.inr [20, 21, 22, 23, 24, 25, 26, 27]), some (.inl (.inl (.inr (.ofNat 32)))), none, none], []), ([], none), ([], [], none, ([], [])), ([(52, 6), (58, 0), (58, 1), (58, 2), (58, 3), (58, 4), (58, 5), (58, 6)], [54, 55, 56, 57]))
def kC637_0 : aC := (([(.ofNat 0, .ofNat 3), (.ofNat 33, .ofNat 341), (.ofNat 0, .ofNat 4), (.ofNat 33, .ofNat 341)], [(57, 32, .inl (0, .ofNat 0)), (52, 6, .inl (3, .ofNat 0))], 2, [some (.inr [52]), some (.inr [20, 21, 22, 23, 24, 25, 26, 27]), some (.inl (.inl (.inr (.ofNat 32)))), some (.inl (.inl (.inl (2, .ofNat 0)))), none], []), ([], []), (4, [(-1, 2)]))
theorem ks637 : aseg kS krf kB [kE562, kE567, kE568, kE569] (ksp []) kE637 [kC637_0] 30000 (none) = true := by decide +kernel
theorem ks637_0 : aseg kS krf kB [kE562, kE567, kE568, kE569] (ksp []) kE637 [kC637_0] 30000 (some kC637_0) = true := by decide +kernel
theorem kok637 : aOK kS krf kB kE637 := aOK_of (kal1 kok562 (kal1 kok567 (kal1 kok568 (kal1 kok569 kal0)))) (kcl1 ks637_0 kcl0) ks637
/-- ColdShod$StrokePlan.addNext(LColdShod$Idea;I)V -/
def kE638 : aE := (83, 3, ([(.ofNat 0, .ofNat 3), (.ofNat 32, .ofNat 341)], [(57, 31, .inl (0, .ofNat 0)), (52, 6, .inl (1, .ofNat 0))], 0, [some (.inr [52]), some (.inr [20, 21, 22, 23, 24, 25, 26, 27]), some (.inl (.inl (.inr (.ofNat 31)))), none, none], []), ([], none), ([], [], none, ([], [])), ([(52, 6), (58, 0), (58, 1), (58, 2), (58, 3), (58, 4), (58, 5), (58, 6)], [54, 55, 56, 57]))
def kC638_0 : aC := (([(.ofNat 0, .ofNat 3), (.ofNat 32, .ofNat 341), (.ofNat 0, .ofNat 4), (.ofNat 32, .ofNat 341)], [(57, 31, .inl (0, .ofNat 0)), (52, 6, .inl (3, .ofNat 0))], 2, [some (.inr [52]), some (.inr [20, 21, 22, 23, 24, 25, 26, 27]), some (.inl (.inl (.inr (.ofNat 31)))), some (.inl (.inl (.inl (2, .ofNat 0)))), none], []), ([], []), (4, [(-1, 2)]))
theorem ks638 : aseg kS krf kB [kE562, kE567, kE568, kE569] (ksp []) kE638 [kC638_0] 30000 (none) = true := by decide +kernel
theorem ks638_0 : aseg kS krf kB [kE562, kE567, kE568, kE569] (ksp []) kE638 [kC638_0] 30000 (some kC638_0) = true := by decide +kernel
theorem kok638 : aOK kS krf kB kE638 := aOK_of (kal1 kok562 (kal1 kok567 (kal1 kok568 (kal1 kok569 kal0)))) (kcl1 ks638_0 kcl0) ks638
/-- ColdShod$StrokePlan.addNext(LColdShod$Idea;I)V -/
def kE639 : aE := (83, 3, ([(.ofNat 0, .ofNat 3), (.ofNat 31, .ofNat 341)], [(57, 30, .inl (0, .ofNat 0)), (52, 6, .inl (1, .ofNat 0))], 0, [some (.inr [52]), some (.inr [20, 21, 22, 23, 24, 25, 26, 27]), some (.inl (.inl (.inr (.ofNat 30)))), none, none], []), ([], none), ([], [], none, ([], [])), ([(52, 6), (58, 0), (58, 1), (58, 2), (58, 3), (58, 4), (58, 5), (58, 6)], [54, 55, 56, 57]))
def kC639_0 : aC := (([(.ofNat 0, .ofNat 3), (.ofNat 31, .ofNat 341), (.ofNat 0, .ofNat 4), (.ofNat 31, .ofNat 341)], [(57, 30, .inl (0, .ofNat 0)), (52, 6, .inl (3, .ofNat 0))], 2, [some (.inr [52]), some (.inr [20, 21, 22, 23, 24, 25, 26, 27]), some (.inl (.inl (.inr (.ofNat 30)))), some (.inl (.inl (.inl (2, .ofNat 0)))), none], []), ([], []), (4, [(-1, 2)]))
theorem ks639 : aseg kS krf kB [kE562, kE567, kE568, kE569] (ksp []) kE639 [kC639_0] 30000 (none) = true := by decide +kernel
theorem ks639_0 : aseg kS krf kB [kE562, kE567, kE568, kE569] (ksp []) kE639 [kC639_0] 30000 (some kC639_0) = true := by decide +kernel
theorem kok639 : aOK kS krf kB kE639 := aOK_of (kal1 kok562 (kal1 kok567 (kal1 kok568 (kal1 kok569 kal0)))) (kcl1 ks639_0 kcl0) ks639
/-- ColdShod$StrokePlan.addNext(LColdShod$Idea;I)V -/
def kE640 : aE := (83, 3, ([(.ofNat 0, .ofNat 3), (.ofNat 30, .ofNat 341)], [(57, 29, .inl (0, .ofNat 0)), (52, 6, .inl (1, .ofNat 0))], 0, [some (.inr [52]), some (.inr [20, 21, 22, 23, 24, 25, 26, 27]), some (.inl (.inl (.inr (.ofNat 29)))), none, none], []), ([], none), ([], [], none, ([], [])), ([(52, 6), (58, 0), (58, 1), (58, 2), (58, 3), (58, 4), (58, 5), (58, 6)], [54, 55, 56, 57]))
def kC640_0 : aC := (([(.ofNat 0, .ofNat 3), (.ofNat 30, .ofNat 341), (.ofNat 0, .ofNat 4), (.ofNat 30, .ofNat 341)], [(57, 29, .inl (0, .ofNat 0)), (52, 6, .inl (3, .ofNat 0))], 2, [some (.inr [52]), some (.inr [20, 21, 22, 23, 24, 25, 26, 27]), some (.inl (.inl (.inr (.ofNat 29)))), some (.inl (.inl (.inl (2, .ofNat 0)))), none], []), ([], []), (4, [(-1, 2)]))
theorem ks640 : aseg kS krf kB [kE562, kE567, kE568, kE569] (ksp []) kE640 [kC640_0] 30000 (none) = true := by decide +kernel
theorem ks640_0 : aseg kS krf kB [kE562, kE567, kE568, kE569] (ksp []) kE640 [kC640_0] 30000 (some kC640_0) = true := by decide +kernel
theorem kok640 : aOK kS krf kB kE640 := aOK_of (kal1 kok562 (kal1 kok567 (kal1 kok568 (kal1 kok569 kal0)))) (kcl1 ks640_0 kcl0) ks640
/-- ColdShod$StrokePlan.addNext(LColdShod$Idea;I)V -/
def kE641 : aE := (83, 3, ([(.ofNat 0, .ofNat 3), (.ofNat 29, .ofNat 341)], [(57, 28, .inl (0, .ofNat 0)), (52, 6, .inl (1, .ofNat 0))], 0, [some (.inr [52]), some (.inr [20, 21, 22, 23, 24, 25, 26, 27]), some (.inl (.inl (.inr (.ofNat 28)))), none, none], []), ([], none), ([], [], none, ([], [])), ([(52, 6), (58, 0), (58, 1), (58, 2), (58, 3), (58, 4), (58, 5), (58, 6)], [54, 55, 56, 57]))
def kC641_0 : aC := (([(.ofNat 0, .ofNat 3), (.ofNat 29, .ofNat 341), (.ofNat 0, .ofNat 4), (.ofNat 29, .ofNat 341)], [(57, 28, .inl (0, .ofNat 0)), (52, 6, .inl (3, .ofNat 0))], 2, [some (.inr [52]), some (.inr [20, 21, 22, 23, 24, 25, 26, 27]), some (.inl (.inl (.inr (.ofNat 28)))), some (.inl (.inl (.inl (2, .ofNat 0)))), none], []), ([], []), (4, [(-1, 2)]))
theorem ks641 : aseg kS krf kB [kE562, kE567, kE568, kE569] (ksp []) kE641 [kC641_0] 30000 (none) = true := by decide +kernel
theorem ks641_0 : aseg kS krf kB [kE562, kE567, kE568, kE569] (ksp []) kE641 [kC641_0] 30000 (some kC641_0) = true := by decide +kernel
theorem kok641 : aOK kS krf kB kE641 := aOK_of (kal1 kok562 (kal1 kok567 (kal1 kok568 (kal1 kok569 kal0)))) (kcl1 ks641_0 kcl0) ks641
/-- ColdShod$StrokePlan.addNext(LColdShod$Idea;I)V -/
def kE642 : aE := (83, 3, ([(.ofNat 0, .ofNat 3), (.ofNat 28, .ofNat 341)], [(57, 27, .inl (0, .ofNat 0)), (52, 6, .inl (1, .ofNat 0))], 0, [some (.inr [52]), some (.inr [20, 21, 22, 23, 24, 25, 26, 27]), some (.inl (.inl (.inr (.ofNat 27)))), none, none], []), ([], none), ([], [], none, ([], [])), ([(52, 6), (58, 0), (58, 1), (58, 2), (58, 3), (58, 4), (58, 5), (58, 6)], [54, 55, 56, 57]))
def kC642_0 : aC := (([(.ofNat 0, .ofNat 3), (.ofNat 28, .ofNat 341), (.ofNat 0, .ofNat 4), (.ofNat 28, .ofNat 341)], [(57, 27, .inl (0, .ofNat 0)), (52, 6, .inl (3, .ofNat 0))], 2, [some (.inr [52]), some (.inr [20, 21, 22, 23, 24, 25, 26, 27]), some (.inl (.inl (.inr (.ofNat 27)))), some (.inl (.inl (.inl (2, .ofNat 0)))), none], []), ([], []), (4, [(-1, 2)]))
theorem ks642 : aseg kS krf kB [kE562, kE567, kE568, kE569] (ksp []) kE642 [kC642_0] 30000 (none) = true := by decide +kernel
theorem ks642_0 : aseg kS krf kB [kE562, kE567, kE568, kE569] (ksp []) kE642 [kC642_0] 30000 (some kC642_0) = true := by decide +kernel
theorem kok642 : aOK kS krf kB kE642 := aOK_of (kal1 kok562 (kal1 kok567 (kal1 kok568 (kal1 kok569 kal0)))) (kcl1 ks642_0 kcl0) ks642
/-- ColdShod$StrokePlan.addNext(LColdShod$Idea;I)V -/
def kE643 : aE := (83, 3, ([(.ofNat 0, .ofNat 3), (.ofNat 27, .ofNat 341)], [(57, 26, .inl (0, .ofNat 0)), (52, 6, .inl (1, .ofNat 0))], 0, [some (.inr [52]), some (.inr [20, 21, 22, 23, 24, 25, 26, 27]), some (.inl (.inl (.inr (.ofNat 26)))), none, none], []), ([], none), ([], [], none, ([], [])), ([(52, 6), (58, 0), (58, 1), (58, 2), (58, 3), (58, 4), (58, 5), (58, 6)], [54, 55, 56, 57]))
def kC643_0 : aC := (([(.ofNat 0, .ofNat 3), (.ofNat 27, .ofNat 341), (.ofNat 0, .ofNat 4), (.ofNat 27, .ofNat 341)], [(57, 26, .inl (0, .ofNat 0)), (52, 6, .inl (3, .ofNat 0))], 2, [some (.inr [52]), some (.inr [20, 21, 22, 23, 24, 25, 26, 27]), some (.inl (.inl (.inr (.ofNat 26)))), some (.inl (.inl (.inl (2, .ofNat 0)))), none], []), ([], []), (4, [(-1, 2)]))
theorem ks643 : aseg kS krf kB [kE562, kE567, kE568, kE569] (ksp []) kE643 [kC643_0] 30000 (none) = true := by decide +kernel
theorem ks643_0 : aseg kS krf kB [kE562, kE567, kE568, kE569] (ksp []) kE643 [kC643_0] 30000 (some kC643_0) = true := by decide +kernel
theorem kok643 : aOK kS krf kB kE643 := aOK_of (kal1 kok562 (kal1 kok567 (kal1 kok568 (kal1 kok569 kal0)))) (kcl1 ks643_0 kcl0) ks643
/-- ColdShod$StrokePlan.addNext(LColdShod$Idea;I)V -/
def kE644 : aE := (83, 3, ([(.ofNat 0, .ofNat 3), (.ofNat 26, .ofNat 341)], [(57, 25, .inl (0, .ofNat 0)), (52, 6, .inl (1, .ofNat 0))], 0, [some (.inr [52]), some (.inr [20, 21, 22, 23, 24, 25, 26, 27]), some (.inl (.inl (.inr (.ofNat 25)))), none, none], []), ([], none), ([], [], none, ([], [])), ([(52, 6), (58, 0), (58, 1), (58, 2), (58, 3), (58, 4), (58, 5), (58, 6)], [54, 55, 56, 57]))
def kC644_0 : aC := (([(.ofNat 0, .ofNat 3), (.ofNat 26, .ofNat 341), (.ofNat 0, .ofNat 4), (.ofNat 26, .ofNat 341)], [(57, 25, .inl (0, .ofNat 0)), (52, 6, .inl (3, .ofNat 0))], 2, [some (.inr [52]), some (.inr [20, 21, 22, 23, 24, 25, 26, 27]), some (.inl (.inl (.inr (.ofNat 25)))), some (.inl (.inl (.inl (2, .ofNat 0)))), none], []), ([], []), (4, [(-1, 2)]))
theorem ks644 : aseg kS krf kB [kE562, kE567, kE568, kE569] (ksp []) kE644 [kC644_0] 30000 (none) = true := by decide +kernel
theorem ks644_0 : aseg kS krf kB [kE562, kE567, kE568, kE569] (ksp []) kE644 [kC644_0] 30000 (some kC644_0) = true := by decide +kernel
theorem kok644 : aOK kS krf kB kE644 := aOK_of (kal1 kok562 (kal1 kok567 (kal1 kok568 (kal1 kok569 kal0)))) (kcl1 ks644_0 kcl0) ks644
/-- ColdShod$StrokePlan.addNext(LColdShod$Idea;I)V -/
def kE645 : aE := (83, 3, ([(.ofNat 0, .ofNat 3), (.ofNat 25, .ofNat 341)], [(57, 24, .inl (0, .ofNat 0)), (52, 6, .inl (1, .ofNat 0))], 0, [some (.inr [52]), some (.inr [20, 21, 22, 23, 24, 25, 26, 27]), some (.inl (.inl (.inr (.ofNat 24)))), none, none], []), ([], none), ([], [], none, ([], [])), ([(52, 6), (58, 0), (58, 1), (58, 2), (58, 3), (58, 4), (58, 5), (58, 6)], [54, 55, 56, 57]))
def kC645_0 : aC := (([(.ofNat 0, .ofNat 3), (.ofNat 25, .ofNat 341), (.ofNat 0, .ofNat 4), (.ofNat 25, .ofNat 341)], [(57, 24, .inl (0, .ofNat 0)), (52, 6, .inl (3, .ofNat 0))], 2, [some (.inr [52]), some (.inr [20, 21, 22, 23, 24, 25, 26, 27]), some (.inl (.inl (.inr (.ofNat 24)))), some (.inl (.inl (.inl (2, .ofNat 0)))), none], []), ([], []), (4, [(-1, 2)]))
theorem ks645 : aseg kS krf kB [kE562, kE567, kE568, kE569] (ksp []) kE645 [kC645_0] 30000 (none) = true := by decide +kernel
theorem ks645_0 : aseg kS krf kB [kE562, kE567, kE568, kE569] (ksp []) kE645 [kC645_0] 30000 (some kC645_0) = true := by decide +kernel
theorem kok645 : aOK kS krf kB kE645 := aOK_of (kal1 kok562 (kal1 kok567 (kal1 kok568 (kal1 kok569 kal0)))) (kcl1 ks645_0 kcl0) ks645
/-- ColdShod$StrokePlan.addNext(LColdShod$Idea;I)V -/
def kE646 : aE := (83, 3, ([(.ofNat 0, .ofNat 3), (.ofNat 24, .ofNat 341)], [(57, 23, .inl (0, .ofNat 0)), (52, 6, .inl (1, .ofNat 0))], 0, [some (.inr [52]), some (.inr [20, 21, 22, 23, 24, 25, 26, 27]), some (.inl (.inl (.inr (.ofNat 23)))), none, none], []), ([], none), ([], [], none, ([], [])), ([(52, 6), (58, 0), (58, 1), (58, 2), (58, 3), (58, 4), (58, 5), (58, 6)], [54, 55, 56, 57]))
def kC646_0 : aC := (([(.ofNat 0, .ofNat 3), (.ofNat 24, .ofNat 341), (.ofNat 0, .ofNat 4), (.ofNat 24, .ofNat 341)], [(57, 23, .inl (0, .ofNat 0)), (52, 6, .inl (3, .ofNat 0))], 2, [some (.inr [52]), some (.inr [20, 21, 22, 23, 24, 25, 26, 27]), some (.inl (.inl (.inr (.ofNat 23)))), some (.inl (.inl (.inl (2, .ofNat 0)))), none], []), ([], []), (4, [(-1, 2)]))
theorem ks646 : aseg kS krf kB [kE562, kE567, kE568, kE569] (ksp []) kE646 [kC646_0] 30000 (none) = true := by decide +kernel
theorem ks646_0 : aseg kS krf kB [kE562, kE567, kE568, kE569] (ksp []) kE646 [kC646_0] 30000 (some kC646_0) = true := by decide +kernel
theorem kok646 : aOK kS krf kB kE646 := aOK_of (kal1 kok562 (kal1 kok567 (kal1 kok568 (kal1 kok569 kal0)))) (kcl1 ks646_0 kcl0) ks646
/-- ColdShod$StrokePlan.addNext(LColdShod$Idea;I)V -/
def kE647 : aE := (83, 3, ([(.ofNat 0, .ofNat 3), (.ofNat 23, .ofNat 341)], [(57, 22, .inl (0, .ofNat 0)), (52, 6, .inl (1, .ofNat 0))], 0, [some (.inr [52]), some (.inr [20, 21, 22, 23, 24, 25, 26, 27]), some (.inl (.inl (.inr (.ofNat 22)))), none, none], []), ([], none), ([], [], none, ([], [])), ([(52, 6), (58, 0), (58, 1), (58, 2), (58, 3), (58, 4), (58, 5), (58, 6)], [54, 55, 56, 57]))
def kC647_0 : aC := (([(.ofNat 0, .ofNat 3), (.ofNat 23, .ofNat 341), (.ofNat 0, .ofNat 4), (.ofNat 23, .ofNat 341)], [(57, 22, .inl (0, .ofNat 0)), (52, 6, .inl (3, .ofNat 0))], 2, [some (.inr [52]), some (.inr [20, 21, 22, 23, 24, 25, 26, 27]), some (.inl (.inl (.inr (.ofNat 22)))), some (.inl (.inl (.inl (2, .ofNat 0)))), none], []), ([], []), (4, [(-1, 2)]))
theorem ks647 : aseg kS krf kB [kE562, kE567, kE568, kE569] (ksp []) kE647 [kC647_0] 30000 (none) = true := by decide +kernel
theorem ks647_0 : aseg kS krf kB [kE562, kE567, kE568, kE569] (ksp []) kE647 [kC647_0] 30000 (some kC647_0) = true := by decide +kernel
theorem kok647 : aOK kS krf kB kE647 := aOK_of (kal1 kok562 (kal1 kok567 (kal1 kok568 (kal1 kok569 kal0)))) (kcl1 ks647_0 kcl0) ks647
/-- ColdShod$StrokePlan.addNext(LColdShod$Idea;I)V -/
def kE648 : aE := (83, 3, ([(.ofNat 0, .ofNat 3), (.ofNat 22, .ofNat 341)], [(57, 21, .inl (0, .ofNat 0)), (52, 6, .inl (1, .ofNat 0))], 0, [some (.inr [52]), some (.inr [20, 21, 22, 23, 24, 25, 26, 27]), some (.inl (.inl (.inr (.ofNat 21)))), none, none], []), ([], none), ([], [], none, ([], [])), ([(52, 6), (58, 0), (58, 1), (58, 2), (58, 3), (58, 4), (58, 5), (58, 6)], [54, 55, 56, 57]))
def kC648_0 : aC := (([(.ofNat 0, .ofNat 3), (.ofNat 22, .ofNat 341), (.ofNat 0, .ofNat 4), (.ofNat 22, .ofNat 341)], [(57, 21, .inl (0, .ofNat 0)), (52, 6, .inl (3, .ofNat 0))], 2, [some (.inr [52]), some (.inr [20, 21, 22, 23, 24, 25, 26, 27]), some (.inl (.inl (.inr (.ofNat 21)))), some (.inl (.inl (.inl (2, .ofNat 0)))), none], []), ([], []), (4, [(-1, 2)]))
theorem ks648 : aseg kS krf kB [kE562, kE567, kE568, kE569] (ksp []) kE648 [kC648_0] 30000 (none) = true := by decide +kernel
theorem ks648_0 : aseg kS krf kB [kE562, kE567, kE568, kE569] (ksp []) kE648 [kC648_0] 30000 (some kC648_0) = true := by decide +kernel
theorem kok648 : aOK kS krf kB kE648 := aOK_of (kal1 kok562 (kal1 kok567 (kal1 kok568 (kal1 kok569 kal0)))) (kcl1 ks648_0 kcl0) ks648
/-- ColdShod$StrokePlan.addNext(LColdShod$Idea;I)V -/
def kE649 : aE := (83, 3, ([(.ofNat 0, .ofNat 3), (.ofNat 21, .ofNat 341)], [(57, 20, .inl (0, .ofNat 0)), (52, 6, .inl (1, .ofNat 0))], 0, [some (.inr [52]), some (.inr [20, 21, 22, 23, 24, 25, 26, 27]), some (.inl (.inl (.inr (.ofNat 20)))), none, none], []), ([], none), ([], [], none, ([], [])), ([(52, 6), (58, 0), (58, 1), (58, 2), (58, 3), (58, 4), (58, 5), (58, 6)], [54, 55, 56, 57]))
def kC649_0 : aC := (([(.ofNat 0, .ofNat 3), (.ofNat 21, .ofNat 341), (.ofNat 0, .ofNat 4), (.ofNat 21, .ofNat 341)], [(57, 20, .inl (0, .ofNat 0)), (52, 6, .inl (3, .ofNat 0))], 2, [some (.inr [52]), some (.inr [20, 21, 22, 23, 24, 25, 26, 27]), some (.inl (.inl (.inr (.ofNat 20)))), some (.inl (.inl (.inl (2, .ofNat 0)))), none], []), ([], []), (4, [(-1, 2)]))
theorem ks649 : aseg kS krf kB [kE562, kE567, kE568, kE569] (ksp []) kE649 [kC649_0] 30000 (none) = true := by decide +kernel
theorem ks649_0 : aseg kS krf kB [kE562, kE567, kE568, kE569] (ksp []) kE649 [kC649_0] 30000 (some kC649_0) = true := by decide +kernel
theorem kok649 : aOK kS krf kB kE649 := aOK_of (kal1 kok562 (kal1 kok567 (kal1 kok568 (kal1 kok569 kal0)))) (kcl1 ks649_0 kcl0) ks649
/-- ColdShod$StrokePlan.addNext(LColdShod$Idea;I)V -/
def kE650 : aE := (83, 3, ([(.ofNat 0, .ofNat 3), (.ofNat 100, .ofNat 341)], [(57, 99, .inl (0, .ofNat 0)), (52, 6, .inl (1, .ofNat 0))], 0, [some (.inr [52]), some (.inr [20, 21, 22, 23, 24, 25, 26, 27]), some (.inl (.inl (.inr (.ofNat 99)))), none, none], []), ([], none), ([], [], none, ([], [])), ([(52, 6), (58, 0), (58, 1), (58, 2), (58, 3), (58, 4), (58, 5), (58, 6)], [54, 55, 56, 57]))
def kC650_0 : aC := (([(.ofNat 0, .ofNat 3), (.ofNat 100, .ofNat 341), (.ofNat 0, .ofNat 4), (.ofNat 100, .ofNat 341)], [(57, 99, .inl (0, .ofNat 0)), (52, 6, .inl (3, .ofNat 0))], 2, [some (.inr [52]), some (.inr [20, 21, 22, 23, 24, 25, 26, 27]), some (.inl (.inl (.inr (.ofNat 99)))), some (.inl (.inl (.inl (2, .ofNat 0)))), none], []), ([], []), (4, [(-1, 2)]))
theorem ks650 : aseg kS krf kB [kE562, kE567, kE568, kE569] (ksp []) kE650 [kC650_0] 30000 (none) = true := by decide +kernel
theorem ks650_0 : aseg kS krf kB [kE562, kE567, kE568, kE569] (ksp []) kE650 [kC650_0] 30000 (some kC650_0) = true := by decide +kernel
theorem kok650 : aOK kS krf kB kE650 := aOK_of (kal1 kok562 (kal1 kok567 (kal1 kok568 (kal1 kok569 kal0)))) (kcl1 ks650_0 kcl0) ks650
/-- ColdShod$StrokePlan.addNext(LColdShod$Idea;I)V -/
def kE651 : aE := (83, 3, ([(.ofNat 0, .ofNat 3), (.ofNat 99, .ofNat 341)], [(57, 98, .inl (0, .ofNat 0)), (52, 6, .inl (1, .ofNat 0))], 0, [some (.inr [52]), some (.inr [20, 21, 22, 23, 24, 25, 26, 27]), some (.inl (.inl (.inr (.ofNat 98)))), none, none], []), ([], none), ([], [], none, ([], [])), ([(52, 6), (58, 0), (58, 1), (58, 2), (58, 3), (58, 4), (58, 5), (58, 6)], [54, 55, 56, 57]))
def kC651_0 : aC := (([(.ofNat 0, .ofNat 3), (.ofNat 99, .ofNat 341), (.ofNat 0, .ofNat 4), (.ofNat 99, .ofNat 341)], [(57, 98, .inl (0, .ofNat 0)), (52, 6, .inl (3, .ofNat 0))], 2, [some (.inr [52]), some (.inr [20, 21, 22, 23, 24, 25, 26, 27]), some (.inl (.inl (.inr (.ofNat 98)))), some (.inl (.inl (.inl (2, .ofNat 0)))), none], []), ([], []), (4, [(-1, 2)]))
theorem ks651 : aseg kS krf kB [kE562, kE567, kE568, kE569] (ksp []) kE651 [kC651_0] 30000 (none) = true := by decide +kernel
theorem ks651_0 : aseg kS krf kB [kE562, kE567, kE568, kE569] (ksp []) kE651 [kC651_0] 30000 (some kC651_0) = true := by decide +kernel
theorem kok651 : aOK kS krf kB kE651 := aOK_of (kal1 kok562 (kal1 kok567 (kal1 kok568 (kal1 kok569 kal0)))) (kcl1 ks651_0 kcl0) ks651
/-- ColdShod$StrokePlan.addNext(LColdShod$Idea;I)V -/
def kE652 : aE := (83, 3, ([(.ofNat 0, .ofNat 3), (.ofNat 98, .ofNat 341)], [(57, 97, .inl (0, .ofNat 0)), (52, 6, .inl (1, .ofNat 0))], 0, [some (.inr [52]), some (.inr [20, 21, 22, 23, 24, 25, 26, 27]), some (.inl (.inl (.inr (.ofNat 97)))), none, none], []), ([], none), ([], [], none, ([], [])), ([(52, 6), (58, 0), (58, 1), (58, 2), (58, 3), (58, 4), (58, 5), (58, 6)], [54, 55, 56, 57]))
def kC652_0 : aC := (([(.ofNat 0, .ofNat 3), (.ofNat 98, .ofNat 341), (.ofNat 0, .ofNat 4), (.ofNat 98, .ofNat 341)], [(57, 97, .inl (0, .ofNat 0)), (52, 6, .inl (3, .ofNat 0))], 2, [some (.inr [52]), some (.inr [20, 21, 22, 23, 24, 25, 26, 27]), some (.inl (.inl (.inr (.ofNat 97)))), some (.inl (.inl (.inl (2, .ofNat 0)))), none], []), ([], []), (4, [(-1, 2)]))
theorem ks652 : aseg kS krf kB [kE562, kE567, kE568, kE569] (ksp []) kE652 [kC652_0] 30000 (none) = true := by decide +kernel
theorem ks652_0 : aseg kS krf kB [kE562, kE567, kE568, kE569] (ksp []) kE652 [kC652_0] 30000 (some kC652_0) = true := by decide +kernel
theorem kok652 : aOK kS krf kB kE652 := aOK_of (kal1 kok562 (kal1 kok567 (kal1 kok568 (kal1 kok569 kal0)))) (kcl1 ks652_0 kcl0) ks652
/-- ColdShod$StrokePlan.addNext(LColdShod$Idea;I)V -/
def kE653 : aE := (83, 3, ([(.ofNat 0, .ofNat 3), (.ofNat 97, .ofNat 341)], [(57, 96, .inl (0, .ofNat 0)), (52, 6, .inl (1, .ofNat 0))], 0, [some (.inr [52]), some (.inr [20, 21, 22, 23, 24, 25, 26, 27]), some (.inl (.inl (.inr (.ofNat 96)))), none, none], []), ([], none), ([], [], none, ([], [])), ([(52, 6), (58, 0), (58, 1), (58, 2), (58, 3), (58, 4), (58, 5), (58, 6)], [54, 55, 56, 57]))
def kC653_0 : aC := (([(.ofNat 0, .ofNat 3), (.ofNat 97, .ofNat 341), (.ofNat 0, .ofNat 4), (.ofNat 97, .ofNat 341)], [(57, 96, .inl (0, .ofNat 0)), (52, 6, .inl (3, .ofNat 0))], 2, [some (.inr [52]), some (.inr [20, 21, 22, 23, 24, 25, 26, 27]), some (.inl (.inl (.inr (.ofNat 96)))), some (.inl (.inl (.inl (2, .ofNat 0)))), none], []), ([], []), (4, [(-1, 2)]))
theorem ks653 : aseg kS krf kB [kE562, kE567, kE568, kE569] (ksp []) kE653 [kC653_0] 30000 (none) = true := by decide +kernel
theorem ks653_0 : aseg kS krf kB [kE562, kE567, kE568, kE569] (ksp []) kE653 [kC653_0] 30000 (some kC653_0) = true := by decide +kernel
theorem kok653 : aOK kS krf kB kE653 := aOK_of (kal1 kok562 (kal1 kok567 (kal1 kok568 (kal1 kok569 kal0)))) (kcl1 ks653_0 kcl0) ks653
/-- ColdShod$StrokePlan.addNext(LColdShod$Idea;I)V -/
def kE654 : aE := (83, 3, ([(.ofNat 0, .ofNat 3), (.ofNat 96, .ofNat 341)], [(57, 95, .inl (0, .ofNat 0)), (52, 6, .inl (1, .ofNat 0))], 0, [some (.inr [52]), some (.inr [20, 21, 22, 23, 24, 25, 26, 27]), some (.inl (.inl (.inr (.ofNat 95)))), none, none], []), ([], none), ([], [], none, ([], [])), ([(52, 6), (58, 0), (58, 1), (58, 2), (58, 3), (58, 4), (58, 5), (58, 6)], [54, 55, 56, 57]))
def kC654_0 : aC := (([(.ofNat 0, .ofNat 3), (.ofNat 96, .ofNat 341), (.ofNat 0, .ofNat 4), (.ofNat 96, .ofNat 341)], [(57, 95, .inl (0, .ofNat 0)), (52, 6, .inl (3, .ofNat 0))], 2, [some (.inr [52]), some (.inr [20, 21, 22, 23, 24, 25, 26, 27]), some (.inl (.inl (.inr (.ofNat 95)))), some (.inl (.inl (.inl (2, .ofNat 0)))), none], []), ([], []), (4, [(-1, 2)]))
theorem ks654 : aseg kS krf kB [kE562, kE567, kE568, kE569] (ksp []) kE654 [kC654_0] 30000 (none) = true := by decide +kernel
theorem ks654_0 : aseg kS krf kB [kE562, kE567, kE568, kE569] (ksp []) kE654 [kC654_0] 30000 (some kC654_0) = true := by decide +kernel
theorem kok654 : aOK kS krf kB kE654 := aOK_of (kal1 kok562 (kal1 kok567 (kal1 kok568 (kal1 kok569 kal0)))) (kcl1 ks654_0 kcl0) ks654
/-- ColdShod$StrokePlan.addNext(LColdShod$Idea;I)V -/
def kE655 : aE := (83, 3, ([(.ofNat 0, .ofNat 3), (.ofNat 95, .ofNat 341)], [(57, 94, .inl (0, .ofNat 0)), (52, 6, .inl (1, .ofNat 0))], 0, [some (.inr [52]), some (.inr [20, 21, 22, 23, 24, 25, 26, 27]), some (.inl (.inl (.inr (.ofNat 94)))), none, none], []), ([], none), ([], [], none, ([], [])), ([(52, 6), (58, 0), (58, 1), (58, 2), (58, 3), (58, 4), (58, 5), (58, 6)], [54, 55, 56, 57]))
def kC655_0 : aC := (([(.ofNat 0, .ofNat 3), (.ofNat 95, .ofNat 341), (.ofNat 0, .ofNat 4), (.ofNat 95, .ofNat 341)], [(57, 94, .inl (0, .ofNat 0)), (52, 6, .inl (3, .ofNat 0))], 2, [some (.inr [52]), some (.inr [20, 21, 22, 23, 24, 25, 26, 27]), some (.inl (.inl (.inr (.ofNat 94)))), some (.inl (.inl (.inl (2, .ofNat 0)))), none], []), ([], []), (4, [(-1, 2)]))
theorem ks655 : aseg kS krf kB [kE562, kE567, kE568, kE569] (ksp []) kE655 [kC655_0] 30000 (none) = true := by decide +kernel
theorem ks655_0 : aseg kS krf kB [kE562, kE567, kE568, kE569] (ksp []) kE655 [kC655_0] 30000 (some kC655_0) = true := by decide +kernel
theorem kok655 : aOK kS krf kB kE655 := aOK_of (kal1 kok562 (kal1 kok567 (kal1 kok568 (kal1 kok569 kal0)))) (kcl1 ks655_0 kcl0) ks655
/-- ColdShod$StrokePlan.addNext(LColdShod$Idea;I)V -/
def kE656 : aE := (83, 3, ([(.ofNat 0, .ofNat 3), (.ofNat 94, .ofNat 341)], [(57, 93, .inl (0, .ofNat 0)), (52, 6, .inl (1, .ofNat 0))], 0, [some (.inr [52]), some (.inr [20, 21, 22, 23, 24, 25, 26, 27]), some (.inl (.inl (.inr (.ofNat 93)))), none, none], []), ([], none), ([], [], none, ([], [])), ([(52, 6), (58, 0), (58, 1), (58, 2), (58, 3), (58, 4), (58, 5), (58, 6)], [54, 55, 56, 57]))
def kC656_0 : aC := (([(.ofNat 0, .ofNat 3), (.ofNat 94, .ofNat 341), (.ofNat 0, .ofNat 4), (.ofNat 94, .ofNat 341)], [(57, 93, .inl (0, .ofNat 0)), (52, 6, .inl (3, .ofNat 0))], 2, [some (.inr [52]), some (.inr [20, 21, 22, 23, 24, 25, 26, 27]), some (.inl (.inl (.inr (.ofNat 93)))), some (.inl (.inl (.inl (2, .ofNat 0)))), none], []), ([], []), (4, [(-1, 2)]))
theorem ks656 : aseg kS krf kB [kE562, kE567, kE568, kE569] (ksp []) kE656 [kC656_0] 30000 (none) = true := by decide +kernel
theorem ks656_0 : aseg kS krf kB [kE562, kE567, kE568, kE569] (ksp []) kE656 [kC656_0] 30000 (some kC656_0) = true := by decide +kernel
theorem kok656 : aOK kS krf kB kE656 := aOK_of (kal1 kok562 (kal1 kok567 (kal1 kok568 (kal1 kok569 kal0)))) (kcl1 ks656_0 kcl0) ks656
/-- ColdShod$StrokePlan.addNext(LColdShod$Idea;I)V -/
def kE657 : aE := (83, 3, ([(.ofNat 0, .ofNat 3), (.ofNat 93, .ofNat 341)], [(57, 92, .inl (0, .ofNat 0)), (52, 6, .inl (1, .ofNat 0))], 0, [some (.inr [52]), some (.inr [20, 21, 22, 23, 24, 25, 26, 27]), some (.inl (.inl (.inr (.ofNat 92)))), none, none], []), ([], none), ([], [], none, ([], [])), ([(52, 6), (58, 0), (58, 1), (58, 2), (58, 3), (58, 4), (58, 5), (58, 6)], [54, 55, 56, 57]))
def kC657_0 : aC := (([(.ofNat 0, .ofNat 3), (.ofNat 93, .ofNat 341), (.ofNat 0, .ofNat 4), (.ofNat 93, .ofNat 341)], [(57, 92, .inl (0, .ofNat 0)), (52, 6, .inl (3, .ofNat 0))], 2, [some (.inr [52]), some (.inr [20, 21, 22, 23, 24, 25, 26, 27]), some (.inl (.inl (.inr (.ofNat 92)))), some (.inl (.inl (.inl (2, .ofNat 0)))), none], []), ([], []), (4, [(-1, 2)]))
theorem ks657 : aseg kS krf kB [kE562, kE567, kE568, kE569] (ksp []) kE657 [kC657_0] 30000 (none) = true := by decide +kernel
theorem ks657_0 : aseg kS krf kB [kE562, kE567, kE568, kE569] (ksp []) kE657 [kC657_0] 30000 (some kC657_0) = true := by decide +kernel
theorem kok657 : aOK kS krf kB kE657 := aOK_of (kal1 kok562 (kal1 kok567 (kal1 kok568 (kal1 kok569 kal0)))) (kcl1 ks657_0 kcl0) ks657
/-- ColdShod$StrokePlan.addNext(LColdShod$Idea;I)V -/
def kE658 : aE := (83, 3, ([(.ofNat 0, .ofNat 3), (.ofNat 92, .ofNat 341)], [(57, 91, .inl (0, .ofNat 0)), (52, 6, .inl (1, .ofNat 0))], 0, [some (.inr [52]), some (.inr [20, 21, 22, 23, 24, 25, 26, 27]), some (.inl (.inl (.inr (.ofNat 91)))), none, none], []), ([], none), ([], [], none, ([], [])), ([(52, 6), (58, 0), (58, 1), (58, 2), (58, 3), (58, 4), (58, 5), (58, 6)], [54, 55, 56, 57]))
def kC658_0 : aC := (([(.ofNat 0, .ofNat 3), (.ofNat 92, .ofNat 341), (.ofNat 0, .ofNat 4), (.ofNat 92, .ofNat 341)], [(57, 91, .inl (0, .ofNat 0)), (52, 6, .inl (3, .ofNat 0))], 2, [some (.inr [52]), some (.inr [20, 21, 22, 23, 24, 25, 26, 27]), some (.inl (.inl (.inr (.ofNat 91)))), some (.inl (.inl (.inl (2, .ofNat 0)))), none], []), ([], []), (4, [(-1, 2)]))
theorem ks658 : aseg kS krf kB [kE562, kE567, kE568, kE569] (ksp []) kE658 [kC658_0] 30000 (none) = true := by decide +kernel
theorem ks658_0 : aseg kS krf kB [kE562, kE567, kE568, kE569] (ksp []) kE658 [kC658_0] 30000 (some kC658_0) = true := by decide +kernel
theorem kok658 : aOK kS krf kB kE658 := aOK_of (kal1 kok562 (kal1 kok567 (kal1 kok568 (kal1 kok569 kal0)))) (kcl1 ks658_0 kcl0) ks658
/-- ColdShod$StrokePlan.addNext(LColdShod$Idea;I)V -/
def kE659 : aE := (83, 3, ([(.ofNat 0, .ofNat 3), (.ofNat 91, .ofNat 341)], [(57, 90, .inl (0, .ofNat 0)), (52, 6, .inl (1, .ofNat 0))], 0, [some (.inr [52]), some (.inr [20, 21, 22, 23, 24, 25, 26, 27]), some (.inl (.inl (.inr (.ofNat 90)))), none, none], []), ([], none), ([], [], none, ([], [])), ([(52, 6), (58, 0), (58, 1), (58, 2), (58, 3), (58, 4), (58, 5), (58, 6)], [54, 55, 56, 57]))
def kC659_0 : aC := (([(.ofNat 0, .ofNat 3), (.ofNat 91, .ofNat 341), (.ofNat 0, .ofNat 4), (.ofNat 91, .ofNat 341)], [(57, 90, .inl (0, .ofNat 0)), (52, 6, .inl (3, .ofNat 0))], 2, [some (.inr [52]), some (.inr [20, 21, 22, 23, 24, 25, 26, 27]), some (.inl (.inl (.inr (.ofNat 90)))), some (.inl (.inl (.inl (2, .ofNat 0)))), none], []), ([], []), (4, [(-1, 2)]))
theorem ks659 : aseg kS krf kB [kE562, kE567, kE568, kE569] (ksp []) kE659 [kC659_0] 30000 (none) = true := by decide +kernel
theorem ks659_0 : aseg kS krf kB [kE562, kE567, kE568, kE569] (ksp []) kE659 [kC659_0] 30000 (some kC659_0) = true := by decide +kernel
theorem kok659 : aOK kS krf kB kE659 := aOK_of (kal1 kok562 (kal1 kok567 (kal1 kok568 (kal1 kok569 kal0)))) (kcl1 ks659_0 kcl0) ks659
/-- ColdShod$StrokePlan.addNext(LColdShod$Idea;I)V -/
def kE660 : aE := (83, 3, ([(.ofNat 0, .ofNat 3), (.ofNat 90, .ofNat 341)], [(57, 89, .inl (0, .ofNat 0)), (52, 6, .inl (1, .ofNat 0))], 0, [some (.inr [52]), some (.inr [20, 21, 22, 23, 24, 25, 26, 27]), some (.inl (.inl (.inr (.ofNat 89)))), none, none], []), ([], none), ([], [], none, ([], [])), ([(52, 6), (58, 0), (58, 1), (58, 2), (58, 3), (58, 4), (58, 5), (58, 6)], [54, 55, 56, 57]))
def kC660_0 : aC := (([(.ofNat 0, .ofNat 3), (.ofNat 90, .ofNat 341), (.ofNat 0, .ofNat 4), (.ofNat 90, .ofNat 341)], [(57, 89, .inl (0, .ofNat 0)), (52, 6, .inl (3, .ofNat 0))], 2, [some (.inr [52]), some (.inr [20, 21, 22, 23, 24, 25, 26, 27]), some (.inl (.inl (.inr (.ofNat 89)))), some (.inl (.inl (.inl (2, .ofNat 0)))), none], []), ([], []), (4, [(-1, 2)]))
theorem ks660 : aseg kS krf kB [kE562, kE567, kE568, kE569] (ksp []) kE660 [kC660_0] 30000 (none) = true := by decide +kernel
theorem ks660_0 : aseg kS krf kB [kE562, kE567, kE568, kE569] (ksp []) kE660 [kC660_0] 30000 (some kC660_0) = true := by decide +kernel
theorem kok660 : aOK kS krf kB kE660 := aOK_of (kal1 kok562 (kal1 kok567 (kal1 kok568 (kal1 kok569 kal0)))) (kcl1 ks660_0 kcl0) ks660
/-- ColdShod$StrokePlan.addNext(LColdShod$Idea;I)V -/
def kE661 : aE := (83, 3, ([(.ofNat 0, .ofNat 3), (.ofNat 89, .ofNat 341)], [(57, 88, .inl (0, .ofNat 0)), (52, 6, .inl (1, .ofNat 0))], 0, [some (.inr [52]), some (.inr [20, 21, 22, 23, 24, 25, 26, 27]), some (.inl (.inl (.inr (.ofNat 88)))), none, none], []), ([], none), ([], [], none, ([], [])), ([(52, 6), (58, 0), (58, 1), (58, 2), (58, 3), (58, 4), (58, 5), (58, 6)], [54, 55, 56, 57]))
def kC661_0 : aC := (([(.ofNat 0, .ofNat 3), (.ofNat 89, .ofNat 341), (.ofNat 0, .ofNat 4), (.ofNat 89, .ofNat 341)], [(57, 88, .inl (0, .ofNat 0)), (52, 6, .inl (3, .ofNat 0))], 2, [some (.inr [52]), some (.inr [20, 21, 22, 23, 24, 25, 26, 27]), some (.inl (.inl (.inr (.ofNat 88)))), some (.inl (.inl (.inl (2, .ofNat 0)))), none], []), ([], []), (4, [(-1, 2)]))
theorem ks661 : aseg kS krf kB [kE562, kE567, kE568, kE569] (ksp []) kE661 [kC661_0] 30000 (none) = true := by decide +kernel
theorem ks661_0 : aseg kS krf kB [kE562, kE567, kE568, kE569] (ksp []) kE661 [kC661_0] 30000 (some kC661_0) = true := by decide +kernel
theorem kok661 : aOK kS krf kB kE661 := aOK_of (kal1 kok562 (kal1 kok567 (kal1 kok568 (kal1 kok569 kal0)))) (kcl1 ks661_0 kcl0) ks661
/-- ColdShod$StrokePlan.addNext(LColdShod$Idea;I)V -/
def kE662 : aE := (83, 3, ([(.ofNat 0, .ofNat 3), (.ofNat 88, .ofNat 341)], [(57, 87, .inl (0, .ofNat 0)), (52, 6, .inl (1, .ofNat 0))], 0, [some (.inr [52]), some (.inr [20, 21, 22, 23, 24, 25, 26, 27]), some (.inl (.inl (.inr (.ofNat 87)))), none, none], []), ([], none), ([], [], none, ([], [])), ([(52, 6), (58, 0), (58, 1), (58, 2), (58, 3), (58, 4), (58, 5), (58, 6)], [54, 55, 56, 57]))
def kC662_0 : aC := (([(.ofNat 0, .ofNat 3), (.ofNat 88, .ofNat 341), (.ofNat 0, .ofNat 4), (.ofNat 88, .ofNat 341)], [(57, 87, .inl (0, .ofNat 0)), (52, 6, .inl (3, .ofNat 0))], 2, [some (.inr [52]), some (.inr [20, 21, 22, 23, 24, 25, 26, 27]), some (.inl (.inl (.inr (.ofNat 87)))), some (.inl (.inl (.inl (2, .ofNat 0)))), none], []), ([], []), (4, [(-1, 2)]))
theorem ks662 : aseg kS krf kB [kE562, kE567, kE568, kE569] (ksp []) kE662 [kC662_0] 30000 (none) = true := by decide +kernel
theorem ks662_0 : aseg kS krf kB [kE562, kE567, kE568, kE569] (ksp []) kE662 [kC662_0] 30000 (some kC662_0) = true := by decide +kernel
theorem kok662 : aOK kS krf kB kE662 := aOK_of (kal1 kok562 (kal1 kok567 (kal1 kok568 (kal1 kok569 kal0)))) (kcl1 ks662_0 kcl0) ks662
/-- ColdShod$StrokePlan.addNext(LColdShod$Idea;I)V -/
def kE663 : aE := (83, 3, ([(.ofNat 0, .ofNat 3), (.ofNat 87, .ofNat 341)], [(57, 86, .inl (0, .ofNat 0)), (52, 6, .inl (1, .ofNat 0))], 0, [some (.inr [52]), some (.inr [20, 21, 22, 23, 24, 25, 26, 27]), some (.inl (.inl (.inr (.ofNat 86)))), none, none], []), ([], none), ([], [], none, ([], [])), ([(52, 6), (58, 0), (58, 1), (58, 2), (58, 3), (58, 4), (58, 5), (58, 6)], [54, 55, 56, 57]))
def kC663_0 : aC := (([(.ofNat 0, .ofNat 3), (.ofNat 87, .ofNat 341), (.ofNat 0, .ofNat 4), (.ofNat 87, .ofNat 341)], [(57, 86, .inl (0, .ofNat 0)), (52, 6, .inl (3, .ofNat 0))], 2, [some (.inr [52]), some (.inr [20, 21, 22, 23, 24, 25, 26, 27]), some (.inl (.inl (.inr (.ofNat 86)))), some (.inl (.inl (.inl (2, .ofNat 0)))), none], []), ([], []), (4, [(-1, 2)]))
theorem ks663 : aseg kS krf kB [kE562, kE567, kE568, kE569] (ksp []) kE663 [kC663_0] 30000 (none) = true := by decide +kernel
theorem ks663_0 : aseg kS krf kB [kE562, kE567, kE568, kE569] (ksp []) kE663 [kC663_0] 30000 (some kC663_0) = true := by decide +kernel
theorem kok663 : aOK kS krf kB kE663 := aOK_of (kal1 kok562 (kal1 kok567 (kal1 kok568 (kal1 kok569 kal0)))) (kcl1 ks663_0 kcl0) ks663
/-- ColdShod$StrokePlan.addNext(LColdShod$Idea;I)V -/
def kE664 : aE := (83, 3, ([(.ofNat 0, .ofNat 3), (.ofNat 86, .ofNat 341)], [(57, 85, .inl (0, .ofNat 0)), (52, 6, .inl (1, .ofNat 0))], 0, [some (.inr [52]), some (.inr [20, 21, 22, 23, 24, 25, 26, 27]), some (.inl (.inl (.inr (.ofNat 85)))), none, none], []), ([], none), ([], [], none, ([], [])), ([(52, 6), (58, 0), (58, 1), (58, 2), (58, 3), (58, 4), (58, 5), (58, 6)], [54, 55, 56, 57]))
def kC664_0 : aC := (([(.ofNat 0, .ofNat 3), (.ofNat 86, .ofNat 341), (.ofNat 0, .ofNat 4), (.ofNat 86, .ofNat 341)], [(57, 85, .inl (0, .ofNat 0)), (52, 6, .inl (3, .ofNat 0))], 2, [some (.inr [52]), some (.inr [20, 21, 22, 23, 24, 25, 26, 27]), some (.inl (.inl (.inr (.ofNat 85)))), some (.inl (.inl (.inl (2, .ofNat 0)))), none], []), ([], []), (4, [(-1, 2)]))
theorem ks664 : aseg kS krf kB [kE562, kE567, kE568, kE569] (ksp []) kE664 [kC664_0] 30000 (none) = true := by decide +kernel
theorem ks664_0 : aseg kS krf kB [kE562, kE567, kE568, kE569] (ksp []) kE664 [kC664_0] 30000 (some kC664_0) = true := by decide +kernel
theorem kok664 : aOK kS krf kB kE664 := aOK_of (kal1 kok562 (kal1 kok567 (kal1 kok568 (kal1 kok569 kal0)))) (kcl1 ks664_0 kcl0) ks664
/-- ColdShod$StrokePlan.addNext(LColdShod$Idea;I)V -/
def kE665 : aE := (83, 3, ([(.ofNat 0, .ofNat 3), (.ofNat 85, .ofNat 341)], [(57, 84, .inl (0, .ofNat 0)), (52, 6, .inl (1, .ofNat 0))], 0, [some (.inr [52]), some (.inr [20, 21, 22, 23, 24, 25, 26, 27]), some (.inl (.inl (.inr (.ofNat 84)))), none, none], []), ([], none), ([], [], none, ([], [])), ([(52, 6), (58, 0), (58, 1), (58, 2), (58, 3), (58, 4), (58, 5), (58, 6)], [54, 55, 56, 57]))
def kC665_0 : aC := (([(.ofNat 0, .ofNat 3), (.ofNat 85, .ofNat 341), (.ofNat 0, .ofNat 4), (.ofNat 85, .ofNat 341)], [(57, 84, .inl (0, .ofNat 0)), (52, 6, .inl (3, .ofNat 0))], 2, [some (.inr [52]), some (.inr [20, 21, 22, 23, 24, 25, 26, 27]), some (.inl (.inl (.inr (.ofNat 84)))), some (.inl (.inl (.inl (2, .ofNat 0)))), none], []), ([], []), (4, [(-1, 2)]))
theorem ks665 : aseg kS krf kB [kE562, kE567, kE568, kE569] (ksp []) kE665 [kC665_0] 30000 (none) = true := by decide +kernel
theorem ks665_0 : aseg kS krf kB [kE562, kE567, kE568, kE569] (ksp []) kE665 [kC665_0] 30000 (some kC665_0) = true := by decide +kernel
theorem kok665 : aOK kS krf kB kE665 := aOK_of (kal1 kok562 (kal1 kok567 (kal1 kok568 (kal1 kok569 kal0)))) (kcl1 ks665_0 kcl0) ks665
/-- ColdShod$StrokePlan.addNext(LColdShod$Idea;I)V -/
def kE666 : aE := (83, 3, ([(.ofNat 0, .ofNat 3), (.ofNat 84, .ofNat 341)], [(57, 83, .inl (0, .ofNat 0)), (52, 6, .inl (1, .ofNat 0))], 0, [some (.inr [52]), some (.inr [20, 21, 22, 23, 24, 25, 26, 27]), some (.inl (.inl (.inr (.ofNat 83)))), none, none], []), ([], none), ([], [], none, ([], [])), ([(52, 6), (58, 0), (58, 1), (58, 2), (58, 3), (58, 4), (58, 5), (58, 6)], [54, 55, 56, 57]))
def kC666_0 : aC := (([(.ofNat 0, .ofNat 3), (.ofNat 84, .ofNat 341), (.ofNat 0, .ofNat 4), (.ofNat 84, .ofNat 341)], [(57, 83, .inl (0, .ofNat 0)), (52, 6, .inl (3, .ofNat 0))], 2, [some (.inr [52]), some (.inr [20, 21, 22, 23, 24, 25, 26, 27]), some (.inl (.inl (.inr (.ofNat 83)))), some (.inl (.inl (.inl (2, .ofNat 0)))), none], []), ([], []), (4, [(-1, 2)]))
theorem ks666 : aseg kS krf kB [kE562, kE567, kE568, kE569] (ksp []) kE666 [kC666_0] 30000 (none) = true := by decide +kernel
theorem ks666_0 : aseg kS krf kB [kE562, kE567, kE568, kE569] (ksp []) kE666 [kC666_0] 30000 (some kC666_0) = true := by decide +kernel
theorem kok666 : aOK kS krf kB kE666 := aOK_of (kal1 kok562 (kal1 kok567 (kal1 kok568 (kal1 kok569 kal0)))) (kcl1 ks666_0 kcl0) ks666
/-- ColdShod$StrokePlan.addNext(LColdShod$Idea;I)V -/
def kE667 : aE := (83, 3, ([(.ofNat 0, .ofNat 3), (.ofNat 83, .ofNat 341)], [(57, 82, .inl (0, .ofNat 0)), (52, 6, .inl (1, .ofNat 0))], 0, [some (.inr [52]), some (.inr [20, 21, 22, 23, 24, 25, 26, 27]), some (.inl (.inl (.inr (.ofNat 82)))), none, none], []), ([], none), ([], [], none, ([], [])), ([(52, 6), (58, 0), (58, 1), (58, 2), (58, 3), (58, 4), (58, 5), (58, 6)], [54, 55, 56, 57]))
def kC667_0 : aC := (([(.ofNat 0, .ofNat 3), (.ofNat 83, .ofNat 341), (.ofNat 0, .ofNat 4), (.ofNat 83, .ofNat 341)], [(57, 82, .inl (0, .ofNat 0)), (52, 6, .inl (3, .ofNat 0))], 2, [some (.inr [52]), some (.inr [20, 21, 22, 23, 24, 25, 26, 27]), some (.inl (.inl (.inr (.ofNat 82)))), some (.inl (.inl (.inl (2, .ofNat 0)))), none], []), ([], []), (4, [(-1, 2)]))
theorem ks667 : aseg kS krf kB [kE562, kE567, kE568, kE569] (ksp []) kE667 [kC667_0] 30000 (none) = true := by decide +kernel
theorem ks667_0 : aseg kS krf kB [kE562, kE567, kE568, kE569] (ksp []) kE667 [kC667_0] 30000 (some kC667_0) = true := by decide +kernel
theorem kok667 : aOK kS krf kB kE667 := aOK_of (kal1 kok562 (kal1 kok567 (kal1 kok568 (kal1 kok569 kal0)))) (kcl1 ks667_0 kcl0) ks667
/-- ColdShod$StrokePlan.addNext(LColdShod$Idea;I)V -/
def kE668 : aE := (83, 3, ([(.ofNat 0, .ofNat 3), (.ofNat 82, .ofNat 341)], [(57, 81, .inl (0, .ofNat 0)), (52, 6, .inl (1, .ofNat 0))], 0, [some (.inr [52]), some (.inr [20, 21, 22, 23, 24, 25, 26, 27]), some (.inl (.inl (.inr (.ofNat 81)))), none, none], []), ([], none), ([], [], none, ([], [])), ([(52, 6), (58, 0), (58, 1), (58, 2), (58, 3), (58, 4), (58, 5), (58, 6)], [54, 55, 56, 57]))
def kC668_0 : aC := (([(.ofNat 0, .ofNat 3), (.ofNat 82, .ofNat 341), (.ofNat 0, .ofNat 4), (.ofNat 82, .ofNat 341)], [(57, 81, .inl (0, .ofNat 0)), (52, 6, .inl (3, .ofNat 0))], 2, [some (.inr [52]), some (.inr [20, 21, 22, 23, 24, 25, 26, 27]), some (.inl (.inl (.inr (.ofNat 81)))), some (.inl (.inl (.inl (2, .ofNat 0)))), none], []), ([], []), (4, [(-1, 2)]))
theorem ks668 : aseg kS krf kB [kE562, kE567, kE568, kE569] (ksp []) kE668 [kC668_0] 30000 (none) = true := by decide +kernel
theorem ks668_0 : aseg kS krf kB [kE562, kE567, kE568, kE569] (ksp []) kE668 [kC668_0] 30000 (some kC668_0) = true := by decide +kernel
theorem kok668 : aOK kS krf kB kE668 := aOK_of (kal1 kok562 (kal1 kok567 (kal1 kok568 (kal1 kok569 kal0)))) (kcl1 ks668_0 kcl0) ks668
/-- ColdShod$StrokePlan.addNext(LColdShod$Idea;I)V -/
def kE669 : aE := (83, 3, ([(.ofNat 0, .ofNat 3), (.ofNat 81, .ofNat 341)], [(57, 80, .inl (0, .ofNat 0)), (52, 6, .inl (1, .ofNat 0))], 0, [some (.inr [52]), some (.inr [20, 21, 22, 23, 24, 25, 26, 27]), some (.inl (.inl (.inr (.ofNat 80)))), none, none], []), ([], none), ([], [], none, ([], [])), ([(52, 6), (58, 0), (58, 1), (58, 2), (58, 3), (58, 4), (58, 5), (58, 6)], [54, 55, 56, 57]))
def kC669_0 : aC := (([(.ofNat 0, .ofNat 3), (.ofNat 81, .ofNat 341), (.ofNat 0, .ofNat 4), (.ofNat 81, .ofNat 341)], [(57, 80, .inl (0, .ofNat 0)), (52, 6, .inl (3, .ofNat 0))], 2, [some (.inr [52]), some (.inr [20, 21, 22, 23, 24, 25, 26, 27]), some (.inl (.inl (.inr (.ofNat 80)))), some (.inl (.inl (.inl (2, .ofNat 0)))), none], []), ([], []), (4, [(-1, 2)]))
theorem ks669 : aseg kS krf kB [kE562, kE567, kE568, kE569] (ksp []) kE669 [kC669_0] 30000 (none) = true := by decide +kernel
theorem ks669_0 : aseg kS krf kB [kE562, kE567, kE568, kE569] (ksp []) kE669 [kC669_0] 30000 (some kC669_0) = true := by decide +kernel
theorem kok669 : aOK kS krf kB kE669 := aOK_of (kal1 kok562 (kal1 kok567 (kal1 kok568 (kal1 kok569 kal0)))) (kcl1 ks669_0 kcl0) ks669
/-- ColdShod$StrokePlan.addNext(LColdShod$Idea;I)V -/
def kE670 : aE := (83, 3, ([(.ofNat 0, .ofNat 3), (.ofNat 120, .ofNat 341)], [(57, 119, .inl (0, .ofNat 0)), (52, 6, .inl (1, .ofNat 0))], 0, [some (.inr [52]), some (.inr [20, 21, 22, 23, 24, 25, 26, 27]), some (.inl (.inl (.inr (.ofNat 119)))), none, none], []), ([], none), ([], [], none, ([], [])), ([(52, 6), (58, 0), (58, 1), (58, 2), (58, 3), (58, 4), (58, 5), (58, 6)], [54, 55, 56, 57]))
def kC670_0 : aC := (([(.ofNat 0, .ofNat 3), (.ofNat 120, .ofNat 341), (.ofNat 0, .ofNat 4), (.ofNat 120, .ofNat 341)], [(57, 119, .inl (0, .ofNat 0)), (52, 6, .inl (3, .ofNat 0))], 2, [some (.inr [52]), some (.inr [20, 21, 22, 23, 24, 25, 26, 27]), some (.inl (.inl (.inr (.ofNat 119)))), some (.inl (.inl (.inl (2, .ofNat 0)))), none], []), ([], []), (4, [(-1, 2)]))
theorem ks670 : aseg kS krf kB [kE562, kE567, kE568, kE569] (ksp []) kE670 [kC670_0] 30000 (none) = true := by decide +kernel
theorem ks670_0 : aseg kS krf kB [kE562, kE567, kE568, kE569] (ksp []) kE670 [kC670_0] 30000 (some kC670_0) = true := by decide +kernel
theorem kok670 : aOK kS krf kB kE670 := aOK_of (kal1 kok562 (kal1 kok567 (kal1 kok568 (kal1 kok569 kal0)))) (kcl1 ks670_0 kcl0) ks670
/-- ColdShod$StrokePlan.addNext(LColdShod$Idea;I)V -/
def kE671 : aE := (83, 3, ([(.ofNat 0, .ofNat 3), (.ofNat 119, .ofNat 341)], [(57, 118, .inl (0, .ofNat 0)), (52, 6, .inl (1, .ofNat 0))], 0, [some (.inr [52]), some (.inr [20, 21, 22, 23, 24, 25, 26, 27]), some (.inl (.inl (.inr (.ofNat 118)))), none, none], []), ([], none), ([], [], none, ([], [])), ([(52, 6), (58, 0), (58, 1), (58, 2), (58, 3), (58, 4), (58, 5), (58, 6)], [54, 55, 56, 57]))
def kC671_0 : aC := (([(.ofNat 0, .ofNat 3), (.ofNat 119, .ofNat 341), (.ofNat 0, .ofNat 4), (.ofNat 119, .ofNat 341)], [(57, 118, .inl (0, .ofNat 0)), (52, 6, .inl (3, .ofNat 0))], 2, [some (.inr [52]), some (.inr [20, 21, 22, 23, 24, 25, 26, 27]), some (.inl (.inl (.inr (.ofNat 118)))), some (.inl (.inl (.inl (2, .ofNat 0)))), none], []), ([], []), (4, [(-1, 2)]))
theorem ks671 : aseg kS krf kB [kE562, kE567, kE568, kE569] (ksp []) kE671 [kC671_0] 30000 (none) = true := by decide +kernel
theorem ks671_0 : aseg kS krf kB [kE562, kE567, kE568, kE569] (ksp []) kE671 [kC671_0] 30000 (some kC671_0) = true := by decide +kernel
theorem kok671 : aOK kS krf kB kE671 := aOK_of (kal1 kok562 (kal1 kok567 (kal1 kok568 (kal1 kok569 kal0)))) (kcl1 ks671_0 kcl0) ks671
/-- ColdShod$StrokePlan.addNext(LColdShod$Idea;I)V -/
def kE672 : aE := (83, 3, ([(.ofNat 0, .ofNat 3), (.ofNat 118, .ofNat 341)], [(57, 117, .inl (0, .ofNat 0)), (52, 6, .inl (1, .ofNat 0))], 0, [some (.inr [52]), some (.inr [20, 21, 22, 23, 24, 25, 26, 27]), some (.inl (.inl (.inr (.ofNat 117)))), none, none], []), ([], none), ([], [], none, ([], [])), ([(52, 6), (58, 0), (58, 1), (58, 2), (58, 3), (58, 4), (58, 5), (58, 6)], [54, 55, 56, 57]))
def kC672_0 : aC := (([(.ofNat 0, .ofNat 3), (.ofNat 118, .ofNat 341), (.ofNat 0, .ofNat 4), (.ofNat 118, .ofNat 341)], [(57, 117, .inl (0, .ofNat 0)), (52, 6, .inl (3, .ofNat 0))], 2, [some (.inr [52]), some (.inr [20, 21, 22, 23, 24, 25, 26, 27]), some (.inl (.inl (.inr (.ofNat 117)))), some (.inl (.inl (.inl (2, .ofNat 0)))), none], []), ([], []), (4, [(-1, 2)]))
theorem ks672 : aseg kS krf kB [kE562, kE567, kE568, kE569] (ksp []) kE672 [kC672_0] 30000 (none) = true := by decide +kernel
theorem ks672_0 : aseg kS krf kB [kE562, kE567, kE568, kE569] (ksp []) kE672 [kC672_0] 30000 (some kC672_0) = true := by decide +kernel
theorem kok672 : aOK kS krf kB kE672 := aOK_of (kal1 kok562 (kal1 kok567 (kal1 kok568 (kal1 kok569 kal0)))) (kcl1 ks672_0 kcl0) ks672
/-- ColdShod$StrokePlan.addNext(LColdShod$Idea;I)V -/
def kE673 : aE := (83, 3, ([(.ofNat 0, .ofNat 3), (.ofNat 117, .ofNat 341)], [(57, 116, .inl (0, .ofNat 0)), (52, 6, .inl (1, .ofNat 0))], 0, [some (.inr [52]), some (.inr [20, 21, 22, 23, 24, 25, 26, 27]), some (.inl (.inl (.inr (.ofNat 116)))), none, none], []), ([], none), ([], [], none, ([], [])), ([(52, 6), (58, 0), (58, 1), (58, 2), (58, 3), (58, 4), (58, 5), (58, 6)], [54, 55, 56, 57]))
def kC673_0 : aC := (([(.ofNat 0, .ofNat 3), (.ofNat 117, .ofNat 341), (.ofNat 0, .ofNat 4), (.ofNat 117, .ofNat 341)], [(57, 116, .inl (0, .ofNat 0)), (52, 6, .inl (3, .ofNat 0))], 2, [some (.inr [52]), some (.inr [20, 21, 22, 23, 24, 25, 26, 27]), some (.inl (.inl (.inr (.ofNat 116)))), some (.inl (.inl (.inl (2, .ofNat 0)))), none], []), ([], []), (4, [(-1, 2)]))
theorem ks673 : aseg kS krf kB [kE562, kE567, kE568, kE569] (ksp []) kE673 [kC673_0] 30000 (none) = true := by decide +kernel
theorem ks673_0 : aseg kS krf kB [kE562, kE567, kE568, kE569] (ksp []) kE673 [kC673_0] 30000 (some kC673_0) = true := by decide +kernel
theorem kok673 : aOK kS krf kB kE673 := aOK_of (kal1 kok562 (kal1 kok567 (kal1 kok568 (kal1 kok569 kal0)))) (kcl1 ks673_0 kcl0) ks673
/-- ColdShod$StrokePlan.addNext(LColdShod$Idea;I)V -/
def kE674 : aE := (83, 3, ([(.ofNat 0, .ofNat 3), (.ofNat 116, .ofNat 341)], [(57, 115, .inl (0, .ofNat 0)), (52, 6, .inl (1, .ofNat 0))], 0, [some (.inr [52]), some (.inr [20, 21, 22, 23, 24, 25, 26, 27]), some (.inl (.inl (.inr (.ofNat 115)))), none, none], []), ([], none), ([], [], none, ([], [])), ([(52, 6), (58, 0), (58, 1), (58, 2), (58, 3), (58, 4), (58, 5), (58, 6)], [54, 55, 56, 57]))
def kC674_0 : aC := (([(.ofNat 0, .ofNat 3), (.ofNat 116, .ofNat 341), (.ofNat 0, .ofNat 4), (.ofNat 116, .ofNat 341)], [(57, 115, .inl (0, .ofNat 0)), (52, 6, .inl (3, .ofNat 0))], 2, [some (.inr [52]), some (.inr [20, 21, 22, 23, 24, 25, 26, 27]), some (.inl (.inl (.inr (.ofNat 115)))), some (.inl (.inl (.inl (2, .ofNat 0)))), none], []), ([], []), (4, [(-1, 2)]))
theorem ks674 : aseg kS krf kB [kE562, kE567, kE568, kE569] (ksp []) kE674 [kC674_0] 30000 (none) = true := by decide +kernel
theorem ks674_0 : aseg kS krf kB [kE562, kE567, kE568, kE569] (ksp []) kE674 [kC674_0] 30000 (some kC674_0) = true := by decide +kernel
theorem kok674 : aOK kS krf kB kE674 := aOK_of (kal1 kok562 (kal1 kok567 (kal1 kok568 (kal1 kok569 kal0)))) (kcl1 ks674_0 kcl0) ks674
/-- ColdShod$StrokePlan.addNext(LColdShod$Idea;I)V -/
def kE675 : aE := (83, 3, ([(.ofNat 0, .ofNat 3), (.ofNat 115, .ofNat 341)], [(57, 114, .inl (0, .ofNat 0)), (52, 6, .inl (1, .ofNat 0))], 0, [some (.inr [52]), some (.inr [20, 21, 22, 23, 24, 25, 26, 27]), some (.inl (.inl (.inr (.ofNat 114)))), none, none], []), ([], none), ([], [], none, ([], [])), ([(52, 6), (58, 0), (58, 1), (58, 2), (58, 3), (58, 4), (58, 5), (58, 6)], [54, 55, 56, 57]))
def kC675_0 : aC := (([(.ofNat 0, .ofNat 3), (.ofNat 115, .ofNat 341), (.ofNat 0, .ofNat 4), (.ofNat 115, .ofNat 341)], [(57, 114, .inl (0, .ofNat 0)), (52, 6, .inl (3, .ofNat 0))], 2, [some (.inr [52]), some (.inr [20, 21, 22, 23, 24, 25, 26, 27]), some (.inl (.inl (.inr (.ofNat 114)))), some (.inl (.inl (.inl (2, .ofNat 0)))), none], []), ([], []), (4, [(-1, 2)]))
theorem ks675 : aseg kS krf kB [kE562, kE567, kE568, kE569] (ksp []) kE675 [kC675_0] 30000 (none) = true := by decide +kernel
theorem ks675_0 : aseg kS krf kB [kE562, kE567, kE568, kE569] (ksp []) kE675 [kC675_0] 30000 (some kC675_0) = true := by decide +kernel
theorem kok675 : aOK kS krf kB kE675 := aOK_of (kal1 kok562 (kal1 kok567 (kal1 kok568 (kal1 kok569 kal0)))) (kcl1 ks675_0 kcl0) ks675
/-- ColdShod$StrokePlan.addNext(LColdShod$Idea;I)V -/
def kE676 : aE := (83, 3, ([(.ofNat 0, .ofNat 3), (.ofNat 114, .ofNat 341)], [(57, 113, .inl (0, .ofNat 0)), (52, 6, .inl (1, .ofNat 0))], 0, [some (.inr [52]), some (.inr [20, 21, 22, 23, 24, 25, 26, 27]), some (.inl (.inl (.inr (.ofNat 113)))), none, none], []), ([], none), ([], [], none, ([], [])), ([(52, 6), (58, 0), (58, 1), (58, 2), (58, 3), (58, 4), (58, 5), (58, 6)], [54, 55, 56, 57]))
def kC676_0 : aC := (([(.ofNat 0, .ofNat 3), (.ofNat 114, .ofNat 341), (.ofNat 0, .ofNat 4), (.ofNat 114, .ofNat 341)], [(57, 113, .inl (0, .ofNat 0)), (52, 6, .inl (3, .ofNat 0))], 2, [some (.inr [52]), some (.inr [20, 21, 22, 23, 24, 25, 26, 27]), some (.inl (.inl (.inr (.ofNat 113)))), some (.inl (.inl (.inl (2, .ofNat 0)))), none], []), ([], []), (4, [(-1, 2)]))
theorem ks676 : aseg kS krf kB [kE562, kE567, kE568, kE569] (ksp []) kE676 [kC676_0] 30000 (none) = true := by decide +kernel
theorem ks676_0 : aseg kS krf kB [kE562, kE567, kE568, kE569] (ksp []) kE676 [kC676_0] 30000 (some kC676_0) = true := by decide +kernel
theorem kok676 : aOK kS krf kB kE676 := aOK_of (kal1 kok562 (kal1 kok567 (kal1 kok568 (kal1 kok569 kal0)))) (kcl1 ks676_0 kcl0) ks676
/-- ColdShod$StrokePlan.addNext(LColdShod$Idea;I)V -/
def kE677 : aE := (83, 3, ([(.ofNat 0, .ofNat 3), (.ofNat 113, .ofNat 341)], [(57, 112, .inl (0, .ofNat 0)), (52, 6, .inl (1, .ofNat 0))], 0, [some (.inr [52]), some (.inr [20, 21, 22, 23, 24, 25, 26, 27]), some (.inl (.inl (.inr (.ofNat 112)))), none, none], []), ([], none), ([], [], none, ([], [])), ([(52, 6), (58, 0), (58, 1), (58, 2), (58, 3), (58, 4), (58, 5), (58, 6)], [54, 55, 56, 57]))
def kC677_0 : aC := (([(.ofNat 0, .ofNat 3), (.ofNat 113, .ofNat 341), (.ofNat 0, .ofNat 4), (.ofNat 113, .ofNat 341)], [(57, 112, .inl (0, .ofNat 0)), (52, 6, .inl (3, .ofNat 0))], 2, [some (.inr [52]), some (.inr [20, 21, 22, 23, 24, 25, 26, 27]), some (.inl (.inl (.inr (.ofNat 112)))), some (.inl (.inl (.inl (2, .ofNat 0)))), none], []), ([], []), (4, [(-1, 2)]))
theorem ks677 : aseg kS krf kB [kE562, kE567, kE568, kE569] (ksp []) kE677 [kC677_0] 30000 (none) = true := by decide +kernel
theorem ks677_0 : aseg kS krf kB [kE562, kE567, kE568, kE569] (ksp []) kE677 [kC677_0] 30000 (some kC677_0) = true := by decide +kernel
theorem kok677 : aOK kS krf kB kE677 := aOK_of (kal1 kok562 (kal1 kok567 (kal1 kok568 (kal1 kok569 kal0)))) (kcl1 ks677_0 kcl0) ks677
/-- ColdShod$StrokePlan.addNext(LColdShod$Idea;I)V -/
def kE678 : aE := (83, 3, ([(.ofNat 0, .ofNat 3), (.ofNat 112, .ofNat 341)], [(57, 111, .inl (0, .ofNat 0)), (52, 6, .inl (1, .ofNat 0))], 0, [some (.inr [52]), some (.inr [20, 21, 22, 23, 24, 25, 26, 27]), some (.inl (.inl (.inr (.ofNat 111)))), none, none], []), ([], none), ([], [], none, ([], [])), ([(52, 6), (58, 0), (58, 1), (58, 2), (58, 3), (58, 4), (58, 5), (58, 6)], [54, 55, 56, 57]))
def kC678_0 : aC := (([(.ofNat 0, .ofNat 3), (.ofNat 112, .ofNat 341), (.ofNat 0, .ofNat 4), (.ofNat 112, .ofNat 341)], [(57, 111, .inl (0, .ofNat 0)), (52, 6, .inl (3, .ofNat 0))], 2, [some (.inr [52]), some (.inr [20, 21, 22, 23, 24, 25, 26, 27]), some (.inl (.inl (.inr (.ofNat 111)))), some (.inl (.inl (.inl (2, .ofNat 0)))), none], []), ([], []), (4, [(-1, 2)]))
theorem ks678 : aseg kS krf kB [kE562, kE567, kE568, kE569] (ksp []) kE678 [kC678_0] 30000 (none) = true := by decide +kernel
theorem ks678_0 : aseg kS krf kB [kE562, kE567, kE568, kE569] (ksp []) kE678 [kC678_0] 30000 (some kC678_0) = true := by decide +kernel
theorem kok678 : aOK kS krf kB kE678 := aOK_of (kal1 kok562 (kal1 kok567 (kal1 kok568 (kal1 kok569 kal0)))) (kcl1 ks678_0 kcl0) ks678
/-- ColdShod$StrokePlan.addNext(LColdShod$Idea;I)V -/
def kE679 : aE := (83, 3, ([(.ofNat 0, .ofNat 3), (.ofNat 111, .ofNat 341)], [(57, 110, .inl (0, .ofNat 0)), (52, 6, .inl (1, .ofNat 0))], 0, [some (.inr [52]), some (.inr [20, 21, 22, 23, 24, 25, 26, 27]), some (.inl (.inl (.inr (.ofNat 110)))), none, none], []), ([], none), ([], [], none, ([], [])), ([(52, 6), (58, 0), (58, 1), (58, 2), (58, 3), (58, 4), (58, 5), (58, 6)], [54, 55, 56, 57]))
def kC679_0 : aC := (([(.ofNat 0, .ofNat 3), (.ofNat 111, .ofNat 341), (.ofNat 0, .ofNat 4), (.ofNat 111, .ofNat 341)], [(57, 110, .inl (0, .ofNat 0)), (52, 6, .inl (3, .ofNat 0))], 2, [some (.inr [52]), some (.inr [20, 21, 22, 23, 24, 25, 26, 27]), some (.inl (.inl (.inr (.ofNat 110)))), some (.inl (.inl (.inl (2, .ofNat 0)))), none], []), ([], []), (4, [(-1, 2)]))
theorem ks679 : aseg kS krf kB [kE562, kE567, kE568, kE569] (ksp []) kE679 [kC679_0] 30000 (none) = true := by decide +kernel
theorem ks679_0 : aseg kS krf kB [kE562, kE567, kE568, kE569] (ksp []) kE679 [kC679_0] 30000 (some kC679_0) = true := by decide +kernel
theorem kok679 : aOK kS krf kB kE679 := aOK_of (kal1 kok562 (kal1 kok567 (kal1 kok568 (kal1 kok569 kal0)))) (kcl1 ks679_0 kcl0) ks679
