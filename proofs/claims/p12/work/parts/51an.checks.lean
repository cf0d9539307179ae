/-! ENTRIES and their checks: printed by a program (wip/ai). -/
/-- ColdShodModel.way(III)I -/
noncomputable def kE560 : aE := (193, 54, ([(.negSucc 2147483647, .ofNat 2147483647), (.negSucc 2147483647, .ofNat 2147483647), (.negSucc 2147483647, .ofNat 2147483647)], [], 0, [some (.inr [102]), some (.inl (.inl (.inl (0, .ofNat 0)))), some (.inl (.inl (.inl (1, .ofNat 0)))), some (.inl (.inl (.inl (2, .ofNat 0))))], []), ([], none), ([(.negSucc 2147483647, .ofNat 2147483647)], [], some (.inl (.inl (.inl (3, .ofNat 0)))), ([], [])), ([(102, 15), (102, 16), (102, 17), (102, 18), (102, 19), (102, 22), (102, 23), (102, 29), (102, 30), (111, 0), (111, 1), (111, 2), (111, 3), (111, 4), (111, 5), (114, 0), (114, 1), (114, 2), (114, 3), (114, 4), (114, 5), (114, 6)], [112, 115]))
theorem ks560 : aseg kS krf kB [kE432, kE496, kE528, kE544, kE552, kE556, kE558, kE559] (ksp [(193, 0, 2, 0, 79, 9), (193, 99, 3, -2, 8, 0)]) kE560 [] 30000 (none) = true := asgqk (by decide +kernel)
theorem kok560 : aOK kS krf kB kE560 := aOK_of (kal1 kok432 (kal1 kok496 (kal1 kok528 (kal1 kok544 (kal1 kok552 (kal1 kok556 (kal1 kok558 (kal1 kok559 kal0)))))))) kcl0 ks560
/-- ColdShod$StrokePlan.stateOf(LColdShod$Idea;)I -/
noncomputable def kE561 : aE := (86, 0, ([], [], 0, [some (.inr [20, 21, 22, 23, 24, 25, 26, 27])], []), ([], none), ([kvA], [], kvI 0, ([], [])), kvW0)
theorem ks561 : aseg kS krf kB [] (ksp []) kE561 [] 30000 (none) = true := asgqk (by decide +kernel)
theorem kok561 : aOK kS krf kB kE561 := aOK_of kal0 kcl0 ks561
/-- ColdShod$StrokePlan.recall(LColdShod$Idea;I)V -/
noncomputable def kE562 : aE := (87, 2, ([kvA], [], 0, [kvR 52, some (.inr [20, 21, 22, 23, 24, 25, 26, 27]), kvI 0], []), ([], none), ([], [], none, ([], [])), kvW69)
theorem ks562 : aseg kS krf kB [] (ksp []) kE562 [] 30000 (none) = true := asgqk (by decide +kernel)
theorem kok562 : aOK kS krf kB kE562 := aOK_of kal0 kcl0 ks562
/-- ColdShod$Country.wearOf(LColdShod$Idea;LColdShod$Road;)I -/
noncomputable def kE563 : aE := (23, 2, ([], [], 0, [kvR 7, kvR 58, some (.inr [28, 29, 30, 31, 32, 33, 34, 35, 36, 37, 38, 39])], []), ([], none), ([kvB 0 9], [], kvI 0, ([], [])), kvW5)
theorem ks563 : aseg kS krf kB [kE39] (ksp [(23, 0, 1, -1000, 1000, 0)]) kE563 [] 30000 (none) = true := asgqk (by decide +kernel)
theorem kok563 : aOK kS krf kB kE563 := aOK_of (kal1 kok39 kal0) kcl0 ks563
/-- ColdShod$Country.travel(LColdShod$Idea;LColdShod$Road;)I -/
noncomputable def kE564 : aE := (24, 3, ([], [], 0, [kvR 7, kvR 58, some (.inr [28, 29, 30, 31, 32, 33, 34, 35, 36, 37, 38, 39]), none, none], []), ([], none), ([(.negSucc 1999999999, .ofNat 100000000)], [], kvI 0, ([], [])), kvW70)
noncomputable def kC564_0 : aC := (([kvB 0 9, kvB 1 100000001, (.negSucc 1999999999, .ofNat 99)], [(58, 2, .inl (2, .ofNat 0))], 20, [kvR 7, kvR 58, some (.inr [28, 29, 30, 31, 32, 33, 34, 35, 36, 37, 38, 39]), kvI 0, kvI 1], []), ([], []), (100000001, [(-1, 1)]))
theorem ks564 : aseg kS krf kB [kE563] (ksp []) kE564 [kC564_0] 30000 (none) = true := asgqk (by decide +kernel)
theorem ks564_0 : aseg kS krf kB [kE563] (ksp []) kE564 [kC564_0] 30000 (some kC564_0) = true := asgqk (by decide +kernel)
theorem kok564 : aOK kS krf kB kE564 := aOK_of (kal1 kok563 kal0) (kcl1 ks564_0 kcl0) ks564
/-- ColdShod$Journey.allGone(LColdShod$Idea;LColdShod$Country;)Z -/
noncomputable def kE565 : aE := (49, 5, ([], [], 0, [kvR 50, kvR 58, kvR 7, none], []), ([], none), ([kvB 0 1], [], kvI 0, ([], [])), kvW71)
noncomputable def kC565_0 : aC := (([kvB 0 20], [], 12, [kvR 50, kvR 58, kvR 7, kvI 0], []), ([], []), (20, [(-1, 0)]))
theorem ks565 : aseg kS krf kB [kE564] (ksp []) kE565 [kC565_0] 30000 (none) = true := asgqk (by decide +kernel)
theorem ks565_0 : aseg kS krf kB [kE564] (ksp []) kE565 [kC565_0] 30000 (some kC565_0) = true := asgqk (by decide +kernel)
theorem kok565 : aOK kS krf kB kE565 := aOK_of (kal1 kok564 kal0) (kcl1 ks565_0 kcl0) ks565
/-- ColdShod$StrokePlan.tellPlan(I)I -/
noncomputable def kE566 : aE := (85, 0, ([kvB 0 340], [], 0, [kvR 52, kvI 0, none, none, none], []), ([], none), ([kvB 0 4], [], kvI 1, ([], [])), kvW72)
noncomputable def kC566_0 : aC := (([kvB 0 340, kvB 0 4, kvB 0 340, (.negSucc 0, .ofNat 3)], [], 14, [kvR 52, kvI 0, kvI 1, kvI 2, kvI 3], []), ([], []), (1, [(1, 3)]))
theorem ks566 : aseg kS krf kB [] (ksp []) kE566 [kC566_0] 30000 (none) = true := asgqk (by decide +kernel)
theorem ks566_0 : aseg kS krf kB [] (ksp []) kE566 [kC566_0] 30000 (some kC566_0) = true := asgqk (by decide +kernel)
theorem kok566 : aOK kS krf kB kE566 := aOK_of kal0 (kcl1 ks566_0 kcl0) ks566
/-- ColdShod$Idea.strike(I)Z -/
noncomputable def kE567 : aE := (43, 2, ([kvB 0 3], [], 0, [kvR 58, kvI 0], []), ([], none), ([kvB 0 1], [], kvI 1, ([], [])), kvW73)
theorem ks567 : aseg kS krf kB [] (ksp []) kE567 [] 30000 (none) = true := asgqk (by decide +kernel)
theorem kok567 : aOK kS krf kB kE567 := aOK_of kal0 kcl0 ks567
/-- ColdShod$StrokePlan.stateOf(LColdShod$Idea;)I -/
noncomputable def kE568 : aE := (86, 0, ([], [], 0, [kvR 58], []), ([], none), ([kvA], [], kvI 0, ([], [])), kvW0)
theorem ks568 : aseg kS krf kB [] (ksp []) kE568 [] 30000 (none) = true := asgqk (by decide +kernel)
theorem kok568 : aOK kS krf kB kE568 := aOK_of kal0 kcl0 ks568
/-- ColdShod$StrokePlan.isFound(I)Z -/
noncomputable def kE569 : aE := (84, 0, ([kvA], [], 0, [kvR 52, kvI 0, none], []), ([], none), ([kvB 0 1], [], kvI 1, ([], [])), kvW0)
noncomputable def kC569_0 : aC := (([kvA, kvB 0 341], [], 2, [kvR 52, kvI 0, kvI 1], []), ([], []), (341, [(-1, 1)]))
theorem ks569 : aseg kS krf kB [] (ksp []) kE569 [kC569_0] 30000 (none) = true := asgqk (by decide +kernel)
theorem ks569_0 : aseg kS krf kB [] (ksp []) kE569 [kC569_0] 30000 (some kC569_0) = true := asgqk (by decide +kernel)
theorem kok569 : aOK kS krf kB kE569 := aOK_of kal0 (kcl1 ks569_0 kcl0) ks569
/-- ColdShod$StrokePlan.addNext(LColdShod$Idea;I)V -/
noncomputable def kE570 : aE := (83, 3, ([kvB 0 3, kvB 20 341], [(57, 19, .inl (0, .ofNat 0)), (52, 6, .inl (1, .ofNat 0))], 0, [kvR 52, some (.inr [20, 21, 22, 23, 24, 25, 26, 27]), kvN 19, none, none], []), ([], none), ([], [], none, ([], [])), kvW74)
noncomputable def kC570_0 : aC := (([kvB 0 3, kvB 20 341, kvB 0 4, kvB 20 341], [(57, 19, .inl (0, .ofNat 0)), (52, 6, .inl (3, .ofNat 0))], 2, [kvR 52, some (.inr [20, 21, 22, 23, 24, 25, 26, 27]), kvN 19, kvI 2, none], []), ([], []), (4, [(-1, 2)]))
theorem ks570 : aseg kS krf kB [kE562, kE567, kE568, kE569] (ksp []) kE570 [kC570_0] 30000 (none) = true := asgqk (by decide +kernel)
theorem ks570_0 : aseg kS krf kB [kE562, kE567, kE568, kE569] (ksp []) kE570 [kC570_0] 30000 (some kC570_0) = true := asgqk (by decide +kernel)
theorem kok570 : aOK kS krf kB kE570 := aOK_of (kal1 kok562 (kal1 kok567 (kal1 kok568 (kal1 kok569 kal0)))) (kcl1 ks570_0 kcl0) ks570
/-- ColdShod$StrokePlan.addNext(LColdShod$Idea;I)V -/
noncomputable def kE571 : aE := (83, 3, ([kvB 0 3, kvB 19 341], [(57, 18, .inl (0, .ofNat 0)), (52, 6, .inl (1, .ofNat 0))], 0, [kvR 52, some (.inr [20, 21, 22, 23, 24, 25, 26, 27]), kvN 18, none, none], []), ([], none), ([], [], none, ([], [])), kvW74)
noncomputable def kC571_0 : aC := (([kvB 0 3, kvB 19 341, kvB 0 4, kvB 19 341], [(57, 18, .inl (0, .ofNat 0)), (52, 6, .inl (3, .ofNat 0))], 2, [kvR 52, some (.inr [20, 21, 22, 23, 24, 25, 26, 27]), kvN 18, kvI 2, none], []), ([], []), (4, [(-1, 2)]))
theorem ks571 : aseg kS krf kB [kE562, kE567, kE568, kE569] (ksp []) kE571 [kC571_0] 30000 (none) = true := asgqk (by decide +kernel)
theorem ks571_0 : aseg kS krf kB [kE562, kE567, kE568, kE569] (ksp []) kE571 [kC571_0] 30000 (some kC571_0) = true := asgqk (by decide +kernel)
theorem kok571 : aOK kS krf kB kE571 := aOK_of (kal1 kok562 (kal1 kok567 (kal1 kok568 (kal1 kok569 kal0)))) (kcl1 ks571_0 kcl0) ks571
/-- ColdShod$StrokePlan.addNext(LColdShod$Idea;I)V -/
noncomputable def kE572 : aE := (83, 3, ([kvB 0 3, kvB 18 341], [(57, 17, .inl (0, .ofNat 0)), (52, 6, .inl (1, .ofNat 0))], 0, [kvR 52, some (.inr [20, 21, 22, 23, 24, 25, 26, 27]), kvN 17, none, none], []), ([], none), ([], [], none, ([], [])), kvW74)
noncomputable def kC572_0 : aC := (([kvB 0 3, kvB 18 341, kvB 0 4, kvB 18 341], [(57, 17, .inl (0, .ofNat 0)), (52, 6, .inl (3, .ofNat 0))], 2, [kvR 52, some (.inr [20, 21, 22, 23, 24, 25, 26, 27]), kvN 17, kvI 2, none], []), ([], []), (4, [(-1, 2)]))
theorem ks572 : aseg kS krf kB [kE562, kE567, kE568, kE569] (ksp []) kE572 [kC572_0] 30000 (none) = true := asgqk (by decide +kernel)
theorem ks572_0 : aseg kS krf kB [kE562, kE567, kE568, kE569] (ksp []) kE572 [kC572_0] 30000 (some kC572_0) = true := asgqk (by decide +kernel)
theorem kok572 : aOK kS krf kB kE572 := aOK_of (kal1 kok562 (kal1 kok567 (kal1 kok568 (kal1 kok569 kal0)))) (kcl1 ks572_0 kcl0) ks572
/-- ColdShod$StrokePlan.addNext(LColdShod$Idea;I)V -/
noncomputable def kE573 : aE := (83, 3, ([kvB 0 3, kvB 17 341], [(57, 16, .inl (0, .ofNat 0)), (52, 6, .inl (1, .ofNat 0))], 0, [kvR 52, some (.inr [20, 21, 22, 23, 24, 25, 26, 27]), kvN 16, none, none], []), ([], none), ([], [], none, ([], [])), kvW74)
noncomputable def kC573_0 : aC := (([kvB 0 3, kvB 17 341, kvB 0 4, kvB 17 341], [(57, 16, .inl (0, .ofNat 0)), (52, 6, .inl (3, .ofNat 0))], 2, [kvR 52, some (.inr [20, 21, 22, 23, 24, 25, 26, 27]), kvN 16, kvI 2, none], []), ([], []), (4, [(-1, 2)]))
theorem ks573 : aseg kS krf kB [kE562, kE567, kE568, kE569] (ksp []) kE573 [kC573_0] 30000 (none) = true := asgqk (by decide +kernel)
theorem ks573_0 : aseg kS krf kB [kE562, kE567, kE568, kE569] (ksp []) kE573 [kC573_0] 30000 (some kC573_0) = true := asgqk (by decide +kernel)
theorem kok573 : aOK kS krf kB kE573 := aOK_of (kal1 kok562 (kal1 kok567 (kal1 kok568 (kal1 kok569 kal0)))) (kcl1 ks573_0 kcl0) ks573
/-- ColdShod$StrokePlan.addNext(LColdShod$Idea;I)V -/
noncomputable def kE574 : aE := (83, 3, ([kvB 0 3, kvB 16 341], [(57, 15, .inl (0, .ofNat 0)), (52, 6, .inl (1, .ofNat 0))], 0, [kvR 52, some (.inr [20, 21, 22, 23, 24, 25, 26, 27]), kvN 15, none, none], []), ([], none), ([], [], none, ([], [])), kvW74)
noncomputable def kC574_0 : aC := (([kvB 0 3, kvB 16 341, kvB 0 4, kvB 16 341], [(57, 15, .inl (0, .ofNat 0)), (52, 6, .inl (3, .ofNat 0))], 2, [kvR 52, some (.inr [20, 21, 22, 23, 24, 25, 26, 27]), kvN 15, kvI 2, none], []), ([], []), (4, [(-1, 2)]))
theorem ks574 : aseg kS krf kB [kE562, kE567, kE568, kE569] (ksp []) kE574 [kC574_0] 30000 (none) = true := asgqk (by decide +kernel)
theorem ks574_0 : aseg kS krf kB [kE562, kE567, kE568, kE569] (ksp []) kE574 [kC574_0] 30000 (some kC574_0) = true := asgqk (by decide +kernel)
theorem kok574 : aOK kS krf kB kE574 := aOK_of (kal1 kok562 (kal1 kok567 (kal1 kok568 (kal1 kok569 kal0)))) (kcl1 ks574_0 kcl0) ks574
/-- ColdShod$StrokePlan.addNext(LColdShod$Idea;I)V -/
noncomputable def kE575 : aE := (83, 3, ([kvB 0 3, kvB 15 341], [(57, 14, .inl (0, .ofNat 0)), (52, 6, .inl (1, .ofNat 0))], 0, [kvR 52, some (.inr [20, 21, 22, 23, 24, 25, 26, 27]), kvN 14, none, none], []), ([], none), ([], [], none, ([], [])), kvW74)
noncomputable def kC575_0 : aC := (([kvB 0 3, kvB 15 341, kvB 0 4, kvB 15 341], [(57, 14, .inl (0, .ofNat 0)), (52, 6, .inl (3, .ofNat 0))], 2, [kvR 52, some (.inr [20, 21, 22, 23, 24, 25, 26, 27]), kvN 14, kvI 2, none], []), ([], []), (4, [(-1, 2)]))
theorem ks575 : aseg kS krf kB [kE562, kE567, kE568, kE569] (ksp []) kE575 [kC575_0] 30000 (none) = true := asgqk (by decide +kernel)
theorem ks575_0 : aseg kS krf kB [kE562, kE567, kE568, kE569] (ksp []) kE575 [kC575_0] 30000 (some kC575_0) = true := asgqk (by decide +kernel)
theorem kok575 : aOK kS krf kB kE575 := aOK_of (kal1 kok562 (kal1 kok567 (kal1 kok568 (kal1 kok569 kal0)))) (kcl1 ks575_0 kcl0) ks575
/-- ColdShod$StrokePlan.addNext(LColdShod$Idea;I)V -/
noncomputable def kE576 : aE := (83, 3, ([kvB 0 3, kvB 14 341], [(57, 13, .inl (0, .ofNat 0)), (52, 6, .inl (1, .ofNat 0))], 0, [kvR 52, some (.inr [20, 21, 22, 23, 24, 25, 26, 27]), kvN 13, none, none], []), ([], none), ([], [], none, ([], [])), kvW74)
noncomputable def kC576_0 : aC := (([kvB 0 3, kvB 14 341, kvB 0 4, kvB 14 341], [(57, 13, .inl (0, .ofNat 0)), (52, 6, .inl (3, .ofNat 0))], 2, [kvR 52, some (.inr [20, 21, 22, 23, 24, 25, 26, 27]), kvN 13, kvI 2, none], []), ([], []), (4, [(-1, 2)]))
theorem ks576 : aseg kS krf kB [kE562, kE567, kE568, kE569] (ksp []) kE576 [kC576_0] 30000 (none) = true := asgqk (by decide +kernel)
theorem ks576_0 : aseg kS krf kB [kE562, kE567, kE568, kE569] (ksp []) kE576 [kC576_0] 30000 (some kC576_0) = true := asgqk (by decide +kernel)
theorem kok576 : aOK kS krf kB kE576 := aOK_of (kal1 kok562 (kal1 kok567 (kal1 kok568 (kal1 kok569 kal0)))) (kcl1 ks576_0 kcl0) ks576
/-- ColdShod$StrokePlan.addNext(LColdShod$Idea;I)V -/
noncomputable def kE577 : aE := (83, 3, ([kvB 0 3, kvB 13 341], [(57, 12, .inl (0, .ofNat 0)), (52, 6, .inl (1, .ofNat 0))], 0, [kvR 52, some (.inr [20, 21, 22, 23, 24, 25, 26, 27]), kvN 12, none, none], []), ([], none), ([], [], none, ([], [])), kvW74)
noncomputable def kC577_0 : aC := (([kvB 0 3, kvB 13 341, kvB 0 4, kvB 13 341], [(57, 12, .inl (0, .ofNat 0)), (52, 6, .inl (3, .ofNat 0))], 2, [kvR 52, some (.inr [20, 21, 22, 23, 24, 25, 26, 27]), kvN 12, kvI 2, none], []), ([], []), (4, [(-1, 2)]))
theorem ks577 : aseg kS krf kB [kE562, kE567, kE568, kE569] (ksp []) kE577 [kC577_0] 30000 (none) = true := asgqk (by decide +kernel)
theorem ks577_0 : aseg kS krf kB [kE562, kE567, kE568, kE569] (ksp []) kE577 [kC577_0] 30000 (some kC577_0) = true := asgqk (by decide +kernel)
theorem kok577 : aOK kS krf kB kE577 := aOK_of (kal1 kok562 (kal1 kok567 (kal1 kok568 (kal1 kok569 kal0)))) (kcl1 ks577_0 kcl0) ks577
/-- ColdShod$StrokePlan.addNext(LColdShod$Idea;I)V -/
noncomputable def kE578 : aE := (83, 3, ([kvB 0 3, kvB 12 341], [(57, 11, .inl (0, .ofNat 0)), (52, 6, .inl (1, .ofNat 0))], 0, [kvR 52, some (.inr [20, 21, 22, 23, 24, 25, 26, 27]), kvN 11, none, none], []), ([], none), ([], [], none, ([], [])), kvW74)
noncomputable def kC578_0 : aC := (([kvB 0 3, kvB 12 341, kvB 0 4, kvB 12 341], [(57, 11, .inl (0, .ofNat 0)), (52, 6, .inl (3, .ofNat 0))], 2, [kvR 52, some (.inr [20, 21, 22, 23, 24, 25, 26, 27]), kvN 11, kvI 2, none], []), ([], []), (4, [(-1, 2)]))
theorem ks578 : aseg kS krf kB [kE562, kE567, kE568, kE569] (ksp []) kE578 [kC578_0] 30000 (none) = true := asgqk (by decide +kernel)
theorem ks578_0 : aseg kS krf kB [kE562, kE567, kE568, kE569] (ksp []) kE578 [kC578_0] 30000 (some kC578_0) = true := asgqk (by decide +kernel)
theorem kok578 : aOK kS krf kB kE578 := aOK_of (kal1 kok562 (kal1 kok567 (kal1 kok568 (kal1 kok569 kal0)))) (kcl1 ks578_0 kcl0) ks578
/-- ColdShod$StrokePlan.addNext(LColdShod$Idea;I)V -/
noncomputable def kE579 : aE := (83, 3, ([kvB 0 3, kvB 11 341], [(57, 10, .inl (0, .ofNat 0)), (52, 6, .inl (1, .ofNat 0))], 0, [kvR 52, some (.inr [20, 21, 22, 23, 24, 25, 26, 27]), kvN 10, none, none], []), ([], none), ([], [], none, ([], [])), kvW74)
noncomputable def kC579_0 : aC := (([kvB 0 3, kvB 11 341, kvB 0 4, kvB 11 341], [(57, 10, .inl (0, .ofNat 0)), (52, 6, .inl (3, .ofNat 0))], 2, [kvR 52, some (.inr [20, 21, 22, 23, 24, 25, 26, 27]), kvN 10, kvI 2, none], []), ([], []), (4, [(-1, 2)]))
theorem ks579 : aseg kS krf kB [kE562, kE567, kE568, kE569] (ksp []) kE579 [kC579_0] 30000 (none) = true := asgqk (by decide +kernel)
theorem ks579_0 : aseg kS krf kB [kE562, kE567, kE568, kE569] (ksp []) kE579 [kC579_0] 30000 (some kC579_0) = true := asgqk (by decide +kernel)
theorem kok579 : aOK kS krf kB kE579 := aOK_of (kal1 kok562 (kal1 kok567 (kal1 kok568 (kal1 kok569 kal0)))) (kcl1 ks579_0 kcl0) ks579
/-- ColdShod$StrokePlan.addNext(LColdShod$Idea;I)V -/
noncomputable def kE580 : aE := (83, 3, ([kvB 0 3, kvB 10 341], [(57, 9, .inl (0, .ofNat 0)), (52, 6, .inl (1, .ofNat 0))], 0, [kvR 52, some (.inr [20, 21, 22, 23, 24, 25, 26, 27]), kvN 9, none, none], []), ([], none), ([], [], none, ([], [])), kvW74)
noncomputable def kC580_0 : aC := (([kvB 0 3, kvB 10 341, kvB 0 4, kvB 10 341], [(57, 9, .inl (0, .ofNat 0)), (52, 6, .inl (3, .ofNat 0))], 2, [kvR 52, some (.inr [20, 21, 22, 23, 24, 25, 26, 27]), kvN 9, kvI 2, none], []), ([], []), (4, [(-1, 2)]))
theorem ks580 : aseg kS krf kB [kE562, kE567, kE568, kE569] (ksp []) kE580 [kC580_0] 30000 (none) = true := asgqk (by decide +kernel)
theorem ks580_0 : aseg kS krf kB [kE562, kE567, kE568, kE569] (ksp []) kE580 [kC580_0] 30000 (some kC580_0) = true := asgqk (by decide +kernel)
theorem kok580 : aOK kS krf kB kE580 := aOK_of (kal1 kok562 (kal1 kok567 (kal1 kok568 (kal1 kok569 kal0)))) (kcl1 ks580_0 kcl0) ks580
/-- ColdShod$StrokePlan.addNext(LColdShod$Idea;I)V -/
noncomputable def kE581 : aE := (83, 3, ([kvB 0 3, kvB 9 341], [(57, 8, .inl (0, .ofNat 0)), (52, 6, .inl (1, .ofNat 0))], 0, [kvR 52, some (.inr [20, 21, 22, 23, 24, 25, 26, 27]), kvN 8, none, none], []), ([], none), ([], [], none, ([], [])), kvW74)
noncomputable def kC581_0 : aC := (([kvB 0 3, kvB 9 341, kvB 0 4, kvB 9 341], [(57, 8, .inl (0, .ofNat 0)), (52, 6, .inl (3, .ofNat 0))], 2, [kvR 52, some (.inr [20, 21, 22, 23, 24, 25, 26, 27]), kvN 8, kvI 2, none], []), ([], []), (4, [(-1, 2)]))
theorem ks581 : aseg kS krf kB [kE562, kE567, kE568, kE569] (ksp []) kE581 [kC581_0] 30000 (none) = true := asgqk (by decide +kernel)
theorem ks581_0 : aseg kS krf kB [kE562, kE567, kE568, kE569] (ksp []) kE581 [kC581_0] 30000 (some kC581_0) = true := asgqk (by decide +kernel)
theorem kok581 : aOK kS krf kB kE581 := aOK_of (kal1 kok562 (kal1 kok567 (kal1 kok568 (kal1 kok569 kal0)))) (kcl1 ks581_0 kcl0) ks581
/-- ColdShod$StrokePlan.addNext(LColdShod$Idea;I)V -/
noncomputable def kE582 : aE := (83, 3, ([kvB 0 3, kvB 8 341], [(57, 7, .inl (0, .ofNat 0)), (52, 6, .inl (1, .ofNat 0))], 0, [kvR 52, some (.inr [20, 21, 22, 23, 24, 25, 26, 27]), kvN 7, none, none], []), ([], none), ([], [], none, ([], [])), kvW74)
noncomputable def kC582_0 : aC := (([kvB 0 3, kvB 8 341, kvB 0 4, kvB 8 341], [(57, 7, .inl (0, .ofNat 0)), (52, 6, .inl (3, .ofNat 0))], 2, [kvR 52, some (.inr [20, 21, 22, 23, 24, 25, 26, 27]), kvN 7, kvI 2, none], []), ([], []), (4, [(-1, 2)]))
theorem ks582 : aseg kS krf kB [kE562, kE567, kE568, kE569] (ksp []) kE582 [kC582_0] 30000 (none) = true := asgqk (by decide +kernel)
theorem ks582_0 : aseg kS krf kB [kE562, kE567, kE568, kE569] (ksp []) kE582 [kC582_0] 30000 (some kC582_0) = true := asgqk (by decide +kernel)
theorem kok582 : aOK kS krf kB kE582 := aOK_of (kal1 kok562 (kal1 kok567 (kal1 kok568 (kal1 kok569 kal0)))) (kcl1 ks582_0 kcl0) ks582
/-- ColdShod$StrokePlan.addNext(LColdShod$Idea;I)V -/
noncomputable def kE583 : aE := (83, 3, ([kvB 0 3, kvB 7 341], [(57, 6, .inl (0, .ofNat 0)), (52, 6, .inl (1, .ofNat 0))], 0, [kvR 52, some (.inr [20, 21, 22, 23, 24, 25, 26, 27]), kvN 6, none, none], []), ([], none), ([], [], none, ([], [])), kvW74)
noncomputable def kC583_0 : aC := (([kvB 0 3, kvB 7 341, kvB 0 4, kvB 7 341], [(57, 6, .inl (0, .ofNat 0)), (52, 6, .inl (3, .ofNat 0))], 2, [kvR 52, some (.inr [20, 21, 22, 23, 24, 25, 26, 27]), kvN 6, kvI 2, none], []), ([], []), (4, [(-1, 2)]))
theorem ks583 : aseg kS krf kB [kE562, kE567, kE568, kE569] (ksp []) kE583 [kC583_0] 30000 (none) = true := asgqk (by decide +kernel)
theorem ks583_0 : aseg kS krf kB [kE562, kE567, kE568, kE569] (ksp []) kE583 [kC583_0] 30000 (some kC583_0) = true := asgqk (by decide +kernel)
theorem kok583 : aOK kS krf kB kE583 := aOK_of (kal1 kok562 (kal1 kok567 (kal1 kok568 (kal1 kok569 kal0)))) (kcl1 ks583_0 kcl0) ks583
/-- ColdShod$StrokePlan.addNext(LColdShod$Idea;I)V -/
noncomputable def kE584 : aE := (83, 3, ([kvB 0 3, kvB 6 341], [(57, 5, .inl (0, .ofNat 0)), (52, 6, .inl (1, .ofNat 0))], 0, [kvR 52, some (.inr [20, 21, 22, 23, 24, 25, 26, 27]), kvN 5, none, none], []), ([], none), ([], [], none, ([], [])), kvW74)
noncomputable def kC584_0 : aC := (([kvB 0 3, kvB 6 341, kvB 0 4, kvB 6 341], [(57, 5, .inl (0, .ofNat 0)), (52, 6, .inl (3, .ofNat 0))], 2, [kvR 52, some (.inr [20, 21, 22, 23, 24, 25, 26, 27]), kvN 5, kvI 2, none], []), ([], []), (4, [(-1, 2)]))
theorem ks584 : aseg kS krf kB [kE562, kE567, kE568, kE569] (ksp []) kE584 [kC584_0] 30000 (none) = true := asgqk (by decide +kernel)
theorem ks584_0 : aseg kS krf kB [kE562, kE567, kE568, kE569] (ksp []) kE584 [kC584_0] 30000 (some kC584_0) = true := asgqk (by decide +kernel)
theorem kok584 : aOK kS krf kB kE584 := aOK_of (kal1 kok562 (kal1 kok567 (kal1 kok568 (kal1 kok569 kal0)))) (kcl1 ks584_0 kcl0) ks584
/-- ColdShod$StrokePlan.addNext(LColdShod$Idea;I)V -/
noncomputable def kE585 : aE := (83, 3, ([kvB 0 3, kvB 5 341], [(57, 4, .inl (0, .ofNat 0)), (52, 6, .inl (1, .ofNat 0))], 0, [kvR 52, some (.inr [20, 21, 22, 23, 24, 25, 26, 27]), kvN 4, none, none], []), ([], none), ([], [], none, ([], [])), kvW74)
noncomputable def kC585_0 : aC := (([kvB 0 3, kvB 5 341, kvB 0 4, kvB 5 341], [(57, 4, .inl (0, .ofNat 0)), (52, 6, .inl (3, .ofNat 0))], 2, [kvR 52, some (.inr [20, 21, 22, 23, 24, 25, 26, 27]), kvN 4, kvI 2, none], []), ([], []), (4, [(-1, 2)]))
theorem ks585 : aseg kS krf kB [kE562, kE567, kE568, kE569] (ksp []) kE585 [kC585_0] 30000 (none) = true := asgqk (by decide +kernel)
theorem ks585_0 : aseg kS krf kB [kE562, kE567, kE568, kE569] (ksp []) kE585 [kC585_0] 30000 (some kC585_0) = true := asgqk (by decide +kernel)
theorem kok585 : aOK kS krf kB kE585 := aOK_of (kal1 kok562 (kal1 kok567 (kal1 kok568 (kal1 kok569 kal0)))) (kcl1 ks585_0 kcl0) ks585
/-- ColdShod$StrokePlan.addNext(LColdShod$Idea;I)V -/
noncomputable def kE586 : aE := (83, 3, ([kvB 0 3, kvB 4 341], [(57, 3, .inl (0, .ofNat 0)), (52, 6, .inl (1, .ofNat 0))], 0, [kvR 52, some (.inr [20, 21, 22, 23, 24, 25, 26, 27]), kvN 3, none, none], []), ([], none), ([], [], none, ([], [])), kvW74)
noncomputable def kC586_0 : aC := (([kvB 0 3, kvB 4 341, kvB 0 4, kvB 4 341], [(57, 3, .inl (0, .ofNat 0)), (52, 6, .inl (3, .ofNat 0))], 2, [kvR 52, some (.inr [20, 21, 22, 23, 24, 25, 26, 27]), kvN 3, kvI 2, none], []), ([], []), (4, [(-1, 2)]))
theorem ks586 : aseg kS krf kB [kE562, kE567, kE568, kE569] (ksp []) kE586 [kC586_0] 30000 (none) = true := asgqk (by decide +kernel)
theorem ks586_0 : aseg kS krf kB [kE562, kE567, kE568, kE569] (ksp []) kE586 [kC586_0] 30000 (some kC586_0) = true := asgqk (by decide +kernel)
theorem kok586 : aOK kS krf kB kE586 := aOK_of (kal1 kok562 (kal1 kok567 (kal1 kok568 (kal1 kok569 kal0)))) (kcl1 ks586_0 kcl0) ks586
/-- ColdShod$StrokePlan.addNext(LColdShod$Idea;I)V -/
noncomputable def kE587 : aE := (83, 3, ([kvB 0 3, kvB 3 341], [(57, 2, .inl (0, .ofNat 0)), (52, 6, .inl (1, .ofNat 0))], 0, [kvR 52, some (.inr [20, 21, 22, 23, 24, 25, 26, 27]), kvN 2, none, none], []), ([], none), ([], [], none, ([], [])), kvW74)
noncomputable def kC587_0 : aC := (([kvB 0 3, kvB 3 341, kvB 0 4, kvB 3 341], [(57, 2, .inl (0, .ofNat 0)), (52, 6, .inl (3, .ofNat 0))], 2, [kvR 52, some (.inr [20, 21, 22, 23, 24, 25, 26, 27]), kvN 2, kvI 2, none], []), ([], []), (4, [(-1, 2)]))
theorem ks587 : aseg kS krf kB [kE562, kE567, kE568, kE569] (ksp []) kE587 [kC587_0] 30000 (none) = true := asgqk (by decide +kernel)
theorem ks587_0 : aseg kS krf kB [kE562, kE567, kE568, kE569] (ksp []) kE587 [kC587_0] 30000 (some kC587_0) = true := asgqk (by decide +kernel)
theorem kok587 : aOK kS krf kB kE587 := aOK_of (kal1 kok562 (kal1 kok567 (kal1 kok568 (kal1 kok569 kal0)))) (kcl1 ks587_0 kcl0) ks587
/-- ColdShod$StrokePlan.addNext(LColdShod$Idea;I)V -/
noncomputable def kE588 : aE := (83, 3, ([kvB 0 3, kvB 2 341], [(57, 1, .inl (0, .ofNat 0)), (52, 6, .inl (1, .ofNat 0))], 0, [kvR 52, some (.inr [20, 21, 22, 23, 24, 25, 26, 27]), kvN 1, none, none], []), ([], none), ([], [], none, ([], [])), kvW74)
noncomputable def kC588_0 : aC := (([kvB 0 3, kvB 2 341, kvB 0 4, kvB 2 341], [(57, 1, .inl (0, .ofNat 0)), (52, 6, .inl (3, .ofNat 0))], 2, [kvR 52, some (.inr [20, 21, 22, 23, 24, 25, 26, 27]), kvN 1, kvI 2, none], []), ([], []), (4, [(-1, 2)]))
theorem ks588 : aseg kS krf kB [kE562, kE567, kE568, kE569] (ksp []) kE588 [kC588_0] 30000 (none) = true := asgqk (by decide +kernel)
theorem ks588_0 : aseg kS krf kB [kE562, kE567, kE568, kE569] (ksp []) kE588 [kC588_0] 30000 (some kC588_0) = true := asgqk (by decide +kernel)
theorem kok588 : aOK kS krf kB kE588 := aOK_of (kal1 kok562 (kal1 kok567 (kal1 kok568 (kal1 kok569 kal0)))) (kcl1 ks588_0 kcl0) ks588
/-- ColdShod$StrokePlan.addNext(LColdShod$Idea;I)V -/
noncomputable def kE589 : aE := (83, 3, ([kvB 0 3, kvB 1 341], [(57, 0, .inl (0, .ofNat 0)), (52, 6, .inl (1, .ofNat 0))], 0, [kvR 52, some (.inr [20, 21, 22, 23, 24, 25, 26, 27]), kvN 0, none, none], []), ([], none), ([], [], none, ([], [])), kvW74)
noncomputable def kC589_0 : aC := (([kvB 0 3, kvB 1 341, kvB 0 4, kvB 1 341], [(57, 0, .inl (0, .ofNat 0)), (52, 6, .inl (3, .ofNat 0))], 2, [kvR 52, some (.inr [20, 21, 22, 23, 24, 25, 26, 27]), kvN 0, kvI 2, none], []), ([], []), (4, [(-1, 2)]))
theorem ks589 : aseg kS krf kB [kE562, kE567, kE568, kE569] (ksp []) kE589 [kC589_0] 30000 (none) = true := asgqk (by decide +kernel)
theorem ks589_0 : aseg kS krf kB [kE562, kE567, kE568, kE569] (ksp []) kE589 [kC589_0] 30000 (some kC589_0) = true := asgqk (by decide +kernel)
theorem kok589 : aOK kS krf kB kE589 := aOK_of (kal1 kok562 (kal1 kok567 (kal1 kok568 (kal1 kok569 kal0)))) (kcl1 ks589_0 kcl0) ks589
/-- ColdShod$StrokePlan.addNext(LColdShod$Idea;I)V -/
noncomputable def kE590 : aE := (83, 3, ([kvB 0 3, kvB 80 341], [(57, 79, .inl (0, .ofNat 0)), (52, 6, .inl (1, .ofNat 0))], 0, [kvR 52, some (.inr [20, 21, 22, 23, 24, 25, 26, 27]), kvN 79, none, none], []), ([], none), ([], [], none, ([], [])), kvW74)
noncomputable def kC590_0 : aC := (([kvB 0 3, kvB 80 341, kvB 0 4, kvB 80 341], [(57, 79, .inl (0, .ofNat 0)), (52, 6, .inl (3, .ofNat 0))], 2, [kvR 52, some (.inr [20, 21, 22, 23, 24, 25, 26, 27]), kvN 79, kvI 2, none], []), ([], []), (4, [(-1, 2)]))
theorem ks590 : aseg kS krf kB [kE562, kE567, kE568, kE569] (ksp []) kE590 [kC590_0] 30000 (none) = true := asgqk (by decide +kernel)
theorem ks590_0 : aseg kS krf kB [kE562, kE567, kE568, kE569] (ksp []) kE590 [kC590_0] 30000 (some kC590_0) = true := asgqk (by decide +kernel)
theorem kok590 : aOK kS krf kB kE590 := aOK_of (kal1 kok562 (kal1 kok567 (kal1 kok568 (kal1 kok569 kal0)))) (kcl1 ks590_0 kcl0) ks590
/-- ColdShod$StrokePlan.addNext(LColdShod$Idea;I)V -/
noncomputable def kE591 : aE := (83, 3, ([kvB 0 3, kvB 79 341], [(57, 78, .inl (0, .ofNat 0)), (52, 6, .inl (1, .ofNat 0))], 0, [kvR 52, some (.inr [20, 21, 22, 23, 24, 25, 26, 27]), kvN 78, none, none], []), ([], none), ([], [], none, ([], [])), kvW74)
noncomputable def kC591_0 : aC := (([kvB 0 3, kvB 79 341, kvB 0 4, kvB 79 341], [(57, 78, .inl (0, .ofNat 0)), (52, 6, .inl (3, .ofNat 0))], 2, [kvR 52, some (.inr [20, 21, 22, 23, 24, 25, 26, 27]), kvN 78, kvI 2, none], []), ([], []), (4, [(-1, 2)]))
theorem ks591 : aseg kS krf kB [kE562, kE567, kE568, kE569] (ksp []) kE591 [kC591_0] 30000 (none) = true := asgqk (by decide +kernel)
theorem ks591_0 : aseg kS krf kB [kE562, kE567, kE568, kE569] (ksp []) kE591 [kC591_0] 30000 (some kC591_0) = true := asgqk (by decide +kernel)
theorem kok591 : aOK kS krf kB kE591 := aOK_of (kal1 kok562 (kal1 kok567 (kal1 kok568 (kal1 kok569 kal0)))) (kcl1 ks591_0 kcl0) ks591
/-- ColdShod$StrokePlan.addNext(LColdShod$Idea;I)V -/
noncomputable def kE592 : aE := (83, 3, ([kvB 0 3, kvB 78 341], [(57, 77, .inl (0, .ofNat 0)), (52, 6, .inl (1, .ofNat 0))], 0, [kvR 52, some (.inr [20, 21, 22, 23, 24, 25, 26, 27]), kvN 77, none, none], []), ([], none), ([], [], none, ([], [])), kvW74)
noncomputable def kC592_0 : aC := (([kvB 0 3, kvB 78 341, kvB 0 4, kvB 78 341], [(57, 77, .inl (0, .ofNat 0)), (52, 6, .inl (3, .ofNat 0))], 2, [kvR 52, some (.inr [20, 21, 22, 23, 24, 25, 26, 27]), kvN 77, kvI 2, none], []), ([], []), (4, [(-1, 2)]))
theorem ks592 : aseg kS krf kB [kE562, kE567, kE568, kE569] (ksp []) kE592 [kC592_0] 30000 (none) = true := asgqk (by decide +kernel)
theorem ks592_0 : aseg kS krf kB [kE562, kE567, kE568, kE569] (ksp []) kE592 [kC592_0] 30000 (some kC592_0) = true := asgqk (by decide +kernel)
theorem kok592 : aOK kS krf kB kE592 := aOK_of (kal1 kok562 (kal1 kok567 (kal1 kok568 (kal1 kok569 kal0)))) (kcl1 ks592_0 kcl0) ks592
/-- ColdShod$StrokePlan.addNext(LColdShod$Idea;I)V -/
noncomputable def kE593 : aE := (83, 3, ([kvB 0 3, kvB 77 341], [(57, 76, .inl (0, .ofNat 0)), (52, 6, .inl (1, .ofNat 0))], 0, [kvR 52, some (.inr [20, 21, 22, 23, 24, 25, 26, 27]), kvN 76, none, none], []), ([], none), ([], [], none, ([], [])), kvW74)
noncomputable def kC593_0 : aC := (([kvB 0 3, kvB 77 341, kvB 0 4, kvB 77 341], [(57, 76, .inl (0, .ofNat 0)), (52, 6, .inl (3, .ofNat 0))], 2, [kvR 52, some (.inr [20, 21, 22, 23, 24, 25, 26, 27]), kvN 76, kvI 2, none], []), ([], []), (4, [(-1, 2)]))
theorem ks593 : aseg kS krf kB [kE562, kE567, kE568, kE569] (ksp []) kE593 [kC593_0] 30000 (none) = true := asgqk (by decide +kernel)
theorem ks593_0 : aseg kS krf kB [kE562, kE567, kE568, kE569] (ksp []) kE593 [kC593_0] 30000 (some kC593_0) = true := asgqk (by decide +kernel)
theorem kok593 : aOK kS krf kB kE593 := aOK_of (kal1 kok562 (kal1 kok567 (kal1 kok568 (kal1 kok569 kal0)))) (kcl1 ks593_0 kcl0) ks593
/-- ColdShod$StrokePlan.addNext(LColdShod$Idea;I)V -/
noncomputable def kE594 : aE := (83, 3, ([kvB 0 3, kvB 76 341], [(57, 75, .inl (0, .ofNat 0)), (52, 6, .inl (1, .ofNat 0))], 0, [kvR 52, some (.inr [20, 21, 22, 23, 24, 25, 26, 27]), kvN 75, none, none], []), ([], none), ([], [], none, ([], [])), kvW74)
noncomputable def kC594_0 : aC := (([kvB 0 3, kvB 76 341, kvB 0 4, kvB 76 341], [(57, 75, .inl (0, .ofNat 0)), (52, 6, .inl (3, .ofNat 0))], 2, [kvR 52, some (.inr [20, 21, 22, 23, 24, 25, 26, 27]), kvN 75, kvI 2, none], []), ([], []), (4, [(-1, 2)]))
theorem ks594 : aseg kS krf kB [kE562, kE567, kE568, kE569] (ksp []) kE594 [kC594_0] 30000 (none) = true := asgqk (by decide +kernel)
theorem ks594_0 : aseg kS krf kB [kE562, kE567, kE568, kE569] (ksp []) kE594 [kC594_0] 30000 (some kC594_0) = true := asgqk (by decide +kernel)
theorem kok594 : aOK kS krf kB kE594 := aOK_of (kal1 kok562 (kal1 kok567 (kal1 kok568 (kal1 kok569 kal0)))) (kcl1 ks594_0 kcl0) ks594
/-- ColdShod$StrokePlan.addNext(LColdShod$Idea;I)V -/
noncomputable def kE595 : aE := (83, 3, ([kvB 0 3, kvB 75 341], [(57, 74, .inl (0, .ofNat 0)), (52, 6, .inl (1, .ofNat 0))], 0, [kvR 52, some (.inr [20, 21, 22, 23, 24, 25, 26, 27]), kvN 74, none, none], []), ([], none), ([], [], none, ([], [])), kvW74)
noncomputable def kC595_0 : aC := (([kvB 0 3, kvB 75 341, kvB 0 4, kvB 75 341], [(57, 74, .inl (0, .ofNat 0)), (52, 6, .inl (3, .ofNat 0))], 2, [kvR 52, some (.inr [20, 21, 22, 23, 24, 25, 26, 27]), kvN 74, kvI 2, none], []), ([], []), (4, [(-1, 2)]))
theorem ks595 : aseg kS krf kB [kE562, kE567, kE568, kE569] (ksp []) kE595 [kC595_0] 30000 (none) = true := asgqk (by decide +kernel)
theorem ks595_0 : aseg kS krf kB [kE562, kE567, kE568, kE569] (ksp []) kE595 [kC595_0] 30000 (some kC595_0) = true := asgqk (by decide +kernel)
theorem kok595 : aOK kS krf kB kE595 := aOK_of (kal1 kok562 (kal1 kok567 (kal1 kok568 (kal1 kok569 kal0)))) (kcl1 ks595_0 kcl0) ks595
/-- ColdShod$StrokePlan.addNext(LColdShod$Idea;I)V -/
noncomputable def kE596 : aE := (83, 3, ([kvB 0 3, kvB 74 341], [(57, 73, .inl (0, .ofNat 0)), (52, 6, .inl (1, .ofNat 0))], 0, [kvR 52, some (.inr [20, 21, 22, 23, 24, 25, 26, 27]), kvN 73, none, none], []), ([], none), ([], [], none, ([], [])), kvW74)
noncomputable def kC596_0 : aC := (([kvB 0 3, kvB 74 341, kvB 0 4, kvB 74 341], [(57, 73, .inl (0, .ofNat 0)), (52, 6, .inl (3, .ofNat 0))], 2, [kvR 52, some (.inr [20, 21, 22, 23, 24, 25, 26, 27]), kvN 73, kvI 2, none], []), ([], []), (4, [(-1, 2)]))
theorem ks596 : aseg kS krf kB [kE562, kE567, kE568, kE569] (ksp []) kE596 [kC596_0] 30000 (none) = true := asgqk (by decide +kernel)
theorem ks596_0 : aseg kS krf kB [kE562, kE567, kE568, kE569] (ksp []) kE596 [kC596_0] 30000 (some kC596_0) = true := asgqk (by decide +kernel)
theorem kok596 : aOK kS krf kB kE596 := aOK_of (kal1 kok562 (kal1 kok567 (kal1 kok568 (kal1 kok569 kal0)))) (kcl1 ks596_0 kcl0) ks596
/-- ColdShod$StrokePlan.addNext(LColdShod$Idea;I)V -/
noncomputable def kE597 : aE := (83, 3, ([kvB 0 3, kvB 73 341], [(57, 72, .inl (0, .ofNat 0)), (52, 6, .inl (1, .ofNat 0))], 0, [kvR 52, some (.inr [20, 21, 22, 23, 24, 25, 26, 27]), kvN 72, none, none], []), ([], none), ([], [], none, ([], [])), kvW74)
noncomputable def kC597_0 : aC := (([kvB 0 3, kvB 73 341, kvB 0 4, kvB 73 341], [(57, 72, .inl (0, .ofNat 0)), (52, 6, .inl (3, .ofNat 0))], 2, [kvR 52, some (.inr [20, 21, 22, 23, 24, 25, 26, 27]), kvN 72, kvI 2, none], []), ([], []), (4, [(-1, 2)]))
theorem ks597 : aseg kS krf kB [kE562, kE567, kE568, kE569] (ksp []) kE597 [kC597_0] 30000 (none) = true := asgqk (by decide +kernel)
theorem ks597_0 : aseg kS krf kB [kE562, kE567, kE568, kE569] (ksp []) kE597 [kC597_0] 30000 (some kC597_0) = true := asgqk (by decide +kernel)
theorem kok597 : aOK kS krf kB kE597 := aOK_of (kal1 kok562 (kal1 kok567 (kal1 kok568 (kal1 kok569 kal0)))) (kcl1 ks597_0 kcl0) ks597
/-- ColdShod$StrokePlan.addNext(LColdShod$Idea;I)V -/
noncomputable def kE598 : aE := (83, 3, ([kvB 0 3, kvB 72 341], [(57, 71, .inl (0, .ofNat 0)), (52, 6, .inl (1, .ofNat 0))], 0, [kvR 52, some (.inr [20, 21, 22, 23, 24, 25, 26, 27]), kvN 71, none, none], []), ([], none), ([], [], none, ([], [])), kvW74)
noncomputable def kC598_0 : aC := (([kvB 0 3, kvB 72 341, kvB 0 4, kvB 72 341], [(57, 71, .inl (0, .ofNat 0)), (52, 6, .inl (3, .ofNat 0))], 2, [kvR 52, some (.inr [20, 21, 22, 23, 24, 25, 26, 27]), kvN 71, kvI 2, none], []), ([], []), (4, [(-1, 2)]))
theorem ks598 : aseg kS krf kB [kE562, kE567, kE568, kE569] (ksp []) kE598 [kC598_0] 30000 (none) = true := asgqk (by decide +kernel)
theorem ks598_0 : aseg kS krf kB [kE562, kE567, kE568, kE569] (ksp []) kE598 [kC598_0] 30000 (some kC598_0) = true := asgqk (by decide +kernel)
theorem kok598 : aOK kS krf kB kE598 := aOK_of (kal1 kok562 (kal1 kok567 (kal1 kok568 (kal1 kok569 kal0)))) (kcl1 ks598_0 kcl0) ks598
/-- ColdShod$StrokePlan.addNext(LColdShod$Idea;I)V -/
noncomputable def kE599 : aE := (83, 3, ([kvB 0 3, kvB 71 341], [(57, 70, .inl (0, .ofNat 0)), (52, 6, .inl (1, .ofNat 0))], 0, [kvR 52, some (.inr [20, 21, 22, 23, 24, 25, 26, 27]), kvN 70, none, none], []), ([], none), ([], [], none, ([], [])), kvW74)
noncomputable def kC599_0 : aC := (([kvB 0 3, kvB 71 341, kvB 0 4, kvB 71 341], [(57, 70, .inl (0, .ofNat 0)), (52, 6, .inl (3, .ofNat 0))], 2, [kvR 52, some (.inr [20, 21, 22, 23, 24, 25, 26, 27]), kvN 70, kvI 2, none], []), ([], []), (4, [(-1, 2)]))
theorem ks599 : aseg kS krf kB [kE562, kE567, kE568, kE569] (ksp []) kE599 [kC599_0] 30000 (none) = true := asgqk (by decide +kernel)
theorem ks599_0 : aseg kS krf kB [kE562, kE567, kE568, kE569] (ksp []) kE599 [kC599_0] 30000 (some kC599_0) = true := asgqk (by decide +kernel)
theorem kok599 : aOK kS krf kB kE599 := aOK_of (kal1 kok562 (kal1 kok567 (kal1 kok568 (kal1 kok569 kal0)))) (kcl1 ks599_0 kcl0) ks599
/-- ColdShod$StrokePlan.addNext(LColdShod$Idea;I)V -/
noncomputable def kE600 : aE := (83, 3, ([kvB 0 3, kvB 70 341], [(57, 69, .inl (0, .ofNat 0)), (52, 6, .inl (1, .ofNat 0))], 0, [kvR 52, some (.inr [20, 21, 22, 23, 24, 25, 26, 27]), kvN 69, none, none], []), ([], none), ([], [], none, ([], [])), kvW74)
noncomputable def kC600_0 : aC := (([kvB 0 3, kvB 70 341, kvB 0 4, kvB 70 341], [(57, 69, .inl (0, .ofNat 0)), (52, 6, .inl (3, .ofNat 0))], 2, [kvR 52, some (.inr [20, 21, 22, 23, 24, 25, 26, 27]), kvN 69, kvI 2, none], []), ([], []), (4, [(-1, 2)]))
theorem ks600 : aseg kS krf kB [kE562, kE567, kE568, kE569] (ksp []) kE600 [kC600_0] 30000 (none) = true := asgqk (by decide +kernel)
theorem ks600_0 : aseg kS krf kB [kE562, kE567, kE568, kE569] (ksp []) kE600 [kC600_0] 30000 (some kC600_0) = true := asgqk (by decide +kernel)
theorem kok600 : aOK kS krf kB kE600 := aOK_of (kal1 kok562 (kal1 kok567 (kal1 kok568 (kal1 kok569 kal0)))) (kcl1 ks600_0 kcl0) ks600
/-- ColdShod$StrokePlan.addNext(LColdShod$Idea;I)V -/
noncomputable def kE601 : aE := (83, 3, ([kvB 0 3, kvB 69 341], [(57, 68, .inl (0, .ofNat 0)), (52, 6, .inl (1, .ofNat 0))], 0, [kvR 52, some (.inr [20, 21, 22, 23, 24, 25, 26, 27]), kvN 68, none, none], []), ([], none), ([], [], none, ([], [])), kvW74)
noncomputable def kC601_0 : aC := (([kvB 0 3, kvB 69 341, kvB 0 4, kvB 69 341], [(57, 68, .inl (0, .ofNat 0)), (52, 6, .inl (3, .ofNat 0))], 2, [kvR 52, some (.inr [20, 21, 22, 23, 24, 25, 26, 27]), kvN 68, kvI 2, none], []), ([], []), (4, [(-1, 2)]))
theorem ks601 : aseg kS krf kB [kE562, kE567, kE568, kE569] (ksp []) kE601 [kC601_0] 30000 (none) = true := asgqk (by decide +kernel)
theorem ks601_0 : aseg kS krf kB [kE562, kE567, kE568, kE569] (ksp []) kE601 [kC601_0] 30000 (some kC601_0) = true := asgqk (by decide +kernel)
theorem kok601 : aOK kS krf kB kE601 := aOK_of (kal1 kok562 (kal1 kok567 (kal1 kok568 (kal1 kok569 kal0)))) (kcl1 ks601_0 kcl0) ks601
/-- ColdShod$StrokePlan.addNext(LColdShod$Idea;I)V -/
noncomputable def kE602 : aE := (83, 3, ([kvB 0 3, kvB 68 341], [(57, 67, .inl (0, .ofNat 0)), (52, 6, .inl (1, .ofNat 0))], 0, [kvR 52, some (.inr [20, 21, 22, 23, 24, 25, 26, 27]), kvN 67, none, none], []), ([], none), ([], [], none, ([], [])), kvW74)
noncomputable def kC602_0 : aC := (([kvB 0 3, kvB 68 341, kvB 0 4, kvB 68 341], [(57, 67, .inl (0, .ofNat 0)), (52, 6, .inl (3, .ofNat 0))], 2, [kvR 52, some (.inr [20, 21, 22, 23, 24, 25, 26, 27]), kvN 67, kvI 2, none], []), ([], []), (4, [(-1, 2)]))
theorem ks602 : aseg kS krf kB [kE562, kE567, kE568, kE569] (ksp []) kE602 [kC602_0] 30000 (none) = true := asgqk (by decide +kernel)
theorem ks602_0 : aseg kS krf kB [kE562, kE567, kE568, kE569] (ksp []) kE602 [kC602_0] 30000 (some kC602_0) = true := asgqk (by decide +kernel)
theorem kok602 : aOK kS krf kB kE602 := aOK_of (kal1 kok562 (kal1 kok567 (kal1 kok568 (kal1 kok569 kal0)))) (kcl1 ks602_0 kcl0) ks602
/-- ColdShod$StrokePlan.addNext(LColdShod$Idea;I)V -/
noncomputable def kE603 : aE := (83, 3, ([kvB 0 3, kvB 67 341], [(57, 66, .inl (0, .ofNat 0)), (52, 6, .inl (1, .ofNat 0))], 0, [kvR 52, some (.inr [20, 21, 22, 23, 24, 25, 26, 27]), kvN 66, none, none], []), ([], none), ([], [], none, ([], [])), kvW74)
noncomputable def kC603_0 : aC := (([kvB 0 3, kvB 67 341, kvB 0 4, kvB 67 341], [(57, 66, .inl (0, .ofNat 0)), (52, 6, .inl (3, .ofNat 0))], 2, [kvR 52, some (.inr [20, 21, 22, 23, 24, 25, 26, 27]), kvN 66, kvI 2, none], []), ([], []), (4, [(-1, 2)]))
theorem ks603 : aseg kS krf kB [kE562, kE567, kE568, kE569] (ksp []) kE603 [kC603_0] 30000 (none) = true := asgqk (by decide +kernel)
theorem ks603_0 : aseg kS krf kB [kE562, kE567, kE568, kE569] (ksp []) kE603 [kC603_0] 30000 (some kC603_0) = true := asgqk (by decide +kernel)
theorem kok603 : aOK kS krf kB kE603 := aOK_of (kal1 kok562 (kal1 kok567 (kal1 kok568 (kal1 kok569 kal0)))) (kcl1 ks603_0 kcl0) ks603
/-- ColdShod$StrokePlan.addNext(LColdShod$Idea;I)V -/
noncomputable def kE604 : aE := (83, 3, ([kvB 0 3, kvB 66 341], [(57, 65, .inl (0, .ofNat 0)), (52, 6, .inl (1, .ofNat 0))], 0, [kvR 52, some (.inr [20, 21, 22, 23, 24, 25, 26, 27]), kvN 65, none, none], []), ([], none), ([], [], none, ([], [])), kvW74)
noncomputable def kC604_0 : aC := (([kvB 0 3, kvB 66 341, kvB 0 4, kvB 66 341], [(57, 65, .inl (0, .ofNat 0)), (52, 6, .inl (3, .ofNat 0))], 2, [kvR 52, some (.inr [20, 21, 22, 23, 24, 25, 26, 27]), kvN 65, kvI 2, none], []), ([], []), (4, [(-1, 2)]))
theorem ks604 : aseg kS krf kB [kE562, kE567, kE568, kE569] (ksp []) kE604 [kC604_0] 30000 (none) = true := asgqk (by decide +kernel)
theorem ks604_0 : aseg kS krf kB [kE562, kE567, kE568, kE569] (ksp []) kE604 [kC604_0] 30000 (some kC604_0) = true := asgqk (by decide +kernel)
theorem kok604 : aOK kS krf kB kE604 := aOK_of (kal1 kok562 (kal1 kok567 (kal1 kok568 (kal1 kok569 kal0)))) (kcl1 ks604_0 kcl0) ks604
/-- ColdShod$StrokePlan.addNext(LColdShod$Idea;I)V -/
noncomputable def kE605 : aE := (83, 3, ([kvB 0 3, kvB 65 341], [(57, 64, .inl (0, .ofNat 0)), (52, 6, .inl (1, .ofNat 0))], 0, [kvR 52, some (.inr [20, 21, 22, 23, 24, 25, 26, 27]), kvN 64, none, none], []), ([], none), ([], [], none, ([], [])), kvW74)
noncomputable def kC605_0 : aC := (([kvB 0 3, kvB 65 341, kvB 0 4, kvB 65 341], [(57, 64, .inl (0, .ofNat 0)), (52, 6, .inl (3, .ofNat 0))], 2, [kvR 52, some (.inr [20, 21, 22, 23, 24, 25, 26, 27]), kvN 64, kvI 2, none], []), ([], []), (4, [(-1, 2)]))
theorem ks605 : aseg kS krf kB [kE562, kE567, kE568, kE569] (ksp []) kE605 [kC605_0] 30000 (none) = true := asgqk (by decide +kernel)
theorem ks605_0 : aseg kS krf kB [kE562, kE567, kE568, kE569] (ksp []) kE605 [kC605_0] 30000 (some kC605_0) = true := asgqk (by decide +kernel)
theorem kok605 : aOK kS krf kB kE605 := aOK_of (kal1 kok562 (kal1 kok567 (kal1 kok568 (kal1 kok569 kal0)))) (kcl1 ks605_0 kcl0) ks605
/-- ColdShod$StrokePlan.addNext(LColdShod$Idea;I)V -/
noncomputable def kE606 : aE := (83, 3, ([kvB 0 3, kvB 64 341], [(57, 63, .inl (0, .ofNat 0)), (52, 6, .inl (1, .ofNat 0))], 0, [kvR 52, some (.inr [20, 21, 22, 23, 24, 25, 26, 27]), kvN 63, none, none], []), ([], none), ([], [], none, ([], [])), kvW74)
noncomputable def kC606_0 : aC := (([kvB 0 3, kvB 64 341, kvB 0 4, kvB 64 341], [(57, 63, .inl (0, .ofNat 0)), (52, 6, .inl (3, .ofNat 0))], 2, [kvR 52, some (.inr [20, 21, 22, 23, 24, 25, 26, 27]), kvN 63, kvI 2, none], []), ([], []), (4, [(-1, 2)]))
theorem ks606 : aseg kS krf kB [kE562, kE567, kE568, kE569] (ksp []) kE606 [kC606_0] 30000 (none) = true := asgqk (by decide +kernel)
theorem ks606_0 : aseg kS krf kB [kE562, kE567, kE568, kE569] (ksp []) kE606 [kC606_0] 30000 (some kC606_0) = true := asgqk (by decide +kernel)
theorem kok606 : aOK kS krf kB kE606 := aOK_of (kal1 kok562 (kal1 kok567 (kal1 kok568 (kal1 kok569 kal0)))) (kcl1 ks606_0 kcl0) ks606
/-- ColdShod$StrokePlan.addNext(LColdShod$Idea;I)V -/
noncomputable def kE607 : aE := (83, 3, ([kvB 0 3, kvB 63 341], [(57, 62, .inl (0, .ofNat 0)), (52, 6, .inl (1, .ofNat 0))], 0, [kvR 52, some (.inr [20, 21, 22, 23, 24, 25, 26, 27]), kvN 62, none, none], []), ([], none), ([], [], none, ([], [])), kvW74)
noncomputable def kC607_0 : aC := (([kvB 0 3, kvB 63 341, kvB 0 4, kvB 63 341], [(57, 62, .inl (0, .ofNat 0)), (52, 6, .inl (3, .ofNat 0))], 2, [kvR 52, some (.inr [20, 21, 22, 23, 24, 25, 26, 27]), kvN 62, kvI 2, none], []), ([], []), (4, [(-1, 2)]))
theorem ks607 : aseg kS krf kB [kE562, kE567, kE568, kE569] (ksp []) kE607 [kC607_0] 30000 (none) = true := asgqk (by decide +kernel)
theorem ks607_0 : aseg kS krf kB [kE562, kE567, kE568, kE569] (ksp []) kE607 [kC607_0] 30000 (some kC607_0) = true := asgqk (by decide +kernel)
theorem kok607 : aOK kS krf kB kE607 := aOK_of (kal1 kok562 (kal1 kok567 (kal1 kok568 (kal1 kok569 kal0)))) (kcl1 ks607_0 kcl0) ks607
/-- ColdShod$StrokePlan.addNext(LColdShod$Idea;I)V -/
noncomputable def kE608 : aE := (83, 3, ([kvB 0 3, kvB 62 341], [(57, 61, .inl (0, .ofNat 0)), (52, 6, .inl (1, .ofNat 0))], 0, [kvR 52, some (.inr [20, 21, 22, 23, 24, 25, 26, 27]), kvN 61, none, none], []), ([], none), ([], [], none, ([], [])), kvW74)
noncomputable def kC608_0 : aC := (([kvB 0 3, kvB 62 341, kvB 0 4, kvB 62 341], [(57, 61, .inl (0, .ofNat 0)), (52, 6, .inl (3, .ofNat 0))], 2, [kvR 52, some (.inr [20, 21, 22, 23, 24, 25, 26, 27]), kvN 61, kvI 2, none], []), ([], []), (4, [(-1, 2)]))
theorem ks608 : aseg kS krf kB [kE562, kE567, kE568, kE569] (ksp []) kE608 [kC608_0] 30000 (none) = true := asgqk (by decide +kernel)
theorem ks608_0 : aseg kS krf kB [kE562, kE567, kE568, kE569] (ksp []) kE608 [kC608_0] 30000 (some kC608_0) = true := asgqk (by decide +kernel)
theorem kok608 : aOK kS krf kB kE608 := aOK_of (kal1 kok562 (kal1 kok567 (kal1 kok568 (kal1 kok569 kal0)))) (kcl1 ks608_0 kcl0) ks608
/-- ColdShod$StrokePlan.addNext(LColdShod$Idea;I)V -/
noncomputable def kE609 : aE := (83, 3, ([kvB 0 3, kvB 61 341], [(57, 60, .inl (0, .ofNat 0)), (52, 6, .inl (1, .ofNat 0))], 0, [kvR 52, some (.inr [20, 21, 22, 23, 24, 25, 26, 27]), kvN 60, none, none], []), ([], none), ([], [], none, ([], [])), kvW74)
noncomputable def kC609_0 : aC := (([kvB 0 3, kvB 61 341, kvB 0 4, kvB 61 341], [(57, 60, .inl (0, .ofNat 0)), (52, 6, .inl (3, .ofNat 0))], 2, [kvR 52, some (.inr [20, 21, 22, 23, 24, 25, 26, 27]), kvN 60, kvI 2, none], []), ([], []), (4, [(-1, 2)]))
theorem ks609 : aseg kS krf kB [kE562, kE567, kE568, kE569] (ksp []) kE609 [kC609_0] 30000 (none) = true := asgqk (by decide +kernel)
theorem ks609_0 : aseg kS krf kB [kE562, kE567, kE568, kE569] (ksp []) kE609 [kC609_0] 30000 (some kC609_0) = true := asgqk (by decide +kernel)
theorem kok609 : aOK kS krf kB kE609 := aOK_of (kal1 kok562 (kal1 kok567 (kal1 kok568 (kal1 kok569 kal0)))) (kcl1 ks609_0 kcl0) ks609
/-- ColdShod$StrokePlan.addNext(LColdShod$Idea;I)V -/
noncomputable def kE610 : aE := (83, 3, ([kvB 0 3, kvB 60 341], [(57, 59, .inl (0, .ofNat 0)), (52, 6, .inl (1, .ofNat 0))], 0, [kvR 52, some (.inr [20, 21, 22, 23, 24, 25, 26, 27]), kvN 59, none, none], []), ([], none), ([], [], none, ([], [])), kvW74)
noncomputable def kC610_0 : aC := (([kvB 0 3, kvB 60 341, kvB 0 4, kvB 60 341], [(57, 59, .inl (0, .ofNat 0)), (52, 6, .inl (3, .ofNat 0))], 2, [kvR 52, some (.inr [20, 21, 22, 23, 24, 25, 26, 27]), kvN 59, kvI 2, none], []), ([], []), (4, [(-1, 2)]))
theorem ks610 : aseg kS krf kB [kE562, kE567, kE568, kE569] (ksp []) kE610 [kC610_0] 30000 (none) = true := asgqk (by decide +kernel)
theorem ks610_0 : aseg kS krf kB [kE562, kE567, kE568, kE569] (ksp []) kE610 [kC610_0] 30000 (some kC610_0) = true := asgqk (by decide +kernel)
theorem kok610 : aOK kS krf kB kE610 := aOK_of (kal1 kok562 (kal1 kok567 (kal1 kok568 (kal1 kok569 kal0)))) (kcl1 ks610_0 kcl0) ks610
/-- ColdShod$StrokePlan.addNext(LColdShod$Idea;I)V -/
noncomputable def kE611 : aE := (83, 3, ([kvB 0 3, kvB 59 341], [(57, 58, .inl (0, .ofNat 0)), (52, 6, .inl (1, .ofNat 0))], 0, [kvR 52, some (.inr [20, 21, 22, 23, 24, 25, 26, 27]), kvN 58, none, none], []), ([], none), ([], [], none, ([], [])), kvW74)
noncomputable def kC611_0 : aC := (([kvB 0 3, kvB 59 341, kvB 0 4, kvB 59 341], [(57, 58, .inl (0, .ofNat 0)), (52, 6, .inl (3, .ofNat 0))], 2, [kvR 52, some (.inr [20, 21, 22, 23, 24, 25, 26, 27]), kvN 58, kvI 2, none], []), ([], []), (4, [(-1, 2)]))
theorem ks611 : aseg kS krf kB [kE562, kE567, kE568, kE569] (ksp []) kE611 [kC611_0] 30000 (none) = true := asgqk (by decide +kernel)
theorem ks611_0 : aseg kS krf kB [kE562, kE567, kE568, kE569] (ksp []) kE611 [kC611_0] 30000 (some kC611_0) = true := asgqk (by decide +kernel)
theorem kok611 : aOK kS krf kB kE611 := aOK_of (kal1 kok562 (kal1 kok567 (kal1 kok568 (kal1 kok569 kal0)))) (kcl1 ks611_0 kcl0) ks611
/-- ColdShod$StrokePlan.addNext(LColdShod$Idea;I)V -/
noncomputable def kE612 : aE := (83, 3, ([kvB 0 3, kvB 58 341], [(57, 57, .inl (0, .ofNat 0)), (52, 6, .inl (1, .ofNat 0))], 0, [kvR 52, some (.inr [20, 21, 22, 23, 24, 25, 26, 27]), kvN 57, none, none], []), ([], none), ([], [], none, ([], [])), kvW74)
noncomputable def kC612_0 : aC := (([kvB 0 3, kvB 58 341, kvB 0 4, kvB 58 341], [(57, 57, .inl (0, .ofNat 0)), (52, 6, .inl (3, .ofNat 0))], 2, [kvR 52, some (.inr [20, 21, 22, 23, 24, 25, 26, 27]), kvN 57, kvI 2, none], []), ([], []), (4, [(-1, 2)]))
theorem ks612 : aseg kS krf kB [kE562, kE567, kE568, kE569] (ksp []) kE612 [kC612_0] 30000 (none) = true := asgqk (by decide +kernel)
theorem ks612_0 : aseg kS krf kB [kE562, kE567, kE568, kE569] (ksp []) kE612 [kC612_0] 30000 (some kC612_0) = true := asgqk (by decide +kernel)
theorem kok612 : aOK kS krf kB kE612 := aOK_of (kal1 kok562 (kal1 kok567 (kal1 kok568 (kal1 kok569 kal0)))) (kcl1 ks612_0 kcl0) ks612
/-- ColdShod$StrokePlan.addNext(LColdShod$Idea;I)V -/
noncomputable def kE613 : aE := (83, 3, ([kvB 0 3, kvB 57 341], [(57, 56, .inl (0, .ofNat 0)), (52, 6, .inl (1, .ofNat 0))], 0, [kvR 52, some (.inr [20, 21, 22, 23, 24, 25, 26, 27]), kvN 56, none, none], []), ([], none), ([], [], none, ([], [])), kvW74)
noncomputable def kC613_0 : aC := (([kvB 0 3, kvB 57 341, kvB 0 4, kvB 57 341], [(57, 56, .inl (0, .ofNat 0)), (52, 6, .inl (3, .ofNat 0))], 2, [kvR 52, some (.inr [20, 21, 22, 23, 24, 25, 26, 27]), kvN 56, kvI 2, none], []), ([], []), (4, [(-1, 2)]))
theorem ks613 : aseg kS krf kB [kE562, kE567, kE568, kE569] (ksp []) kE613 [kC613_0] 30000 (none) = true := asgqk (by decide +kernel)
theorem ks613_0 : aseg kS krf kB [kE562, kE567, kE568, kE569] (ksp []) kE613 [kC613_0] 30000 (some kC613_0) = true := asgqk (by decide +kernel)
theorem kok613 : aOK kS krf kB kE613 := aOK_of (kal1 kok562 (kal1 kok567 (kal1 kok568 (kal1 kok569 kal0)))) (kcl1 ks613_0 kcl0) ks613
/-- ColdShod$StrokePlan.addNext(LColdShod$Idea;I)V -/
noncomputable def kE614 : aE := (83, 3, ([kvB 0 3, kvB 56 341], [(57, 55, .inl (0, .ofNat 0)), (52, 6, .inl (1, .ofNat 0))], 0, [kvR 52, some (.inr [20, 21, 22, 23, 24, 25, 26, 27]), kvN 55, none, none], []), ([], none), ([], [], none, ([], [])), kvW74)
noncomputable def kC614_0 : aC := (([kvB 0 3, kvB 56 341, kvB 0 4, kvB 56 341], [(57, 55, .inl (0, .ofNat 0)), (52, 6, .inl (3, .ofNat 0))], 2, [kvR 52, some (.inr [20, 21, 22, 23, 24, 25, 26, 27]), kvN 55, kvI 2, none], []), ([], []), (4, [(-1, 2)]))
theorem ks614 : aseg kS krf kB [kE562, kE567, kE568, kE569] (ksp []) kE614 [kC614_0] 30000 (none) = true := asgqk (by decide +kernel)
theorem ks614_0 : aseg kS krf kB [kE562, kE567, kE568, kE569] (ksp []) kE614 [kC614_0] 30000 (some kC614_0) = true := asgqk (by decide +kernel)
theorem kok614 : aOK kS krf kB kE614 := aOK_of (kal1 kok562 (kal1 kok567 (kal1 kok568 (kal1 kok569 kal0)))) (kcl1 ks614_0 kcl0) ks614
/-- ColdShod$StrokePlan.addNext(LColdShod$Idea;I)V -/
noncomputable def kE615 : aE := (83, 3, ([kvB 0 3, kvB 55 341], [(57, 54, .inl (0, .ofNat 0)), (52, 6, .inl (1, .ofNat 0))], 0, [kvR 52, some (.inr [20, 21, 22, 23, 24, 25, 26, 27]), kvN 54, none, none], []), ([], none), ([], [], none, ([], [])), kvW74)
noncomputable def kC615_0 : aC := (([kvB 0 3, kvB 55 341, kvB 0 4, kvB 55 341], [(57, 54, .inl (0, .ofNat 0)), (52, 6, .inl (3, .ofNat 0))], 2, [kvR 52, some (.inr [20, 21, 22, 23, 24, 25, 26, 27]), kvN 54, kvI 2, none], []), ([], []), (4, [(-1, 2)]))
theorem ks615 : aseg kS krf kB [kE562, kE567, kE568, kE569] (ksp []) kE615 [kC615_0] 30000 (none) = true := asgqk (by decide +kernel)
theorem ks615_0 : aseg kS krf kB [kE562, kE567, kE568, kE569] (ksp []) kE615 [kC615_0] 30000 (some kC615_0) = true := asgqk (by decide +kernel)
theorem kok615 : aOK kS krf kB kE615 := aOK_of (kal1 kok562 (kal1 kok567 (kal1 kok568 (kal1 kok569 kal0)))) (kcl1 ks615_0 kcl0) ks615
/-- ColdShod$StrokePlan.addNext(LColdShod$Idea;I)V -/
noncomputable def kE616 : aE := (83, 3, ([kvB 0 3, kvB 54 341], [(57, 53, .inl (0, .ofNat 0)), (52, 6, .inl (1, .ofNat 0))], 0, [kvR 52, some (.inr [20, 21, 22, 23, 24, 25, 26, 27]), kvN 53, none, none], []), ([], none), ([], [], none, ([], [])), kvW74)
noncomputable def kC616_0 : aC := (([kvB 0 3, kvB 54 341, kvB 0 4, kvB 54 341], [(57, 53, .inl (0, .ofNat 0)), (52, 6, .inl (3, .ofNat 0))], 2, [kvR 52, some (.inr [20, 21, 22, 23, 24, 25, 26, 27]), kvN 53, kvI 2, none], []), ([], []), (4, [(-1, 2)]))
theorem ks616 : aseg kS krf kB [kE562, kE567, kE568, kE569] (ksp []) kE616 [kC616_0] 30000 (none) = true := asgqk (by decide +kernel)
theorem ks616_0 : aseg kS krf kB [kE562, kE567, kE568, kE569] (ksp []) kE616 [kC616_0] 30000 (some kC616_0) = true := asgqk (by decide +kernel)
theorem kok616 : aOK kS krf kB kE616 := aOK_of (kal1 kok562 (kal1 kok567 (kal1 kok568 (kal1 kok569 kal0)))) (kcl1 ks616_0 kcl0) ks616
/-- ColdShod$StrokePlan.addNext(LColdShod$Idea;I)V -/
noncomputable def kE617 : aE := (83, 3, ([kvB 0 3, kvB 53 341], [(57, 52, .inl (0, .ofNat 0)), (52, 6, .inl (1, .ofNat 0))], 0, [kvR 52, some (.inr [20, 21, 22, 23, 24, 25, 26, 27]), kvN 52, none, none], []), ([], none), ([], [], none, ([], [])), kvW74)
noncomputable def kC617_0 : aC := (([kvB 0 3, kvB 53 341, kvB 0 4, kvB 53 341], [(57, 52, .inl (0, .ofNat 0)), (52, 6, .inl (3, .ofNat 0))], 2, [kvR 52, some (.inr [20, 21, 22, 23, 24, 25, 26, 27]), kvN 52, kvI 2, none], []), ([], []), (4, [(-1, 2)]))
theorem ks617 : aseg kS krf kB [kE562, kE567, kE568, kE569] (ksp []) kE617 [kC617_0] 30000 (none) = true := asgqk (by decide +kernel)
theorem ks617_0 : aseg kS krf kB [kE562, kE567, kE568, kE569] (ksp []) kE617 [kC617_0] 30000 (some kC617_0) = true := asgqk (by decide +kernel)
theorem kok617 : aOK kS krf kB kE617 := aOK_of (kal1 kok562 (kal1 kok567 (kal1 kok568 (kal1 kok569 kal0)))) (kcl1 ks617_0 kcl0) ks617
/-- ColdShod$StrokePlan.addNext(LColdShod$Idea;I)V -/
noncomputable def kE618 : aE := (83, 3, ([kvB 0 3, kvB 52 341], [(57, 51, .inl (0, .ofNat 0)), (52, 6, .inl (1, .ofNat 0))], 0, [kvR 52, some (.inr [20, 21, 22, 23, 24, 25, 26, 27]), kvN 51, none, none], []), ([], none), ([], [], none, ([], [])), kvW74)
noncomputable def kC618_0 : aC := (([kvB 0 3, kvB 52 341, kvB 0 4, kvB 52 341], [(57, 51, .inl (0, .ofNat 0)), (52, 6, .inl (3, .ofNat 0))], 2, [kvR 52, some (.inr [20, 21, 22, 23, 24, 25, 26, 27]), kvN 51, kvI 2, none], []), ([], []), (4, [(-1, 2)]))
theorem ks618 : aseg kS krf kB [kE562, kE567, kE568, kE569] (ksp []) kE618 [kC618_0] 30000 (none) = true := asgqk (by decide +kernel)
theorem ks618_0 : aseg kS krf kB [kE562, kE567, kE568, kE569] (ksp []) kE618 [kC618_0] 30000 (some kC618_0) = true := asgqk (by decide +kernel)
theorem kok618 : aOK kS krf kB kE618 := aOK_of (kal1 kok562 (kal1 kok567 (kal1 kok568 (kal1 kok569 kal0)))) (kcl1 ks618_0 kcl0) ks618
/-- ColdShod$StrokePlan.addNext(LColdShod$Idea;I)V -/
noncomputable def kE619 : aE := (83, 3, ([kvB 0 3, kvB 51 341], [(57, 50, .inl (0, .ofNat 0)), (52, 6, .inl (1, .ofNat 0))], 0, [kvR 52, some (.inr [20, 21, 22, 23, 24, 25, 26, 27]), kvN 50, none, none], []), ([], none), ([], [], none, ([], [])), kvW74)
noncomputable def kC619_0 : aC := (([kvB 0 3, kvB 51 341, kvB 0 4, kvB 51 341], [(57, 50, .inl (0, .ofNat 0)), (52, 6, .inl (3, .ofNat 0))], 2, [kvR 52, some (.inr [20, 21, 22, 23, 24, 25, 26, 27]), kvN 50, kvI 2, none], []), ([], []), (4, [(-1, 2)]))
theorem ks619 : aseg kS krf kB [kE562, kE567, kE568, kE569] (ksp []) kE619 [kC619_0] 30000 (none) = true := asgqk (by decide +kernel)
theorem ks619_0 : aseg kS krf kB [kE562, kE567, kE568, kE569] (ksp []) kE619 [kC619_0] 30000 (some kC619_0) = true := asgqk (by decide +kernel)
theorem kok619 : aOK kS krf kB kE619 := aOK_of (kal1 kok562 (kal1 kok567 (kal1 kok568 (kal1 kok569 kal0)))) (kcl1 ks619_0 kcl0) ks619
/-- ColdShod$StrokePlan.addNext(LColdShod$Idea;I)V -/
noncomputable def kE620 : aE := (83, 3, ([kvB 0 3, kvB 50 341], [(57, 49, .inl (0, .ofNat 0)), (52, 6, .inl (1, .ofNat 0))], 0, [kvR 52, some (.inr [20, 21, 22, 23, 24, 25, 26, 27]), kvN 49, none, none], []), ([], none), ([], [], none, ([], [])), kvW74)
noncomputable def kC620_0 : aC := (([kvB 0 3, kvB 50 341, kvB 0 4, kvB 50 341], [(57, 49, .inl (0, .ofNat 0)), (52, 6, .inl (3, .ofNat 0))], 2, [kvR 52, some (.inr [20, 21, 22, 23, 24, 25, 26, 27]), kvN 49, kvI 2, none], []), ([], []), (4, [(-1, 2)]))
theorem ks620 : aseg kS krf kB [kE562, kE567, kE568, kE569] (ksp []) kE620 [kC620_0] 30000 (none) = true := asgqk (by decide +kernel)
theorem ks620_0 : aseg kS krf kB [kE562, kE567, kE568, kE569] (ksp []) kE620 [kC620_0] 30000 (some kC620_0) = true := asgqk (by decide +kernel)
theorem kok620 : aOK kS krf kB kE620 := aOK_of (kal1 kok562 (kal1 kok567 (kal1 kok568 (kal1 kok569 kal0)))) (kcl1 ks620_0 kcl0) ks620
/-- ColdShod$StrokePlan.addNext(LColdShod$Idea;I)V -/
noncomputable def kE621 : aE := (83, 3, ([kvB 0 3, kvB 49 341], [(57, 48, .inl (0, .ofNat 0)), (52, 6, .inl (1, .ofNat 0))], 0, [kvR 52, some (.inr [20, 21, 22, 23, 24, 25, 26, 27]), kvN 48, none, none], []), ([], none), ([], [], none, ([], [])), kvW74)
noncomputable def kC621_0 : aC := (([kvB 0 3, kvB 49 341, kvB 0 4, kvB 49 341], [(57, 48, .inl (0, .ofNat 0)), (52, 6, .inl (3, .ofNat 0))], 2, [kvR 52, some (.inr [20, 21, 22, 23, 24, 25, 26, 27]), kvN 48, kvI 2, none], []), ([], []), (4, [(-1, 2)]))
theorem ks621 : aseg kS krf kB [kE562, kE567, kE568, kE569] (ksp []) kE621 [kC621_0] 30000 (none) = true := asgqk (by decide +kernel)
theorem ks621_0 : aseg kS krf kB [kE562, kE567, kE568, kE569] (ksp []) kE621 [kC621_0] 30000 (some kC621_0) = true := asgqk (by decide +kernel)
theorem kok621 : aOK kS krf kB kE621 := aOK_of (kal1 kok562 (kal1 kok567 (kal1 kok568 (kal1 kok569 kal0)))) (kcl1 ks621_0 kcl0) ks621
/-- ColdShod$StrokePlan.addNext(LColdShod$Idea;I)V -/
noncomputable def kE622 : aE := (83, 3, ([kvB 0 3, kvB 48 341], [(57, 47, .inl (0, .ofNat 0)), (52, 6, .inl (1, .ofNat 0))], 0, [kvR 52, some (.inr [20, 21, 22, 23, 24, 25, 26, 27]), kvN 47, none, none], []), ([], none), ([], [], none, ([], [])), kvW74)
noncomputable def kC622_0 : aC := (([kvB 0 3, kvB 48 341, kvB 0 4, kvB 48 341], [(57, 47, .inl (0, .ofNat 0)), (52, 6, .inl (3, .ofNat 0))], 2, [kvR 52, some (.inr [20, 21, 22, 23, 24, 25, 26, 27]), kvN 47, kvI 2, none], []), ([], []), (4, [(-1, 2)]))
theorem ks622 : aseg kS krf kB [kE562, kE567, kE568, kE569] (ksp []) kE622 [kC622_0] 30000 (none) = true := asgqk (by decide +kernel)
theorem ks622_0 : aseg kS krf kB [kE562, kE567, kE568, kE569] (ksp []) kE622 [kC622_0] 30000 (some kC622_0) = true := asgqk (by decide +kernel)
theorem kok622 : aOK kS krf kB kE622 := aOK_of (kal1 kok562 (kal1 kok567 (kal1 kok568 (kal1 kok569 kal0)))) (kcl1 ks622_0 kcl0) ks622
/-- ColdShod$StrokePlan.addNext(LColdShod$Idea;I)V -/
noncomputable def kE623 : aE := (83, 3, ([kvB 0 3, kvB 47 341], [(57, 46, .inl (0, .ofNat 0)), (52, 6, .inl (1, .ofNat 0))], 0, [kvR 52, some (.inr [20, 21, 22, 23, 24, 25, 26, 27]), kvN 46, none, none], []), ([], none), ([], [], none, ([], [])), kvW74)
noncomputable def kC623_0 : aC := (([kvB 0 3, kvB 47 341, kvB 0 4, kvB 47 341], [(57, 46, .inl (0, .ofNat 0)), (52, 6, .inl (3, .ofNat 0))], 2, [kvR 52, some (.inr [20, 21, 22, 23, 24, 25, 26, 27]), kvN 46, kvI 2, none], []), ([], []), (4, [(-1, 2)]))
theorem ks623 : aseg kS krf kB [kE562, kE567, kE568, kE569] (ksp []) kE623 [kC623_0] 30000 (none) = true := asgqk (by decide +kernel)
theorem ks623_0 : aseg kS krf kB [kE562, kE567, kE568, kE569] (ksp []) kE623 [kC623_0] 30000 (some kC623_0) = true := asgqk (by decide +kernel)
theorem kok623 : aOK kS krf kB kE623 := aOK_of (kal1 kok562 (kal1 kok567 (kal1 kok568 (kal1 kok569 kal0)))) (kcl1 ks623_0 kcl0) ks623
/-- ColdShod$StrokePlan.addNext(LColdShod$Idea;I)V -/
noncomputable def kE624 : aE := (83, 3, ([kvB 0 3, kvB 46 341], [(57, 45, .inl (0, .ofNat 0)), (52, 6, .inl (1, .ofNat 0))], 0, [kvR 52, some (.inr [20, 21, 22, 23, 24, 25, 26, 27]), kvN 45, none, none], []), ([], none), ([], [], none, ([], [])), kvW74)
noncomputable def kC624_0 : aC := (([kvB 0 3, kvB 46 341, kvB 0 4, kvB 46 341], [(57, 45, .inl (0, .ofNat 0)), (52, 6, .inl (3, .ofNat 0))], 2, [kvR 52, some (.inr [20, 21, 22, 23, 24, 25, 26, 27]), kvN 45, kvI 2, none], []), ([], []), (4, [(-1, 2)]))
theorem ks624 : aseg kS krf kB [kE562, kE567, kE568, kE569] (ksp []) kE624 [kC624_0] 30000 (none) = true := asgqk (by decide +kernel)
theorem ks624_0 : aseg kS krf kB [kE562, kE567, kE568, kE569] (ksp []) kE624 [kC624_0] 30000 (some kC624_0) = true := asgqk (by decide +kernel)
theorem kok624 : aOK kS krf kB kE624 := aOK_of (kal1 kok562 (kal1 kok567 (kal1 kok568 (kal1 kok569 kal0)))) (kcl1 ks624_0 kcl0) ks624
/-- ColdShod$StrokePlan.addNext(LColdShod$Idea;I)V -/
noncomputable def kE625 : aE := (83, 3, ([kvB 0 3, kvB 45 341], [(57, 44, .inl (0, .ofNat 0)), (52, 6, .inl (1, .ofNat 0))], 0, [kvR 52, some (.inr [20, 21, 22, 23, 24, 25, 26, 27]), kvN 44, none, none], []), ([], none), ([], [], none, ([], [])), kvW74)
noncomputable def kC625_0 : aC := (([kvB 0 3, kvB 45 341, kvB 0 4, kvB 45 341], [(57, 44, .inl (0, .ofNat 0)), (52, 6, .inl (3, .ofNat 0))], 2, [kvR 52, some (.inr [20, 21, 22, 23, 24, 25, 26, 27]), kvN 44, kvI 2, none], []), ([], []), (4, [(-1, 2)]))
theorem ks625 : aseg kS krf kB [kE562, kE567, kE568, kE569] (ksp []) kE625 [kC625_0] 30000 (none) = true := asgqk (by decide +kernel)
theorem ks625_0 : aseg kS krf kB [kE562, kE567, kE568, kE569] (ksp []) kE625 [kC625_0] 30000 (some kC625_0) = true := asgqk (by decide +kernel)
theorem kok625 : aOK kS krf kB kE625 := aOK_of (kal1 kok562 (kal1 kok567 (kal1 kok568 (kal1 kok569 kal0)))) (kcl1 ks625_0 kcl0) ks625
/-- ColdShod$StrokePlan.addNext(LColdShod$Idea;I)V -/
noncomputable def kE626 : aE := (83, 3, ([kvB 0 3, kvB 44 341], [(57, 43, .inl (0, .ofNat 0)), (52, 6, .inl (1, .ofNat 0))], 0, [kvR 52, some (.inr [20, 21, 22, 23, 24, 25, 26, 27]), kvN 43, none, none], []), ([], none), ([], [], none, ([], [])), kvW74)
noncomputable def kC626_0 : aC := (([kvB 0 3, kvB 44 341, kvB 0 4, kvB 44 341], [(57, 43, .inl (0, .ofNat 0)), (52, 6, .inl (3, .ofNat 0))], 2, [kvR 52, some (.inr [20, 21, 22, 23, 24, 25, 26, 27]), kvN 43, kvI 2, none], []), ([], []), (4, [(-1, 2)]))
theorem ks626 : aseg kS krf kB [kE562, kE567, kE568, kE569] (ksp []) kE626 [kC626_0] 30000 (none) = true := asgqk (by decide +kernel)
theorem ks626_0 : aseg kS krf kB [kE562, kE567, kE568, kE569] (ksp []) kE626 [kC626_0] 30000 (some kC626_0) = true := asgqk (by decide +kernel)
theorem kok626 : aOK kS krf kB kE626 := aOK_of (kal1 kok562 (kal1 kok567 (kal1 kok568 (kal1 kok569 kal0)))) (kcl1 ks626_0 kcl0) ks626
/-- ColdShod$StrokePlan.addNext(LColdShod$Idea;I)V -/
noncomputable def kE627 : aE := (83, 3, ([kvB 0 3, kvB 43 341], [(57, 42, .inl (0, .ofNat 0)), (52, 6, .inl (1, .ofNat 0))], 0, [kvR 52, some (.inr [20, 21, 22, 23, 24, 25, 26, 27]), kvN 42, none, none], []), ([], none), ([], [], none, ([], [])), kvW74)
noncomputable def kC627_0 : aC := (([kvB 0 3, kvB 43 341, kvB 0 4, kvB 43 341], [(57, 42, .inl (0, .ofNat 0)), (52, 6, .inl (3, .ofNat 0))], 2, [kvR 52, some (.inr [20, 21, 22, 23, 24, 25, 26, 27]), kvN 42, kvI 2, none], []), ([], []), (4, [(-1, 2)]))
theorem ks627 : aseg kS krf kB [kE562, kE567, kE568, kE569] (ksp []) kE627 [kC627_0] 30000 (none) = true := asgqk (by decide +kernel)
theorem ks627_0 : aseg kS krf kB [kE562, kE567, kE568, kE569] (ksp []) kE627 [kC627_0] 30000 (some kC627_0) = true := asgqk (by decide +kernel)
theorem kok627 : aOK kS krf kB kE627 := aOK_of (kal1 kok562 (kal1 kok567 (kal1 kok568 (kal1 kok569 kal0)))) (kcl1 ks627_0 kcl0) ks627
/-- ColdShod$StrokePlan.addNext(LColdShod$Idea;I)V -/
noncomputable def kE628 : aE := (83, 3, ([kvB 0 3, kvB 42 341], [(57, 41, .inl (0, .ofNat 0)), (52, 6, .inl (1, .ofNat 0))], 0, [kvR 52, some (.inr [20, 21, 22, 23, 24, 25, 26, 27]), kvN 41, none, none], []), ([], none), ([], [], none, ([], [])), kvW74)
noncomputable def kC628_0 : aC := (([kvB 0 3, kvB 42 341, kvB 0 4, kvB 42 341], [(57, 41, .inl (0, .ofNat 0)), (52, 6, .inl (3, .ofNat 0))], 2, [kvR 52, some (.inr [20, 21, 22, 23, 24, 25, 26, 27]), kvN 41, kvI 2, none], []), ([], []), (4, [(-1, 2)]))
theorem ks628 : aseg kS krf kB [kE562, kE567, kE568, kE569] (ksp []) kE628 [kC628_0] 30000 (none) = true := asgqk (by decide +kernel)
theorem ks628_0 : aseg kS krf kB [kE562, kE567, kE568, kE569] (ksp []) kE628 [kC628_0] 30000 (some kC628_0) = true := asgqk (by decide +kernel)
theorem kok628 : aOK kS krf kB kE628 := aOK_of (kal1 kok562 (kal1 kok567 (kal1 kok568 (kal1 kok569 kal0)))) (kcl1 ks628_0 kcl0) ks628
/-- ColdShod$StrokePlan.addNext(LColdShod$Idea;I)V -/
noncomputable def kE629 : aE := (83, 3, ([kvB 0 3, kvB 41 341], [(57, 40, .inl (0, .ofNat 0)), (52, 6, .inl (1, .ofNat 0))], 0, [kvR 52, some (.inr [20, 21, 22, 23, 24, 25, 26, 27]), kvN 40, none, none], []), ([], none), ([], [], none, ([], [])), kvW74)
noncomputable def kC629_0 : aC := (([kvB 0 3, kvB 41 341, kvB 0 4, kvB 41 341], [(57, 40, .inl (0, .ofNat 0)), (52, 6, .inl (3, .ofNat 0))], 2, [kvR 52, some (.inr [20, 21, 22, 23, 24, 25, 26, 27]), kvN 40, kvI 2, none], []), ([], []), (4, [(-1, 2)]))
theorem ks629 : aseg kS krf kB [kE562, kE567, kE568, kE569] (ksp []) kE629 [kC629_0] 30000 (none) = true := asgqk (by decide +kernel)
theorem ks629_0 : aseg kS krf kB [kE562, kE567, kE568, kE569] (ksp []) kE629 [kC629_0] 30000 (some kC629_0) = true := asgqk (by decide +kernel)
theorem kok629 : aOK kS krf kB kE629 := aOK_of (kal1 kok562 (kal1 kok567 (kal1 kok568 (kal1 kok569 kal0)))) (kcl1 ks629_0 kcl0) ks629
/-- ColdShod$StrokePlan.addNext(LColdShod$Idea;I)V -/
noncomputable def kE630 : aE := (83, 3, ([kvB 0 3, kvB 40 341], [(57, 39, .inl (0, .ofNat 0)), (52, 6, .inl (1, .ofNat 0))], 0, [kvR 52, some (.inr [20, 21, 22, 23, 24, 25, 26, 27]), kvN 39, none, none], []), ([], none), ([], [], none, ([], [])), kvW74)
noncomputable def kC630_0 : aC := (([kvB 0 3, kvB 40 341, kvB 0 4, kvB 40 341], [(57, 39, .inl (0, .ofNat 0)), (52, 6, .inl (3, .ofNat 0))], 2, [kvR 52, some (.inr [20, 21, 22, 23, 24, 25, 26, 27]), kvN 39, kvI 2, none], []), ([], []), (4, [(-1, 2)]))
theorem ks630 : aseg kS krf kB [kE562, kE567, kE568, kE569] (ksp []) kE630 [kC630_0] 30000 (none) = true := asgqk (by decide +kernel)
theorem ks630_0 : aseg kS krf kB [kE562, kE567, kE568, kE569] (ksp []) kE630 [kC630_0] 30000 (some kC630_0) = true := asgqk (by decide +kernel)
theorem kok630 : aOK kS krf kB kE630 := aOK_of (kal1 kok562 (kal1 kok567 (kal1 kok568 (kal1 kok569 kal0)))) (kcl1 ks630_0 kcl0) ks630
/-- ColdShod$StrokePlan.addNext(LColdShod$Idea;I)V -/
noncomputable def kE631 : aE := (83, 3, ([kvB 0 3, kvB 39 341], [(57, 38, .inl (0, .ofNat 0)), (52, 6, .inl (1, .ofNat 0))], 0, [kvR 52, some (.inr [20, 21, 22, 23, 24, 25, 26, 27]), kvN 38, none, none], []), ([], none), ([], [], none, ([], [])), kvW74)
noncomputable def kC631_0 : aC := (([kvB 0 3, kvB 39 341, kvB 0 4, kvB 39 341], [(57, 38, .inl (0, .ofNat 0)), (52, 6, .inl (3, .ofNat 0))], 2, [kvR 52, some (.inr [20, 21, 22, 23, 24, 25, 26, 27]), kvN 38, kvI 2, none], []), ([], []), (4, [(-1, 2)]))
theorem ks631 : aseg kS krf kB [kE562, kE567, kE568, kE569] (ksp []) kE631 [kC631_0] 30000 (none) = true := asgqk (by decide +kernel)
theorem ks631_0 : aseg kS krf kB [kE562, kE567, kE568, kE569] (ksp []) kE631 [kC631_0] 30000 (some kC631_0) = true := asgqk (by decide +kernel)
theorem kok631 : aOK kS krf kB kE631 := aOK_of (kal1 kok562 (kal1 kok567 (kal1 kok568 (kal1 kok569 kal0)))) (kcl1 ks631_0 kcl0) ks631
/-- ColdShod$StrokePlan.addNext(LColdShod$Idea;I)V -/
noncomputable def kE632 : aE := (83, 3, ([kvB 0 3, kvB 38 341], [(57, 37, .inl (0, .ofNat 0)), (52, 6, .inl (1, .ofNat 0))], 0, [kvR 52, some (.inr [20, 21, 22, 23, 24, 25, 26, 27]), kvN 37, none, none], []), ([], none), ([], [], none, ([], [])), kvW74)
noncomputable def kC632_0 : aC := (([kvB 0 3, kvB 38 341, kvB 0 4, kvB 38 341], [(57, 37, .inl (0, .ofNat 0)), (52, 6, .inl (3, .ofNat 0))], 2, [kvR 52, some (.inr [20, 21, 22, 23, 24, 25, 26, 27]), kvN 37, kvI 2, none], []), ([], []), (4, [(-1, 2)]))
theorem ks632 : aseg kS krf kB [kE562, kE567, kE568, kE569] (ksp []) kE632 [kC632_0] 30000 (none) = true := asgqk (by decide +kernel)
theorem ks632_0 : aseg kS krf kB [kE562, kE567, kE568, kE569] (ksp []) kE632 [kC632_0] 30000 (some kC632_0) = true := asgqk (by decide +kernel)
theorem kok632 : aOK kS krf kB kE632 := aOK_of (kal1 kok562 (kal1 kok567 (kal1 kok568 (kal1 kok569 kal0)))) (kcl1 ks632_0 kcl0) ks632
/-- ColdShod$StrokePlan.addNext(LColdShod$Idea;I)V -/
noncomputable def kE633 : aE := (83, 3, ([kvB 0 3, kvB 37 341], [(57, 36, .inl (0, .ofNat 0)), (52, 6, .inl (1, .ofNat 0))], 0, [kvR 52, some (.inr [20, 21, 22, 23, 24, 25, 26, 27]), kvN 36, none, none], []), ([], none), ([], [], none, ([], [])), kvW74)
noncomputable def kC633_0 : aC := (([kvB 0 3, kvB 37 341, kvB 0 4, kvB 37 341], [(57, 36, .inl (0, .ofNat 0)), (52, 6, .inl (3, .ofNat 0))], 2, [kvR 52, some (.inr [20, 21, 22, 23, 24, 25, 26, 27]), kvN 36, kvI 2, none], []), ([], []), (4, [(-1, 2)]))
theorem ks633 : aseg kS krf kB [kE562, kE567, kE568, kE569] (ksp []) kE633 [kC633_0] 30000 (none) = true := asgqk (by decide +kernel)
theorem ks633_0 : aseg kS krf kB [kE562, kE567, kE568, kE569] (ksp []) kE633 [kC633_0] 30000 (some kC633_0) = true := asgqk (by decide +kernel)
theorem kok633 : aOK kS krf kB kE633 := aOK_of (kal1 kok562 (kal1 kok567 (kal1 kok568 (kal1 kok569 kal0)))) (kcl1 ks633_0 kcl0) ks633
/-- ColdShod$StrokePlan.addNext(LColdShod$Idea;I)V -/
noncomputable def kE634 : aE := (83, 3, ([kvB 0 3, kvB 36 341], [(57, 35, .inl (0, .ofNat 0)), (52, 6, .inl (1, .ofNat 0))], 0, [kvR 52, some (.inr [20, 21, 22, 23, 24, 25, 26, 27]), kvN 35, none, none], []), ([], none), ([], [], none, ([], [])), kvW74)
noncomputable def kC634_0 : aC := (([kvB 0 3, kvB 36 341, kvB 0 4, kvB 36 341], [(57, 35, .inl (0, .ofNat 0)), (52, 6, .inl (3, .ofNat 0))], 2, [kvR 52, some (.inr [20, 21, 22, 23, 24, 25, 26, 27]), kvN 35, kvI 2, none], []), ([], []), (4, [(-1, 2)]))
theorem ks634 : aseg kS krf kB [kE562, kE567, kE568, kE569] (ksp []) kE634 [kC634_0] 30000 (none) = true := asgqk (by decide +kernel)
theorem ks634_0 : aseg kS krf kB [kE562, kE567, kE568, kE569] (ksp []) kE634 [kC634_0] 30000 (some kC634_0) = true := asgqk (by decide +kernel)
theorem kok634 : aOK kS krf kB kE634 := aOK_of (kal1 kok562 (kal1 kok567 (kal1 kok568 (kal1 kok569 kal0)))) (kcl1 ks634_0 kcl0) ks634
/-- ColdShod$StrokePlan.addNext(LColdShod$Idea;I)V -/
noncomputable def kE635 : aE := (83, 3, ([kvB 0 3, kvB 35 341], [(57, 34, .inl (0, .ofNat 0)), (52, 6, .inl (1, .ofNat 0))], 0, [kvR 52, some (.inr [20, 21, 22, 23, 24, 25, 26, 27]), kvN 34, none, none], []), ([], none), ([], [], none, ([], [])), kvW74)
noncomputable def kC635_0 : aC := (([kvB 0 3, kvB 35 341, kvB 0 4, kvB 35 341], [(57, 34, .inl (0, .ofNat 0)), (52, 6, .inl (3, .ofNat 0))], 2, [kvR 52, some (.inr [20, 21, 22, 23, 24, 25, 26, 27]), kvN 34, kvI 2, none], []), ([], []), (4, [(-1, 2)]))
theorem ks635 : aseg kS krf kB [kE562, kE567, kE568, kE569] (ksp []) kE635 [kC635_0] 30000 (none) = true := asgqk (by decide +kernel)
theorem ks635_0 : aseg kS krf kB [kE562, kE567, kE568, kE569] (ksp []) kE635 [kC635_0] 30000 (some kC635_0) = true := asgqk (by decide +kernel)
theorem kok635 : aOK kS krf kB kE635 := aOK_of (kal1 kok562 (kal1 kok567 (kal1 kok568 (kal1 kok569 kal0)))) (kcl1 ks635_0 kcl0) ks635
/-- ColdShod$StrokePlan.addNext(LColdShod$Idea;I)V -/
noncomputable def kE636 : aE := (83, 3, ([kvB 0 3, kvB 34 341], [(57, 33, .inl (0, .ofNat 0)), (52, 6, .inl (1, .ofNat 0))], 0, [kvR 52, some (.inr [20, 21, 22, 23, 24, 25, 26, 27]), kvN 33, none, none], []), ([], none), ([], [], none, ([], [])), kvW74)
noncomputable def kC636_0 : aC := (([kvB 0 3, kvB 34 341, kvB 0 4, kvB 34 341], [(57, 33, .inl (0, .ofNat 0)), (52, 6, .inl (3, .ofNat 0))], 2, [kvR 52, some (.inr [20, 21, 22, 23, 24, 25, 26, 27]), kvN 33, kvI 2, none], []), ([], []), (4, [(-1, 2)]))
theorem ks636 : aseg kS krf kB [kE562, kE567, kE568, kE569] (ksp []) kE636 [kC636_0] 30000 (none) = true := asgqk (by decide +kernel)
theorem ks636_0 : aseg kS krf kB [kE562, kE567, kE568, kE569] (ksp []) kE636 [kC636_0] 30000 (some kC636_0) = true := asgqk (by decide +kernel)
theorem kok636 : aOK kS krf kB kE636 := aOK_of (kal1 kok562 (kal1 kok567 (kal1 kok568 (kal1 kok569 kal0)))) (kcl1 ks636_0 kcl0) ks636
/-- ColdShod$StrokePlan.addNext(LColdShod$Idea;I)V -/
noncomputable def kE637 : aE := (83, 3, ([kvB 0 3, kvB 33 341], [(57, 32, .inl (0, .ofNat 0)), (52, 6, .inl (1, .ofNat 0))], 0, [kvR 52, some (.inr [20, 21, 22, 23, 24, 25, 26, 27]), kvN 32, none, none], []), ([], none), ([], [], none, ([], [])), kvW74)
noncomputable def kC637_0 : aC := (([kvB 0 3, kvB 33 341, kvB 0 4, kvB 33 341], [(57, 32, .inl (0, .ofNat 0)), (52, 6, .inl (3, .ofNat 0))], 2, [kvR 52, some (.inr [20, 21, 22, 23, 24, 25, 26, 27]), kvN 32, kvI 2, none], []), ([], []), (4, [(-1, 2)]))
theorem ks637 : aseg kS krf kB [kE562, kE567, kE568, kE569] (ksp []) kE637 [kC637_0] 30000 (none) = true := asgqk (by decide +kernel)
theorem ks637_0 : aseg kS krf kB [kE562, kE567, kE568, kE569] (ksp []) kE637 [kC637_0] 30000 (some kC637_0) = true := asgqk (by decide +kernel)
theorem kok637 : aOK kS krf kB kE637 := aOK_of (kal1 kok562 (kal1 kok567 (kal1 kok568 (kal1 kok569 kal0)))) (kcl1 ks637_0 kcl0) ks637
/-- ColdShod$StrokePlan.addNext(LColdShod$Idea;I)V -/
noncomputable def kE638 : aE := (83, 3, ([kvB 0 3, kvB 32 341], [(57, 31, .inl (0, .ofNat 0)), (52, 6, .inl (1, .ofNat 0))], 0, [kvR 52, some (.inr [20, 21, 22, 23, 24, 25, 26, 27]), kvN 31, none, none], []), ([], none), ([], [], none, ([], [])), kvW74)
noncomputable def kC638_0 : aC := (([kvB 0 3, kvB 32 341, kvB 0 4, kvB 32 341], [(57, 31, .inl (0, .ofNat 0)), (52, 6, .inl (3, .ofNat 0))], 2, [kvR 52, some (.inr [20, 21, 22, 23, 24, 25, 26, 27]), kvN 31, kvI 2, none], []), ([], []), (4, [(-1, 2)]))
theorem ks638 : aseg kS krf kB [kE562, kE567, kE568, kE569] (ksp []) kE638 [kC638_0] 30000 (none) = true := asgqk (by decide +kernel)
theorem ks638_0 : aseg kS krf kB [kE562, kE567, kE568, kE569] (ksp []) kE638 [kC638_0] 30000 (some kC638_0) = true := asgqk (by decide +kernel)
theorem kok638 : aOK kS krf kB kE638 := aOK_of (kal1 kok562 (kal1 kok567 (kal1 kok568 (kal1 kok569 kal0)))) (kcl1 ks638_0 kcl0) ks638
/-- ColdShod$StrokePlan.addNext(LColdShod$Idea;I)V -/
noncomputable def kE639 : aE := (83, 3, ([kvB 0 3, kvB 31 341], [(57, 30, .inl (0, .ofNat 0)), (52, 6, .inl (1, .ofNat 0))], 0, [kvR 52, some (.inr [20, 21, 22, 23, 24, 25, 26, 27]), kvN 30, none, none], []), ([], none), ([], [], none, ([], [])), kvW74)
noncomputable def kC639_0 : aC := (([kvB 0 3, kvB 31 341, kvB 0 4, kvB 31 341], [(57, 30, .inl (0, .ofNat 0)), (52, 6, .inl (3, .ofNat 0))], 2, [kvR 52, some (.inr [20, 21, 22, 23, 24, 25, 26, 27]), kvN 30, kvI 2, none], []), ([], []), (4, [(-1, 2)]))
theorem ks639 : aseg kS krf kB [kE562, kE567, kE568, kE569] (ksp []) kE639 [kC639_0] 30000 (none) = true := asgqk (by decide +kernel)
theorem ks639_0 : aseg kS krf kB [kE562, kE567, kE568, kE569] (ksp []) kE639 [kC639_0] 30000 (some kC639_0) = true := asgqk (by decide +kernel)
theorem kok639 : aOK kS krf kB kE639 := aOK_of (kal1 kok562 (kal1 kok567 (kal1 kok568 (kal1 kok569 kal0)))) (kcl1 ks639_0 kcl0) ks639
/-- ColdShod$StrokePlan.addNext(LColdShod$Idea;I)V -/
noncomputable def kE640 : aE := (83, 3, ([kvB 0 3, kvB 30 341], [(57, 29, .inl (0, .ofNat 0)), (52, 6, .inl (1, .ofNat 0))], 0, [kvR 52, some (.inr [20, 21, 22, 23, 24, 25, 26, 27]), kvN 29, none, none], []), ([], none), ([], [], none, ([], [])), kvW74)
noncomputable def kC640_0 : aC := (([kvB 0 3, kvB 30 341, kvB 0 4, kvB 30 341], [(57, 29, .inl (0, .ofNat 0)), (52, 6, .inl (3, .ofNat 0))], 2, [kvR 52, some (.inr [20, 21, 22, 23, 24, 25, 26, 27]), kvN 29, kvI 2, none], []), ([], []), (4, [(-1, 2)]))
theorem ks640 : aseg kS krf kB [kE562, kE567, kE568, kE569] (ksp []) kE640 [kC640_0] 30000 (none) = true := asgqk (by decide +kernel)
theorem ks640_0 : aseg kS krf kB [kE562, kE567, kE568, kE569] (ksp []) kE640 [kC640_0] 30000 (some kC640_0) = true := asgqk (by decide +kernel)
theorem kok640 : aOK kS krf kB kE640 := aOK_of (kal1 kok562 (kal1 kok567 (kal1 kok568 (kal1 kok569 kal0)))) (kcl1 ks640_0 kcl0) ks640
/-- ColdShod$StrokePlan.addNext(LColdShod$Idea;I)V -/
noncomputable def kE641 : aE := (83, 3, ([kvB 0 3, kvB 29 341], [(57, 28, .inl (0, .ofNat 0)), (52, 6, .inl (1, .ofNat 0))], 0, [kvR 52, some (.inr [20, 21, 22, 23, 24, 25, 26, 27]), kvN 28, none, none], []), ([], none), ([], [], none, ([], [])), kvW74)
noncomputable def kC641_0 : aC := (([kvB 0 3, kvB 29 341, kvB 0 4, kvB 29 341], [(57, 28, .inl (0, .ofNat 0)), (52, 6, .inl (3, .ofNat 0))], 2, [kvR 52, some (.inr [20, 21, 22, 23, 24, 25, 26, 27]), kvN 28, kvI 2, none], []), ([], []), (4, [(-1, 2)]))
theorem ks641 : aseg kS krf kB [kE562, kE567, kE568, kE569] (ksp []) kE641 [kC641_0] 30000 (none) = true := asgqk (by decide +kernel)
theorem ks641_0 : aseg kS krf kB [kE562, kE567, kE568, kE569] (ksp []) kE641 [kC641_0] 30000 (some kC641_0) = true := asgqk (by decide +kernel)
theorem kok641 : aOK kS krf kB kE641 := aOK_of (kal1 kok562 (kal1 kok567 (kal1 kok568 (kal1 kok569 kal0)))) (kcl1 ks641_0 kcl0) ks641
/-- ColdShod$StrokePlan.addNext(LColdShod$Idea;I)V -/
noncomputable def kE642 : aE := (83, 3, ([kvB 0 3, kvB 28 341], [(57, 27, .inl (0, .ofNat 0)), (52, 6, .inl (1, .ofNat 0))], 0, [kvR 52, some (.inr [20, 21, 22, 23, 24, 25, 26, 27]), kvN 27, none, none], []), ([], none), ([], [], none, ([], [])), kvW74)
noncomputable def kC642_0 : aC := (([kvB 0 3, kvB 28 341, kvB 0 4, kvB 28 341], [(57, 27, .inl (0, .ofNat 0)), (52, 6, .inl (3, .ofNat 0))], 2, [kvR 52, some (.inr [20, 21, 22, 23, 24, 25, 26, 27]), kvN 27, kvI 2, none], []), ([], []), (4, [(-1, 2)]))
theorem ks642 : aseg kS krf kB [kE562, kE567, kE568, kE569] (ksp []) kE642 [kC642_0] 30000 (none) = true := asgqk (by decide +kernel)
theorem ks642_0 : aseg kS krf kB [kE562, kE567, kE568, kE569] (ksp []) kE642 [kC642_0] 30000 (some kC642_0) = true := asgqk (by decide +kernel)
theorem kok642 : aOK kS krf kB kE642 := aOK_of (kal1 kok562 (kal1 kok567 (kal1 kok568 (kal1 kok569 kal0)))) (kcl1 ks642_0 kcl0) ks642
/-- ColdShod$StrokePlan.addNext(LColdShod$Idea;I)V -/
noncomputable def kE643 : aE := (83, 3, ([kvB 0 3, kvB 27 341], [(57, 26, .inl (0, .ofNat 0)), (52, 6, .inl (1, .ofNat 0))], 0, [kvR 52, some (.inr [20, 21, 22, 23, 24, 25, 26, 27]), kvN 26, none, none], []), ([], none), ([], [], none, ([], [])), kvW74)
noncomputable def kC643_0 : aC := (([kvB 0 3, kvB 27 341, kvB 0 4, kvB 27 341], [(57, 26, .inl (0, .ofNat 0)), (52, 6, .inl (3, .ofNat 0))], 2, [kvR 52, some (.inr [20, 21, 22, 23, 24, 25, 26, 27]), kvN 26, kvI 2, none], []), ([], []), (4, [(-1, 2)]))
theorem ks643 : aseg kS krf kB [kE562, kE567, kE568, kE569] (ksp []) kE643 [kC643_0] 30000 (none) = true := asgqk (by decide +kernel)
theorem ks643_0 : aseg kS krf kB [kE562, kE567, kE568, kE569] (ksp []) kE643 [kC643_0] 30000 (some kC643_0) = true := asgqk (by decide +kernel)
theorem kok643 : aOK kS krf kB kE643 := aOK_of (kal1 kok562 (kal1 kok567 (kal1 kok568 (kal1 kok569 kal0)))) (kcl1 ks643_0 kcl0) ks643
/-- ColdShod$StrokePlan.addNext(LColdShod$Idea;I)V -/
noncomputable def kE644 : aE := (83, 3, ([kvB 0 3, kvB 26 341], [(57, 25, .inl (0, .ofNat 0)), (52, 6, .inl (1, .ofNat 0))], 0, [kvR 52, some (.inr [20, 21, 22, 23, 24, 25, 26, 27]), kvN 25, none, none], []), ([], none), ([], [], none, ([], [])), kvW74)
noncomputable def kC644_0 : aC := (([kvB 0 3, kvB 26 341, kvB 0 4, kvB 26 341], [(57, 25, .inl (0, .ofNat 0)), (52, 6, .inl (3, .ofNat 0))], 2, [kvR 52, some (.inr [20, 21, 22, 23, 24, 25, 26, 27]), kvN 25, kvI 2, none], []), ([], []), (4, [(-1, 2)]))
theorem ks644 : aseg kS krf kB [kE562, kE567, kE568, kE569] (ksp []) kE644 [kC644_0] 30000 (none) = true := asgqk (by decide +kernel)
theorem ks644_0 : aseg kS krf kB [kE562, kE567, kE568, kE569] (ksp []) kE644 [kC644_0] 30000 (some kC644_0) = true := asgqk (by decide +kernel)
theorem kok644 : aOK kS krf kB kE644 := aOK_of (kal1 kok562 (kal1 kok567 (kal1 kok568 (kal1 kok569 kal0)))) (kcl1 ks644_0 kcl0) ks644
/-- ColdShod$StrokePlan.addNext(LColdShod$Idea;I)V -/
noncomputable def kE645 : aE := (83, 3, ([kvB 0 3, kvB 25 341], [(57, 24, .inl (0, .ofNat 0)), (52, 6, .inl (1, .ofNat 0))], 0, [kvR 52, some (.inr [20, 21, 22, 23, 24, 25, 26, 27]), kvN 24, none, none], []), ([], none), ([], [], none, ([], [])), kvW74)
noncomputable def kC645_0 : aC := (([kvB 0 3, kvB 25 341, kvB 0 4, kvB 25 341], [(57, 24, .inl (0, .ofNat 0)), (52, 6, .inl (3, .ofNat 0))], 2, [kvR 52, some (.inr [20, 21, 22, 23, 24, 25, 26, 27]), kvN 24, kvI 2, none], []), ([], []), (4, [(-1, 2)]))
theorem ks645 : aseg kS krf kB [kE562, kE567, kE568, kE569] (ksp []) kE645 [kC645_0] 30000 (none) = true := asgqk (by decide +kernel)
theorem ks645_0 : aseg kS krf kB [kE562, kE567, kE568, kE569] (ksp []) kE645 [kC645_0] 30000 (some kC645_0) = true := asgqk (by decide +kernel)
theorem kok645 : aOK kS krf kB kE645 := aOK_of (kal1 kok562 (kal1 kok567 (kal1 kok568 (kal1 kok569 kal0)))) (kcl1 ks645_0 kcl0) ks645
/-- ColdShod$StrokePlan.addNext(LColdShod$Idea;I)V -/
noncomputable def kE646 : aE := (83, 3, ([kvB 0 3, kvB 24 341], [(57, 23, .inl (0, .ofNat 0)), (52, 6, .inl (1, .ofNat 0))], 0, [kvR 52, some (.inr [20, 21, 22, 23, 24, 25, 26, 27]), kvN 23, none, none], []), ([], none), ([], [], none, ([], [])), kvW74)
noncomputable def kC646_0 : aC := (([kvB 0 3, kvB 24 341, kvB 0 4, kvB 24 341], [(57, 23, .inl (0, .ofNat 0)), (52, 6, .inl (3, .ofNat 0))], 2, [kvR 52, some (.inr [20, 21, 22, 23, 24, 25, 26, 27]), kvN 23, kvI 2, none], []), ([], []), (4, [(-1, 2)]))
theorem ks646 : aseg kS krf kB [kE562, kE567, kE568, kE569] (ksp []) kE646 [kC646_0] 30000 (none) = true := asgqk (by decide +kernel)
theorem ks646_0 : aseg kS krf kB [kE562, kE567, kE568, kE569] (ksp []) kE646 [kC646_0] 30000 (some kC646_0) = true := asgqk (by decide +kernel)
theorem kok646 : aOK kS krf kB kE646 := aOK_of (kal1 kok562 (kal1 kok567 (kal1 kok568 (kal1 kok569 kal0)))) (kcl1 ks646_0 kcl0) ks646
/-- ColdShod$StrokePlan.addNext(LColdShod$Idea;I)V -/
noncomputable def kE647 : aE := (83, 3, ([kvB 0 3, kvB 23 341], [(57, 22, .inl (0, .ofNat 0)), (52, 6, .inl (1, .ofNat 0))], 0, [kvR 52, some (.inr [20, 21, 22, 23, 24, 25, 26, 27]), kvN 22, none, none], []), ([], none), ([], [], none, ([], [])), kvW74)
noncomputable def kC647_0 : aC := (([kvB 0 3, kvB 23 341, kvB 0 4, kvB 23 341], [(57, 22, .inl (0, .ofNat 0)), (52, 6, .inl (3, .ofNat 0))], 2, [kvR 52, some (.inr [20, 21, 22, 23, 24, 25, 26, 27]), kvN 22, kvI 2, none], []), ([], []), (4, [(-1, 2)]))
theorem ks647 : aseg kS krf kB [kE562, kE567, kE568, kE569] (ksp []) kE647 [kC647_0] 30000 (none) = true := asgqk (by decide +kernel)
theorem ks647_0 : aseg kS krf kB [kE562, kE567, kE568, kE569] (ksp []) kE647 [kC647_0] 30000 (some kC647_0) = true := asgqk (by decide +kernel)
theorem kok647 : aOK kS krf kB kE647 := aOK_of (kal1 kok562 (kal1 kok567 (kal1 kok568 (kal1 kok569 kal0)))) (kcl1 ks647_0 kcl0) ks647
/-- ColdShod$StrokePlan.addNext(LColdShod$Idea;I)V -/
noncomputable def kE648 : aE := (83, 3, ([kvB 0 3, kvB 22 341], [(57, 21, .inl (0, .ofNat 0)), (52, 6, .inl (1, .ofNat 0))], 0, [kvR 52, some (.inr [20, 21, 22, 23, 24, 25, 26, 27]), kvN 21, none, none], []), ([], none), ([], [], none, ([], [])), kvW74)
noncomputable def kC648_0 : aC := (([kvB 0 3, kvB 22 341, kvB 0 4, kvB 22 341], [(57, 21, .inl (0, .ofNat 0)), (52, 6, .inl (3, .ofNat 0))], 2, [kvR 52, some (.inr [20, 21, 22, 23, 24, 25, 26, 27]), kvN 21, kvI 2, none], []), ([], []), (4, [(-1, 2)]))
theorem ks648 : aseg kS krf kB [kE562, kE567, kE568, kE569] (ksp []) kE648 [kC648_0] 30000 (none) = true := asgqk (by decide +kernel)
theorem ks648_0 : aseg kS krf kB [kE562, kE567, kE568, kE569] (ksp []) kE648 [kC648_0] 30000 (some kC648_0) = true := asgqk (by decide +kernel)
theorem kok648 : aOK kS krf kB kE648 := aOK_of (kal1 kok562 (kal1 kok567 (kal1 kok568 (kal1 kok569 kal0)))) (kcl1 ks648_0 kcl0) ks648
/-- ColdShod$StrokePlan.addNext(LColdShod$Idea;I)V -/
noncomputable def kE649 : aE := (83, 3, ([kvB 0 3, kvB 21 341], [(57, 20, .inl (0, .ofNat 0)), (52, 6, .inl (1, .ofNat 0))], 0, [kvR 52, some (.inr [20, 21, 22, 23, 24, 25, 26, 27]), kvN 20, none, none], []), ([], none), ([], [], none, ([], [])), kvW74)
noncomputable def kC649_0 : aC := (([kvB 0 3, kvB 21 341, kvB 0 4, kvB 21 341], [(57, 20, .inl (0, .ofNat 0)), (52, 6, .inl (3, .ofNat 0))], 2, [kvR 52, some (.inr [20, 21, 22, 23, 24, 25, 26, 27]), kvN 20, kvI 2, none], []), ([], []), (4, [(-1, 2)]))
theorem ks649 : aseg kS krf kB [kE562, kE567, kE568, kE569] (ksp []) kE649 [kC649_0] 30000 (none) = true := asgqk (by decide +kernel)
theorem ks649_0 : aseg kS krf kB [kE562, kE567, kE568, kE569] (ksp []) kE649 [kC649_0] 30000 (some kC649_0) = true := asgqk (by decide +kernel)
theorem kok649 : aOK kS krf kB kE649 := aOK_of (kal1 kok562 (kal1 kok567 (kal1 kok568 (kal1 kok569 kal0)))) (kcl1 ks649_0 kcl0) ks649
/-- ColdShod$StrokePlan.addNext(LColdShod$Idea;I)V -/
noncomputable def kE650 : aE := (83, 3, ([kvB 0 3, kvB 100 341], [(57, 99, .inl (0, .ofNat 0)), (52, 6, .inl (1, .ofNat 0))], 0, [kvR 52, some (.inr [20, 21, 22, 23, 24, 25, 26, 27]), kvN 99, none, none], []), ([], none), ([], [], none, ([], [])), kvW74)
noncomputable def kC650_0 : aC := (([kvB 0 3, kvB 100 341, kvB 0 4, kvB 100 341], [(57, 99, .inl (0, .ofNat 0)), (52, 6, .inl (3, .ofNat 0))], 2, [kvR 52, some (.inr [20, 21, 22, 23, 24, 25, 26, 27]), kvN 99, kvI 2, none], []), ([], []), (4, [(-1, 2)]))
theorem ks650 : aseg kS krf kB [kE562, kE567, kE568, kE569] (ksp []) kE650 [kC650_0] 30000 (none) = true := asgqk (by decide +kernel)
theorem ks650_0 : aseg kS krf kB [kE562, kE567, kE568, kE569] (ksp []) kE650 [kC650_0] 30000 (some kC650_0) = true := asgqk (by decide +kernel)
theorem kok650 : aOK kS krf kB kE650 := aOK_of (kal1 kok562 (kal1 kok567 (kal1 kok568 (kal1 kok569 kal0)))) (kcl1 ks650_0 kcl0) ks650
/-- ColdShod$StrokePlan.addNext(LColdShod$Idea;I)V -/
noncomputable def kE651 : aE := (83, 3, ([kvB 0 3, kvB 99 341], [(57, 98, .inl (0, .ofNat 0)), (52, 6, .inl (1, .ofNat 0))], 0, [kvR 52, some (.inr [20, 21, 22, 23, 24, 25, 26, 27]), kvN 98, none, none], []), ([], none), ([], [], none, ([], [])), kvW74)
noncomputable def kC651_0 : aC := (([kvB 0 3, kvB 99 341, kvB 0 4, kvB 99 341], [(57, 98, .inl (0, .ofNat 0)), (52, 6, .inl (3, .ofNat 0))], 2, [kvR 52, some (.inr [20, 21, 22, 23, 24, 25, 26, 27]), kvN 98, kvI 2, none], []), ([], []), (4, [(-1, 2)]))
theorem ks651 : aseg kS krf kB [kE562, kE567, kE568, kE569] (ksp []) kE651 [kC651_0] 30000 (none) = true := asgqk (by decide +kernel)
theorem ks651_0 : aseg kS krf kB [kE562, kE567, kE568, kE569] (ksp []) kE651 [kC651_0] 30000 (some kC651_0) = true := asgqk (by decide +kernel)
theorem kok651 : aOK kS krf kB kE651 := aOK_of (kal1 kok562 (kal1 kok567 (kal1 kok568 (kal1 kok569 kal0)))) (kcl1 ks651_0 kcl0) ks651
/-- ColdShod$StrokePlan.addNext(LColdShod$Idea;I)V -/
noncomputable def kE652 : aE := (83, 3, ([kvB 0 3, kvB 98 341], [(57, 97, .inl (0, .ofNat 0)), (52, 6, .inl (1, .ofNat 0))], 0, [kvR 52, some (.inr [20, 21, 22, 23, 24, 25, 26, 27]), kvN 97, none, none], []), ([], none), ([], [], none, ([], [])), kvW74)
noncomputable def kC652_0 : aC := (([kvB 0 3, kvB 98 341, kvB 0 4, kvB 98 341], [(57, 97, .inl (0, .ofNat 0)), (52, 6, .inl (3, .ofNat 0))], 2, [kvR 52, some (.inr [20, 21, 22, 23, 24, 25, 26, 27]), kvN 97, kvI 2, none], []), ([], []), (4, [(-1, 2)]))
theorem ks652 : aseg kS krf kB [kE562, kE567, kE568, kE569] (ksp []) kE652 [kC652_0] 30000 (none) = true := asgqk (by decide +kernel)
theorem ks652_0 : aseg kS krf kB [kE562, kE567, kE568, kE569] (ksp []) kE652 [kC652_0] 30000 (some kC652_0) = true := asgqk (by decide +kernel)
theorem kok652 : aOK kS krf kB kE652 := aOK_of (kal1 kok562 (kal1 kok567 (kal1 kok568 (kal1 kok569 kal0)))) (kcl1 ks652_0 kcl0) ks652
/-- ColdShod$StrokePlan.addNext(LColdShod$Idea;I)V -/
noncomputable def kE653 : aE := (83, 3, ([kvB 0 3, kvB 97 341], [(57, 96, .inl (0, .ofNat 0)), (52, 6, .inl (1, .ofNat 0))], 0, [kvR 52, some (.inr [20, 21, 22, 23, 24, 25, 26, 27]), kvN 96, none, none], []), ([], none), ([], [], none, ([], [])), kvW74)
noncomputable def kC653_0 : aC := (([kvB 0 3, kvB 97 341, kvB 0 4, kvB 97 341], [(57, 96, .inl (0, .ofNat 0)), (52, 6, .inl (3, .ofNat 0))], 2, [kvR 52, some (.inr [20, 21, 22, 23, 24, 25, 26, 27]), kvN 96, kvI 2, none], []), ([], []), (4, [(-1, 2)]))
theorem ks653 : aseg kS krf kB [kE562, kE567, kE568, kE569] (ksp []) kE653 [kC653_0] 30000 (none) = true := asgqk (by decide +kernel)
theorem ks653_0 : aseg kS krf kB [kE562, kE567, kE568, kE569] (ksp []) kE653 [kC653_0] 30000 (some kC653_0) = true := asgqk (by decide +kernel)
theorem kok653 : aOK kS krf kB kE653 := aOK_of (kal1 kok562 (kal1 kok567 (kal1 kok568 (kal1 kok569 kal0)))) (kcl1 ks653_0 kcl0) ks653
/-- ColdShod$StrokePlan.addNext(LColdShod$Idea;I)V -/
noncomputable def kE654 : aE := (83, 3, ([kvB 0 3, kvB 96 341], [(57, 95, .inl (0, .ofNat 0)), (52, 6, .inl (1, .ofNat 0))], 0, [kvR 52, some (.inr [20, 21, 22, 23, 24, 25, 26, 27]), kvN 95, none, none], []), ([], none), ([], [], none, ([], [])), kvW74)
noncomputable def kC654_0 : aC := (([kvB 0 3, kvB 96 341, kvB 0 4, kvB 96 341], [(57, 95, .inl (0, .ofNat 0)), (52, 6, .inl (3, .ofNat 0))], 2, [kvR 52, some (.inr [20, 21, 22, 23, 24, 25, 26, 27]), kvN 95, kvI 2, none], []), ([], []), (4, [(-1, 2)]))
theorem ks654 : aseg kS krf kB [kE562, kE567, kE568, kE569] (ksp []) kE654 [kC654_0] 30000 (none) = true := asgqk (by decide +kernel)
theorem ks654_0 : aseg kS krf kB [kE562, kE567, kE568, kE569] (ksp []) kE654 [kC654_0] 30000 (some kC654_0) = true := asgqk (by decide +kernel)
theorem kok654 : aOK kS krf kB kE654 := aOK_of (kal1 kok562 (kal1 kok567 (kal1 kok568 (kal1 kok569 kal0)))) (kcl1 ks654_0 kcl0) ks654
/-- ColdShod$StrokePlan.addNext(LColdShod$Idea;I)V -/
noncomputable def kE655 : aE := (83, 3, ([kvB 0 3, kvB 95 341], [(57, 94, .inl (0, .ofNat 0)), (52, 6, .inl (1, .ofNat 0))], 0, [kvR 52, some (.inr [20, 21, 22, 23, 24, 25, 26, 27]), kvN 94, none, none], []), ([], none), ([], [], none, ([], [])), kvW74)
noncomputable def kC655_0 : aC := (([kvB 0 3, kvB 95 341, kvB 0 4, kvB 95 341], [(57, 94, .inl (0, .ofNat 0)), (52, 6, .inl (3, .ofNat 0))], 2, [kvR 52, some (.inr [20, 21, 22, 23, 24, 25, 26, 27]), kvN 94, kvI 2, none], []), ([], []), (4, [(-1, 2)]))
theorem ks655 : aseg kS krf kB [kE562, kE567, kE568, kE569] (ksp []) kE655 [kC655_0] 30000 (none) = true := asgqk (by decide +kernel)
theorem ks655_0 : aseg kS krf kB [kE562, kE567, kE568, kE569] (ksp []) kE655 [kC655_0] 30000 (some kC655_0) = true := asgqk (by decide +kernel)
theorem kok655 : aOK kS krf kB kE655 := aOK_of (kal1 kok562 (kal1 kok567 (kal1 kok568 (kal1 kok569 kal0)))) (kcl1 ks655_0 kcl0) ks655
/-- ColdShod$StrokePlan.addNext(LColdShod$Idea;I)V -/
noncomputable def kE656 : aE := (83, 3, ([kvB 0 3, kvB 94 341], [(57, 93, .inl (0, .ofNat 0)), (52, 6, .inl (1, .ofNat 0))], 0, [kvR 52, some (.inr [20, 21, 22, 23, 24, 25, 26, 27]), kvN 93, none, none], []), ([], none), ([], [], none, ([], [])), kvW74)
noncomputable def kC656_0 : aC := (([kvB 0 3, kvB 94 341, kvB 0 4, kvB 94 341], [(57, 93, .inl (0, .ofNat 0)), (52, 6, .inl (3, .ofNat 0))], 2, [kvR 52, some (.inr [20, 21, 22, 23, 24, 25, 26, 27]), kvN 93, kvI 2, none], []), ([], []), (4, [(-1, 2)]))
theorem ks656 : aseg kS krf kB [kE562, kE567, kE568, kE569] (ksp []) kE656 [kC656_0] 30000 (none) = true := asgqk (by decide +kernel)
theorem ks656_0 : aseg kS krf kB [kE562, kE567, kE568, kE569] (ksp []) kE656 [kC656_0] 30000 (some kC656_0) = true := asgqk (by decide +kernel)
theorem kok656 : aOK kS krf kB kE656 := aOK_of (kal1 kok562 (kal1 kok567 (kal1 kok568 (kal1 kok569 kal0)))) (kcl1 ks656_0 kcl0) ks656
/-- ColdShod$StrokePlan.addNext(LColdShod$Idea;I)V -/
noncomputable def kE657 : aE := (83, 3, ([kvB 0 3, kvB 93 341], [(57, 92, .inl (0, .ofNat 0)), (52, 6, .inl (1, .ofNat 0))], 0, [kvR 52, some (.inr [20, 21, 22, 23, 24, 25, 26, 27]), kvN 92, none, none], []), ([], none), ([], [], none, ([], [])), kvW74)
noncomputable def kC657_0 : aC := (([kvB 0 3, kvB 93 341, kvB 0 4, kvB 93 341], [(57, 92, .inl (0, .ofNat 0)), (52, 6, .inl (3, .ofNat 0))], 2, [kvR 52, some (.inr [20, 21, 22, 23, 24, 25, 26, 27]), kvN 92, kvI 2, none], []), ([], []), (4, [(-1, 2)]))
theorem ks657 : aseg kS krf kB [kE562, kE567, kE568, kE569] (ksp []) kE657 [kC657_0] 30000 (none) = true := asgqk (by decide +kernel)
theorem ks657_0 : aseg kS krf kB [kE562, kE567, kE568, kE569] (ksp []) kE657 [kC657_0] 30000 (some kC657_0) = true := asgqk (by decide +kernel)
theorem kok657 : aOK kS krf kB kE657 := aOK_of (kal1 kok562 (kal1 kok567 (kal1 kok568 (kal1 kok569 kal0)))) (kcl1 ks657_0 kcl0) ks657
/-- ColdShod$StrokePlan.addNext(LColdShod$Idea;I)V -/
noncomputable def kE658 : aE := (83, 3, ([kvB 0 3, kvB 92 341], [(57, 91, .inl (0, .ofNat 0)), (52, 6, .inl (1, .ofNat 0))], 0, [kvR 52, some (.inr [20, 21, 22, 23, 24, 25, 26, 27]), kvN 91, none, none], []), ([], none), ([], [], none, ([], [])), kvW74)
noncomputable def kC658_0 : aC := (([kvB 0 3, kvB 92 341, kvB 0 4, kvB 92 341], [(57, 91, .inl (0, .ofNat 0)), (52, 6, .inl (3, .ofNat 0))], 2, [kvR 52, some (.inr [20, 21, 22, 23, 24, 25, 26, 27]), kvN 91, kvI 2, none], []), ([], []), (4, [(-1, 2)]))
theorem ks658 : aseg kS krf kB [kE562, kE567, kE568, kE569] (ksp []) kE658 [kC658_0] 30000 (none) = true := asgqk (by decide +kernel)
theorem ks658_0 : aseg kS krf kB [kE562, kE567, kE568, kE569] (ksp []) kE658 [kC658_0] 30000 (some kC658_0) = true := asgqk (by decide +kernel)
theorem kok658 : aOK kS krf kB kE658 := aOK_of (kal1 kok562 (kal1 kok567 (kal1 kok568 (kal1 kok569 kal0)))) (kcl1 ks658_0 kcl0) ks658
/-- ColdShod$StrokePlan.addNext(LColdShod$Idea;I)V -/
noncomputable def kE659 : aE := (83, 3, ([kvB 0 3, kvB 91 341], [(57, 90, .inl (0, .ofNat 0)), (52, 6, .inl (1, .ofNat 0))], 0, [kvR 52, some (.inr [20, 21, 22, 23, 24, 25, 26, 27]), kvN 90, none, none], []), ([], none), ([], [], none, ([], [])), kvW74)
noncomputable def kC659_0 : aC := (([kvB 0 3, kvB 91 341, kvB 0 4, kvB 91 341], [(57, 90, .inl (0, .ofNat 0)), (52, 6, .inl (3, .ofNat 0))], 2, [kvR 52, some (.inr [20, 21, 22, 23, 24, 25, 26, 27]), kvN 90, kvI 2, none], []), ([], []), (4, [(-1, 2)]))
theorem ks659 : aseg kS krf kB [kE562, kE567, kE568, kE569] (ksp []) kE659 [kC659_0] 30000 (none) = true := asgqk (by decide +kernel)
theorem ks659_0 : aseg kS krf kB [kE562, kE567, kE568, kE569] (ksp []) kE659 [kC659_0] 30000 (some kC659_0) = true := asgqk (by decide +kernel)
theorem kok659 : aOK kS krf kB kE659 := aOK_of (kal1 kok562 (kal1 kok567 (kal1 kok568 (kal1 kok569 kal0)))) (kcl1 ks659_0 kcl0) ks659
/-- ColdShod$StrokePlan.addNext(LColdShod$Idea;I)V -/
noncomputable def kE660 : aE := (83, 3, ([kvB 0 3, kvB 90 341], [(57, 89, .inl (0, .ofNat 0)), (52, 6, .inl (1, .ofNat 0))], 0, [kvR 52, some (.inr [20, 21, 22, 23, 24, 25, 26, 27]), kvN 89, none, none], []), ([], none), ([], [], none, ([], [])), kvW74)
noncomputable def kC660_0 : aC := (([kvB 0 3, kvB 90 341, kvB 0 4, kvB 90 341], [(57, 89, .inl (0, .ofNat 0)), (52, 6, .inl (3, .ofNat 0))], 2, [kvR 52, some (.inr [20, 21, 22, 23, 24, 25, 26, 27]), kvN 89, kvI 2, none], []), ([], []), (4, [(-1, 2)]))
theorem ks660 : aseg kS krf kB [kE562, kE567, kE568, kE569] (ksp []) kE660 [kC660_0] 30000 (none) = true := asgqk (by decide +kernel)
theorem ks660_0 : aseg kS krf kB [kE562, kE567, kE568, kE569] (ksp []) kE660 [kC660_0] 30000 (some kC660_0) = true := asgqk (by decide +kernel)
theorem kok660 : aOK kS krf kB kE660 := aOK_of (kal1 kok562 (kal1 kok567 (kal1 kok568 (kal1 kok569 kal0)))) (kcl1 ks660_0 kcl0) ks660
/-- ColdShod$StrokePlan.addNext(LColdShod$Idea;I)V -/
noncomputable def kE661 : aE := (83, 3, ([kvB 0 3, kvB 89 341], [(57, 88, .inl (0, .ofNat 0)), (52, 6, .inl (1, .ofNat 0))], 0, [kvR 52, some (.inr [20, 21, 22, 23, 24, 25, 26, 27]), kvN 88, none, none], []), ([], none), ([], [], none, ([], [])), kvW74)
noncomputable def kC661_0 : aC := (([kvB 0 3, kvB 89 341, kvB 0 4, kvB 89 341], [(57, 88, .inl (0, .ofNat 0)), (52, 6, .inl (3, .ofNat 0))], 2, [kvR 52, some (.inr [20, 21, 22, 23, 24, 25, 26, 27]), kvN 88, kvI 2, none], []), ([], []), (4, [(-1, 2)]))
theorem ks661 : aseg kS krf kB [kE562, kE567, kE568, kE569] (ksp []) kE661 [kC661_0] 30000 (none) = true := asgqk (by decide +kernel)
theorem ks661_0 : aseg kS krf kB [kE562, kE567, kE568, kE569] (ksp []) kE661 [kC661_0] 30000 (some kC661_0) = true := asgqk (by decide +kernel)
theorem kok661 : aOK kS krf kB kE661 := aOK_of (kal1 kok562 (kal1 kok567 (kal1 kok568 (kal1 kok569 kal0)))) (kcl1 ks661_0 kcl0) ks661
/-- ColdShod$StrokePlan.addNext(LColdShod$Idea;I)V -/
noncomputable def kE662 : aE := (83, 3, ([kvB 0 3, kvB 88 341], [(57, 87, .inl (0, .ofNat 0)), (52, 6, .inl (1, .ofNat 0))], 0, [kvR 52, some (.inr [20, 21, 22, 23, 24, 25, 26, 27]), kvN 87, none, none], []), ([], none), ([], [], none, ([], [])), kvW74)
noncomputable def kC662_0 : aC := (([kvB 0 3, kvB 88 341, kvB 0 4, kvB 88 341], [(57, 87, .inl (0, .ofNat 0)), (52, 6, .inl (3, .ofNat 0))], 2, [kvR 52, some (.inr [20, 21, 22, 23, 24, 25, 26, 27]), kvN 87, kvI 2, none], []), ([], []), (4, [(-1, 2)]))
theorem ks662 : aseg kS krf kB [kE562, kE567, kE568, kE569] (ksp []) kE662 [kC662_0] 30000 (none) = true := asgqk (by decide +kernel)
theorem ks662_0 : aseg kS krf kB [kE562, kE567, kE568, kE569] (ksp []) kE662 [kC662_0] 30000 (some kC662_0) = true := asgqk (by decide +kernel)
theorem kok662 : aOK kS krf kB kE662 := aOK_of (kal1 kok562 (kal1 kok567 (kal1 kok568 (kal1 kok569 kal0)))) (kcl1 ks662_0 kcl0) ks662
/-- ColdShod$StrokePlan.addNext(LColdShod$Idea;I)V -/
noncomputable def kE663 : aE := (83, 3, ([kvB 0 3, kvB 87 341], [(57, 86, .inl (0, .ofNat 0)), (52, 6, .inl (1, .ofNat 0))], 0, [kvR 52, some (.inr [20, 21, 22, 23, 24, 25, 26, 27]), kvN 86, none, none], []), ([], none), ([], [], none, ([], [])), kvW74)
noncomputable def kC663_0 : aC := (([kvB 0 3, kvB 87 341, kvB 0 4, kvB 87 341], [(57, 86, .inl (0, .ofNat 0)), (52, 6, .inl (3, .ofNat 0))], 2, [kvR 52, some (.inr [20, 21, 22, 23, 24, 25, 26, 27]), kvN 86, kvI 2, none], []), ([], []), (4, [(-1, 2)]))
theorem ks663 : aseg kS krf kB [kE562, kE567, kE568, kE569] (ksp []) kE663 [kC663_0] 30000 (none) = true := asgqk (by decide +kernel)
theorem ks663_0 : aseg kS krf kB [kE562, kE567, kE568, kE569] (ksp []) kE663 [kC663_0] 30000 (some kC663_0) = true := asgqk (by decide +kernel)
theorem kok663 : aOK kS krf kB kE663 := aOK_of (kal1 kok562 (kal1 kok567 (kal1 kok568 (kal1 kok569 kal0)))) (kcl1 ks663_0 kcl0) ks663
/-- ColdShod$StrokePlan.addNext(LColdShod$Idea;I)V -/
noncomputable def kE664 : aE := (83, 3, ([kvB 0 3, kvB 86 341], [(57, 85, .inl (0, .ofNat 0)), (52, 6, .inl (1, .ofNat 0))], 0, [kvR 52, some (.inr [20, 21, 22, 23, 24, 25, 26, 27]), kvN 85, none, none], []), ([], none), ([], [], none, ([], [])), kvW74)
noncomputable def kC664_0 : aC := (([kvB 0 3, kvB 86 341, kvB 0 4, kvB 86 341], [(57, 85, .inl (0, .ofNat 0)), (52, 6, .inl (3, .ofNat 0))], 2, [kvR 52, some (.inr [20, 21, 22, 23, 24, 25, 26, 27]), kvN 85, kvI 2, none], []), ([], []), (4, [(-1, 2)]))
theorem ks664 : aseg kS krf kB [kE562, kE567, kE568, kE569] (ksp []) kE664 [kC664_0] 30000 (none) = true := asgqk (by decide +kernel)
theorem ks664_0 : aseg kS krf kB [kE562, kE567, kE568, kE569] (ksp []) kE664 [kC664_0] 30000 (some kC664_0) = true := asgqk (by decide +kernel)
theorem kok664 : aOK kS krf kB kE664 := aOK_of (kal1 kok562 (kal1 kok567 (kal1 kok568 (kal1 kok569 kal0)))) (kcl1 ks664_0 kcl0) ks664
/-- ColdShod$StrokePlan.addNext(LColdShod$Idea;I)V -/
noncomputable def kE665 : aE := (83, 3, ([kvB 0 3, kvB 85 341], [(57, 84, .inl (0, .ofNat 0)), (52, 6, .inl (1, .ofNat 0))], 0, [kvR 52, some (.inr [20, 21, 22, 23, 24, 25, 26, 27]), kvN 84, none, none], []), ([], none), ([], [], none, ([], [])), kvW74)
noncomputable def kC665_0 : aC := (([kvB 0 3, kvB 85 341, kvB 0 4, kvB 85 341], [(57, 84, .inl (0, .ofNat 0)), (52, 6, .inl (3, .ofNat 0))], 2, [kvR 52, some (.inr [20, 21, 22, 23, 24, 25, 26, 27]), kvN 84, kvI 2, none], []), ([], []), (4, [(-1, 2)]))
theorem ks665 : aseg kS krf kB [kE562, kE567, kE568, kE569] (ksp []) kE665 [kC665_0] 30000 (none) = true := asgqk (by decide +kernel)
theorem ks665_0 : aseg kS krf kB [kE562, kE567, kE568, kE569] (ksp []) kE665 [kC665_0] 30000 (some kC665_0) = true := asgqk (by decide +kernel)
theorem kok665 : aOK kS krf kB kE665 := aOK_of (kal1 kok562 (kal1 kok567 (kal1 kok568 (kal1 kok569 kal0)))) (kcl1 ks665_0 kcl0) ks665
/-- ColdShod$StrokePlan.addNext(LColdShod$Idea;I)V -/
noncomputable def kE666 : aE := (83, 3, ([kvB 0 3, kvB 84 341], [(57, 83, .inl (0, .ofNat 0)), (52, 6, .inl (1, .ofNat 0))], 0, [kvR 52, some (.inr [20, 21, 22, 23, 24, 25, 26, 27]), kvN 83, none, none], []), ([], none), ([], [], none, ([], [])), kvW74)
noncomputable def kC666_0 : aC := (([kvB 0 3, kvB 84 341, kvB 0 4, kvB 84 341], [(57, 83, .inl (0, .ofNat 0)), (52, 6, .inl (3, .ofNat 0))], 2, [kvR 52, some (.inr [20, 21, 22, 23, 24, 25, 26, 27]), kvN 83, kvI 2, none], []), ([], []), (4, [(-1, 2)]))
theorem ks666 : aseg kS krf kB [kE562, kE567, kE568, kE569] (ksp []) kE666 [kC666_0] 30000 (none) = true := asgqk (by decide +kernel)
theorem ks666_0 : aseg kS krf kB [kE562, kE567, kE568, kE569] (ksp []) kE666 [kC666_0] 30000 (some kC666_0) = true := asgqk (by decide +kernel)
theorem kok666 : aOK kS krf kB kE666 := aOK_of (kal1 kok562 (kal1 kok567 (kal1 kok568 (kal1 kok569 kal0)))) (kcl1 ks666_0 kcl0) ks666
/-- ColdShod$StrokePlan.addNext(LColdShod$Idea;I)V -/
noncomputable def kE667 : aE := (83, 3, ([kvB 0 3, kvB 83 341], [(57, 82, .inl (0, .ofNat 0)), (52, 6, .inl (1, .ofNat 0))], 0, [kvR 52, some (.inr [20, 21, 22, 23, 24, 25, 26, 27]), kvN 82, none, none], []), ([], none), ([], [], none, ([], [])), kvW74)
noncomputable def kC667_0 : aC := (([kvB 0 3, kvB 83 341, kvB 0 4, kvB 83 341], [(57, 82, .inl (0, .ofNat 0)), (52, 6, .inl (3, .ofNat 0))], 2, [kvR 52, some (.inr [20, 21, 22, 23, 24, 25, 26, 27]), kvN 82, kvI 2, none], []), ([], []), (4, [(-1, 2)]))
theorem ks667 : aseg kS krf kB [kE562, kE567, kE568, kE569] (ksp []) kE667 [kC667_0] 30000 (none) = true := asgqk (by decide +kernel)
theorem ks667_0 : aseg kS krf kB [kE562, kE567, kE568, kE569] (ksp []) kE667 [kC667_0] 30000 (some kC667_0) = true := asgqk (by decide +kernel)
theorem kok667 : aOK kS krf kB kE667 := aOK_of (kal1 kok562 (kal1 kok567 (kal1 kok568 (kal1 kok569 kal0)))) (kcl1 ks667_0 kcl0) ks667
/-- ColdShod$StrokePlan.addNext(LColdShod$Idea;I)V -/
noncomputable def kE668 : aE := (83, 3, ([kvB 0 3, kvB 82 341], [(57, 81, .inl (0, .ofNat 0)), (52, 6, .inl (1, .ofNat 0))], 0, [kvR 52, some (.inr [20, 21, 22, 23, 24, 25, 26, 27]), kvN 81, none, none], []), ([], none), ([], [], none, ([], [])), kvW74)
noncomputable def kC668_0 : aC := (([kvB 0 3, kvB 82 341, kvB 0 4, kvB 82 341], [(57, 81, .inl (0, .ofNat 0)), (52, 6, .inl (3, .ofNat 0))], 2, [kvR 52, some (.inr [20, 21, 22, 23, 24, 25, 26, 27]), kvN 81, kvI 2, none], []), ([], []), (4, [(-1, 2)]))
theorem ks668 : aseg kS krf kB [kE562, kE567, kE568, kE569] (ksp []) kE668 [kC668_0] 30000 (none) = true := asgqk (by decide +kernel)
theorem ks668_0 : aseg kS krf kB [kE562, kE567, kE568, kE569] (ksp []) kE668 [kC668_0] 30000 (some kC668_0) = true := asgqk (by decide +kernel)
theorem kok668 : aOK kS krf kB kE668 := aOK_of (kal1 kok562 (kal1 kok567 (kal1 kok568 (kal1 kok569 kal0)))) (kcl1 ks668_0 kcl0) ks668
/-- ColdShod$StrokePlan.addNext(LColdShod$Idea;I)V -/
noncomputable def kE669 : aE := (83, 3, ([kvB 0 3, kvB 81 341], [(57, 80, .inl (0, .ofNat 0)), (52, 6, .inl (1, .ofNat 0))], 0, [kvR 52, some (.inr [20, 21, 22, 23, 24, 25, 26, 27]), kvN 80, none, none], []), ([], none), ([], [], none, ([], [])), kvW74)
noncomputable def kC669_0 : aC := (([kvB 0 3, kvB 81 341, kvB 0 4, kvB 81 341], [(57, 80, .inl (0, .ofNat 0)), (52, 6, .inl (3, .ofNat 0))], 2, [kvR 52, some (.inr [20, 21, 22, 23, 24, 25, 26, 27]), kvN 80, kvI 2, none], []), ([], []), (4, [(-1, 2)]))
theorem ks669 : aseg kS krf kB [kE562, kE567, kE568, kE569] (ksp []) kE669 [kC669_0] 30000 (none) = true := asgqk (by decide +kernel)
theorem ks669_0 : aseg kS krf kB [kE562, kE567, kE568, kE569] (ksp []) kE669 [kC669_0] 30000 (some kC669_0) = true := asgqk (by decide +kernel)
theorem kok669 : aOK kS krf kB kE669 := aOK_of (kal1 kok562 (kal1 kok567 (kal1 kok568 (kal1 kok569 kal0)))) (kcl1 ks669_0 kcl0) ks669
/-- ColdShod$StrokePlan.addNext(LColdShod$Idea;I)V -/
noncomputable def kE670 : aE := (83, 3, ([kvB 0 3, kvB 120 341], [(57, 119, .inl (0, .ofNat 0)), (52, 6, .inl (1, .ofNat 0))], 0, [kvR 52, some (.inr [20, 21, 22, 23, 24, 25, 26, 27]), kvN 119, none, none], []), ([], none), ([], [], none, ([], [])), kvW74)
noncomputable def kC670_0 : aC := (([kvB 0 3, kvB 120 341, kvB 0 4, kvB 120 341], [(57, 119, .inl (0, .ofNat 0)), (52, 6, .inl (3, .ofNat 0))], 2, [kvR 52, some (.inr [20, 21, 22, 23, 24, 25, 26, 27]), kvN 119, kvI 2, none], []), ([], []), (4, [(-1, 2)]))
theorem ks670 : aseg kS krf kB [kE562, kE567, kE568, kE569] (ksp []) kE670 [kC670_0] 30000 (none) = true := asgqk (by decide +kernel)
theorem ks670_0 : aseg kS krf kB [kE562, kE567, kE568, kE569] (ksp []) kE670 [kC670_0] 30000 (some kC670_0) = true := asgqk (by decide +kernel)
theorem kok670 : aOK kS krf kB kE670 := aOK_of (kal1 kok562 (kal1 kok567 (kal1 kok568 (kal1 kok569 kal0)))) (kcl1 ks670_0 kcl0) ks670
/-- ColdShod$StrokePlan.addNext(LColdShod$Idea;I)V -/
noncomputable def kE671 : aE := (83, 3, ([kvB 0 3, kvB 119 341], [(57, 118, .inl (0, .ofNat 0)), (52, 6, .inl (1, .ofNat 0))], 0, [kvR 52, some (.inr [20, 21, 22, 23, 24, 25, 26, 27]), kvN 118, none, none], []), ([], none), ([], [], none, ([], [])), kvW74)
noncomputable def kC671_0 : aC := (([kvB 0 3, kvB 119 341, kvB 0 4, kvB 119 341], [(57, 118, .inl (0, .ofNat 0)), (52, 6, .inl (3, .ofNat 0))], 2, [kvR 52, some (.inr [20, 21, 22, 23, 24, 25, 26, 27]), kvN 118, kvI 2, none], []), ([], []), (4, [(-1, 2)]))
theorem ks671 : aseg kS krf kB [kE562, kE567, kE568, kE569] (ksp []) kE671 [kC671_0] 30000 (none) = true := asgqk (by decide +kernel)
theorem ks671_0 : aseg kS krf kB [kE562, kE567, kE568, kE569] (ksp []) kE671 [kC671_0] 30000 (some kC671_0) = true := asgqk (by decide +kernel)
theorem kok671 : aOK kS krf kB kE671 := aOK_of (kal1 kok562 (kal1 kok567 (kal1 kok568 (kal1 kok569 kal0)))) (kcl1 ks671_0 kcl0) ks671
/-- ColdShod$StrokePlan.addNext(LColdShod$Idea;I)V -/
noncomputable def kE672 : aE := (83, 3, ([kvB 0 3, kvB 118 341], [(57, 117, .inl (0, .ofNat 0)), (52, 6, .inl (1, .ofNat 0))], 0, [kvR 52, some (.inr [20, 21, 22, 23, 24, 25, 26, 27]), kvN 117, none, none], []), ([], none), ([], [], none, ([], [])), kvW74)
noncomputable def kC672_0 : aC := (([kvB 0 3, kvB 118 341, kvB 0 4, kvB 118 341], [(57, 117, .inl (0, .ofNat 0)), (52, 6, .inl (3, .ofNat 0))], 2, [kvR 52, some (.inr [20, 21, 22, 23, 24, 25, 26, 27]), kvN 117, kvI 2, none], []), ([], []), (4, [(-1, 2)]))
theorem ks672 : aseg kS krf kB [kE562, kE567, kE568, kE569] (ksp []) kE672 [kC672_0] 30000 (none) = true := asgqk (by decide +kernel)
theorem ks672_0 : aseg kS krf kB [kE562, kE567, kE568, kE569] (ksp []) kE672 [kC672_0] 30000 (some kC672_0) = true := asgqk (by decide +kernel)
theorem kok672 : aOK kS krf kB kE672 := aOK_of (kal1 kok562 (kal1 kok567 (kal1 kok568 (kal1 kok569 kal0)))) (kcl1 ks672_0 kcl0) ks672
/-- ColdShod$StrokePlan.addNext(LColdShod$Idea;I)V -/
noncomputable def kE673 : aE := (83, 3, ([kvB 0 3, kvB 117 341], [(57, 116, .inl (0, .ofNat 0)), (52, 6, .inl (1, .ofNat 0))], 0, [kvR 52, some (.inr [20, 21, 22, 23, 24, 25, 26, 27]), kvN 116, none, none], []), ([], none), ([], [], none, ([], [])), kvW74)
noncomputable def kC673_0 : aC := (([kvB 0 3, kvB 117 341, kvB 0 4, kvB 117 341], [(57, 116, .inl (0, .ofNat 0)), (52, 6, .inl (3, .ofNat 0))], 2, [kvR 52, some (.inr [20, 21, 22, 23, 24, 25, 26, 27]), kvN 116, kvI 2, none], []), ([], []), (4, [(-1, 2)]))
theorem ks673 : aseg kS krf kB [kE562, kE567, kE568, kE569] (ksp []) kE673 [kC673_0] 30000 (none) = true := asgqk (by decide +kernel)
theorem ks673_0 : aseg kS krf kB [kE562, kE567, kE568, kE569] (ksp []) kE673 [kC673_0] 30000 (some kC673_0) = true := asgqk (by decide +kernel)
theorem kok673 : aOK kS krf kB kE673 := aOK_of (kal1 kok562 (kal1 kok567 (kal1 kok568 (kal1 kok569 kal0)))) (kcl1 ks673_0 kcl0) ks673
/-- ColdShod$StrokePlan.addNext(LColdShod$Idea;I)V -/
noncomputable def kE674 : aE := (83, 3, ([kvB 0 3, kvB 116 341], [(57, 115, .inl (0, .ofNat 0)), (52, 6, .inl (1, .ofNat 0))], 0, [kvR 52, some (.inr [20, 21, 22, 23, 24, 25, 26, 27]), kvN 115, none, none], []), ([], none), ([], [], none, ([], [])), kvW74)
noncomputable def kC674_0 : aC := (([kvB 0 3, kvB 116 341, kvB 0 4, kvB 116 341], [(57, 115, .inl (0, .ofNat 0)), (52, 6, .inl (3, .ofNat 0))], 2, [kvR 52, some (.inr [20, 21, 22, 23, 24, 25, 26, 27]), kvN 115, kvI 2, none], []), ([], []), (4, [(-1, 2)]))
theorem ks674 : aseg kS krf kB [kE562, kE567, kE568, kE569] (ksp []) kE674 [kC674_0] 30000 (none) = true := asgqk (by decide +kernel)
theorem ks674_0 : aseg kS krf kB [kE562, kE567, kE568, kE569] (ksp []) kE674 [kC674_0] 30000 (some kC674_0) = true := asgqk (by decide +kernel)
theorem kok674 : aOK kS krf kB kE674 := aOK_of (kal1 kok562 (kal1 kok567 (kal1 kok568 (kal1 kok569 kal0)))) (kcl1 ks674_0 kcl0) ks674
/-- ColdShod$StrokePlan.addNext(LColdShod$Idea;I)V -/
noncomputable def kE675 : aE := (83, 3, ([kvB 0 3, kvB 115 341], [(57, 114, .inl (0, .ofNat 0)), (52, 6, .inl (1, .ofNat 0))], 0, [kvR 52, some (.inr [20, 21, 22, 23, 24, 25, 26, 27]), kvN 114, none, none], []), ([], none), ([], [], none, ([], [])), kvW74)
noncomputable def kC675_0 : aC := (([kvB 0 3, kvB 115 341, kvB 0 4, kvB 115 341], [(57, 114, .inl (0, .ofNat 0)), (52, 6, .inl (3, .ofNat 0))], 2, [kvR 52, some (.inr [20, 21, 22, 23, 24, 25, 26, 27]), kvN 114, kvI 2, none], []), ([], []), (4, [(-1, 2)]))
theorem ks675 : aseg kS krf kB [kE562, kE567, kE568, kE569] (ksp []) kE675 [kC675_0] 30000 (none) = true := asgqk (by decide +kernel)
theorem ks675_0 : aseg kS krf kB [kE562, kE567, kE568, kE569] (ksp []) kE675 [kC675_0] 30000 (some kC675_0) = true := asgqk (by decide +kernel)
theorem kok675 : aOK kS krf kB kE675 := aOK_of (kal1 kok562 (kal1 kok567 (kal1 kok568 (kal1 kok569 kal0)))) (kcl1 ks675_0 kcl0) ks675
/-- ColdShod$StrokePlan.addNext(LColdShod$Idea;I)V -/
noncomputable def kE676 : aE := (83, 3, ([kvB 0 3, kvB 114 341], [(57, 113, .inl (0, .ofNat 0)), (52, 6, .inl (1, .ofNat 0))], 0, [kvR 52, some (.inr [20, 21, 22, 23, 24, 25, 26, 27]), kvN 113, none, none], []), ([], none), ([], [], none, ([], [])), kvW74)
noncomputable def kC676_0 : aC := (([kvB 0 3, kvB 114 341, kvB 0 4, kvB 114 341], [(57, 113, .inl (0, .ofNat 0)), (52, 6, .inl (3, .ofNat 0))], 2, [kvR 52, some (.inr [20, 21, 22, 23, 24, 25, 26, 27]), kvN 113, kvI 2, none], []), ([], []), (4, [(-1, 2)]))
theorem ks676 : aseg kS krf kB [kE562, kE567, kE568, kE569] (ksp []) kE676 [kC676_0] 30000 (none) = true := asgqk (by decide +kernel)
theorem ks676_0 : aseg kS krf kB [kE562, kE567, kE568, kE569] (ksp []) kE676 [kC676_0] 30000 (some kC676_0) = true := asgqk (by decide +kernel)
theorem kok676 : aOK kS krf kB kE676 := aOK_of (kal1 kok562 (kal1 kok567 (kal1 kok568 (kal1 kok569 kal0)))) (kcl1 ks676_0 kcl0) ks676
/-- ColdShod$StrokePlan.addNext(LColdShod$Idea;I)V -/
noncomputable def kE677 : aE := (83, 3, ([kvB 0 3, kvB 113 341], [(57, 112, .inl (0, .ofNat 0)), (52, 6, .inl (1, .ofNat 0))], 0, [kvR 52, some (.inr [20, 21, 22, 23, 24, 25, 26, 27]), kvN 112, none, none], []), ([], none), ([], [], none, ([], [])), kvW74)
noncomputable def kC677_0 : aC := (([kvB 0 3, kvB 113 341, kvB 0 4, kvB 113 341], [(57, 112, .inl (0, .ofNat 0)), (52, 6, .inl (3, .ofNat 0))], 2, [kvR 52, some (.inr [20, 21, 22, 23, 24, 25, 26, 27]), kvN 112, kvI 2, none], []), ([], []), (4, [(-1, 2)]))
theorem ks677 : aseg kS krf kB [kE562, kE567, kE568, kE569] (ksp []) kE677 [kC677_0] 30000 (none) = true := asgqk (by decide +kernel)
theorem ks677_0 : aseg kS krf kB [kE562, kE567, kE568, kE569] (ksp []) kE677 [kC677_0] 30000 (some kC677_0) = true := asgqk (by decide +kernel)
theorem kok677 : aOK kS krf kB kE677 := aOK_of (kal1 kok562 (kal1 kok567 (kal1 kok568 (kal1 kok569 kal0)))) (kcl1 ks677_0 kcl0) ks677
/-- ColdShod$StrokePlan.addNext(LColdShod$Idea;I)V -/
noncomputable def kE678 : aE := (83, 3, ([kvB 0 3, kvB 112 341], [(57, 111, .inl (0, .ofNat 0)), (52, 6, .inl (1, .ofNat 0))], 0, [kvR 52, some (.inr [20, 21, 22, 23, 24, 25, 26, 27]), kvN 111, none, none], []), ([], none), ([], [], none, ([], [])), kvW74)
noncomputable def kC678_0 : aC := (([kvB 0 3, kvB 112 341, kvB 0 4, kvB 112 341], [(57, 111, .inl (0, .ofNat 0)), (52, 6, .inl (3, .ofNat 0))], 2, [kvR 52, some (.inr [20, 21, 22, 23, 24, 25, 26, 27]), kvN 111, kvI 2, none], []), ([], []), (4, [(-1, 2)]))
theorem ks678 : aseg kS krf kB [kE562, kE567, kE568, kE569] (ksp []) kE678 [kC678_0] 30000 (none) = true := asgqk (by decide +kernel)
theorem ks678_0 : aseg kS krf kB [kE562, kE567, kE568, kE569] (ksp []) kE678 [kC678_0] 30000 (some kC678_0) = true := asgqk (by decide +kernel)
theorem kok678 : aOK kS krf kB kE678 := aOK_of (kal1 kok562 (kal1 kok567 (kal1 kok568 (kal1 kok569 kal0)))) (kcl1 ks678_0 kcl0) ks678
/-- ColdShod$StrokePlan.addNext(LColdShod$Idea;I)V -/
noncomputable def kE679 : aE := (83, 3, ([kvB 0 3, kvB 111 341], [(57, 110, .inl (0, .ofNat 0)), (52, 6, .inl (1, .ofNat 0))], 0, [kvR 52, some (.inr [20, 21, 22, 23, 24, 25, 26, 27]), kvN 110, none, none], []), ([], none), ([], [], none, ([], [])), kvW74)
noncomputable def kC679_0 : aC := (([kvB 0 3, kvB 111 341, kvB 0 4, kvB 111 341], [(57, 110, .inl (0, .ofNat 0)), (52, 6, .inl (3, .ofNat 0))], 2, [kvR 52, some (.inr [20, 21, 22, 23, 24, 25, 26, 27]), kvN 110, kvI 2, none], []), ([], []), (4, [(-1, 2)]))
theorem ks679 : aseg kS krf kB [kE562, kE567, kE568, kE569] (ksp []) kE679 [kC679_0] 30000 (none) = true := asgqk (by decide +kernel)
theorem ks679_0 : aseg kS krf kB [kE562, kE567, kE568, kE569] (ksp []) kE679 [kC679_0] 30000 (some kC679_0) = true := asgqk (by decide +kernel)
theorem kok679 : aOK kS krf kB kE679 := aOK_of (kal1 kok562 (kal1 kok567 (kal1 kok568 (kal1 kok569 kal0)))) (kcl1 ks679_0 kcl0) ks679
/-! ENTRIES and their checks: printed by a program (wip/ai). -/
/-- ColdShod$StrokePlan.addNext(LColdShod$Idea;I)V -/
noncomputable def kE680 : aE := (83, 3, ([kvB 0 3, kvB 110 341], [(57, 109, .inl (0, .ofNat 0)), (52, 6, .inl (1, .ofNat 0))], 0, [kvR 52, some (.inr [20, 21, 22, 23, 24, 25, 26, 27]), kvN 109, none, none], []), ([], none), ([], [], none, ([], [])), kvW74)
noncomputable def kC680_0 : aC := (([kvB 0 3, kvB 110 341, kvB 0 4, kvB 110 341], [(57, 109, .inl (0, .ofNat 0)), (52, 6, .inl (3, .ofNat 0))], 2, [kvR 52, some (.inr [20, 21, 22, 23, 24, 25, 26, 27]), kvN 109, kvI 2, none], []), ([], []), (4, [(-1, 2)]))
theorem ks680 : aseg kS krf kB [kE562, kE567, kE568, kE569] (ksp []) kE680 [kC680_0] 30000 (none) = true := asgqk (by decide +kernel)
theorem ks680_0 : aseg kS krf kB [kE562, kE567, kE568, kE569] (ksp []) kE680 [kC680_0] 30000 (some kC680_0) = true := asgqk (by decide +kernel)
theorem kok680 : aOK kS krf kB kE680 := aOK_of (kal1 kok562 (kal1 kok567 (kal1 kok568 (kal1 kok569 kal0)))) (kcl1 ks680_0 kcl0) ks680
/-- ColdShod$StrokePlan.addNext(LColdShod$Idea;I)V -/
noncomputable def kE681 : aE := (83, 3, ([kvB 0 3, kvB 109 341], [(57, 108, .inl (0, .ofNat 0)), (52, 6, .inl (1, .ofNat 0))], 0, [kvR 52, some (.inr [20, 21, 22, 23, 24, 25, 26, 27]), kvN 108, none, none], []), ([], none), ([], [], none, ([], [])), kvW74)
noncomputable def kC681_0 : aC := (([kvB 0 3, kvB 109 341, kvB 0 4, kvB 109 341], [(57, 108, .inl (0, .ofNat 0)), (52, 6, .inl (3, .ofNat 0))], 2, [kvR 52, some (.inr [20, 21, 22, 23, 24, 25, 26, 27]), kvN 108, kvI 2, none], []), ([], []), (4, [(-1, 2)]))
theorem ks681 : aseg kS krf kB [kE562, kE567, kE568, kE569] (ksp []) kE681 [kC681_0] 30000 (none) = true := asgqk (by decide +kernel)
theorem ks681_0 : aseg kS krf kB [kE562, kE567, kE568, kE569] (ksp []) kE681 [kC681_0] 30000 (some kC681_0) = true := asgqk (by decide +kernel)
theorem kok681 : aOK kS krf kB kE681 := aOK_of (kal1 kok562 (kal1 kok567 (kal1 kok568 (kal1 kok569 kal0)))) (kcl1 ks681_0 kcl0) ks681
/-- ColdShod$StrokePlan.addNext(LColdShod$Idea;I)V -/
noncomputable def kE682 : aE := (83, 3, ([kvB 0 3, kvB 108 341], [(57, 107, .inl (0, .ofNat 0)), (52, 6, .inl (1, .ofNat 0))], 0, [kvR 52, some (.inr [20, 21, 22, 23, 24, 25, 26, 27]), kvN 107, none, none], []), ([], none), ([], [], none, ([], [])), kvW74)
noncomputable def kC682_0 : aC := (([kvB 0 3, kvB 108 341, kvB 0 4, kvB 108 341], [(57, 107, .inl (0, .ofNat 0)), (52, 6, .inl (3, .ofNat 0))], 2, [kvR 52, some (.inr [20, 21, 22, 23, 24, 25, 26, 27]), kvN 107, kvI 2, none], []), ([], []), (4, [(-1, 2)]))
theorem ks682 : aseg kS krf kB [kE562, kE567, kE568, kE569] (ksp []) kE682 [kC682_0] 30000 (none) = true := asgqk (by decide +kernel)
theorem ks682_0 : aseg kS krf kB [kE562, kE567, kE568, kE569] (ksp []) kE682 [kC682_0] 30000 (some kC682_0) = true := asgqk (by decide +kernel)
theorem kok682 : aOK kS krf kB kE682 := aOK_of (kal1 kok562 (kal1 kok567 (kal1 kok568 (kal1 kok569 kal0)))) (kcl1 ks682_0 kcl0) ks682
/-- ColdShod$StrokePlan.addNext(LColdShod$Idea;I)V -/
noncomputable def kE683 : aE := (83, 3, ([kvB 0 3, kvB 107 341], [(57, 106, .inl (0, .ofNat 0)), (52, 6, .inl (1, .ofNat 0))], 0, [kvR 52, some (.inr [20, 21, 22, 23, 24, 25, 26, 27]), kvN 106, none, none], []), ([], none), ([], [], none, ([], [])), kvW74)
noncomputable def kC683_0 : aC := (([kvB 0 3, kvB 107 341, kvB 0 4, kvB 107 341], [(57, 106, .inl (0, .ofNat 0)), (52, 6, .inl (3, .ofNat 0))], 2, [kvR 52, some (.inr [20, 21, 22, 23, 24, 25, 26, 27]), kvN 106, kvI 2, none], []), ([], []), (4, [(-1, 2)]))
theorem ks683 : aseg kS krf kB [kE562, kE567, kE568, kE569] (ksp []) kE683 [kC683_0] 30000 (none) = true := asgqk (by decide +kernel)
theorem ks683_0 : aseg kS krf kB [kE562, kE567, kE568, kE569] (ksp []) kE683 [kC683_0] 30000 (some kC683_0) = true := asgqk (by decide +kernel)
theorem kok683 : aOK kS krf kB kE683 := aOK_of (kal1 kok562 (kal1 kok567 (kal1 kok568 (kal1 kok569 kal0)))) (kcl1 ks683_0 kcl0) ks683
/-- ColdShod$StrokePlan.addNext(LColdShod$Idea;I)V -/
noncomputable def kE684 : aE := (83, 3, ([kvB 0 3, kvB 106 341], [(57, 105, .inl (0, .ofNat 0)), (52, 6, .inl (1, .ofNat 0))], 0, [kvR 52, some (.inr [20, 21, 22, 23, 24, 25, 26, 27]), kvN 105, none, none], []), ([], none), ([], [], none, ([], [])), kvW74)
noncomputable def kC684_0 : aC := (([kvB 0 3, kvB 106 341, kvB 0 4, kvB 106 341], [(57, 105, .inl (0, .ofNat 0)), (52, 6, .inl (3, .ofNat 0))], 2, [kvR 52, some (.inr [20, 21, 22, 23, 24, 25, 26, 27]), kvN 105, kvI 2, none], []), ([], []), (4, [(-1, 2)]))
theorem ks684 : aseg kS krf kB [kE562, kE567, kE568, kE569] (ksp []) kE684 [kC684_0] 30000 (none) = true := asgqk (by decide +kernel)
theorem ks684_0 : aseg kS krf kB [kE562, kE567, kE568, kE569] (ksp []) kE684 [kC684_0] 30000 (some kC684_0) = true := asgqk (by decide +kernel)
theorem kok684 : aOK kS krf kB kE684 := aOK_of (kal1 kok562 (kal1 kok567 (kal1 kok568 (kal1 kok569 kal0)))) (kcl1 ks684_0 kcl0) ks684
/-- ColdShod$StrokePlan.addNext(LColdShod$Idea;I)V -/
noncomputable def kE685 : aE := (83, 3, ([kvB 0 3, kvB 105 341], [(57, 104, .inl (0, .ofNat 0)), (52, 6, .inl (1, .ofNat 0))], 0, [kvR 52, some (.inr [20, 21, 22, 23, 24, 25, 26, 27]), kvN 104, none, none], []), ([], none), ([], [], none, ([], [])), kvW74)
noncomputable def kC685_0 : aC := (([kvB 0 3, kvB 105 341, kvB 0 4, kvB 105 341], [(57, 104, .inl (0, .ofNat 0)), (52, 6, .inl (3, .ofNat 0))], 2, [kvR 52, some (.inr [20, 21, 22, 23, 24, 25, 26, 27]), kvN 104, kvI 2, none], []), ([], []), (4, [(-1, 2)]))
theorem ks685 : aseg kS krf kB [kE562, kE567, kE568, kE569] (ksp []) kE685 [kC685_0] 30000 (none) = true := asgqk (by decide +kernel)
theorem ks685_0 : aseg kS krf kB [kE562, kE567, kE568, kE569] (ksp []) kE685 [kC685_0] 30000 (some kC685_0) = true := asgqk (by decide +kernel)
theorem kok685 : aOK kS krf kB kE685 := aOK_of (kal1 kok562 (kal1 kok567 (kal1 kok568 (kal1 kok569 kal0)))) (kcl1 ks685_0 kcl0) ks685
/-- ColdShod$StrokePlan.addNext(LColdShod$Idea;I)V -/
noncomputable def kE686 : aE := (83, 3, ([kvB 0 3, kvB 104 341], [(57, 103, .inl (0, .ofNat 0)), (52, 6, .inl (1, .ofNat 0))], 0, [kvR 52, some (.inr [20, 21, 22, 23, 24, 25, 26, 27]), kvN 103, none, none], []), ([], none), ([], [], none, ([], [])), kvW74)
noncomputable def kC686_0 : aC := (([kvB 0 3, kvB 104 341, kvB 0 4, kvB 104 341], [(57, 103, .inl (0, .ofNat 0)), (52, 6, .inl (3, .ofNat 0))], 2, [kvR 52, some (.inr [20, 21, 22, 23, 24, 25, 26, 27]), kvN 103, kvI 2, none], []), ([], []), (4, [(-1, 2)]))
theorem ks686 : aseg kS krf kB [kE562, kE567, kE568, kE569] (ksp []) kE686 [kC686_0] 30000 (none) = true := asgqk (by decide +kernel)
theorem ks686_0 : aseg kS krf kB [kE562, kE567, kE568, kE569] (ksp []) kE686 [kC686_0] 30000 (some kC686_0) = true := asgqk (by decide +kernel)
theorem kok686 : aOK kS krf kB kE686 := aOK_of (kal1 kok562 (kal1 kok567 (kal1 kok568 (kal1 kok569 kal0)))) (kcl1 ks686_0 kcl0) ks686
/-- ColdShod$StrokePlan.addNext(LColdShod$Idea;I)V -/
noncomputable def kE687 : aE := (83, 3, ([kvB 0 3, kvB 103 341], [(57, 102, .inl (0, .ofNat 0)), (52, 6, .inl (1, .ofNat 0))], 0, [kvR 52, some (.inr [20, 21, 22, 23, 24, 25, 26, 27]), kvN 102, none, none], []), ([], none), ([], [], none, ([], [])), kvW74)
noncomputable def kC687_0 : aC := (([kvB 0 3, kvB 103 341, kvB 0 4, kvB 103 341], [(57, 102, .inl (0, .ofNat 0)), (52, 6, .inl (3, .ofNat 0))], 2, [kvR 52, some (.inr [20, 21, 22, 23, 24, 25, 26, 27]), kvN 102, kvI 2, none], []), ([], []), (4, [(-1, 2)]))
theorem ks687 : aseg kS krf kB [kE562, kE567, kE568, kE569] (ksp []) kE687 [kC687_0] 30000 (none) = true := asgqk (by decide +kernel)
theorem ks687_0 : aseg kS krf kB [kE562, kE567, kE568, kE569] (ksp []) kE687 [kC687_0] 30000 (some kC687_0) = true := asgqk (by decide +kernel)
theorem kok687 : aOK kS krf kB kE687 := aOK_of (kal1 kok562 (kal1 kok567 (kal1 kok568 (kal1 kok569 kal0)))) (kcl1 ks687_0 kcl0) ks687
/-- ColdShod$StrokePlan.addNext(LColdShod$Idea;I)V -/
noncomputable def kE688 : aE := (83, 3, ([kvB 0 3, kvB 102 341], [(57, 101, .inl (0, .ofNat 0)), (52, 6, .inl (1, .ofNat 0))], 0, [kvR 52, some (.inr [20, 21, 22, 23, 24, 25, 26, 27]), kvN 101, none, none], []), ([], none), ([], [], none, ([], [])), kvW74)
noncomputable def kC688_0 : aC := (([kvB 0 3, kvB 102 341, kvB 0 4, kvB 102 341], [(57, 101, .inl (0, .ofNat 0)), (52, 6, .inl (3, .ofNat 0))], 2, [kvR 52, some (.inr [20, 21, 22, 23, 24, 25, 26, 27]), kvN 101, kvI 2, none], []), ([], []), (4, [(-1, 2)]))
theorem ks688 : aseg kS krf kB [kE562, kE567, kE568, kE569] (ksp []) kE688 [kC688_0] 30000 (none) = true := asgqk (by decide +kernel)
theorem ks688_0 : aseg kS krf kB [kE562, kE567, kE568, kE569] (ksp []) kE688 [kC688_0] 30000 (some kC688_0) = true := asgqk (by decide +kernel)
theorem kok688 : aOK kS krf kB kE688 := aOK_of (kal1 kok562 (kal1 kok567 (kal1 kok568 (kal1 kok569 kal0)))) (kcl1 ks688_0 kcl0) ks688
/-- ColdShod$StrokePlan.addNext(LColdShod$Idea;I)V -/
noncomputable def kE689 : aE := (83, 3, ([kvB 0 3, kvB 101 341], [(57, 100, .inl (0, .ofNat 0)), (52, 6, .inl (1, .ofNat 0))], 0, [kvR 52, some (.inr [20, 21, 22, 23, 24, 25, 26, 27]), kvN 100, none, none], []), ([], none), ([], [], none, ([], [])), kvW74)
noncomputable def kC689_0 : aC := (([kvB 0 3, kvB 101 341, kvB 0 4, kvB 101 341], [(57, 100, .inl (0, .ofNat 0)), (52, 6, .inl (3, .ofNat 0))], 2, [kvR 52, some (.inr [20, 21, 22, 23, 24, 25, 26, 27]), kvN 100, kvI 2, none], []), ([], []), (4, [(-1, 2)]))
theorem ks689 : aseg kS krf kB [kE562, kE567, kE568, kE569] (ksp []) kE689 [kC689_0] 30000 (none) = true := asgqk (by decide +kernel)
theorem ks689_0 : aseg kS krf kB [kE562, kE567, kE568, kE569] (ksp []) kE689 [kC689_0] 30000 (some kC689_0) = true := asgqk (by decide +kernel)
theorem kok689 : aOK kS krf kB kE689 := aOK_of (kal1 kok562 (kal1 kok567 (kal1 kok568 (kal1 kok569 kal0)))) (kcl1 ks689_0 kcl0) ks689
/-- ColdShod$StrokePlan.addNext(LColdShod$Idea;I)V -/
noncomputable def kE690 : aE := (83, 3, ([kvB 0 3, kvB 341 341], [(57, 340, .inl (0, .ofNat 0)), (52, 6, .inl (1, .ofNat 0))], 0, [kvR 52, some (.inr [20, 21, 22, 23, 24, 25, 26, 27]), kvN 340, none, none], []), ([], none), ([], [], none, ([], [])), kvW69)
noncomputable def kC690_0 : aC := (([kvB 0 3, kvB 341 341, kvB 0 4], [(57, 340, .inl (0, .ofNat 0)), (52, 6, .inl (1, .ofNat 0))], 2, [kvR 52, some (.inr [20, 21, 22, 23, 24, 25, 26, 27]), kvN 340, kvI 2, none], []), ([], []), (4, [(-1, 2)]))
theorem ks690 : aseg kS krf kB [kE562, kE567, kE568, kE569] (ksp []) kE690 [kC690_0] 30000 (none) = true := asgqk (by decide +kernel)
theorem ks690_0 : aseg kS krf kB [kE562, kE567, kE568, kE569] (ksp []) kE690 [kC690_0] 30000 (some kC690_0) = true := asgqk (by decide +kernel)
theorem kok690 : aOK kS krf kB kE690 := aOK_of (kal1 kok562 (kal1 kok567 (kal1 kok568 (kal1 kok569 kal0)))) (kcl1 ks690_0 kcl0) ks690
/-- ColdShod$StrokePlan.addNext(LColdShod$Idea;I)V -/
noncomputable def kE691 : aE := (83, 3, ([kvB 0 3, kvB 340 341], [(57, 339, .inl (0, .ofNat 0)), (52, 6, .inl (1, .ofNat 0))], 0, [kvR 52, some (.inr [20, 21, 22, 23, 24, 25, 26, 27]), kvN 339, none, none], []), ([], none), ([], [], none, ([], [])), kvW75)
noncomputable def kC691_0 : aC := (([kvB 0 3, kvB 340 341, kvB 0 4, kvB 340 341], [(57, 339, .inl (0, .ofNat 0)), (52, 6, .inl (3, .ofNat 0))], 2, [kvR 52, some (.inr [20, 21, 22, 23, 24, 25, 26, 27]), kvN 339, kvI 2, none], []), ([], []), (4, [(-1, 2)]))
theorem ks691 : aseg kS krf kB [kE562, kE567, kE568, kE569] (ksp []) kE691 [kC691_0] 30000 (none) = true := asgqk (by decide +kernel)
theorem ks691_0 : aseg kS krf kB [kE562, kE567, kE568, kE569] (ksp []) kE691 [kC691_0] 30000 (some kC691_0) = true := asgqk (by decide +kernel)
theorem kok691 : aOK kS krf kB kE691 := aOK_of (kal1 kok562 (kal1 kok567 (kal1 kok568 (kal1 kok569 kal0)))) (kcl1 ks691_0 kcl0) ks691
/-- ColdShod$StrokePlan.addNext(LColdShod$Idea;I)V -/
noncomputable def kE692 : aE := (83, 3, ([kvB 0 3, kvB 339 341], [(57, 338, .inl (0, .ofNat 0)), (52, 6, .inl (1, .ofNat 0))], 0, [kvR 52, some (.inr [20, 21, 22, 23, 24, 25, 26, 27]), kvN 338, none, none], []), ([], none), ([], [], none, ([], [])), kvW74)
noncomputable def kC692_0 : aC := (([kvB 0 3, kvB 339 341, kvB 0 4, kvB 339 341], [(57, 338, .inl (0, .ofNat 0)), (52, 6, .inl (3, .ofNat 0))], 2, [kvR 52, some (.inr [20, 21, 22, 23, 24, 25, 26, 27]), kvN 338, kvI 2, none], []), ([], []), (4, [(-1, 2)]))
theorem ks692 : aseg kS krf kB [kE562, kE567, kE568, kE569] (ksp []) kE692 [kC692_0] 30000 (none) = true := asgqk (by decide +kernel)
theorem ks692_0 : aseg kS krf kB [kE562, kE567, kE568, kE569] (ksp []) kE692 [kC692_0] 30000 (some kC692_0) = true := asgqk (by decide +kernel)
theorem kok692 : aOK kS krf kB kE692 := aOK_of (kal1 kok562 (kal1 kok567 (kal1 kok568 (kal1 kok569 kal0)))) (kcl1 ks692_0 kcl0) ks692
/-- ColdShod$StrokePlan.addNext(LColdShod$Idea;I)V -/
noncomputable def kE693 : aE := (83, 3, ([kvB 0 3, kvB 338 341], [(57, 337, .inl (0, .ofNat 0)), (52, 6, .inl (1, .ofNat 0))], 0, [kvR 52, some (.inr [20, 21, 22, 23, 24, 25, 26, 27]), kvN 337, none, none], []), ([], none), ([], [], none, ([], [])), kvW74)
noncomputable def kC693_0 : aC := (([kvB 0 3, kvB 338 341, kvB 0 4, kvB 338 341], [(57, 337, .inl (0, .ofNat 0)), (52, 6, .inl (3, .ofNat 0))], 2, [kvR 52, some (.inr [20, 21, 22, 23, 24, 25, 26, 27]), kvN 337, kvI 2, none], []), ([], []), (4, [(-1, 2)]))
theorem ks693 : aseg kS krf kB [kE562, kE567, kE568, kE569] (ksp []) kE693 [kC693_0] 30000 (none) = true := asgqk (by decide +kernel)
theorem ks693_0 : aseg kS krf kB [kE562, kE567, kE568, kE569] (ksp []) kE693 [kC693_0] 30000 (some kC693_0) = true := asgqk (by decide +kernel)
theorem kok693 : aOK kS krf kB kE693 := aOK_of (kal1 kok562 (kal1 kok567 (kal1 kok568 (kal1 kok569 kal0)))) (kcl1 ks693_0 kcl0) ks693
/-- ColdShod$StrokePlan.addNext(LColdShod$Idea;I)V -/
noncomputable def kE694 : aE := (83, 3, ([kvB 0 3, kvB 337 341], [(57, 336, .inl (0, .ofNat 0)), (52, 6, .inl (1, .ofNat 0))], 0, [kvR 52, some (.inr [20, 21, 22, 23, 24, 25, 26, 27]), kvN 336, none, none], []), ([], none), ([], [], none, ([], [])), kvW74)
noncomputable def kC694_0 : aC := (([kvB 0 3, kvB 337 341, kvB 0 4, kvB 337 341], [(57, 336, .inl (0, .ofNat 0)), (52, 6, .inl (3, .ofNat 0))], 2, [kvR 52, some (.inr [20, 21, 22, 23, 24, 25, 26, 27]), kvN 336, kvI 2, none], []), ([], []), (4, [(-1, 2)]))
theorem ks694 : aseg kS krf kB [kE562, kE567, kE568, kE569] (ksp []) kE694 [kC694_0] 30000 (none) = true := asgqk (by decide +kernel)
theorem ks694_0 : aseg kS krf kB [kE562, kE567, kE568, kE569] (ksp []) kE694 [kC694_0] 30000 (some kC694_0) = true := asgqk (by decide +kernel)
theorem kok694 : aOK kS krf kB kE694 := aOK_of (kal1 kok562 (kal1 kok567 (kal1 kok568 (kal1 kok569 kal0)))) (kcl1 ks694_0 kcl0) ks694
/-- ColdShod$StrokePlan.addNext(LColdShod$Idea;I)V -/
noncomputable def kE695 : aE := (83, 3, ([kvB 0 3, kvB 336 341], [(57, 335, .inl (0, .ofNat 0)), (52, 6, .inl (1, .ofNat 0))], 0, [kvR 52, some (.inr [20, 21, 22, 23, 24, 25, 26, 27]), kvN 335, none, none], []), ([], none), ([], [], none, ([], [])), kvW74)
noncomputable def kC695_0 : aC := (([kvB 0 3, kvB 336 341, kvB 0 4, kvB 336 341], [(57, 335, .inl (0, .ofNat 0)), (52, 6, .inl (3, .ofNat 0))], 2, [kvR 52, some (.inr [20, 21, 22, 23, 24, 25, 26, 27]), kvN 335, kvI 2, none], []), ([], []), (4, [(-1, 2)]))
theorem ks695 : aseg kS krf kB [kE562, kE567, kE568, kE569] (ksp []) kE695 [kC695_0] 30000 (none) = true := asgqk (by decide +kernel)
theorem ks695_0 : aseg kS krf kB [kE562, kE567, kE568, kE569] (ksp []) kE695 [kC695_0] 30000 (some kC695_0) = true := asgqk (by decide +kernel)
theorem kok695 : aOK kS krf kB kE695 := aOK_of (kal1 kok562 (kal1 kok567 (kal1 kok568 (kal1 kok569 kal0)))) (kcl1 ks695_0 kcl0) ks695
/-- ColdShod$StrokePlan.addNext(LColdShod$Idea;I)V -/
noncomputable def kE696 : aE := (83, 3, ([kvB 0 3, kvB 335 341], [(57, 334, .inl (0, .ofNat 0)), (52, 6, .inl (1, .ofNat 0))], 0, [kvR 52, some (.inr [20, 21, 22, 23, 24, 25, 26, 27]), kvN 334, none, none], []), ([], none), ([], [], none, ([], [])), kvW74)
noncomputable def kC696_0 : aC := (([kvB 0 3, kvB 335 341, kvB 0 4, kvB 335 341], [(57, 334, .inl (0, .ofNat 0)), (52, 6, .inl (3, .ofNat 0))], 2, [kvR 52, some (.inr [20, 21, 22, 23, 24, 25, 26, 27]), kvN 334, kvI 2, none], []), ([], []), (4, [(-1, 2)]))
theorem ks696 : aseg kS krf kB [kE562, kE567, kE568, kE569] (ksp []) kE696 [kC696_0] 30000 (none) = true := asgqk (by decide +kernel)
theorem ks696_0 : aseg kS krf kB [kE562, kE567, kE568, kE569] (ksp []) kE696 [kC696_0] 30000 (some kC696_0) = true := asgqk (by decide +kernel)
theorem kok696 : aOK kS krf kB kE696 := aOK_of (kal1 kok562 (kal1 kok567 (kal1 kok568 (kal1 kok569 kal0)))) (kcl1 ks696_0 kcl0) ks696
/-- ColdShod$StrokePlan.addNext(LColdShod$Idea;I)V -/
noncomputable def kE697 : aE := (83, 3, ([kvB 0 3, kvB 334 341], [(57, 333, .inl (0, .ofNat 0)), (52, 6, .inl (1, .ofNat 0))], 0, [kvR 52, some (.inr [20, 21, 22, 23, 24, 25, 26, 27]), kvN 333, none, none], []), ([], none), ([], [], none, ([], [])), kvW74)
noncomputable def kC697_0 : aC := (([kvB 0 3, kvB 334 341, kvB 0 4, kvB 334 341], [(57, 333, .inl (0, .ofNat 0)), (52, 6, .inl (3, .ofNat 0))], 2, [kvR 52, some (.inr [20, 21, 22, 23, 24, 25, 26, 27]), kvN 333, kvI 2, none], []), ([], []), (4, [(-1, 2)]))
theorem ks697 : aseg kS krf kB [kE562, kE567, kE568, kE569] (ksp []) kE697 [kC697_0] 30000 (none) = true := asgqk (by decide +kernel)
theorem ks697_0 : aseg kS krf kB [kE562, kE567, kE568, kE569] (ksp []) kE697 [kC697_0] 30000 (some kC697_0) = true := asgqk (by decide +kernel)
theorem kok697 : aOK kS krf kB kE697 := aOK_of (kal1 kok562 (kal1 kok567 (kal1 kok568 (kal1 kok569 kal0)))) (kcl1 ks697_0 kcl0) ks697
/-- ColdShod$StrokePlan.addNext(LColdShod$Idea;I)V -/
noncomputable def kE698 : aE := (83, 3, ([kvB 0 3, kvB 333 341], [(57, 332, .inl (0, .ofNat 0)), (52, 6, .inl (1, .ofNat 0))], 0, [kvR 52, some (.inr [20, 21, 22, 23, 24, 25, 26, 27]), kvN 332, none, none], []), ([], none), ([], [], none, ([], [])), kvW74)
noncomputable def kC698_0 : aC := (([kvB 0 3, kvB 333 341, kvB 0 4, kvB 333 341], [(57, 332, .inl (0, .ofNat 0)), (52, 6, .inl (3, .ofNat 0))], 2, [kvR 52, some (.inr [20, 21, 22, 23, 24, 25, 26, 27]), kvN 332, kvI 2, none], []), ([], []), (4, [(-1, 2)]))
theorem ks698 : aseg kS krf kB [kE562, kE567, kE568, kE569] (ksp []) kE698 [kC698_0] 30000 (none) = true := asgqk (by decide +kernel)
theorem ks698_0 : aseg kS krf kB [kE562, kE567, kE568, kE569] (ksp []) kE698 [kC698_0] 30000 (some kC698_0) = true := asgqk (by decide +kernel)
theorem kok698 : aOK kS krf kB kE698 := aOK_of (kal1 kok562 (kal1 kok567 (kal1 kok568 (kal1 kok569 kal0)))) (kcl1 ks698_0 kcl0) ks698
/-- ColdShod$StrokePlan.addNext(LColdShod$Idea;I)V -/
noncomputable def kE699 : aE := (83, 3, ([kvB 0 3, kvB 332 341], [(57, 331, .inl (0, .ofNat 0)), (52, 6, .inl (1, .ofNat 0))], 0, [kvR 52, some (.inr [20, 21, 22, 23, 24, 25, 26, 27]), kvN 331, none, none], []), ([], none), ([], [], none, ([], [])), kvW74)
noncomputable def kC699_0 : aC := (([kvB 0 3, kvB 332 341, kvB 0 4, kvB 332 341], [(57, 331, .inl (0, .ofNat 0)), (52, 6, .inl (3, .ofNat 0))], 2, [kvR 52, some (.inr [20, 21, 22, 23, 24, 25, 26, 27]), kvN 331, kvI 2, none], []), ([], []), (4, [(-1, 2)]))
theorem ks699 : aseg kS krf kB [kE562, kE567, kE568, kE569] (ksp []) kE699 [kC699_0] 30000 (none) = true := asgqk (by decide +kernel)
theorem ks699_0 : aseg kS krf kB [kE562, kE567, kE568, kE569] (ksp []) kE699 [kC699_0] 30000 (some kC699_0) = true := asgqk (by decide +kernel)
theorem kok699 : aOK kS krf kB kE699 := aOK_of (kal1 kok562 (kal1 kok567 (kal1 kok568 (kal1 kok569 kal0)))) (kcl1 ks699_0 kcl0) ks699
/-- ColdShod$StrokePlan.addNext(LColdShod$Idea;I)V -/
noncomputable def kE700 : aE := (83, 3, ([kvB 0 3, kvB 331 341], [(57, 330, .inl (0, .ofNat 0)), (52, 6, .inl (1, .ofNat 0))], 0, [kvR 52, some (.inr [20, 21, 22, 23, 24, 25, 26, 27]), kvN 330, none, none], []), ([], none), ([], [], none, ([], [])), kvW74)
noncomputable def kC700_0 : aC := (([kvB 0 3, kvB 331 341, kvB 0 4, kvB 331 341], [(57, 330, .inl (0, .ofNat 0)), (52, 6, .inl (3, .ofNat 0))], 2, [kvR 52, some (.inr [20, 21, 22, 23, 24, 25, 26, 27]), kvN 330, kvI 2, none], []), ([], []), (4, [(-1, 2)]))
theorem ks700 : aseg kS krf kB [kE562, kE567, kE568, kE569] (ksp []) kE700 [kC700_0] 30000 (none) = true := asgqk (by decide +kernel)
theorem ks700_0 : aseg kS krf kB [kE562, kE567, kE568, kE569] (ksp []) kE700 [kC700_0] 30000 (some kC700_0) = true := asgqk (by decide +kernel)
theorem kok700 : aOK kS krf kB kE700 := aOK_of (kal1 kok562 (kal1 kok567 (kal1 kok568 (kal1 kok569 kal0)))) (kcl1 ks700_0 kcl0) ks700
/-- ColdShod$StrokePlan.addNext(LColdShod$Idea;I)V -/
noncomputable def kE701 : aE := (83, 3, ([kvB 0 3, kvB 330 341], [(57, 329, .inl (0, .ofNat 0)), (52, 6, .inl (1, .ofNat 0))], 0, [kvR 52, some (.inr [20, 21, 22, 23, 24, 25, 26, 27]), kvN 329, none, none], []), ([], none), ([], [], none, ([], [])), kvW74)
noncomputable def kC701_0 : aC := (([kvB 0 3, kvB 330 341, kvB 0 4, kvB 330 341], [(57, 329, .inl (0, .ofNat 0)), (52, 6, .inl (3, .ofNat 0))], 2, [kvR 52, some (.inr [20, 21, 22, 23, 24, 25, 26, 27]), kvN 329, kvI 2, none], []), ([], []), (4, [(-1, 2)]))
theorem ks701 : aseg kS krf kB [kE562, kE567, kE568, kE569] (ksp []) kE701 [kC701_0] 30000 (none) = true := asgqk (by decide +kernel)
theorem ks701_0 : aseg kS krf kB [kE562, kE567, kE568, kE569] (ksp []) kE701 [kC701_0] 30000 (some kC701_0) = true := asgqk (by decide +kernel)
theorem kok701 : aOK kS krf kB kE701 := aOK_of (kal1 kok562 (kal1 kok567 (kal1 kok568 (kal1 kok569 kal0)))) (kcl1 ks701_0 kcl0) ks701
/-- ColdShod$StrokePlan.addNext(LColdShod$Idea;I)V -/
noncomputable def kE702 : aE := (83, 3, ([kvB 0 3, kvB 329 341], [(57, 328, .inl (0, .ofNat 0)), (52, 6, .inl (1, .ofNat 0))], 0, [kvR 52, some (.inr [20, 21, 22, 23, 24, 25, 26, 27]), kvN 328, none, none], []), ([], none), ([], [], none, ([], [])), kvW74)
noncomputable def kC702_0 : aC := (([kvB 0 3, kvB 329 341, kvB 0 4, kvB 329 341], [(57, 328, .inl (0, .ofNat 0)), (52, 6, .inl (3, .ofNat 0))], 2, [kvR 52, some (.inr [20, 21, 22, 23, 24, 25, 26, 27]), kvN 328, kvI 2, none], []), ([], []), (4, [(-1, 2)]))
theorem ks702 : aseg kS krf kB [kE562, kE567, kE568, kE569] (ksp []) kE702 [kC702_0] 30000 (none) = true := asgqk (by decide +kernel)
theorem ks702_0 : aseg kS krf kB [kE562, kE567, kE568, kE569] (ksp []) kE702 [kC702_0] 30000 (some kC702_0) = true := asgqk (by decide +kernel)
theorem kok702 : aOK kS krf kB kE702 := aOK_of (kal1 kok562 (kal1 kok567 (kal1 kok568 (kal1 kok569 kal0)))) (kcl1 ks702_0 kcl0) ks702
/-- ColdShod$StrokePlan.addNext(LColdShod$Idea;I)V -/
noncomputable def kE703 : aE := (83, 3, ([kvB 0 3, kvB 328 341], [(57, 327, .inl (0, .ofNat 0)), (52, 6, .inl (1, .ofNat 0))], 0, [kvR 52, some (.inr [20, 21, 22, 23, 24, 25, 26, 27]), kvN 327, none, none], []), ([], none), ([], [], none, ([], [])), kvW74)
noncomputable def kC703_0 : aC := (([kvB 0 3, kvB 328 341, kvB 0 4, kvB 328 341], [(57, 327, .inl (0, .ofNat 0)), (52, 6, .inl (3, .ofNat 0))], 2, [kvR 52, some (.inr [20, 21, 22, 23, 24, 25, 26, 27]), kvN 327, kvI 2, none], []), ([], []), (4, [(-1, 2)]))
theorem ks703 : aseg kS krf kB [kE562, kE567, kE568, kE569] (ksp []) kE703 [kC703_0] 30000 (none) = true := asgqk (by decide +kernel)
theorem ks703_0 : aseg kS krf kB [kE562, kE567, kE568, kE569] (ksp []) kE703 [kC703_0] 30000 (some kC703_0) = true := asgqk (by decide +kernel)
theorem kok703 : aOK kS krf kB kE703 := aOK_of (kal1 kok562 (kal1 kok567 (kal1 kok568 (kal1 kok569 kal0)))) (kcl1 ks703_0 kcl0) ks703
/-- ColdShod$StrokePlan.addNext(LColdShod$Idea;I)V -/
noncomputable def kE704 : aE := (83, 3, ([kvB 0 3, kvB 327 341], [(57, 326, .inl (0, .ofNat 0)), (52, 6, .inl (1, .ofNat 0))], 0, [kvR 52, some (.inr [20, 21, 22, 23, 24, 25, 26, 27]), kvN 326, none, none], []), ([], none), ([], [], none, ([], [])), kvW74)
noncomputable def kC704_0 : aC := (([kvB 0 3, kvB 327 341, kvB 0 4, kvB 327 341], [(57, 326, .inl (0, .ofNat 0)), (52, 6, .inl (3, .ofNat 0))], 2, [kvR 52, some (.inr [20, 21, 22, 23, 24, 25, 26, 27]), kvN 326, kvI 2, none], []), ([], []), (4, [(-1, 2)]))
theorem ks704 : aseg kS krf kB [kE562, kE567, kE568, kE569] (ksp []) kE704 [kC704_0] 30000 (none) = true := asgqk (by decide +kernel)
theorem ks704_0 : aseg kS krf kB [kE562, kE567, kE568, kE569] (ksp []) kE704 [kC704_0] 30000 (some kC704_0) = true := asgqk (by decide +kernel)
theorem kok704 : aOK kS krf kB kE704 := aOK_of (kal1 kok562 (kal1 kok567 (kal1 kok568 (kal1 kok569 kal0)))) (kcl1 ks704_0 kcl0) ks704
/-- ColdShod$StrokePlan.addNext(LColdShod$Idea;I)V -/
noncomputable def kE705 : aE := (83, 3, ([kvB 0 3, kvB 326 341], [(57, 325, .inl (0, .ofNat 0)), (52, 6, .inl (1, .ofNat 0))], 0, [kvR 52, some (.inr [20, 21, 22, 23, 24, 25, 26, 27]), kvN 325, none, none], []), ([], none), ([], [], none, ([], [])), kvW74)
noncomputable def kC705_0 : aC := (([kvB 0 3, kvB 326 341, kvB 0 4, kvB 326 341], [(57, 325, .inl (0, .ofNat 0)), (52, 6, .inl (3, .ofNat 0))], 2, [kvR 52, some (.inr [20, 21, 22, 23, 24, 25, 26, 27]), kvN 325, kvI 2, none], []), ([], []), (4, [(-1, 2)]))
theorem ks705 : aseg kS krf kB [kE562, kE567, kE568, kE569] (ksp []) kE705 [kC705_0] 30000 (none) = true := asgqk (by decide +kernel)
theorem ks705_0 : aseg kS krf kB [kE562, kE567, kE568, kE569] (ksp []) kE705 [kC705_0] 30000 (some kC705_0) = true := asgqk (by decide +kernel)
theorem kok705 : aOK kS krf kB kE705 := aOK_of (kal1 kok562 (kal1 kok567 (kal1 kok568 (kal1 kok569 kal0)))) (kcl1 ks705_0 kcl0) ks705
/-- ColdShod$StrokePlan.addNext(LColdShod$Idea;I)V -/
noncomputable def kE706 : aE := (83, 3, ([kvB 0 3, kvB 325 341], [(57, 324, .inl (0, .ofNat 0)), (52, 6, .inl (1, .ofNat 0))], 0, [kvR 52, some (.inr [20, 21, 22, 23, 24, 25, 26, 27]), kvN 324, none, none], []), ([], none), ([], [], none, ([], [])), kvW74)
noncomputable def kC706_0 : aC := (([kvB 0 3, kvB 325 341, kvB 0 4, kvB 325 341], [(57, 324, .inl (0, .ofNat 0)), (52, 6, .inl (3, .ofNat 0))], 2, [kvR 52, some (.inr [20, 21, 22, 23, 24, 25, 26, 27]), kvN 324, kvI 2, none], []), ([], []), (4, [(-1, 2)]))
theorem ks706 : aseg kS krf kB [kE562, kE567, kE568, kE569] (ksp []) kE706 [kC706_0] 30000 (none) = true := asgqk (by decide +kernel)
theorem ks706_0 : aseg kS krf kB [kE562, kE567, kE568, kE569] (ksp []) kE706 [kC706_0] 30000 (some kC706_0) = true := asgqk (by decide +kernel)
theorem kok706 : aOK kS krf kB kE706 := aOK_of (kal1 kok562 (kal1 kok567 (kal1 kok568 (kal1 kok569 kal0)))) (kcl1 ks706_0 kcl0) ks706
/-- ColdShod$StrokePlan.addNext(LColdShod$Idea;I)V -/
noncomputable def kE707 : aE := (83, 3, ([kvB 0 3, kvB 324 341], [(57, 323, .inl (0, .ofNat 0)), (52, 6, .inl (1, .ofNat 0))], 0, [kvR 52, some (.inr [20, 21, 22, 23, 24, 25, 26, 27]), kvN 323, none, none], []), ([], none), ([], [], none, ([], [])), kvW74)
noncomputable def kC707_0 : aC := (([kvB 0 3, kvB 324 341, kvB 0 4, kvB 324 341], [(57, 323, .inl (0, .ofNat 0)), (52, 6, .inl (3, .ofNat 0))], 2, [kvR 52, some (.inr [20, 21, 22, 23, 24, 25, 26, 27]), kvN 323, kvI 2, none], []), ([], []), (4, [(-1, 2)]))
theorem ks707 : aseg kS krf kB [kE562, kE567, kE568, kE569] (ksp []) kE707 [kC707_0] 30000 (none) = true := asgqk (by decide +kernel)
theorem ks707_0 : aseg kS krf kB [kE562, kE567, kE568, kE569] (ksp []) kE707 [kC707_0] 30000 (some kC707_0) = true := asgqk (by decide +kernel)
theorem kok707 : aOK kS krf kB kE707 := aOK_of (kal1 kok562 (kal1 kok567 (kal1 kok568 (kal1 kok569 kal0)))) (kcl1 ks707_0 kcl0) ks707
/-- ColdShod$StrokePlan.addNext(LColdShod$Idea;I)V -/
noncomputable def kE708 : aE := (83, 3, ([kvB 0 3, kvB 323 341], [(57, 322, .inl (0, .ofNat 0)), (52, 6, .inl (1, .ofNat 0))], 0, [kvR 52, some (.inr [20, 21, 22, 23, 24, 25, 26, 27]), kvN 322, none, none], []), ([], none), ([], [], none, ([], [])), kvW74)
noncomputable def kC708_0 : aC := (([kvB 0 3, kvB 323 341, kvB 0 4, kvB 323 341], [(57, 322, .inl (0, .ofNat 0)), (52, 6, .inl (3, .ofNat 0))], 2, [kvR 52, some (.inr [20, 21, 22, 23, 24, 25, 26, 27]), kvN 322, kvI 2, none], []), ([], []), (4, [(-1, 2)]))
theorem ks708 : aseg kS krf kB [kE562, kE567, kE568, kE569] (ksp []) kE708 [kC708_0] 30000 (none) = true := asgqk (by decide +kernel)
theorem ks708_0 : aseg kS krf kB [kE562, kE567, kE568, kE569] (ksp []) kE708 [kC708_0] 30000 (some kC708_0) = true := asgqk (by decide +kernel)
theorem kok708 : aOK kS krf kB kE708 := aOK_of (kal1 kok562 (kal1 kok567 (kal1 kok568 (kal1 kok569 kal0)))) (kcl1 ks708_0 kcl0) ks708
/-- ColdShod$StrokePlan.addNext(LColdShod$Idea;I)V -/
noncomputable def kE709 : aE := (83, 3, ([kvB 0 3, kvB 322 341], [(57, 321, .inl (0, .ofNat 0)), (52, 6, .inl (1, .ofNat 0))], 0, [kvR 52, some (.inr [20, 21, 22, 23, 24, 25, 26, 27]), kvN 321, none, none], []), ([], none), ([], [], none, ([], [])), kvW74)
noncomputable def kC709_0 : aC := (([kvB 0 3, kvB 322 341, kvB 0 4, kvB 322 341], [(57, 321, .inl (0, .ofNat 0)), (52, 6, .inl (3, .ofNat 0))], 2, [kvR 52, some (.inr [20, 21, 22, 23, 24, 25, 26, 27]), kvN 321, kvI 2, none], []), ([], []), (4, [(-1, 2)]))
theorem ks709 : aseg kS krf kB [kE562, kE567, kE568, kE569] (ksp []) kE709 [kC709_0] 30000 (none) = true := asgqk (by decide +kernel)
theorem ks709_0 : aseg kS krf kB [kE562, kE567, kE568, kE569] (ksp []) kE709 [kC709_0] 30000 (some kC709_0) = true := asgqk (by decide +kernel)
theorem kok709 : aOK kS krf kB kE709 := aOK_of (kal1 kok562 (kal1 kok567 (kal1 kok568 (kal1 kok569 kal0)))) (kcl1 ks709_0 kcl0) ks709
/-- ColdShod$StrokePlan.addNext(LColdShod$Idea;I)V -/
noncomputable def kE710 : aE := (83, 3, ([kvB 0 3, kvB 321 341], [(57, 320, .inl (0, .ofNat 0)), (52, 6, .inl (1, .ofNat 0))], 0, [kvR 52, some (.inr [20, 21, 22, 23, 24, 25, 26, 27]), kvN 320, none, none], []), ([], none), ([], [], none, ([], [])), kvW74)
noncomputable def kC710_0 : aC := (([kvB 0 3, kvB 321 341, kvB 0 4, kvB 321 341], [(57, 320, .inl (0, .ofNat 0)), (52, 6, .inl (3, .ofNat 0))], 2, [kvR 52, some (.inr [20, 21, 22, 23, 24, 25, 26, 27]), kvN 320, kvI 2, none], []), ([], []), (4, [(-1, 2)]))
theorem ks710 : aseg kS krf kB [kE562, kE567, kE568, kE569] (ksp []) kE710 [kC710_0] 30000 (none) = true := asgqk (by decide +kernel)
theorem ks710_0 : aseg kS krf kB [kE562, kE567, kE568, kE569] (ksp []) kE710 [kC710_0] 30000 (some kC710_0) = true := asgqk (by decide +kernel)
theorem kok710 : aOK kS krf kB kE710 := aOK_of (kal1 kok562 (kal1 kok567 (kal1 kok568 (kal1 kok569 kal0)))) (kcl1 ks710_0 kcl0) ks710
/-- ColdShod$StrokePlan.addNext(LColdShod$Idea;I)V -/
noncomputable def kE711 : aE := (83, 3, ([kvB 0 3, kvB 320 341], [(57, 319, .inl (0, .ofNat 0)), (52, 6, .inl (1, .ofNat 0))], 0, [kvR 52, some (.inr [20, 21, 22, 23, 24, 25, 26, 27]), kvN 319, none, none], []), ([], none), ([], [], none, ([], [])), kvW74)
noncomputable def kC711_0 : aC := (([kvB 0 3, kvB 320 341, kvB 0 4, kvB 320 341], [(57, 319, .inl (0, .ofNat 0)), (52, 6, .inl (3, .ofNat 0))], 2, [kvR 52, some (.inr [20, 21, 22, 23, 24, 25, 26, 27]), kvN 319, kvI 2, none], []), ([], []), (4, [(-1, 2)]))
theorem ks711 : aseg kS krf kB [kE562, kE567, kE568, kE569] (ksp []) kE711 [kC711_0] 30000 (none) = true := asgqk (by decide +kernel)
theorem ks711_0 : aseg kS krf kB [kE562, kE567, kE568, kE569] (ksp []) kE711 [kC711_0] 30000 (some kC711_0) = true := asgqk (by decide +kernel)
theorem kok711 : aOK kS krf kB kE711 := aOK_of (kal1 kok562 (kal1 kok567 (kal1 kok568 (kal1 kok569 kal0)))) (kcl1 ks711_0 kcl0) ks711
/-- ColdShod$StrokePlan.addNext(LColdShod$Idea;I)V -/
noncomputable def kE712 : aE := (83, 3, ([kvB 0 3, kvB 319 341], [(57, 318, .inl (0, .ofNat 0)), (52, 6, .inl (1, .ofNat 0))], 0, [kvR 52, some (.inr [20, 21, 22, 23, 24, 25, 26, 27]), kvN 318, none, none], []), ([], none), ([], [], none, ([], [])), kvW74)
noncomputable def kC712_0 : aC := (([kvB 0 3, kvB 319 341, kvB 0 4, kvB 319 341], [(57, 318, .inl (0, .ofNat 0)), (52, 6, .inl (3, .ofNat 0))], 2, [kvR 52, some (.inr [20, 21, 22, 23, 24, 25, 26, 27]), kvN 318, kvI 2, none], []), ([], []), (4, [(-1, 2)]))
theorem ks712 : aseg kS krf kB [kE562, kE567, kE568, kE569] (ksp []) kE712 [kC712_0] 30000 (none) = true := asgqk (by decide +kernel)
theorem ks712_0 : aseg kS krf kB [kE562, kE567, kE568, kE569] (ksp []) kE712 [kC712_0] 30000 (some kC712_0) = true := asgqk (by decide +kernel)
theorem kok712 : aOK kS krf kB kE712 := aOK_of (kal1 kok562 (kal1 kok567 (kal1 kok568 (kal1 kok569 kal0)))) (kcl1 ks712_0 kcl0) ks712
/-- ColdShod$StrokePlan.addNext(LColdShod$Idea;I)V -/
noncomputable def kE713 : aE := (83, 3, ([kvB 0 3, kvB 318 341], [(57, 317, .inl (0, .ofNat 0)), (52, 6, .inl (1, .ofNat 0))], 0, [kvR 52, some (.inr [20, 21, 22, 23, 24, 25, 26, 27]), kvN 317, none, none], []), ([], none), ([], [], none, ([], [])), kvW74)
noncomputable def kC713_0 : aC := (([kvB 0 3, kvB 318 341, kvB 0 4, kvB 318 341], [(57, 317, .inl (0, .ofNat 0)), (52, 6, .inl (3, .ofNat 0))], 2, [kvR 52, some (.inr [20, 21, 22, 23, 24, 25, 26, 27]), kvN 317, kvI 2, none], []), ([], []), (4, [(-1, 2)]))
theorem ks713 : aseg kS krf kB [kE562, kE567, kE568, kE569] (ksp []) kE713 [kC713_0] 30000 (none) = true := asgqk (by decide +kernel)
theorem ks713_0 : aseg kS krf kB [kE562, kE567, kE568, kE569] (ksp []) kE713 [kC713_0] 30000 (some kC713_0) = true := asgqk (by decide +kernel)
theorem kok713 : aOK kS krf kB kE713 := aOK_of (kal1 kok562 (kal1 kok567 (kal1 kok568 (kal1 kok569 kal0)))) (kcl1 ks713_0 kcl0) ks713
/-- ColdShod$StrokePlan.addNext(LColdShod$Idea;I)V -/
noncomputable def kE714 : aE := (83, 3, ([kvB 0 3, kvB 317 341], [(57, 316, .inl (0, .ofNat 0)), (52, 6, .inl (1, .ofNat 0))], 0, [kvR 52, some (.inr [20, 21, 22, 23, 24, 25, 26, 27]), kvN 316, none, none], []), ([], none), ([], [], none, ([], [])), kvW74)
noncomputable def kC714_0 : aC := (([kvB 0 3, kvB 317 341, kvB 0 4, kvB 317 341], [(57, 316, .inl (0, .ofNat 0)), (52, 6, .inl (3, .ofNat 0))], 2, [kvR 52, some (.inr [20, 21, 22, 23, 24, 25, 26, 27]), kvN 316, kvI 2, none], []), ([], []), (4, [(-1, 2)]))
theorem ks714 : aseg kS krf kB [kE562, kE567, kE568, kE569] (ksp []) kE714 [kC714_0] 30000 (none) = true := asgqk (by decide +kernel)
theorem ks714_0 : aseg kS krf kB [kE562, kE567, kE568, kE569] (ksp []) kE714 [kC714_0] 30000 (some kC714_0) = true := asgqk (by decide +kernel)
theorem kok714 : aOK kS krf kB kE714 := aOK_of (kal1 kok562 (kal1 kok567 (kal1 kok568 (kal1 kok569 kal0)))) (kcl1 ks714_0 kcl0) ks714
/-- ColdShod$StrokePlan.addNext(LColdShod$Idea;I)V -/
noncomputable def kE715 : aE := (83, 3, ([kvB 0 3, kvB 316 341], [(57, 315, .inl (0, .ofNat 0)), (52, 6, .inl (1, .ofNat 0))], 0, [kvR 52, some (.inr [20, 21, 22, 23, 24, 25, 26, 27]), kvN 315, none, none], []), ([], none), ([], [], none, ([], [])), kvW74)
noncomputable def kC715_0 : aC := (([kvB 0 3, kvB 316 341, kvB 0 4, kvB 316 341], [(57, 315, .inl (0, .ofNat 0)), (52, 6, .inl (3, .ofNat 0))], 2, [kvR 52, some (.inr [20, 21, 22, 23, 24, 25, 26, 27]), kvN 315, kvI 2, none], []), ([], []), (4, [(-1, 2)]))
theorem ks715 : aseg kS krf kB [kE562, kE567, kE568, kE569] (ksp []) kE715 [kC715_0] 30000 (none) = true := asgqk (by decide +kernel)
theorem ks715_0 : aseg kS krf kB [kE562, kE567, kE568, kE569] (ksp []) kE715 [kC715_0] 30000 (some kC715_0) = true := asgqk (by decide +kernel)
theorem kok715 : aOK kS krf kB kE715 := aOK_of (kal1 kok562 (kal1 kok567 (kal1 kok568 (kal1 kok569 kal0)))) (kcl1 ks715_0 kcl0) ks715
/-- ColdShod$StrokePlan.addNext(LColdShod$Idea;I)V -/
noncomputable def kE716 : aE := (83, 3, ([kvB 0 3, kvB 315 341], [(57, 314, .inl (0, .ofNat 0)), (52, 6, .inl (1, .ofNat 0))], 0, [kvR 52, some (.inr [20, 21, 22, 23, 24, 25, 26, 27]), kvN 314, none, none], []), ([], none), ([], [], none, ([], [])), kvW74)
noncomputable def kC716_0 : aC := (([kvB 0 3, kvB 315 341, kvB 0 4, kvB 315 341], [(57, 314, .inl (0, .ofNat 0)), (52, 6, .inl (3, .ofNat 0))], 2, [kvR 52, some (.inr [20, 21, 22, 23, 24, 25, 26, 27]), kvN 314, kvI 2, none], []), ([], []), (4, [(-1, 2)]))
theorem ks716 : aseg kS krf kB [kE562, kE567, kE568, kE569] (ksp []) kE716 [kC716_0] 30000 (none) = true := asgqk (by decide +kernel)
theorem ks716_0 : aseg kS krf kB [kE562, kE567, kE568, kE569] (ksp []) kE716 [kC716_0] 30000 (some kC716_0) = true := asgqk (by decide +kernel)
theorem kok716 : aOK kS krf kB kE716 := aOK_of (kal1 kok562 (kal1 kok567 (kal1 kok568 (kal1 kok569 kal0)))) (kcl1 ks716_0 kcl0) ks716
/-- ColdShod$StrokePlan.addNext(LColdShod$Idea;I)V -/
noncomputable def kE717 : aE := (83, 3, ([kvB 0 3, kvB 314 341], [(57, 313, .inl (0, .ofNat 0)), (52, 6, .inl (1, .ofNat 0))], 0, [kvR 52, some (.inr [20, 21, 22, 23, 24, 25, 26, 27]), kvN 313, none, none], []), ([], none), ([], [], none, ([], [])), kvW74)
noncomputable def kC717_0 : aC := (([kvB 0 3, kvB 314 341, kvB 0 4, kvB 314 341], [(57, 313, .inl (0, .ofNat 0)), (52, 6, .inl (3, .ofNat 0))], 2, [kvR 52, some (.inr [20, 21, 22, 23, 24, 25, 26, 27]), kvN 313, kvI 2, none], []), ([], []), (4, [(-1, 2)]))
theorem ks717 : aseg kS krf kB [kE562, kE567, kE568, kE569] (ksp []) kE717 [kC717_0] 30000 (none) = true := asgqk (by decide +kernel)
theorem ks717_0 : aseg kS krf kB [kE562, kE567, kE568, kE569] (ksp []) kE717 [kC717_0] 30000 (some kC717_0) = true := asgqk (by decide +kernel)
theorem kok717 : aOK kS krf kB kE717 := aOK_of (kal1 kok562 (kal1 kok567 (kal1 kok568 (kal1 kok569 kal0)))) (kcl1 ks717_0 kcl0) ks717
/-- ColdShod$StrokePlan.addNext(LColdShod$Idea;I)V -/
noncomputable def kE718 : aE := (83, 3, ([kvB 0 3, kvB 313 341], [(57, 312, .inl (0, .ofNat 0)), (52, 6, .inl (1, .ofNat 0))], 0, [kvR 52, some (.inr [20, 21, 22, 23, 24, 25, 26, 27]), kvN 312, none, none], []), ([], none), ([], [], none, ([], [])), kvW74)
noncomputable def kC718_0 : aC := (([kvB 0 3, kvB 313 341, kvB 0 4, kvB 313 341], [(57, 312, .inl (0, .ofNat 0)), (52, 6, .inl (3, .ofNat 0))], 2, [kvR 52, some (.inr [20, 21, 22, 23, 24, 25, 26, 27]), kvN 312, kvI 2, none], []), ([], []), (4, [(-1, 2)]))
theorem ks718 : aseg kS krf kB [kE562, kE567, kE568, kE569] (ksp []) kE718 [kC718_0] 30000 (none) = true := asgqk (by decide +kernel)
theorem ks718_0 : aseg kS krf kB [kE562, kE567, kE568, kE569] (ksp []) kE718 [kC718_0] 30000 (some kC718_0) = true := asgqk (by decide +kernel)
theorem kok718 : aOK kS krf kB kE718 := aOK_of (kal1 kok562 (kal1 kok567 (kal1 kok568 (kal1 kok569 kal0)))) (kcl1 ks718_0 kcl0) ks718
/-- ColdShod$StrokePlan.addNext(LColdShod$Idea;I)V -/
noncomputable def kE719 : aE := (83, 3, ([kvB 0 3, kvB 312 341], [(57, 311, .inl (0, .ofNat 0)), (52, 6, .inl (1, .ofNat 0))], 0, [kvR 52, some (.inr [20, 21, 22, 23, 24, 25, 26, 27]), kvN 311, none, none], []), ([], none), ([], [], none, ([], [])), kvW74)
noncomputable def kC719_0 : aC := (([kvB 0 3, kvB 312 341, kvB 0 4, kvB 312 341], [(57, 311, .inl (0, .ofNat 0)), (52, 6, .inl (3, .ofNat 0))], 2, [kvR 52, some (.inr [20, 21, 22, 23, 24, 25, 26, 27]), kvN 311, kvI 2, none], []), ([], []), (4, [(-1, 2)]))
theorem ks719 : aseg kS krf kB [kE562, kE567, kE568, kE569] (ksp []) kE719 [kC719_0] 30000 (none) = true := asgqk (by decide +kernel)
theorem ks719_0 : aseg kS krf kB [kE562, kE567, kE568, kE569] (ksp []) kE719 [kC719_0] 30000 (some kC719_0) = true := asgqk (by decide +kernel)
theorem kok719 : aOK kS krf kB kE719 := aOK_of (kal1 kok562 (kal1 kok567 (kal1 kok568 (kal1 kok569 kal0)))) (kcl1 ks719_0 kcl0) ks719
/-- ColdShod$StrokePlan.addNext(LColdShod$Idea;I)V -/
noncomputable def kE720 : aE := (83, 3, ([kvB 0 3, kvB 311 341], [(57, 310, .inl (0, .ofNat 0)), (52, 6, .inl (1, .ofNat 0))], 0, [kvR 52, some (.inr [20, 21, 22, 23, 24, 25, 26, 27]), kvN 310, none, none], []), ([], none), ([], [], none, ([], [])), kvW74)
noncomputable def kC720_0 : aC := (([kvB 0 3, kvB 311 341, kvB 0 4, kvB 311 341], [(57, 310, .inl (0, .ofNat 0)), (52, 6, .inl (3, .ofNat 0))], 2, [kvR 52, some (.inr [20, 21, 22, 23, 24, 25, 26, 27]), kvN 310, kvI 2, none], []), ([], []), (4, [(-1, 2)]))
theorem ks720 : aseg kS krf kB [kE562, kE567, kE568, kE569] (ksp []) kE720 [kC720_0] 30000 (none) = true := asgqk (by decide +kernel)
theorem ks720_0 : aseg kS krf kB [kE562, kE567, kE568, kE569] (ksp []) kE720 [kC720_0] 30000 (some kC720_0) = true := asgqk (by decide +kernel)
theorem kok720 : aOK kS krf kB kE720 := aOK_of (kal1 kok562 (kal1 kok567 (kal1 kok568 (kal1 kok569 kal0)))) (kcl1 ks720_0 kcl0) ks720
/-- ColdShod$StrokePlan.addNext(LColdShod$Idea;I)V -/
noncomputable def kE721 : aE := (83, 3, ([kvB 0 3, kvB 310 341], [(57, 309, .inl (0, .ofNat 0)), (52, 6, .inl (1, .ofNat 0))], 0, [kvR 52, some (.inr [20, 21, 22, 23, 24, 25, 26, 27]), kvN 309, none, none], []), ([], none), ([], [], none, ([], [])), kvW74)
noncomputable def kC721_0 : aC := (([kvB 0 3, kvB 310 341, kvB 0 4, kvB 310 341], [(57, 309, .inl (0, .ofNat 0)), (52, 6, .inl (3, .ofNat 0))], 2, [kvR 52, some (.inr [20, 21, 22, 23, 24, 25, 26, 27]), kvN 309, kvI 2, none], []), ([], []), (4, [(-1, 2)]))
theorem ks721 : aseg kS krf kB [kE562, kE567, kE568, kE569] (ksp []) kE721 [kC721_0] 30000 (none) = true := asgqk (by decide +kernel)
theorem ks721_0 : aseg kS krf kB [kE562, kE567, kE568, kE569] (ksp []) kE721 [kC721_0] 30000 (some kC721_0) = true := asgqk (by decide +kernel)
theorem kok721 : aOK kS krf kB kE721 := aOK_of (kal1 kok562 (kal1 kok567 (kal1 kok568 (kal1 kok569 kal0)))) (kcl1 ks721_0 kcl0) ks721
/-- ColdShod$StrokePlan.addNext(LColdShod$Idea;I)V -/
noncomputable def kE722 : aE := (83, 3, ([kvB 0 3, kvB 309 341], [(57, 308, .inl (0, .ofNat 0)), (52, 6, .inl (1, .ofNat 0))], 0, [kvR 52, some (.inr [20, 21, 22, 23, 24, 25, 26, 27]), kvN 308, none, none], []), ([], none), ([], [], none, ([], [])), kvW74)
noncomputable def kC722_0 : aC := (([kvB 0 3, kvB 309 341, kvB 0 4, kvB 309 341], [(57, 308, .inl (0, .ofNat 0)), (52, 6, .inl (3, .ofNat 0))], 2, [kvR 52, some (.inr [20, 21, 22, 23, 24, 25, 26, 27]), kvN 308, kvI 2, none], []), ([], []), (4, [(-1, 2)]))
theorem ks722 : aseg kS krf kB [kE562, kE567, kE568, kE569] (ksp []) kE722 [kC722_0] 30000 (none) = true := asgqk (by decide +kernel)
theorem ks722_0 : aseg kS krf kB [kE562, kE567, kE568, kE569] (ksp []) kE722 [kC722_0] 30000 (some kC722_0) = true := asgqk (by decide +kernel)
theorem kok722 : aOK kS krf kB kE722 := aOK_of (kal1 kok562 (kal1 kok567 (kal1 kok568 (kal1 kok569 kal0)))) (kcl1 ks722_0 kcl0) ks722
/-- ColdShod$StrokePlan.addNext(LColdShod$Idea;I)V -/
noncomputable def kE723 : aE := (83, 3, ([kvB 0 3, kvB 308 341], [(57, 307, .inl (0, .ofNat 0)), (52, 6, .inl (1, .ofNat 0))], 0, [kvR 52, some (.inr [20, 21, 22, 23, 24, 25, 26, 27]), kvN 307, none, none], []), ([], none), ([], [], none, ([], [])), kvW74)
noncomputable def kC723_0 : aC := (([kvB 0 3, kvB 308 341, kvB 0 4, kvB 308 341], [(57, 307, .inl (0, .ofNat 0)), (52, 6, .inl (3, .ofNat 0))], 2, [kvR 52, some (.inr [20, 21, 22, 23, 24, 25, 26, 27]), kvN 307, kvI 2, none], []), ([], []), (4, [(-1, 2)]))
theorem ks723 : aseg kS krf kB [kE562, kE567, kE568, kE569] (ksp []) kE723 [kC723_0] 30000 (none) = true := asgqk (by decide +kernel)
theorem ks723_0 : aseg kS krf kB [kE562, kE567, kE568, kE569] (ksp []) kE723 [kC723_0] 30000 (some kC723_0) = true := asgqk (by decide +kernel)
theorem kok723 : aOK kS krf kB kE723 := aOK_of (kal1 kok562 (kal1 kok567 (kal1 kok568 (kal1 kok569 kal0)))) (kcl1 ks723_0 kcl0) ks723
/-- ColdShod$StrokePlan.addNext(LColdShod$Idea;I)V -/
noncomputable def kE724 : aE := (83, 3, ([kvB 0 3, kvB 307 341], [(57, 306, .inl (0, .ofNat 0)), (52, 6, .inl (1, .ofNat 0))], 0, [kvR 52, some (.inr [20, 21, 22, 23, 24, 25, 26, 27]), kvN 306, none, none], []), ([], none), ([], [], none, ([], [])), kvW74)
noncomputable def kC724_0 : aC := (([kvB 0 3, kvB 307 341, kvB 0 4, kvB 307 341], [(57, 306, .inl (0, .ofNat 0)), (52, 6, .inl (3, .ofNat 0))], 2, [kvR 52, some (.inr [20, 21, 22, 23, 24, 25, 26, 27]), kvN 306, kvI 2, none], []), ([], []), (4, [(-1, 2)]))
theorem ks724 : aseg kS krf kB [kE562, kE567, kE568, kE569] (ksp []) kE724 [kC724_0] 30000 (none) = true := asgqk (by decide +kernel)
theorem ks724_0 : aseg kS krf kB [kE562, kE567, kE568, kE569] (ksp []) kE724 [kC724_0] 30000 (some kC724_0) = true := asgqk (by decide +kernel)
theorem kok724 : aOK kS krf kB kE724 := aOK_of (kal1 kok562 (kal1 kok567 (kal1 kok568 (kal1 kok569 kal0)))) (kcl1 ks724_0 kcl0) ks724
/-- ColdShod$StrokePlan.addNext(LColdShod$Idea;I)V -/
noncomputable def kE725 : aE := (83, 3, ([kvB 0 3, kvB 306 341], [(57, 305, .inl (0, .ofNat 0)), (52, 6, .inl (1, .ofNat 0))], 0, [kvR 52, some (.inr [20, 21, 22, 23, 24, 25, 26, 27]), kvN 305, none, none], []), ([], none), ([], [], none, ([], [])), kvW74)
noncomputable def kC725_0 : aC := (([kvB 0 3, kvB 306 341, kvB 0 4, kvB 306 341], [(57, 305, .inl (0, .ofNat 0)), (52, 6, .inl (3, .ofNat 0))], 2, [kvR 52, some (.inr [20, 21, 22, 23, 24, 25, 26, 27]), kvN 305, kvI 2, none], []), ([], []), (4, [(-1, 2)]))
theorem ks725 : aseg kS krf kB [kE562, kE567, kE568, kE569] (ksp []) kE725 [kC725_0] 30000 (none) = true := asgqk (by decide +kernel)
theorem ks725_0 : aseg kS krf kB [kE562, kE567, kE568, kE569] (ksp []) kE725 [kC725_0] 30000 (some kC725_0) = true := asgqk (by decide +kernel)
theorem kok725 : aOK kS krf kB kE725 := aOK_of (kal1 kok562 (kal1 kok567 (kal1 kok568 (kal1 kok569 kal0)))) (kcl1 ks725_0 kcl0) ks725
/-- ColdShod$StrokePlan.addNext(LColdShod$Idea;I)V -/
noncomputable def kE726 : aE := (83, 3, ([kvB 0 3, kvB 305 341], [(57, 304, .inl (0, .ofNat 0)), (52, 6, .inl (1, .ofNat 0))], 0, [kvR 52, some (.inr [20, 21, 22, 23, 24, 25, 26, 27]), kvN 304, none, none], []), ([], none), ([], [], none, ([], [])), kvW74)
noncomputable def kC726_0 : aC := (([kvB 0 3, kvB 305 341, kvB 0 4, kvB 305 341], [(57, 304, .inl (0, .ofNat 0)), (52, 6, .inl (3, .ofNat 0))], 2, [kvR 52, some (.inr [20, 21, 22, 23, 24, 25, 26, 27]), kvN 304, kvI 2, none], []), ([], []), (4, [(-1, 2)]))
theorem ks726 : aseg kS krf kB [kE562, kE567, kE568, kE569] (ksp []) kE726 [kC726_0] 30000 (none) = true := asgqk (by decide +kernel)
theorem ks726_0 : aseg kS krf kB [kE562, kE567, kE568, kE569] (ksp []) kE726 [kC726_0] 30000 (some kC726_0) = true := asgqk (by decide +kernel)
theorem kok726 : aOK kS krf kB kE726 := aOK_of (kal1 kok562 (kal1 kok567 (kal1 kok568 (kal1 kok569 kal0)))) (kcl1 ks726_0 kcl0) ks726
/-- ColdShod$StrokePlan.addNext(LColdShod$Idea;I)V -/
noncomputable def kE727 : aE := (83, 3, ([kvB 0 3, kvB 304 341], [(57, 303, .inl (0, .ofNat 0)), (52, 6, .inl (1, .ofNat 0))], 0, [kvR 52, some (.inr [20, 21, 22, 23, 24, 25, 26, 27]), kvN 303, none, none], []), ([], none), ([], [], none, ([], [])), kvW74)
noncomputable def kC727_0 : aC := (([kvB 0 3, kvB 304 341, kvB 0 4, kvB 304 341], [(57, 303, .inl (0, .ofNat 0)), (52, 6, .inl (3, .ofNat 0))], 2, [kvR 52, some (.inr [20, 21, 22, 23, 24, 25, 26, 27]), kvN 303, kvI 2, none], []), ([], []), (4, [(-1, 2)]))
theorem ks727 : aseg kS krf kB [kE562, kE567, kE568, kE569] (ksp []) kE727 [kC727_0] 30000 (none) = true := asgqk (by decide +kernel)
theorem ks727_0 : aseg kS krf kB [kE562, kE567, kE568, kE569] (ksp []) kE727 [kC727_0] 30000 (some kC727_0) = true := asgqk (by decide +kernel)
theorem kok727 : aOK kS krf kB kE727 := aOK_of (kal1 kok562 (kal1 kok567 (kal1 kok568 (kal1 kok569 kal0)))) (kcl1 ks727_0 kcl0) ks727
/-- ColdShod$StrokePlan.addNext(LColdShod$Idea;I)V -/
noncomputable def kE728 : aE := (83, 3, ([kvB 0 3, kvB 303 341], [(57, 302, .inl (0, .ofNat 0)), (52, 6, .inl (1, .ofNat 0))], 0, [kvR 52, some (.inr [20, 21, 22, 23, 24, 25, 26, 27]), kvN 302, none, none], []), ([], none), ([], [], none, ([], [])), kvW74)
noncomputable def kC728_0 : aC := (([kvB 0 3, kvB 303 341, kvB 0 4, kvB 303 341], [(57, 302, .inl (0, .ofNat 0)), (52, 6, .inl (3, .ofNat 0))], 2, [kvR 52, some (.inr [20, 21, 22, 23, 24, 25, 26, 27]), kvN 302, kvI 2, none], []), ([], []), (4, [(-1, 2)]))
theorem ks728 : aseg kS krf kB [kE562, kE567, kE568, kE569] (ksp []) kE728 [kC728_0] 30000 (none) = true := asgqk (by decide +kernel)
theorem ks728_0 : aseg kS krf kB [kE562, kE567, kE568, kE569] (ksp []) kE728 [kC728_0] 30000 (some kC728_0) = true := asgqk (by decide +kernel)
theorem kok728 : aOK kS krf kB kE728 := aOK_of (kal1 kok562 (kal1 kok567 (kal1 kok568 (kal1 kok569 kal0)))) (kcl1 ks728_0 kcl0) ks728
/-- ColdShod$StrokePlan.addNext(LColdShod$Idea;I)V -/
noncomputable def kE729 : aE := (83, 3, ([kvB 0 3, kvB 302 341], [(57, 301, .inl (0, .ofNat 0)), (52, 6, .inl (1, .ofNat 0))], 0, [kvR 52, some (.inr [20, 21, 22, 23, 24, 25, 26, 27]), kvN 301, none, none], []), ([], none), ([], [], none, ([], [])), kvW74)
noncomputable def kC729_0 : aC := (([kvB 0 3, kvB 302 341, kvB 0 4, kvB 302 341], [(57, 301, .inl (0, .ofNat 0)), (52, 6, .inl (3, .ofNat 0))], 2, [kvR 52, some (.inr [20, 21, 22, 23, 24, 25, 26, 27]), kvN 301, kvI 2, none], []), ([], []), (4, [(-1, 2)]))
theorem ks729 : aseg kS krf kB [kE562, kE567, kE568, kE569] (ksp []) kE729 [kC729_0] 30000 (none) = true := asgqk (by decide +kernel)
theorem ks729_0 : aseg kS krf kB [kE562, kE567, kE568, kE569] (ksp []) kE729 [kC729_0] 30000 (some kC729_0) = true := asgqk (by decide +kernel)
theorem kok729 : aOK kS krf kB kE729 := aOK_of (kal1 kok562 (kal1 kok567 (kal1 kok568 (kal1 kok569 kal0)))) (kcl1 ks729_0 kcl0) ks729
/-- ColdShod$StrokePlan.addNext(LColdShod$Idea;I)V -/
noncomputable def kE730 : aE := (83, 3, ([kvB 0 3, kvB 301 341], [(57, 300, .inl (0, .ofNat 0)), (52, 6, .inl (1, .ofNat 0))], 0, [kvR 52, some (.inr [20, 21, 22, 23, 24, 25, 26, 27]), kvN 300, none, none], []), ([], none), ([], [], none, ([], [])), kvW74)
noncomputable def kC730_0 : aC := (([kvB 0 3, kvB 301 341, kvB 0 4, kvB 301 341], [(57, 300, .inl (0, .ofNat 0)), (52, 6, .inl (3, .ofNat 0))], 2, [kvR 52, some (.inr [20, 21, 22, 23, 24, 25, 26, 27]), kvN 300, kvI 2, none], []), ([], []), (4, [(-1, 2)]))
theorem ks730 : aseg kS krf kB [kE562, kE567, kE568, kE569] (ksp []) kE730 [kC730_0] 30000 (none) = true := asgqk (by decide +kernel)
theorem ks730_0 : aseg kS krf kB [kE562, kE567, kE568, kE569] (ksp []) kE730 [kC730_0] 30000 (some kC730_0) = true := asgqk (by decide +kernel)
theorem kok730 : aOK kS krf kB kE730 := aOK_of (kal1 kok562 (kal1 kok567 (kal1 kok568 (kal1 kok569 kal0)))) (kcl1 ks730_0 kcl0) ks730
/-- ColdShod$StrokePlan.addNext(LColdShod$Idea;I)V -/
noncomputable def kE731 : aE := (83, 3, ([kvB 0 3, kvB 300 341], [(57, 299, .inl (0, .ofNat 0)), (52, 6, .inl (1, .ofNat 0))], 0, [kvR 52, some (.inr [20, 21, 22, 23, 24, 25, 26, 27]), kvN 299, none, none], []), ([], none), ([], [], none, ([], [])), kvW74)
noncomputable def kC731_0 : aC := (([kvB 0 3, kvB 300 341, kvB 0 4, kvB 300 341], [(57, 299, .inl (0, .ofNat 0)), (52, 6, .inl (3, .ofNat 0))], 2, [kvR 52, some (.inr [20, 21, 22, 23, 24, 25, 26, 27]), kvN 299, kvI 2, none], []), ([], []), (4, [(-1, 2)]))
theorem ks731 : aseg kS krf kB [kE562, kE567, kE568, kE569] (ksp []) kE731 [kC731_0] 30000 (none) = true := asgqk (by decide +kernel)
theorem ks731_0 : aseg kS krf kB [kE562, kE567, kE568, kE569] (ksp []) kE731 [kC731_0] 30000 (some kC731_0) = true := asgqk (by decide +kernel)
theorem kok731 : aOK kS krf kB kE731 := aOK_of (kal1 kok562 (kal1 kok567 (kal1 kok568 (kal1 kok569 kal0)))) (kcl1 ks731_0 kcl0) ks731
/-- ColdShod$StrokePlan.addNext(LColdShod$Idea;I)V -/
noncomputable def kE732 : aE := (83, 3, ([kvB 0 3, kvB 299 341], [(57, 298, .inl (0, .ofNat 0)), (52, 6, .inl (1, .ofNat 0))], 0, [kvR 52, some (.inr [20, 21, 22, 23, 24, 25, 26, 27]), kvN 298, none, none], []), ([], none), ([], [], none, ([], [])), kvW74)
noncomputable def kC732_0 : aC := (([kvB 0 3, kvB 299 341, kvB 0 4, kvB 299 341], [(57, 298, .inl (0, .ofNat 0)), (52, 6, .inl (3, .ofNat 0))], 2, [kvR 52, some (.inr [20, 21, 22, 23, 24, 25, 26, 27]), kvN 298, kvI 2, none], []), ([], []), (4, [(-1, 2)]))
theorem ks732 : aseg kS krf kB [kE562, kE567, kE568, kE569] (ksp []) kE732 [kC732_0] 30000 (none) = true := asgqk (by decide +kernel)
theorem ks732_0 : aseg kS krf kB [kE562, kE567, kE568, kE569] (ksp []) kE732 [kC732_0] 30000 (some kC732_0) = true := asgqk (by decide +kernel)
theorem kok732 : aOK kS krf kB kE732 := aOK_of (kal1 kok562 (kal1 kok567 (kal1 kok568 (kal1 kok569 kal0)))) (kcl1 ks732_0 kcl0) ks732
/-- ColdShod$StrokePlan.addNext(LColdShod$Idea;I)V -/
noncomputable def kE733 : aE := (83, 3, ([kvB 0 3, kvB 298 341], [(57, 297, .inl (0, .ofNat 0)), (52, 6, .inl (1, .ofNat 0))], 0, [kvR 52, some (.inr [20, 21, 22, 23, 24, 25, 26, 27]), kvN 297, none, none], []), ([], none), ([], [], none, ([], [])), kvW74)
noncomputable def kC733_0 : aC := (([kvB 0 3, kvB 298 341, kvB 0 4, kvB 298 341], [(57, 297, .inl (0, .ofNat 0)), (52, 6, .inl (3, .ofNat 0))], 2, [kvR 52, some (.inr [20, 21, 22, 23, 24, 25, 26, 27]), kvN 297, kvI 2, none], []), ([], []), (4, [(-1, 2)]))
theorem ks733 : aseg kS krf kB [kE562, kE567, kE568, kE569] (ksp []) kE733 [kC733_0] 30000 (none) = true := asgqk (by decide +kernel)
theorem ks733_0 : aseg kS krf kB [kE562, kE567, kE568, kE569] (ksp []) kE733 [kC733_0] 30000 (some kC733_0) = true := asgqk (by decide +kernel)
theorem kok733 : aOK kS krf kB kE733 := aOK_of (kal1 kok562 (kal1 kok567 (kal1 kok568 (kal1 kok569 kal0)))) (kcl1 ks733_0 kcl0) ks733
/-- ColdShod$StrokePlan.addNext(LColdShod$Idea;I)V -/
noncomputable def kE734 : aE := (83, 3, ([kvB 0 3, kvB 297 341], [(57, 296, .inl (0, .ofNat 0)), (52, 6, .inl (1, .ofNat 0))], 0, [kvR 52, some (.inr [20, 21, 22, 23, 24, 25, 26, 27]), kvN 296, none, none], []), ([], none), ([], [], none, ([], [])), kvW74)
noncomputable def kC734_0 : aC := (([kvB 0 3, kvB 297 341, kvB 0 4, kvB 297 341], [(57, 296, .inl (0, .ofNat 0)), (52, 6, .inl (3, .ofNat 0))], 2, [kvR 52, some (.inr [20, 21, 22, 23, 24, 25, 26, 27]), kvN 296, kvI 2, none], []), ([], []), (4, [(-1, 2)]))
theorem ks734 : aseg kS krf kB [kE562, kE567, kE568, kE569] (ksp []) kE734 [kC734_0] 30000 (none) = true := asgqk (by decide +kernel)
theorem ks734_0 : aseg kS krf kB [kE562, kE567, kE568, kE569] (ksp []) kE734 [kC734_0] 30000 (some kC734_0) = true := asgqk (by decide +kernel)
theorem kok734 : aOK kS krf kB kE734 := aOK_of (kal1 kok562 (kal1 kok567 (kal1 kok568 (kal1 kok569 kal0)))) (kcl1 ks734_0 kcl0) ks734
/-- ColdShod$StrokePlan.addNext(LColdShod$Idea;I)V -/
noncomputable def kE735 : aE := (83, 3, ([kvB 0 3, kvB 296 341], [(57, 295, .inl (0, .ofNat 0)), (52, 6, .inl (1, .ofNat 0))], 0, [kvR 52, some (.inr [20, 21, 22, 23, 24, 25, 26, 27]), kvN 295, none, none], []), ([], none), ([], [], none, ([], [])), kvW74)
noncomputable def kC735_0 : aC := (([kvB 0 3, kvB 296 341, kvB 0 4, kvB 296 341], [(57, 295, .inl (0, .ofNat 0)), (52, 6, .inl (3, .ofNat 0))], 2, [kvR 52, some (.inr [20, 21, 22, 23, 24, 25, 26, 27]), kvN 295, kvI 2, none], []), ([], []), (4, [(-1, 2)]))
theorem ks735 : aseg kS krf kB [kE562, kE567, kE568, kE569] (ksp []) kE735 [kC735_0] 30000 (none) = true := asgqk (by decide +kernel)
theorem ks735_0 : aseg kS krf kB [kE562, kE567, kE568, kE569] (ksp []) kE735 [kC735_0] 30000 (some kC735_0) = true := asgqk (by decide +kernel)
theorem kok735 : aOK kS krf kB kE735 := aOK_of (kal1 kok562 (kal1 kok567 (kal1 kok568 (kal1 kok569 kal0)))) (kcl1 ks735_0 kcl0) ks735
/-- ColdShod$StrokePlan.addNext(LColdShod$Idea;I)V -/
noncomputable def kE736 : aE := (83, 3, ([kvB 0 3, kvB 295 341], [(57, 294, .inl (0, .ofNat 0)), (52, 6, .inl (1, .ofNat 0))], 0, [kvR 52, some (.inr [20, 21, 22, 23, 24, 25, 26, 27]), kvN 294, none, none], []), ([], none), ([], [], none, ([], [])), kvW74)
noncomputable def kC736_0 : aC := (([kvB 0 3, kvB 295 341, kvB 0 4, kvB 295 341], [(57, 294, .inl (0, .ofNat 0)), (52, 6, .inl (3, .ofNat 0))], 2, [kvR 52, some (.inr [20, 21, 22, 23, 24, 25, 26, 27]), kvN 294, kvI 2, none], []), ([], []), (4, [(-1, 2)]))
theorem ks736 : aseg kS krf kB [kE562, kE567, kE568, kE569] (ksp []) kE736 [kC736_0] 30000 (none) = true := asgqk (by decide +kernel)
theorem ks736_0 : aseg kS krf kB [kE562, kE567, kE568, kE569] (ksp []) kE736 [kC736_0] 30000 (some kC736_0) = true := asgqk (by decide +kernel)
theorem kok736 : aOK kS krf kB kE736 := aOK_of (kal1 kok562 (kal1 kok567 (kal1 kok568 (kal1 kok569 kal0)))) (kcl1 ks736_0 kcl0) ks736
/-- ColdShod$StrokePlan.addNext(LColdShod$Idea;I)V -/
noncomputable def kE737 : aE := (83, 3, ([kvB 0 3, kvB 294 341], [(57, 293, .inl (0, .ofNat 0)), (52, 6, .inl (1, .ofNat 0))], 0, [kvR 52, some (.inr [20, 21, 22, 23, 24, 25, 26, 27]), kvN 293, none, none], []), ([], none), ([], [], none, ([], [])), kvW74)
noncomputable def kC737_0 : aC := (([kvB 0 3, kvB 294 341, kvB 0 4, kvB 294 341], [(57, 293, .inl (0, .ofNat 0)), (52, 6, .inl (3, .ofNat 0))], 2, [kvR 52, some (.inr [20, 21, 22, 23, 24, 25, 26, 27]), kvN 293, kvI 2, none], []), ([], []), (4, [(-1, 2)]))
theorem ks737 : aseg kS krf kB [kE562, kE567, kE568, kE569] (ksp []) kE737 [kC737_0] 30000 (none) = true := asgqk (by decide +kernel)
theorem ks737_0 : aseg kS krf kB [kE562, kE567, kE568, kE569] (ksp []) kE737 [kC737_0] 30000 (some kC737_0) = true := asgqk (by decide +kernel)
theorem kok737 : aOK kS krf kB kE737 := aOK_of (kal1 kok562 (kal1 kok567 (kal1 kok568 (kal1 kok569 kal0)))) (kcl1 ks737_0 kcl0) ks737
/-- ColdShod$StrokePlan.addNext(LColdShod$Idea;I)V -/
noncomputable def kE738 : aE := (83, 3, ([kvB 0 3, kvB 293 341], [(57, 292, .inl (0, .ofNat 0)), (52, 6, .inl (1, .ofNat 0))], 0, [kvR 52, some (.inr [20, 21, 22, 23, 24, 25, 26, 27]), kvN 292, none, none], []), ([], none), ([], [], none, ([], [])), kvW74)
noncomputable def kC738_0 : aC := (([kvB 0 3, kvB 293 341, kvB 0 4, kvB 293 341], [(57, 292, .inl (0, .ofNat 0)), (52, 6, .inl (3, .ofNat 0))], 2, [kvR 52, some (.inr [20, 21, 22, 23, 24, 25, 26, 27]), kvN 292, kvI 2, none], []), ([], []), (4, [(-1, 2)]))
theorem ks738 : aseg kS krf kB [kE562, kE567, kE568, kE569] (ksp []) kE738 [kC738_0] 30000 (none) = true := asgqk (by decide +kernel)
theorem ks738_0 : aseg kS krf kB [kE562, kE567, kE568, kE569] (ksp []) kE738 [kC738_0] 30000 (some kC738_0) = true := asgqk (by decide +kernel)
theorem kok738 : aOK kS krf kB kE738 := aOK_of (kal1 kok562 (kal1 kok567 (kal1 kok568 (kal1 kok569 kal0)))) (kcl1 ks738_0 kcl0) ks738
/-- ColdShod$StrokePlan.addNext(LColdShod$Idea;I)V -/
noncomputable def kE739 : aE := (83, 3, ([kvB 0 3, kvB 292 341], [(57, 291, .inl (0, .ofNat 0)), (52, 6, .inl (1, .ofNat 0))], 0, [kvR 52, some (.inr [20, 21, 22, 23, 24, 25, 26, 27]), kvN 291, none, none], []), ([], none), ([], [], none, ([], [])), kvW74)
noncomputable def kC739_0 : aC := (([kvB 0 3, kvB 292 341, kvB 0 4, kvB 292 341], [(57, 291, .inl (0, .ofNat 0)), (52, 6, .inl (3, .ofNat 0))], 2, [kvR 52, some (.inr [20, 21, 22, 23, 24, 25, 26, 27]), kvN 291, kvI 2, none], []), ([], []), (4, [(-1, 2)]))
theorem ks739 : aseg kS krf kB [kE562, kE567, kE568, kE569] (ksp []) kE739 [kC739_0] 30000 (none) = true := asgqk (by decide +kernel)
theorem ks739_0 : aseg kS krf kB [kE562, kE567, kE568, kE569] (ksp []) kE739 [kC739_0] 30000 (some kC739_0) = true := asgqk (by decide +kernel)
theorem kok739 : aOK kS krf kB kE739 := aOK_of (kal1 kok562 (kal1 kok567 (kal1 kok568 (kal1 kok569 kal0)))) (kcl1 ks739_0 kcl0) ks739
/-- ColdShod$StrokePlan.addNext(LColdShod$Idea;I)V -/
noncomputable def kE740 : aE := (83, 3, ([kvB 0 3, kvB 291 341], [(57, 290, .inl (0, .ofNat 0)), (52, 6, .inl (1, .ofNat 0))], 0, [kvR 52, some (.inr [20, 21, 22, 23, 24, 25, 26, 27]), kvN 290, none, none], []), ([], none), ([], [], none, ([], [])), kvW74)
noncomputable def kC740_0 : aC := (([kvB 0 3, kvB 291 341, kvB 0 4, kvB 291 341], [(57, 290, .inl (0, .ofNat 0)), (52, 6, .inl (3, .ofNat 0))], 2, [kvR 52, some (.inr [20, 21, 22, 23, 24, 25, 26, 27]), kvN 290, kvI 2, none], []), ([], []), (4, [(-1, 2)]))
theorem ks740 : aseg kS krf kB [kE562, kE567, kE568, kE569] (ksp []) kE740 [kC740_0] 30000 (none) = true := asgqk (by decide +kernel)
theorem ks740_0 : aseg kS krf kB [kE562, kE567, kE568, kE569] (ksp []) kE740 [kC740_0] 30000 (some kC740_0) = true := asgqk (by decide +kernel)
theorem kok740 : aOK kS krf kB kE740 := aOK_of (kal1 kok562 (kal1 kok567 (kal1 kok568 (kal1 kok569 kal0)))) (kcl1 ks740_0 kcl0) ks740
/-- ColdShod$StrokePlan.addNext(LColdShod$Idea;I)V -/
noncomputable def kE741 : aE := (83, 3, ([kvB 0 3, kvB 290 341], [(57, 289, .inl (0, .ofNat 0)), (52, 6, .inl (1, .ofNat 0))], 0, [kvR 52, some (.inr [20, 21, 22, 23, 24, 25, 26, 27]), kvN 289, none, none], []), ([], none), ([], [], none, ([], [])), kvW74)
noncomputable def kC741_0 : aC := (([kvB 0 3, kvB 290 341, kvB 0 4, kvB 290 341], [(57, 289, .inl (0, .ofNat 0)), (52, 6, .inl (3, .ofNat 0))], 2, [kvR 52, some (.inr [20, 21, 22, 23, 24, 25, 26, 27]), kvN 289, kvI 2, none], []), ([], []), (4, [(-1, 2)]))
theorem ks741 : aseg kS krf kB [kE562, kE567, kE568, kE569] (ksp []) kE741 [kC741_0] 30000 (none) = true := asgqk (by decide +kernel)
theorem ks741_0 : aseg kS krf kB [kE562, kE567, kE568, kE569] (ksp []) kE741 [kC741_0] 30000 (some kC741_0) = true := asgqk (by decide +kernel)
theorem kok741 : aOK kS krf kB kE741 := aOK_of (kal1 kok562 (kal1 kok567 (kal1 kok568 (kal1 kok569 kal0)))) (kcl1 ks741_0 kcl0) ks741
/-- ColdShod$StrokePlan.addNext(LColdShod$Idea;I)V -/
noncomputable def kE742 : aE := (83, 3, ([kvB 0 3, kvB 289 341], [(57, 288, .inl (0, .ofNat 0)), (52, 6, .inl (1, .ofNat 0))], 0, [kvR 52, some (.inr [20, 21, 22, 23, 24, 25, 26, 27]), kvN 288, none, none], []), ([], none), ([], [], none, ([], [])), kvW74)
noncomputable def kC742_0 : aC := (([kvB 0 3, kvB 289 341, kvB 0 4, kvB 289 341], [(57, 288, .inl (0, .ofNat 0)), (52, 6, .inl (3, .ofNat 0))], 2, [kvR 52, some (.inr [20, 21, 22, 23, 24, 25, 26, 27]), kvN 288, kvI 2, none], []), ([], []), (4, [(-1, 2)]))
theorem ks742 : aseg kS krf kB [kE562, kE567, kE568, kE569] (ksp []) kE742 [kC742_0] 30000 (none) = true := asgqk (by decide +kernel)
theorem ks742_0 : aseg kS krf kB [kE562, kE567, kE568, kE569] (ksp []) kE742 [kC742_0] 30000 (some kC742_0) = true := asgqk (by decide +kernel)
theorem kok742 : aOK kS krf kB kE742 := aOK_of (kal1 kok562 (kal1 kok567 (kal1 kok568 (kal1 kok569 kal0)))) (kcl1 ks742_0 kcl0) ks742
/-- ColdShod$StrokePlan.addNext(LColdShod$Idea;I)V -/
noncomputable def kE743 : aE := (83, 3, ([kvB 0 3, kvB 288 341], [(57, 287, .inl (0, .ofNat 0)), (52, 6, .inl (1, .ofNat 0))], 0, [kvR 52, some (.inr [20, 21, 22, 23, 24, 25, 26, 27]), kvN 287, none, none], []), ([], none), ([], [], none, ([], [])), kvW74)
noncomputable def kC743_0 : aC := (([kvB 0 3, kvB 288 341, kvB 0 4, kvB 288 341], [(57, 287, .inl (0, .ofNat 0)), (52, 6, .inl (3, .ofNat 0))], 2, [kvR 52, some (.inr [20, 21, 22, 23, 24, 25, 26, 27]), kvN 287, kvI 2, none], []), ([], []), (4, [(-1, 2)]))
theorem ks743 : aseg kS krf kB [kE562, kE567, kE568, kE569] (ksp []) kE743 [kC743_0] 30000 (none) = true := asgqk (by decide +kernel)
theorem ks743_0 : aseg kS krf kB [kE562, kE567, kE568, kE569] (ksp []) kE743 [kC743_0] 30000 (some kC743_0) = true := asgqk (by decide +kernel)
theorem kok743 : aOK kS krf kB kE743 := aOK_of (kal1 kok562 (kal1 kok567 (kal1 kok568 (kal1 kok569 kal0)))) (kcl1 ks743_0 kcl0) ks743
/-- ColdShod$StrokePlan.addNext(LColdShod$Idea;I)V -/
noncomputable def kE744 : aE := (83, 3, ([kvB 0 3, kvB 287 341], [(57, 286, .inl (0, .ofNat 0)), (52, 6, .inl (1, .ofNat 0))], 0, [kvR 52, some (.inr [20, 21, 22, 23, 24, 25, 26, 27]), kvN 286, none, none], []), ([], none), ([], [], none, ([], [])), kvW74)
noncomputable def kC744_0 : aC := (([kvB 0 3, kvB 287 341, kvB 0 4, kvB 287 341], [(57, 286, .inl (0, .ofNat 0)), (52, 6, .inl (3, .ofNat 0))], 2, [kvR 52, some (.inr [20, 21, 22, 23, 24, 25, 26, 27]), kvN 286, kvI 2, none], []), ([], []), (4, [(-1, 2)]))
theorem ks744 : aseg kS krf kB [kE562, kE567, kE568, kE569] (ksp []) kE744 [kC744_0] 30000 (none) = true := asgqk (by decide +kernel)
theorem ks744_0 : aseg kS krf kB [kE562, kE567, kE568, kE569] (ksp []) kE744 [kC744_0] 30000 (some kC744_0) = true := asgqk (by decide +kernel)
theorem kok744 : aOK kS krf kB kE744 := aOK_of (kal1 kok562 (kal1 kok567 (kal1 kok568 (kal1 kok569 kal0)))) (kcl1 ks744_0 kcl0) ks744
/-- ColdShod$StrokePlan.addNext(LColdShod$Idea;I)V -/
noncomputable def kE745 : aE := (83, 3, ([kvB 0 3, kvB 286 341], [(57, 285, .inl (0, .ofNat 0)), (52, 6, .inl (1, .ofNat 0))], 0, [kvR 52, some (.inr [20, 21, 22, 23, 24, 25, 26, 27]), kvN 285, none, none], []), ([], none), ([], [], none, ([], [])), kvW74)
noncomputable def kC745_0 : aC := (([kvB 0 3, kvB 286 341, kvB 0 4, kvB 286 341], [(57, 285, .inl (0, .ofNat 0)), (52, 6, .inl (3, .ofNat 0))], 2, [kvR 52, some (.inr [20, 21, 22, 23, 24, 25, 26, 27]), kvN 285, kvI 2, none], []), ([], []), (4, [(-1, 2)]))
theorem ks745 : aseg kS krf kB [kE562, kE567, kE568, kE569] (ksp []) kE745 [kC745_0] 30000 (none) = true := asgqk (by decide +kernel)
theorem ks745_0 : aseg kS krf kB [kE562, kE567, kE568, kE569] (ksp []) kE745 [kC745_0] 30000 (some kC745_0) = true := asgqk (by decide +kernel)
theorem kok745 : aOK kS krf kB kE745 := aOK_of (kal1 kok562 (kal1 kok567 (kal1 kok568 (kal1 kok569 kal0)))) (kcl1 ks745_0 kcl0) ks745
/-- ColdShod$StrokePlan.addNext(LColdShod$Idea;I)V -/
noncomputable def kE746 : aE := (83, 3, ([kvB 0 3, kvB 285 341], [(57, 284, .inl (0, .ofNat 0)), (52, 6, .inl (1, .ofNat 0))], 0, [kvR 52, some (.inr [20, 21, 22, 23, 24, 25, 26, 27]), kvN 284, none, none], []), ([], none), ([], [], none, ([], [])), kvW74)
noncomputable def kC746_0 : aC := (([kvB 0 3, kvB 285 341, kvB 0 4, kvB 285 341], [(57, 284, .inl (0, .ofNat 0)), (52, 6, .inl (3, .ofNat 0))], 2, [kvR 52, some (.inr [20, 21, 22, 23, 24, 25, 26, 27]), kvN 284, kvI 2, none], []), ([], []), (4, [(-1, 2)]))
theorem ks746 : aseg kS krf kB [kE562, kE567, kE568, kE569] (ksp []) kE746 [kC746_0] 30000 (none) = true := asgqk (by decide +kernel)
theorem ks746_0 : aseg kS krf kB [kE562, kE567, kE568, kE569] (ksp []) kE746 [kC746_0] 30000 (some kC746_0) = true := asgqk (by decide +kernel)
theorem kok746 : aOK kS krf kB kE746 := aOK_of (kal1 kok562 (kal1 kok567 (kal1 kok568 (kal1 kok569 kal0)))) (kcl1 ks746_0 kcl0) ks746
/-- ColdShod$StrokePlan.addNext(LColdShod$Idea;I)V -/
noncomputable def kE747 : aE := (83, 3, ([kvB 0 3, kvB 284 341], [(57, 283, .inl (0, .ofNat 0)), (52, 6, .inl (1, .ofNat 0))], 0, [kvR 52, some (.inr [20, 21, 22, 23, 24, 25, 26, 27]), kvN 283, none, none], []), ([], none), ([], [], none, ([], [])), kvW74)
noncomputable def kC747_0 : aC := (([kvB 0 3, kvB 284 341, kvB 0 4, kvB 284 341], [(57, 283, .inl (0, .ofNat 0)), (52, 6, .inl (3, .ofNat 0))], 2, [kvR 52, some (.inr [20, 21, 22, 23, 24, 25, 26, 27]), kvN 283, kvI 2, none], []), ([], []), (4, [(-1, 2)]))
theorem ks747 : aseg kS krf kB [kE562, kE567, kE568, kE569] (ksp []) kE747 [kC747_0] 30000 (none) = true := asgqk (by decide +kernel)
theorem ks747_0 : aseg kS krf kB [kE562, kE567, kE568, kE569] (ksp []) kE747 [kC747_0] 30000 (some kC747_0) = true := asgqk (by decide +kernel)
theorem kok747 : aOK kS krf kB kE747 := aOK_of (kal1 kok562 (kal1 kok567 (kal1 kok568 (kal1 kok569 kal0)))) (kcl1 ks747_0 kcl0) ks747
/-- ColdShod$StrokePlan.addNext(LColdShod$Idea;I)V -/
noncomputable def kE748 : aE := (83, 3, ([kvB 0 3, kvB 283 341], [(57, 282, .inl (0, .ofNat 0)), (52, 6, .inl (1, .ofNat 0))], 0, [kvR 52, some (.inr [20, 21, 22, 23, 24, 25, 26, 27]), kvN 282, none, none], []), ([], none), ([], [], none, ([], [])), kvW74)
noncomputable def kC748_0 : aC := (([kvB 0 3, kvB 283 341, kvB 0 4, kvB 283 341], [(57, 282, .inl (0, .ofNat 0)), (52, 6, .inl (3, .ofNat 0))], 2, [kvR 52, some (.inr [20, 21, 22, 23, 24, 25, 26, 27]), kvN 282, kvI 2, none], []), ([], []), (4, [(-1, 2)]))
theorem ks748 : aseg kS krf kB [kE562, kE567, kE568, kE569] (ksp []) kE748 [kC748_0] 30000 (none) = true := asgqk (by decide +kernel)
theorem ks748_0 : aseg kS krf kB [kE562, kE567, kE568, kE569] (ksp []) kE748 [kC748_0] 30000 (some kC748_0) = true := asgqk (by decide +kernel)
theorem kok748 : aOK kS krf kB kE748 := aOK_of (kal1 kok562 (kal1 kok567 (kal1 kok568 (kal1 kok569 kal0)))) (kcl1 ks748_0 kcl0) ks748
/-- ColdShod$StrokePlan.addNext(LColdShod$Idea;I)V -/
noncomputable def kE749 : aE := (83, 3, ([kvB 0 3, kvB 282 341], [(57, 281, .inl (0, .ofNat 0)), (52, 6, .inl (1, .ofNat 0))], 0, [kvR 52, some (.inr [20, 21, 22, 23, 24, 25, 26, 27]), kvN 281, none, none], []), ([], none), ([], [], none, ([], [])), kvW74)
noncomputable def kC749_0 : aC := (([kvB 0 3, kvB 282 341, kvB 0 4, kvB 282 341], [(57, 281, .inl (0, .ofNat 0)), (52, 6, .inl (3, .ofNat 0))], 2, [kvR 52, some (.inr [20, 21, 22, 23, 24, 25, 26, 27]), kvN 281, kvI 2, none], []), ([], []), (4, [(-1, 2)]))
theorem ks749 : aseg kS krf kB [kE562, kE567, kE568, kE569] (ksp []) kE749 [kC749_0] 30000 (none) = true := asgqk (by decide +kernel)
theorem ks749_0 : aseg kS krf kB [kE562, kE567, kE568, kE569] (ksp []) kE749 [kC749_0] 30000 (some kC749_0) = true := asgqk (by decide +kernel)
theorem kok749 : aOK kS krf kB kE749 := aOK_of (kal1 kok562 (kal1 kok567 (kal1 kok568 (kal1 kok569 kal0)))) (kcl1 ks749_0 kcl0) ks749
/-- ColdShod$StrokePlan.addNext(LColdShod$Idea;I)V -/
noncomputable def kE750 : aE := (83, 3, ([kvB 0 3, kvB 281 341], [(57, 280, .inl (0, .ofNat 0)), (52, 6, .inl (1, .ofNat 0))], 0, [kvR 52, some (.inr [20, 21, 22, 23, 24, 25, 26, 27]), kvN 280, none, none], []), ([], none), ([], [], none, ([], [])), kvW74)
noncomputable def kC750_0 : aC := (([kvB 0 3, kvB 281 341, kvB 0 4, kvB 281 341], [(57, 280, .inl (0, .ofNat 0)), (52, 6, .inl (3, .ofNat 0))], 2, [kvR 52, some (.inr [20, 21, 22, 23, 24, 25, 26, 27]), kvN 280, kvI 2, none], []), ([], []), (4, [(-1, 2)]))
theorem ks750 : aseg kS krf kB [kE562, kE567, kE568, kE569] (ksp []) kE750 [kC750_0] 30000 (none) = true := asgqk (by decide +kernel)
theorem ks750_0 : aseg kS krf kB [kE562, kE567, kE568, kE569] (ksp []) kE750 [kC750_0] 30000 (some kC750_0) = true := asgqk (by decide +kernel)
theorem kok750 : aOK kS krf kB kE750 := aOK_of (kal1 kok562 (kal1 kok567 (kal1 kok568 (kal1 kok569 kal0)))) (kcl1 ks750_0 kcl0) ks750
/-- ColdShod$StrokePlan.addNext(LColdShod$Idea;I)V -/
noncomputable def kE751 : aE := (83, 3, ([kvB 0 3, kvB 280 341], [(57, 279, .inl (0, .ofNat 0)), (52, 6, .inl (1, .ofNat 0))], 0, [kvR 52, some (.inr [20, 21, 22, 23, 24, 25, 26, 27]), kvN 279, none, none], []), ([], none), ([], [], none, ([], [])), kvW74)
noncomputable def kC751_0 : aC := (([kvB 0 3, kvB 280 341, kvB 0 4, kvB 280 341], [(57, 279, .inl (0, .ofNat 0)), (52, 6, .inl (3, .ofNat 0))], 2, [kvR 52, some (.inr [20, 21, 22, 23, 24, 25, 26, 27]), kvN 279, kvI 2, none], []), ([], []), (4, [(-1, 2)]))
theorem ks751 : aseg kS krf kB [kE562, kE567, kE568, kE569] (ksp []) kE751 [kC751_0] 30000 (none) = true := asgqk (by decide +kernel)
theorem ks751_0 : aseg kS krf kB [kE562, kE567, kE568, kE569] (ksp []) kE751 [kC751_0] 30000 (some kC751_0) = true := asgqk (by decide +kernel)
theorem kok751 : aOK kS krf kB kE751 := aOK_of (kal1 kok562 (kal1 kok567 (kal1 kok568 (kal1 kok569 kal0)))) (kcl1 ks751_0 kcl0) ks751
/-- ColdShod$StrokePlan.addNext(LColdShod$Idea;I)V -/
noncomputable def kE752 : aE := (83, 3, ([kvB 0 3, kvB 279 341], [(57, 278, .inl (0, .ofNat 0)), (52, 6, .inl (1, .ofNat 0))], 0, [kvR 52, some (.inr [20, 21, 22, 23, 24, 25, 26, 27]), kvN 278, none, none], []), ([], none), ([], [], none, ([], [])), kvW74)
noncomputable def kC752_0 : aC := (([kvB 0 3, kvB 279 341, kvB 0 4, kvB 279 341], [(57, 278, .inl (0, .ofNat 0)), (52, 6, .inl (3, .ofNat 0))], 2, [kvR 52, some (.inr [20, 21, 22, 23, 24, 25, 26, 27]), kvN 278, kvI 2, none], []), ([], []), (4, [(-1, 2)]))
theorem ks752 : aseg kS krf kB [kE562, kE567, kE568, kE569] (ksp []) kE752 [kC752_0] 30000 (none) = true := asgqk (by decide +kernel)
theorem ks752_0 : aseg kS krf kB [kE562, kE567, kE568, kE569] (ksp []) kE752 [kC752_0] 30000 (some kC752_0) = true := asgqk (by decide +kernel)
theorem kok752 : aOK kS krf kB kE752 := aOK_of (kal1 kok562 (kal1 kok567 (kal1 kok568 (kal1 kok569 kal0)))) (kcl1 ks752_0 kcl0) ks752
/-- ColdShod$StrokePlan.addNext(LColdShod$Idea;I)V -/
noncomputable def kE753 : aE := (83, 3, ([kvB 0 3, kvB 278 341], [(57, 277, .inl (0, .ofNat 0)), (52, 6, .inl (1, .ofNat 0))], 0, [kvR 52, some (.inr [20, 21, 22, 23, 24, 25, 26, 27]), kvN 277, none, none], []), ([], none), ([], [], none, ([], [])), kvW74)
noncomputable def kC753_0 : aC := (([kvB 0 3, kvB 278 341, kvB 0 4, kvB 278 341], [(57, 277, .inl (0, .ofNat 0)), (52, 6, .inl (3, .ofNat 0))], 2, [kvR 52, some (.inr [20, 21, 22, 23, 24, 25, 26, 27]), kvN 277, kvI 2, none], []), ([], []), (4, [(-1, 2)]))
theorem ks753 : aseg kS krf kB [kE562, kE567, kE568, kE569] (ksp []) kE753 [kC753_0] 30000 (none) = true := asgqk (by decide +kernel)
theorem ks753_0 : aseg kS krf kB [kE562, kE567, kE568, kE569] (ksp []) kE753 [kC753_0] 30000 (some kC753_0) = true := asgqk (by decide +kernel)
theorem kok753 : aOK kS krf kB kE753 := aOK_of (kal1 kok562 (kal1 kok567 (kal1 kok568 (kal1 kok569 kal0)))) (kcl1 ks753_0 kcl0) ks753
/-- ColdShod$StrokePlan.addNext(LColdShod$Idea;I)V -/
noncomputable def kE754 : aE := (83, 3, ([kvB 0 3, kvB 277 341], [(57, 276, .inl (0, .ofNat 0)), (52, 6, .inl (1, .ofNat 0))], 0, [kvR 52, some (.inr [20, 21, 22, 23, 24, 25, 26, 27]), kvN 276, none, none], []), ([], none), ([], [], none, ([], [])), kvW74)
noncomputable def kC754_0 : aC := (([kvB 0 3, kvB 277 341, kvB 0 4, kvB 277 341], [(57, 276, .inl (0, .ofNat 0)), (52, 6, .inl (3, .ofNat 0))], 2, [kvR 52, some (.inr [20, 21, 22, 23, 24, 25, 26, 27]), kvN 276, kvI 2, none], []), ([], []), (4, [(-1, 2)]))
theorem ks754 : aseg kS krf kB [kE562, kE567, kE568, kE569] (ksp []) kE754 [kC754_0] 30000 (none) = true := asgqk (by decide +kernel)
theorem ks754_0 : aseg kS krf kB [kE562, kE567, kE568, kE569] (ksp []) kE754 [kC754_0] 30000 (some kC754_0) = true := asgqk (by decide +kernel)
theorem kok754 : aOK kS krf kB kE754 := aOK_of (kal1 kok562 (kal1 kok567 (kal1 kok568 (kal1 kok569 kal0)))) (kcl1 ks754_0 kcl0) ks754
/-- ColdShod$StrokePlan.addNext(LColdShod$Idea;I)V -/
noncomputable def kE755 : aE := (83, 3, ([kvB 0 3, kvB 276 341], [(57, 275, .inl (0, .ofNat 0)), (52, 6, .inl (1, .ofNat 0))], 0, [kvR 52, some (.inr [20, 21, 22, 23, 24, 25, 26, 27]), kvN 275, none, none], []), ([], none), ([], [], none, ([], [])), kvW74)
noncomputable def kC755_0 : aC := (([kvB 0 3, kvB 276 341, kvB 0 4, kvB 276 341], [(57, 275, .inl (0, .ofNat 0)), (52, 6, .inl (3, .ofNat 0))], 2, [kvR 52, some (.inr [20, 21, 22, 23, 24, 25, 26, 27]), kvN 275, kvI 2, none], []), ([], []), (4, [(-1, 2)]))
theorem ks755 : aseg kS krf kB [kE562, kE567, kE568, kE569] (ksp []) kE755 [kC755_0] 30000 (none) = true := asgqk (by decide +kernel)
theorem ks755_0 : aseg kS krf kB [kE562, kE567, kE568, kE569] (ksp []) kE755 [kC755_0] 30000 (some kC755_0) = true := asgqk (by decide +kernel)
theorem kok755 : aOK kS krf kB kE755 := aOK_of (kal1 kok562 (kal1 kok567 (kal1 kok568 (kal1 kok569 kal0)))) (kcl1 ks755_0 kcl0) ks755
/-- ColdShod$StrokePlan.addNext(LColdShod$Idea;I)V -/
noncomputable def kE756 : aE := (83, 3, ([kvB 0 3, kvB 275 341], [(57, 274, .inl (0, .ofNat 0)), (52, 6, .inl (1, .ofNat 0))], 0, [kvR 52, some (.inr [20, 21, 22, 23, 24, 25, 26, 27]), kvN 274, none, none], []), ([], none), ([], [], none, ([], [])), kvW74)
noncomputable def kC756_0 : aC := (([kvB 0 3, kvB 275 341, kvB 0 4, kvB 275 341], [(57, 274, .inl (0, .ofNat 0)), (52, 6, .inl (3, .ofNat 0))], 2, [kvR 52, some (.inr [20, 21, 22, 23, 24, 25, 26, 27]), kvN 274, kvI 2, none], []), ([], []), (4, [(-1, 2)]))
theorem ks756 : aseg kS krf kB [kE562, kE567, kE568, kE569] (ksp []) kE756 [kC756_0] 30000 (none) = true := asgqk (by decide +kernel)
theorem ks756_0 : aseg kS krf kB [kE562, kE567, kE568, kE569] (ksp []) kE756 [kC756_0] 30000 (some kC756_0) = true := asgqk (by decide +kernel)
theorem kok756 : aOK kS krf kB kE756 := aOK_of (kal1 kok562 (kal1 kok567 (kal1 kok568 (kal1 kok569 kal0)))) (kcl1 ks756_0 kcl0) ks756
/-- ColdShod$StrokePlan.addNext(LColdShod$Idea;I)V -/
noncomputable def kE757 : aE := (83, 3, ([kvB 0 3, kvB 274 341], [(57, 273, .inl (0, .ofNat 0)), (52, 6, .inl (1, .ofNat 0))], 0, [kvR 52, some (.inr [20, 21, 22, 23, 24, 25, 26, 27]), kvN 273, none, none], []), ([], none), ([], [], none, ([], [])), kvW74)
noncomputable def kC757_0 : aC := (([kvB 0 3, kvB 274 341, kvB 0 4, kvB 274 341], [(57, 273, .inl (0, .ofNat 0)), (52, 6, .inl (3, .ofNat 0))], 2, [kvR 52, some (.inr [20, 21, 22, 23, 24, 25, 26, 27]), kvN 273, kvI 2, none], []), ([], []), (4, [(-1, 2)]))
theorem ks757 : aseg kS krf kB [kE562, kE567, kE568, kE569] (ksp []) kE757 [kC757_0] 30000 (none) = true := asgqk (by decide +kernel)
theorem ks757_0 : aseg kS krf kB [kE562, kE567, kE568, kE569] (ksp []) kE757 [kC757_0] 30000 (some kC757_0) = true := asgqk (by decide +kernel)
theorem kok757 : aOK kS krf kB kE757 := aOK_of (kal1 kok562 (kal1 kok567 (kal1 kok568 (kal1 kok569 kal0)))) (kcl1 ks757_0 kcl0) ks757
/-- ColdShod$StrokePlan.addNext(LColdShod$Idea;I)V -/
noncomputable def kE758 : aE := (83, 3, ([kvB 0 3, kvB 273 341], [(57, 272, .inl (0, .ofNat 0)), (52, 6, .inl (1, .ofNat 0))], 0, [kvR 52, some (.inr [20, 21, 22, 23, 24, 25, 26, 27]), kvN 272, none, none], []), ([], none), ([], [], none, ([], [])), kvW74)
noncomputable def kC758_0 : aC := (([kvB 0 3, kvB 273 341, kvB 0 4, kvB 273 341], [(57, 272, .inl (0, .ofNat 0)), (52, 6, .inl (3, .ofNat 0))], 2, [kvR 52, some (.inr [20, 21, 22, 23, 24, 25, 26, 27]), kvN 272, kvI 2, none], []), ([], []), (4, [(-1, 2)]))
theorem ks758 : aseg kS krf kB [kE562, kE567, kE568, kE569] (ksp []) kE758 [kC758_0] 30000 (none) = true := asgqk (by decide +kernel)
theorem ks758_0 : aseg kS krf kB [kE562, kE567, kE568, kE569] (ksp []) kE758 [kC758_0] 30000 (some kC758_0) = true := asgqk (by decide +kernel)
theorem kok758 : aOK kS krf kB kE758 := aOK_of (kal1 kok562 (kal1 kok567 (kal1 kok568 (kal1 kok569 kal0)))) (kcl1 ks758_0 kcl0) ks758
/-- ColdShod$StrokePlan.addNext(LColdShod$Idea;I)V -/
noncomputable def kE759 : aE := (83, 3, ([kvB 0 3, kvB 272 341], [(57, 271, .inl (0, .ofNat 0)), (52, 6, .inl (1, .ofNat 0))], 0, [kvR 52, some (.inr [20, 21, 22, 23, 24, 25, 26, 27]), kvN 271, none, none], []), ([], none), ([], [], none, ([], [])), kvW74)
noncomputable def kC759_0 : aC := (([kvB 0 3, kvB 272 341, kvB 0 4, kvB 272 341], [(57, 271, .inl (0, .ofNat 0)), (52, 6, .inl (3, .ofNat 0))], 2, [kvR 52, some (.inr [20, 21, 22, 23, 24, 25, 26, 27]), kvN 271, kvI 2, none], []), ([], []), (4, [(-1, 2)]))
theorem ks759 : aseg kS krf kB [kE562, kE567, kE568, kE569] (ksp []) kE759 [kC759_0] 30000 (none) = true := asgqk (by decide +kernel)
theorem ks759_0 : aseg kS krf kB [kE562, kE567, kE568, kE569] (ksp []) kE759 [kC759_0] 30000 (some kC759_0) = true := asgqk (by decide +kernel)
theorem kok759 : aOK kS krf kB kE759 := aOK_of (kal1 kok562 (kal1 kok567 (kal1 kok568 (kal1 kok569 kal0)))) (kcl1 ks759_0 kcl0) ks759
/-- ColdShod$StrokePlan.addNext(LColdShod$Idea;I)V -/
noncomputable def kE760 : aE := (83, 3, ([kvB 0 3, kvB 271 341], [(57, 270, .inl (0, .ofNat 0)), (52, 6, .inl (1, .ofNat 0))], 0, [kvR 52, some (.inr [20, 21, 22, 23, 24, 25, 26, 27]), kvN 270, none, none], []), ([], none), ([], [], none, ([], [])), kvW74)
noncomputable def kC760_0 : aC := (([kvB 0 3, kvB 271 341, kvB 0 4, kvB 271 341], [(57, 270, .inl (0, .ofNat 0)), (52, 6, .inl (3, .ofNat 0))], 2, [kvR 52, some (.inr [20, 21, 22, 23, 24, 25, 26, 27]), kvN 270, kvI 2, none], []), ([], []), (4, [(-1, 2)]))
theorem ks760 : aseg kS krf kB [kE562, kE567, kE568, kE569] (ksp []) kE760 [kC760_0] 30000 (none) = true := asgqk (by decide +kernel)
theorem ks760_0 : aseg kS krf kB [kE562, kE567, kE568, kE569] (ksp []) kE760 [kC760_0] 30000 (some kC760_0) = true := asgqk (by decide +kernel)
theorem kok760 : aOK kS krf kB kE760 := aOK_of (kal1 kok562 (kal1 kok567 (kal1 kok568 (kal1 kok569 kal0)))) (kcl1 ks760_0 kcl0) ks760
/-- ColdShod$StrokePlan.addNext(LColdShod$Idea;I)V -/
noncomputable def kE761 : aE := (83, 3, ([kvB 0 3, kvB 270 341], [(57, 269, .inl (0, .ofNat 0)), (52, 6, .inl (1, .ofNat 0))], 0, [kvR 52, some (.inr [20, 21, 22, 23, 24, 25, 26, 27]), kvN 269, none, none], []), ([], none), ([], [], none, ([], [])), kvW74)
noncomputable def kC761_0 : aC := (([kvB 0 3, kvB 270 341, kvB 0 4, kvB 270 341], [(57, 269, .inl (0, .ofNat 0)), (52, 6, .inl (3, .ofNat 0))], 2, [kvR 52, some (.inr [20, 21, 22, 23, 24, 25, 26, 27]), kvN 269, kvI 2, none], []), ([], []), (4, [(-1, 2)]))
theorem ks761 : aseg kS krf kB [kE562, kE567, kE568, kE569] (ksp []) kE761 [kC761_0] 30000 (none) = true := asgqk (by decide +kernel)
theorem ks761_0 : aseg kS krf kB [kE562, kE567, kE568, kE569] (ksp []) kE761 [kC761_0] 30000 (some kC761_0) = true := asgqk (by decide +kernel)
theorem kok761 : aOK kS krf kB kE761 := aOK_of (kal1 kok562 (kal1 kok567 (kal1 kok568 (kal1 kok569 kal0)))) (kcl1 ks761_0 kcl0) ks761
/-- ColdShod$StrokePlan.addNext(LColdShod$Idea;I)V -/
noncomputable def kE762 : aE := (83, 3, ([kvB 0 3, kvB 269 341], [(57, 268, .inl (0, .ofNat 0)), (52, 6, .inl (1, .ofNat 0))], 0, [kvR 52, some (.inr [20, 21, 22, 23, 24, 25, 26, 27]), kvN 268, none, none], []), ([], none), ([], [], none, ([], [])), kvW74)
noncomputable def kC762_0 : aC := (([kvB 0 3, kvB 269 341, kvB 0 4, kvB 269 341], [(57, 268, .inl (0, .ofNat 0)), (52, 6, .inl (3, .ofNat 0))], 2, [kvR 52, some (.inr [20, 21, 22, 23, 24, 25, 26, 27]), kvN 268, kvI 2, none], []), ([], []), (4, [(-1, 2)]))
theorem ks762 : aseg kS krf kB [kE562, kE567, kE568, kE569] (ksp []) kE762 [kC762_0] 30000 (none) = true := asgqk (by decide +kernel)
theorem ks762_0 : aseg kS krf kB [kE562, kE567, kE568, kE569] (ksp []) kE762 [kC762_0] 30000 (some kC762_0) = true := asgqk (by decide +kernel)
theorem kok762 : aOK kS krf kB kE762 := aOK_of (kal1 kok562 (kal1 kok567 (kal1 kok568 (kal1 kok569 kal0)))) (kcl1 ks762_0 kcl0) ks762
/-- ColdShod$StrokePlan.addNext(LColdShod$Idea;I)V -/
noncomputable def kE763 : aE := (83, 3, ([kvB 0 3, kvB 268 341], [(57, 267, .inl (0, .ofNat 0)), (52, 6, .inl (1, .ofNat 0))], 0, [kvR 52, some (.inr [20, 21, 22, 23, 24, 25, 26, 27]), kvN 267, none, none], []), ([], none), ([], [], none, ([], [])), kvW74)
noncomputable def kC763_0 : aC := (([kvB 0 3, kvB 268 341, kvB 0 4, kvB 268 341], [(57, 267, .inl (0, .ofNat 0)), (52, 6, .inl (3, .ofNat 0))], 2, [kvR 52, some (.inr [20, 21, 22, 23, 24, 25, 26, 27]), kvN 267, kvI 2, none], []), ([], []), (4, [(-1, 2)]))
theorem ks763 : aseg kS krf kB [kE562, kE567, kE568, kE569] (ksp []) kE763 [kC763_0] 30000 (none) = true := asgqk (by decide +kernel)
theorem ks763_0 : aseg kS krf kB [kE562, kE567, kE568, kE569] (ksp []) kE763 [kC763_0] 30000 (some kC763_0) = true := asgqk (by decide +kernel)
theorem kok763 : aOK kS krf kB kE763 := aOK_of (kal1 kok562 (kal1 kok567 (kal1 kok568 (kal1 kok569 kal0)))) (kcl1 ks763_0 kcl0) ks763
/-- ColdShod$StrokePlan.addNext(LColdShod$Idea;I)V -/
noncomputable def kE764 : aE := (83, 3, ([kvB 0 3, kvB 267 341], [(57, 266, .inl (0, .ofNat 0)), (52, 6, .inl (1, .ofNat 0))], 0, [kvR 52, some (.inr [20, 21, 22, 23, 24, 25, 26, 27]), kvN 266, none, none], []), ([], none), ([], [], none, ([], [])), kvW74)
noncomputable def kC764_0 : aC := (([kvB 0 3, kvB 267 341, kvB 0 4, kvB 267 341], [(57, 266, .inl (0, .ofNat 0)), (52, 6, .inl (3, .ofNat 0))], 2, [kvR 52, some (.inr [20, 21, 22, 23, 24, 25, 26, 27]), kvN 266, kvI 2, none], []), ([], []), (4, [(-1, 2)]))
theorem ks764 : aseg kS krf kB [kE562, kE567, kE568, kE569] (ksp []) kE764 [kC764_0] 30000 (none) = true := asgqk (by decide +kernel)
theorem ks764_0 : aseg kS krf kB [kE562, kE567, kE568, kE569] (ksp []) kE764 [kC764_0] 30000 (some kC764_0) = true := asgqk (by decide +kernel)
theorem kok764 : aOK kS krf kB kE764 := aOK_of (kal1 kok562 (kal1 kok567 (kal1 kok568 (kal1 kok569 kal0)))) (kcl1 ks764_0 kcl0) ks764
/-- ColdShod$StrokePlan.addNext(LColdShod$Idea;I)V -/
noncomputable def kE765 : aE := (83, 3, ([kvB 0 3, kvB 266 341], [(57, 265, .inl (0, .ofNat 0)), (52, 6, .inl (1, .ofNat 0))], 0, [kvR 52, some (.inr [20, 21, 22, 23, 24, 25, 26, 27]), kvN 265, none, none], []), ([], none), ([], [], none, ([], [])), kvW74)
noncomputable def kC765_0 : aC := (([kvB 0 3, kvB 266 341, kvB 0 4, kvB 266 341], [(57, 265, .inl (0, .ofNat 0)), (52, 6, .inl (3, .ofNat 0))], 2, [kvR 52, some (.inr [20, 21, 22, 23, 24, 25, 26, 27]), kvN 265, kvI 2, none], []), ([], []), (4, [(-1, 2)]))
theorem ks765 : aseg kS krf kB [kE562, kE567, kE568, kE569] (ksp []) kE765 [kC765_0] 30000 (none) = true := asgqk (by decide +kernel)
theorem ks765_0 : aseg kS krf kB [kE562, kE567, kE568, kE569] (ksp []) kE765 [kC765_0] 30000 (some kC765_0) = true := asgqk (by decide +kernel)
theorem kok765 : aOK kS krf kB kE765 := aOK_of (kal1 kok562 (kal1 kok567 (kal1 kok568 (kal1 kok569 kal0)))) (kcl1 ks765_0 kcl0) ks765
/-- ColdShod$StrokePlan.addNext(LColdShod$Idea;I)V -/
noncomputable def kE766 : aE := (83, 3, ([kvB 0 3, kvB 265 341], [(57, 264, .inl (0, .ofNat 0)), (52, 6, .inl (1, .ofNat 0))], 0, [kvR 52, some (.inr [20, 21, 22, 23, 24, 25, 26, 27]), kvN 264, none, none], []), ([], none), ([], [], none, ([], [])), kvW74)
noncomputable def kC766_0 : aC := (([kvB 0 3, kvB 265 341, kvB 0 4, kvB 265 341], [(57, 264, .inl (0, .ofNat 0)), (52, 6, .inl (3, .ofNat 0))], 2, [kvR 52, some (.inr [20, 21, 22, 23, 24, 25, 26, 27]), kvN 264, kvI 2, none], []), ([], []), (4, [(-1, 2)]))
theorem ks766 : aseg kS krf kB [kE562, kE567, kE568, kE569] (ksp []) kE766 [kC766_0] 30000 (none) = true := asgqk (by decide +kernel)
theorem ks766_0 : aseg kS krf kB [kE562, kE567, kE568, kE569] (ksp []) kE766 [kC766_0] 30000 (some kC766_0) = true := asgqk (by decide +kernel)
theorem kok766 : aOK kS krf kB kE766 := aOK_of (kal1 kok562 (kal1 kok567 (kal1 kok568 (kal1 kok569 kal0)))) (kcl1 ks766_0 kcl0) ks766
/-- ColdShod$StrokePlan.addNext(LColdShod$Idea;I)V -/
noncomputable def kE767 : aE := (83, 3, ([kvB 0 3, kvB 264 341], [(57, 263, .inl (0, .ofNat 0)), (52, 6, .inl (1, .ofNat 0))], 0, [kvR 52, some (.inr [20, 21, 22, 23, 24, 25, 26, 27]), kvN 263, none, none], []), ([], none), ([], [], none, ([], [])), kvW74)
noncomputable def kC767_0 : aC := (([kvB 0 3, kvB 264 341, kvB 0 4, kvB 264 341], [(57, 263, .inl (0, .ofNat 0)), (52, 6, .inl (3, .ofNat 0))], 2, [kvR 52, some (.inr [20, 21, 22, 23, 24, 25, 26, 27]), kvN 263, kvI 2, none], []), ([], []), (4, [(-1, 2)]))
theorem ks767 : aseg kS krf kB [kE562, kE567, kE568, kE569] (ksp []) kE767 [kC767_0] 30000 (none) = true := asgqk (by decide +kernel)
theorem ks767_0 : aseg kS krf kB [kE562, kE567, kE568, kE569] (ksp []) kE767 [kC767_0] 30000 (some kC767_0) = true := asgqk (by decide +kernel)
theorem kok767 : aOK kS krf kB kE767 := aOK_of (kal1 kok562 (kal1 kok567 (kal1 kok568 (kal1 kok569 kal0)))) (kcl1 ks767_0 kcl0) ks767
/-- ColdShod$StrokePlan.addNext(LColdShod$Idea;I)V -/
noncomputable def kE768 : aE := (83, 3, ([kvB 0 3, kvB 263 341], [(57, 262, .inl (0, .ofNat 0)), (52, 6, .inl (1, .ofNat 0))], 0, [kvR 52, some (.inr [20, 21, 22, 23, 24, 25, 26, 27]), kvN 262, none, none], []), ([], none), ([], [], none, ([], [])), kvW74)
noncomputable def kC768_0 : aC := (([kvB 0 3, kvB 263 341, kvB 0 4, kvB 263 341], [(57, 262, .inl (0, .ofNat 0)), (52, 6, .inl (3, .ofNat 0))], 2, [kvR 52, some (.inr [20, 21, 22, 23, 24, 25, 26, 27]), kvN 262, kvI 2, none], []), ([], []), (4, [(-1, 2)]))
theorem ks768 : aseg kS krf kB [kE562, kE567, kE568, kE569] (ksp []) kE768 [kC768_0] 30000 (none) = true := asgqk (by decide +kernel)
theorem ks768_0 : aseg kS krf kB [kE562, kE567, kE568, kE569] (ksp []) kE768 [kC768_0] 30000 (some kC768_0) = true := asgqk (by decide +kernel)
theorem kok768 : aOK kS krf kB kE768 := aOK_of (kal1 kok562 (kal1 kok567 (kal1 kok568 (kal1 kok569 kal0)))) (kcl1 ks768_0 kcl0) ks768
/-- ColdShod$StrokePlan.addNext(LColdShod$Idea;I)V -/
noncomputable def kE769 : aE := (83, 3, ([kvB 0 3, kvB 262 341], [(57, 261, .inl (0, .ofNat 0)), (52, 6, .inl (1, .ofNat 0))], 0, [kvR 52, some (.inr [20, 21, 22, 23, 24, 25, 26, 27]), kvN 261, none, none], []), ([], none), ([], [], none, ([], [])), kvW74)
noncomputable def kC769_0 : aC := (([kvB 0 3, kvB 262 341, kvB 0 4, kvB 262 341], [(57, 261, .inl (0, .ofNat 0)), (52, 6, .inl (3, .ofNat 0))], 2, [kvR 52, some (.inr [20, 21, 22, 23, 24, 25, 26, 27]), kvN 261, kvI 2, none], []), ([], []), (4, [(-1, 2)]))
theorem ks769 : aseg kS krf kB [kE562, kE567, kE568, kE569] (ksp []) kE769 [kC769_0] 30000 (none) = true := asgqk (by decide +kernel)
theorem ks769_0 : aseg kS krf kB [kE562, kE567, kE568, kE569] (ksp []) kE769 [kC769_0] 30000 (some kC769_0) = true := asgqk (by decide +kernel)
theorem kok769 : aOK kS krf kB kE769 := aOK_of (kal1 kok562 (kal1 kok567 (kal1 kok568 (kal1 kok569 kal0)))) (kcl1 ks769_0 kcl0) ks769
/-- ColdShod$StrokePlan.addNext(LColdShod$Idea;I)V -/
noncomputable def kE770 : aE := (83, 3, ([kvB 0 3, kvB 261 341], [(57, 260, .inl (0, .ofNat 0)), (52, 6, .inl (1, .ofNat 0))], 0, [kvR 52, some (.inr [20, 21, 22, 23, 24, 25, 26, 27]), kvN 260, none, none], []), ([], none), ([], [], none, ([], [])), kvW74)
noncomputable def kC770_0 : aC := (([kvB 0 3, kvB 261 341, kvB 0 4, kvB 261 341], [(57, 260, .inl (0, .ofNat 0)), (52, 6, .inl (3, .ofNat 0))], 2, [kvR 52, some (.inr [20, 21, 22, 23, 24, 25, 26, 27]), kvN 260, kvI 2, none], []), ([], []), (4, [(-1, 2)]))
theorem ks770 : aseg kS krf kB [kE562, kE567, kE568, kE569] (ksp []) kE770 [kC770_0] 30000 (none) = true := asgqk (by decide +kernel)
theorem ks770_0 : aseg kS krf kB [kE562, kE567, kE568, kE569] (ksp []) kE770 [kC770_0] 30000 (some kC770_0) = true := asgqk (by decide +kernel)
theorem kok770 : aOK kS krf kB kE770 := aOK_of (kal1 kok562 (kal1 kok567 (kal1 kok568 (kal1 kok569 kal0)))) (kcl1 ks770_0 kcl0) ks770
/-- ColdShod$StrokePlan.addNext(LColdShod$Idea;I)V -/
noncomputable def kE771 : aE := (83, 3, ([kvB 0 3, kvB 260 341], [(57, 259, .inl (0, .ofNat 0)), (52, 6, .inl (1, .ofNat 0))], 0, [kvR 52, some (.inr [20, 21, 22, 23, 24, 25, 26, 27]), kvN 259, none, none], []), ([], none), ([], [], none, ([], [])), kvW74)
noncomputable def kC771_0 : aC := (([kvB 0 3, kvB 260 341, kvB 0 4, kvB 260 341], [(57, 259, .inl (0, .ofNat 0)), (52, 6, .inl (3, .ofNat 0))], 2, [kvR 52, some (.inr [20, 21, 22, 23, 24, 25, 26, 27]), kvN 259, kvI 2, none], []), ([], []), (4, [(-1, 2)]))
theorem ks771 : aseg kS krf kB [kE562, kE567, kE568, kE569] (ksp []) kE771 [kC771_0] 30000 (none) = true := asgqk (by decide +kernel)
theorem ks771_0 : aseg kS krf kB [kE562, kE567, kE568, kE569] (ksp []) kE771 [kC771_0] 30000 (some kC771_0) = true := asgqk (by decide +kernel)
theorem kok771 : aOK kS krf kB kE771 := aOK_of (kal1 kok562 (kal1 kok567 (kal1 kok568 (kal1 kok569 kal0)))) (kcl1 ks771_0 kcl0) ks771
/-- ColdShod$StrokePlan.addNext(LColdShod$Idea;I)V -/
noncomputable def kE772 : aE := (83, 3, ([kvB 0 3, kvB 259 341], [(57, 258, .inl (0, .ofNat 0)), (52, 6, .inl (1, .ofNat 0))], 0, [kvR 52, some (.inr [20, 21, 22, 23, 24, 25, 26, 27]), kvN 258, none, none], []), ([], none), ([], [], none, ([], [])), kvW74)
noncomputable def kC772_0 : aC := (([kvB 0 3, kvB 259 341, kvB 0 4, kvB 259 341], [(57, 258, .inl (0, .ofNat 0)), (52, 6, .inl (3, .ofNat 0))], 2, [kvR 52, some (.inr [20, 21, 22, 23, 24, 25, 26, 27]), kvN 258, kvI 2, none], []), ([], []), (4, [(-1, 2)]))
theorem ks772 : aseg kS krf kB [kE562, kE567, kE568, kE569] (ksp []) kE772 [kC772_0] 30000 (none) = true := asgqk (by decide +kernel)
theorem ks772_0 : aseg kS krf kB [kE562, kE567, kE568, kE569] (ksp []) kE772 [kC772_0] 30000 (some kC772_0) = true := asgqk (by decide +kernel)
theorem kok772 : aOK kS krf kB kE772 := aOK_of (kal1 kok562 (kal1 kok567 (kal1 kok568 (kal1 kok569 kal0)))) (kcl1 ks772_0 kcl0) ks772
/-- ColdShod$StrokePlan.addNext(LColdShod$Idea;I)V -/
noncomputable def kE773 : aE := (83, 3, ([kvB 0 3, kvB 258 341], [(57, 257, .inl (0, .ofNat 0)), (52, 6, .inl (1, .ofNat 0))], 0, [kvR 52, some (.inr [20, 21, 22, 23, 24, 25, 26, 27]), kvN 257, none, none], []), ([], none), ([], [], none, ([], [])), kvW74)
noncomputable def kC773_0 : aC := (([kvB 0 3, kvB 258 341, kvB 0 4, kvB 258 341], [(57, 257, .inl (0, .ofNat 0)), (52, 6, .inl (3, .ofNat 0))], 2, [kvR 52, some (.inr [20, 21, 22, 23, 24, 25, 26, 27]), kvN 257, kvI 2, none], []), ([], []), (4, [(-1, 2)]))
theorem ks773 : aseg kS krf kB [kE562, kE567, kE568, kE569] (ksp []) kE773 [kC773_0] 30000 (none) = true := asgqk (by decide +kernel)
theorem ks773_0 : aseg kS krf kB [kE562, kE567, kE568, kE569] (ksp []) kE773 [kC773_0] 30000 (some kC773_0) = true := asgqk (by decide +kernel)
theorem kok773 : aOK kS krf kB kE773 := aOK_of (kal1 kok562 (kal1 kok567 (kal1 kok568 (kal1 kok569 kal0)))) (kcl1 ks773_0 kcl0) ks773
/-- ColdShod$StrokePlan.addNext(LColdShod$Idea;I)V -/
noncomputable def kE774 : aE := (83, 3, ([kvB 0 3, kvB 257 341], [(57, 256, .inl (0, .ofNat 0)), (52, 6, .inl (1, .ofNat 0))], 0, [kvR 52, some (.inr [20, 21, 22, 23, 24, 25, 26, 27]), kvN 256, none, none], []), ([], none), ([], [], none, ([], [])), kvW74)
noncomputable def kC774_0 : aC := (([kvB 0 3, kvB 257 341, kvB 0 4, kvB 257 341], [(57, 256, .inl (0, .ofNat 0)), (52, 6, .inl (3, .ofNat 0))], 2, [kvR 52, some (.inr [20, 21, 22, 23, 24, 25, 26, 27]), kvN 256, kvI 2, none], []), ([], []), (4, [(-1, 2)]))
theorem ks774 : aseg kS krf kB [kE562, kE567, kE568, kE569] (ksp []) kE774 [kC774_0] 30000 (none) = true := asgqk (by decide +kernel)
theorem ks774_0 : aseg kS krf kB [kE562, kE567, kE568, kE569] (ksp []) kE774 [kC774_0] 30000 (some kC774_0) = true := asgqk (by decide +kernel)
theorem kok774 : aOK kS krf kB kE774 := aOK_of (kal1 kok562 (kal1 kok567 (kal1 kok568 (kal1 kok569 kal0)))) (kcl1 ks774_0 kcl0) ks774
/-- ColdShod$StrokePlan.addNext(LColdShod$Idea;I)V -/
noncomputable def kE775 : aE := (83, 3, ([kvB 0 3, kvB 256 341], [(57, 255, .inl (0, .ofNat 0)), (52, 6, .inl (1, .ofNat 0))], 0, [kvR 52, some (.inr [20, 21, 22, 23, 24, 25, 26, 27]), kvN 255, none, none], []), ([], none), ([], [], none, ([], [])), kvW74)
noncomputable def kC775_0 : aC := (([kvB 0 3, kvB 256 341, kvB 0 4, kvB 256 341], [(57, 255, .inl (0, .ofNat 0)), (52, 6, .inl (3, .ofNat 0))], 2, [kvR 52, some (.inr [20, 21, 22, 23, 24, 25, 26, 27]), kvN 255, kvI 2, none], []), ([], []), (4, [(-1, 2)]))
theorem ks775 : aseg kS krf kB [kE562, kE567, kE568, kE569] (ksp []) kE775 [kC775_0] 30000 (none) = true := asgqk (by decide +kernel)
theorem ks775_0 : aseg kS krf kB [kE562, kE567, kE568, kE569] (ksp []) kE775 [kC775_0] 30000 (some kC775_0) = true := asgqk (by decide +kernel)
theorem kok775 : aOK kS krf kB kE775 := aOK_of (kal1 kok562 (kal1 kok567 (kal1 kok568 (kal1 kok569 kal0)))) (kcl1 ks775_0 kcl0) ks775
/-- ColdShod$StrokePlan.addNext(LColdShod$Idea;I)V -/
noncomputable def kE776 : aE := (83, 3, ([kvB 0 3, kvB 255 341], [(57, 254, .inl (0, .ofNat 0)), (52, 6, .inl (1, .ofNat 0))], 0, [kvR 52, some (.inr [20, 21, 22, 23, 24, 25, 26, 27]), kvN 254, none, none], []), ([], none), ([], [], none, ([], [])), kvW74)
noncomputable def kC776_0 : aC := (([kvB 0 3, kvB 255 341, kvB 0 4, kvB 255 341], [(57, 254, .inl (0, .ofNat 0)), (52, 6, .inl (3, .ofNat 0))], 2, [kvR 52, some (.inr [20, 21, 22, 23, 24, 25, 26, 27]), kvN 254, kvI 2, none], []), ([], []), (4, [(-1, 2)]))
theorem ks776 : aseg kS krf kB [kE562, kE567, kE568, kE569] (ksp []) kE776 [kC776_0] 30000 (none) = true := asgqk (by decide +kernel)
theorem ks776_0 : aseg kS krf kB [kE562, kE567, kE568, kE569] (ksp []) kE776 [kC776_0] 30000 (some kC776_0) = true := asgqk (by decide +kernel)
theorem kok776 : aOK kS krf kB kE776 := aOK_of (kal1 kok562 (kal1 kok567 (kal1 kok568 (kal1 kok569 kal0)))) (kcl1 ks776_0 kcl0) ks776
/-- ColdShod$StrokePlan.addNext(LColdShod$Idea;I)V -/
noncomputable def kE777 : aE := (83, 3, ([kvB 0 3, kvB 254 341], [(57, 253, .inl (0, .ofNat 0)), (52, 6, .inl (1, .ofNat 0))], 0, [kvR 52, some (.inr [20, 21, 22, 23, 24, 25, 26, 27]), kvN 253, none, none], []), ([], none), ([], [], none, ([], [])), kvW74)
noncomputable def kC777_0 : aC := (([kvB 0 3, kvB 254 341, kvB 0 4, kvB 254 341], [(57, 253, .inl (0, .ofNat 0)), (52, 6, .inl (3, .ofNat 0))], 2, [kvR 52, some (.inr [20, 21, 22, 23, 24, 25, 26, 27]), kvN 253, kvI 2, none], []), ([], []), (4, [(-1, 2)]))
theorem ks777 : aseg kS krf kB [kE562, kE567, kE568, kE569] (ksp []) kE777 [kC777_0] 30000 (none) = true := asgqk (by decide +kernel)
theorem ks777_0 : aseg kS krf kB [kE562, kE567, kE568, kE569] (ksp []) kE777 [kC777_0] 30000 (some kC777_0) = true := asgqk (by decide +kernel)
theorem kok777 : aOK kS krf kB kE777 := aOK_of (kal1 kok562 (kal1 kok567 (kal1 kok568 (kal1 kok569 kal0)))) (kcl1 ks777_0 kcl0) ks777
/-- ColdShod$StrokePlan.addNext(LColdShod$Idea;I)V -/
noncomputable def kE778 : aE := (83, 3, ([kvB 0 3, kvB 253 341], [(57, 252, .inl (0, .ofNat 0)), (52, 6, .inl (1, .ofNat 0))], 0, [kvR 52, some (.inr [20, 21, 22, 23, 24, 25, 26, 27]), kvN 252, none, none], []), ([], none), ([], [], none, ([], [])), kvW74)
noncomputable def kC778_0 : aC := (([kvB 0 3, kvB 253 341, kvB 0 4, kvB 253 341], [(57, 252, .inl (0, .ofNat 0)), (52, 6, .inl (3, .ofNat 0))], 2, [kvR 52, some (.inr [20, 21, 22, 23, 24, 25, 26, 27]), kvN 252, kvI 2, none], []), ([], []), (4, [(-1, 2)]))
theorem ks778 : aseg kS krf kB [kE562, kE567, kE568, kE569] (ksp []) kE778 [kC778_0] 30000 (none) = true := asgqk (by decide +kernel)
theorem ks778_0 : aseg kS krf kB [kE562, kE567, kE568, kE569] (ksp []) kE778 [kC778_0] 30000 (some kC778_0) = true := asgqk (by decide +kernel)
theorem kok778 : aOK kS krf kB kE778 := aOK_of (kal1 kok562 (kal1 kok567 (kal1 kok568 (kal1 kok569 kal0)))) (kcl1 ks778_0 kcl0) ks778
/-- ColdShod$StrokePlan.addNext(LColdShod$Idea;I)V -/
noncomputable def kE779 : aE := (83, 3, ([kvB 0 3, kvB 252 341], [(57, 251, .inl (0, .ofNat 0)), (52, 6, .inl (1, .ofNat 0))], 0, [kvR 52, some (.inr [20, 21, 22, 23, 24, 25, 26, 27]), kvN 251, none, none], []), ([], none), ([], [], none, ([], [])), kvW74)
noncomputable def kC779_0 : aC := (([kvB 0 3, kvB 252 341, kvB 0 4, kvB 252 341], [(57, 251, .inl (0, .ofNat 0)), (52, 6, .inl (3, .ofNat 0))], 2, [kvR 52, some (.inr [20, 21, 22, 23, 24, 25, 26, 27]), kvN 251, kvI 2, none], []), ([], []), (4, [(-1, 2)]))
theorem ks779 : aseg kS krf kB [kE562, kE567, kE568, kE569] (ksp []) kE779 [kC779_0] 30000 (none) = true := asgqk (by decide +kernel)
theorem ks779_0 : aseg kS krf kB [kE562, kE567, kE568, kE569] (ksp []) kE779 [kC779_0] 30000 (some kC779_0) = true := asgqk (by decide +kernel)
theorem kok779 : aOK kS krf kB kE779 := aOK_of (kal1 kok562 (kal1 kok567 (kal1 kok568 (kal1 kok569 kal0)))) (kcl1 ks779_0 kcl0) ks779
/-- ColdShod$StrokePlan.addNext(LColdShod$Idea;I)V -/
noncomputable def kE780 : aE := (83, 3, ([kvB 0 3, kvB 251 341], [(57, 250, .inl (0, .ofNat 0)), (52, 6, .inl (1, .ofNat 0))], 0, [kvR 52, some (.inr [20, 21, 22, 23, 24, 25, 26, 27]), kvN 250, none, none], []), ([], none), ([], [], none, ([], [])), kvW74)
noncomputable def kC780_0 : aC := (([kvB 0 3, kvB 251 341, kvB 0 4, kvB 251 341], [(57, 250, .inl (0, .ofNat 0)), (52, 6, .inl (3, .ofNat 0))], 2, [kvR 52, some (.inr [20, 21, 22, 23, 24, 25, 26, 27]), kvN 250, kvI 2, none], []), ([], []), (4, [(-1, 2)]))
theorem ks780 : aseg kS krf kB [kE562, kE567, kE568, kE569] (ksp []) kE780 [kC780_0] 30000 (none) = true := asgqk (by decide +kernel)
theorem ks780_0 : aseg kS krf kB [kE562, kE567, kE568, kE569] (ksp []) kE780 [kC780_0] 30000 (some kC780_0) = true := asgqk (by decide +kernel)
theorem kok780 : aOK kS krf kB kE780 := aOK_of (kal1 kok562 (kal1 kok567 (kal1 kok568 (kal1 kok569 kal0)))) (kcl1 ks780_0 kcl0) ks780
/-- ColdShod$StrokePlan.addNext(LColdShod$Idea;I)V -/
noncomputable def kE781 : aE := (83, 3, ([kvB 0 3, kvB 250 341], [(57, 249, .inl (0, .ofNat 0)), (52, 6, .inl (1, .ofNat 0))], 0, [kvR 52, some (.inr [20, 21, 22, 23, 24, 25, 26, 27]), kvN 249, none, none], []), ([], none), ([], [], none, ([], [])), kvW74)
noncomputable def kC781_0 : aC := (([kvB 0 3, kvB 250 341, kvB 0 4, kvB 250 341], [(57, 249, .inl (0, .ofNat 0)), (52, 6, .inl (3, .ofNat 0))], 2, [kvR 52, some (.inr [20, 21, 22, 23, 24, 25, 26, 27]), kvN 249, kvI 2, none], []), ([], []), (4, [(-1, 2)]))
theorem ks781 : aseg kS krf kB [kE562, kE567, kE568, kE569] (ksp []) kE781 [kC781_0] 30000 (none) = true := asgqk (by decide +kernel)
theorem ks781_0 : aseg kS krf kB [kE562, kE567, kE568, kE569] (ksp []) kE781 [kC781_0] 30000 (some kC781_0) = true := asgqk (by decide +kernel)
theorem kok781 : aOK kS krf kB kE781 := aOK_of (kal1 kok562 (kal1 kok567 (kal1 kok568 (kal1 kok569 kal0)))) (kcl1 ks781_0 kcl0) ks781
/-- ColdShod$StrokePlan.addNext(LColdShod$Idea;I)V -/
noncomputable def kE782 : aE := (83, 3, ([kvB 0 3, kvB 249 341], [(57, 248, .inl (0, .ofNat 0)), (52, 6, .inl (1, .ofNat 0))], 0, [kvR 52, some (.inr [20, 21, 22, 23, 24, 25, 26, 27]), kvN 248, none, none], []), ([], none), ([], [], none, ([], [])), kvW74)
noncomputable def kC782_0 : aC := (([kvB 0 3, kvB 249 341, kvB 0 4, kvB 249 341], [(57, 248, .inl (0, .ofNat 0)), (52, 6, .inl (3, .ofNat 0))], 2, [kvR 52, some (.inr [20, 21, 22, 23, 24, 25, 26, 27]), kvN 248, kvI 2, none], []), ([], []), (4, [(-1, 2)]))
theorem ks782 : aseg kS krf kB [kE562, kE567, kE568, kE569] (ksp []) kE782 [kC782_0] 30000 (none) = true := asgqk (by decide +kernel)
theorem ks782_0 : aseg kS krf kB [kE562, kE567, kE568, kE569] (ksp []) kE782 [kC782_0] 30000 (some kC782_0) = true := asgqk (by decide +kernel)
theorem kok782 : aOK kS krf kB kE782 := aOK_of (kal1 kok562 (kal1 kok567 (kal1 kok568 (kal1 kok569 kal0)))) (kcl1 ks782_0 kcl0) ks782
/-- ColdShod$StrokePlan.addNext(LColdShod$Idea;I)V -/
noncomputable def kE783 : aE := (83, 3, ([kvB 0 3, kvB 248 341], [(57, 247, .inl (0, .ofNat 0)), (52, 6, .inl (1, .ofNat 0))], 0, [kvR 52, some (.inr [20, 21, 22, 23, 24, 25, 26, 27]), kvN 247, none, none], []), ([], none), ([], [], none, ([], [])), kvW74)
noncomputable def kC783_0 : aC := (([kvB 0 3, kvB 248 341, kvB 0 4, kvB 248 341], [(57, 247, .inl (0, .ofNat 0)), (52, 6, .inl (3, .ofNat 0))], 2, [kvR 52, some (.inr [20, 21, 22, 23, 24, 25, 26, 27]), kvN 247, kvI 2, none], []), ([], []), (4, [(-1, 2)]))
theorem ks783 : aseg kS krf kB [kE562, kE567, kE568, kE569] (ksp []) kE783 [kC783_0] 30000 (none) = true := asgqk (by decide +kernel)
theorem ks783_0 : aseg kS krf kB [kE562, kE567, kE568, kE569] (ksp []) kE783 [kC783_0] 30000 (some kC783_0) = true := asgqk (by decide +kernel)
theorem kok783 : aOK kS krf kB kE783 := aOK_of (kal1 kok562 (kal1 kok567 (kal1 kok568 (kal1 kok569 kal0)))) (kcl1 ks783_0 kcl0) ks783
/-- ColdShod$StrokePlan.addNext(LColdShod$Idea;I)V -/
noncomputable def kE784 : aE := (83, 3, ([kvB 0 3, kvB 247 341], [(57, 246, .inl (0, .ofNat 0)), (52, 6, .inl (1, .ofNat 0))], 0, [kvR 52, some (.inr [20, 21, 22, 23, 24, 25, 26, 27]), kvN 246, none, none], []), ([], none), ([], [], none, ([], [])), kvW74)
noncomputable def kC784_0 : aC := (([kvB 0 3, kvB 247 341, kvB 0 4, kvB 247 341], [(57, 246, .inl (0, .ofNat 0)), (52, 6, .inl (3, .ofNat 0))], 2, [kvR 52, some (.inr [20, 21, 22, 23, 24, 25, 26, 27]), kvN 246, kvI 2, none], []), ([], []), (4, [(-1, 2)]))
theorem ks784 : aseg kS krf kB [kE562, kE567, kE568, kE569] (ksp []) kE784 [kC784_0] 30000 (none) = true := asgqk (by decide +kernel)
theorem ks784_0 : aseg kS krf kB [kE562, kE567, kE568, kE569] (ksp []) kE784 [kC784_0] 30000 (some kC784_0) = true := asgqk (by decide +kernel)
theorem kok784 : aOK kS krf kB kE784 := aOK_of (kal1 kok562 (kal1 kok567 (kal1 kok568 (kal1 kok569 kal0)))) (kcl1 ks784_0 kcl0) ks784
/-- ColdShod$StrokePlan.addNext(LColdShod$Idea;I)V -/
noncomputable def kE785 : aE := (83, 3, ([kvB 0 3, kvB 246 341], [(57, 245, .inl (0, .ofNat 0)), (52, 6, .inl (1, .ofNat 0))], 0, [kvR 52, some (.inr [20, 21, 22, 23, 24, 25, 26, 27]), kvN 245, none, none], []), ([], none), ([], [], none, ([], [])), kvW74)
noncomputable def kC785_0 : aC := (([kvB 0 3, kvB 246 341, kvB 0 4, kvB 246 341], [(57, 245, .inl (0, .ofNat 0)), (52, 6, .inl (3, .ofNat 0))], 2, [kvR 52, some (.inr [20, 21, 22, 23, 24, 25, 26, 27]), kvN 245, kvI 2, none], []), ([], []), (4, [(-1, 2)]))
theorem ks785 : aseg kS krf kB [kE562, kE567, kE568, kE569] (ksp []) kE785 [kC785_0] 30000 (none) = true := asgqk (by decide +kernel)
theorem ks785_0 : aseg kS krf kB [kE562, kE567, kE568, kE569] (ksp []) kE785 [kC785_0] 30000 (some kC785_0) = true := asgqk (by decide +kernel)
theorem kok785 : aOK kS krf kB kE785 := aOK_of (kal1 kok562 (kal1 kok567 (kal1 kok568 (kal1 kok569 kal0)))) (kcl1 ks785_0 kcl0) ks785
/-- ColdShod$StrokePlan.addNext(LColdShod$Idea;I)V -/
noncomputable def kE786 : aE := (83, 3, ([kvB 0 3, kvB 245 341], [(57, 244, .inl (0, .ofNat 0)), (52, 6, .inl (1, .ofNat 0))], 0, [kvR 52, some (.inr [20, 21, 22, 23, 24, 25, 26, 27]), kvN 244, none, none], []), ([], none), ([], [], none, ([], [])), kvW74)
noncomputable def kC786_0 : aC := (([kvB 0 3, kvB 245 341, kvB 0 4, kvB 245 341], [(57, 244, .inl (0, .ofNat 0)), (52, 6, .inl (3, .ofNat 0))], 2, [kvR 52, some (.inr [20, 21, 22, 23, 24, 25, 26, 27]), kvN 244, kvI 2, none], []), ([], []), (4, [(-1, 2)]))
theorem ks786 : aseg kS krf kB [kE562, kE567, kE568, kE569] (ksp []) kE786 [kC786_0] 30000 (none) = true := asgqk (by decide +kernel)
theorem ks786_0 : aseg kS krf kB [kE562, kE567, kE568, kE569] (ksp []) kE786 [kC786_0] 30000 (some kC786_0) = true := asgqk (by decide +kernel)
theorem kok786 : aOK kS krf kB kE786 := aOK_of (kal1 kok562 (kal1 kok567 (kal1 kok568 (kal1 kok569 kal0)))) (kcl1 ks786_0 kcl0) ks786
/-- ColdShod$StrokePlan.addNext(LColdShod$Idea;I)V -/
noncomputable def kE787 : aE := (83, 3, ([kvB 0 3, kvB 244 341], [(57, 243, .inl (0, .ofNat 0)), (52, 6, .inl (1, .ofNat 0))], 0, [kvR 52, some (.inr [20, 21, 22, 23, 24, 25, 26, 27]), kvN 243, none, none], []), ([], none), ([], [], none, ([], [])), kvW74)
noncomputable def kC787_0 : aC := (([kvB 0 3, kvB 244 341, kvB 0 4, kvB 244 341], [(57, 243, .inl (0, .ofNat 0)), (52, 6, .inl (3, .ofNat 0))], 2, [kvR 52, some (.inr [20, 21, 22, 23, 24, 25, 26, 27]), kvN 243, kvI 2, none], []), ([], []), (4, [(-1, 2)]))
theorem ks787 : aseg kS krf kB [kE562, kE567, kE568, kE569] (ksp []) kE787 [kC787_0] 30000 (none) = true := asgqk (by decide +kernel)
theorem ks787_0 : aseg kS krf kB [kE562, kE567, kE568, kE569] (ksp []) kE787 [kC787_0] 30000 (some kC787_0) = true := asgqk (by decide +kernel)
theorem kok787 : aOK kS krf kB kE787 := aOK_of (kal1 kok562 (kal1 kok567 (kal1 kok568 (kal1 kok569 kal0)))) (kcl1 ks787_0 kcl0) ks787
/-- ColdShod$StrokePlan.addNext(LColdShod$Idea;I)V -/
noncomputable def kE788 : aE := (83, 3, ([kvB 0 3, kvB 243 341], [(57, 242, .inl (0, .ofNat 0)), (52, 6, .inl (1, .ofNat 0))], 0, [kvR 52, some (.inr [20, 21, 22, 23, 24, 25, 26, 27]), kvN 242, none, none], []), ([], none), ([], [], none, ([], [])), kvW74)
noncomputable def kC788_0 : aC := (([kvB 0 3, kvB 243 341, kvB 0 4, kvB 243 341], [(57, 242, .inl (0, .ofNat 0)), (52, 6, .inl (3, .ofNat 0))], 2, [kvR 52, some (.inr [20, 21, 22, 23, 24, 25, 26, 27]), kvN 242, kvI 2, none], []), ([], []), (4, [(-1, 2)]))
theorem ks788 : aseg kS krf kB [kE562, kE567, kE568, kE569] (ksp []) kE788 [kC788_0] 30000 (none) = true := asgqk (by decide +kernel)
theorem ks788_0 : aseg kS krf kB [kE562, kE567, kE568, kE569] (ksp []) kE788 [kC788_0] 30000 (some kC788_0) = true := asgqk (by decide +kernel)
theorem kok788 : aOK kS krf kB kE788 := aOK_of (kal1 kok562 (kal1 kok567 (kal1 kok568 (kal1 kok569 kal0)))) (kcl1 ks788_0 kcl0) ks788
/-- ColdShod$StrokePlan.addNext(LColdShod$Idea;I)V -/
noncomputable def kE789 : aE := (83, 3, ([kvB 0 3, kvB 242 341], [(57, 241, .inl (0, .ofNat 0)), (52, 6, .inl (1, .ofNat 0))], 0, [kvR 52, some (.inr [20, 21, 22, 23, 24, 25, 26, 27]), kvN 241, none, none], []), ([], none), ([], [], none, ([], [])), kvW74)
noncomputable def kC789_0 : aC := (([kvB 0 3, kvB 242 341, kvB 0 4, kvB 242 341], [(57, 241, .inl (0, .ofNat 0)), (52, 6, .inl (3, .ofNat 0))], 2, [kvR 52, some (.inr [20, 21, 22, 23, 24, 25, 26, 27]), kvN 241, kvI 2, none], []), ([], []), (4, [(-1, 2)]))
theorem ks789 : aseg kS krf kB [kE562, kE567, kE568, kE569] (ksp []) kE789 [kC789_0] 30000 (none) = true := asgqk (by decide +kernel)
theorem ks789_0 : aseg kS krf kB [kE562, kE567, kE568, kE569] (ksp []) kE789 [kC789_0] 30000 (some kC789_0) = true := asgqk (by decide +kernel)
theorem kok789 : aOK kS krf kB kE789 := aOK_of (kal1 kok562 (kal1 kok567 (kal1 kok568 (kal1 kok569 kal0)))) (kcl1 ks789_0 kcl0) ks789
/-- ColdShod$StrokePlan.addNext(LColdShod$Idea;I)V -/
noncomputable def kE790 : aE := (83, 3, ([kvB 0 3, kvB 241 341], [(57, 240, .inl (0, .ofNat 0)), (52, 6, .inl (1, .ofNat 0))], 0, [kvR 52, some (.inr [20, 21, 22, 23, 24, 25, 26, 27]), kvN 240, none, none], []), ([], none), ([], [], none, ([], [])), kvW74)
noncomputable def kC790_0 : aC := (([kvB 0 3, kvB 241 341, kvB 0 4, kvB 241 341], [(57, 240, .inl (0, .ofNat 0)), (52, 6, .inl (3, .ofNat 0))], 2, [kvR 52, some (.inr [20, 21, 22, 23, 24, 25, 26, 27]), kvN 240, kvI 2, none], []), ([], []), (4, [(-1, 2)]))
theorem ks790 : aseg kS krf kB [kE562, kE567, kE568, kE569] (ksp []) kE790 [kC790_0] 30000 (none) = true := asgqk (by decide +kernel)
theorem ks790_0 : aseg kS krf kB [kE562, kE567, kE568, kE569] (ksp []) kE790 [kC790_0] 30000 (some kC790_0) = true := asgqk (by decide +kernel)
theorem kok790 : aOK kS krf kB kE790 := aOK_of (kal1 kok562 (kal1 kok567 (kal1 kok568 (kal1 kok569 kal0)))) (kcl1 ks790_0 kcl0) ks790
/-- ColdShod$StrokePlan.addNext(LColdShod$Idea;I)V -/
noncomputable def kE791 : aE := (83, 3, ([kvB 0 3, kvB 240 341], [(57, 239, .inl (0, .ofNat 0)), (52, 6, .inl (1, .ofNat 0))], 0, [kvR 52, some (.inr [20, 21, 22, 23, 24, 25, 26, 27]), kvN 239, none, none], []), ([], none), ([], [], none, ([], [])), kvW74)
noncomputable def kC791_0 : aC := (([kvB 0 3, kvB 240 341, kvB 0 4, kvB 240 341], [(57, 239, .inl (0, .ofNat 0)), (52, 6, .inl (3, .ofNat 0))], 2, [kvR 52, some (.inr [20, 21, 22, 23, 24, 25, 26, 27]), kvN 239, kvI 2, none], []), ([], []), (4, [(-1, 2)]))
theorem ks791 : aseg kS krf kB [kE562, kE567, kE568, kE569] (ksp []) kE791 [kC791_0] 30000 (none) = true := asgqk (by decide +kernel)
theorem ks791_0 : aseg kS krf kB [kE562, kE567, kE568, kE569] (ksp []) kE791 [kC791_0] 30000 (some kC791_0) = true := asgqk (by decide +kernel)
theorem kok791 : aOK kS krf kB kE791 := aOK_of (kal1 kok562 (kal1 kok567 (kal1 kok568 (kal1 kok569 kal0)))) (kcl1 ks791_0 kcl0) ks791
/-- ColdShod$StrokePlan.addNext(LColdShod$Idea;I)V -/
noncomputable def kE792 : aE := (83, 3, ([kvB 0 3, kvB 239 341], [(57, 238, .inl (0, .ofNat 0)), (52, 6, .inl (1, .ofNat 0))], 0, [kvR 52, some (.inr [20, 21, 22, 23, 24, 25, 26, 27]), kvN 238, none, none], []), ([], none), ([], [], none, ([], [])), kvW74)
noncomputable def kC792_0 : aC := (([kvB 0 3, kvB 239 341, kvB 0 4, kvB 239 341], [(57, 238, .inl (0, .ofNat 0)), (52, 6, .inl (3, .ofNat 0))], 2, [kvR 52, some (.inr [20, 21, 22, 23, 24, 25, 26, 27]), kvN 238, kvI 2, none], []), ([], []), (4, [(-1, 2)]))
theorem ks792 : aseg kS krf kB [kE562, kE567, kE568, kE569] (ksp []) kE792 [kC792_0] 30000 (none) = true := asgqk (by decide +kernel)
theorem ks792_0 : aseg kS krf kB [kE562, kE567, kE568, kE569] (ksp []) kE792 [kC792_0] 30000 (some kC792_0) = true := asgqk (by decide +kernel)
theorem kok792 : aOK kS krf kB kE792 := aOK_of (kal1 kok562 (kal1 kok567 (kal1 kok568 (kal1 kok569 kal0)))) (kcl1 ks792_0 kcl0) ks792
/-- ColdShod$StrokePlan.addNext(LColdShod$Idea;I)V -/
noncomputable def kE793 : aE := (83, 3, ([kvB 0 3, kvB 238 341], [(57, 237, .inl (0, .ofNat 0)), (52, 6, .inl (1, .ofNat 0))], 0, [kvR 52, some (.inr [20, 21, 22, 23, 24, 25, 26, 27]), kvN 237, none, none], []), ([], none), ([], [], none, ([], [])), kvW74)
noncomputable def kC793_0 : aC := (([kvB 0 3, kvB 238 341, kvB 0 4, kvB 238 341], [(57, 237, .inl (0, .ofNat 0)), (52, 6, .inl (3, .ofNat 0))], 2, [kvR 52, some (.inr [20, 21, 22, 23, 24, 25, 26, 27]), kvN 237, kvI 2, none], []), ([], []), (4, [(-1, 2)]))
theorem ks793 : aseg kS krf kB [kE562, kE567, kE568, kE569] (ksp []) kE793 [kC793_0] 30000 (none) = true := asgqk (by decide +kernel)
theorem ks793_0 : aseg kS krf kB [kE562, kE567, kE568, kE569] (ksp []) kE793 [kC793_0] 30000 (some kC793_0) = true := asgqk (by decide +kernel)
theorem kok793 : aOK kS krf kB kE793 := aOK_of (kal1 kok562 (kal1 kok567 (kal1 kok568 (kal1 kok569 kal0)))) (kcl1 ks793_0 kcl0) ks793
/-- ColdShod$StrokePlan.addNext(LColdShod$Idea;I)V -/
noncomputable def kE794 : aE := (83, 3, ([kvB 0 3, kvB 237 341], [(57, 236, .inl (0, .ofNat 0)), (52, 6, .inl (1, .ofNat 0))], 0, [kvR 52, some (.inr [20, 21, 22, 23, 24, 25, 26, 27]), kvN 236, none, none], []), ([], none), ([], [], none, ([], [])), kvW74)
noncomputable def kC794_0 : aC := (([kvB 0 3, kvB 237 341, kvB 0 4, kvB 237 341], [(57, 236, .inl (0, .ofNat 0)), (52, 6, .inl (3, .ofNat 0))], 2, [kvR 52, some (.inr [20, 21, 22, 23, 24, 25, 26, 27]), kvN 236, kvI 2, none], []), ([], []), (4, [(-1, 2)]))
theorem ks794 : aseg kS krf kB [kE562, kE567, kE568, kE569] (ksp []) kE794 [kC794_0] 30000 (none) = true := asgqk (by decide +kernel)
theorem ks794_0 : aseg kS krf kB [kE562, kE567, kE568, kE569] (ksp []) kE794 [kC794_0] 30000 (some kC794_0) = true := asgqk (by decide +kernel)
theorem kok794 : aOK kS krf kB kE794 := aOK_of (kal1 kok562 (kal1 kok567 (kal1 kok568 (kal1 kok569 kal0)))) (kcl1 ks794_0 kcl0) ks794
/-- ColdShod$StrokePlan.addNext(LColdShod$Idea;I)V -/
noncomputable def kE795 : aE := (83, 3, ([kvB 0 3, kvB 236 341], [(57, 235, .inl (0, .ofNat 0)), (52, 6, .inl (1, .ofNat 0))], 0, [kvR 52, some (.inr [20, 21, 22, 23, 24, 25, 26, 27]), kvN 235, none, none], []), ([], none), ([], [], none, ([], [])), kvW74)
noncomputable def kC795_0 : aC := (([kvB 0 3, kvB 236 341, kvB 0 4, kvB 236 341], [(57, 235, .inl (0, .ofNat 0)), (52, 6, .inl (3, .ofNat 0))], 2, [kvR 52, some (.inr [20, 21, 22, 23, 24, 25, 26, 27]), kvN 235, kvI 2, none], []), ([], []), (4, [(-1, 2)]))
theorem ks795 : aseg kS krf kB [kE562, kE567, kE568, kE569] (ksp []) kE795 [kC795_0] 30000 (none) = true := asgqk (by decide +kernel)
theorem ks795_0 : aseg kS krf kB [kE562, kE567, kE568, kE569] (ksp []) kE795 [kC795_0] 30000 (some kC795_0) = true := asgqk (by decide +kernel)
theorem kok795 : aOK kS krf kB kE795 := aOK_of (kal1 kok562 (kal1 kok567 (kal1 kok568 (kal1 kok569 kal0)))) (kcl1 ks795_0 kcl0) ks795
/-- ColdShod$StrokePlan.addNext(LColdShod$Idea;I)V -/
noncomputable def kE796 : aE := (83, 3, ([kvB 0 3, kvB 235 341], [(57, 234, .inl (0, .ofNat 0)), (52, 6, .inl (1, .ofNat 0))], 0, [kvR 52, some (.inr [20, 21, 22, 23, 24, 25, 26, 27]), kvN 234, none, none], []), ([], none), ([], [], none, ([], [])), kvW74)
noncomputable def kC796_0 : aC := (([kvB 0 3, kvB 235 341, kvB 0 4, kvB 235 341], [(57, 234, .inl (0, .ofNat 0)), (52, 6, .inl (3, .ofNat 0))], 2, [kvR 52, some (.inr [20, 21, 22, 23, 24, 25, 26, 27]), kvN 234, kvI 2, none], []), ([], []), (4, [(-1, 2)]))
theorem ks796 : aseg kS krf kB [kE562, kE567, kE568, kE569] (ksp []) kE796 [kC796_0] 30000 (none) = true := asgqk (by decide +kernel)
theorem ks796_0 : aseg kS krf kB [kE562, kE567, kE568, kE569] (ksp []) kE796 [kC796_0] 30000 (some kC796_0) = true := asgqk (by decide +kernel)
theorem kok796 : aOK kS krf kB kE796 := aOK_of (kal1 kok562 (kal1 kok567 (kal1 kok568 (kal1 kok569 kal0)))) (kcl1 ks796_0 kcl0) ks796
/-- ColdShod$StrokePlan.addNext(LColdShod$Idea;I)V -/
noncomputable def kE797 : aE := (83, 3, ([kvB 0 3, kvB 234 341], [(57, 233, .inl (0, .ofNat 0)), (52, 6, .inl (1, .ofNat 0))], 0, [kvR 52, some (.inr [20, 21, 22, 23, 24, 25, 26, 27]), kvN 233, none, none], []), ([], none), ([], [], none, ([], [])), kvW74)
noncomputable def kC797_0 : aC := (([kvB 0 3, kvB 234 341, kvB 0 4, kvB 234 341], [(57, 233, .inl (0, .ofNat 0)), (52, 6, .inl (3, .ofNat 0))], 2, [kvR 52, some (.inr [20, 21, 22, 23, 24, 25, 26, 27]), kvN 233, kvI 2, none], []), ([], []), (4, [(-1, 2)]))
theorem ks797 : aseg kS krf kB [kE562, kE567, kE568, kE569] (ksp []) kE797 [kC797_0] 30000 (none) = true := asgqk (by decide +kernel)
theorem ks797_0 : aseg kS krf kB [kE562, kE567, kE568, kE569] (ksp []) kE797 [kC797_0] 30000 (some kC797_0) = true := asgqk (by decide +kernel)
theorem kok797 : aOK kS krf kB kE797 := aOK_of (kal1 kok562 (kal1 kok567 (kal1 kok568 (kal1 kok569 kal0)))) (kcl1 ks797_0 kcl0) ks797
/-- ColdShod$StrokePlan.addNext(LColdShod$Idea;I)V -/
noncomputable def kE798 : aE := (83, 3, ([kvB 0 3, kvB 233 341], [(57, 232, .inl (0, .ofNat 0)), (52, 6, .inl (1, .ofNat 0))], 0, [kvR 52, some (.inr [20, 21, 22, 23, 24, 25, 26, 27]), kvN 232, none, none], []), ([], none), ([], [], none, ([], [])), kvW74)
noncomputable def kC798_0 : aC := (([kvB 0 3, kvB 233 341, kvB 0 4, kvB 233 341], [(57, 232, .inl (0, .ofNat 0)), (52, 6, .inl (3, .ofNat 0))], 2, [kvR 52, some (.inr [20, 21, 22, 23, 24, 25, 26, 27]), kvN 232, kvI 2, none], []), ([], []), (4, [(-1, 2)]))
theorem ks798 : aseg kS krf kB [kE562, kE567, kE568, kE569] (ksp []) kE798 [kC798_0] 30000 (none) = true := asgqk (by decide +kernel)
theorem ks798_0 : aseg kS krf kB [kE562, kE567, kE568, kE569] (ksp []) kE798 [kC798_0] 30000 (some kC798_0) = true := asgqk (by decide +kernel)
theorem kok798 : aOK kS krf kB kE798 := aOK_of (kal1 kok562 (kal1 kok567 (kal1 kok568 (kal1 kok569 kal0)))) (kcl1 ks798_0 kcl0) ks798
/-- ColdShod$StrokePlan.addNext(LColdShod$Idea;I)V -/
noncomputable def kE799 : aE := (83, 3, ([kvB 0 3, kvB 232 341], [(57, 231, .inl (0, .ofNat 0)), (52, 6, .inl (1, .ofNat 0))], 0, [kvR 52, some (.inr [20, 21, 22, 23, 24, 25, 26, 27]), kvN 231, none, none], []), ([], none), ([], [], none, ([], [])), kvW74)
noncomputable def kC799_0 : aC := (([kvB 0 3, kvB 232 341, kvB 0 4, kvB 232 341], [(57, 231, .inl (0, .ofNat 0)), (52, 6, .inl (3, .ofNat 0))], 2, [kvR 52, some (.inr [20, 21, 22, 23, 24, 25, 26, 27]), kvN 231, kvI 2, none], []), ([], []), (4, [(-1, 2)]))
theorem ks799 : aseg kS krf kB [kE562, kE567, kE568, kE569] (ksp []) kE799 [kC799_0] 30000 (none) = true := asgqk (by decide +kernel)
theorem ks799_0 : aseg kS krf kB [kE562, kE567, kE568, kE569] (ksp []) kE799 [kC799_0] 30000 (some kC799_0) = true := asgqk (by decide +kernel)
theorem kok799 : aOK kS krf kB kE799 := aOK_of (kal1 kok562 (kal1 kok567 (kal1 kok568 (kal1 kok569 kal0)))) (kcl1 ks799_0 kcl0) ks799
/-- ColdShod$StrokePlan.addNext(LColdShod$Idea;I)V -/
noncomputable def kE800 : aE := (83, 3, ([kvB 0 3, kvB 231 341], [(57, 230, .inl (0, .ofNat 0)), (52, 6, .inl (1, .ofNat 0))], 0, [kvR 52, some (.inr [20, 21, 22, 23, 24, 25, 26, 27]), kvN 230, none, none], []), ([], none), ([], [], none, ([], [])), kvW74)
noncomputable def kC800_0 : aC := (([kvB 0 3, kvB 231 341, kvB 0 4, kvB 231 341], [(57, 230, .inl (0, .ofNat 0)), (52, 6, .inl (3, .ofNat 0))], 2, [kvR 52, some (.inr [20, 21, 22, 23, 24, 25, 26, 27]), kvN 230, kvI 2, none], []), ([], []), (4, [(-1, 2)]))
theorem ks800 : aseg kS krf kB [kE562, kE567, kE568, kE569] (ksp []) kE800 [kC800_0] 30000 (none) = true := asgqk (by decide +kernel)
theorem ks800_0 : aseg kS krf kB [kE562, kE567, kE568, kE569] (ksp []) kE800 [kC800_0] 30000 (some kC800_0) = true := asgqk (by decide +kernel)
theorem kok800 : aOK kS krf kB kE800 := aOK_of (kal1 kok562 (kal1 kok567 (kal1 kok568 (kal1 kok569 kal0)))) (kcl1 ks800_0 kcl0) ks800
/-- ColdShod$StrokePlan.addNext(LColdShod$Idea;I)V -/
noncomputable def kE801 : aE := (83, 3, ([kvB 0 3, kvB 230 341], [(57, 229, .inl (0, .ofNat 0)), (52, 6, .inl (1, .ofNat 0))], 0, [kvR 52, some (.inr [20, 21, 22, 23, 24, 25, 26, 27]), kvN 229, none, none], []), ([], none), ([], [], none, ([], [])), kvW74)
noncomputable def kC801_0 : aC := (([kvB 0 3, kvB 230 341, kvB 0 4, kvB 230 341], [(57, 229, .inl (0, .ofNat 0)), (52, 6, .inl (3, .ofNat 0))], 2, [kvR 52, some (.inr [20, 21, 22, 23, 24, 25, 26, 27]), kvN 229, kvI 2, none], []), ([], []), (4, [(-1, 2)]))
theorem ks801 : aseg kS krf kB [kE562, kE567, kE568, kE569] (ksp []) kE801 [kC801_0] 30000 (none) = true := asgqk (by decide +kernel)
theorem ks801_0 : aseg kS krf kB [kE562, kE567, kE568, kE569] (ksp []) kE801 [kC801_0] 30000 (some kC801_0) = true := asgqk (by decide +kernel)
theorem kok801 : aOK kS krf kB kE801 := aOK_of (kal1 kok562 (kal1 kok567 (kal1 kok568 (kal1 kok569 kal0)))) (kcl1 ks801_0 kcl0) ks801
/-- ColdShod$StrokePlan.addNext(LColdShod$Idea;I)V -/
noncomputable def kE802 : aE := (83, 3, ([kvB 0 3, kvB 229 341], [(57, 228, .inl (0, .ofNat 0)), (52, 6, .inl (1, .ofNat 0))], 0, [kvR 52, some (.inr [20, 21, 22, 23, 24, 25, 26, 27]), kvN 228, none, none], []), ([], none), ([], [], none, ([], [])), kvW74)
noncomputable def kC802_0 : aC := (([kvB 0 3, kvB 229 341, kvB 0 4, kvB 229 341], [(57, 228, .inl (0, .ofNat 0)), (52, 6, .inl (3, .ofNat 0))], 2, [kvR 52, some (.inr [20, 21, 22, 23, 24, 25, 26, 27]), kvN 228, kvI 2, none], []), ([], []), (4, [(-1, 2)]))
theorem ks802 : aseg kS krf kB [kE562, kE567, kE568, kE569] (ksp []) kE802 [kC802_0] 30000 (none) = true := asgqk (by decide +kernel)
theorem ks802_0 : aseg kS krf kB [kE562, kE567, kE568, kE569] (ksp []) kE802 [kC802_0] 30000 (some kC802_0) = true := asgqk (by decide +kernel)
theorem kok802 : aOK kS krf kB kE802 := aOK_of (kal1 kok562 (kal1 kok567 (kal1 kok568 (kal1 kok569 kal0)))) (kcl1 ks802_0 kcl0) ks802
/-- ColdShod$StrokePlan.addNext(LColdShod$Idea;I)V -/
noncomputable def kE803 : aE := (83, 3, ([kvB 0 3, kvB 228 341], [(57, 227, .inl (0, .ofNat 0)), (52, 6, .inl (1, .ofNat 0))], 0, [kvR 52, some (.inr [20, 21, 22, 23, 24, 25, 26, 27]), kvN 227, none, none], []), ([], none), ([], [], none, ([], [])), kvW74)
noncomputable def kC803_0 : aC := (([kvB 0 3, kvB 228 341, kvB 0 4, kvB 228 341], [(57, 227, .inl (0, .ofNat 0)), (52, 6, .inl (3, .ofNat 0))], 2, [kvR 52, some (.inr [20, 21, 22, 23, 24, 25, 26, 27]), kvN 227, kvI 2, none], []), ([], []), (4, [(-1, 2)]))
theorem ks803 : aseg kS krf kB [kE562, kE567, kE568, kE569] (ksp []) kE803 [kC803_0] 30000 (none) = true := asgqk (by decide +kernel)
theorem ks803_0 : aseg kS krf kB [kE562, kE567, kE568, kE569] (ksp []) kE803 [kC803_0] 30000 (some kC803_0) = true := asgqk (by decide +kernel)
theorem kok803 : aOK kS krf kB kE803 := aOK_of (kal1 kok562 (kal1 kok567 (kal1 kok568 (kal1 kok569 kal0)))) (kcl1 ks803_0 kcl0) ks803
/-- ColdShod$StrokePlan.addNext(LColdShod$Idea;I)V -/
noncomputable def kE804 : aE := (83, 3, ([kvB 0 3, kvB 227 341], [(57, 226, .inl (0, .ofNat 0)), (52, 6, .inl (1, .ofNat 0))], 0, [kvR 52, some (.inr [20, 21, 22, 23, 24, 25, 26, 27]), kvN 226, none, none], []), ([], none), ([], [], none, ([], [])), kvW74)
noncomputable def kC804_0 : aC := (([kvB 0 3, kvB 227 341, kvB 0 4, kvB 227 341], [(57, 226, .inl (0, .ofNat 0)), (52, 6, .inl (3, .ofNat 0))], 2, [kvR 52, some (.inr [20, 21, 22, 23, 24, 25, 26, 27]), kvN 226, kvI 2, none], []), ([], []), (4, [(-1, 2)]))
theorem ks804 : aseg kS krf kB [kE562, kE567, kE568, kE569] (ksp []) kE804 [kC804_0] 30000 (none) = true := asgqk (by decide +kernel)
theorem ks804_0 : aseg kS krf kB [kE562, kE567, kE568, kE569] (ksp []) kE804 [kC804_0] 30000 (some kC804_0) = true := asgqk (by decide +kernel)
theorem kok804 : aOK kS krf kB kE804 := aOK_of (kal1 kok562 (kal1 kok567 (kal1 kok568 (kal1 kok569 kal0)))) (kcl1 ks804_0 kcl0) ks804
/-- ColdShod$StrokePlan.addNext(LColdShod$Idea;I)V -/
noncomputable def kE805 : aE := (83, 3, ([kvB 0 3, kvB 226 341], [(57, 225, .inl (0, .ofNat 0)), (52, 6, .inl (1, .ofNat 0))], 0, [kvR 52, some (.inr [20, 21, 22, 23, 24, 25, 26, 27]), kvN 225, none, none], []), ([], none), ([], [], none, ([], [])), kvW74)
noncomputable def kC805_0 : aC := (([kvB 0 3, kvB 226 341, kvB 0 4, kvB 226 341], [(57, 225, .inl (0, .ofNat 0)), (52, 6, .inl (3, .ofNat 0))], 2, [kvR 52, some (.inr [20, 21, 22, 23, 24, 25, 26, 27]), kvN 225, kvI 2, none], []), ([], []), (4, [(-1, 2)]))
theorem ks805 : aseg kS krf kB [kE562, kE567, kE568, kE569] (ksp []) kE805 [kC805_0] 30000 (none) = true := asgqk (by decide +kernel)
theorem ks805_0 : aseg kS krf kB [kE562, kE567, kE568, kE569] (ksp []) kE805 [kC805_0] 30000 (some kC805_0) = true := asgqk (by decide +kernel)
theorem kok805 : aOK kS krf kB kE805 := aOK_of (kal1 kok562 (kal1 kok567 (kal1 kok568 (kal1 kok569 kal0)))) (kcl1 ks805_0 kcl0) ks805
/-- ColdShod$StrokePlan.addNext(LColdShod$Idea;I)V -/
noncomputable def kE806 : aE := (83, 3, ([kvB 0 3, kvB 225 341], [(57, 224, .inl (0, .ofNat 0)), (52, 6, .inl (1, .ofNat 0))], 0, [kvR 52, some (.inr [20, 21, 22, 23, 24, 25, 26, 27]), kvN 224, none, none], []), ([], none), ([], [], none, ([], [])), kvW74)
noncomputable def kC806_0 : aC := (([kvB 0 3, kvB 225 341, kvB 0 4, kvB 225 341], [(57, 224, .inl (0, .ofNat 0)), (52, 6, .inl (3, .ofNat 0))], 2, [kvR 52, some (.inr [20, 21, 22, 23, 24, 25, 26, 27]), kvN 224, kvI 2, none], []), ([], []), (4, [(-1, 2)]))
theorem ks806 : aseg kS krf kB [kE562, kE567, kE568, kE569] (ksp []) kE806 [kC806_0] 30000 (none) = true := asgqk (by decide +kernel)
theorem ks806_0 : aseg kS krf kB [kE562, kE567, kE568, kE569] (ksp []) kE806 [kC806_0] 30000 (some kC806_0) = true := asgqk (by decide +kernel)
theorem kok806 : aOK kS krf kB kE806 := aOK_of (kal1 kok562 (kal1 kok567 (kal1 kok568 (kal1 kok569 kal0)))) (kcl1 ks806_0 kcl0) ks806
/-- ColdShod$StrokePlan.addNext(LColdShod$Idea;I)V -/
noncomputable def kE807 : aE := (83, 3, ([kvB 0 3, kvB 224 341], [(57, 223, .inl (0, .ofNat 0)), (52, 6, .inl (1, .ofNat 0))], 0, [kvR 52, some (.inr [20, 21, 22, 23, 24, 25, 26, 27]), kvN 223, none, none], []), ([], none), ([], [], none, ([], [])), kvW74)
noncomputable def kC807_0 : aC := (([kvB 0 3, kvB 224 341, kvB 0 4, kvB 224 341], [(57, 223, .inl (0, .ofNat 0)), (52, 6, .inl (3, .ofNat 0))], 2, [kvR 52, some (.inr [20, 21, 22, 23, 24, 25, 26, 27]), kvN 223, kvI 2, none], []), ([], []), (4, [(-1, 2)]))
theorem ks807 : aseg kS krf kB [kE562, kE567, kE568, kE569] (ksp []) kE807 [kC807_0] 30000 (none) = true := asgqk (by decide +kernel)
theorem ks807_0 : aseg kS krf kB [kE562, kE567, kE568, kE569] (ksp []) kE807 [kC807_0] 30000 (some kC807_0) = true := asgqk (by decide +kernel)
theorem kok807 : aOK kS krf kB kE807 := aOK_of (kal1 kok562 (kal1 kok567 (kal1 kok568 (kal1 kok569 kal0)))) (kcl1 ks807_0 kcl0) ks807
/-- ColdShod$StrokePlan.addNext(LColdShod$Idea;I)V -/
noncomputable def kE808 : aE := (83, 3, ([kvB 0 3, kvB 223 341], [(57, 222, .inl (0, .ofNat 0)), (52, 6, .inl (1, .ofNat 0))], 0, [kvR 52, some (.inr [20, 21, 22, 23, 24, 25, 26, 27]), kvN 222, none, none], []), ([], none), ([], [], none, ([], [])), kvW74)
noncomputable def kC808_0 : aC := (([kvB 0 3, kvB 223 341, kvB 0 4, kvB 223 341], [(57, 222, .inl (0, .ofNat 0)), (52, 6, .inl (3, .ofNat 0))], 2, [kvR 52, some (.inr [20, 21, 22, 23, 24, 25, 26, 27]), kvN 222, kvI 2, none], []), ([], []), (4, [(-1, 2)]))
theorem ks808 : aseg kS krf kB [kE562, kE567, kE568, kE569] (ksp []) kE808 [kC808_0] 30000 (none) = true := asgqk (by decide +kernel)
theorem ks808_0 : aseg kS krf kB [kE562, kE567, kE568, kE569] (ksp []) kE808 [kC808_0] 30000 (some kC808_0) = true := asgqk (by decide +kernel)
theorem kok808 : aOK kS krf kB kE808 := aOK_of (kal1 kok562 (kal1 kok567 (kal1 kok568 (kal1 kok569 kal0)))) (kcl1 ks808_0 kcl0) ks808
/-- ColdShod$StrokePlan.addNext(LColdShod$Idea;I)V -/
noncomputable def kE809 : aE := (83, 3, ([kvB 0 3, kvB 222 341], [(57, 221, .inl (0, .ofNat 0)), (52, 6, .inl (1, .ofNat 0))], 0, [kvR 52, some (.inr [20, 21, 22, 23, 24, 25, 26, 27]), kvN 221, none, none], []), ([], none), ([], [], none, ([], [])), kvW74)
noncomputable def kC809_0 : aC := (([kvB 0 3, kvB 222 341, kvB 0 4, kvB 222 341], [(57, 221, .inl (0, .ofNat 0)), (52, 6, .inl (3, .ofNat 0))], 2, [kvR 52, some (.inr [20, 21, 22, 23, 24, 25, 26, 27]), kvN 221, kvI 2, none], []), ([], []), (4, [(-1, 2)]))
theorem ks809 : aseg kS krf kB [kE562, kE567, kE568, kE569] (ksp []) kE809 [kC809_0] 30000 (none) = true := asgqk (by decide +kernel)
theorem ks809_0 : aseg kS krf kB [kE562, kE567, kE568, kE569] (ksp []) kE809 [kC809_0] 30000 (some kC809_0) = true := asgqk (by decide +kernel)
theorem kok809 : aOK kS krf kB kE809 := aOK_of (kal1 kok562 (kal1 kok567 (kal1 kok568 (kal1 kok569 kal0)))) (kcl1 ks809_0 kcl0) ks809
/-- ColdShod$StrokePlan.addNext(LColdShod$Idea;I)V -/
noncomputable def kE810 : aE := (83, 3, ([kvB 0 3, kvB 221 341], [(57, 220, .inl (0, .ofNat 0)), (52, 6, .inl (1, .ofNat 0))], 0, [kvR 52, some (.inr [20, 21, 22, 23, 24, 25, 26, 27]), kvN 220, none, none], []), ([], none), ([], [], none, ([], [])), kvW74)
noncomputable def kC810_0 : aC := (([kvB 0 3, kvB 221 341, kvB 0 4, kvB 221 341], [(57, 220, .inl (0, .ofNat 0)), (52, 6, .inl (3, .ofNat 0))], 2, [kvR 52, some (.inr [20, 21, 22, 23, 24, 25, 26, 27]), kvN 220, kvI 2, none], []), ([], []), (4, [(-1, 2)]))
theorem ks810 : aseg kS krf kB [kE562, kE567, kE568, kE569] (ksp []) kE810 [kC810_0] 30000 (none) = true := asgqk (by decide +kernel)
theorem ks810_0 : aseg kS krf kB [kE562, kE567, kE568, kE569] (ksp []) kE810 [kC810_0] 30000 (some kC810_0) = true := asgqk (by decide +kernel)
theorem kok810 : aOK kS krf kB kE810 := aOK_of (kal1 kok562 (kal1 kok567 (kal1 kok568 (kal1 kok569 kal0)))) (kcl1 ks810_0 kcl0) ks810
/-- ColdShod$StrokePlan.addNext(LColdShod$Idea;I)V -/
noncomputable def kE811 : aE := (83, 3, ([kvB 0 3, kvB 220 341], [(57, 219, .inl (0, .ofNat 0)), (52, 6, .inl (1, .ofNat 0))], 0, [kvR 52, some (.inr [20, 21, 22, 23, 24, 25, 26, 27]), kvN 219, none, none], []), ([], none), ([], [], none, ([], [])), kvW74)
noncomputable def kC811_0 : aC := (([kvB 0 3, kvB 220 341, kvB 0 4, kvB 220 341], [(57, 219, .inl (0, .ofNat 0)), (52, 6, .inl (3, .ofNat 0))], 2, [kvR 52, some (.inr [20, 21, 22, 23, 24, 25, 26, 27]), kvN 219, kvI 2, none], []), ([], []), (4, [(-1, 2)]))
theorem ks811 : aseg kS krf kB [kE562, kE567, kE568, kE569] (ksp []) kE811 [kC811_0] 30000 (none) = true := asgqk (by decide +kernel)
theorem ks811_0 : aseg kS krf kB [kE562, kE567, kE568, kE569] (ksp []) kE811 [kC811_0] 30000 (some kC811_0) = true := asgqk (by decide +kernel)
theorem kok811 : aOK kS krf kB kE811 := aOK_of (kal1 kok562 (kal1 kok567 (kal1 kok568 (kal1 kok569 kal0)))) (kcl1 ks811_0 kcl0) ks811
/-- ColdShod$StrokePlan.addNext(LColdShod$Idea;I)V -/
noncomputable def kE812 : aE := (83, 3, ([kvB 0 3, kvB 219 341], [(57, 218, .inl (0, .ofNat 0)), (52, 6, .inl (1, .ofNat 0))], 0, [kvR 52, some (.inr [20, 21, 22, 23, 24, 25, 26, 27]), kvN 218, none, none], []), ([], none), ([], [], none, ([], [])), kvW74)
noncomputable def kC812_0 : aC := (([kvB 0 3, kvB 219 341, kvB 0 4, kvB 219 341], [(57, 218, .inl (0, .ofNat 0)), (52, 6, .inl (3, .ofNat 0))], 2, [kvR 52, some (.inr [20, 21, 22, 23, 24, 25, 26, 27]), kvN 218, kvI 2, none], []), ([], []), (4, [(-1, 2)]))
theorem ks812 : aseg kS krf kB [kE562, kE567, kE568, kE569] (ksp []) kE812 [kC812_0] 30000 (none) = true := asgqk (by decide +kernel)
theorem ks812_0 : aseg kS krf kB [kE562, kE567, kE568, kE569] (ksp []) kE812 [kC812_0] 30000 (some kC812_0) = true := asgqk (by decide +kernel)
theorem kok812 : aOK kS krf kB kE812 := aOK_of (kal1 kok562 (kal1 kok567 (kal1 kok568 (kal1 kok569 kal0)))) (kcl1 ks812_0 kcl0) ks812
/-- ColdShod$StrokePlan.addNext(LColdShod$Idea;I)V -/
noncomputable def kE813 : aE := (83, 3, ([kvB 0 3, kvB 218 341], [(57, 217, .inl (0, .ofNat 0)), (52, 6, .inl (1, .ofNat 0))], 0, [kvR 52, some (.inr [20, 21, 22, 23, 24, 25, 26, 27]), kvN 217, none, none], []), ([], none), ([], [], none, ([], [])), kvW74)
noncomputable def kC813_0 : aC := (([kvB 0 3, kvB 218 341, kvB 0 4, kvB 218 341], [(57, 217, .inl (0, .ofNat 0)), (52, 6, .inl (3, .ofNat 0))], 2, [kvR 52, some (.inr [20, 21, 22, 23, 24, 25, 26, 27]), kvN 217, kvI 2, none], []), ([], []), (4, [(-1, 2)]))
theorem ks813 : aseg kS krf kB [kE562, kE567, kE568, kE569] (ksp []) kE813 [kC813_0] 30000 (none) = true := asgqk (by decide +kernel)
theorem ks813_0 : aseg kS krf kB [kE562, kE567, kE568, kE569] (ksp []) kE813 [kC813_0] 30000 (some kC813_0) = true := asgqk (by decide +kernel)
theorem kok813 : aOK kS krf kB kE813 := aOK_of (kal1 kok562 (kal1 kok567 (kal1 kok568 (kal1 kok569 kal0)))) (kcl1 ks813_0 kcl0) ks813
/-- ColdShod$StrokePlan.addNext(LColdShod$Idea;I)V -/
noncomputable def kE814 : aE := (83, 3, ([kvB 0 3, kvB 217 341], [(57, 216, .inl (0, .ofNat 0)), (52, 6, .inl (1, .ofNat 0))], 0, [kvR 52, some (.inr [20, 21, 22, 23, 24, 25, 26, 27]), kvN 216, none, none], []), ([], none), ([], [], none, ([], [])), kvW74)
noncomputable def kC814_0 : aC := (([kvB 0 3, kvB 217 341, kvB 0 4, kvB 217 341], [(57, 216, .inl (0, .ofNat 0)), (52, 6, .inl (3, .ofNat 0))], 2, [kvR 52, some (.inr [20, 21, 22, 23, 24, 25, 26, 27]), kvN 216, kvI 2, none], []), ([], []), (4, [(-1, 2)]))
theorem ks814 : aseg kS krf kB [kE562, kE567, kE568, kE569] (ksp []) kE814 [kC814_0] 30000 (none) = true := asgqk (by decide +kernel)
theorem ks814_0 : aseg kS krf kB [kE562, kE567, kE568, kE569] (ksp []) kE814 [kC814_0] 30000 (some kC814_0) = true := asgqk (by decide +kernel)
theorem kok814 : aOK kS krf kB kE814 := aOK_of (kal1 kok562 (kal1 kok567 (kal1 kok568 (kal1 kok569 kal0)))) (kcl1 ks814_0 kcl0) ks814
/-- ColdShod$StrokePlan.addNext(LColdShod$Idea;I)V -/
noncomputable def kE815 : aE := (83, 3, ([kvB 0 3, kvB 216 341], [(57, 215, .inl (0, .ofNat 0)), (52, 6, .inl (1, .ofNat 0))], 0, [kvR 52, some (.inr [20, 21, 22, 23, 24, 25, 26, 27]), kvN 215, none, none], []), ([], none), ([], [], none, ([], [])), kvW74)
noncomputable def kC815_0 : aC := (([kvB 0 3, kvB 216 341, kvB 0 4, kvB 216 341], [(57, 215, .inl (0, .ofNat 0)), (52, 6, .inl (3, .ofNat 0))], 2, [kvR 52, some (.inr [20, 21, 22, 23, 24, 25, 26, 27]), kvN 215, kvI 2, none], []), ([], []), (4, [(-1, 2)]))
theorem ks815 : aseg kS krf kB [kE562, kE567, kE568, kE569] (ksp []) kE815 [kC815_0] 30000 (none) = true := asgqk (by decide +kernel)
theorem ks815_0 : aseg kS krf kB [kE562, kE567, kE568, kE569] (ksp []) kE815 [kC815_0] 30000 (some kC815_0) = true := asgqk (by decide +kernel)
theorem kok815 : aOK kS krf kB kE815 := aOK_of (kal1 kok562 (kal1 kok567 (kal1 kok568 (kal1 kok569 kal0)))) (kcl1 ks815_0 kcl0) ks815
/-- ColdShod$StrokePlan.addNext(LColdShod$Idea;I)V -/
noncomputable def kE816 : aE := (83, 3, ([kvB 0 3, kvB 215 341], [(57, 214, .inl (0, .ofNat 0)), (52, 6, .inl (1, .ofNat 0))], 0, [kvR 52, some (.inr [20, 21, 22, 23, 24, 25, 26, 27]), kvN 214, none, none], []), ([], none), ([], [], none, ([], [])), kvW74)
noncomputable def kC816_0 : aC := (([kvB 0 3, kvB 215 341, kvB 0 4, kvB 215 341], [(57, 214, .inl (0, .ofNat 0)), (52, 6, .inl (3, .ofNat 0))], 2, [kvR 52, some (.inr [20, 21, 22, 23, 24, 25, 26, 27]), kvN 214, kvI 2, none], []), ([], []), (4, [(-1, 2)]))
theorem ks816 : aseg kS krf kB [kE562, kE567, kE568, kE569] (ksp []) kE816 [kC816_0] 30000 (none) = true := asgqk (by decide +kernel)
theorem ks816_0 : aseg kS krf kB [kE562, kE567, kE568, kE569] (ksp []) kE816 [kC816_0] 30000 (some kC816_0) = true := asgqk (by decide +kernel)
theorem kok816 : aOK kS krf kB kE816 := aOK_of (kal1 kok562 (kal1 kok567 (kal1 kok568 (kal1 kok569 kal0)))) (kcl1 ks816_0 kcl0) ks816
/-- ColdShod$StrokePlan.addNext(LColdShod$Idea;I)V -/
noncomputable def kE817 : aE := (83, 3, ([kvB 0 3, kvB 214 341], [(57, 213, .inl (0, .ofNat 0)), (52, 6, .inl (1, .ofNat 0))], 0, [kvR 52, some (.inr [20, 21, 22, 23, 24, 25, 26, 27]), kvN 213, none, none], []), ([], none), ([], [], none, ([], [])), kvW74)
noncomputable def kC817_0 : aC := (([kvB 0 3, kvB 214 341, kvB 0 4, kvB 214 341], [(57, 213, .inl (0, .ofNat 0)), (52, 6, .inl (3, .ofNat 0))], 2, [kvR 52, some (.inr [20, 21, 22, 23, 24, 25, 26, 27]), kvN 213, kvI 2, none], []), ([], []), (4, [(-1, 2)]))
theorem ks817 : aseg kS krf kB [kE562, kE567, kE568, kE569] (ksp []) kE817 [kC817_0] 30000 (none) = true := asgqk (by decide +kernel)
theorem ks817_0 : aseg kS krf kB [kE562, kE567, kE568, kE569] (ksp []) kE817 [kC817_0] 30000 (some kC817_0) = true := asgqk (by decide +kernel)
theorem kok817 : aOK kS krf kB kE817 := aOK_of (kal1 kok562 (kal1 kok567 (kal1 kok568 (kal1 kok569 kal0)))) (kcl1 ks817_0 kcl0) ks817
/-- ColdShod$StrokePlan.addNext(LColdShod$Idea;I)V -/
noncomputable def kE818 : aE := (83, 3, ([kvB 0 3, kvB 213 341], [(57, 212, .inl (0, .ofNat 0)), (52, 6, .inl (1, .ofNat 0))], 0, [kvR 52, some (.inr [20, 21, 22, 23, 24, 25, 26, 27]), kvN 212, none, none], []), ([], none), ([], [], none, ([], [])), kvW74)
noncomputable def kC818_0 : aC := (([kvB 0 3, kvB 213 341, kvB 0 4, kvB 213 341], [(57, 212, .inl (0, .ofNat 0)), (52, 6, .inl (3, .ofNat 0))], 2, [kvR 52, some (.inr [20, 21, 22, 23, 24, 25, 26, 27]), kvN 212, kvI 2, none], []), ([], []), (4, [(-1, 2)]))
theorem ks818 : aseg kS krf kB [kE562, kE567, kE568, kE569] (ksp []) kE818 [kC818_0] 30000 (none) = true := asgqk (by decide +kernel)
theorem ks818_0 : aseg kS krf kB [kE562, kE567, kE568, kE569] (ksp []) kE818 [kC818_0] 30000 (some kC818_0) = true := asgqk (by decide +kernel)
theorem kok818 : aOK kS krf kB kE818 := aOK_of (kal1 kok562 (kal1 kok567 (kal1 kok568 (kal1 kok569 kal0)))) (kcl1 ks818_0 kcl0) ks818
/-- ColdShod$StrokePlan.addNext(LColdShod$Idea;I)V -/
noncomputable def kE819 : aE := (83, 3, ([kvB 0 3, kvB 212 341], [(57, 211, .inl (0, .ofNat 0)), (52, 6, .inl (1, .ofNat 0))], 0, [kvR 52, some (.inr [20, 21, 22, 23, 24, 25, 26, 27]), kvN 211, none, none], []), ([], none), ([], [], none, ([], [])), kvW74)
noncomputable def kC819_0 : aC := (([kvB 0 3, kvB 212 341, kvB 0 4, kvB 212 341], [(57, 211, .inl (0, .ofNat 0)), (52, 6, .inl (3, .ofNat 0))], 2, [kvR 52, some (.inr [20, 21, 22, 23, 24, 25, 26, 27]), kvN 211, kvI 2, none], []), ([], []), (4, [(-1, 2)]))
theorem ks819 : aseg kS krf kB [kE562, kE567, kE568, kE569] (ksp []) kE819 [kC819_0] 30000 (none) = true := asgqk (by decide +kernel)
theorem ks819_0 : aseg kS krf kB [kE562, kE567, kE568, kE569] (ksp []) kE819 [kC819_0] 30000 (some kC819_0) = true := asgqk (by decide +kernel)
theorem kok819 : aOK kS krf kB kE819 := aOK_of (kal1 kok562 (kal1 kok567 (kal1 kok568 (kal1 kok569 kal0)))) (kcl1 ks819_0 kcl0) ks819
/-- ColdShod$StrokePlan.addNext(LColdShod$Idea;I)V -/
noncomputable def kE820 : aE := (83, 3, ([kvB 0 3, kvB 211 341], [(57, 210, .inl (0, .ofNat 0)), (52, 6, .inl (1, .ofNat 0))], 0, [kvR 52, some (.inr [20, 21, 22, 23, 24, 25, 26, 27]), kvN 210, none, none], []), ([], none), ([], [], none, ([], [])), kvW74)
noncomputable def kC820_0 : aC := (([kvB 0 3, kvB 211 341, kvB 0 4, kvB 211 341], [(57, 210, .inl (0, .ofNat 0)), (52, 6, .inl (3, .ofNat 0))], 2, [kvR 52, some (.inr [20, 21, 22, 23, 24, 25, 26, 27]), kvN 210, kvI 2, none], []), ([], []), (4, [(-1, 2)]))
theorem ks820 : aseg kS krf kB [kE562, kE567, kE568, kE569] (ksp []) kE820 [kC820_0] 30000 (none) = true := asgqk (by decide +kernel)
theorem ks820_0 : aseg kS krf kB [kE562, kE567, kE568, kE569] (ksp []) kE820 [kC820_0] 30000 (some kC820_0) = true := asgqk (by decide +kernel)
theorem kok820 : aOK kS krf kB kE820 := aOK_of (kal1 kok562 (kal1 kok567 (kal1 kok568 (kal1 kok569 kal0)))) (kcl1 ks820_0 kcl0) ks820
/-- ColdShod$StrokePlan.addNext(LColdShod$Idea;I)V -/
noncomputable def kE821 : aE := (83, 3, ([kvB 0 3, kvB 210 341], [(57, 209, .inl (0, .ofNat 0)), (52, 6, .inl (1, .ofNat 0))], 0, [kvR 52, some (.inr [20, 21, 22, 23, 24, 25, 26, 27]), kvN 209, none, none], []), ([], none), ([], [], none, ([], [])), kvW74)
noncomputable def kC821_0 : aC := (([kvB 0 3, kvB 210 341, kvB 0 4, kvB 210 341], [(57, 209, .inl (0, .ofNat 0)), (52, 6, .inl (3, .ofNat 0))], 2, [kvR 52, some (.inr [20, 21, 22, 23, 24, 25, 26, 27]), kvN 209, kvI 2, none], []), ([], []), (4, [(-1, 2)]))
theorem ks821 : aseg kS krf kB [kE562, kE567, kE568, kE569] (ksp []) kE821 [kC821_0] 30000 (none) = true := asgqk (by decide +kernel)
theorem ks821_0 : aseg kS krf kB [kE562, kE567, kE568, kE569] (ksp []) kE821 [kC821_0] 30000 (some kC821_0) = true := asgqk (by decide +kernel)
theorem kok821 : aOK kS krf kB kE821 := aOK_of (kal1 kok562 (kal1 kok567 (kal1 kok568 (kal1 kok569 kal0)))) (kcl1 ks821_0 kcl0) ks821
/-- ColdShod$StrokePlan.addNext(LColdShod$Idea;I)V -/
noncomputable def kE822 : aE := (83, 3, ([kvB 0 3, kvB 209 341], [(57, 208, .inl (0, .ofNat 0)), (52, 6, .inl (1, .ofNat 0))], 0, [kvR 52, some (.inr [20, 21, 22, 23, 24, 25, 26, 27]), kvN 208, none, none], []), ([], none), ([], [], none, ([], [])), kvW74)
noncomputable def kC822_0 : aC := (([kvB 0 3, kvB 209 341, kvB 0 4, kvB 209 341], [(57, 208, .inl (0, .ofNat 0)), (52, 6, .inl (3, .ofNat 0))], 2, [kvR 52, some (.inr [20, 21, 22, 23, 24, 25, 26, 27]), kvN 208, kvI 2, none], []), ([], []), (4, [(-1, 2)]))
theorem ks822 : aseg kS krf kB [kE562, kE567, kE568, kE569] (ksp []) kE822 [kC822_0] 30000 (none) = true := asgqk (by decide +kernel)
theorem ks822_0 : aseg kS krf kB [kE562, kE567, kE568, kE569] (ksp []) kE822 [kC822_0] 30000 (some kC822_0) = true := asgqk (by decide +kernel)
theorem kok822 : aOK kS krf kB kE822 := aOK_of (kal1 kok562 (kal1 kok567 (kal1 kok568 (kal1 kok569 kal0)))) (kcl1 ks822_0 kcl0) ks822
/-- ColdShod$StrokePlan.addNext(LColdShod$Idea;I)V -/
noncomputable def kE823 : aE := (83, 3, ([kvB 0 3, kvB 208 341], [(57, 207, .inl (0, .ofNat 0)), (52, 6, .inl (1, .ofNat 0))], 0, [kvR 52, some (.inr [20, 21, 22, 23, 24, 25, 26, 27]), kvN 207, none, none], []), ([], none), ([], [], none, ([], [])), kvW74)
noncomputable def kC823_0 : aC := (([kvB 0 3, kvB 208 341, kvB 0 4, kvB 208 341], [(57, 207, .inl (0, .ofNat 0)), (52, 6, .inl (3, .ofNat 0))], 2, [kvR 52, some (.inr [20, 21, 22, 23, 24, 25, 26, 27]), kvN 207, kvI 2, none], []), ([], []), (4, [(-1, 2)]))
theorem ks823 : aseg kS krf kB [kE562, kE567, kE568, kE569] (ksp []) kE823 [kC823_0] 30000 (none) = true := asgqk (by decide +kernel)
theorem ks823_0 : aseg kS krf kB [kE562, kE567, kE568, kE569] (ksp []) kE823 [kC823_0] 30000 (some kC823_0) = true := asgqk (by decide +kernel)
theorem kok823 : aOK kS krf kB kE823 := aOK_of (kal1 kok562 (kal1 kok567 (kal1 kok568 (kal1 kok569 kal0)))) (kcl1 ks823_0 kcl0) ks823
/-- ColdShod$StrokePlan.addNext(LColdShod$Idea;I)V -/
noncomputable def kE824 : aE := (83, 3, ([kvB 0 3, kvB 207 341], [(57, 206, .inl (0, .ofNat 0)), (52, 6, .inl (1, .ofNat 0))], 0, [kvR 52, some (.inr [20, 21, 22, 23, 24, 25, 26, 27]), kvN 206, none, none], []), ([], none), ([], [], none, ([], [])), kvW74)
noncomputable def kC824_0 : aC := (([kvB 0 3, kvB 207 341, kvB 0 4, kvB 207 341], [(57, 206, .inl (0, .ofNat 0)), (52, 6, .inl (3, .ofNat 0))], 2, [kvR 52, some (.inr [20, 21, 22, 23, 24, 25, 26, 27]), kvN 206, kvI 2, none], []), ([], []), (4, [(-1, 2)]))
theorem ks824 : aseg kS krf kB [kE562, kE567, kE568, kE569] (ksp []) kE824 [kC824_0] 30000 (none) = true := asgqk (by decide +kernel)
theorem ks824_0 : aseg kS krf kB [kE562, kE567, kE568, kE569] (ksp []) kE824 [kC824_0] 30000 (some kC824_0) = true := asgqk (by decide +kernel)
theorem kok824 : aOK kS krf kB kE824 := aOK_of (kal1 kok562 (kal1 kok567 (kal1 kok568 (kal1 kok569 kal0)))) (kcl1 ks824_0 kcl0) ks824
/-- ColdShod$StrokePlan.addNext(LColdShod$Idea;I)V -/
noncomputable def kE825 : aE := (83, 3, ([kvB 0 3, kvB 206 341], [(57, 205, .inl (0, .ofNat 0)), (52, 6, .inl (1, .ofNat 0))], 0, [kvR 52, some (.inr [20, 21, 22, 23, 24, 25, 26, 27]), kvN 205, none, none], []), ([], none), ([], [], none, ([], [])), kvW74)
noncomputable def kC825_0 : aC := (([kvB 0 3, kvB 206 341, kvB 0 4, kvB 206 341], [(57, 205, .inl (0, .ofNat 0)), (52, 6, .inl (3, .ofNat 0))], 2, [kvR 52, some (.inr [20, 21, 22, 23, 24, 25, 26, 27]), kvN 205, kvI 2, none], []), ([], []), (4, [(-1, 2)]))
theorem ks825 : aseg kS krf kB [kE562, kE567, kE568, kE569] (ksp []) kE825 [kC825_0] 30000 (none) = true := asgqk (by decide +kernel)
theorem ks825_0 : aseg kS krf kB [kE562, kE567, kE568, kE569] (ksp []) kE825 [kC825_0] 30000 (some kC825_0) = true := asgqk (by decide +kernel)
theorem kok825 : aOK kS krf kB kE825 := aOK_of (kal1 kok562 (kal1 kok567 (kal1 kok568 (kal1 kok569 kal0)))) (kcl1 ks825_0 kcl0) ks825
/-- ColdShod$StrokePlan.addNext(LColdShod$Idea;I)V -/
noncomputable def kE826 : aE := (83, 3, ([kvB 0 3, kvB 205 341], [(57, 204, .inl (0, .ofNat 0)), (52, 6, .inl (1, .ofNat 0))], 0, [kvR 52, some (.inr [20, 21, 22, 23, 24, 25, 26, 27]), kvN 204, none, none], []), ([], none), ([], [], none, ([], [])), kvW74)
noncomputable def kC826_0 : aC := (([kvB 0 3, kvB 205 341, kvB 0 4, kvB 205 341], [(57, 204, .inl (0, .ofNat 0)), (52, 6, .inl (3, .ofNat 0))], 2, [kvR 52, some (.inr [20, 21, 22, 23, 24, 25, 26, 27]), kvN 204, kvI 2, none], []), ([], []), (4, [(-1, 2)]))
theorem ks826 : aseg kS krf kB [kE562, kE567, kE568, kE569] (ksp []) kE826 [kC826_0] 30000 (none) = true := asgqk (by decide +kernel)
theorem ks826_0 : aseg kS krf kB [kE562, kE567, kE568, kE569] (ksp []) kE826 [kC826_0] 30000 (some kC826_0) = true := asgqk (by decide +kernel)
theorem kok826 : aOK kS krf kB kE826 := aOK_of (kal1 kok562 (kal1 kok567 (kal1 kok568 (kal1 kok569 kal0)))) (kcl1 ks826_0 kcl0) ks826
/-- ColdShod$StrokePlan.addNext(LColdShod$Idea;I)V -/
noncomputable def kE827 : aE := (83, 3, ([kvB 0 3, kvB 204 341], [(57, 203, .inl (0, .ofNat 0)), (52, 6, .inl (1, .ofNat 0))], 0, [kvR 52, some (.inr [20, 21, 22, 23, 24, 25, 26, 27]), kvN 203, none, none], []), ([], none), ([], [], none, ([], [])), kvW74)
noncomputable def kC827_0 : aC := (([kvB 0 3, kvB 204 341, kvB 0 4, kvB 204 341], [(57, 203, .inl (0, .ofNat 0)), (52, 6, .inl (3, .ofNat 0))], 2, [kvR 52, some (.inr [20, 21, 22, 23, 24, 25, 26, 27]), kvN 203, kvI 2, none], []), ([], []), (4, [(-1, 2)]))
theorem ks827 : aseg kS krf kB [kE562, kE567, kE568, kE569] (ksp []) kE827 [kC827_0] 30000 (none) = true := asgqk (by decide +kernel)
theorem ks827_0 : aseg kS krf kB [kE562, kE567, kE568, kE569] (ksp []) kE827 [kC827_0] 30000 (some kC827_0) = true := asgqk (by decide +kernel)
theorem kok827 : aOK kS krf kB kE827 := aOK_of (kal1 kok562 (kal1 kok567 (kal1 kok568 (kal1 kok569 kal0)))) (kcl1 ks827_0 kcl0) ks827
/-- ColdShod$StrokePlan.addNext(LColdShod$Idea;I)V -/
noncomputable def kE828 : aE := (83, 3, ([kvB 0 3, kvB 203 341], [(57, 202, .inl (0, .ofNat 0)), (52, 6, .inl (1, .ofNat 0))], 0, [kvR 52, some (.inr [20, 21, 22, 23, 24, 25, 26, 27]), kvN 202, none, none], []), ([], none), ([], [], none, ([], [])), kvW74)
noncomputable def kC828_0 : aC := (([kvB 0 3, kvB 203 341, kvB 0 4, kvB 203 341], [(57, 202, .inl (0, .ofNat 0)), (52, 6, .inl (3, .ofNat 0))], 2, [kvR 52, some (.inr [20, 21, 22, 23, 24, 25, 26, 27]), kvN 202, kvI 2, none], []), ([], []), (4, [(-1, 2)]))
theorem ks828 : aseg kS krf kB [kE562, kE567, kE568, kE569] (ksp []) kE828 [kC828_0] 30000 (none) = true := asgqk (by decide +kernel)
theorem ks828_0 : aseg kS krf kB [kE562, kE567, kE568, kE569] (ksp []) kE828 [kC828_0] 30000 (some kC828_0) = true := asgqk (by decide +kernel)
theorem kok828 : aOK kS krf kB kE828 := aOK_of (kal1 kok562 (kal1 kok567 (kal1 kok568 (kal1 kok569 kal0)))) (kcl1 ks828_0 kcl0) ks828
/-- ColdShod$StrokePlan.addNext(LColdShod$Idea;I)V -/
noncomputable def kE829 : aE := (83, 3, ([kvB 0 3, kvB 202 341], [(57, 201, .inl (0, .ofNat 0)), (52, 6, .inl (1, .ofNat 0))], 0, [kvR 52, some (.inr [20, 21, 22, 23, 24, 25, 26, 27]), kvN 201, none, none], []), ([], none), ([], [], none, ([], [])), kvW74)
noncomputable def kC829_0 : aC := (([kvB 0 3, kvB 202 341, kvB 0 4, kvB 202 341], [(57, 201, .inl (0, .ofNat 0)), (52, 6, .inl (3, .ofNat 0))], 2, [kvR 52, some (.inr [20, 21, 22, 23, 24, 25, 26, 27]), kvN 201, kvI 2, none], []), ([], []), (4, [(-1, 2)]))
theorem ks829 : aseg kS krf kB [kE562, kE567, kE568, kE569] (ksp []) kE829 [kC829_0] 30000 (none) = true := asgqk (by decide +kernel)
theorem ks829_0 : aseg kS krf kB [kE562, kE567, kE568, kE569] (ksp []) kE829 [kC829_0] 30000 (some kC829_0) = true := asgqk (by decide +kernel)
theorem kok829 : aOK kS krf kB kE829 := aOK_of (kal1 kok562 (kal1 kok567 (kal1 kok568 (kal1 kok569 kal0)))) (kcl1 ks829_0 kcl0) ks829
/-- ColdShod$StrokePlan.addNext(LColdShod$Idea;I)V -/
noncomputable def kE830 : aE := (83, 3, ([kvB 0 3, kvB 201 341], [(57, 200, .inl (0, .ofNat 0)), (52, 6, .inl (1, .ofNat 0))], 0, [kvR 52, some (.inr [20, 21, 22, 23, 24, 25, 26, 27]), kvN 200, none, none], []), ([], none), ([], [], none, ([], [])), kvW74)
noncomputable def kC830_0 : aC := (([kvB 0 3, kvB 201 341, kvB 0 4, kvB 201 341], [(57, 200, .inl (0, .ofNat 0)), (52, 6, .inl (3, .ofNat 0))], 2, [kvR 52, some (.inr [20, 21, 22, 23, 24, 25, 26, 27]), kvN 200, kvI 2, none], []), ([], []), (4, [(-1, 2)]))
theorem ks830 : aseg kS krf kB [kE562, kE567, kE568, kE569] (ksp []) kE830 [kC830_0] 30000 (none) = true := asgqk (by decide +kernel)
theorem ks830_0 : aseg kS krf kB [kE562, kE567, kE568, kE569] (ksp []) kE830 [kC830_0] 30000 (some kC830_0) = true := asgqk (by decide +kernel)
theorem kok830 : aOK kS krf kB kE830 := aOK_of (kal1 kok562 (kal1 kok567 (kal1 kok568 (kal1 kok569 kal0)))) (kcl1 ks830_0 kcl0) ks830
/-! ENTRIES and their checks: printed by a program (wip/ai). -/
/-- ColdShod$StrokePlan.addNext(LColdShod$Idea;I)V -/
noncomputable def kE831 : aE := (83, 3, ([kvB 0 3, kvB 200 341], [(57, 199, .inl (0, .ofNat 0)), (52, 6, .inl (1, .ofNat 0))], 0, [kvR 52, some (.inr [20, 21, 22, 23, 24, 25, 26, 27]), kvN 199, none, none], []), ([], none), ([], [], none, ([], [])), kvW74)
noncomputable def kC831_0 : aC := (([kvB 0 3, kvB 200 341, kvB 0 4, kvB 200 341], [(57, 199, .inl (0, .ofNat 0)), (52, 6, .inl (3, .ofNat 0))], 2, [kvR 52, some (.inr [20, 21, 22, 23, 24, 25, 26, 27]), kvN 199, kvI 2, none], []), ([], []), (4, [(-1, 2)]))
theorem ks831 : aseg kS krf kB [kE562, kE567, kE568, kE569] (ksp []) kE831 [kC831_0] 30000 (none) = true := asgqk (by decide +kernel)
theorem ks831_0 : aseg kS krf kB [kE562, kE567, kE568, kE569] (ksp []) kE831 [kC831_0] 30000 (some kC831_0) = true := asgqk (by decide +kernel)
theorem kok831 : aOK kS krf kB kE831 := aOK_of (kal1 kok562 (kal1 kok567 (kal1 kok568 (kal1 kok569 kal0)))) (kcl1 ks831_0 kcl0) ks831
/-- ColdShod$StrokePlan.addNext(LColdShod$Idea;I)V -/
noncomputable def kE832 : aE := (83, 3, ([kvB 0 3, kvB 199 341], [(57, 198, .inl (0, .ofNat 0)), (52, 6, .inl (1, .ofNat 0))], 0, [kvR 52, some (.inr [20, 21, 22, 23, 24, 25, 26, 27]), kvN 198, none, none], []), ([], none), ([], [], none, ([], [])), kvW74)
noncomputable def kC832_0 : aC := (([kvB 0 3, kvB 199 341, kvB 0 4, kvB 199 341], [(57, 198, .inl (0, .ofNat 0)), (52, 6, .inl (3, .ofNat 0))], 2, [kvR 52, some (.inr [20, 21, 22, 23, 24, 25, 26, 27]), kvN 198, kvI 2, none], []), ([], []), (4, [(-1, 2)]))
theorem ks832 : aseg kS krf kB [kE562, kE567, kE568, kE569] (ksp []) kE832 [kC832_0] 30000 (none) = true := asgqk (by decide +kernel)
theorem ks832_0 : aseg kS krf kB [kE562, kE567, kE568, kE569] (ksp []) kE832 [kC832_0] 30000 (some kC832_0) = true := asgqk (by decide +kernel)
theorem kok832 : aOK kS krf kB kE832 := aOK_of (kal1 kok562 (kal1 kok567 (kal1 kok568 (kal1 kok569 kal0)))) (kcl1 ks832_0 kcl0) ks832
/-- ColdShod$StrokePlan.addNext(LColdShod$Idea;I)V -/
noncomputable def kE833 : aE := (83, 3, ([kvB 0 3, kvB 198 341], [(57, 197, .inl (0, .ofNat 0)), (52, 6, .inl (1, .ofNat 0))], 0, [kvR 52, some (.inr [20, 21, 22, 23, 24, 25, 26, 27]), kvN 197, none, none], []), ([], none), ([], [], none, ([], [])), kvW74)
noncomputable def kC833_0 : aC := (([kvB 0 3, kvB 198 341, kvB 0 4, kvB 198 341], [(57, 197, .inl (0, .ofNat 0)), (52, 6, .inl (3, .ofNat 0))], 2, [kvR 52, some (.inr [20, 21, 22, 23, 24, 25, 26, 27]), kvN 197, kvI 2, none], []), ([], []), (4, [(-1, 2)]))
theorem ks833 : aseg kS krf kB [kE562, kE567, kE568, kE569] (ksp []) kE833 [kC833_0] 30000 (none) = true := asgqk (by decide +kernel)
theorem ks833_0 : aseg kS krf kB [kE562, kE567, kE568, kE569] (ksp []) kE833 [kC833_0] 30000 (some kC833_0) = true := asgqk (by decide +kernel)
theorem kok833 : aOK kS krf kB kE833 := aOK_of (kal1 kok562 (kal1 kok567 (kal1 kok568 (kal1 kok569 kal0)))) (kcl1 ks833_0 kcl0) ks833
/-- ColdShod$StrokePlan.addNext(LColdShod$Idea;I)V -/
noncomputable def kE834 : aE := (83, 3, ([kvB 0 3, kvB 197 341], [(57, 196, .inl (0, .ofNat 0)), (52, 6, .inl (1, .ofNat 0))], 0, [kvR 52, some (.inr [20, 21, 22, 23, 24, 25, 26, 27]), kvN 196, none, none], []), ([], none), ([], [], none, ([], [])), kvW74)
noncomputable def kC834_0 : aC := (([kvB 0 3, kvB 197 341, kvB 0 4, kvB 197 341], [(57, 196, .inl (0, .ofNat 0)), (52, 6, .inl (3, .ofNat 0))], 2, [kvR 52, some (.inr [20, 21, 22, 23, 24, 25, 26, 27]), kvN 196, kvI 2, none], []), ([], []), (4, [(-1, 2)]))
theorem ks834 : aseg kS krf kB [kE562, kE567, kE568, kE569] (ksp []) kE834 [kC834_0] 30000 (none) = true := asgqk (by decide +kernel)
theorem ks834_0 : aseg kS krf kB [kE562, kE567, kE568, kE569] (ksp []) kE834 [kC834_0] 30000 (some kC834_0) = true := asgqk (by decide +kernel)
theorem kok834 : aOK kS krf kB kE834 := aOK_of (kal1 kok562 (kal1 kok567 (kal1 kok568 (kal1 kok569 kal0)))) (kcl1 ks834_0 kcl0) ks834
/-- ColdShod$StrokePlan.addNext(LColdShod$Idea;I)V -/
noncomputable def kE835 : aE := (83, 3, ([kvB 0 3, kvB 196 341], [(57, 195, .inl (0, .ofNat 0)), (52, 6, .inl (1, .ofNat 0))], 0, [kvR 52, some (.inr [20, 21, 22, 23, 24, 25, 26, 27]), kvN 195, none, none], []), ([], none), ([], [], none, ([], [])), kvW74)
noncomputable def kC835_0 : aC := (([kvB 0 3, kvB 196 341, kvB 0 4, kvB 196 341], [(57, 195, .inl (0, .ofNat 0)), (52, 6, .inl (3, .ofNat 0))], 2, [kvR 52, some (.inr [20, 21, 22, 23, 24, 25, 26, 27]), kvN 195, kvI 2, none], []), ([], []), (4, [(-1, 2)]))
theorem ks835 : aseg kS krf kB [kE562, kE567, kE568, kE569] (ksp []) kE835 [kC835_0] 30000 (none) = true := asgqk (by decide +kernel)
theorem ks835_0 : aseg kS krf kB [kE562, kE567, kE568, kE569] (ksp []) kE835 [kC835_0] 30000 (some kC835_0) = true := asgqk (by decide +kernel)
theorem kok835 : aOK kS krf kB kE835 := aOK_of (kal1 kok562 (kal1 kok567 (kal1 kok568 (kal1 kok569 kal0)))) (kcl1 ks835_0 kcl0) ks835
/-- ColdShod$StrokePlan.addNext(LColdShod$Idea;I)V -/
noncomputable def kE836 : aE := (83, 3, ([kvB 0 3, kvB 195 341], [(57, 194, .inl (0, .ofNat 0)), (52, 6, .inl (1, .ofNat 0))], 0, [kvR 52, some (.inr [20, 21, 22, 23, 24, 25, 26, 27]), kvN 194, none, none], []), ([], none), ([], [], none, ([], [])), kvW74)
noncomputable def kC836_0 : aC := (([kvB 0 3, kvB 195 341, kvB 0 4, kvB 195 341], [(57, 194, .inl (0, .ofNat 0)), (52, 6, .inl (3, .ofNat 0))], 2, [kvR 52, some (.inr [20, 21, 22, 23, 24, 25, 26, 27]), kvN 194, kvI 2, none], []), ([], []), (4, [(-1, 2)]))
theorem ks836 : aseg kS krf kB [kE562, kE567, kE568, kE569] (ksp []) kE836 [kC836_0] 30000 (none) = true := asgqk (by decide +kernel)
theorem ks836_0 : aseg kS krf kB [kE562, kE567, kE568, kE569] (ksp []) kE836 [kC836_0] 30000 (some kC836_0) = true := asgqk (by decide +kernel)
theorem kok836 : aOK kS krf kB kE836 := aOK_of (kal1 kok562 (kal1 kok567 (kal1 kok568 (kal1 kok569 kal0)))) (kcl1 ks836_0 kcl0) ks836
/-- ColdShod$StrokePlan.addNext(LColdShod$Idea;I)V -/
noncomputable def kE837 : aE := (83, 3, ([kvB 0 3, kvB 194 341], [(57, 193, .inl (0, .ofNat 0)), (52, 6, .inl (1, .ofNat 0))], 0, [kvR 52, some (.inr [20, 21, 22, 23, 24, 25, 26, 27]), kvN 193, none, none], []), ([], none), ([], [], none, ([], [])), kvW74)
noncomputable def kC837_0 : aC := (([kvB 0 3, kvB 194 341, kvB 0 4, kvB 194 341], [(57, 193, .inl (0, .ofNat 0)), (52, 6, .inl (3, .ofNat 0))], 2, [kvR 52, some (.inr [20, 21, 22, 23, 24, 25, 26, 27]), kvN 193, kvI 2, none], []), ([], []), (4, [(-1, 2)]))
theorem ks837 : aseg kS krf kB [kE562, kE567, kE568, kE569] (ksp []) kE837 [kC837_0] 30000 (none) = true := asgqk (by decide +kernel)
theorem ks837_0 : aseg kS krf kB [kE562, kE567, kE568, kE569] (ksp []) kE837 [kC837_0] 30000 (some kC837_0) = true := asgqk (by decide +kernel)
theorem kok837 : aOK kS krf kB kE837 := aOK_of (kal1 kok562 (kal1 kok567 (kal1 kok568 (kal1 kok569 kal0)))) (kcl1 ks837_0 kcl0) ks837
/-- ColdShod$StrokePlan.addNext(LColdShod$Idea;I)V -/
noncomputable def kE838 : aE := (83, 3, ([kvB 0 3, kvB 193 341], [(57, 192, .inl (0, .ofNat 0)), (52, 6, .inl (1, .ofNat 0))], 0, [kvR 52, some (.inr [20, 21, 22, 23, 24, 25, 26, 27]), kvN 192, none, none], []), ([], none), ([], [], none, ([], [])), kvW74)
noncomputable def kC838_0 : aC := (([kvB 0 3, kvB 193 341, kvB 0 4, kvB 193 341], [(57, 192, .inl (0, .ofNat 0)), (52, 6, .inl (3, .ofNat 0))], 2, [kvR 52, some (.inr [20, 21, 22, 23, 24, 25, 26, 27]), kvN 192, kvI 2, none], []), ([], []), (4, [(-1, 2)]))
theorem ks838 : aseg kS krf kB [kE562, kE567, kE568, kE569] (ksp []) kE838 [kC838_0] 30000 (none) = true := asgqk (by decide +kernel)
theorem ks838_0 : aseg kS krf kB [kE562, kE567, kE568, kE569] (ksp []) kE838 [kC838_0] 30000 (some kC838_0) = true := asgqk (by decide +kernel)
theorem kok838 : aOK kS krf kB kE838 := aOK_of (kal1 kok562 (kal1 kok567 (kal1 kok568 (kal1 kok569 kal0)))) (kcl1 ks838_0 kcl0) ks838
/-- ColdShod$StrokePlan.addNext(LColdShod$Idea;I)V -/
noncomputable def kE839 : aE := (83, 3, ([kvB 0 3, kvB 192 341], [(57, 191, .inl (0, .ofNat 0)), (52, 6, .inl (1, .ofNat 0))], 0, [kvR 52, some (.inr [20, 21, 22, 23, 24, 25, 26, 27]), kvN 191, none, none], []), ([], none), ([], [], none, ([], [])), kvW74)
noncomputable def kC839_0 : aC := (([kvB 0 3, kvB 192 341, kvB 0 4, kvB 192 341], [(57, 191, .inl (0, .ofNat 0)), (52, 6, .inl (3, .ofNat 0))], 2, [kvR 52, some (.inr [20, 21, 22, 23, 24, 25, 26, 27]), kvN 191, kvI 2, none], []), ([], []), (4, [(-1, 2)]))
theorem ks839 : aseg kS krf kB [kE562, kE567, kE568, kE569] (ksp []) kE839 [kC839_0] 30000 (none) = true := asgqk (by decide +kernel)
theorem ks839_0 : aseg kS krf kB [kE562, kE567, kE568, kE569] (ksp []) kE839 [kC839_0] 30000 (some kC839_0) = true := asgqk (by decide +kernel)
theorem kok839 : aOK kS krf kB kE839 := aOK_of (kal1 kok562 (kal1 kok567 (kal1 kok568 (kal1 kok569 kal0)))) (kcl1 ks839_0 kcl0) ks839
/-- ColdShod$StrokePlan.addNext(LColdShod$Idea;I)V -/
noncomputable def kE840 : aE := (83, 3, ([kvB 0 3, kvB 191 341], [(57, 190, .inl (0, .ofNat 0)), (52, 6, .inl (1, .ofNat 0))], 0, [kvR 52, some (.inr [20, 21, 22, 23, 24, 25, 26, 27]), kvN 190, none, none], []), ([], none), ([], [], none, ([], [])), kvW74)
noncomputable def kC840_0 : aC := (([kvB 0 3, kvB 191 341, kvB 0 4, kvB 191 341], [(57, 190, .inl (0, .ofNat 0)), (52, 6, .inl (3, .ofNat 0))], 2, [kvR 52, some (.inr [20, 21, 22, 23, 24, 25, 26, 27]), kvN 190, kvI 2, none], []), ([], []), (4, [(-1, 2)]))
theorem ks840 : aseg kS krf kB [kE562, kE567, kE568, kE569] (ksp []) kE840 [kC840_0] 30000 (none) = true := asgqk (by decide +kernel)
theorem ks840_0 : aseg kS krf kB [kE562, kE567, kE568, kE569] (ksp []) kE840 [kC840_0] 30000 (some kC840_0) = true := asgqk (by decide +kernel)
theorem kok840 : aOK kS krf kB kE840 := aOK_of (kal1 kok562 (kal1 kok567 (kal1 kok568 (kal1 kok569 kal0)))) (kcl1 ks840_0 kcl0) ks840
/-- ColdShod$StrokePlan.addNext(LColdShod$Idea;I)V -/
noncomputable def kE841 : aE := (83, 3, ([kvB 0 3, kvB 190 341], [(57, 189, .inl (0, .ofNat 0)), (52, 6, .inl (1, .ofNat 0))], 0, [kvR 52, some (.inr [20, 21, 22, 23, 24, 25, 26, 27]), kvN 189, none, none], []), ([], none), ([], [], none, ([], [])), kvW74)
noncomputable def kC841_0 : aC := (([kvB 0 3, kvB 190 341, kvB 0 4, kvB 190 341], [(57, 189, .inl (0, .ofNat 0)), (52, 6, .inl (3, .ofNat 0))], 2, [kvR 52, some (.inr [20, 21, 22, 23, 24, 25, 26, 27]), kvN 189, kvI 2, none], []), ([], []), (4, [(-1, 2)]))
theorem ks841 : aseg kS krf kB [kE562, kE567, kE568, kE569] (ksp []) kE841 [kC841_0] 30000 (none) = true := asgqk (by decide +kernel)
theorem ks841_0 : aseg kS krf kB [kE562, kE567, kE568, kE569] (ksp []) kE841 [kC841_0] 30000 (some kC841_0) = true := asgqk (by decide +kernel)
theorem kok841 : aOK kS krf kB kE841 := aOK_of (kal1 kok562 (kal1 kok567 (kal1 kok568 (kal1 kok569 kal0)))) (kcl1 ks841_0 kcl0) ks841
/-- ColdShod$StrokePlan.addNext(LColdShod$Idea;I)V -/
noncomputable def kE842 : aE := (83, 3, ([kvB 0 3, kvB 189 341], [(57, 188, .inl (0, .ofNat 0)), (52, 6, .inl (1, .ofNat 0))], 0, [kvR 52, some (.inr [20, 21, 22, 23, 24, 25, 26, 27]), kvN 188, none, none], []), ([], none), ([], [], none, ([], [])), kvW74)
noncomputable def kC842_0 : aC := (([kvB 0 3, kvB 189 341, kvB 0 4, kvB 189 341], [(57, 188, .inl (0, .ofNat 0)), (52, 6, .inl (3, .ofNat 0))], 2, [kvR 52, some (.inr [20, 21, 22, 23, 24, 25, 26, 27]), kvN 188, kvI 2, none], []), ([], []), (4, [(-1, 2)]))
theorem ks842 : aseg kS krf kB [kE562, kE567, kE568, kE569] (ksp []) kE842 [kC842_0] 30000 (none) = true := asgqk (by decide +kernel)
theorem ks842_0 : aseg kS krf kB [kE562, kE567, kE568, kE569] (ksp []) kE842 [kC842_0] 30000 (some kC842_0) = true := asgqk (by decide +kernel)
theorem kok842 : aOK kS krf kB kE842 := aOK_of (kal1 kok562 (kal1 kok567 (kal1 kok568 (kal1 kok569 kal0)))) (kcl1 ks842_0 kcl0) ks842
/-- ColdShod$StrokePlan.addNext(LColdShod$Idea;I)V -/
noncomputable def kE843 : aE := (83, 3, ([kvB 0 3, kvB 188 341], [(57, 187, .inl (0, .ofNat 0)), (52, 6, .inl (1, .ofNat 0))], 0, [kvR 52, some (.inr [20, 21, 22, 23, 24, 25, 26, 27]), kvN 187, none, none], []), ([], none), ([], [], none, ([], [])), kvW74)
noncomputable def kC843_0 : aC := (([kvB 0 3, kvB 188 341, kvB 0 4, kvB 188 341], [(57, 187, .inl (0, .ofNat 0)), (52, 6, .inl (3, .ofNat 0))], 2, [kvR 52, some (.inr [20, 21, 22, 23, 24, 25, 26, 27]), kvN 187, kvI 2, none], []), ([], []), (4, [(-1, 2)]))
theorem ks843 : aseg kS krf kB [kE562, kE567, kE568, kE569] (ksp []) kE843 [kC843_0] 30000 (none) = true := asgqk (by decide +kernel)
theorem ks843_0 : aseg kS krf kB [kE562, kE567, kE568, kE569] (ksp []) kE843 [kC843_0] 30000 (some kC843_0) = true := asgqk (by decide +kernel)
theorem kok843 : aOK kS krf kB kE843 := aOK_of (kal1 kok562 (kal1 kok567 (kal1 kok568 (kal1 kok569 kal0)))) (kcl1 ks843_0 kcl0) ks843
/-- ColdShod$StrokePlan.addNext(LColdShod$Idea;I)V -/
noncomputable def kE844 : aE := (83, 3, ([kvB 0 3, kvB 187 341], [(57, 186, .inl (0, .ofNat 0)), (52, 6, .inl (1, .ofNat 0))], 0, [kvR 52, some (.inr [20, 21, 22, 23, 24, 25, 26, 27]), kvN 186, none, none], []), ([], none), ([], [], none, ([], [])), kvW74)
noncomputable def kC844_0 : aC := (([kvB 0 3, kvB 187 341, kvB 0 4, kvB 187 341], [(57, 186, .inl (0, .ofNat 0)), (52, 6, .inl (3, .ofNat 0))], 2, [kvR 52, some (.inr [20, 21, 22, 23, 24, 25, 26, 27]), kvN 186, kvI 2, none], []), ([], []), (4, [(-1, 2)]))
theorem ks844 : aseg kS krf kB [kE562, kE567, kE568, kE569] (ksp []) kE844 [kC844_0] 30000 (none) = true := asgqk (by decide +kernel)
theorem ks844_0 : aseg kS krf kB [kE562, kE567, kE568, kE569] (ksp []) kE844 [kC844_0] 30000 (some kC844_0) = true := asgqk (by decide +kernel)
theorem kok844 : aOK kS krf kB kE844 := aOK_of (kal1 kok562 (kal1 kok567 (kal1 kok568 (kal1 kok569 kal0)))) (kcl1 ks844_0 kcl0) ks844
/-- ColdShod$StrokePlan.addNext(LColdShod$Idea;I)V -/
noncomputable def kE845 : aE := (83, 3, ([kvB 0 3, kvB 186 341], [(57, 185, .inl (0, .ofNat 0)), (52, 6, .inl (1, .ofNat 0))], 0, [kvR 52, some (.inr [20, 21, 22, 23, 24, 25, 26, 27]), kvN 185, none, none], []), ([], none), ([], [], none, ([], [])), kvW74)
noncomputable def kC845_0 : aC := (([kvB 0 3, kvB 186 341, kvB 0 4, kvB 186 341], [(57, 185, .inl (0, .ofNat 0)), (52, 6, .inl (3, .ofNat 0))], 2, [kvR 52, some (.inr [20, 21, 22, 23, 24, 25, 26, 27]), kvN 185, kvI 2, none], []), ([], []), (4, [(-1, 2)]))
theorem ks845 : aseg kS krf kB [kE562, kE567, kE568, kE569] (ksp []) kE845 [kC845_0] 30000 (none) = true := asgqk (by decide +kernel)
theorem ks845_0 : aseg kS krf kB [kE562, kE567, kE568, kE569] (ksp []) kE845 [kC845_0] 30000 (some kC845_0) = true := asgqk (by decide +kernel)
theorem kok845 : aOK kS krf kB kE845 := aOK_of (kal1 kok562 (kal1 kok567 (kal1 kok568 (kal1 kok569 kal0)))) (kcl1 ks845_0 kcl0) ks845
/-- ColdShod$StrokePlan.addNext(LColdShod$Idea;I)V -/
noncomputable def kE846 : aE := (83, 3, ([kvB 0 3, kvB 185 341], [(57, 184, .inl (0, .ofNat 0)), (52, 6, .inl (1, .ofNat 0))], 0, [kvR 52, some (.inr [20, 21, 22, 23, 24, 25, 26, 27]), kvN 184, none, none], []), ([], none), ([], [], none, ([], [])), kvW74)
noncomputable def kC846_0 : aC := (([kvB 0 3, kvB 185 341, kvB 0 4, kvB 185 341], [(57, 184, .inl (0, .ofNat 0)), (52, 6, .inl (3, .ofNat 0))], 2, [kvR 52, some (.inr [20, 21, 22, 23, 24, 25, 26, 27]), kvN 184, kvI 2, none], []), ([], []), (4, [(-1, 2)]))
theorem ks846 : aseg kS krf kB [kE562, kE567, kE568, kE569] (ksp []) kE846 [kC846_0] 30000 (none) = true := asgqk (by decide +kernel)
theorem ks846_0 : aseg kS krf kB [kE562, kE567, kE568, kE569] (ksp []) kE846 [kC846_0] 30000 (some kC846_0) = true := asgqk (by decide +kernel)
theorem kok846 : aOK kS krf kB kE846 := aOK_of (kal1 kok562 (kal1 kok567 (kal1 kok568 (kal1 kok569 kal0)))) (kcl1 ks846_0 kcl0) ks846
/-- ColdShod$StrokePlan.addNext(LColdShod$Idea;I)V -/
noncomputable def kE847 : aE := (83, 3, ([kvB 0 3, kvB 184 341], [(57, 183, .inl (0, .ofNat 0)), (52, 6, .inl (1, .ofNat 0))], 0, [kvR 52, some (.inr [20, 21, 22, 23, 24, 25, 26, 27]), kvN 183, none, none], []), ([], none), ([], [], none, ([], [])), kvW74)
noncomputable def kC847_0 : aC := (([kvB 0 3, kvB 184 341, kvB 0 4, kvB 184 341], [(57, 183, .inl (0, .ofNat 0)), (52, 6, .inl (3, .ofNat 0))], 2, [kvR 52, some (.inr [20, 21, 22, 23, 24, 25, 26, 27]), kvN 183, kvI 2, none], []), ([], []), (4, [(-1, 2)]))
theorem ks847 : aseg kS krf kB [kE562, kE567, kE568, kE569] (ksp []) kE847 [kC847_0] 30000 (none) = true := asgqk (by decide +kernel)
theorem ks847_0 : aseg kS krf kB [kE562, kE567, kE568, kE569] (ksp []) kE847 [kC847_0] 30000 (some kC847_0) = true := asgqk (by decide +kernel)
theorem kok847 : aOK kS krf kB kE847 := aOK_of (kal1 kok562 (kal1 kok567 (kal1 kok568 (kal1 kok569 kal0)))) (kcl1 ks847_0 kcl0) ks847
/-- ColdShod$StrokePlan.addNext(LColdShod$Idea;I)V -/
noncomputable def kE848 : aE := (83, 3, ([kvB 0 3, kvB 183 341], [(57, 182, .inl (0, .ofNat 0)), (52, 6, .inl (1, .ofNat 0))], 0, [kvR 52, some (.inr [20, 21, 22, 23, 24, 25, 26, 27]), kvN 182, none, none], []), ([], none), ([], [], none, ([], [])), kvW74)
noncomputable def kC848_0 : aC := (([kvB 0 3, kvB 183 341, kvB 0 4, kvB 183 341], [(57, 182, .inl (0, .ofNat 0)), (52, 6, .inl (3, .ofNat 0))], 2, [kvR 52, some (.inr [20, 21, 22, 23, 24, 25, 26, 27]), kvN 182, kvI 2, none], []), ([], []), (4, [(-1, 2)]))
theorem ks848 : aseg kS krf kB [kE562, kE567, kE568, kE569] (ksp []) kE848 [kC848_0] 30000 (none) = true := asgqk (by decide +kernel)
theorem ks848_0 : aseg kS krf kB [kE562, kE567, kE568, kE569] (ksp []) kE848 [kC848_0] 30000 (some kC848_0) = true := asgqk (by decide +kernel)
theorem kok848 : aOK kS krf kB kE848 := aOK_of (kal1 kok562 (kal1 kok567 (kal1 kok568 (kal1 kok569 kal0)))) (kcl1 ks848_0 kcl0) ks848
/-- ColdShod$StrokePlan.addNext(LColdShod$Idea;I)V -/
noncomputable def kE849 : aE := (83, 3, ([kvB 0 3, kvB 182 341], [(57, 181, .inl (0, .ofNat 0)), (52, 6, .inl (1, .ofNat 0))], 0, [kvR 52, some (.inr [20, 21, 22, 23, 24, 25, 26, 27]), kvN 181, none, none], []), ([], none), ([], [], none, ([], [])), kvW74)
noncomputable def kC849_0 : aC := (([kvB 0 3, kvB 182 341, kvB 0 4, kvB 182 341], [(57, 181, .inl (0, .ofNat 0)), (52, 6, .inl (3, .ofNat 0))], 2, [kvR 52, some (.inr [20, 21, 22, 23, 24, 25, 26, 27]), kvN 181, kvI 2, none], []), ([], []), (4, [(-1, 2)]))
theorem ks849 : aseg kS krf kB [kE562, kE567, kE568, kE569] (ksp []) kE849 [kC849_0] 30000 (none) = true := asgqk (by decide +kernel)
theorem ks849_0 : aseg kS krf kB [kE562, kE567, kE568, kE569] (ksp []) kE849 [kC849_0] 30000 (some kC849_0) = true := asgqk (by decide +kernel)
theorem kok849 : aOK kS krf kB kE849 := aOK_of (kal1 kok562 (kal1 kok567 (kal1 kok568 (kal1 kok569 kal0)))) (kcl1 ks849_0 kcl0) ks849
/-- ColdShod$StrokePlan.addNext(LColdShod$Idea;I)V -/
noncomputable def kE850 : aE := (83, 3, ([kvB 0 3, kvB 181 341], [(57, 180, .inl (0, .ofNat 0)), (52, 6, .inl (1, .ofNat 0))], 0, [kvR 52, some (.inr [20, 21, 22, 23, 24, 25, 26, 27]), kvN 180, none, none], []), ([], none), ([], [], none, ([], [])), kvW74)
noncomputable def kC850_0 : aC := (([kvB 0 3, kvB 181 341, kvB 0 4, kvB 181 341], [(57, 180, .inl (0, .ofNat 0)), (52, 6, .inl (3, .ofNat 0))], 2, [kvR 52, some (.inr [20, 21, 22, 23, 24, 25, 26, 27]), kvN 180, kvI 2, none], []), ([], []), (4, [(-1, 2)]))
theorem ks850 : aseg kS krf kB [kE562, kE567, kE568, kE569] (ksp []) kE850 [kC850_0] 30000 (none) = true := asgqk (by decide +kernel)
theorem ks850_0 : aseg kS krf kB [kE562, kE567, kE568, kE569] (ksp []) kE850 [kC850_0] 30000 (some kC850_0) = true := asgqk (by decide +kernel)
theorem kok850 : aOK kS krf kB kE850 := aOK_of (kal1 kok562 (kal1 kok567 (kal1 kok568 (kal1 kok569 kal0)))) (kcl1 ks850_0 kcl0) ks850
/-- ColdShod$StrokePlan.addNext(LColdShod$Idea;I)V -/
noncomputable def kE851 : aE := (83, 3, ([kvB 0 3, kvB 180 341], [(57, 179, .inl (0, .ofNat 0)), (52, 6, .inl (1, .ofNat 0))], 0, [kvR 52, some (.inr [20, 21, 22, 23, 24, 25, 26, 27]), kvN 179, none, none], []), ([], none), ([], [], none, ([], [])), kvW74)
noncomputable def kC851_0 : aC := (([kvB 0 3, kvB 180 341, kvB 0 4, kvB 180 341], [(57, 179, .inl (0, .ofNat 0)), (52, 6, .inl (3, .ofNat 0))], 2, [kvR 52, some (.inr [20, 21, 22, 23, 24, 25, 26, 27]), kvN 179, kvI 2, none], []), ([], []), (4, [(-1, 2)]))
theorem ks851 : aseg kS krf kB [kE562, kE567, kE568, kE569] (ksp []) kE851 [kC851_0] 30000 (none) = true := asgqk (by decide +kernel)
theorem ks851_0 : aseg kS krf kB [kE562, kE567, kE568, kE569] (ksp []) kE851 [kC851_0] 30000 (some kC851_0) = true := asgqk (by decide +kernel)
theorem kok851 : aOK kS krf kB kE851 := aOK_of (kal1 kok562 (kal1 kok567 (kal1 kok568 (kal1 kok569 kal0)))) (kcl1 ks851_0 kcl0) ks851
/-- ColdShod$StrokePlan.addNext(LColdShod$Idea;I)V -/
noncomputable def kE852 : aE := (83, 3, ([kvB 0 3, kvB 179 341], [(57, 178, .inl (0, .ofNat 0)), (52, 6, .inl (1, .ofNat 0))], 0, [kvR 52, some (.inr [20, 21, 22, 23, 24, 25, 26, 27]), kvN 178, none, none], []), ([], none), ([], [], none, ([], [])), kvW74)
noncomputable def kC852_0 : aC := (([kvB 0 3, kvB 179 341, kvB 0 4, kvB 179 341], [(57, 178, .inl (0, .ofNat 0)), (52, 6, .inl (3, .ofNat 0))], 2, [kvR 52, some (.inr [20, 21, 22, 23, 24, 25, 26, 27]), kvN 178, kvI 2, none], []), ([], []), (4, [(-1, 2)]))
theorem ks852 : aseg kS krf kB [kE562, kE567, kE568, kE569] (ksp []) kE852 [kC852_0] 30000 (none) = true := asgqk (by decide +kernel)
theorem ks852_0 : aseg kS krf kB [kE562, kE567, kE568, kE569] (ksp []) kE852 [kC852_0] 30000 (some kC852_0) = true := asgqk (by decide +kernel)
theorem kok852 : aOK kS krf kB kE852 := aOK_of (kal1 kok562 (kal1 kok567 (kal1 kok568 (kal1 kok569 kal0)))) (kcl1 ks852_0 kcl0) ks852
/-- ColdShod$StrokePlan.addNext(LColdShod$Idea;I)V -/
noncomputable def kE853 : aE := (83, 3, ([kvB 0 3, kvB 178 341], [(57, 177, .inl (0, .ofNat 0)), (52, 6, .inl (1, .ofNat 0))], 0, [kvR 52, some (.inr [20, 21, 22, 23, 24, 25, 26, 27]), kvN 177, none, none], []), ([], none), ([], [], none, ([], [])), kvW74)
noncomputable def kC853_0 : aC := (([kvB 0 3, kvB 178 341, kvB 0 4, kvB 178 341], [(57, 177, .inl (0, .ofNat 0)), (52, 6, .inl (3, .ofNat 0))], 2, [kvR 52, some (.inr [20, 21, 22, 23, 24, 25, 26, 27]), kvN 177, kvI 2, none], []), ([], []), (4, [(-1, 2)]))
theorem ks853 : aseg kS krf kB [kE562, kE567, kE568, kE569] (ksp []) kE853 [kC853_0] 30000 (none) = true := asgqk (by decide +kernel)
theorem ks853_0 : aseg kS krf kB [kE562, kE567, kE568, kE569] (ksp []) kE853 [kC853_0] 30000 (some kC853_0) = true := asgqk (by decide +kernel)
theorem kok853 : aOK kS krf kB kE853 := aOK_of (kal1 kok562 (kal1 kok567 (kal1 kok568 (kal1 kok569 kal0)))) (kcl1 ks853_0 kcl0) ks853
/-- ColdShod$StrokePlan.addNext(LColdShod$Idea;I)V -/
noncomputable def kE854 : aE := (83, 3, ([kvB 0 3, kvB 177 341], [(57, 176, .inl (0, .ofNat 0)), (52, 6, .inl (1, .ofNat 0))], 0, [kvR 52, some (.inr [20, 21, 22, 23, 24, 25, 26, 27]), kvN 176, none, none], []), ([], none), ([], [], none, ([], [])), kvW74)
noncomputable def kC854_0 : aC := (([kvB 0 3, kvB 177 341, kvB 0 4, kvB 177 341], [(57, 176, .inl (0, .ofNat 0)), (52, 6, .inl (3, .ofNat 0))], 2, [kvR 52, some (.inr [20, 21, 22, 23, 24, 25, 26, 27]), kvN 176, kvI 2, none], []), ([], []), (4, [(-1, 2)]))
theorem ks854 : aseg kS krf kB [kE562, kE567, kE568, kE569] (ksp []) kE854 [kC854_0] 30000 (none) = true := asgqk (by decide +kernel)
theorem ks854_0 : aseg kS krf kB [kE562, kE567, kE568, kE569] (ksp []) kE854 [kC854_0] 30000 (some kC854_0) = true := asgqk (by decide +kernel)
theorem kok854 : aOK kS krf kB kE854 := aOK_of (kal1 kok562 (kal1 kok567 (kal1 kok568 (kal1 kok569 kal0)))) (kcl1 ks854_0 kcl0) ks854
/-- ColdShod$StrokePlan.addNext(LColdShod$Idea;I)V -/
noncomputable def kE855 : aE := (83, 3, ([kvB 0 3, kvB 176 341], [(57, 175, .inl (0, .ofNat 0)), (52, 6, .inl (1, .ofNat 0))], 0, [kvR 52, some (.inr [20, 21, 22, 23, 24, 25, 26, 27]), kvN 175, none, none], []), ([], none), ([], [], none, ([], [])), kvW74)
noncomputable def kC855_0 : aC := (([kvB 0 3, kvB 176 341, kvB 0 4, kvB 176 341], [(57, 175, .inl (0, .ofNat 0)), (52, 6, .inl (3, .ofNat 0))], 2, [kvR 52, some (.inr [20, 21, 22, 23, 24, 25, 26, 27]), kvN 175, kvI 2, none], []), ([], []), (4, [(-1, 2)]))
theorem ks855 : aseg kS krf kB [kE562, kE567, kE568, kE569] (ksp []) kE855 [kC855_0] 30000 (none) = true := asgqk (by decide +kernel)
theorem ks855_0 : aseg kS krf kB [kE562, kE567, kE568, kE569] (ksp []) kE855 [kC855_0] 30000 (some kC855_0) = true := asgqk (by decide +kernel)
theorem kok855 : aOK kS krf kB kE855 := aOK_of (kal1 kok562 (kal1 kok567 (kal1 kok568 (kal1 kok569 kal0)))) (kcl1 ks855_0 kcl0) ks855
/-- ColdShod$StrokePlan.addNext(LColdShod$Idea;I)V -/
noncomputable def kE856 : aE := (83, 3, ([kvB 0 3, kvB 175 341], [(57, 174, .inl (0, .ofNat 0)), (52, 6, .inl (1, .ofNat 0))], 0, [kvR 52, some (.inr [20, 21, 22, 23, 24, 25, 26, 27]), kvN 174, none, none], []), ([], none), ([], [], none, ([], [])), kvW74)
noncomputable def kC856_0 : aC := (([kvB 0 3, kvB 175 341, kvB 0 4, kvB 175 341], [(57, 174, .inl (0, .ofNat 0)), (52, 6, .inl (3, .ofNat 0))], 2, [kvR 52, some (.inr [20, 21, 22, 23, 24, 25, 26, 27]), kvN 174, kvI 2, none], []), ([], []), (4, [(-1, 2)]))
theorem ks856 : aseg kS krf kB [kE562, kE567, kE568, kE569] (ksp []) kE856 [kC856_0] 30000 (none) = true := asgqk (by decide +kernel)
theorem ks856_0 : aseg kS krf kB [kE562, kE567, kE568, kE569] (ksp []) kE856 [kC856_0] 30000 (some kC856_0) = true := asgqk (by decide +kernel)
theorem kok856 : aOK kS krf kB kE856 := aOK_of (kal1 kok562 (kal1 kok567 (kal1 kok568 (kal1 kok569 kal0)))) (kcl1 ks856_0 kcl0) ks856
/-- ColdShod$StrokePlan.addNext(LColdShod$Idea;I)V -/
noncomputable def kE857 : aE := (83, 3, ([kvB 0 3, kvB 174 341], [(57, 173, .inl (0, .ofNat 0)), (52, 6, .inl (1, .ofNat 0))], 0, [kvR 52, some (.inr [20, 21, 22, 23, 24, 25, 26, 27]), kvN 173, none, none], []), ([], none), ([], [], none, ([], [])), kvW74)
noncomputable def kC857_0 : aC := (([kvB 0 3, kvB 174 341, kvB 0 4, kvB 174 341], [(57, 173, .inl (0, .ofNat 0)), (52, 6, .inl (3, .ofNat 0))], 2, [kvR 52, some (.inr [20, 21, 22, 23, 24, 25, 26, 27]), kvN 173, kvI 2, none], []), ([], []), (4, [(-1, 2)]))
theorem ks857 : aseg kS krf kB [kE562, kE567, kE568, kE569] (ksp []) kE857 [kC857_0] 30000 (none) = true := asgqk (by decide +kernel)
theorem ks857_0 : aseg kS krf kB [kE562, kE567, kE568, kE569] (ksp []) kE857 [kC857_0] 30000 (some kC857_0) = true := asgqk (by decide +kernel)
theorem kok857 : aOK kS krf kB kE857 := aOK_of (kal1 kok562 (kal1 kok567 (kal1 kok568 (kal1 kok569 kal0)))) (kcl1 ks857_0 kcl0) ks857
/-- ColdShod$StrokePlan.addNext(LColdShod$Idea;I)V -/
noncomputable def kE858 : aE := (83, 3, ([kvB 0 3, kvB 173 341], [(57, 172, .inl (0, .ofNat 0)), (52, 6, .inl (1, .ofNat 0))], 0, [kvR 52, some (.inr [20, 21, 22, 23, 24, 25, 26, 27]), kvN 172, none, none], []), ([], none), ([], [], none, ([], [])), kvW74)
noncomputable def kC858_0 : aC := (([kvB 0 3, kvB 173 341, kvB 0 4, kvB 173 341], [(57, 172, .inl (0, .ofNat 0)), (52, 6, .inl (3, .ofNat 0))], 2, [kvR 52, some (.inr [20, 21, 22, 23, 24, 25, 26, 27]), kvN 172, kvI 2, none], []), ([], []), (4, [(-1, 2)]))
theorem ks858 : aseg kS krf kB [kE562, kE567, kE568, kE569] (ksp []) kE858 [kC858_0] 30000 (none) = true := asgqk (by decide +kernel)
theorem ks858_0 : aseg kS krf kB [kE562, kE567, kE568, kE569] (ksp []) kE858 [kC858_0] 30000 (some kC858_0) = true := asgqk (by decide +kernel)
theorem kok858 : aOK kS krf kB kE858 := aOK_of (kal1 kok562 (kal1 kok567 (kal1 kok568 (kal1 kok569 kal0)))) (kcl1 ks858_0 kcl0) ks858
/-- ColdShod$StrokePlan.addNext(LColdShod$Idea;I)V -/
noncomputable def kE859 : aE := (83, 3, ([kvB 0 3, kvB 172 341], [(57, 171, .inl (0, .ofNat 0)), (52, 6, .inl (1, .ofNat 0))], 0, [kvR 52, some (.inr [20, 21, 22, 23, 24, 25, 26, 27]), kvN 171, none, none], []), ([], none), ([], [], none, ([], [])), kvW74)
noncomputable def kC859_0 : aC := (([kvB 0 3, kvB 172 341, kvB 0 4, kvB 172 341], [(57, 171, .inl (0, .ofNat 0)), (52, 6, .inl (3, .ofNat 0))], 2, [kvR 52, some (.inr [20, 21, 22, 23, 24, 25, 26, 27]), kvN 171, kvI 2, none], []), ([], []), (4, [(-1, 2)]))
theorem ks859 : aseg kS krf kB [kE562, kE567, kE568, kE569] (ksp []) kE859 [kC859_0] 30000 (none) = true := asgqk (by decide +kernel)
theorem ks859_0 : aseg kS krf kB [kE562, kE567, kE568, kE569] (ksp []) kE859 [kC859_0] 30000 (some kC859_0) = true := asgqk (by decide +kernel)
theorem kok859 : aOK kS krf kB kE859 := aOK_of (kal1 kok562 (kal1 kok567 (kal1 kok568 (kal1 kok569 kal0)))) (kcl1 ks859_0 kcl0) ks859
/-- ColdShod$StrokePlan.addNext(LColdShod$Idea;I)V -/
noncomputable def kE860 : aE := (83, 3, ([kvB 0 3, kvB 171 341], [(57, 170, .inl (0, .ofNat 0)), (52, 6, .inl (1, .ofNat 0))], 0, [kvR 52, some (.inr [20, 21, 22, 23, 24, 25, 26, 27]), kvN 170, none, none], []), ([], none), ([], [], none, ([], [])), kvW74)
noncomputable def kC860_0 : aC := (([kvB 0 3, kvB 171 341, kvB 0 4, kvB 171 341], [(57, 170, .inl (0, .ofNat 0)), (52, 6, .inl (3, .ofNat 0))], 2, [kvR 52, some (.inr [20, 21, 22, 23, 24, 25, 26, 27]), kvN 170, kvI 2, none], []), ([], []), (4, [(-1, 2)]))
theorem ks860 : aseg kS krf kB [kE562, kE567, kE568, kE569] (ksp []) kE860 [kC860_0] 30000 (none) = true := asgqk (by decide +kernel)
theorem ks860_0 : aseg kS krf kB [kE562, kE567, kE568, kE569] (ksp []) kE860 [kC860_0] 30000 (some kC860_0) = true := asgqk (by decide +kernel)
theorem kok860 : aOK kS krf kB kE860 := aOK_of (kal1 kok562 (kal1 kok567 (kal1 kok568 (kal1 kok569 kal0)))) (kcl1 ks860_0 kcl0) ks860
/-- ColdShod$StrokePlan.addNext(LColdShod$Idea;I)V -/
noncomputable def kE861 : aE := (83, 3, ([kvB 0 3, kvB 170 341], [(57, 169, .inl (0, .ofNat 0)), (52, 6, .inl (1, .ofNat 0))], 0, [kvR 52, some (.inr [20, 21, 22, 23, 24, 25, 26, 27]), kvN 169, none, none], []), ([], none), ([], [], none, ([], [])), kvW74)
noncomputable def kC861_0 : aC := (([kvB 0 3, kvB 170 341, kvB 0 4, kvB 170 341], [(57, 169, .inl (0, .ofNat 0)), (52, 6, .inl (3, .ofNat 0))], 2, [kvR 52, some (.inr [20, 21, 22, 23, 24, 25, 26, 27]), kvN 169, kvI 2, none], []), ([], []), (4, [(-1, 2)]))
theorem ks861 : aseg kS krf kB [kE562, kE567, kE568, kE569] (ksp []) kE861 [kC861_0] 30000 (none) = true := asgqk (by decide +kernel)
theorem ks861_0 : aseg kS krf kB [kE562, kE567, kE568, kE569] (ksp []) kE861 [kC861_0] 30000 (some kC861_0) = true := asgqk (by decide +kernel)
theorem kok861 : aOK kS krf kB kE861 := aOK_of (kal1 kok562 (kal1 kok567 (kal1 kok568 (kal1 kok569 kal0)))) (kcl1 ks861_0 kcl0) ks861
/-- ColdShod$StrokePlan.addNext(LColdShod$Idea;I)V -/
noncomputable def kE862 : aE := (83, 3, ([kvB 0 3, kvB 169 341], [(57, 168, .inl (0, .ofNat 0)), (52, 6, .inl (1, .ofNat 0))], 0, [kvR 52, some (.inr [20, 21, 22, 23, 24, 25, 26, 27]), kvN 168, none, none], []), ([], none), ([], [], none, ([], [])), kvW74)
noncomputable def kC862_0 : aC := (([kvB 0 3, kvB 169 341, kvB 0 4, kvB 169 341], [(57, 168, .inl (0, .ofNat 0)), (52, 6, .inl (3, .ofNat 0))], 2, [kvR 52, some (.inr [20, 21, 22, 23, 24, 25, 26, 27]), kvN 168, kvI 2, none], []), ([], []), (4, [(-1, 2)]))
theorem ks862 : aseg kS krf kB [kE562, kE567, kE568, kE569] (ksp []) kE862 [kC862_0] 30000 (none) = true := asgqk (by decide +kernel)
theorem ks862_0 : aseg kS krf kB [kE562, kE567, kE568, kE569] (ksp []) kE862 [kC862_0] 30000 (some kC862_0) = true := asgqk (by decide +kernel)
theorem kok862 : aOK kS krf kB kE862 := aOK_of (kal1 kok562 (kal1 kok567 (kal1 kok568 (kal1 kok569 kal0)))) (kcl1 ks862_0 kcl0) ks862
/-- ColdShod$StrokePlan.addNext(LColdShod$Idea;I)V -/
noncomputable def kE863 : aE := (83, 3, ([kvB 0 3, kvB 168 341], [(57, 167, .inl (0, .ofNat 0)), (52, 6, .inl (1, .ofNat 0))], 0, [kvR 52, some (.inr [20, 21, 22, 23, 24, 25, 26, 27]), kvN 167, none, none], []), ([], none), ([], [], none, ([], [])), kvW74)
noncomputable def kC863_0 : aC := (([kvB 0 3, kvB 168 341, kvB 0 4, kvB 168 341], [(57, 167, .inl (0, .ofNat 0)), (52, 6, .inl (3, .ofNat 0))], 2, [kvR 52, some (.inr [20, 21, 22, 23, 24, 25, 26, 27]), kvN 167, kvI 2, none], []), ([], []), (4, [(-1, 2)]))
theorem ks863 : aseg kS krf kB [kE562, kE567, kE568, kE569] (ksp []) kE863 [kC863_0] 30000 (none) = true := asgqk (by decide +kernel)
theorem ks863_0 : aseg kS krf kB [kE562, kE567, kE568, kE569] (ksp []) kE863 [kC863_0] 30000 (some kC863_0) = true := asgqk (by decide +kernel)
theorem kok863 : aOK kS krf kB kE863 := aOK_of (kal1 kok562 (kal1 kok567 (kal1 kok568 (kal1 kok569 kal0)))) (kcl1 ks863_0 kcl0) ks863
/-- ColdShod$StrokePlan.addNext(LColdShod$Idea;I)V -/
noncomputable def kE864 : aE := (83, 3, ([kvB 0 3, kvB 167 341], [(57, 166, .inl (0, .ofNat 0)), (52, 6, .inl (1, .ofNat 0))], 0, [kvR 52, some (.inr [20, 21, 22, 23, 24, 25, 26, 27]), kvN 166, none, none], []), ([], none), ([], [], none, ([], [])), kvW74)
noncomputable def kC864_0 : aC := (([kvB 0 3, kvB 167 341, kvB 0 4, kvB 167 341], [(57, 166, .inl (0, .ofNat 0)), (52, 6, .inl (3, .ofNat 0))], 2, [kvR 52, some (.inr [20, 21, 22, 23, 24, 25, 26, 27]), kvN 166, kvI 2, none], []), ([], []), (4, [(-1, 2)]))
theorem ks864 : aseg kS krf kB [kE562, kE567, kE568, kE569] (ksp []) kE864 [kC864_0] 30000 (none) = true := asgqk (by decide +kernel)
theorem ks864_0 : aseg kS krf kB [kE562, kE567, kE568, kE569] (ksp []) kE864 [kC864_0] 30000 (some kC864_0) = true := asgqk (by decide +kernel)
theorem kok864 : aOK kS krf kB kE864 := aOK_of (kal1 kok562 (kal1 kok567 (kal1 kok568 (kal1 kok569 kal0)))) (kcl1 ks864_0 kcl0) ks864
/-- ColdShod$StrokePlan.addNext(LColdShod$Idea;I)V -/
noncomputable def kE865 : aE := (83, 3, ([kvB 0 3, kvB 166 341], [(57, 165, .inl (0, .ofNat 0)), (52, 6, .inl (1, .ofNat 0))], 0, [kvR 52, some (.inr [20, 21, 22, 23, 24, 25, 26, 27]), kvN 165, none, none], []), ([], none), ([], [], none, ([], [])), kvW74)
noncomputable def kC865_0 : aC := (([kvB 0 3, kvB 166 341, kvB 0 4, kvB 166 341], [(57, 165, .inl (0, .ofNat 0)), (52, 6, .inl (3, .ofNat 0))], 2, [kvR 52, some (.inr [20, 21, 22, 23, 24, 25, 26, 27]), kvN 165, kvI 2, none], []), ([], []), (4, [(-1, 2)]))
theorem ks865 : aseg kS krf kB [kE562, kE567, kE568, kE569] (ksp []) kE865 [kC865_0] 30000 (none) = true := asgqk (by decide +kernel)
theorem ks865_0 : aseg kS krf kB [kE562, kE567, kE568, kE569] (ksp []) kE865 [kC865_0] 30000 (some kC865_0) = true := asgqk (by decide +kernel)
theorem kok865 : aOK kS krf kB kE865 := aOK_of (kal1 kok562 (kal1 kok567 (kal1 kok568 (kal1 kok569 kal0)))) (kcl1 ks865_0 kcl0) ks865
/-- ColdShod$StrokePlan.addNext(LColdShod$Idea;I)V -/
noncomputable def kE866 : aE := (83, 3, ([kvB 0 3, kvB 165 341], [(57, 164, .inl (0, .ofNat 0)), (52, 6, .inl (1, .ofNat 0))], 0, [kvR 52, some (.inr [20, 21, 22, 23, 24, 25, 26, 27]), kvN 164, none, none], []), ([], none), ([], [], none, ([], [])), kvW74)
noncomputable def kC866_0 : aC := (([kvB 0 3, kvB 165 341, kvB 0 4, kvB 165 341], [(57, 164, .inl (0, .ofNat 0)), (52, 6, .inl (3, .ofNat 0))], 2, [kvR 52, some (.inr [20, 21, 22, 23, 24, 25, 26, 27]), kvN 164, kvI 2, none], []), ([], []), (4, [(-1, 2)]))
theorem ks866 : aseg kS krf kB [kE562, kE567, kE568, kE569] (ksp []) kE866 [kC866_0] 30000 (none) = true := asgqk (by decide +kernel)
theorem ks866_0 : aseg kS krf kB [kE562, kE567, kE568, kE569] (ksp []) kE866 [kC866_0] 30000 (some kC866_0) = true := asgqk (by decide +kernel)
theorem kok866 : aOK kS krf kB kE866 := aOK_of (kal1 kok562 (kal1 kok567 (kal1 kok568 (kal1 kok569 kal0)))) (kcl1 ks866_0 kcl0) ks866
/-- ColdShod$StrokePlan.addNext(LColdShod$Idea;I)V -/
noncomputable def kE867 : aE := (83, 3, ([kvB 0 3, kvB 164 341], [(57, 163, .inl (0, .ofNat 0)), (52, 6, .inl (1, .ofNat 0))], 0, [kvR 52, some (.inr [20, 21, 22, 23, 24, 25, 26, 27]), kvN 163, none, none], []), ([], none), ([], [], none, ([], [])), kvW74)
noncomputable def kC867_0 : aC := (([kvB 0 3, kvB 164 341, kvB 0 4, kvB 164 341], [(57, 163, .inl (0, .ofNat 0)), (52, 6, .inl (3, .ofNat 0))], 2, [kvR 52, some (.inr [20, 21, 22, 23, 24, 25, 26, 27]), kvN 163, kvI 2, none], []), ([], []), (4, [(-1, 2)]))
theorem ks867 : aseg kS krf kB [kE562, kE567, kE568, kE569] (ksp []) kE867 [kC867_0] 30000 (none) = true := asgqk (by decide +kernel)
theorem ks867_0 : aseg kS krf kB [kE562, kE567, kE568, kE569] (ksp []) kE867 [kC867_0] 30000 (some kC867_0) = true := asgqk (by decide +kernel)
theorem kok867 : aOK kS krf kB kE867 := aOK_of (kal1 kok562 (kal1 kok567 (kal1 kok568 (kal1 kok569 kal0)))) (kcl1 ks867_0 kcl0) ks867
/-- ColdShod$StrokePlan.addNext(LColdShod$Idea;I)V -/
noncomputable def kE868 : aE := (83, 3, ([kvB 0 3, kvB 163 341], [(57, 162, .inl (0, .ofNat 0)), (52, 6, .inl (1, .ofNat 0))], 0, [kvR 52, some (.inr [20, 21, 22, 23, 24, 25, 26, 27]), kvN 162, none, none], []), ([], none), ([], [], none, ([], [])), kvW74)
noncomputable def kC868_0 : aC := (([kvB 0 3, kvB 163 341, kvB 0 4, kvB 163 341], [(57, 162, .inl (0, .ofNat 0)), (52, 6, .inl (3, .ofNat 0))], 2, [kvR 52, some (.inr [20, 21, 22, 23, 24, 25, 26, 27]), kvN 162, kvI 2, none], []), ([], []), (4, [(-1, 2)]))
theorem ks868 : aseg kS krf kB [kE562, kE567, kE568, kE569] (ksp []) kE868 [kC868_0] 30000 (none) = true := asgqk (by decide +kernel)
theorem ks868_0 : aseg kS krf kB [kE562, kE567, kE568, kE569] (ksp []) kE868 [kC868_0] 30000 (some kC868_0) = true := asgqk (by decide +kernel)
theorem kok868 : aOK kS krf kB kE868 := aOK_of (kal1 kok562 (kal1 kok567 (kal1 kok568 (kal1 kok569 kal0)))) (kcl1 ks868_0 kcl0) ks868
/-- ColdShod$StrokePlan.addNext(LColdShod$Idea;I)V -/
noncomputable def kE869 : aE := (83, 3, ([kvB 0 3, kvB 162 341], [(57, 161, .inl (0, .ofNat 0)), (52, 6, .inl (1, .ofNat 0))], 0, [kvR 52, some (.inr [20, 21, 22, 23, 24, 25, 26, 27]), kvN 161, none, none], []), ([], none), ([], [], none, ([], [])), kvW74)
noncomputable def kC869_0 : aC := (([kvB 0 3, kvB 162 341, kvB 0 4, kvB 162 341], [(57, 161, .inl (0, .ofNat 0)), (52, 6, .inl (3, .ofNat 0))], 2, [kvR 52, some (.inr [20, 21, 22, 23, 24, 25, 26, 27]), kvN 161, kvI 2, none], []), ([], []), (4, [(-1, 2)]))
theorem ks869 : aseg kS krf kB [kE562, kE567, kE568, kE569] (ksp []) kE869 [kC869_0] 30000 (none) = true := asgqk (by decide +kernel)
theorem ks869_0 : aseg kS krf kB [kE562, kE567, kE568, kE569] (ksp []) kE869 [kC869_0] 30000 (some kC869_0) = true := asgqk (by decide +kernel)
theorem kok869 : aOK kS krf kB kE869 := aOK_of (kal1 kok562 (kal1 kok567 (kal1 kok568 (kal1 kok569 kal0)))) (kcl1 ks869_0 kcl0) ks869
/-- ColdShod$StrokePlan.addNext(LColdShod$Idea;I)V -/
noncomputable def kE870 : aE := (83, 3, ([kvB 0 3, kvB 161 341], [(57, 160, .inl (0, .ofNat 0)), (52, 6, .inl (1, .ofNat 0))], 0, [kvR 52, some (.inr [20, 21, 22, 23, 24, 25, 26, 27]), kvN 160, none, none], []), ([], none), ([], [], none, ([], [])), kvW74)
noncomputable def kC870_0 : aC := (([kvB 0 3, kvB 161 341, kvB 0 4, kvB 161 341], [(57, 160, .inl (0, .ofNat 0)), (52, 6, .inl (3, .ofNat 0))], 2, [kvR 52, some (.inr [20, 21, 22, 23, 24, 25, 26, 27]), kvN 160, kvI 2, none], []), ([], []), (4, [(-1, 2)]))
theorem ks870 : aseg kS krf kB [kE562, kE567, kE568, kE569] (ksp []) kE870 [kC870_0] 30000 (none) = true := asgqk (by decide +kernel)
theorem ks870_0 : aseg kS krf kB [kE562, kE567, kE568, kE569] (ksp []) kE870 [kC870_0] 30000 (some kC870_0) = true := asgqk (by decide +kernel)
theorem kok870 : aOK kS krf kB kE870 := aOK_of (kal1 kok562 (kal1 kok567 (kal1 kok568 (kal1 kok569 kal0)))) (kcl1 ks870_0 kcl0) ks870
/-- ColdShod$StrokePlan.addNext(LColdShod$Idea;I)V -/
noncomputable def kE871 : aE := (83, 3, ([kvB 0 3, kvB 160 341], [(57, 159, .inl (0, .ofNat 0)), (52, 6, .inl (1, .ofNat 0))], 0, [kvR 52, some (.inr [20, 21, 22, 23, 24, 25, 26, 27]), kvN 159, none, none], []), ([], none), ([], [], none, ([], [])), kvW74)
noncomputable def kC871_0 : aC := (([kvB 0 3, kvB 160 341, kvB 0 4, kvB 160 341], [(57, 159, .inl (0, .ofNat 0)), (52, 6, .inl (3, .ofNat 0))], 2, [kvR 52, some (.inr [20, 21, 22, 23, 24, 25, 26, 27]), kvN 159, kvI 2, none], []), ([], []), (4, [(-1, 2)]))
theorem ks871 : aseg kS krf kB [kE562, kE567, kE568, kE569] (ksp []) kE871 [kC871_0] 30000 (none) = true := asgqk (by decide +kernel)
theorem ks871_0 : aseg kS krf kB [kE562, kE567, kE568, kE569] (ksp []) kE871 [kC871_0] 30000 (some kC871_0) = true := asgqk (by decide +kernel)
theorem kok871 : aOK kS krf kB kE871 := aOK_of (kal1 kok562 (kal1 kok567 (kal1 kok568 (kal1 kok569 kal0)))) (kcl1 ks871_0 kcl0) ks871
/-- ColdShod$StrokePlan.addNext(LColdShod$Idea;I)V -/
noncomputable def kE872 : aE := (83, 3, ([kvB 0 3, kvB 159 341], [(57, 158, .inl (0, .ofNat 0)), (52, 6, .inl (1, .ofNat 0))], 0, [kvR 52, some (.inr [20, 21, 22, 23, 24, 25, 26, 27]), kvN 158, none, none], []), ([], none), ([], [], none, ([], [])), kvW74)
noncomputable def kC872_0 : aC := (([kvB 0 3, kvB 159 341, kvB 0 4, kvB 159 341], [(57, 158, .inl (0, .ofNat 0)), (52, 6, .inl (3, .ofNat 0))], 2, [kvR 52, some (.inr [20, 21, 22, 23, 24, 25, 26, 27]), kvN 158, kvI 2, none], []), ([], []), (4, [(-1, 2)]))
theorem ks872 : aseg kS krf kB [kE562, kE567, kE568, kE569] (ksp []) kE872 [kC872_0] 30000 (none) = true := asgqk (by decide +kernel)
theorem ks872_0 : aseg kS krf kB [kE562, kE567, kE568, kE569] (ksp []) kE872 [kC872_0] 30000 (some kC872_0) = true := asgqk (by decide +kernel)
theorem kok872 : aOK kS krf kB kE872 := aOK_of (kal1 kok562 (kal1 kok567 (kal1 kok568 (kal1 kok569 kal0)))) (kcl1 ks872_0 kcl0) ks872
/-- ColdShod$StrokePlan.addNext(LColdShod$Idea;I)V -/
noncomputable def kE873 : aE := (83, 3, ([kvB 0 3, kvB 158 341], [(57, 157, .inl (0, .ofNat 0)), (52, 6, .inl (1, .ofNat 0))], 0, [kvR 52, some (.inr [20, 21, 22, 23, 24, 25, 26, 27]), kvN 157, none, none], []), ([], none), ([], [], none, ([], [])), kvW74)
noncomputable def kC873_0 : aC := (([kvB 0 3, kvB 158 341, kvB 0 4, kvB 158 341], [(57, 157, .inl (0, .ofNat 0)), (52, 6, .inl (3, .ofNat 0))], 2, [kvR 52, some (.inr [20, 21, 22, 23, 24, 25, 26, 27]), kvN 157, kvI 2, none], []), ([], []), (4, [(-1, 2)]))
theorem ks873 : aseg kS krf kB [kE562, kE567, kE568, kE569] (ksp []) kE873 [kC873_0] 30000 (none) = true := asgqk (by decide +kernel)
theorem ks873_0 : aseg kS krf kB [kE562, kE567, kE568, kE569] (ksp []) kE873 [kC873_0] 30000 (some kC873_0) = true := asgqk (by decide +kernel)
theorem kok873 : aOK kS krf kB kE873 := aOK_of (kal1 kok562 (kal1 kok567 (kal1 kok568 (kal1 kok569 kal0)))) (kcl1 ks873_0 kcl0) ks873
/-- ColdShod$StrokePlan.addNext(LColdShod$Idea;I)V -/
noncomputable def kE874 : aE := (83, 3, ([kvB 0 3, kvB 157 341], [(57, 156, .inl (0, .ofNat 0)), (52, 6, .inl (1, .ofNat 0))], 0, [kvR 52, some (.inr [20, 21, 22, 23, 24, 25, 26, 27]), kvN 156, none, none], []), ([], none), ([], [], none, ([], [])), kvW74)
noncomputable def kC874_0 : aC := (([kvB 0 3, kvB 157 341, kvB 0 4, kvB 157 341], [(57, 156, .inl (0, .ofNat 0)), (52, 6, .inl (3, .ofNat 0))], 2, [kvR 52, some (.inr [20, 21, 22, 23, 24, 25, 26, 27]), kvN 156, kvI 2, none], []), ([], []), (4, [(-1, 2)]))
theorem ks874 : aseg kS krf kB [kE562, kE567, kE568, kE569] (ksp []) kE874 [kC874_0] 30000 (none) = true := asgqk (by decide +kernel)
theorem ks874_0 : aseg kS krf kB [kE562, kE567, kE568, kE569] (ksp []) kE874 [kC874_0] 30000 (some kC874_0) = true := asgqk (by decide +kernel)
theorem kok874 : aOK kS krf kB kE874 := aOK_of (kal1 kok562 (kal1 kok567 (kal1 kok568 (kal1 kok569 kal0)))) (kcl1 ks874_0 kcl0) ks874
/-- ColdShod$StrokePlan.addNext(LColdShod$Idea;I)V -/
noncomputable def kE875 : aE := (83, 3, ([kvB 0 3, kvB 156 341], [(57, 155, .inl (0, .ofNat 0)), (52, 6, .inl (1, .ofNat 0))], 0, [kvR 52, some (.inr [20, 21, 22, 23, 24, 25, 26, 27]), kvN 155, none, none], []), ([], none), ([], [], none, ([], [])), kvW74)
noncomputable def kC875_0 : aC := (([kvB 0 3, kvB 156 341, kvB 0 4, kvB 156 341], [(57, 155, .inl (0, .ofNat 0)), (52, 6, .inl (3, .ofNat 0))], 2, [kvR 52, some (.inr [20, 21, 22, 23, 24, 25, 26, 27]), kvN 155, kvI 2, none], []), ([], []), (4, [(-1, 2)]))
theorem ks875 : aseg kS krf kB [kE562, kE567, kE568, kE569] (ksp []) kE875 [kC875_0] 30000 (none) = true := asgqk (by decide +kernel)
theorem ks875_0 : aseg kS krf kB [kE562, kE567, kE568, kE569] (ksp []) kE875 [kC875_0] 30000 (some kC875_0) = true := asgqk (by decide +kernel)
theorem kok875 : aOK kS krf kB kE875 := aOK_of (kal1 kok562 (kal1 kok567 (kal1 kok568 (kal1 kok569 kal0)))) (kcl1 ks875_0 kcl0) ks875
/-- ColdShod$StrokePlan.addNext(LColdShod$Idea;I)V -/
noncomputable def kE876 : aE := (83, 3, ([kvB 0 3, kvB 155 341], [(57, 154, .inl (0, .ofNat 0)), (52, 6, .inl (1, .ofNat 0))], 0, [kvR 52, some (.inr [20, 21, 22, 23, 24, 25, 26, 27]), kvN 154, none, none], []), ([], none), ([], [], none, ([], [])), kvW74)
noncomputable def kC876_0 : aC := (([kvB 0 3, kvB 155 341, kvB 0 4, kvB 155 341], [(57, 154, .inl (0, .ofNat 0)), (52, 6, .inl (3, .ofNat 0))], 2, [kvR 52, some (.inr [20, 21, 22, 23, 24, 25, 26, 27]), kvN 154, kvI 2, none], []), ([], []), (4, [(-1, 2)]))
theorem ks876 : aseg kS krf kB [kE562, kE567, kE568, kE569] (ksp []) kE876 [kC876_0] 30000 (none) = true := asgqk (by decide +kernel)
theorem ks876_0 : aseg kS krf kB [kE562, kE567, kE568, kE569] (ksp []) kE876 [kC876_0] 30000 (some kC876_0) = true := asgqk (by decide +kernel)
theorem kok876 : aOK kS krf kB kE876 := aOK_of (kal1 kok562 (kal1 kok567 (kal1 kok568 (kal1 kok569 kal0)))) (kcl1 ks876_0 kcl0) ks876
/-- ColdShod$StrokePlan.addNext(LColdShod$Idea;I)V -/
noncomputable def kE877 : aE := (83, 3, ([kvB 0 3, kvB 154 341], [(57, 153, .inl (0, .ofNat 0)), (52, 6, .inl (1, .ofNat 0))], 0, [kvR 52, some (.inr [20, 21, 22, 23, 24, 25, 26, 27]), kvN 153, none, none], []), ([], none), ([], [], none, ([], [])), kvW74)
noncomputable def kC877_0 : aC := (([kvB 0 3, kvB 154 341, kvB 0 4, kvB 154 341], [(57, 153, .inl (0, .ofNat 0)), (52, 6, .inl (3, .ofNat 0))], 2, [kvR 52, some (.inr [20, 21, 22, 23, 24, 25, 26, 27]), kvN 153, kvI 2, none], []), ([], []), (4, [(-1, 2)]))
theorem ks877 : aseg kS krf kB [kE562, kE567, kE568, kE569] (ksp []) kE877 [kC877_0] 30000 (none) = true := asgqk (by decide +kernel)
theorem ks877_0 : aseg kS krf kB [kE562, kE567, kE568, kE569] (ksp []) kE877 [kC877_0] 30000 (some kC877_0) = true := asgqk (by decide +kernel)
theorem kok877 : aOK kS krf kB kE877 := aOK_of (kal1 kok562 (kal1 kok567 (kal1 kok568 (kal1 kok569 kal0)))) (kcl1 ks877_0 kcl0) ks877
/-- ColdShod$StrokePlan.addNext(LColdShod$Idea;I)V -/
noncomputable def kE878 : aE := (83, 3, ([kvB 0 3, kvB 153 341], [(57, 152, .inl (0, .ofNat 0)), (52, 6, .inl (1, .ofNat 0))], 0, [kvR 52, some (.inr [20, 21, 22, 23, 24, 25, 26, 27]), kvN 152, none, none], []), ([], none), ([], [], none, ([], [])), kvW74)
noncomputable def kC878_0 : aC := (([kvB 0 3, kvB 153 341, kvB 0 4, kvB 153 341], [(57, 152, .inl (0, .ofNat 0)), (52, 6, .inl (3, .ofNat 0))], 2, [kvR 52, some (.inr [20, 21, 22, 23, 24, 25, 26, 27]), kvN 152, kvI 2, none], []), ([], []), (4, [(-1, 2)]))
theorem ks878 : aseg kS krf kB [kE562, kE567, kE568, kE569] (ksp []) kE878 [kC878_0] 30000 (none) = true := asgqk (by decide +kernel)
theorem ks878_0 : aseg kS krf kB [kE562, kE567, kE568, kE569] (ksp []) kE878 [kC878_0] 30000 (some kC878_0) = true := asgqk (by decide +kernel)
theorem kok878 : aOK kS krf kB kE878 := aOK_of (kal1 kok562 (kal1 kok567 (kal1 kok568 (kal1 kok569 kal0)))) (kcl1 ks878_0 kcl0) ks878
/-- ColdShod$StrokePlan.addNext(LColdShod$Idea;I)V -/
noncomputable def kE879 : aE := (83, 3, ([kvB 0 3, kvB 152 341], [(57, 151, .inl (0, .ofNat 0)), (52, 6, .inl (1, .ofNat 0))], 0, [kvR 52, some (.inr [20, 21, 22, 23, 24, 25, 26, 27]), kvN 151, none, none], []), ([], none), ([], [], none, ([], [])), kvW74)
noncomputable def kC879_0 : aC := (([kvB 0 3, kvB 152 341, kvB 0 4, kvB 152 341], [(57, 151, .inl (0, .ofNat 0)), (52, 6, .inl (3, .ofNat 0))], 2, [kvR 52, some (.inr [20, 21, 22, 23, 24, 25, 26, 27]), kvN 151, kvI 2, none], []), ([], []), (4, [(-1, 2)]))
theorem ks879 : aseg kS krf kB [kE562, kE567, kE568, kE569] (ksp []) kE879 [kC879_0] 30000 (none) = true := asgqk (by decide +kernel)
theorem ks879_0 : aseg kS krf kB [kE562, kE567, kE568, kE569] (ksp []) kE879 [kC879_0] 30000 (some kC879_0) = true := asgqk (by decide +kernel)
theorem kok879 : aOK kS krf kB kE879 := aOK_of (kal1 kok562 (kal1 kok567 (kal1 kok568 (kal1 kok569 kal0)))) (kcl1 ks879_0 kcl0) ks879
/-- ColdShod$StrokePlan.addNext(LColdShod$Idea;I)V -/
noncomputable def kE880 : aE := (83, 3, ([kvB 0 3, kvB 151 341], [(57, 150, .inl (0, .ofNat 0)), (52, 6, .inl (1, .ofNat 0))], 0, [kvR 52, some (.inr [20, 21, 22, 23, 24, 25, 26, 27]), kvN 150, none, none], []), ([], none), ([], [], none, ([], [])), kvW74)
noncomputable def kC880_0 : aC := (([kvB 0 3, kvB 151 341, kvB 0 4, kvB 151 341], [(57, 150, .inl (0, .ofNat 0)), (52, 6, .inl (3, .ofNat 0))], 2, [kvR 52, some (.inr [20, 21, 22, 23, 24, 25, 26, 27]), kvN 150, kvI 2, none], []), ([], []), (4, [(-1, 2)]))
theorem ks880 : aseg kS krf kB [kE562, kE567, kE568, kE569] (ksp []) kE880 [kC880_0] 30000 (none) = true := asgqk (by decide +kernel)
theorem ks880_0 : aseg kS krf kB [kE562, kE567, kE568, kE569] (ksp []) kE880 [kC880_0] 30000 (some kC880_0) = true := asgqk (by decide +kernel)
theorem kok880 : aOK kS krf kB kE880 := aOK_of (kal1 kok562 (kal1 kok567 (kal1 kok568 (kal1 kok569 kal0)))) (kcl1 ks880_0 kcl0) ks880
/-- ColdShod$StrokePlan.addNext(LColdShod$Idea;I)V -/
noncomputable def kE881 : aE := (83, 3, ([kvB 0 3, kvB 150 341], [(57, 149, .inl (0, .ofNat 0)), (52, 6, .inl (1, .ofNat 0))], 0, [kvR 52, some (.inr [20, 21, 22, 23, 24, 25, 26, 27]), kvN 149, none, none], []), ([], none), ([], [], none, ([], [])), kvW74)
noncomputable def kC881_0 : aC := (([kvB 0 3, kvB 150 341, kvB 0 4, kvB 150 341], [(57, 149, .inl (0, .ofNat 0)), (52, 6, .inl (3, .ofNat 0))], 2, [kvR 52, some (.inr [20, 21, 22, 23, 24, 25, 26, 27]), kvN 149, kvI 2, none], []), ([], []), (4, [(-1, 2)]))
theorem ks881 : aseg kS krf kB [kE562, kE567, kE568, kE569] (ksp []) kE881 [kC881_0] 30000 (none) = true := asgqk (by decide +kernel)
theorem ks881_0 : aseg kS krf kB [kE562, kE567, kE568, kE569] (ksp []) kE881 [kC881_0] 30000 (some kC881_0) = true := asgqk (by decide +kernel)
theorem kok881 : aOK kS krf kB kE881 := aOK_of (kal1 kok562 (kal1 kok567 (kal1 kok568 (kal1 kok569 kal0)))) (kcl1 ks881_0 kcl0) ks881
/-- ColdShod$StrokePlan.addNext(LColdShod$Idea;I)V -/
noncomputable def kE882 : aE := (83, 3, ([kvB 0 3, kvB 149 341], [(57, 148, .inl (0, .ofNat 0)), (52, 6, .inl (1, .ofNat 0))], 0, [kvR 52, some (.inr [20, 21, 22, 23, 24, 25, 26, 27]), kvN 148, none, none], []), ([], none), ([], [], none, ([], [])), kvW74)
noncomputable def kC882_0 : aC := (([kvB 0 3, kvB 149 341, kvB 0 4, kvB 149 341], [(57, 148, .inl (0, .ofNat 0)), (52, 6, .inl (3, .ofNat 0))], 2, [kvR 52, some (.inr [20, 21, 22, 23, 24, 25, 26, 27]), kvN 148, kvI 2, none], []), ([], []), (4, [(-1, 2)]))
theorem ks882 : aseg kS krf kB [kE562, kE567, kE568, kE569] (ksp []) kE882 [kC882_0] 30000 (none) = true := asgqk (by decide +kernel)
theorem ks882_0 : aseg kS krf kB [kE562, kE567, kE568, kE569] (ksp []) kE882 [kC882_0] 30000 (some kC882_0) = true := asgqk (by decide +kernel)
theorem kok882 : aOK kS krf kB kE882 := aOK_of (kal1 kok562 (kal1 kok567 (kal1 kok568 (kal1 kok569 kal0)))) (kcl1 ks882_0 kcl0) ks882
/-- ColdShod$StrokePlan.addNext(LColdShod$Idea;I)V -/
noncomputable def kE883 : aE := (83, 3, ([kvB 0 3, kvB 148 341], [(57, 147, .inl (0, .ofNat 0)), (52, 6, .inl (1, .ofNat 0))], 0, [kvR 52, some (.inr [20, 21, 22, 23, 24, 25, 26, 27]), kvN 147, none, none], []), ([], none), ([], [], none, ([], [])), kvW74)
noncomputable def kC883_0 : aC := (([kvB 0 3, kvB 148 341, kvB 0 4, kvB 148 341], [(57, 147, .inl (0, .ofNat 0)), (52, 6, .inl (3, .ofNat 0))], 2, [kvR 52, some (.inr [20, 21, 22, 23, 24, 25, 26, 27]), kvN 147, kvI 2, none], []), ([], []), (4, [(-1, 2)]))
theorem ks883 : aseg kS krf kB [kE562, kE567, kE568, kE569] (ksp []) kE883 [kC883_0] 30000 (none) = true := asgqk (by decide +kernel)
theorem ks883_0 : aseg kS krf kB [kE562, kE567, kE568, kE569] (ksp []) kE883 [kC883_0] 30000 (some kC883_0) = true := asgqk (by decide +kernel)
theorem kok883 : aOK kS krf kB kE883 := aOK_of (kal1 kok562 (kal1 kok567 (kal1 kok568 (kal1 kok569 kal0)))) (kcl1 ks883_0 kcl0) ks883
/-- ColdShod$StrokePlan.addNext(LColdShod$Idea;I)V -/
noncomputable def kE884 : aE := (83, 3, ([kvB 0 3, kvB 147 341], [(57, 146, .inl (0, .ofNat 0)), (52, 6, .inl (1, .ofNat 0))], 0, [kvR 52, some (.inr [20, 21, 22, 23, 24, 25, 26, 27]), kvN 146, none, none], []), ([], none), ([], [], none, ([], [])), kvW74)
noncomputable def kC884_0 : aC := (([kvB 0 3, kvB 147 341, kvB 0 4, kvB 147 341], [(57, 146, .inl (0, .ofNat 0)), (52, 6, .inl (3, .ofNat 0))], 2, [kvR 52, some (.inr [20, 21, 22, 23, 24, 25, 26, 27]), kvN 146, kvI 2, none], []), ([], []), (4, [(-1, 2)]))
theorem ks884 : aseg kS krf kB [kE562, kE567, kE568, kE569] (ksp []) kE884 [kC884_0] 30000 (none) = true := asgqk (by decide +kernel)
theorem ks884_0 : aseg kS krf kB [kE562, kE567, kE568, kE569] (ksp []) kE884 [kC884_0] 30000 (some kC884_0) = true := asgqk (by decide +kernel)
theorem kok884 : aOK kS krf kB kE884 := aOK_of (kal1 kok562 (kal1 kok567 (kal1 kok568 (kal1 kok569 kal0)))) (kcl1 ks884_0 kcl0) ks884
/-- ColdShod$StrokePlan.addNext(LColdShod$Idea;I)V -/
noncomputable def kE885 : aE := (83, 3, ([kvB 0 3, kvB 146 341], [(57, 145, .inl (0, .ofNat 0)), (52, 6, .inl (1, .ofNat 0))], 0, [kvR 52, some (.inr [20, 21, 22, 23, 24, 25, 26, 27]), kvN 145, none, none], []), ([], none), ([], [], none, ([], [])), kvW74)
noncomputable def kC885_0 : aC := (([kvB 0 3, kvB 146 341, kvB 0 4, kvB 146 341], [(57, 145, .inl (0, .ofNat 0)), (52, 6, .inl (3, .ofNat 0))], 2, [kvR 52, some (.inr [20, 21, 22, 23, 24, 25, 26, 27]), kvN 145, kvI 2, none], []), ([], []), (4, [(-1, 2)]))
theorem ks885 : aseg kS krf kB [kE562, kE567, kE568, kE569] (ksp []) kE885 [kC885_0] 30000 (none) = true := asgqk (by decide +kernel)
theorem ks885_0 : aseg kS krf kB [kE562, kE567, kE568, kE569] (ksp []) kE885 [kC885_0] 30000 (some kC885_0) = true := asgqk (by decide +kernel)
theorem kok885 : aOK kS krf kB kE885 := aOK_of (kal1 kok562 (kal1 kok567 (kal1 kok568 (kal1 kok569 kal0)))) (kcl1 ks885_0 kcl0) ks885
/-- ColdShod$StrokePlan.addNext(LColdShod$Idea;I)V -/
noncomputable def kE886 : aE := (83, 3, ([kvB 0 3, kvB 145 341], [(57, 144, .inl (0, .ofNat 0)), (52, 6, .inl (1, .ofNat 0))], 0, [kvR 52, some (.inr [20, 21, 22, 23, 24, 25, 26, 27]), kvN 144, none, none], []), ([], none), ([], [], none, ([], [])), kvW74)
noncomputable def kC886_0 : aC := (([kvB 0 3, kvB 145 341, kvB 0 4, kvB 145 341], [(57, 144, .inl (0, .ofNat 0)), (52, 6, .inl (3, .ofNat 0))], 2, [kvR 52, some (.inr [20, 21, 22, 23, 24, 25, 26, 27]), kvN 144, kvI 2, none], []), ([], []), (4, [(-1, 2)]))
theorem ks886 : aseg kS krf kB [kE562, kE567, kE568, kE569] (ksp []) kE886 [kC886_0] 30000 (none) = true := asgqk (by decide +kernel)
theorem ks886_0 : aseg kS krf kB [kE562, kE567, kE568, kE569] (ksp []) kE886 [kC886_0] 30000 (some kC886_0) = true := asgqk (by decide +kernel)
theorem kok886 : aOK kS krf kB kE886 := aOK_of (kal1 kok562 (kal1 kok567 (kal1 kok568 (kal1 kok569 kal0)))) (kcl1 ks886_0 kcl0) ks886
/-- ColdShod$StrokePlan.addNext(LColdShod$Idea;I)V -/
noncomputable def kE887 : aE := (83, 3, ([kvB 0 3, kvB 144 341], [(57, 143, .inl (0, .ofNat 0)), (52, 6, .inl (1, .ofNat 0))], 0, [kvR 52, some (.inr [20, 21, 22, 23, 24, 25, 26, 27]), kvN 143, none, none], []), ([], none), ([], [], none, ([], [])), kvW74)
noncomputable def kC887_0 : aC := (([kvB 0 3, kvB 144 341, kvB 0 4, kvB 144 341], [(57, 143, .inl (0, .ofNat 0)), (52, 6, .inl (3, .ofNat 0))], 2, [kvR 52, some (.inr [20, 21, 22, 23, 24, 25, 26, 27]), kvN 143, kvI 2, none], []), ([], []), (4, [(-1, 2)]))
theorem ks887 : aseg kS krf kB [kE562, kE567, kE568, kE569] (ksp []) kE887 [kC887_0] 30000 (none) = true := asgqk (by decide +kernel)
theorem ks887_0 : aseg kS krf kB [kE562, kE567, kE568, kE569] (ksp []) kE887 [kC887_0] 30000 (some kC887_0) = true := asgqk (by decide +kernel)
theorem kok887 : aOK kS krf kB kE887 := aOK_of (kal1 kok562 (kal1 kok567 (kal1 kok568 (kal1 kok569 kal0)))) (kcl1 ks887_0 kcl0) ks887
/-- ColdShod$StrokePlan.addNext(LColdShod$Idea;I)V -/
noncomputable def kE888 : aE := (83, 3, ([kvB 0 3, kvB 143 341], [(57, 142, .inl (0, .ofNat 0)), (52, 6, .inl (1, .ofNat 0))], 0, [kvR 52, some (.inr [20, 21, 22, 23, 24, 25, 26, 27]), kvN 142, none, none], []), ([], none), ([], [], none, ([], [])), kvW74)
noncomputable def kC888_0 : aC := (([kvB 0 3, kvB 143 341, kvB 0 4, kvB 143 341], [(57, 142, .inl (0, .ofNat 0)), (52, 6, .inl (3, .ofNat 0))], 2, [kvR 52, some (.inr [20, 21, 22, 23, 24, 25, 26, 27]), kvN 142, kvI 2, none], []), ([], []), (4, [(-1, 2)]))
theorem ks888 : aseg kS krf kB [kE562, kE567, kE568, kE569] (ksp []) kE888 [kC888_0] 30000 (none) = true := asgqk (by decide +kernel)
theorem ks888_0 : aseg kS krf kB [kE562, kE567, kE568, kE569] (ksp []) kE888 [kC888_0] 30000 (some kC888_0) = true := asgqk (by decide +kernel)
theorem kok888 : aOK kS krf kB kE888 := aOK_of (kal1 kok562 (kal1 kok567 (kal1 kok568 (kal1 kok569 kal0)))) (kcl1 ks888_0 kcl0) ks888
/-- ColdShod$StrokePlan.addNext(LColdShod$Idea;I)V -/
noncomputable def kE889 : aE := (83, 3, ([kvB 0 3, kvB 142 341], [(57, 141, .inl (0, .ofNat 0)), (52, 6, .inl (1, .ofNat 0))], 0, [kvR 52, some (.inr [20, 21, 22, 23, 24, 25, 26, 27]), kvN 141, none, none], []), ([], none), ([], [], none, ([], [])), kvW74)
noncomputable def kC889_0 : aC := (([kvB 0 3, kvB 142 341, kvB 0 4, kvB 142 341], [(57, 141, .inl (0, .ofNat 0)), (52, 6, .inl (3, .ofNat 0))], 2, [kvR 52, some (.inr [20, 21, 22, 23, 24, 25, 26, 27]), kvN 141, kvI 2, none], []), ([], []), (4, [(-1, 2)]))
theorem ks889 : aseg kS krf kB [kE562, kE567, kE568, kE569] (ksp []) kE889 [kC889_0] 30000 (none) = true := asgqk (by decide +kernel)
theorem ks889_0 : aseg kS krf kB [kE562, kE567, kE568, kE569] (ksp []) kE889 [kC889_0] 30000 (some kC889_0) = true := asgqk (by decide +kernel)
theorem kok889 : aOK kS krf kB kE889 := aOK_of (kal1 kok562 (kal1 kok567 (kal1 kok568 (kal1 kok569 kal0)))) (kcl1 ks889_0 kcl0) ks889
/-- ColdShod$StrokePlan.addNext(LColdShod$Idea;I)V -/
noncomputable def kE890 : aE := (83, 3, ([kvB 0 3, kvB 141 341], [(57, 140, .inl (0, .ofNat 0)), (52, 6, .inl (1, .ofNat 0))], 0, [kvR 52, some (.inr [20, 21, 22, 23, 24, 25, 26, 27]), kvN 140, none, none], []), ([], none), ([], [], none, ([], [])), kvW74)
noncomputable def kC890_0 : aC := (([kvB 0 3, kvB 141 341, kvB 0 4, kvB 141 341], [(57, 140, .inl (0, .ofNat 0)), (52, 6, .inl (3, .ofNat 0))], 2, [kvR 52, some (.inr [20, 21, 22, 23, 24, 25, 26, 27]), kvN 140, kvI 2, none], []), ([], []), (4, [(-1, 2)]))
theorem ks890 : aseg kS krf kB [kE562, kE567, kE568, kE569] (ksp []) kE890 [kC890_0] 30000 (none) = true := asgqk (by decide +kernel)
theorem ks890_0 : aseg kS krf kB [kE562, kE567, kE568, kE569] (ksp []) kE890 [kC890_0] 30000 (some kC890_0) = true := asgqk (by decide +kernel)
theorem kok890 : aOK kS krf kB kE890 := aOK_of (kal1 kok562 (kal1 kok567 (kal1 kok568 (kal1 kok569 kal0)))) (kcl1 ks890_0 kcl0) ks890
/-- ColdShod$StrokePlan.addNext(LColdShod$Idea;I)V -/
noncomputable def kE891 : aE := (83, 3, ([kvB 0 3, kvB 140 341], [(57, 139, .inl (0, .ofNat 0)), (52, 6, .inl (1, .ofNat 0))], 0, [kvR 52, some (.inr [20, 21, 22, 23, 24, 25, 26, 27]), kvN 139, none, none], []), ([], none), ([], [], none, ([], [])), kvW74)
noncomputable def kC891_0 : aC := (([kvB 0 3, kvB 140 341, kvB 0 4, kvB 140 341], [(57, 139, .inl (0, .ofNat 0)), (52, 6, .inl (3, .ofNat 0))], 2, [kvR 52, some (.inr [20, 21, 22, 23, 24, 25, 26, 27]), kvN 139, kvI 2, none], []), ([], []), (4, [(-1, 2)]))
theorem ks891 : aseg kS krf kB [kE562, kE567, kE568, kE569] (ksp []) kE891 [kC891_0] 30000 (none) = true := asgqk (by decide +kernel)
theorem ks891_0 : aseg kS krf kB [kE562, kE567, kE568, kE569] (ksp []) kE891 [kC891_0] 30000 (some kC891_0) = true := asgqk (by decide +kernel)
theorem kok891 : aOK kS krf kB kE891 := aOK_of (kal1 kok562 (kal1 kok567 (kal1 kok568 (kal1 kok569 kal0)))) (kcl1 ks891_0 kcl0) ks891
/-- ColdShod$StrokePlan.addNext(LColdShod$Idea;I)V -/
noncomputable def kE892 : aE := (83, 3, ([kvB 0 3, kvB 139 341], [(57, 138, .inl (0, .ofNat 0)), (52, 6, .inl (1, .ofNat 0))], 0, [kvR 52, some (.inr [20, 21, 22, 23, 24, 25, 26, 27]), kvN 138, none, none], []), ([], none), ([], [], none, ([], [])), kvW74)
noncomputable def kC892_0 : aC := (([kvB 0 3, kvB 139 341, kvB 0 4, kvB 139 341], [(57, 138, .inl (0, .ofNat 0)), (52, 6, .inl (3, .ofNat 0))], 2, [kvR 52, some (.inr [20, 21, 22, 23, 24, 25, 26, 27]), kvN 138, kvI 2, none], []), ([], []), (4, [(-1, 2)]))
theorem ks892 : aseg kS krf kB [kE562, kE567, kE568, kE569] (ksp []) kE892 [kC892_0] 30000 (none) = true := asgqk (by decide +kernel)
theorem ks892_0 : aseg kS krf kB [kE562, kE567, kE568, kE569] (ksp []) kE892 [kC892_0] 30000 (some kC892_0) = true := asgqk (by decide +kernel)
theorem kok892 : aOK kS krf kB kE892 := aOK_of (kal1 kok562 (kal1 kok567 (kal1 kok568 (kal1 kok569 kal0)))) (kcl1 ks892_0 kcl0) ks892
/-- ColdShod$StrokePlan.addNext(LColdShod$Idea;I)V -/
noncomputable def kE893 : aE := (83, 3, ([kvB 0 3, kvB 138 341], [(57, 137, .inl (0, .ofNat 0)), (52, 6, .inl (1, .ofNat 0))], 0, [kvR 52, some (.inr [20, 21, 22, 23, 24, 25, 26, 27]), kvN 137, none, none], []), ([], none), ([], [], none, ([], [])), kvW74)
noncomputable def kC893_0 : aC := (([kvB 0 3, kvB 138 341, kvB 0 4, kvB 138 341], [(57, 137, .inl (0, .ofNat 0)), (52, 6, .inl (3, .ofNat 0))], 2, [kvR 52, some (.inr [20, 21, 22, 23, 24, 25, 26, 27]), kvN 137, kvI 2, none], []), ([], []), (4, [(-1, 2)]))
theorem ks893 : aseg kS krf kB [kE562, kE567, kE568, kE569] (ksp []) kE893 [kC893_0] 30000 (none) = true := asgqk (by decide +kernel)
theorem ks893_0 : aseg kS krf kB [kE562, kE567, kE568, kE569] (ksp []) kE893 [kC893_0] 30000 (some kC893_0) = true := asgqk (by decide +kernel)
theorem kok893 : aOK kS krf kB kE893 := aOK_of (kal1 kok562 (kal1 kok567 (kal1 kok568 (kal1 kok569 kal0)))) (kcl1 ks893_0 kcl0) ks893
/-- ColdShod$StrokePlan.addNext(LColdShod$Idea;I)V -/
noncomputable def kE894 : aE := (83, 3, ([kvB 0 3, kvB 137 341], [(57, 136, .inl (0, .ofNat 0)), (52, 6, .inl (1, .ofNat 0))], 0, [kvR 52, some (.inr [20, 21, 22, 23, 24, 25, 26, 27]), kvN 136, none, none], []), ([], none), ([], [], none, ([], [])), kvW74)
noncomputable def kC894_0 : aC := (([kvB 0 3, kvB 137 341, kvB 0 4, kvB 137 341], [(57, 136, .inl (0, .ofNat 0)), (52, 6, .inl (3, .ofNat 0))], 2, [kvR 52, some (.inr [20, 21, 22, 23, 24, 25, 26, 27]), kvN 136, kvI 2, none], []), ([], []), (4, [(-1, 2)]))
theorem ks894 : aseg kS krf kB [kE562, kE567, kE568, kE569] (ksp []) kE894 [kC894_0] 30000 (none) = true := asgqk (by decide +kernel)
theorem ks894_0 : aseg kS krf kB [kE562, kE567, kE568, kE569] (ksp []) kE894 [kC894_0] 30000 (some kC894_0) = true := asgqk (by decide +kernel)
theorem kok894 : aOK kS krf kB kE894 := aOK_of (kal1 kok562 (kal1 kok567 (kal1 kok568 (kal1 kok569 kal0)))) (kcl1 ks894_0 kcl0) ks894
/-- ColdShod$StrokePlan.addNext(LColdShod$Idea;I)V -/
noncomputable def kE895 : aE := (83, 3, ([kvB 0 3, kvB 136 341], [(57, 135, .inl (0, .ofNat 0)), (52, 6, .inl (1, .ofNat 0))], 0, [kvR 52, some (.inr [20, 21, 22, 23, 24, 25, 26, 27]), kvN 135, none, none], []), ([], none), ([], [], none, ([], [])), kvW74)
noncomputable def kC895_0 : aC := (([kvB 0 3, kvB 136 341, kvB 0 4, kvB 136 341], [(57, 135, .inl (0, .ofNat 0)), (52, 6, .inl (3, .ofNat 0))], 2, [kvR 52, some (.inr [20, 21, 22, 23, 24, 25, 26, 27]), kvN 135, kvI 2, none], []), ([], []), (4, [(-1, 2)]))
theorem ks895 : aseg kS krf kB [kE562, kE567, kE568, kE569] (ksp []) kE895 [kC895_0] 30000 (none) = true := asgqk (by decide +kernel)
theorem ks895_0 : aseg kS krf kB [kE562, kE567, kE568, kE569] (ksp []) kE895 [kC895_0] 30000 (some kC895_0) = true := asgqk (by decide +kernel)
theorem kok895 : aOK kS krf kB kE895 := aOK_of (kal1 kok562 (kal1 kok567 (kal1 kok568 (kal1 kok569 kal0)))) (kcl1 ks895_0 kcl0) ks895
/-- ColdShod$StrokePlan.addNext(LColdShod$Idea;I)V -/
noncomputable def kE896 : aE := (83, 3, ([kvB 0 3, kvB 135 341], [(57, 134, .inl (0, .ofNat 0)), (52, 6, .inl (1, .ofNat 0))], 0, [kvR 52, some (.inr [20, 21, 22, 23, 24, 25, 26, 27]), kvN 134, none, none], []), ([], none), ([], [], none, ([], [])), kvW74)
noncomputable def kC896_0 : aC := (([kvB 0 3, kvB 135 341, kvB 0 4, kvB 135 341], [(57, 134, .inl (0, .ofNat 0)), (52, 6, .inl (3, .ofNat 0))], 2, [kvR 52, some (.inr [20, 21, 22, 23, 24, 25, 26, 27]), kvN 134, kvI 2, none], []), ([], []), (4, [(-1, 2)]))
theorem ks896 : aseg kS krf kB [kE562, kE567, kE568, kE569] (ksp []) kE896 [kC896_0] 30000 (none) = true := asgqk (by decide +kernel)
theorem ks896_0 : aseg kS krf kB [kE562, kE567, kE568, kE569] (ksp []) kE896 [kC896_0] 30000 (some kC896_0) = true := asgqk (by decide +kernel)
theorem kok896 : aOK kS krf kB kE896 := aOK_of (kal1 kok562 (kal1 kok567 (kal1 kok568 (kal1 kok569 kal0)))) (kcl1 ks896_0 kcl0) ks896
/-- ColdShod$StrokePlan.addNext(LColdShod$Idea;I)V -/
noncomputable def kE897 : aE := (83, 3, ([kvB 0 3, kvB 134 341], [(57, 133, .inl (0, .ofNat 0)), (52, 6, .inl (1, .ofNat 0))], 0, [kvR 52, some (.inr [20, 21, 22, 23, 24, 25, 26, 27]), kvN 133, none, none], []), ([], none), ([], [], none, ([], [])), kvW74)
noncomputable def kC897_0 : aC := (([kvB 0 3, kvB 134 341, kvB 0 4, kvB 134 341], [(57, 133, .inl (0, .ofNat 0)), (52, 6, .inl (3, .ofNat 0))], 2, [kvR 52, some (.inr [20, 21, 22, 23, 24, 25, 26, 27]), kvN 133, kvI 2, none], []), ([], []), (4, [(-1, 2)]))
theorem ks897 : aseg kS krf kB [kE562, kE567, kE568, kE569] (ksp []) kE897 [kC897_0] 30000 (none) = true := asgqk (by decide +kernel)
theorem ks897_0 : aseg kS krf kB [kE562, kE567, kE568, kE569] (ksp []) kE897 [kC897_0] 30000 (some kC897_0) = true := asgqk (by decide +kernel)
theorem kok897 : aOK kS krf kB kE897 := aOK_of (kal1 kok562 (kal1 kok567 (kal1 kok568 (kal1 kok569 kal0)))) (kcl1 ks897_0 kcl0) ks897
/-- ColdShod$StrokePlan.addNext(LColdShod$Idea;I)V -/
noncomputable def kE898 : aE := (83, 3, ([kvB 0 3, kvB 133 341], [(57, 132, .inl (0, .ofNat 0)), (52, 6, .inl (1, .ofNat 0))], 0, [kvR 52, some (.inr [20, 21, 22, 23, 24, 25, 26, 27]), kvN 132, none, none], []), ([], none), ([], [], none, ([], [])), kvW74)
noncomputable def kC898_0 : aC := (([kvB 0 3, kvB 133 341, kvB 0 4, kvB 133 341], [(57, 132, .inl (0, .ofNat 0)), (52, 6, .inl (3, .ofNat 0))], 2, [kvR 52, some (.inr [20, 21, 22, 23, 24, 25, 26, 27]), kvN 132, kvI 2, none], []), ([], []), (4, [(-1, 2)]))
theorem ks898 : aseg kS krf kB [kE562, kE567, kE568, kE569] (ksp []) kE898 [kC898_0] 30000 (none) = true := asgqk (by decide +kernel)
theorem ks898_0 : aseg kS krf kB [kE562, kE567, kE568, kE569] (ksp []) kE898 [kC898_0] 30000 (some kC898_0) = true := asgqk (by decide +kernel)
theorem kok898 : aOK kS krf kB kE898 := aOK_of (kal1 kok562 (kal1 kok567 (kal1 kok568 (kal1 kok569 kal0)))) (kcl1 ks898_0 kcl0) ks898
/-- ColdShod$StrokePlan.addNext(LColdShod$Idea;I)V -/
noncomputable def kE899 : aE := (83, 3, ([kvB 0 3, kvB 132 341], [(57, 131, .inl (0, .ofNat 0)), (52, 6, .inl (1, .ofNat 0))], 0, [kvR 52, some (.inr [20, 21, 22, 23, 24, 25, 26, 27]), kvN 131, none, none], []), ([], none), ([], [], none, ([], [])), kvW74)
noncomputable def kC899_0 : aC := (([kvB 0 3, kvB 132 341, kvB 0 4, kvB 132 341], [(57, 131, .inl (0, .ofNat 0)), (52, 6, .inl (3, .ofNat 0))], 2, [kvR 52, some (.inr [20, 21, 22, 23, 24, 25, 26, 27]), kvN 131, kvI 2, none], []), ([], []), (4, [(-1, 2)]))
theorem ks899 : aseg kS krf kB [kE562, kE567, kE568, kE569] (ksp []) kE899 [kC899_0] 30000 (none) = true := asgqk (by decide +kernel)
theorem ks899_0 : aseg kS krf kB [kE562, kE567, kE568, kE569] (ksp []) kE899 [kC899_0] 30000 (some kC899_0) = true := asgqk (by decide +kernel)
theorem kok899 : aOK kS krf kB kE899 := aOK_of (kal1 kok562 (kal1 kok567 (kal1 kok568 (kal1 kok569 kal0)))) (kcl1 ks899_0 kcl0) ks899
/-- ColdShod$StrokePlan.addNext(LColdShod$Idea;I)V -/
noncomputable def kE900 : aE := (83, 3, ([kvB 0 3, kvB 131 341], [(57, 130, .inl (0, .ofNat 0)), (52, 6, .inl (1, .ofNat 0))], 0, [kvR 52, some (.inr [20, 21, 22, 23, 24, 25, 26, 27]), kvN 130, none, none], []), ([], none), ([], [], none, ([], [])), kvW74)
noncomputable def kC900_0 : aC := (([kvB 0 3, kvB 131 341, kvB 0 4, kvB 131 341], [(57, 130, .inl (0, .ofNat 0)), (52, 6, .inl (3, .ofNat 0))], 2, [kvR 52, some (.inr [20, 21, 22, 23, 24, 25, 26, 27]), kvN 130, kvI 2, none], []), ([], []), (4, [(-1, 2)]))
theorem ks900 : aseg kS krf kB [kE562, kE567, kE568, kE569] (ksp []) kE900 [kC900_0] 30000 (none) = true := asgqk (by decide +kernel)
theorem ks900_0 : aseg kS krf kB [kE562, kE567, kE568, kE569] (ksp []) kE900 [kC900_0] 30000 (some kC900_0) = true := asgqk (by decide +kernel)
theorem kok900 : aOK kS krf kB kE900 := aOK_of (kal1 kok562 (kal1 kok567 (kal1 kok568 (kal1 kok569 kal0)))) (kcl1 ks900_0 kcl0) ks900
/-- ColdShod$StrokePlan.addNext(LColdShod$Idea;I)V -/
noncomputable def kE901 : aE := (83, 3, ([kvB 0 3, kvB 130 341], [(57, 129, .inl (0, .ofNat 0)), (52, 6, .inl (1, .ofNat 0))], 0, [kvR 52, some (.inr [20, 21, 22, 23, 24, 25, 26, 27]), kvN 129, none, none], []), ([], none), ([], [], none, ([], [])), kvW74)
noncomputable def kC901_0 : aC := (([kvB 0 3, kvB 130 341, kvB 0 4, kvB 130 341], [(57, 129, .inl (0, .ofNat 0)), (52, 6, .inl (3, .ofNat 0))], 2, [kvR 52, some (.inr [20, 21, 22, 23, 24, 25, 26, 27]), kvN 129, kvI 2, none], []), ([], []), (4, [(-1, 2)]))
theorem ks901 : aseg kS krf kB [kE562, kE567, kE568, kE569] (ksp []) kE901 [kC901_0] 30000 (none) = true := asgqk (by decide +kernel)
theorem ks901_0 : aseg kS krf kB [kE562, kE567, kE568, kE569] (ksp []) kE901 [kC901_0] 30000 (some kC901_0) = true := asgqk (by decide +kernel)
theorem kok901 : aOK kS krf kB kE901 := aOK_of (kal1 kok562 (kal1 kok567 (kal1 kok568 (kal1 kok569 kal0)))) (kcl1 ks901_0 kcl0) ks901
/-- ColdShod$StrokePlan.addNext(LColdShod$Idea;I)V -/
noncomputable def kE902 : aE := (83, 3, ([kvB 0 3, kvB 129 341], [(57, 128, .inl (0, .ofNat 0)), (52, 6, .inl (1, .ofNat 0))], 0, [kvR 52, some (.inr [20, 21, 22, 23, 24, 25, 26, 27]), kvN 128, none, none], []), ([], none), ([], [], none, ([], [])), kvW74)
noncomputable def kC902_0 : aC := (([kvB 0 3, kvB 129 341, kvB 0 4, kvB 129 341], [(57, 128, .inl (0, .ofNat 0)), (52, 6, .inl (3, .ofNat 0))], 2, [kvR 52, some (.inr [20, 21, 22, 23, 24, 25, 26, 27]), kvN 128, kvI 2, none], []), ([], []), (4, [(-1, 2)]))
theorem ks902 : aseg kS krf kB [kE562, kE567, kE568, kE569] (ksp []) kE902 [kC902_0] 30000 (none) = true := asgqk (by decide +kernel)
theorem ks902_0 : aseg kS krf kB [kE562, kE567, kE568, kE569] (ksp []) kE902 [kC902_0] 30000 (some kC902_0) = true := asgqk (by decide +kernel)
theorem kok902 : aOK kS krf kB kE902 := aOK_of (kal1 kok562 (kal1 kok567 (kal1 kok568 (kal1 kok569 kal0)))) (kcl1 ks902_0 kcl0) ks902
/-- ColdShod$StrokePlan.addNext(LColdShod$Idea;I)V -/
noncomputable def kE903 : aE := (83, 3, ([kvB 0 3, kvB 128 341], [(57, 127, .inl (0, .ofNat 0)), (52, 6, .inl (1, .ofNat 0))], 0, [kvR 52, some (.inr [20, 21, 22, 23, 24, 25, 26, 27]), kvN 127, none, none], []), ([], none), ([], [], none, ([], [])), kvW74)
noncomputable def kC903_0 : aC := (([kvB 0 3, kvB 128 341, kvB 0 4, kvB 128 341], [(57, 127, .inl (0, .ofNat 0)), (52, 6, .inl (3, .ofNat 0))], 2, [kvR 52, some (.inr [20, 21, 22, 23, 24, 25, 26, 27]), kvN 127, kvI 2, none], []), ([], []), (4, [(-1, 2)]))
theorem ks903 : aseg kS krf kB [kE562, kE567, kE568, kE569] (ksp []) kE903 [kC903_0] 30000 (none) = true := asgqk (by decide +kernel)
theorem ks903_0 : aseg kS krf kB [kE562, kE567, kE568, kE569] (ksp []) kE903 [kC903_0] 30000 (some kC903_0) = true := asgqk (by decide +kernel)
theorem kok903 : aOK kS krf kB kE903 := aOK_of (kal1 kok562 (kal1 kok567 (kal1 kok568 (kal1 kok569 kal0)))) (kcl1 ks903_0 kcl0) ks903
/-- ColdShod$StrokePlan.addNext(LColdShod$Idea;I)V -/
noncomputable def kE904 : aE := (83, 3, ([kvB 0 3, kvB 127 341], [(57, 126, .inl (0, .ofNat 0)), (52, 6, .inl (1, .ofNat 0))], 0, [kvR 52, some (.inr [20, 21, 22, 23, 24, 25, 26, 27]), kvN 126, none, none], []), ([], none), ([], [], none, ([], [])), kvW74)
noncomputable def kC904_0 : aC := (([kvB 0 3, kvB 127 341, kvB 0 4, kvB 127 341], [(57, 126, .inl (0, .ofNat 0)), (52, 6, .inl (3, .ofNat 0))], 2, [kvR 52, some (.inr [20, 21, 22, 23, 24, 25, 26, 27]), kvN 126, kvI 2, none], []), ([], []), (4, [(-1, 2)]))
theorem ks904 : aseg kS krf kB [kE562, kE567, kE568, kE569] (ksp []) kE904 [kC904_0] 30000 (none) = true := asgqk (by decide +kernel)
theorem ks904_0 : aseg kS krf kB [kE562, kE567, kE568, kE569] (ksp []) kE904 [kC904_0] 30000 (some kC904_0) = true := asgqk (by decide +kernel)
theorem kok904 : aOK kS krf kB kE904 := aOK_of (kal1 kok562 (kal1 kok567 (kal1 kok568 (kal1 kok569 kal0)))) (kcl1 ks904_0 kcl0) ks904
/-- ColdShod$StrokePlan.addNext(LColdShod$Idea;I)V -/
noncomputable def kE905 : aE := (83, 3, ([kvB 0 3, kvB 126 341], [(57, 125, .inl (0, .ofNat 0)), (52, 6, .inl (1, .ofNat 0))], 0, [kvR 52, some (.inr [20, 21, 22, 23, 24, 25, 26, 27]), kvN 125, none, none], []), ([], none), ([], [], none, ([], [])), kvW74)
noncomputable def kC905_0 : aC := (([kvB 0 3, kvB 126 341, kvB 0 4, kvB 126 341], [(57, 125, .inl (0, .ofNat 0)), (52, 6, .inl (3, .ofNat 0))], 2, [kvR 52, some (.inr [20, 21, 22, 23, 24, 25, 26, 27]), kvN 125, kvI 2, none], []), ([], []), (4, [(-1, 2)]))
theorem ks905 : aseg kS krf kB [kE562, kE567, kE568, kE569] (ksp []) kE905 [kC905_0] 30000 (none) = true := asgqk (by decide +kernel)
theorem ks905_0 : aseg kS krf kB [kE562, kE567, kE568, kE569] (ksp []) kE905 [kC905_0] 30000 (some kC905_0) = true := asgqk (by decide +kernel)
theorem kok905 : aOK kS krf kB kE905 := aOK_of (kal1 kok562 (kal1 kok567 (kal1 kok568 (kal1 kok569 kal0)))) (kcl1 ks905_0 kcl0) ks905
/-- ColdShod$StrokePlan.addNext(LColdShod$Idea;I)V -/
noncomputable def kE906 : aE := (83, 3, ([kvB 0 3, kvB 125 341], [(57, 124, .inl (0, .ofNat 0)), (52, 6, .inl (1, .ofNat 0))], 0, [kvR 52, some (.inr [20, 21, 22, 23, 24, 25, 26, 27]), kvN 124, none, none], []), ([], none), ([], [], none, ([], [])), kvW74)
noncomputable def kC906_0 : aC := (([kvB 0 3, kvB 125 341, kvB 0 4, kvB 125 341], [(57, 124, .inl (0, .ofNat 0)), (52, 6, .inl (3, .ofNat 0))], 2, [kvR 52, some (.inr [20, 21, 22, 23, 24, 25, 26, 27]), kvN 124, kvI 2, none], []), ([], []), (4, [(-1, 2)]))
theorem ks906 : aseg kS krf kB [kE562, kE567, kE568, kE569] (ksp []) kE906 [kC906_0] 30000 (none) = true := asgqk (by decide +kernel)
theorem ks906_0 : aseg kS krf kB [kE562, kE567, kE568, kE569] (ksp []) kE906 [kC906_0] 30000 (some kC906_0) = true := asgqk (by decide +kernel)
theorem kok906 : aOK kS krf kB kE906 := aOK_of (kal1 kok562 (kal1 kok567 (kal1 kok568 (kal1 kok569 kal0)))) (kcl1 ks906_0 kcl0) ks906
/-- ColdShod$StrokePlan.addNext(LColdShod$Idea;I)V -/
noncomputable def kE907 : aE := (83, 3, ([kvB 0 3, kvB 124 341], [(57, 123, .inl (0, .ofNat 0)), (52, 6, .inl (1, .ofNat 0))], 0, [kvR 52, some (.inr [20, 21, 22, 23, 24, 25, 26, 27]), kvN 123, none, none], []), ([], none), ([], [], none, ([], [])), kvW74)
noncomputable def kC907_0 : aC := (([kvB 0 3, kvB 124 341, kvB 0 4, kvB 124 341], [(57, 123, .inl (0, .ofNat 0)), (52, 6, .inl (3, .ofNat 0))], 2, [kvR 52, some (.inr [20, 21, 22, 23, 24, 25, 26, 27]), kvN 123, kvI 2, none], []), ([], []), (4, [(-1, 2)]))
theorem ks907 : aseg kS krf kB [kE562, kE567, kE568, kE569] (ksp []) kE907 [kC907_0] 30000 (none) = true := asgqk (by decide +kernel)
theorem ks907_0 : aseg kS krf kB [kE562, kE567, kE568, kE569] (ksp []) kE907 [kC907_0] 30000 (some kC907_0) = true := asgqk (by decide +kernel)
theorem kok907 : aOK kS krf kB kE907 := aOK_of (kal1 kok562 (kal1 kok567 (kal1 kok568 (kal1 kok569 kal0)))) (kcl1 ks907_0 kcl0) ks907
/-- ColdShod$StrokePlan.addNext(LColdShod$Idea;I)V -/
noncomputable def kE908 : aE := (83, 3, ([kvB 0 3, kvB 123 341], [(57, 122, .inl (0, .ofNat 0)), (52, 6, .inl (1, .ofNat 0))], 0, [kvR 52, some (.inr [20, 21, 22, 23, 24, 25, 26, 27]), kvN 122, none, none], []), ([], none), ([], [], none, ([], [])), kvW74)
noncomputable def kC908_0 : aC := (([kvB 0 3, kvB 123 341, kvB 0 4, kvB 123 341], [(57, 122, .inl (0, .ofNat 0)), (52, 6, .inl (3, .ofNat 0))], 2, [kvR 52, some (.inr [20, 21, 22, 23, 24, 25, 26, 27]), kvN 122, kvI 2, none], []), ([], []), (4, [(-1, 2)]))
theorem ks908 : aseg kS krf kB [kE562, kE567, kE568, kE569] (ksp []) kE908 [kC908_0] 30000 (none) = true := asgqk (by decide +kernel)
theorem ks908_0 : aseg kS krf kB [kE562, kE567, kE568, kE569] (ksp []) kE908 [kC908_0] 30000 (some kC908_0) = true := asgqk (by decide +kernel)
theorem kok908 : aOK kS krf kB kE908 := aOK_of (kal1 kok562 (kal1 kok567 (kal1 kok568 (kal1 kok569 kal0)))) (kcl1 ks908_0 kcl0) ks908
/-- ColdShod$StrokePlan.addNext(LColdShod$Idea;I)V -/
noncomputable def kE909 : aE := (83, 3, ([kvB 0 3, kvB 122 341], [(57, 121, .inl (0, .ofNat 0)), (52, 6, .inl (1, .ofNat 0))], 0, [kvR 52, some (.inr [20, 21, 22, 23, 24, 25, 26, 27]), kvN 121, none, none], []), ([], none), ([], [], none, ([], [])), kvW74)
noncomputable def kC909_0 : aC := (([kvB 0 3, kvB 122 341, kvB 0 4, kvB 122 341], [(57, 121, .inl (0, .ofNat 0)), (52, 6, .inl (3, .ofNat 0))], 2, [kvR 52, some (.inr [20, 21, 22, 23, 24, 25, 26, 27]), kvN 121, kvI 2, none], []), ([], []), (4, [(-1, 2)]))
theorem ks909 : aseg kS krf kB [kE562, kE567, kE568, kE569] (ksp []) kE909 [kC909_0] 30000 (none) = true := asgqk (by decide +kernel)
theorem ks909_0 : aseg kS krf kB [kE562, kE567, kE568, kE569] (ksp []) kE909 [kC909_0] 30000 (some kC909_0) = true := asgqk (by decide +kernel)
theorem kok909 : aOK kS krf kB kE909 := aOK_of (kal1 kok562 (kal1 kok567 (kal1 kok568 (kal1 kok569 kal0)))) (kcl1 ks909_0 kcl0) ks909
/-- ColdShod$StrokePlan.addNext(LColdShod$Idea;I)V -/
noncomputable def kE910 : aE := (83, 3, ([kvB 0 3, kvB 121 341], [(57, 120, .inl (0, .ofNat 0)), (52, 6, .inl (1, .ofNat 0))], 0, [kvR 52, some (.inr [20, 21, 22, 23, 24, 25, 26, 27]), kvN 120, none, none], []), ([], none), ([], [], none, ([], [])), kvW74)
noncomputable def kC910_0 : aC := (([kvB 0 3, kvB 121 341, kvB 0 4, kvB 121 341], [(57, 120, .inl (0, .ofNat 0)), (52, 6, .inl (3, .ofNat 0))], 2, [kvR 52, some (.inr [20, 21, 22, 23, 24, 25, 26, 27]), kvN 120, kvI 2, none], []), ([], []), (4, [(-1, 2)]))
theorem ks910 : aseg kS krf kB [kE562, kE567, kE568, kE569] (ksp []) kE910 [kC910_0] 30000 (none) = true := asgqk (by decide +kernel)
theorem ks910_0 : aseg kS krf kB [kE562, kE567, kE568, kE569] (ksp []) kE910 [kC910_0] 30000 (some kC910_0) = true := asgqk (by decide +kernel)
theorem kok910 : aOK kS krf kB kE910 := aOK_of (kal1 kok562 (kal1 kok567 (kal1 kok568 (kal1 kok569 kal0)))) (kcl1 ks910_0 kcl0) ks910
/-- ColdShod$StrokePlan.fewestFor(LColdShod$Journey;LColdShod$Idea;LColdShod$Country;)I -/
noncomputable def kE911 : aE := (82, 6, ([], [], 0, [kvR 52, kvR 50, some (.inr [20, 21, 22, 23, 24, 25, 26, 27]), kvR 7, none], []), ([], none), ([(.negSucc 1, .ofNat 4)], [], kvI 0, ([], [])), kvW76)
noncomputable def kC911_0 : aC := (([kvB 0 19], [], 25, [kvR 52, kvR 50, some (.inr [20, 21, 22, 23, 24, 25, 26, 27]), kvR 7, kvI 0], []), ([], []), (410, [(-1, 0)]))
noncomputable def kC911_1 : aC := (([kvB 60 79], [], 25, [kvR 52, kvR 50, some (.inr [20, 21, 22, 23, 24, 25, 26, 27]), kvR 7, kvI 0], []), ([], []), (401, [(-1, 0)]))
noncomputable def kC911_2 : aC := (([kvB 40 59], [], 25, [kvR 52, kvR 50, some (.inr [20, 21, 22, 23, 24, 25, 26, 27]), kvR 7, kvI 0], []), ([], []), (404, [(-1, 0)]))
noncomputable def kC911_3 : aC := (([kvB 20 39], [], 25, [kvR 52, kvR 50, some (.inr [20, 21, 22, 23, 24, 25, 26, 27]), kvR 7, kvI 0], []), ([], []), (407, [(-1, 0)]))
noncomputable def kC911_4 : aC := (([kvB 80 99], [], 25, [kvR 52, kvR 50, some (.inr [20, 21, 22, 23, 24, 25, 26, 27]), kvR 7, kvI 0], []), ([], []), (398, [(-1, 0)]))
noncomputable def kC911_5 : aC := (([kvB 100 119], [], 25, [kvR 52, kvR 50, some (.inr [20, 21, 22, 23, 24, 25, 26, 27]), kvR 7, kvI 0], []), ([], []), (395, [(-1, 0)]))
noncomputable def kC911_6 : aC := (([kvB 340 341], [], 25, [kvR 52, kvR 50, some (.inr [20, 21, 22, 23, 24, 25, 26, 27]), kvR 7, kvI 0], []), ([], []), (341, [(-1, 0)]))
noncomputable def kC911_7 : aC := (([kvB 320 339], [], 25, [kvR 52, kvR 50, some (.inr [20, 21, 22, 23, 24, 25, 26, 27]), kvR 7, kvI 0], []), ([], []), (362, [(-1, 0)]))
noncomputable def kC911_8 : aC := (([kvB 300 319], [], 25, [kvR 52, kvR 50, some (.inr [20, 21, 22, 23, 24, 25, 26, 27]), kvR 7, kvI 0], []), ([], []), (365, [(-1, 0)]))
noncomputable def kC911_9 : aC := (([kvB 280 299], [], 25, [kvR 52, kvR 50, some (.inr [20, 21, 22, 23, 24, 25, 26, 27]), kvR 7, kvI 0], []), ([], []), (368, [(-1, 0)]))
noncomputable def kC911_10 : aC := (([kvB 260 279], [], 25, [kvR 52, kvR 50, some (.inr [20, 21, 22, 23, 24, 25, 26, 27]), kvR 7, kvI 0], []), ([], []), (371, [(-1, 0)]))
noncomputable def kC911_11 : aC := (([kvB 240 259], [], 25, [kvR 52, kvR 50, some (.inr [20, 21, 22, 23, 24, 25, 26, 27]), kvR 7, kvI 0], []), ([], []), (374, [(-1, 0)]))
noncomputable def kC911_12 : aC := (([kvB 220 239], [], 25, [kvR 52, kvR 50, some (.inr [20, 21, 22, 23, 24, 25, 26, 27]), kvR 7, kvI 0], []), ([], []), (377, [(-1, 0)]))
noncomputable def kC911_13 : aC := (([kvB 200 219], [], 25, [kvR 52, kvR 50, some (.inr [20, 21, 22, 23, 24, 25, 26, 27]), kvR 7, kvI 0], []), ([], []), (380, [(-1, 0)]))
noncomputable def kC911_14 : aC := (([kvB 180 199], [], 25, [kvR 52, kvR 50, some (.inr [20, 21, 22, 23, 24, 25, 26, 27]), kvR 7, kvI 0], []), ([], []), (383, [(-1, 0)]))
noncomputable def kC911_15 : aC := (([kvB 160 179], [], 25, [kvR 52, kvR 50, some (.inr [20, 21, 22, 23, 24, 25, 26, 27]), kvR 7, kvI 0], []), ([], []), (386, [(-1, 0)]))
noncomputable def kC911_16 : aC := (([kvB 140 159], [], 25, [kvR 52, kvR 50, some (.inr [20, 21, 22, 23, 24, 25, 26, 27]), kvR 7, kvI 0], []), ([], []), (389, [(-1, 0)]))
noncomputable def kC911_17 : aC := (([kvB 120 139], [], 25, [kvR 52, kvR 50, some (.inr [20, 21, 22, 23, 24, 25, 26, 27]), kvR 7, kvI 0], []), ([], []), (392, [(-1, 0)]))
theorem ks911 : aseg kS krf kB [kE561] (ksp [(82, 25, 4, 0, 340, 0)]) kE911 [kC911_0, kC911_1, kC911_2, kC911_3, kC911_4, kC911_5, kC911_6, kC911_7, kC911_8, kC911_9, kC911_10, kC911_11, kC911_12, kC911_13, kC911_14, kC911_15, kC911_16, kC911_17] 30000 (none) = true := asgqk (by decide +kernel)
theorem ks911_0 : aseg kS krf kB [kE562, kE565, kE566, kE570, kE571, kE572, kE573, kE574, kE575, kE576, kE577, kE578, kE579, kE580, kE581, kE582, kE583, kE584, kE585, kE586, kE587, kE588, kE589] (ksp [(82, 25, 4, 0, 340, 0)]) kE911 [kC911_0, kC911_1, kC911_2, kC911_3, kC911_4, kC911_5, kC911_6, kC911_7, kC911_8, kC911_9, kC911_10, kC911_11, kC911_12, kC911_13, kC911_14, kC911_15, kC911_16, kC911_17] 30000 (some kC911_0) = true := asgqk (by decide +kernel)
theorem ks911_1 : aseg kS krf kB [kE562, kE565, kE566, kE590, kE591, kE592, kE593, kE594, kE595, kE596, kE597, kE598, kE599, kE600, kE601, kE602, kE603, kE604, kE605, kE606, kE607, kE608, kE609] (ksp [(82, 25, 4, 0, 340, 0)]) kE911 [kC911_0, kC911_1, kC911_2, kC911_3, kC911_4, kC911_5, kC911_6, kC911_7, kC911_8, kC911_9, kC911_10, kC911_11, kC911_12, kC911_13, kC911_14, kC911_15, kC911_16, kC911_17] 30000 (some kC911_1) = true := asgqk (by decide +kernel)
theorem ks911_2 : aseg kS krf kB [kE562, kE565, kE566, kE610, kE611, kE612, kE613, kE614, kE615, kE616, kE617, kE618, kE619, kE620, kE621, kE622, kE623, kE624, kE625, kE626, kE627, kE628, kE629] (ksp [(82, 25, 4, 0, 340, 0)]) kE911 [kC911_0, kC911_1, kC911_2, kC911_3, kC911_4, kC911_5, kC911_6, kC911_7, kC911_8, kC911_9, kC911_10, kC911_11, kC911_12, kC911_13, kC911_14, kC911_15, kC911_16, kC911_17] 30000 (some kC911_2) = true := asgqk (by decide +kernel)
theorem ks911_3 : aseg kS krf kB [kE562, kE565, kE566, kE630, kE631, kE632, kE633, kE634, kE635, kE636, kE637, kE638, kE639, kE640, kE641, kE642, kE643, kE644, kE645, kE646, kE647, kE648, kE649] (ksp [(82, 25, 4, 0, 340, 0)]) kE911 [kC911_0, kC911_1, kC911_2, kC911_3, kC911_4, kC911_5, kC911_6, kC911_7, kC911_8, kC911_9, kC911_10, kC911_11, kC911_12, kC911_13, kC911_14, kC911_15, kC911_16, kC911_17] 30000 (some kC911_3) = true := asgqk (by decide +kernel)
theorem ks911_4 : aseg kS krf kB [kE562, kE565, kE566, kE650, kE651, kE652, kE653, kE654, kE655, kE656, kE657, kE658, kE659, kE660, kE661, kE662, kE663, kE664, kE665, kE666, kE667, kE668, kE669] (ksp [(82, 25, 4, 0, 340, 0)]) kE911 [kC911_0, kC911_1, kC911_2, kC911_3, kC911_4, kC911_5, kC911_6, kC911_7, kC911_8, kC911_9, kC911_10, kC911_11, kC911_12, kC911_13, kC911_14, kC911_15, kC911_16, kC911_17] 30000 (some kC911_4) = true := asgqk (by decide +kernel)
theorem ks911_5 : aseg kS krf kB [kE562, kE565, kE566, kE670, kE671, kE672, kE673, kE674, kE675, kE676, kE677, kE678, kE679, kE680, kE681, kE682, kE683, kE684, kE685, kE686, kE687, kE688, kE689] (ksp [(82, 25, 4, 0, 340, 0)]) kE911 [kC911_0, kC911_1, kC911_2, kC911_3, kC911_4, kC911_5, kC911_6, kC911_7, kC911_8, kC911_9, kC911_10, kC911_11, kC911_12, kC911_13, kC911_14, kC911_15, kC911_16, kC911_17] 30000 (some kC911_5) = true := asgqk (by decide +kernel)
theorem ks911_6 : aseg kS krf kB [kE562, kE565, kE566, kE690] (ksp [(82, 25, 4, 0, 340, 0)]) kE911 [kC911_0, kC911_1, kC911_2, kC911_3, kC911_4, kC911_5, kC911_6, kC911_7, kC911_8, kC911_9, kC911_10, kC911_11, kC911_12, kC911_13, kC911_14, kC911_15, kC911_16, kC911_17] 30000 (some kC911_6) = true := asgqk (by decide +kernel)
theorem ks911_7 : aseg kS krf kB [kE562, kE565, kE566, kE691, kE692, kE693, kE694, kE695, kE696, kE697, kE698, kE699, kE700, kE701, kE702, kE703, kE704, kE705, kE706, kE707, kE708, kE709, kE710] (ksp [(82, 25, 4, 0, 340, 0)]) kE911 [kC911_0, kC911_1, kC911_2, kC911_3, kC911_4, kC911_5, kC911_6, kC911_7, kC911_8, kC911_9, kC911_10, kC911_11, kC911_12, kC911_13, kC911_14, kC911_15, kC911_16, kC911_17] 30000 (some kC911_7) = true := asgqk (by decide +kernel)
/-! ENTRIES and their checks: printed by a program (wip/ai). -/
theorem ks911_8 : aseg kS krf kB [kE562, kE565, kE566, kE711, kE712, kE713, kE714, kE715, kE716, kE717, kE718, kE719, kE720, kE721, kE722, kE723, kE724, kE725, kE726, kE727, kE728, kE729, kE730] (ksp [(82, 25, 4, 0, 340, 0)]) kE911 [kC911_0, kC911_1, kC911_2, kC911_3, kC911_4, kC911_5, kC911_6, kC911_7, kC911_8, kC911_9, kC911_10, kC911_11, kC911_12, kC911_13, kC911_14, kC911_15, kC911_16, kC911_17] 30000 (some kC911_8) = true := asgqk (by decide +kernel)
theorem ks911_9 : aseg kS krf kB [kE562, kE565, kE566, kE731, kE732, kE733, kE734, kE735, kE736, kE737, kE738, kE739, kE740, kE741, kE742, kE743, kE744, kE745, kE746, kE747, kE748, kE749, kE750] (ksp [(82, 25, 4, 0, 340, 0)]) kE911 [kC911_0, kC911_1, kC911_2, kC911_3, kC911_4, kC911_5, kC911_6, kC911_7, kC911_8, kC911_9, kC911_10, kC911_11, kC911_12, kC911_13, kC911_14, kC911_15, kC911_16, kC911_17] 30000 (some kC911_9) = true := asgqk (by decide +kernel)
theorem ks911_10 : aseg kS krf kB [kE562, kE565, kE566, kE751, kE752, kE753, kE754, kE755, kE756, kE757, kE758, kE759, kE760, kE761, kE762, kE763, kE764, kE765, kE766, kE767, kE768, kE769, kE770] (ksp [(82, 25, 4, 0, 340, 0)]) kE911 [kC911_0, kC911_1, kC911_2, kC911_3, kC911_4, kC911_5, kC911_6, kC911_7, kC911_8, kC911_9, kC911_10, kC911_11, kC911_12, kC911_13, kC911_14, kC911_15, kC911_16, kC911_17] 30000 (some kC911_10) = true := asgqk (by decide +kernel)
theorem ks911_11 : aseg kS krf kB [kE562, kE565, kE566, kE771, kE772, kE773, kE774, kE775, kE776, kE777, kE778, kE779, kE780, kE781, kE782, kE783, kE784, kE785, kE786, kE787, kE788, kE789, kE790] (ksp [(82, 25, 4, 0, 340, 0)]) kE911 [kC911_0, kC911_1, kC911_2, kC911_3, kC911_4, kC911_5, kC911_6, kC911_7, kC911_8, kC911_9, kC911_10, kC911_11, kC911_12, kC911_13, kC911_14, kC911_15, kC911_16, kC911_17] 30000 (some kC911_11) = true := asgqk (by decide +kernel)
theorem ks911_12 : aseg kS krf kB [kE562, kE565, kE566, kE791, kE792, kE793, kE794, kE795, kE796, kE797, kE798, kE799, kE800, kE801, kE802, kE803, kE804, kE805, kE806, kE807, kE808, kE809, kE810] (ksp [(82, 25, 4, 0, 340, 0)]) kE911 [kC911_0, kC911_1, kC911_2, kC911_3, kC911_4, kC911_5, kC911_6, kC911_7, kC911_8, kC911_9, kC911_10, kC911_11, kC911_12, kC911_13, kC911_14, kC911_15, kC911_16, kC911_17] 30000 (some kC911_12) = true := asgqk (by decide +kernel)
theorem ks911_13 : aseg kS krf kB [kE562, kE565, kE566, kE811, kE812, kE813, kE814, kE815, kE816, kE817, kE818, kE819, kE820, kE821, kE822, kE823, kE824, kE825, kE826, kE827, kE828, kE829, kE830] (ksp [(82, 25, 4, 0, 340, 0)]) kE911 [kC911_0, kC911_1, kC911_2, kC911_3, kC911_4, kC911_5, kC911_6, kC911_7, kC911_8, kC911_9, kC911_10, kC911_11, kC911_12, kC911_13, kC911_14, kC911_15, kC911_16, kC911_17] 30000 (some kC911_13) = true := asgqk (by decide +kernel)
theorem ks911_14 : aseg kS krf kB [kE562, kE565, kE566, kE831, kE832, kE833, kE834, kE835, kE836, kE837, kE838, kE839, kE840, kE841, kE842, kE843, kE844, kE845, kE846, kE847, kE848, kE849, kE850] (ksp [(82, 25, 4, 0, 340, 0)]) kE911 [kC911_0, kC911_1, kC911_2, kC911_3, kC911_4, kC911_5, kC911_6, kC911_7, kC911_8, kC911_9, kC911_10, kC911_11, kC911_12, kC911_13, kC911_14, kC911_15, kC911_16, kC911_17] 30000 (some kC911_14) = true := asgqk (by decide +kernel)
theorem ks911_15 : aseg kS krf kB [kE562, kE565, kE566, kE851, kE852, kE853, kE854, kE855, kE856, kE857, kE858, kE859, kE860, kE861, kE862, kE863, kE864, kE865, kE866, kE867, kE868, kE869, kE870] (ksp [(82, 25, 4, 0, 340, 0)]) kE911 [kC911_0, kC911_1, kC911_2, kC911_3, kC911_4, kC911_5, kC911_6, kC911_7, kC911_8, kC911_9, kC911_10, kC911_11, kC911_12, kC911_13, kC911_14, kC911_15, kC911_16, kC911_17] 30000 (some kC911_15) = true := asgqk (by decide +kernel)
theorem ks911_16 : aseg kS krf kB [kE562, kE565, kE566, kE871, kE872, kE873, kE874, kE875, kE876, kE877, kE878, kE879, kE880, kE881, kE882, kE883, kE884, kE885, kE886, kE887, kE888, kE889, kE890] (ksp [(82, 25, 4, 0, 340, 0)]) kE911 [kC911_0, kC911_1, kC911_2, kC911_3, kC911_4, kC911_5, kC911_6, kC911_7, kC911_8, kC911_9, kC911_10, kC911_11, kC911_12, kC911_13, kC911_14, kC911_15, kC911_16, kC911_17] 30000 (some kC911_16) = true := asgqk (by decide +kernel)
theorem ks911_17 : aseg kS krf kB [kE562, kE565, kE566, kE891, kE892, kE893, kE894, kE895, kE896, kE897, kE898, kE899, kE900, kE901, kE902, kE903, kE904, kE905, kE906, kE907, kE908, kE909, kE910] (ksp [(82, 25, 4, 0, 340, 0)]) kE911 [kC911_0, kC911_1, kC911_2, kC911_3, kC911_4, kC911_5, kC911_6, kC911_7, kC911_8, kC911_9, kC911_10, kC911_11, kC911_12, kC911_13, kC911_14, kC911_15, kC911_16, kC911_17] 30000 (some kC911_17) = true := asgqk (by decide +kernel)
set_option maxRecDepth 100000 in
theorem kok911 : aOK kS krf kB kE911 := aOK_ofs (kal1 kok561 kal0) (kcs1 (kal1 kok562 (kal1 kok565 (kal1 kok566 (kal1 kok570 (kal1 kok571 (kal1 kok572 (kal1 kok573 (kal1 kok574 (kal1 kok575 (kal1 kok576 (kal1 kok577 (kal1 kok578 (kal1 kok579 (kal1 kok580 (kal1 kok581 (kal1 kok582 (kal1 kok583 (kal1 kok584 (kal1 kok585 (kal1 kok586 (kal1 kok587 (kal1 kok588 (kal1 kok589 kal0))))))))))))))))))))))) ks911_0 (kcs1 (kal1 kok562 (kal1 kok565 (kal1 kok566 (kal1 kok590 (kal1 kok591 (kal1 kok592 (kal1 kok593 (kal1 kok594 (kal1 kok595 (kal1 kok596 (kal1 kok597 (kal1 kok598 (kal1 kok599 (kal1 kok600 (kal1 kok601 (kal1 kok602 (kal1 kok603 (kal1 kok604 (kal1 kok605 (kal1 kok606 (kal1 kok607 (kal1 kok608 (kal1 kok609 kal0))))))))))))))))))))))) ks911_1 (kcs1 (kal1 kok562 (kal1 kok565 (kal1 kok566 (kal1 kok610 (kal1 kok611 (kal1 kok612 (kal1 kok613 (kal1 kok614 (kal1 kok615 (kal1 kok616 (kal1 kok617 (kal1 kok618 (kal1 kok619 (kal1 kok620 (kal1 kok621 (kal1 kok622 (kal1 kok623 (kal1 kok624 (kal1 kok625 (kal1 kok626 (kal1 kok627 (kal1 kok628 (kal1 kok629 kal0))))))))))))))))))))))) ks911_2 (kcs1 (kal1 kok562 (kal1 kok565 (kal1 kok566 (kal1 kok630 (kal1 kok631 (kal1 kok632 (kal1 kok633 (kal1 kok634 (kal1 kok635 (kal1 kok636 (kal1 kok637 (kal1 kok638 (kal1 kok639 (kal1 kok640 (kal1 kok641 (kal1 kok642 (kal1 kok643 (kal1 kok644 (kal1 kok645 (kal1 kok646 (kal1 kok647 (kal1 kok648 (kal1 kok649 kal0))))))))))))))))))))))) ks911_3 (kcs1 (kal1 kok562 (kal1 kok565 (kal1 kok566 (kal1 kok650 (kal1 kok651 (kal1 kok652 (kal1 kok653 (kal1 kok654 (kal1 kok655 (kal1 kok656 (kal1 kok657 (kal1 kok658 (kal1 kok659 (kal1 kok660 (kal1 kok661 (kal1 kok662 (kal1 kok663 (kal1 kok664 (kal1 kok665 (kal1 kok666 (kal1 kok667 (kal1 kok668 (kal1 kok669 kal0))))))))))))))))))))))) ks911_4 (kcs1 (kal1 kok562 (kal1 kok565 (kal1 kok566 (kal1 kok670 (kal1 kok671 (kal1 kok672 (kal1 kok673 (kal1 kok674 (kal1 kok675 (kal1 kok676 (kal1 kok677 (kal1 kok678 (kal1 kok679 (kal1 kok680 (kal1 kok681 (kal1 kok682 (kal1 kok683 (kal1 kok684 (kal1 kok685 (kal1 kok686 (kal1 kok687 (kal1 kok688 (kal1 kok689 kal0))))))))))))))))))))))) ks911_5 (kcs1 (kal1 kok562 (kal1 kok565 (kal1 kok566 (kal1 kok690 kal0)))) ks911_6 (kcs1 (kal1 kok562 (kal1 kok565 (kal1 kok566 (kal1 kok691 (kal1 kok692 (kal1 kok693 (kal1 kok694 (kal1 kok695 (kal1 kok696 (kal1 kok697 (kal1 kok698 (kal1 kok699 (kal1 kok700 (kal1 kok701 (kal1 kok702 (kal1 kok703 (kal1 kok704 (kal1 kok705 (kal1 kok706 (kal1 kok707 (kal1 kok708 (kal1 kok709 (kal1 kok710 kal0))))))))))))))))))))))) ks911_7 (kcs1 (kal1 kok562 (kal1 kok565 (kal1 kok566 (kal1 kok711 (kal1 kok712 (kal1 kok713 (kal1 kok714 (kal1 kok715 (kal1 kok716 (kal1 kok717 (kal1 kok718 (kal1 kok719 (kal1 kok720 (kal1 kok721 (kal1 kok722 (kal1 kok723 (kal1 kok724 (kal1 kok725 (kal1 kok726 (kal1 kok727 (kal1 kok728 (kal1 kok729 (kal1 kok730 kal0))))))))))))))))))))))) ks911_8 (kcs1 (kal1 kok562 (kal1 kok565 (kal1 kok566 (kal1 kok731 (kal1 kok732 (kal1 kok733 (kal1 kok734 (kal1 kok735 (kal1 kok736 (kal1 kok737 (kal1 kok738 (kal1 kok739 (kal1 kok740 (kal1 kok741 (kal1 kok742 (kal1 kok743 (kal1 kok744 (kal1 kok745 (kal1 kok746 (kal1 kok747 (kal1 kok748 (kal1 kok749 (kal1 kok750 kal0))))))))))))))))))))))) ks911_9 (kcs1 (kal1 kok562 (kal1 kok565 (kal1 kok566 (kal1 kok751 (kal1 kok752 (kal1 kok753 (kal1 kok754 (kal1 kok755 (kal1 kok756 (kal1 kok757 (kal1 kok758 (kal1 kok759 (kal1 kok760 (kal1 kok761 (kal1 kok762 (kal1 kok763 (kal1 kok764 (kal1 kok765 (kal1 kok766 (kal1 kok767 (kal1 kok768 (kal1 kok769 (kal1 kok770 kal0))))))))))))))))))))))) ks911_10 (kcs1 (kal1 kok562 (kal1 kok565 (kal1 kok566 (kal1 kok771 (kal1 kok772 (kal1 kok773 (kal1 kok774 (kal1 kok775 (kal1 kok776 (kal1 kok777 (kal1 kok778 (kal1 kok779 (kal1 kok780 (kal1 kok781 (kal1 kok782 (kal1 kok783 (kal1 kok784 (kal1 kok785 (kal1 kok786 (kal1 kok787 (kal1 kok788 (kal1 kok789 (kal1 kok790 kal0))))))))))))))))))))))) ks911_11 (kcs1 (kal1 kok562 (kal1 kok565 (kal1 kok566 (kal1 kok791 (kal1 kok792 (kal1 kok793 (kal1 kok794 (kal1 kok795 (kal1 kok796 (kal1 kok797 (kal1 kok798 (kal1 kok799 (kal1 kok800 (kal1 kok801 (kal1 kok802 (kal1 kok803 (kal1 kok804 (kal1 kok805 (kal1 kok806 (kal1 kok807 (kal1 kok808 (kal1 kok809 (kal1 kok810 kal0))))))))))))))))))))))) ks911_12 (kcs1 (kal1 kok562 (kal1 kok565 (kal1 kok566 (kal1 kok811 (kal1 kok812 (kal1 kok813 (kal1 kok814 (kal1 kok815 (kal1 kok816 (kal1 kok817 (kal1 kok818 (kal1 kok819 (kal1 kok820 (kal1 kok821 (kal1 kok822 (kal1 kok823 (kal1 kok824 (kal1 kok825 (kal1 kok826 (kal1 kok827 (kal1 kok828 (kal1 kok829 (kal1 kok830 kal0))))))))))))))))))))))) ks911_13 (kcs1 (kal1 kok562 (kal1 kok565 (kal1 kok566 (kal1 kok831 (kal1 kok832 (kal1 kok833 (kal1 kok834 (kal1 kok835 (kal1 kok836 (kal1 kok837 (kal1 kok838 (kal1 kok839 (kal1 kok840 (kal1 kok841 (kal1 kok842 (kal1 kok843 (kal1 kok844 (kal1 kok845 (kal1 kok846 (kal1 kok847 (kal1 kok848 (kal1 kok849 (kal1 kok850 kal0))))))))))))))))))))))) ks911_14 (kcs1 (kal1 kok562 (kal1 kok565 (kal1 kok566 (kal1 kok851 (kal1 kok852 (kal1 kok853 (kal1 kok854 (kal1 kok855 (kal1 kok856 (kal1 kok857 (kal1 kok858 (kal1 kok859 (kal1 kok860 (kal1 kok861 (kal1 kok862 (kal1 kok863 (kal1 kok864 (kal1 kok865 (kal1 kok866 (kal1 kok867 (kal1 kok868 (kal1 kok869 (kal1 kok870 kal0))))))))))))))))))))))) ks911_15 (kcs1 (kal1 kok562 (kal1 kok565 (kal1 kok566 (kal1 kok871 (kal1 kok872 (kal1 kok873 (kal1 kok874 (kal1 kok875 (kal1 kok876 (kal1 kok877 (kal1 kok878 (kal1 kok879 (kal1 kok880 (kal1 kok881 (kal1 kok882 (kal1 kok883 (kal1 kok884 (kal1 kok885 (kal1 kok886 (kal1 kok887 (kal1 kok888 (kal1 kok889 (kal1 kok890 kal0))))))))))))))))))))))) ks911_16 (kcs1 (kal1 kok562 (kal1 kok565 (kal1 kok566 (kal1 kok891 (kal1 kok892 (kal1 kok893 (kal1 kok894 (kal1 kok895 (kal1 kok896 (kal1 kok897 (kal1 kok898 (kal1 kok899 (kal1 kok900 (kal1 kok901 (kal1 kok902 (kal1 kok903 (kal1 kok904 (kal1 kok905 (kal1 kok906 (kal1 kok907 (kal1 kok908 (kal1 kok909 (kal1 kok910 kal0))))))))))))))))))))))) ks911_17 kcs0)))))))))))))))))) ks911
/-- ColdShod.strokes(III)I -/
noncomputable def kE912 : aE := (104, 7, ([(.negSucc 2147483647, .ofNat 2147483647), (.negSucc 2147483647, .ofNat 2147483647), (.negSucc 2147483647, .ofNat 2147483647)], [], 0, [some (.inr [6]), some (.inl (.inl (.inl (0, .ofNat 0)))), some (.inl (.inl (.inl (1, .ofNat 0)))), some (.inl (.inl (.inl (2, .ofNat 0)))), none, none], []), ([], none), ([(.negSucc 2147483647, .ofNat 2147483647)], [], some (.inl (.inl (.inl (3, .ofNat 0)))), ([], [])), ([(13, 0), (13, 1), (13, 2), (13, 3), (13, 4), (13, 5), (50, 1), (50, 2), (50, 3), (52, 6), (58, 0), (58, 1), (58, 2), (58, 3), (58, 4), (58, 5), (58, 6)], [16, 19, 51, 53, 54, 55, 56, 57]))
theorem ks912 : aseg kS krf kB [kE262, kE263, kE911] (ksp []) kE912 [] 30000 (none) = true := asgqk (by decide +kernel)
theorem kok912 : aOK kS krf kB kE912 := aOK_of (kal1 kok262 (kal1 kok263 (kal1 kok911 kal0))) kcl0 ks912
/-- ColdShodModel.goesJourney(I)V -/
noncomputable def kE913 : aE := (188, 46, ([], [], 0, [kvR 102, kvN 5, none], []), ([], none), ([], [], none, ([], [])), kvW77)
noncomputable def kC913_0 : aC := (([kvB 0 1, kvB 0 20], [(102, 25, .inl (1, .ofNat 0))], 12, [kvR 102, kvN 5, kvI 0], []), ([], []), (20, [(23, 0), (-1, 1)]))
theorem ks913 : aseg kS krf kB [kE219, kE89] (ksp []) kE913 [kC913_0] 30000 (none) = true := asgqk (by decide +kernel)
theorem ks913_0 : aseg kS krf kB [kE219, kE89] (ksp []) kE913 [kC913_0] 30000 (some kC913_0) = true := asgqk (by decide +kernel)
theorem kok913 : aOK kS krf kB kE913 := aOK_of (kal1 kok219 (kal1 kok89 kal0)) (kcl1 ks913_0 kcl0) ks913
/-- ColdShodModel.goesBy(IIII)Z -/
noncomputable def kE914 : aE := (190, 47, ([kvB 0 7], [], 0, [kvR 102, kvN 5, kvI 0, kvN 4, kvN 4, none], []), ([], none), ([kvB 0 1], [], kvI 1, ([], [])), kvW78)
noncomputable def kC914_0 : aC := (([kvB 0 7, kvB 0 4], [], 14, [kvR 102, kvN 5, kvI 0, kvN 4, kvN 4, kvI 1], []), ([], []), (4, [(-1, 1)]))
theorem ks914 : aseg kS krf kB [kE43, kE94, kE913, kE219] (ksp []) kE914 [kC914_0] 30000 (none) = true := asgqk (by decide +kernel)
theorem ks914_0 : aseg kS krf kB [kE43, kE94, kE913, kE219] (ksp []) kE914 [kC914_0] 30000 (some kC914_0) = true := asgqk (by decide +kernel)
theorem kok914 : aOK kS krf kB kE914 := aOK_of (kal1 kok43 (kal1 kok94 (kal1 kok913 (kal1 kok219 kal0)))) (kcl1 ks914_0 kcl0) ks914
/-- ColdShodModel.goesBy(IIII)Z -/
noncomputable def kE915 : aE := (190, 48, ([kvB 0 7], [], 0, [kvR 102, kvN 5, kvI 0, kvN 3, kvN 4, none], []), ([], none), ([kvB 0 1], [], kvI 1, ([], [])), kvW79)
noncomputable def kC915_0 : aC := (([kvB 0 7, kvB 0 4], [], 65, [kvR 102, kvN 5, kvI 0, kvN 3, kvN 4, kvI 1], []), ([], []), (4, [(-1, 1)]))
theorem ks915 : aseg kS krf kB [kE914] (ksp []) kE915 [kC915_0] 30000 (none) = true := asgqk (by decide +kernel)
theorem ks915_0 : aseg kS krf kB [kE914] (ksp []) kE915 [kC915_0] 30000 (some kC915_0) = true := asgqk (by decide +kernel)
theorem kok915 : aOK kS krf kB kE915 := aOK_of (kal1 kok914 kal0) (kcl1 ks915_0 kcl0) ks915
/-- ColdShodModel.goesBy(IIII)Z -/
noncomputable def kE916 : aE := (190, 49, ([kvB 0 7], [], 0, [kvR 102, kvN 5, kvI 0, kvN 2, kvN 4, none], []), ([], none), ([kvB 0 1], [], kvI 1, ([], [])), kvW80)
noncomputable def kC916_0 : aC := (([kvB 0 7, kvB 0 4], [], 65, [kvR 102, kvN 5, kvI 0, kvN 2, kvN 4, kvI 1], []), ([], []), (4, [(-1, 1)]))
theorem ks916 : aseg kS krf kB [kE915] (ksp []) kE916 [kC916_0] 30000 (none) = true := asgqk (by decide +kernel)
theorem ks916_0 : aseg kS krf kB [kE915] (ksp []) kE916 [kC916_0] 30000 (some kC916_0) = true := asgqk (by decide +kernel)
theorem kok916 : aOK kS krf kB kE916 := aOK_of (kal1 kok915 kal0) (kcl1 ks916_0 kcl0) ks916
/-- ColdShodModel.goesBy(IIII)Z -/
noncomputable def kE917 : aE := (190, 50, ([kvB 0 7], [], 0, [kvR 102, kvN 5, kvI 0, kvN 1, kvN 4, none], []), ([], none), ([kvB 0 1], [], kvI 1, ([], [])), kvW81)
noncomputable def kC917_0 : aC := (([kvB 0 7, kvB 0 4], [], 65, [kvR 102, kvN 5, kvI 0, kvN 1, kvN 4, kvI 1], []), ([], []), (4, [(-1, 1)]))
theorem ks917 : aseg kS krf kB [kE916] (ksp []) kE917 [kC917_0] 30000 (none) = true := asgqk (by decide +kernel)
theorem ks917_0 : aseg kS krf kB [kE916] (ksp []) kE917 [kC917_0] 30000 (some kC917_0) = true := asgqk (by decide +kernel)
theorem kok917 : aOK kS krf kB kE917 := aOK_of (kal1 kok916 kal0) (kcl1 ks917_0 kcl0) ks917
/-- ColdShodModel.goesBy(IIII)Z -/
noncomputable def kE918 : aE := (190, 51, ([kvB 0 7], [], 0, [kvR 102, kvN 5, kvI 0, kvN 0, kvN 4, none], []), ([], none), ([kvB 0 1], [], kvI 1, ([], [])), kvW82)
noncomputable def kC918_0 : aC := (([kvB 0 7, kvB 0 4], [], 65, [kvR 102, kvN 5, kvI 0, kvN 0, kvN 4, kvI 1], []), ([], []), (4, [(-1, 1)]))
theorem ks918 : aseg kS krf kB [kE917] (ksp []) kE918 [kC918_0] 30000 (none) = true := asgqk (by decide +kernel)
theorem ks918_0 : aseg kS krf kB [kE917] (ksp []) kE918 [kC918_0] 30000 (some kC918_0) = true := asgqk (by decide +kernel)
theorem kok918 : aOK kS krf kB kE918 := aOK_of (kal1 kok917 kal0) (kcl1 ks918_0 kcl0) ks918
/-- ColdShodModel.goesBy(IIII)Z -/
noncomputable def kE919 : aE := (190, 47, ([kvB 0 7], [], 0, [kvR 102, kvN 5, kvI 0, kvN 3, kvN 3, none], []), ([], none), ([kvB 0 1], [], kvI 1, ([], [])), kvW78)
noncomputable def kC919_0 : aC := (([kvB 0 7, kvB 0 3], [], 14, [kvR 102, kvN 5, kvI 0, kvN 3, kvN 3, kvI 1], []), ([], []), (3, [(-1, 1)]))
theorem ks919 : aseg kS krf kB [kE43, kE94, kE913, kE219] (ksp []) kE919 [kC919_0] 30000 (none) = true := asgqk (by decide +kernel)
theorem ks919_0 : aseg kS krf kB [kE43, kE94, kE913, kE219] (ksp []) kE919 [kC919_0] 30000 (some kC919_0) = true := asgqk (by decide +kernel)
theorem kok919 : aOK kS krf kB kE919 := aOK_of (kal1 kok43 (kal1 kok94 (kal1 kok913 (kal1 kok219 kal0)))) (kcl1 ks919_0 kcl0) ks919
/-- ColdShodModel.goesBy(IIII)Z -/
noncomputable def kE920 : aE := (190, 48, ([kvB 0 7], [], 0, [kvR 102, kvN 5, kvI 0, kvN 2, kvN 3, none], []), ([], none), ([kvB 0 1], [], kvI 1, ([], [])), kvW83)
noncomputable def kC920_0 : aC := (([kvB 0 7, kvB 0 4], [], 65, [kvR 102, kvN 5, kvI 0, kvN 2, kvN 3, kvI 1], []), ([], []), (4, [(-1, 1)]))
theorem ks920 : aseg kS krf kB [kE919] (ksp []) kE920 [kC920_0] 30000 (none) = true := asgqk (by decide +kernel)
theorem ks920_0 : aseg kS krf kB [kE919] (ksp []) kE920 [kC920_0] 30000 (some kC920_0) = true := asgqk (by decide +kernel)
theorem kok920 : aOK kS krf kB kE920 := aOK_of (kal1 kok919 kal0) (kcl1 ks920_0 kcl0) ks920
/-- ColdShodModel.goesBy(IIII)Z -/
noncomputable def kE921 : aE := (190, 49, ([kvB 0 7], [], 0, [kvR 102, kvN 5, kvI 0, kvN 1, kvN 3, none], []), ([], none), ([kvB 0 1], [], kvI 1, ([], [])), kvW84)
noncomputable def kC921_0 : aC := (([kvB 0 7, kvB 0 4], [], 65, [kvR 102, kvN 5, kvI 0, kvN 1, kvN 3, kvI 1], []), ([], []), (4, [(-1, 1)]))
theorem ks921 : aseg kS krf kB [kE920] (ksp []) kE921 [kC921_0] 30000 (none) = true := asgqk (by decide +kernel)
theorem ks921_0 : aseg kS krf kB [kE920] (ksp []) kE921 [kC921_0] 30000 (some kC921_0) = true := asgqk (by decide +kernel)
theorem kok921 : aOK kS krf kB kE921 := aOK_of (kal1 kok920 kal0) (kcl1 ks921_0 kcl0) ks921
/-- ColdShodModel.goesBy(IIII)Z -/
noncomputable def kE922 : aE := (190, 50, ([kvB 0 7], [], 0, [kvR 102, kvN 5, kvI 0, kvN 0, kvN 3, none], []), ([], none), ([kvB 0 1], [], kvI 1, ([], [])), kvW85)
noncomputable def kC922_0 : aC := (([kvB 0 7, kvB 0 4], [], 65, [kvR 102, kvN 5, kvI 0, kvN 0, kvN 3, kvI 1], []), ([], []), (4, [(-1, 1)]))
theorem ks922 : aseg kS krf kB [kE921] (ksp []) kE922 [kC922_0] 30000 (none) = true := asgqk (by decide +kernel)
theorem ks922_0 : aseg kS krf kB [kE921] (ksp []) kE922 [kC922_0] 30000 (some kC922_0) = true := asgqk (by decide +kernel)
theorem kok922 : aOK kS krf kB kE922 := aOK_of (kal1 kok921 kal0) (kcl1 ks922_0 kcl0) ks922
/-- ColdShodModel.goesBy(IIII)Z -/
noncomputable def kE923 : aE := (190, 47, ([kvB 0 7], [], 0, [kvR 102, kvN 5, kvI 0, kvN 2, kvN 2, none], []), ([], none), ([kvB 0 1], [], kvI 1, ([], [])), kvW78)
noncomputable def kC923_0 : aC := (([kvB 0 7, kvB 0 2], [], 14, [kvR 102, kvN 5, kvI 0, kvN 2, kvN 2, kvI 1], []), ([], []), (2, [(-1, 1)]))
theorem ks923 : aseg kS krf kB [kE43, kE94, kE913, kE219] (ksp []) kE923 [kC923_0] 30000 (none) = true := asgqk (by decide +kernel)
theorem ks923_0 : aseg kS krf kB [kE43, kE94, kE913, kE219] (ksp []) kE923 [kC923_0] 30000 (some kC923_0) = true := asgqk (by decide +kernel)
theorem kok923 : aOK kS krf kB kE923 := aOK_of (kal1 kok43 (kal1 kok94 (kal1 kok913 (kal1 kok219 kal0)))) (kcl1 ks923_0 kcl0) ks923
/-- ColdShodModel.goesBy(IIII)Z -/
noncomputable def kE924 : aE := (190, 48, ([kvB 0 7], [], 0, [kvR 102, kvN 5, kvI 0, kvN 1, kvN 2, none], []), ([], none), ([kvB 0 1], [], kvI 1, ([], [])), kvW86)
noncomputable def kC924_0 : aC := (([kvB 0 7, kvB 0 4], [], 65, [kvR 102, kvN 5, kvI 0, kvN 1, kvN 2, kvI 1], []), ([], []), (4, [(-1, 1)]))
theorem ks924 : aseg kS krf kB [kE923] (ksp []) kE924 [kC924_0] 30000 (none) = true := asgqk (by decide +kernel)
theorem ks924_0 : aseg kS krf kB [kE923] (ksp []) kE924 [kC924_0] 30000 (some kC924_0) = true := asgqk (by decide +kernel)
theorem kok924 : aOK kS krf kB kE924 := aOK_of (kal1 kok923 kal0) (kcl1 ks924_0 kcl0) ks924
/-- ColdShodModel.goesBy(IIII)Z -/
noncomputable def kE925 : aE := (190, 49, ([kvB 0 7], [], 0, [kvR 102, kvN 5, kvI 0, kvN 0, kvN 2, none], []), ([], none), ([kvB 0 1], [], kvI 1, ([], [])), kvW87)
noncomputable def kC925_0 : aC := (([kvB 0 7, kvB 0 4], [], 65, [kvR 102, kvN 5, kvI 0, kvN 0, kvN 2, kvI 1], []), ([], []), (4, [(-1, 1)]))
theorem ks925 : aseg kS krf kB [kE924] (ksp []) kE925 [kC925_0] 30000 (none) = true := asgqk (by decide +kernel)
theorem ks925_0 : aseg kS krf kB [kE924] (ksp []) kE925 [kC925_0] 30000 (some kC925_0) = true := asgqk (by decide +kernel)
theorem kok925 : aOK kS krf kB kE925 := aOK_of (kal1 kok924 kal0) (kcl1 ks925_0 kcl0) ks925
/-- ColdShodModel.goesBy(IIII)Z -/
noncomputable def kE926 : aE := (190, 47, ([kvB 0 7], [], 0, [kvR 102, kvN 5, kvI 0, kvN 1, kvN 1, none], []), ([], none), ([kvB 0 1], [], kvI 1, ([], [])), kvW78)
noncomputable def kC926_0 : aC := (([kvB 0 7, kvB 0 1], [], 14, [kvR 102, kvN 5, kvI 0, kvN 1, kvN 1, kvI 1], []), ([], []), (1, [(-1, 1)]))
theorem ks926 : aseg kS krf kB [kE43, kE94, kE913, kE219] (ksp []) kE926 [kC926_0] 30000 (none) = true := asgqk (by decide +kernel)
theorem ks926_0 : aseg kS krf kB [kE43, kE94, kE913, kE219] (ksp []) kE926 [kC926_0] 30000 (some kC926_0) = true := asgqk (by decide +kernel)
theorem kok926 : aOK kS krf kB kE926 := aOK_of (kal1 kok43 (kal1 kok94 (kal1 kok913 (kal1 kok219 kal0)))) (kcl1 ks926_0 kcl0) ks926
/-- ColdShodModel.goesBy(IIII)Z -/
noncomputable def kE927 : aE := (190, 48, ([kvB 0 7], [], 0, [kvR 102, kvN 5, kvI 0, kvN 0, kvN 1, none], []), ([], none), ([kvB 0 1], [], kvI 1, ([], [])), kvW88)
noncomputable def kC927_0 : aC := (([kvB 0 7, kvB 0 4], [], 65, [kvR 102, kvN 5, kvI 0, kvN 0, kvN 1, kvI 1], []), ([], []), (4, [(-1, 1)]))
theorem ks927 : aseg kS krf kB [kE926] (ksp []) kE927 [kC927_0] 30000 (none) = true := asgqk (by decide +kernel)
theorem ks927_0 : aseg kS krf kB [kE926] (ksp []) kE927 [kC927_0] 30000 (some kC927_0) = true := asgqk (by decide +kernel)
theorem kok927 : aOK kS krf kB kE927 := aOK_of (kal1 kok926 kal0) (kcl1 ks927_0 kcl0) ks927
/-- ColdShodModel.goesBy(IIII)Z -/
noncomputable def kE928 : aE := (190, 47, ([kvB 0 7], [], 0, [kvR 102, kvN 5, kvI 0, kvN 0, kvN 0, none], []), ([], none), ([kvB 0 1], [], kvI 1, ([], [])), kvW78)
noncomputable def kC928_0 : aC := (([kvB 0 7], [], 14, [kvR 102, kvN 5, kvI 0, kvN 0, kvN 0, kvN 0], []), ([], []), (0, []))
theorem ks928 : aseg kS krf kB [kE43, kE913, kE219] (ksp []) kE928 [kC928_0] 30000 (none) = true := asgqk (by decide +kernel)
theorem ks928_0 : aseg kS krf kB [kE43, kE913, kE219] (ksp []) kE928 [kC928_0] 30000 (some kC928_0) = true := asgqk (by decide +kernel)
theorem kok928 : aOK kS krf kB kE928 := aOK_of (kal1 kok43 (kal1 kok913 (kal1 kok219 kal0))) (kcl1 ks928_0 kcl0) ks928
/-- ColdShodModel.goesJourney(I)V -/
noncomputable def kE929 : aE := (188, 46, ([], [], 0, [kvR 102, kvN 4, none], []), ([], none), ([], [], none, ([], [])), kvW77)
noncomputable def kC929_0 : aC := (([kvB 0 1, kvB 0 20], [(102, 25, .inl (1, .ofNat 0))], 12, [kvR 102, kvN 4, kvI 0], []), ([], []), (20, [(23, 0), (-1, 1)]))
theorem ks929 : aseg kS krf kB [kE226, kE89] (ksp []) kE929 [kC929_0] 30000 (none) = true := asgqk (by decide +kernel)
theorem ks929_0 : aseg kS krf kB [kE226, kE89] (ksp []) kE929 [kC929_0] 30000 (some kC929_0) = true := asgqk (by decide +kernel)
theorem kok929 : aOK kS krf kB kE929 := aOK_of (kal1 kok226 (kal1 kok89 kal0)) (kcl1 ks929_0 kcl0) ks929
/-- ColdShodModel.goesBy(IIII)Z -/
noncomputable def kE930 : aE := (190, 47, ([kvB 0 7], [], 0, [kvR 102, kvN 4, kvI 0, kvN 4, kvN 4, none], []), ([], none), ([kvB 0 1], [], kvI 1, ([], [])), kvW78)
noncomputable def kC930_0 : aC := (([kvB 0 7, kvB 0 4], [], 14, [kvR 102, kvN 4, kvI 0, kvN 4, kvN 4, kvI 1], []), ([], []), (4, [(-1, 1)]))
theorem ks930 : aseg kS krf kB [kE43, kE94, kE929, kE226] (ksp []) kE930 [kC930_0] 30000 (none) = true := asgqk (by decide +kernel)
theorem ks930_0 : aseg kS krf kB [kE43, kE94, kE929, kE226] (ksp []) kE930 [kC930_0] 30000 (some kC930_0) = true := asgqk (by decide +kernel)
theorem kok930 : aOK kS krf kB kE930 := aOK_of (kal1 kok43 (kal1 kok94 (kal1 kok929 (kal1 kok226 kal0)))) (kcl1 ks930_0 kcl0) ks930
/-- ColdShodModel.goesBy(IIII)Z -/
noncomputable def kE931 : aE := (190, 48, ([kvB 0 7], [], 0, [kvR 102, kvN 4, kvI 0, kvN 3, kvN 4, none], []), ([], none), ([kvB 0 1], [], kvI 1, ([], [])), kvW79)
noncomputable def kC931_0 : aC := (([kvB 0 7, kvB 0 4], [], 65, [kvR 102, kvN 4, kvI 0, kvN 3, kvN 4, kvI 1], []), ([], []), (4, [(-1, 1)]))
theorem ks931 : aseg kS krf kB [kE930] (ksp []) kE931 [kC931_0] 30000 (none) = true := asgqk (by decide +kernel)
theorem ks931_0 : aseg kS krf kB [kE930] (ksp []) kE931 [kC931_0] 30000 (some kC931_0) = true := asgqk (by decide +kernel)
theorem kok931 : aOK kS krf kB kE931 := aOK_of (kal1 kok930 kal0) (kcl1 ks931_0 kcl0) ks931
/-- ColdShodModel.goesBy(IIII)Z -/
noncomputable def kE932 : aE := (190, 49, ([kvB 0 7], [], 0, [kvR 102, kvN 4, kvI 0, kvN 2, kvN 4, none], []), ([], none), ([kvB 0 1], [], kvI 1, ([], [])), kvW80)
noncomputable def kC932_0 : aC := (([kvB 0 7, kvB 0 4], [], 65, [kvR 102, kvN 4, kvI 0, kvN 2, kvN 4, kvI 1], []), ([], []), (4, [(-1, 1)]))
theorem ks932 : aseg kS krf kB [kE931] (ksp []) kE932 [kC932_0] 30000 (none) = true := asgqk (by decide +kernel)
theorem ks932_0 : aseg kS krf kB [kE931] (ksp []) kE932 [kC932_0] 30000 (some kC932_0) = true := asgqk (by decide +kernel)
theorem kok932 : aOK kS krf kB kE932 := aOK_of (kal1 kok931 kal0) (kcl1 ks932_0 kcl0) ks932
/-- ColdShodModel.goesBy(IIII)Z -/
noncomputable def kE933 : aE := (190, 50, ([kvB 0 7], [], 0, [kvR 102, kvN 4, kvI 0, kvN 1, kvN 4, none], []), ([], none), ([kvB 0 1], [], kvI 1, ([], [])), kvW81)
noncomputable def kC933_0 : aC := (([kvB 0 7, kvB 0 4], [], 65, [kvR 102, kvN 4, kvI 0, kvN 1, kvN 4, kvI 1], []), ([], []), (4, [(-1, 1)]))
theorem ks933 : aseg kS krf kB [kE932] (ksp []) kE933 [kC933_0] 30000 (none) = true := asgqk (by decide +kernel)
theorem ks933_0 : aseg kS krf kB [kE932] (ksp []) kE933 [kC933_0] 30000 (some kC933_0) = true := asgqk (by decide +kernel)
theorem kok933 : aOK kS krf kB kE933 := aOK_of (kal1 kok932 kal0) (kcl1 ks933_0 kcl0) ks933
/-- ColdShodModel.goesBy(IIII)Z -/
noncomputable def kE934 : aE := (190, 51, ([kvB 0 7], [], 0, [kvR 102, kvN 4, kvI 0, kvN 0, kvN 4, none], []), ([], none), ([kvB 0 1], [], kvI 1, ([], [])), kvW82)
noncomputable def kC934_0 : aC := (([kvB 0 7, kvB 0 4], [], 65, [kvR 102, kvN 4, kvI 0, kvN 0, kvN 4, kvI 1], []), ([], []), (4, [(-1, 1)]))
theorem ks934 : aseg kS krf kB [kE933] (ksp []) kE934 [kC934_0] 30000 (none) = true := asgqk (by decide +kernel)
theorem ks934_0 : aseg kS krf kB [kE933] (ksp []) kE934 [kC934_0] 30000 (some kC934_0) = true := asgqk (by decide +kernel)
theorem kok934 : aOK kS krf kB kE934 := aOK_of (kal1 kok933 kal0) (kcl1 ks934_0 kcl0) ks934
/-- ColdShodModel.goesBy(IIII)Z -/
noncomputable def kE935 : aE := (190, 47, ([kvB 0 7], [], 0, [kvR 102, kvN 4, kvI 0, kvN 3, kvN 3, none], []), ([], none), ([kvB 0 1], [], kvI 1, ([], [])), kvW78)
noncomputable def kC935_0 : aC := (([kvB 0 7, kvB 0 3], [], 14, [kvR 102, kvN 4, kvI 0, kvN 3, kvN 3, kvI 1], []), ([], []), (3, [(-1, 1)]))
theorem ks935 : aseg kS krf kB [kE43, kE94, kE929, kE226] (ksp []) kE935 [kC935_0] 30000 (none) = true := asgqk (by decide +kernel)
theorem ks935_0 : aseg kS krf kB [kE43, kE94, kE929, kE226] (ksp []) kE935 [kC935_0] 30000 (some kC935_0) = true := asgqk (by decide +kernel)
theorem kok935 : aOK kS krf kB kE935 := aOK_of (kal1 kok43 (kal1 kok94 (kal1 kok929 (kal1 kok226 kal0)))) (kcl1 ks935_0 kcl0) ks935
/-- ColdShodModel.goesBy(IIII)Z -/
noncomputable def kE936 : aE := (190, 48, ([kvB 0 7], [], 0, [kvR 102, kvN 4, kvI 0, kvN 2, kvN 3, none], []), ([], none), ([kvB 0 1], [], kvI 1, ([], [])), kvW83)
noncomputable def kC936_0 : aC := (([kvB 0 7, kvB 0 4], [], 65, [kvR 102, kvN 4, kvI 0, kvN 2, kvN 3, kvI 1], []), ([], []), (4, [(-1, 1)]))
theorem ks936 : aseg kS krf kB [kE935] (ksp []) kE936 [kC936_0] 30000 (none) = true := asgqk (by decide +kernel)
theorem ks936_0 : aseg kS krf kB [kE935] (ksp []) kE936 [kC936_0] 30000 (some kC936_0) = true := asgqk (by decide +kernel)
theorem kok936 : aOK kS krf kB kE936 := aOK_of (kal1 kok935 kal0) (kcl1 ks936_0 kcl0) ks936
/-- ColdShodModel.goesBy(IIII)Z -/
noncomputable def kE937 : aE := (190, 49, ([kvB 0 7], [], 0, [kvR 102, kvN 4, kvI 0, kvN 1, kvN 3, none], []), ([], none), ([kvB 0 1], [], kvI 1, ([], [])), kvW84)
noncomputable def kC937_0 : aC := (([kvB 0 7, kvB 0 4], [], 65, [kvR 102, kvN 4, kvI 0, kvN 1, kvN 3, kvI 1], []), ([], []), (4, [(-1, 1)]))
theorem ks937 : aseg kS krf kB [kE936] (ksp []) kE937 [kC937_0] 30000 (none) = true := asgqk (by decide +kernel)
theorem ks937_0 : aseg kS krf kB [kE936] (ksp []) kE937 [kC937_0] 30000 (some kC937_0) = true := asgqk (by decide +kernel)
theorem kok937 : aOK kS krf kB kE937 := aOK_of (kal1 kok936 kal0) (kcl1 ks937_0 kcl0) ks937
/-- ColdShodModel.goesBy(IIII)Z -/
noncomputable def kE938 : aE := (190, 50, ([kvB 0 7], [], 0, [kvR 102, kvN 4, kvI 0, kvN 0, kvN 3, none], []), ([], none), ([kvB 0 1], [], kvI 1, ([], [])), kvW85)
noncomputable def kC938_0 : aC := (([kvB 0 7, kvB 0 4], [], 65, [kvR 102, kvN 4, kvI 0, kvN 0, kvN 3, kvI 1], []), ([], []), (4, [(-1, 1)]))
theorem ks938 : aseg kS krf kB [kE937] (ksp []) kE938 [kC938_0] 30000 (none) = true := asgqk (by decide +kernel)
theorem ks938_0 : aseg kS krf kB [kE937] (ksp []) kE938 [kC938_0] 30000 (some kC938_0) = true := asgqk (by decide +kernel)
theorem kok938 : aOK kS krf kB kE938 := aOK_of (kal1 kok937 kal0) (kcl1 ks938_0 kcl0) ks938
/-- ColdShodModel.goesBy(IIII)Z -/
noncomputable def kE939 : aE := (190, 47, ([kvB 0 7], [], 0, [kvR 102, kvN 4, kvI 0, kvN 2, kvN 2, none], []), ([], none), ([kvB 0 1], [], kvI 1, ([], [])), kvW78)
noncomputable def kC939_0 : aC := (([kvB 0 7, kvB 0 2], [], 14, [kvR 102, kvN 4, kvI 0, kvN 2, kvN 2, kvI 1], []), ([], []), (2, [(-1, 1)]))
theorem ks939 : aseg kS krf kB [kE43, kE94, kE929, kE226] (ksp []) kE939 [kC939_0] 30000 (none) = true := asgqk (by decide +kernel)
theorem ks939_0 : aseg kS krf kB [kE43, kE94, kE929, kE226] (ksp []) kE939 [kC939_0] 30000 (some kC939_0) = true := asgqk (by decide +kernel)
theorem kok939 : aOK kS krf kB kE939 := aOK_of (kal1 kok43 (kal1 kok94 (kal1 kok929 (kal1 kok226 kal0)))) (kcl1 ks939_0 kcl0) ks939
/-- ColdShodModel.goesBy(IIII)Z -/
noncomputable def kE940 : aE := (190, 48, ([kvB 0 7], [], 0, [kvR 102, kvN 4, kvI 0, kvN 1, kvN 2, none], []), ([], none), ([kvB 0 1], [], kvI 1, ([], [])), kvW86)
noncomputable def kC940_0 : aC := (([kvB 0 7, kvB 0 4], [], 65, [kvR 102, kvN 4, kvI 0, kvN 1, kvN 2, kvI 1], []), ([], []), (4, [(-1, 1)]))
theorem ks940 : aseg kS krf kB [kE939] (ksp []) kE940 [kC940_0] 30000 (none) = true := asgqk (by decide +kernel)
theorem ks940_0 : aseg kS krf kB [kE939] (ksp []) kE940 [kC940_0] 30000 (some kC940_0) = true := asgqk (by decide +kernel)
theorem kok940 : aOK kS krf kB kE940 := aOK_of (kal1 kok939 kal0) (kcl1 ks940_0 kcl0) ks940
/-- ColdShodModel.goesBy(IIII)Z -/
noncomputable def kE941 : aE := (190, 49, ([kvB 0 7], [], 0, [kvR 102, kvN 4, kvI 0, kvN 0, kvN 2, none], []), ([], none), ([kvB 0 1], [], kvI 1, ([], [])), kvW87)
noncomputable def kC941_0 : aC := (([kvB 0 7, kvB 0 4], [], 65, [kvR 102, kvN 4, kvI 0, kvN 0, kvN 2, kvI 1], []), ([], []), (4, [(-1, 1)]))
theorem ks941 : aseg kS krf kB [kE940] (ksp []) kE941 [kC941_0] 30000 (none) = true := asgqk (by decide +kernel)
theorem ks941_0 : aseg kS krf kB [kE940] (ksp []) kE941 [kC941_0] 30000 (some kC941_0) = true := asgqk (by decide +kernel)
theorem kok941 : aOK kS krf kB kE941 := aOK_of (kal1 kok940 kal0) (kcl1 ks941_0 kcl0) ks941
/-- ColdShodModel.goesBy(IIII)Z -/
noncomputable def kE942 : aE := (190, 47, ([kvB 0 7], [], 0, [kvR 102, kvN 4, kvI 0, kvN 1, kvN 1, none], []), ([], none), ([kvB 0 1], [], kvI 1, ([], [])), kvW78)
noncomputable def kC942_0 : aC := (([kvB 0 7, kvB 0 1], [], 14, [kvR 102, kvN 4, kvI 0, kvN 1, kvN 1, kvI 1], []), ([], []), (1, [(-1, 1)]))
theorem ks942 : aseg kS krf kB [kE43, kE94, kE929, kE226] (ksp []) kE942 [kC942_0] 30000 (none) = true := asgqk (by decide +kernel)
theorem ks942_0 : aseg kS krf kB [kE43, kE94, kE929, kE226] (ksp []) kE942 [kC942_0] 30000 (some kC942_0) = true := asgqk (by decide +kernel)
theorem kok942 : aOK kS krf kB kE942 := aOK_of (kal1 kok43 (kal1 kok94 (kal1 kok929 (kal1 kok226 kal0)))) (kcl1 ks942_0 kcl0) ks942
/-- ColdShodModel.goesBy(IIII)Z -/
noncomputable def kE943 : aE := (190, 48, ([kvB 0 7], [], 0, [kvR 102, kvN 4, kvI 0, kvN 0, kvN 1, none], []), ([], none), ([kvB 0 1], [], kvI 1, ([], [])), kvW88)
noncomputable def kC943_0 : aC := (([kvB 0 7, kvB 0 4], [], 65, [kvR 102, kvN 4, kvI 0, kvN 0, kvN 1, kvI 1], []), ([], []), (4, [(-1, 1)]))
theorem ks943 : aseg kS krf kB [kE942] (ksp []) kE943 [kC943_0] 30000 (none) = true := asgqk (by decide +kernel)
theorem ks943_0 : aseg kS krf kB [kE942] (ksp []) kE943 [kC943_0] 30000 (some kC943_0) = true := asgqk (by decide +kernel)
theorem kok943 : aOK kS krf kB kE943 := aOK_of (kal1 kok942 kal0) (kcl1 ks943_0 kcl0) ks943
/-- ColdShodModel.goesBy(IIII)Z -/
noncomputable def kE944 : aE := (190, 47, ([kvB 0 7], [], 0, [kvR 102, kvN 4, kvI 0, kvN 0, kvN 0, none], []), ([], none), ([kvB 0 1], [], kvI 1, ([], [])), kvW78)
noncomputable def kC944_0 : aC := (([kvB 0 7], [], 14, [kvR 102, kvN 4, kvI 0, kvN 0, kvN 0, kvN 0], []), ([], []), (0, []))
theorem ks944 : aseg kS krf kB [kE43, kE929, kE226] (ksp []) kE944 [kC944_0] 30000 (none) = true := asgqk (by decide +kernel)
theorem ks944_0 : aseg kS krf kB [kE43, kE929, kE226] (ksp []) kE944 [kC944_0] 30000 (some kC944_0) = true := asgqk (by decide +kernel)
theorem kok944 : aOK kS krf kB kE944 := aOK_of (kal1 kok43 (kal1 kok929 (kal1 kok226 kal0))) (kcl1 ks944_0 kcl0) ks944
/-- ColdShodModel.goesJourney(I)V -/
noncomputable def kE945 : aE := (188, 46, ([], [], 0, [kvR 102, kvN 3, none], []), ([], none), ([], [], none, ([], [])), kvW77)
noncomputable def kC945_0 : aC := (([kvB 0 1, kvB 0 20], [(102, 25, .inl (1, .ofNat 0))], 12, [kvR 102, kvN 3, kvI 0], []), ([], []), (20, [(23, 0), (-1, 1)]))
theorem ks945 : aseg kS krf kB [kE233, kE89] (ksp []) kE945 [kC945_0] 30000 (none) = true := asgqk (by decide +kernel)
theorem ks945_0 : aseg kS krf kB [kE233, kE89] (ksp []) kE945 [kC945_0] 30000 (some kC945_0) = true := asgqk (by decide +kernel)
theorem kok945 : aOK kS krf kB kE945 := aOK_of (kal1 kok233 (kal1 kok89 kal0)) (kcl1 ks945_0 kcl0) ks945
/-- ColdShodModel.goesBy(IIII)Z -/
noncomputable def kE946 : aE := (190, 47, ([kvB 0 7], [], 0, [kvR 102, kvN 3, kvI 0, kvN 4, kvN 4, none], []), ([], none), ([kvB 0 1], [], kvI 1, ([], [])), kvW78)
noncomputable def kC946_0 : aC := (([kvB 0 7, kvB 0 4], [], 14, [kvR 102, kvN 3, kvI 0, kvN 4, kvN 4, kvI 1], []), ([], []), (4, [(-1, 1)]))
theorem ks946 : aseg kS krf kB [kE43, kE94, kE945, kE233] (ksp []) kE946 [kC946_0] 30000 (none) = true := asgqk (by decide +kernel)
theorem ks946_0 : aseg kS krf kB [kE43, kE94, kE945, kE233] (ksp []) kE946 [kC946_0] 30000 (some kC946_0) = true := asgqk (by decide +kernel)
theorem kok946 : aOK kS krf kB kE946 := aOK_of (kal1 kok43 (kal1 kok94 (kal1 kok945 (kal1 kok233 kal0)))) (kcl1 ks946_0 kcl0) ks946
/-- ColdShodModel.goesBy(IIII)Z -/
noncomputable def kE947 : aE := (190, 48, ([kvB 0 7], [], 0, [kvR 102, kvN 3, kvI 0, kvN 3, kvN 4, none], []), ([], none), ([kvB 0 1], [], kvI 1, ([], [])), kvW79)
noncomputable def kC947_0 : aC := (([kvB 0 7, kvB 0 4], [], 65, [kvR 102, kvN 3, kvI 0, kvN 3, kvN 4, kvI 1], []), ([], []), (4, [(-1, 1)]))
theorem ks947 : aseg kS krf kB [kE946] (ksp []) kE947 [kC947_0] 30000 (none) = true := asgqk (by decide +kernel)
theorem ks947_0 : aseg kS krf kB [kE946] (ksp []) kE947 [kC947_0] 30000 (some kC947_0) = true := asgqk (by decide +kernel)
theorem kok947 : aOK kS krf kB kE947 := aOK_of (kal1 kok946 kal0) (kcl1 ks947_0 kcl0) ks947
/-- ColdShodModel.goesBy(IIII)Z -/
noncomputable def kE948 : aE := (190, 49, ([kvB 0 7], [], 0, [kvR 102, kvN 3, kvI 0, kvN 2, kvN 4, none], []), ([], none), ([kvB 0 1], [], kvI 1, ([], [])), kvW80)
noncomputable def kC948_0 : aC := (([kvB 0 7, kvB 0 4], [], 65, [kvR 102, kvN 3, kvI 0, kvN 2, kvN 4, kvI 1], []), ([], []), (4, [(-1, 1)]))
theorem ks948 : aseg kS krf kB [kE947] (ksp []) kE948 [kC948_0] 30000 (none) = true := asgqk (by decide +kernel)
theorem ks948_0 : aseg kS krf kB [kE947] (ksp []) kE948 [kC948_0] 30000 (some kC948_0) = true := asgqk (by decide +kernel)
theorem kok948 : aOK kS krf kB kE948 := aOK_of (kal1 kok947 kal0) (kcl1 ks948_0 kcl0) ks948
/-- ColdShodModel.goesBy(IIII)Z -/
noncomputable def kE949 : aE := (190, 50, ([kvB 0 7], [], 0, [kvR 102, kvN 3, kvI 0, kvN 1, kvN 4, none], []), ([], none), ([kvB 0 1], [], kvI 1, ([], [])), kvW81)
noncomputable def kC949_0 : aC := (([kvB 0 7, kvB 0 4], [], 65, [kvR 102, kvN 3, kvI 0, kvN 1, kvN 4, kvI 1], []), ([], []), (4, [(-1, 1)]))
theorem ks949 : aseg kS krf kB [kE948] (ksp []) kE949 [kC949_0] 30000 (none) = true := asgqk (by decide +kernel)
theorem ks949_0 : aseg kS krf kB [kE948] (ksp []) kE949 [kC949_0] 30000 (some kC949_0) = true := asgqk (by decide +kernel)
theorem kok949 : aOK kS krf kB kE949 := aOK_of (kal1 kok948 kal0) (kcl1 ks949_0 kcl0) ks949
/-- ColdShodModel.goesBy(IIII)Z -/
noncomputable def kE950 : aE := (190, 51, ([kvB 0 7], [], 0, [kvR 102, kvN 3, kvI 0, kvN 0, kvN 4, none], []), ([], none), ([kvB 0 1], [], kvI 1, ([], [])), kvW82)
noncomputable def kC950_0 : aC := (([kvB 0 7, kvB 0 4], [], 65, [kvR 102, kvN 3, kvI 0, kvN 0, kvN 4, kvI 1], []), ([], []), (4, [(-1, 1)]))
theorem ks950 : aseg kS krf kB [kE949] (ksp []) kE950 [kC950_0] 30000 (none) = true := asgqk (by decide +kernel)
theorem ks950_0 : aseg kS krf kB [kE949] (ksp []) kE950 [kC950_0] 30000 (some kC950_0) = true := asgqk (by decide +kernel)
theorem kok950 : aOK kS krf kB kE950 := aOK_of (kal1 kok949 kal0) (kcl1 ks950_0 kcl0) ks950
/-- ColdShodModel.goesBy(IIII)Z -/
noncomputable def kE951 : aE := (190, 47, ([kvB 0 7], [], 0, [kvR 102, kvN 3, kvI 0, kvN 3, kvN 3, none], []), ([], none), ([kvB 0 1], [], kvI 1, ([], [])), kvW78)
noncomputable def kC951_0 : aC := (([kvB 0 7, kvB 0 3], [], 14, [kvR 102, kvN 3, kvI 0, kvN 3, kvN 3, kvI 1], []), ([], []), (3, [(-1, 1)]))
theorem ks951 : aseg kS krf kB [kE43, kE94, kE945, kE233] (ksp []) kE951 [kC951_0] 30000 (none) = true := asgqk (by decide +kernel)
theorem ks951_0 : aseg kS krf kB [kE43, kE94, kE945, kE233] (ksp []) kE951 [kC951_0] 30000 (some kC951_0) = true := asgqk (by decide +kernel)
theorem kok951 : aOK kS krf kB kE951 := aOK_of (kal1 kok43 (kal1 kok94 (kal1 kok945 (kal1 kok233 kal0)))) (kcl1 ks951_0 kcl0) ks951
/-- ColdShodModel.goesBy(IIII)Z -/
noncomputable def kE952 : aE := (190, 48, ([kvB 0 7], [], 0, [kvR 102, kvN 3, kvI 0, kvN 2, kvN 3, none], []), ([], none), ([kvB 0 1], [], kvI 1, ([], [])), kvW83)
noncomputable def kC952_0 : aC := (([kvB 0 7, kvB 0 4], [], 65, [kvR 102, kvN 3, kvI 0, kvN 2, kvN 3, kvI 1], []), ([], []), (4, [(-1, 1)]))
theorem ks952 : aseg kS krf kB [kE951] (ksp []) kE952 [kC952_0] 30000 (none) = true := asgqk (by decide +kernel)
theorem ks952_0 : aseg kS krf kB [kE951] (ksp []) kE952 [kC952_0] 30000 (some kC952_0) = true := asgqk (by decide +kernel)
theorem kok952 : aOK kS krf kB kE952 := aOK_of (kal1 kok951 kal0) (kcl1 ks952_0 kcl0) ks952
/-- ColdShodModel.goesBy(IIII)Z -/
noncomputable def kE953 : aE := (190, 49, ([kvB 0 7], [], 0, [kvR 102, kvN 3, kvI 0, kvN 1, kvN 3, none], []), ([], none), ([kvB 0 1], [], kvI 1, ([], [])), kvW84)
noncomputable def kC953_0 : aC := (([kvB 0 7, kvB 0 4], [], 65, [kvR 102, kvN 3, kvI 0, kvN 1, kvN 3, kvI 1], []), ([], []), (4, [(-1, 1)]))
theorem ks953 : aseg kS krf kB [kE952] (ksp []) kE953 [kC953_0] 30000 (none) = true := asgqk (by decide +kernel)
theorem ks953_0 : aseg kS krf kB [kE952] (ksp []) kE953 [kC953_0] 30000 (some kC953_0) = true := asgqk (by decide +kernel)
theorem kok953 : aOK kS krf kB kE953 := aOK_of (kal1 kok952 kal0) (kcl1 ks953_0 kcl0) ks953
/-- ColdShodModel.goesBy(IIII)Z -/
noncomputable def kE954 : aE := (190, 50, ([kvB 0 7], [], 0, [kvR 102, kvN 3, kvI 0, kvN 0, kvN 3, none], []), ([], none), ([kvB 0 1], [], kvI 1, ([], [])), kvW85)
noncomputable def kC954_0 : aC := (([kvB 0 7, kvB 0 4], [], 65, [kvR 102, kvN 3, kvI 0, kvN 0, kvN 3, kvI 1], []), ([], []), (4, [(-1, 1)]))
theorem ks954 : aseg kS krf kB [kE953] (ksp []) kE954 [kC954_0] 30000 (none) = true := asgqk (by decide +kernel)
theorem ks954_0 : aseg kS krf kB [kE953] (ksp []) kE954 [kC954_0] 30000 (some kC954_0) = true := asgqk (by decide +kernel)
theorem kok954 : aOK kS krf kB kE954 := aOK_of (kal1 kok953 kal0) (kcl1 ks954_0 kcl0) ks954
/-- ColdShodModel.goesBy(IIII)Z -/
noncomputable def kE955 : aE := (190, 47, ([kvB 0 7], [], 0, [kvR 102, kvN 3, kvI 0, kvN 2, kvN 2, none], []), ([], none), ([kvB 0 1], [], kvI 1, ([], [])), kvW78)
noncomputable def kC955_0 : aC := (([kvB 0 7, kvB 0 2], [], 14, [kvR 102, kvN 3, kvI 0, kvN 2, kvN 2, kvI 1], []), ([], []), (2, [(-1, 1)]))
theorem ks955 : aseg kS krf kB [kE43, kE94, kE945, kE233] (ksp []) kE955 [kC955_0] 30000 (none) = true := asgqk (by decide +kernel)
theorem ks955_0 : aseg kS krf kB [kE43, kE94, kE945, kE233] (ksp []) kE955 [kC955_0] 30000 (some kC955_0) = true := asgqk (by decide +kernel)
theorem kok955 : aOK kS krf kB kE955 := aOK_of (kal1 kok43 (kal1 kok94 (kal1 kok945 (kal1 kok233 kal0)))) (kcl1 ks955_0 kcl0) ks955
/-- ColdShodModel.goesBy(IIII)Z -/
noncomputable def kE956 : aE := (190, 48, ([kvB 0 7], [], 0, [kvR 102, kvN 3, kvI 0, kvN 1, kvN 2, none], []), ([], none), ([kvB 0 1], [], kvI 1, ([], [])), kvW86)
noncomputable def kC956_0 : aC := (([kvB 0 7, kvB 0 4], [], 65, [kvR 102, kvN 3, kvI 0, kvN 1, kvN 2, kvI 1], []), ([], []), (4, [(-1, 1)]))
theorem ks956 : aseg kS krf kB [kE955] (ksp []) kE956 [kC956_0] 30000 (none) = true := asgqk (by decide +kernel)
theorem ks956_0 : aseg kS krf kB [kE955] (ksp []) kE956 [kC956_0] 30000 (some kC956_0) = true := asgqk (by decide +kernel)
theorem kok956 : aOK kS krf kB kE956 := aOK_of (kal1 kok955 kal0) (kcl1 ks956_0 kcl0) ks956
/-- ColdShodModel.goesBy(IIII)Z -/
noncomputable def kE957 : aE := (190, 49, ([kvB 0 7], [], 0, [kvR 102, kvN 3, kvI 0, kvN 0, kvN 2, none], []), ([], none), ([kvB 0 1], [], kvI 1, ([], [])), kvW87)
noncomputable def kC957_0 : aC := (([kvB 0 7, kvB 0 4], [], 65, [kvR 102, kvN 3, kvI 0, kvN 0, kvN 2, kvI 1], []), ([], []), (4, [(-1, 1)]))
theorem ks957 : aseg kS krf kB [kE956] (ksp []) kE957 [kC957_0] 30000 (none) = true := asgqk (by decide +kernel)
theorem ks957_0 : aseg kS krf kB [kE956] (ksp []) kE957 [kC957_0] 30000 (some kC957_0) = true := asgqk (by decide +kernel)
theorem kok957 : aOK kS krf kB kE957 := aOK_of (kal1 kok956 kal0) (kcl1 ks957_0 kcl0) ks957
/-- ColdShodModel.goesBy(IIII)Z -/
noncomputable def kE958 : aE := (190, 47, ([kvB 0 7], [], 0, [kvR 102, kvN 3, kvI 0, kvN 1, kvN 1, none], []), ([], none), ([kvB 0 1], [], kvI 1, ([], [])), kvW78)
noncomputable def kC958_0 : aC := (([kvB 0 7, kvB 0 1], [], 14, [kvR 102, kvN 3, kvI 0, kvN 1, kvN 1, kvI 1], []), ([], []), (1, [(-1, 1)]))
theorem ks958 : aseg kS krf kB [kE43, kE94, kE945, kE233] (ksp []) kE958 [kC958_0] 30000 (none) = true := asgqk (by decide +kernel)
theorem ks958_0 : aseg kS krf kB [kE43, kE94, kE945, kE233] (ksp []) kE958 [kC958_0] 30000 (some kC958_0) = true := asgqk (by decide +kernel)
theorem kok958 : aOK kS krf kB kE958 := aOK_of (kal1 kok43 (kal1 kok94 (kal1 kok945 (kal1 kok233 kal0)))) (kcl1 ks958_0 kcl0) ks958
/-- ColdShodModel.goesBy(IIII)Z -/
noncomputable def kE959 : aE := (190, 48, ([kvB 0 7], [], 0, [kvR 102, kvN 3, kvI 0, kvN 0, kvN 1, none], []), ([], none), ([kvB 0 1], [], kvI 1, ([], [])), kvW88)
noncomputable def kC959_0 : aC := (([kvB 0 7, kvB 0 4], [], 65, [kvR 102, kvN 3, kvI 0, kvN 0, kvN 1, kvI 1], []), ([], []), (4, [(-1, 1)]))
theorem ks959 : aseg kS krf kB [kE958] (ksp []) kE959 [kC959_0] 30000 (none) = true := asgqk (by decide +kernel)
theorem ks959_0 : aseg kS krf kB [kE958] (ksp []) kE959 [kC959_0] 30000 (some kC959_0) = true := asgqk (by decide +kernel)
theorem kok959 : aOK kS krf kB kE959 := aOK_of (kal1 kok958 kal0) (kcl1 ks959_0 kcl0) ks959
/-- ColdShodModel.goesBy(IIII)Z -/
noncomputable def kE960 : aE := (190, 47, ([kvB 0 7], [], 0, [kvR 102, kvN 3, kvI 0, kvN 0, kvN 0, none], []), ([], none), ([kvB 0 1], [], kvI 1, ([], [])), kvW78)
noncomputable def kC960_0 : aC := (([kvB 0 7], [], 14, [kvR 102, kvN 3, kvI 0, kvN 0, kvN 0, kvN 0], []), ([], []), (0, []))
theorem ks960 : aseg kS krf kB [kE43, kE945, kE233] (ksp []) kE960 [kC960_0] 30000 (none) = true := asgqk (by decide +kernel)
theorem ks960_0 : aseg kS krf kB [kE43, kE945, kE233] (ksp []) kE960 [kC960_0] 30000 (some kC960_0) = true := asgqk (by decide +kernel)
theorem kok960 : aOK kS krf kB kE960 := aOK_of (kal1 kok43 (kal1 kok945 (kal1 kok233 kal0))) (kcl1 ks960_0 kcl0) ks960
/-- ColdShodModel.goesJourney(I)V -/
noncomputable def kE961 : aE := (188, 46, ([], [], 0, [kvR 102, kvN 2, none], []), ([], none), ([], [], none, ([], [])), kvW77)
noncomputable def kC961_0 : aC := (([kvB 0 1, kvB 0 20], [(102, 25, .inl (1, .ofNat 0))], 12, [kvR 102, kvN 2, kvI 0], []), ([], []), (20, [(23, 0), (-1, 1)]))
theorem ks961 : aseg kS krf kB [kE240, kE89] (ksp []) kE961 [kC961_0] 30000 (none) = true := asgqk (by decide +kernel)
theorem ks961_0 : aseg kS krf kB [kE240, kE89] (ksp []) kE961 [kC961_0] 30000 (some kC961_0) = true := asgqk (by decide +kernel)
theorem kok961 : aOK kS krf kB kE961 := aOK_of (kal1 kok240 (kal1 kok89 kal0)) (kcl1 ks961_0 kcl0) ks961
/-- ColdShodModel.goesBy(IIII)Z -/
noncomputable def kE962 : aE := (190, 47, ([kvB 0 7], [], 0, [kvR 102, kvN 2, kvI 0, kvN 4, kvN 4, none], []), ([], none), ([kvB 0 1], [], kvI 1, ([], [])), kvW78)
noncomputable def kC962_0 : aC := (([kvB 0 7, kvB 0 4], [], 14, [kvR 102, kvN 2, kvI 0, kvN 4, kvN 4, kvI 1], []), ([], []), (4, [(-1, 1)]))
theorem ks962 : aseg kS krf kB [kE43, kE94, kE961, kE240] (ksp []) kE962 [kC962_0] 30000 (none) = true := asgqk (by decide +kernel)
theorem ks962_0 : aseg kS krf kB [kE43, kE94, kE961, kE240] (ksp []) kE962 [kC962_0] 30000 (some kC962_0) = true := asgqk (by decide +kernel)
theorem kok962 : aOK kS krf kB kE962 := aOK_of (kal1 kok43 (kal1 kok94 (kal1 kok961 (kal1 kok240 kal0)))) (kcl1 ks962_0 kcl0) ks962
/-- ColdShodModel.goesBy(IIII)Z -/
noncomputable def kE963 : aE := (190, 48, ([kvB 0 7], [], 0, [kvR 102, kvN 2, kvI 0, kvN 3, kvN 4, none], []), ([], none), ([kvB 0 1], [], kvI 1, ([], [])), kvW79)
noncomputable def kC963_0 : aC := (([kvB 0 7, kvB 0 4], [], 65, [kvR 102, kvN 2, kvI 0, kvN 3, kvN 4, kvI 1], []), ([], []), (4, [(-1, 1)]))
theorem ks963 : aseg kS krf kB [kE962] (ksp []) kE963 [kC963_0] 30000 (none) = true := asgqk (by decide +kernel)
theorem ks963_0 : aseg kS krf kB [kE962] (ksp []) kE963 [kC963_0] 30000 (some kC963_0) = true := asgqk (by decide +kernel)
theorem kok963 : aOK kS krf kB kE963 := aOK_of (kal1 kok962 kal0) (kcl1 ks963_0 kcl0) ks963
/-- ColdShodModel.goesBy(IIII)Z -/
noncomputable def kE964 : aE := (190, 49, ([kvB 0 7], [], 0, [kvR 102, kvN 2, kvI 0, kvN 2, kvN 4, none], []), ([], none), ([kvB 0 1], [], kvI 1, ([], [])), kvW80)
noncomputable def kC964_0 : aC := (([kvB 0 7, kvB 0 4], [], 65, [kvR 102, kvN 2, kvI 0, kvN 2, kvN 4, kvI 1], []), ([], []), (4, [(-1, 1)]))
theorem ks964 : aseg kS krf kB [kE963] (ksp []) kE964 [kC964_0] 30000 (none) = true := asgqk (by decide +kernel)
theorem ks964_0 : aseg kS krf kB [kE963] (ksp []) kE964 [kC964_0] 30000 (some kC964_0) = true := asgqk (by decide +kernel)
theorem kok964 : aOK kS krf kB kE964 := aOK_of (kal1 kok963 kal0) (kcl1 ks964_0 kcl0) ks964
/-- ColdShodModel.goesBy(IIII)Z -/
noncomputable def kE965 : aE := (190, 50, ([kvB 0 7], [], 0, [kvR 102, kvN 2, kvI 0, kvN 1, kvN 4, none], []), ([], none), ([kvB 0 1], [], kvI 1, ([], [])), kvW81)
noncomputable def kC965_0 : aC := (([kvB 0 7, kvB 0 4], [], 65, [kvR 102, kvN 2, kvI 0, kvN 1, kvN 4, kvI 1], []), ([], []), (4, [(-1, 1)]))
theorem ks965 : aseg kS krf kB [kE964] (ksp []) kE965 [kC965_0] 30000 (none) = true := asgqk (by decide +kernel)
theorem ks965_0 : aseg kS krf kB [kE964] (ksp []) kE965 [kC965_0] 30000 (some kC965_0) = true := asgqk (by decide +kernel)
theorem kok965 : aOK kS krf kB kE965 := aOK_of (kal1 kok964 kal0) (kcl1 ks965_0 kcl0) ks965
/-- ColdShodModel.goesBy(IIII)Z -/
noncomputable def kE966 : aE := (190, 51, ([kvB 0 7], [], 0, [kvR 102, kvN 2, kvI 0, kvN 0, kvN 4, none], []), ([], none), ([kvB 0 1], [], kvI 1, ([], [])), kvW82)
noncomputable def kC966_0 : aC := (([kvB 0 7, kvB 0 4], [], 65, [kvR 102, kvN 2, kvI 0, kvN 0, kvN 4, kvI 1], []), ([], []), (4, [(-1, 1)]))
theorem ks966 : aseg kS krf kB [kE965] (ksp []) kE966 [kC966_0] 30000 (none) = true := asgqk (by decide +kernel)
theorem ks966_0 : aseg kS krf kB [kE965] (ksp []) kE966 [kC966_0] 30000 (some kC966_0) = true := asgqk (by decide +kernel)
theorem kok966 : aOK kS krf kB kE966 := aOK_of (kal1 kok965 kal0) (kcl1 ks966_0 kcl0) ks966
/-- ColdShodModel.goesBy(IIII)Z -/
noncomputable def kE967 : aE := (190, 47, ([kvB 0 7], [], 0, [kvR 102, kvN 2, kvI 0, kvN 3, kvN 3, none], []), ([], none), ([kvB 0 1], [], kvI 1, ([], [])), kvW78)
noncomputable def kC967_0 : aC := (([kvB 0 7, kvB 0 3], [], 14, [kvR 102, kvN 2, kvI 0, kvN 3, kvN 3, kvI 1], []), ([], []), (3, [(-1, 1)]))
theorem ks967 : aseg kS krf kB [kE43, kE94, kE961, kE240] (ksp []) kE967 [kC967_0] 30000 (none) = true := asgqk (by decide +kernel)
theorem ks967_0 : aseg kS krf kB [kE43, kE94, kE961, kE240] (ksp []) kE967 [kC967_0] 30000 (some kC967_0) = true := asgqk (by decide +kernel)
theorem kok967 : aOK kS krf kB kE967 := aOK_of (kal1 kok43 (kal1 kok94 (kal1 kok961 (kal1 kok240 kal0)))) (kcl1 ks967_0 kcl0) ks967
/-- ColdShodModel.goesBy(IIII)Z -/
noncomputable def kE968 : aE := (190, 48, ([kvB 0 7], [], 0, [kvR 102, kvN 2, kvI 0, kvN 2, kvN 3, none], []), ([], none), ([kvB 0 1], [], kvI 1, ([], [])), kvW83)
noncomputable def kC968_0 : aC := (([kvB 0 7, kvB 0 4], [], 65, [kvR 102, kvN 2, kvI 0, kvN 2, kvN 3, kvI 1], []), ([], []), (4, [(-1, 1)]))
theorem ks968 : aseg kS krf kB [kE967] (ksp []) kE968 [kC968_0] 30000 (none) = true := asgqk (by decide +kernel)
theorem ks968_0 : aseg kS krf kB [kE967] (ksp []) kE968 [kC968_0] 30000 (some kC968_0) = true := asgqk (by decide +kernel)
theorem kok968 : aOK kS krf kB kE968 := aOK_of (kal1 kok967 kal0) (kcl1 ks968_0 kcl0) ks968
/-- ColdShodModel.goesBy(IIII)Z -/
noncomputable def kE969 : aE := (190, 49, ([kvB 0 7], [], 0, [kvR 102, kvN 2, kvI 0, kvN 1, kvN 3, none], []), ([], none), ([kvB 0 1], [], kvI 1, ([], [])), kvW84)
noncomputable def kC969_0 : aC := (([kvB 0 7, kvB 0 4], [], 65, [kvR 102, kvN 2, kvI 0, kvN 1, kvN 3, kvI 1], []), ([], []), (4, [(-1, 1)]))
theorem ks969 : aseg kS krf kB [kE968] (ksp []) kE969 [kC969_0] 30000 (none) = true := asgqk (by decide +kernel)
theorem ks969_0 : aseg kS krf kB [kE968] (ksp []) kE969 [kC969_0] 30000 (some kC969_0) = true := asgqk (by decide +kernel)
theorem kok969 : aOK kS krf kB kE969 := aOK_of (kal1 kok968 kal0) (kcl1 ks969_0 kcl0) ks969
/-- ColdShodModel.goesBy(IIII)Z -/
noncomputable def kE970 : aE := (190, 50, ([kvB 0 7], [], 0, [kvR 102, kvN 2, kvI 0, kvN 0, kvN 3, none], []), ([], none), ([kvB 0 1], [], kvI 1, ([], [])), kvW85)
noncomputable def kC970_0 : aC := (([kvB 0 7, kvB 0 4], [], 65, [kvR 102, kvN 2, kvI 0, kvN 0, kvN 3, kvI 1], []), ([], []), (4, [(-1, 1)]))
theorem ks970 : aseg kS krf kB [kE969] (ksp []) kE970 [kC970_0] 30000 (none) = true := asgqk (by decide +kernel)
theorem ks970_0 : aseg kS krf kB [kE969] (ksp []) kE970 [kC970_0] 30000 (some kC970_0) = true := asgqk (by decide +kernel)
theorem kok970 : aOK kS krf kB kE970 := aOK_of (kal1 kok969 kal0) (kcl1 ks970_0 kcl0) ks970
/-- ColdShodModel.goesBy(IIII)Z -/
noncomputable def kE971 : aE := (190, 47, ([kvB 0 7], [], 0, [kvR 102, kvN 2, kvI 0, kvN 2, kvN 2, none], []), ([], none), ([kvB 0 1], [], kvI 1, ([], [])), kvW78)
noncomputable def kC971_0 : aC := (([kvB 0 7, kvB 0 2], [], 14, [kvR 102, kvN 2, kvI 0, kvN 2, kvN 2, kvI 1], []), ([], []), (2, [(-1, 1)]))
theorem ks971 : aseg kS krf kB [kE43, kE94, kE961, kE240] (ksp []) kE971 [kC971_0] 30000 (none) = true := asgqk (by decide +kernel)
theorem ks971_0 : aseg kS krf kB [kE43, kE94, kE961, kE240] (ksp []) kE971 [kC971_0] 30000 (some kC971_0) = true := asgqk (by decide +kernel)
theorem kok971 : aOK kS krf kB kE971 := aOK_of (kal1 kok43 (kal1 kok94 (kal1 kok961 (kal1 kok240 kal0)))) (kcl1 ks971_0 kcl0) ks971
/-- ColdShodModel.goesBy(IIII)Z -/
noncomputable def kE972 : aE := (190, 48, ([kvB 0 7], [], 0, [kvR 102, kvN 2, kvI 0, kvN 1, kvN 2, none], []), ([], none), ([kvB 0 1], [], kvI 1, ([], [])), kvW86)
noncomputable def kC972_0 : aC := (([kvB 0 7, kvB 0 4], [], 65, [kvR 102, kvN 2, kvI 0, kvN 1, kvN 2, kvI 1], []), ([], []), (4, [(-1, 1)]))
theorem ks972 : aseg kS krf kB [kE971] (ksp []) kE972 [kC972_0] 30000 (none) = true := asgqk (by decide +kernel)
theorem ks972_0 : aseg kS krf kB [kE971] (ksp []) kE972 [kC972_0] 30000 (some kC972_0) = true := asgqk (by decide +kernel)
theorem kok972 : aOK kS krf kB kE972 := aOK_of (kal1 kok971 kal0) (kcl1 ks972_0 kcl0) ks972
/-- ColdShodModel.goesBy(IIII)Z -/
noncomputable def kE973 : aE := (190, 49, ([kvB 0 7], [], 0, [kvR 102, kvN 2, kvI 0, kvN 0, kvN 2, none], []), ([], none), ([kvB 0 1], [], kvI 1, ([], [])), kvW87)
noncomputable def kC973_0 : aC := (([kvB 0 7, kvB 0 4], [], 65, [kvR 102, kvN 2, kvI 0, kvN 0, kvN 2, kvI 1], []), ([], []), (4, [(-1, 1)]))
theorem ks973 : aseg kS krf kB [kE972] (ksp []) kE973 [kC973_0] 30000 (none) = true := asgqk (by decide +kernel)
theorem ks973_0 : aseg kS krf kB [kE972] (ksp []) kE973 [kC973_0] 30000 (some kC973_0) = true := asgqk (by decide +kernel)
theorem kok973 : aOK kS krf kB kE973 := aOK_of (kal1 kok972 kal0) (kcl1 ks973_0 kcl0) ks973
/-- ColdShodModel.goesBy(IIII)Z -/
noncomputable def kE974 : aE := (190, 47, ([kvB 0 7], [], 0, [kvR 102, kvN 2, kvI 0, kvN 1, kvN 1, none], []), ([], none), ([kvB 0 1], [], kvI 1, ([], [])), kvW78)
noncomputable def kC974_0 : aC := (([kvB 0 7, kvB 0 1], [], 14, [kvR 102, kvN 2, kvI 0, kvN 1, kvN 1, kvI 1], []), ([], []), (1, [(-1, 1)]))
theorem ks974 : aseg kS krf kB [kE43, kE94, kE961, kE240] (ksp []) kE974 [kC974_0] 30000 (none) = true := asgqk (by decide +kernel)
theorem ks974_0 : aseg kS krf kB [kE43, kE94, kE961, kE240] (ksp []) kE974 [kC974_0] 30000 (some kC974_0) = true := asgqk (by decide +kernel)
theorem kok974 : aOK kS krf kB kE974 := aOK_of (kal1 kok43 (kal1 kok94 (kal1 kok961 (kal1 kok240 kal0)))) (kcl1 ks974_0 kcl0) ks974
/-- ColdShodModel.goesBy(IIII)Z -/
noncomputable def kE975 : aE := (190, 48, ([kvB 0 7], [], 0, [kvR 102, kvN 2, kvI 0, kvN 0, kvN 1, none], []), ([], none), ([kvB 0 1], [], kvI 1, ([], [])), kvW88)
noncomputable def kC975_0 : aC := (([kvB 0 7, kvB 0 4], [], 65, [kvR 102, kvN 2, kvI 0, kvN 0, kvN 1, kvI 1], []), ([], []), (4, [(-1, 1)]))
theorem ks975 : aseg kS krf kB [kE974] (ksp []) kE975 [kC975_0] 30000 (none) = true := asgqk (by decide +kernel)
theorem ks975_0 : aseg kS krf kB [kE974] (ksp []) kE975 [kC975_0] 30000 (some kC975_0) = true := asgqk (by decide +kernel)
theorem kok975 : aOK kS krf kB kE975 := aOK_of (kal1 kok974 kal0) (kcl1 ks975_0 kcl0) ks975
/-- ColdShodModel.goesBy(IIII)Z -/
noncomputable def kE976 : aE := (190, 47, ([kvB 0 7], [], 0, [kvR 102, kvN 2, kvI 0, kvN 0, kvN 0, none], []), ([], none), ([kvB 0 1], [], kvI 1, ([], [])), kvW78)
noncomputable def kC976_0 : aC := (([kvB 0 7], [], 14, [kvR 102, kvN 2, kvI 0, kvN 0, kvN 0, kvN 0], []), ([], []), (0, []))
theorem ks976 : aseg kS krf kB [kE43, kE961, kE240] (ksp []) kE976 [kC976_0] 30000 (none) = true := asgqk (by decide +kernel)
theorem ks976_0 : aseg kS krf kB [kE43, kE961, kE240] (ksp []) kE976 [kC976_0] 30000 (some kC976_0) = true := asgqk (by decide +kernel)
theorem kok976 : aOK kS krf kB kE976 := aOK_of (kal1 kok43 (kal1 kok961 (kal1 kok240 kal0))) (kcl1 ks976_0 kcl0) ks976
/-- ColdShodModel.goesJourney(I)V -/
noncomputable def kE977 : aE := (188, 46, ([], [], 0, [kvR 102, kvN 1, none], []), ([], none), ([], [], none, ([], [])), kvW77)
noncomputable def kC977_0 : aC := (([kvB 0 1, kvB 0 20], [(102, 25, .inl (1, .ofNat 0))], 12, [kvR 102, kvN 1, kvI 0], []), ([], []), (20, [(23, 0), (-1, 1)]))
theorem ks977 : aseg kS krf kB [kE247, kE89] (ksp []) kE977 [kC977_0] 30000 (none) = true := asgqk (by decide +kernel)
theorem ks977_0 : aseg kS krf kB [kE247, kE89] (ksp []) kE977 [kC977_0] 30000 (some kC977_0) = true := asgqk (by decide +kernel)
theorem kok977 : aOK kS krf kB kE977 := aOK_of (kal1 kok247 (kal1 kok89 kal0)) (kcl1 ks977_0 kcl0) ks977
/-- ColdShodModel.goesBy(IIII)Z -/
noncomputable def kE978 : aE := (190, 47, ([kvB 0 7], [], 0, [kvR 102, kvN 1, kvI 0, kvN 4, kvN 4, none], []), ([], none), ([kvB 0 1], [], kvI 1, ([], [])), kvW78)
noncomputable def kC978_0 : aC := (([kvB 0 7, kvB 0 4], [], 14, [kvR 102, kvN 1, kvI 0, kvN 4, kvN 4, kvI 1], []), ([], []), (4, [(-1, 1)]))
theorem ks978 : aseg kS krf kB [kE43, kE94, kE977, kE247] (ksp []) kE978 [kC978_0] 30000 (none) = true := asgqk (by decide +kernel)
theorem ks978_0 : aseg kS krf kB [kE43, kE94, kE977, kE247] (ksp []) kE978 [kC978_0] 30000 (some kC978_0) = true := asgqk (by decide +kernel)
theorem kok978 : aOK kS krf kB kE978 := aOK_of (kal1 kok43 (kal1 kok94 (kal1 kok977 (kal1 kok247 kal0)))) (kcl1 ks978_0 kcl0) ks978
/-- ColdShodModel.goesBy(IIII)Z -/
noncomputable def kE979 : aE := (190, 48, ([kvB 0 7], [], 0, [kvR 102, kvN 1, kvI 0, kvN 3, kvN 4, none], []), ([], none), ([kvB 0 1], [], kvI 1, ([], [])), kvW79)
noncomputable def kC979_0 : aC := (([kvB 0 7, kvB 0 4], [], 65, [kvR 102, kvN 1, kvI 0, kvN 3, kvN 4, kvI 1], []), ([], []), (4, [(-1, 1)]))
theorem ks979 : aseg kS krf kB [kE978] (ksp []) kE979 [kC979_0] 30000 (none) = true := asgqk (by decide +kernel)
theorem ks979_0 : aseg kS krf kB [kE978] (ksp []) kE979 [kC979_0] 30000 (some kC979_0) = true := asgqk (by decide +kernel)
theorem kok979 : aOK kS krf kB kE979 := aOK_of (kal1 kok978 kal0) (kcl1 ks979_0 kcl0) ks979
/-- ColdShodModel.goesBy(IIII)Z -/
noncomputable def kE980 : aE := (190, 49, ([kvB 0 7], [], 0, [kvR 102, kvN 1, kvI 0, kvN 2, kvN 4, none], []), ([], none), ([kvB 0 1], [], kvI 1, ([], [])), kvW80)
noncomputable def kC980_0 : aC := (([kvB 0 7, kvB 0 4], [], 65, [kvR 102, kvN 1, kvI 0, kvN 2, kvN 4, kvI 1], []), ([], []), (4, [(-1, 1)]))
theorem ks980 : aseg kS krf kB [kE979] (ksp []) kE980 [kC980_0] 30000 (none) = true := asgqk (by decide +kernel)
theorem ks980_0 : aseg kS krf kB [kE979] (ksp []) kE980 [kC980_0] 30000 (some kC980_0) = true := asgqk (by decide +kernel)
theorem kok980 : aOK kS krf kB kE980 := aOK_of (kal1 kok979 kal0) (kcl1 ks980_0 kcl0) ks980
/-- ColdShodModel.goesBy(IIII)Z -/
noncomputable def kE981 : aE := (190, 50, ([kvB 0 7], [], 0, [kvR 102, kvN 1, kvI 0, kvN 1, kvN 4, none], []), ([], none), ([kvB 0 1], [], kvI 1, ([], [])), kvW81)
noncomputable def kC981_0 : aC := (([kvB 0 7, kvB 0 4], [], 65, [kvR 102, kvN 1, kvI 0, kvN 1, kvN 4, kvI 1], []), ([], []), (4, [(-1, 1)]))
theorem ks981 : aseg kS krf kB [kE980] (ksp []) kE981 [kC981_0] 30000 (none) = true := asgqk (by decide +kernel)
theorem ks981_0 : aseg kS krf kB [kE980] (ksp []) kE981 [kC981_0] 30000 (some kC981_0) = true := asgqk (by decide +kernel)
theorem kok981 : aOK kS krf kB kE981 := aOK_of (kal1 kok980 kal0) (kcl1 ks981_0 kcl0) ks981
/-- ColdShodModel.goesBy(IIII)Z -/
noncomputable def kE982 : aE := (190, 51, ([kvB 0 7], [], 0, [kvR 102, kvN 1, kvI 0, kvN 0, kvN 4, none], []), ([], none), ([kvB 0 1], [], kvI 1, ([], [])), kvW82)
noncomputable def kC982_0 : aC := (([kvB 0 7, kvB 0 4], [], 65, [kvR 102, kvN 1, kvI 0, kvN 0, kvN 4, kvI 1], []), ([], []), (4, [(-1, 1)]))
theorem ks982 : aseg kS krf kB [kE981] (ksp []) kE982 [kC982_0] 30000 (none) = true := asgqk (by decide +kernel)
theorem ks982_0 : aseg kS krf kB [kE981] (ksp []) kE982 [kC982_0] 30000 (some kC982_0) = true := asgqk (by decide +kernel)
theorem kok982 : aOK kS krf kB kE982 := aOK_of (kal1 kok981 kal0) (kcl1 ks982_0 kcl0) ks982
/-- ColdShodModel.goesBy(IIII)Z -/
noncomputable def kE983 : aE := (190, 47, ([kvB 0 7], [], 0, [kvR 102, kvN 1, kvI 0, kvN 3, kvN 3, none], []), ([], none), ([kvB 0 1], [], kvI 1, ([], [])), kvW78)
noncomputable def kC983_0 : aC := (([kvB 0 7, kvB 0 3], [], 14, [kvR 102, kvN 1, kvI 0, kvN 3, kvN 3, kvI 1], []), ([], []), (3, [(-1, 1)]))
theorem ks983 : aseg kS krf kB [kE43, kE94, kE977, kE247] (ksp []) kE983 [kC983_0] 30000 (none) = true := asgqk (by decide +kernel)
theorem ks983_0 : aseg kS krf kB [kE43, kE94, kE977, kE247] (ksp []) kE983 [kC983_0] 30000 (some kC983_0) = true := asgqk (by decide +kernel)
theorem kok983 : aOK kS krf kB kE983 := aOK_of (kal1 kok43 (kal1 kok94 (kal1 kok977 (kal1 kok247 kal0)))) (kcl1 ks983_0 kcl0) ks983
/-- ColdShodModel.goesBy(IIII)Z -/
noncomputable def kE984 : aE := (190, 48, ([kvB 0 7], [], 0, [kvR 102, kvN 1, kvI 0, kvN 2, kvN 3, none], []), ([], none), ([kvB 0 1], [], kvI 1, ([], [])), kvW83)
noncomputable def kC984_0 : aC := (([kvB 0 7, kvB 0 4], [], 65, [kvR 102, kvN 1, kvI 0, kvN 2, kvN 3, kvI 1], []), ([], []), (4, [(-1, 1)]))
theorem ks984 : aseg kS krf kB [kE983] (ksp []) kE984 [kC984_0] 30000 (none) = true := asgqk (by decide +kernel)
theorem ks984_0 : aseg kS krf kB [kE983] (ksp []) kE984 [kC984_0] 30000 (some kC984_0) = true := asgqk (by decide +kernel)
theorem kok984 : aOK kS krf kB kE984 := aOK_of (kal1 kok983 kal0) (kcl1 ks984_0 kcl0) ks984
/-- ColdShodModel.goesBy(IIII)Z -/
noncomputable def kE985 : aE := (190, 49, ([kvB 0 7], [], 0, [kvR 102, kvN 1, kvI 0, kvN 1, kvN 3, none], []), ([], none), ([kvB 0 1], [], kvI 1, ([], [])), kvW84)
noncomputable def kC985_0 : aC := (([kvB 0 7, kvB 0 4], [], 65, [kvR 102, kvN 1, kvI 0, kvN 1, kvN 3, kvI 1], []), ([], []), (4, [(-1, 1)]))
theorem ks985 : aseg kS krf kB [kE984] (ksp []) kE985 [kC985_0] 30000 (none) = true := asgqk (by decide +kernel)
theorem ks985_0 : aseg kS krf kB [kE984] (ksp []) kE985 [kC985_0] 30000 (some kC985_0) = true := asgqk (by decide +kernel)
theorem kok985 : aOK kS krf kB kE985 := aOK_of (kal1 kok984 kal0) (kcl1 ks985_0 kcl0) ks985
/-- ColdShodModel.goesBy(IIII)Z -/
noncomputable def kE986 : aE := (190, 50, ([kvB 0 7], [], 0, [kvR 102, kvN 1, kvI 0, kvN 0, kvN 3, none], []), ([], none), ([kvB 0 1], [], kvI 1, ([], [])), kvW85)
noncomputable def kC986_0 : aC := (([kvB 0 7, kvB 0 4], [], 65, [kvR 102, kvN 1, kvI 0, kvN 0, kvN 3, kvI 1], []), ([], []), (4, [(-1, 1)]))
theorem ks986 : aseg kS krf kB [kE985] (ksp []) kE986 [kC986_0] 30000 (none) = true := asgqk (by decide +kernel)
theorem ks986_0 : aseg kS krf kB [kE985] (ksp []) kE986 [kC986_0] 30000 (some kC986_0) = true := asgqk (by decide +kernel)
theorem kok986 : aOK kS krf kB kE986 := aOK_of (kal1 kok985 kal0) (kcl1 ks986_0 kcl0) ks986
/-- ColdShodModel.goesBy(IIII)Z -/
noncomputable def kE987 : aE := (190, 47, ([kvB 0 7], [], 0, [kvR 102, kvN 1, kvI 0, kvN 2, kvN 2, none], []), ([], none), ([kvB 0 1], [], kvI 1, ([], [])), kvW78)
noncomputable def kC987_0 : aC := (([kvB 0 7, kvB 0 2], [], 14, [kvR 102, kvN 1, kvI 0, kvN 2, kvN 2, kvI 1], []), ([], []), (2, [(-1, 1)]))
theorem ks987 : aseg kS krf kB [kE43, kE94, kE977, kE247] (ksp []) kE987 [kC987_0] 30000 (none) = true := asgqk (by decide +kernel)
theorem ks987_0 : aseg kS krf kB [kE43, kE94, kE977, kE247] (ksp []) kE987 [kC987_0] 30000 (some kC987_0) = true := asgqk (by decide +kernel)
theorem kok987 : aOK kS krf kB kE987 := aOK_of (kal1 kok43 (kal1 kok94 (kal1 kok977 (kal1 kok247 kal0)))) (kcl1 ks987_0 kcl0) ks987
/-- ColdShodModel.goesBy(IIII)Z -/
noncomputable def kE988 : aE := (190, 48, ([kvB 0 7], [], 0, [kvR 102, kvN 1, kvI 0, kvN 1, kvN 2, none], []), ([], none), ([kvB 0 1], [], kvI 1, ([], [])), kvW86)
noncomputable def kC988_0 : aC := (([kvB 0 7, kvB 0 4], [], 65, [kvR 102, kvN 1, kvI 0, kvN 1, kvN 2, kvI 1], []), ([], []), (4, [(-1, 1)]))
theorem ks988 : aseg kS krf kB [kE987] (ksp []) kE988 [kC988_0] 30000 (none) = true := asgqk (by decide +kernel)
theorem ks988_0 : aseg kS krf kB [kE987] (ksp []) kE988 [kC988_0] 30000 (some kC988_0) = true := asgqk (by decide +kernel)
theorem kok988 : aOK kS krf kB kE988 := aOK_of (kal1 kok987 kal0) (kcl1 ks988_0 kcl0) ks988
/-- ColdShodModel.goesBy(IIII)Z -/
noncomputable def kE989 : aE := (190, 49, ([kvB 0 7], [], 0, [kvR 102, kvN 1, kvI 0, kvN 0, kvN 2, none], []), ([], none), ([kvB 0 1], [], kvI 1, ([], [])), kvW87)
noncomputable def kC989_0 : aC := (([kvB 0 7, kvB 0 4], [], 65, [kvR 102, kvN 1, kvI 0, kvN 0, kvN 2, kvI 1], []), ([], []), (4, [(-1, 1)]))
theorem ks989 : aseg kS krf kB [kE988] (ksp []) kE989 [kC989_0] 30000 (none) = true := asgqk (by decide +kernel)
theorem ks989_0 : aseg kS krf kB [kE988] (ksp []) kE989 [kC989_0] 30000 (some kC989_0) = true := asgqk (by decide +kernel)
theorem kok989 : aOK kS krf kB kE989 := aOK_of (kal1 kok988 kal0) (kcl1 ks989_0 kcl0) ks989
/-- ColdShodModel.goesBy(IIII)Z -/
noncomputable def kE990 : aE := (190, 47, ([kvB 0 7], [], 0, [kvR 102, kvN 1, kvI 0, kvN 1, kvN 1, none], []), ([], none), ([kvB 0 1], [], kvI 1, ([], [])), kvW78)
noncomputable def kC990_0 : aC := (([kvB 0 7, kvB 0 1], [], 14, [kvR 102, kvN 1, kvI 0, kvN 1, kvN 1, kvI 1], []), ([], []), (1, [(-1, 1)]))
theorem ks990 : aseg kS krf kB [kE43, kE94, kE977, kE247] (ksp []) kE990 [kC990_0] 30000 (none) = true := asgqk (by decide +kernel)
theorem ks990_0 : aseg kS krf kB [kE43, kE94, kE977, kE247] (ksp []) kE990 [kC990_0] 30000 (some kC990_0) = true := asgqk (by decide +kernel)
theorem kok990 : aOK kS krf kB kE990 := aOK_of (kal1 kok43 (kal1 kok94 (kal1 kok977 (kal1 kok247 kal0)))) (kcl1 ks990_0 kcl0) ks990
/-- ColdShodModel.goesBy(IIII)Z -/
noncomputable def kE991 : aE := (190, 48, ([kvB 0 7], [], 0, [kvR 102, kvN 1, kvI 0, kvN 0, kvN 1, none], []), ([], none), ([kvB 0 1], [], kvI 1, ([], [])), kvW88)
noncomputable def kC991_0 : aC := (([kvB 0 7, kvB 0 4], [], 65, [kvR 102, kvN 1, kvI 0, kvN 0, kvN 1, kvI 1], []), ([], []), (4, [(-1, 1)]))
theorem ks991 : aseg kS krf kB [kE990] (ksp []) kE991 [kC991_0] 30000 (none) = true := asgqk (by decide +kernel)
theorem ks991_0 : aseg kS krf kB [kE990] (ksp []) kE991 [kC991_0] 30000 (some kC991_0) = true := asgqk (by decide +kernel)
theorem kok991 : aOK kS krf kB kE991 := aOK_of (kal1 kok990 kal0) (kcl1 ks991_0 kcl0) ks991
/-- ColdShodModel.goesBy(IIII)Z -/
noncomputable def kE992 : aE := (190, 47, ([kvB 0 7], [], 0, [kvR 102, kvN 1, kvI 0, kvN 0, kvN 0, none], []), ([], none), ([kvB 0 1], [], kvI 1, ([], [])), kvW78)
noncomputable def kC992_0 : aC := (([kvB 0 7], [], 14, [kvR 102, kvN 1, kvI 0, kvN 0, kvN 0, kvN 0], []), ([], []), (0, []))
theorem ks992 : aseg kS krf kB [kE43, kE977, kE247] (ksp []) kE992 [kC992_0] 30000 (none) = true := asgqk (by decide +kernel)
theorem ks992_0 : aseg kS krf kB [kE43, kE977, kE247] (ksp []) kE992 [kC992_0] 30000 (some kC992_0) = true := asgqk (by decide +kernel)
theorem kok992 : aOK kS krf kB kE992 := aOK_of (kal1 kok43 (kal1 kok977 (kal1 kok247 kal0))) (kcl1 ks992_0 kcl0) ks992
/-- ColdShodModel.goesJourney(I)V -/
noncomputable def kE993 : aE := (188, 46, ([], [], 0, [kvR 102, kvN 0, none], []), ([], none), ([], [], none, ([], [])), kvW77)
noncomputable def kC993_0 : aC := (([kvB 0 1, kvB 0 20], [(102, 25, .inl (1, .ofNat 0))], 12, [kvR 102, kvN 0, kvI 0], []), ([], []), (20, [(23, 0), (-1, 1)]))
theorem ks993 : aseg kS krf kB [kE254, kE89] (ksp []) kE993 [kC993_0] 30000 (none) = true := asgqk (by decide +kernel)
theorem ks993_0 : aseg kS krf kB [kE254, kE89] (ksp []) kE993 [kC993_0] 30000 (some kC993_0) = true := asgqk (by decide +kernel)
theorem kok993 : aOK kS krf kB kE993 := aOK_of (kal1 kok254 (kal1 kok89 kal0)) (kcl1 ks993_0 kcl0) ks993
/-- ColdShodModel.goesBy(IIII)Z -/
noncomputable def kE994 : aE := (190, 47, ([kvB 0 7], [], 0, [kvR 102, kvN 0, kvI 0, kvN 4, kvN 4, none], []), ([], none), ([kvB 0 1], [], kvI 1, ([], [])), kvW78)
noncomputable def kC994_0 : aC := (([kvB 0 7, kvB 0 4], [], 14, [kvR 102, kvN 0, kvI 0, kvN 4, kvN 4, kvI 1], []), ([], []), (4, [(-1, 1)]))
theorem ks994 : aseg kS krf kB [kE43, kE94, kE993, kE254] (ksp []) kE994 [kC994_0] 30000 (none) = true := asgqk (by decide +kernel)
theorem ks994_0 : aseg kS krf kB [kE43, kE94, kE993, kE254] (ksp []) kE994 [kC994_0] 30000 (some kC994_0) = true := asgqk (by decide +kernel)
theorem kok994 : aOK kS krf kB kE994 := aOK_of (kal1 kok43 (kal1 kok94 (kal1 kok993 (kal1 kok254 kal0)))) (kcl1 ks994_0 kcl0) ks994
/-- ColdShodModel.goesBy(IIII)Z -/
noncomputable def kE995 : aE := (190, 48, ([kvB 0 7], [], 0, [kvR 102, kvN 0, kvI 0, kvN 3, kvN 4, none], []), ([], none), ([kvB 0 1], [], kvI 1, ([], [])), kvW79)
noncomputable def kC995_0 : aC := (([kvB 0 7, kvB 0 4], [], 65, [kvR 102, kvN 0, kvI 0, kvN 3, kvN 4, kvI 1], []), ([], []), (4, [(-1, 1)]))
theorem ks995 : aseg kS krf kB [kE994] (ksp []) kE995 [kC995_0] 30000 (none) = true := asgqk (by decide +kernel)
theorem ks995_0 : aseg kS krf kB [kE994] (ksp []) kE995 [kC995_0] 30000 (some kC995_0) = true := asgqk (by decide +kernel)
theorem kok995 : aOK kS krf kB kE995 := aOK_of (kal1 kok994 kal0) (kcl1 ks995_0 kcl0) ks995
/-- ColdShodModel.goesBy(IIII)Z -/
noncomputable def kE996 : aE := (190, 49, ([kvB 0 7], [], 0, [kvR 102, kvN 0, kvI 0, kvN 2, kvN 4, none], []), ([], none), ([kvB 0 1], [], kvI 1, ([], [])), kvW80)
noncomputable def kC996_0 : aC := (([kvB 0 7, kvB 0 4], [], 65, [kvR 102, kvN 0, kvI 0, kvN 2, kvN 4, kvI 1], []), ([], []), (4, [(-1, 1)]))
theorem ks996 : aseg kS krf kB [kE995] (ksp []) kE996 [kC996_0] 30000 (none) = true := asgqk (by decide +kernel)
theorem ks996_0 : aseg kS krf kB [kE995] (ksp []) kE996 [kC996_0] 30000 (some kC996_0) = true := asgqk (by decide +kernel)
theorem kok996 : aOK kS krf kB kE996 := aOK_of (kal1 kok995 kal0) (kcl1 ks996_0 kcl0) ks996
/-- ColdShodModel.goesBy(IIII)Z -/
noncomputable def kE997 : aE := (190, 50, ([kvB 0 7], [], 0, [kvR 102, kvN 0, kvI 0, kvN 1, kvN 4, none], []), ([], none), ([kvB 0 1], [], kvI 1, ([], [])), kvW81)
noncomputable def kC997_0 : aC := (([kvB 0 7, kvB 0 4], [], 65, [kvR 102, kvN 0, kvI 0, kvN 1, kvN 4, kvI 1], []), ([], []), (4, [(-1, 1)]))
theorem ks997 : aseg kS krf kB [kE996] (ksp []) kE997 [kC997_0] 30000 (none) = true := asgqk (by decide +kernel)
theorem ks997_0 : aseg kS krf kB [kE996] (ksp []) kE997 [kC997_0] 30000 (some kC997_0) = true := asgqk (by decide +kernel)
theorem kok997 : aOK kS krf kB kE997 := aOK_of (kal1 kok996 kal0) (kcl1 ks997_0 kcl0) ks997
/-- ColdShodModel.goesBy(IIII)Z -/
noncomputable def kE998 : aE := (190, 51, ([kvB 0 7], [], 0, [kvR 102, kvN 0, kvI 0, kvN 0, kvN 4, none], []), ([], none), ([kvB 0 1], [], kvI 1, ([], [])), kvW82)
noncomputable def kC998_0 : aC := (([kvB 0 7, kvB 0 4], [], 65, [kvR 102, kvN 0, kvI 0, kvN 0, kvN 4, kvI 1], []), ([], []), (4, [(-1, 1)]))
theorem ks998 : aseg kS krf kB [kE997] (ksp []) kE998 [kC998_0] 30000 (none) = true := asgqk (by decide +kernel)
theorem ks998_0 : aseg kS krf kB [kE997] (ksp []) kE998 [kC998_0] 30000 (some kC998_0) = true := asgqk (by decide +kernel)
theorem kok998 : aOK kS krf kB kE998 := aOK_of (kal1 kok997 kal0) (kcl1 ks998_0 kcl0) ks998
/-- ColdShodModel.goesBy(IIII)Z -/
noncomputable def kE999 : aE := (190, 47, ([kvB 0 7], [], 0, [kvR 102, kvN 0, kvI 0, kvN 3, kvN 3, none], []), ([], none), ([kvB 0 1], [], kvI 1, ([], [])), kvW78)
noncomputable def kC999_0 : aC := (([kvB 0 7, kvB 0 3], [], 14, [kvR 102, kvN 0, kvI 0, kvN 3, kvN 3, kvI 1], []), ([], []), (3, [(-1, 1)]))
theorem ks999 : aseg kS krf kB [kE43, kE94, kE993, kE254] (ksp []) kE999 [kC999_0] 30000 (none) = true := asgqk (by decide +kernel)
theorem ks999_0 : aseg kS krf kB [kE43, kE94, kE993, kE254] (ksp []) kE999 [kC999_0] 30000 (some kC999_0) = true := asgqk (by decide +kernel)
theorem kok999 : aOK kS krf kB kE999 := aOK_of (kal1 kok43 (kal1 kok94 (kal1 kok993 (kal1 kok254 kal0)))) (kcl1 ks999_0 kcl0) ks999
/-- ColdShodModel.goesBy(IIII)Z -/
noncomputable def kE1000 : aE := (190, 48, ([kvB 0 7], [], 0, [kvR 102, kvN 0, kvI 0, kvN 2, kvN 3, none], []), ([], none), ([kvB 0 1], [], kvI 1, ([], [])), kvW83)
noncomputable def kC1000_0 : aC := (([kvB 0 7, kvB 0 4], [], 65, [kvR 102, kvN 0, kvI 0, kvN 2, kvN 3, kvI 1], []), ([], []), (4, [(-1, 1)]))
theorem ks1000 : aseg kS krf kB [kE999] (ksp []) kE1000 [kC1000_0] 30000 (none) = true := asgqk (by decide +kernel)
theorem ks1000_0 : aseg kS krf kB [kE999] (ksp []) kE1000 [kC1000_0] 30000 (some kC1000_0) = true := asgqk (by decide +kernel)
theorem kok1000 : aOK kS krf kB kE1000 := aOK_of (kal1 kok999 kal0) (kcl1 ks1000_0 kcl0) ks1000
/-- ColdShodModel.goesBy(IIII)Z -/
noncomputable def kE1001 : aE := (190, 49, ([kvB 0 7], [], 0, [kvR 102, kvN 0, kvI 0, kvN 1, kvN 3, none], []), ([], none), ([kvB 0 1], [], kvI 1, ([], [])), kvW84)
noncomputable def kC1001_0 : aC := (([kvB 0 7, kvB 0 4], [], 65, [kvR 102, kvN 0, kvI 0, kvN 1, kvN 3, kvI 1], []), ([], []), (4, [(-1, 1)]))
theorem ks1001 : aseg kS krf kB [kE1000] (ksp []) kE1001 [kC1001_0] 30000 (none) = true := asgqk (by decide +kernel)
theorem ks1001_0 : aseg kS krf kB [kE1000] (ksp []) kE1001 [kC1001_0] 30000 (some kC1001_0) = true := asgqk (by decide +kernel)
theorem kok1001 : aOK kS krf kB kE1001 := aOK_of (kal1 kok1000 kal0) (kcl1 ks1001_0 kcl0) ks1001
/-- ColdShodModel.goesBy(IIII)Z -/
noncomputable def kE1002 : aE := (190, 50, ([kvB 0 7], [], 0, [kvR 102, kvN 0, kvI 0, kvN 0, kvN 3, none], []), ([], none), ([kvB 0 1], [], kvI 1, ([], [])), kvW85)
noncomputable def kC1002_0 : aC := (([kvB 0 7, kvB 0 4], [], 65, [kvR 102, kvN 0, kvI 0, kvN 0, kvN 3, kvI 1], []), ([], []), (4, [(-1, 1)]))
theorem ks1002 : aseg kS krf kB [kE1001] (ksp []) kE1002 [kC1002_0] 30000 (none) = true := asgqk (by decide +kernel)
theorem ks1002_0 : aseg kS krf kB [kE1001] (ksp []) kE1002 [kC1002_0] 30000 (some kC1002_0) = true := asgqk (by decide +kernel)
theorem kok1002 : aOK kS krf kB kE1002 := aOK_of (kal1 kok1001 kal0) (kcl1 ks1002_0 kcl0) ks1002
/-- ColdShodModel.goesBy(IIII)Z -/
noncomputable def kE1003 : aE := (190, 47, ([kvB 0 7], [], 0, [kvR 102, kvN 0, kvI 0, kvN 2, kvN 2, none], []), ([], none), ([kvB 0 1], [], kvI 1, ([], [])), kvW78)
noncomputable def kC1003_0 : aC := (([kvB 0 7, kvB 0 2], [], 14, [kvR 102, kvN 0, kvI 0, kvN 2, kvN 2, kvI 1], []), ([], []), (2, [(-1, 1)]))
theorem ks1003 : aseg kS krf kB [kE43, kE94, kE993, kE254] (ksp []) kE1003 [kC1003_0] 30000 (none) = true := asgqk (by decide +kernel)
theorem ks1003_0 : aseg kS krf kB [kE43, kE94, kE993, kE254] (ksp []) kE1003 [kC1003_0] 30000 (some kC1003_0) = true := asgqk (by decide +kernel)
theorem kok1003 : aOK kS krf kB kE1003 := aOK_of (kal1 kok43 (kal1 kok94 (kal1 kok993 (kal1 kok254 kal0)))) (kcl1 ks1003_0 kcl0) ks1003
/-- ColdShodModel.goesBy(IIII)Z -/
noncomputable def kE1004 : aE := (190, 48, ([kvB 0 7], [], 0, [kvR 102, kvN 0, kvI 0, kvN 1, kvN 2, none], []), ([], none), ([kvB 0 1], [], kvI 1, ([], [])), kvW86)
noncomputable def kC1004_0 : aC := (([kvB 0 7, kvB 0 4], [], 65, [kvR 102, kvN 0, kvI 0, kvN 1, kvN 2, kvI 1], []), ([], []), (4, [(-1, 1)]))
theorem ks1004 : aseg kS krf kB [kE1003] (ksp []) kE1004 [kC1004_0] 30000 (none) = true := asgqk (by decide +kernel)
theorem ks1004_0 : aseg kS krf kB [kE1003] (ksp []) kE1004 [kC1004_0] 30000 (some kC1004_0) = true := asgqk (by decide +kernel)
theorem kok1004 : aOK kS krf kB kE1004 := aOK_of (kal1 kok1003 kal0) (kcl1 ks1004_0 kcl0) ks1004
/-- ColdShodModel.goesBy(IIII)Z -/
noncomputable def kE1005 : aE := (190, 49, ([kvB 0 7], [], 0, [kvR 102, kvN 0, kvI 0, kvN 0, kvN 2, none], []), ([], none), ([kvB 0 1], [], kvI 1, ([], [])), kvW87)
noncomputable def kC1005_0 : aC := (([kvB 0 7, kvB 0 4], [], 65, [kvR 102, kvN 0, kvI 0, kvN 0, kvN 2, kvI 1], []), ([], []), (4, [(-1, 1)]))
theorem ks1005 : aseg kS krf kB [kE1004] (ksp []) kE1005 [kC1005_0] 30000 (none) = true := asgqk (by decide +kernel)
theorem ks1005_0 : aseg kS krf kB [kE1004] (ksp []) kE1005 [kC1005_0] 30000 (some kC1005_0) = true := asgqk (by decide +kernel)
theorem kok1005 : aOK kS krf kB kE1005 := aOK_of (kal1 kok1004 kal0) (kcl1 ks1005_0 kcl0) ks1005
/-- ColdShodModel.goesBy(IIII)Z -/
noncomputable def kE1006 : aE := (190, 47, ([kvB 0 7], [], 0, [kvR 102, kvN 0, kvI 0, kvN 1, kvN 1, none], []), ([], none), ([kvB 0 1], [], kvI 1, ([], [])), kvW78)
noncomputable def kC1006_0 : aC := (([kvB 0 7, kvB 0 1], [], 14, [kvR 102, kvN 0, kvI 0, kvN 1, kvN 1, kvI 1], []), ([], []), (1, [(-1, 1)]))
theorem ks1006 : aseg kS krf kB [kE43, kE94, kE993, kE254] (ksp []) kE1006 [kC1006_0] 30000 (none) = true := asgqk (by decide +kernel)
theorem ks1006_0 : aseg kS krf kB [kE43, kE94, kE993, kE254] (ksp []) kE1006 [kC1006_0] 30000 (some kC1006_0) = true := asgqk (by decide +kernel)
theorem kok1006 : aOK kS krf kB kE1006 := aOK_of (kal1 kok43 (kal1 kok94 (kal1 kok993 (kal1 kok254 kal0)))) (kcl1 ks1006_0 kcl0) ks1006
/-- ColdShodModel.goesBy(IIII)Z -/
noncomputable def kE1007 : aE := (190, 48, ([kvB 0 7], [], 0, [kvR 102, kvN 0, kvI 0, kvN 0, kvN 1, none], []), ([], none), ([kvB 0 1], [], kvI 1, ([], [])), kvW88)
noncomputable def kC1007_0 : aC := (([kvB 0 7, kvB 0 4], [], 65, [kvR 102, kvN 0, kvI 0, kvN 0, kvN 1, kvI 1], []), ([], []), (4, [(-1, 1)]))
theorem ks1007 : aseg kS krf kB [kE1006] (ksp []) kE1007 [kC1007_0] 30000 (none) = true := asgqk (by decide +kernel)
theorem ks1007_0 : aseg kS krf kB [kE1006] (ksp []) kE1007 [kC1007_0] 30000 (some kC1007_0) = true := asgqk (by decide +kernel)
theorem kok1007 : aOK kS krf kB kE1007 := aOK_of (kal1 kok1006 kal0) (kcl1 ks1007_0 kcl0) ks1007
/-- ColdShodModel.goesBy(IIII)Z -/
noncomputable def kE1008 : aE := (190, 47, ([kvB 0 7], [], 0, [kvR 102, kvN 0, kvI 0, kvN 0, kvN 0, none], []), ([], none), ([kvB 0 1], [], kvI 1, ([], [])), kvW78)
noncomputable def kC1008_0 : aC := (([kvB 0 7], [], 14, [kvR 102, kvN 0, kvI 0, kvN 0, kvN 0, kvN 0], []), ([], []), (0, []))
theorem ks1008 : aseg kS krf kB [kE43, kE993, kE254] (ksp []) kE1008 [kC1008_0] 30000 (none) = true := asgqk (by decide +kernel)
theorem ks1008_0 : aseg kS krf kB [kE43, kE993, kE254] (ksp []) kE1008 [kC1008_0] 30000 (some kC1008_0) = true := asgqk (by decide +kernel)
theorem kok1008 : aOK kS krf kB kE1008 := aOK_of (kal1 kok43 (kal1 kok993 (kal1 kok254 kal0))) (kcl1 ks1008_0 kcl0) ks1008
/-- ColdShodModel.strokes(III)I -/
noncomputable def kE1009 : aE := (191, 52, ([(.negSucc 2147483647, .ofNat 2147483647), (.negSucc 2147483647, .ofNat 2147483647), (.negSucc 2147483647, .ofNat 2147483647)], [], 0, [some (.inr [102]), some (.inl (.inl (.inl (0, .ofNat 0)))), some (.inl (.inl (.inl (1, .ofNat 0)))), some (.inl (.inl (.inl (2, .ofNat 0)))), none], []), ([], none), ([(.negSucc 11, .ofNat 4)], [], some (.inl (.inl (.inl (3, .ofNat 0)))), ([], [])), ([(102, 15), (102, 16), (102, 17), (102, 18), (102, 19), (102, 22), (102, 23), (102, 24), (102, 25), (111, 0), (111, 1), (111, 2), (111, 3), (111, 4), (111, 5), (113, 0), (113, 1), (113, 2), (113, 3)], [112]))
noncomputable def kC1009_0 : aC := (([kvB 5 5, kvB 0 7, (.negSucc 0, .ofNat 2147483647), kvB 0 5, kvB 1 8], [(124, 5, .inr (.ofNat 50)), (102, 7, .inl (4, .ofNat 0))], 42, [kvR 102, kvI 0, kvI 1, kvI 2, kvI 3], []), ([], []), (5, [(-1, 3)]))
noncomputable def kC1009_1 : aC := (([kvB 4 4, kvB 0 7, (.negSucc 0, .ofNat 2147483647), kvB 0 5, kvB 1 8], [(124, 4, .inr (.ofNat 50)), (102, 7, .inl (4, .ofNat 0))], 42, [kvR 102, kvI 0, kvI 1, kvI 2, kvI 3], []), ([], []), (5, [(-1, 3)]))
noncomputable def kC1009_2 : aC := (([kvB 3 3, kvB 0 7, (.negSucc 0, .ofNat 2147483647), kvB 0 5, kvB 1 8], [(124, 3, .inr (.ofNat 50)), (102, 7, .inl (4, .ofNat 0))], 42, [kvR 102, kvI 0, kvI 1, kvI 2, kvI 3], []), ([], []), (5, [(-1, 3)]))
noncomputable def kC1009_3 : aC := (([kvB 2 2, kvB 0 7, (.negSucc 0, .ofNat 2147483647), kvB 0 5, kvB 1 8], [(124, 2, .inr (.ofNat 50)), (102, 7, .inl (4, .ofNat 0))], 42, [kvR 102, kvI 0, kvI 1, kvI 2, kvI 3], []), ([], []), (5, [(-1, 3)]))
noncomputable def kC1009_4 : aC := (([kvB 1 1, kvB 0 7, (.negSucc 0, .ofNat 2147483647), kvB 0 5, kvB 1 8], [(124, 1, .inr (.ofNat 50)), (102, 7, .inl (4, .ofNat 0))], 42, [kvR 102, kvI 0, kvI 1, kvI 2, kvI 3], []), ([], []), (5, [(-1, 3)]))
noncomputable def kC1009_5 : aC := (([kvB 0 0, kvB 0 7, (.negSucc 0, .ofNat 2147483647), kvB 0 5, kvB 1 8], [(124, 0, .inr (.ofNat 50)), (102, 7, .inl (4, .ofNat 0))], 42, [kvR 102, kvI 0, kvI 1, kvI 2, kvI 3], []), ([], []), (5, [(-1, 3)]))
theorem ks1009 : aseg kS krf kB [kE918, kE922, kE925, kE927, kE928, kE934, kE938, kE941, kE943, kE944, kE950, kE954, kE957, kE959, kE960, kE966, kE970, kE973, kE975, kE976, kE982, kE986, kE989, kE991, kE992, kE998, kE1002, kE1005, kE1007, kE1008] (ksp [(191, 0, 1, 0, 5, 0), (191, 42, 4, -1000, 1000, 0)]) kE1009 [kC1009_0, kC1009_1, kC1009_2, kC1009_3, kC1009_4, kC1009_5] 30000 (none) = true := asgqk (by decide +kernel)
theorem ks1009_0 : aseg kS krf kB [kE918, kE922, kE925, kE927, kE928, kE934, kE938, kE941, kE943, kE944, kE950, kE954, kE957, kE959, kE960, kE966, kE970, kE973, kE975, kE976, kE982, kE986, kE989, kE991, kE992, kE998, kE1002, kE1005, kE1007, kE1008] (ksp [(191, 0, 1, 0, 5, 0), (191, 42, 4, -1000, 1000, 0)]) kE1009 [kC1009_0, kC1009_1, kC1009_2, kC1009_3, kC1009_4, kC1009_5] 30000 (some kC1009_0) = true := asgqk (by decide +kernel)
theorem ks1009_1 : aseg kS krf kB [kE918, kE922, kE925, kE927, kE928, kE934, kE938, kE941, kE943, kE944, kE950, kE954, kE957, kE959, kE960, kE966, kE970, kE973, kE975, kE976, kE982, kE986, kE989, kE991, kE992, kE998, kE1002, kE1005, kE1007, kE1008] (ksp [(191, 0, 1, 0, 5, 0), (191, 42, 4, -1000, 1000, 0)]) kE1009 [kC1009_0, kC1009_1, kC1009_2, kC1009_3, kC1009_4, kC1009_5] 30000 (some kC1009_1) = true := asgqk (by decide +kernel)
theorem ks1009_2 : aseg kS krf kB [kE918, kE922, kE925, kE927, kE928, kE934, kE938, kE941, kE943, kE944, kE950, kE954, kE957, kE959, kE960, kE966, kE970, kE973, kE975, kE976, kE982, kE986, kE989, kE991, kE992, kE998, kE1002, kE1005, kE1007, kE1008] (ksp [(191, 0, 1, 0, 5, 0), (191, 42, 4, -1000, 1000, 0)]) kE1009 [kC1009_0, kC1009_1, kC1009_2, kC1009_3, kC1009_4, kC1009_5] 30000 (some kC1009_2) = true := asgqk (by decide +kernel)
theorem ks1009_3 : aseg kS krf kB [kE918, kE922, kE925, kE927, kE928, kE934, kE938, kE941, kE943, kE944, kE950, kE954, kE957, kE959, kE960, kE966, kE970, kE973, kE975, kE976, kE982, kE986, kE989, kE991, kE992, kE998, kE1002, kE1005, kE1007, kE1008] (ksp [(191, 0, 1, 0, 5, 0), (191, 42, 4, -1000, 1000, 0)]) kE1009 [kC1009_0, kC1009_1, kC1009_2, kC1009_3, kC1009_4, kC1009_5] 30000 (some kC1009_3) = true := asgqk (by decide +kernel)
theorem ks1009_4 : aseg kS krf kB [kE918, kE922, kE925, kE927, kE928, kE934, kE938, kE941, kE943, kE944, kE950, kE954, kE957, kE959, kE960, kE966, kE970, kE973, kE975, kE976, kE982, kE986, kE989, kE991, kE992, kE998, kE1002, kE1005, kE1007, kE1008] (ksp [(191, 0, 1, 0, 5, 0), (191, 42, 4, -1000, 1000, 0)]) kE1009 [kC1009_0, kC1009_1, kC1009_2, kC1009_3, kC1009_4, kC1009_5] 30000 (some kC1009_4) = true := asgqk (by decide +kernel)
theorem ks1009_5 : aseg kS krf kB [kE918, kE922, kE925, kE927, kE928, kE934, kE938, kE941, kE943, kE944, kE950, kE954, kE957, kE959, kE960, kE966, kE970, kE973, kE975, kE976, kE982, kE986, kE989, kE991, kE992, kE998, kE1002, kE1005, kE1007, kE1008] (ksp [(191, 0, 1, 0, 5, 0), (191, 42, 4, -1000, 1000, 0)]) kE1009 [kC1009_0, kC1009_1, kC1009_2, kC1009_3, kC1009_4, kC1009_5] 30000 (some kC1009_5) = true := asgqk (by decide +kernel)
theorem kok1009 : aOK kS krf kB kE1009 := aOK_of (kal1 kok918 (kal1 kok922 (kal1 kok925 (kal1 kok927 (kal1 kok928 (kal1 kok934 (kal1 kok938 (kal1 kok941 (kal1 kok943 (kal1 kok944 (kal1 kok950 (kal1 kok954 (kal1 kok957 (kal1 kok959 (kal1 kok960 (kal1 kok966 (kal1 kok970 (kal1 kok973 (kal1 kok975 (kal1 kok976 (kal1 kok982 (kal1 kok986 (kal1 kok989 (kal1 kok991 (kal1 kok992 (kal1 kok998 (kal1 kok1002 (kal1 kok1005 (kal1 kok1007 (kal1 kok1008 kal0)))))))))))))))))))))))))))))) (kcl1 ks1009_0 (kcl1 ks1009_1 (kcl1 ks1009_2 (kcl1 ks1009_3 (kcl1 ks1009_4 (kcl1 ks1009_5 kcl0)))))) ks1009
