/-! ENTRIES and their checks: printed by a program (wip/ai). -/
/-- ColdShod$StrokePlan.addNext(LColdShod$Idea;I)V -/
def kE612 : aE := (83, 3, ([(.ofNat 0, .ofNat 3), (.ofNat 32, .ofNat 341)], [(57, 31, .inl (0, .ofNat 0)), (52, 6, .inl (1, .ofNat 0))], 0, [some (.inr [52]), some (.inr [20, 21, 22, 23, 24, 25, 26, 27]), some (.inl (.inl (.inr (.ofNat 31)))), none, none], []), ([], none), ([], [], none, ([], [])), ([(52, 6), (58, 0), (58, 1), (58, 2), (58, 3), (58, 4), (58, 5), (58, 6)], [54, 55, 56, 57]))
def kC612_0 : aC := (([(.ofNat 0, .ofNat 3), (.ofNat 32, .ofNat 341), (.ofNat 0, .ofNat 4), (.ofNat 32, .ofNat 341)], [(57, 31, .inl (0, .ofNat 0)), (52, 6, .inl (3, .ofNat 0))], 2, [some (.inr [52]), some (.inr [20, 21, 22, 23, 24, 25, 26, 27]), some (.inl (.inl (.inr (.ofNat 31)))), some (.inl (.inl (.inl (2, .ofNat 0)))), none], []), ([], []), (4, [(-1, 2)]))
theorem ks612 : aseg kS krf kB [kE542, kE543] (ksp []) kE612 [kC612_0] 30000 (none) = true := by decide +kernel
theorem ks612_0 : aseg kS krf kB [kE542, kE543] (ksp []) kE612 [kC612_0] 30000 (some kC612_0) = true := by decide +kernel
theorem kok612 : aOK kS krf kB kE612 := aOK_of (kal1 kok542 (kal1 kok543 kal0)) (kcl1 ks612_0 kcl0) ks612
/-- ColdShod$StrokePlan.addNext(LColdShod$Idea;I)V -/
def kE613 : aE := (83, 3, ([(.ofNat 0, .ofNat 3), (.ofNat 31, .ofNat 341)], [(57, 30, .inl (0, .ofNat 0)), (52, 6, .inl (1, .ofNat 0))], 0, [some (.inr [52]), some (.inr [20, 21, 22, 23, 24, 25, 26, 27]), some (.inl (.inl (.inr (.ofNat 30)))), none, none], []), ([], none), ([], [], none, ([], [])), ([(52, 6), (58, 0), (58, 1), (58, 2), (58, 3), (58, 4), (58, 5), (58, 6)], [54, 55, 56, 57]))
def kC613_0 : aC := (([(.ofNat 0, .ofNat 3), (.ofNat 31, .ofNat 341), (.ofNat 0, .ofNat 4), (.ofNat 31, .ofNat 341)], [(57, 30, .inl (0, .ofNat 0)), (52, 6, .inl (3, .ofNat 0))], 2, [some (.inr [52]), some (.inr [20, 21, 22, 23, 24, 25, 26, 27]), some (.inl (.inl (.inr (.ofNat 30)))), some (.inl (.inl (.inl (2, .ofNat 0)))), none], []), ([], []), (4, [(-1, 2)]))
theorem ks613 : aseg kS krf kB [kE542, kE543] (ksp []) kE613 [kC613_0] 30000 (none) = true := by decide +kernel
theorem ks613_0 : aseg kS krf kB [kE542, kE543] (ksp []) kE613 [kC613_0] 30000 (some kC613_0) = true := by decide +kernel
theorem kok613 : aOK kS krf kB kE613 := aOK_of (kal1 kok542 (kal1 kok543 kal0)) (kcl1 ks613_0 kcl0) ks613
/-- ColdShod$StrokePlan.addNext(LColdShod$Idea;I)V -/
def kE614 : aE := (83, 3, ([(.ofNat 0, .ofNat 3), (.ofNat 30, .ofNat 341)], [(57, 29, .inl (0, .ofNat 0)), (52, 6, .inl (1, .ofNat 0))], 0, [some (.inr [52]), some (.inr [20, 21, 22, 23, 24, 25, 26, 27]), some (.inl (.inl (.inr (.ofNat 29)))), none, none], []), ([], none), ([], [], none, ([], [])), ([(52, 6), (58, 0), (58, 1), (58, 2), (58, 3), (58, 4), (58, 5), (58, 6)], [54, 55, 56, 57]))
def kC614_0 : aC := (([(.ofNat 0, .ofNat 3), (.ofNat 30, .ofNat 341), (.ofNat 0, .ofNat 4), (.ofNat 30, .ofNat 341)], [(57, 29, .inl (0, .ofNat 0)), (52, 6, .inl (3, .ofNat 0))], 2, [some (.inr [52]), some (.inr [20, 21, 22, 23, 24, 25, 26, 27]), some (.inl (.inl (.inr (.ofNat 29)))), some (.inl (.inl (.inl (2, .ofNat 0)))), none], []), ([], []), (4, [(-1, 2)]))
theorem ks614 : aseg kS krf kB [kE542, kE543] (ksp []) kE614 [kC614_0] 30000 (none) = true := by decide +kernel
theorem ks614_0 : aseg kS krf kB [kE542, kE543] (ksp []) kE614 [kC614_0] 30000 (some kC614_0) = true := by decide +kernel
theorem kok614 : aOK kS krf kB kE614 := aOK_of (kal1 kok542 (kal1 kok543 kal0)) (kcl1 ks614_0 kcl0) ks614
/-- ColdShod$StrokePlan.addNext(LColdShod$Idea;I)V -/
def kE615 : aE := (83, 3, ([(.ofNat 0, .ofNat 3), (.ofNat 29, .ofNat 341)], [(57, 28, .inl (0, .ofNat 0)), (52, 6, .inl (1, .ofNat 0))], 0, [some (.inr [52]), some (.inr [20, 21, 22, 23, 24, 25, 26, 27]), some (.inl (.inl (.inr (.ofNat 28)))), none, none], []), ([], none), ([], [], none, ([], [])), ([(52, 6), (58, 0), (58, 1), (58, 2), (58, 3), (58, 4), (58, 5), (58, 6)], [54, 55, 56, 57]))
def kC615_0 : aC := (([(.ofNat 0, .ofNat 3), (.ofNat 29, .ofNat 341), (.ofNat 0, .ofNat 4), (.ofNat 29, .ofNat 341)], [(57, 28, .inl (0, .ofNat 0)), (52, 6, .inl (3, .ofNat 0))], 2, [some (.inr [52]), some (.inr [20, 21, 22, 23, 24, 25, 26, 27]), some (.inl (.inl (.inr (.ofNat 28)))), some (.inl (.inl (.inl (2, .ofNat 0)))), none], []), ([], []), (4, [(-1, 2)]))
theorem ks615 : aseg kS krf kB [kE542, kE543] (ksp []) kE615 [kC615_0] 30000 (none) = true := by decide +kernel
theorem ks615_0 : aseg kS krf kB [kE542, kE543] (ksp []) kE615 [kC615_0] 30000 (some kC615_0) = true := by decide +kernel
theorem kok615 : aOK kS krf kB kE615 := aOK_of (kal1 kok542 (kal1 kok543 kal0)) (kcl1 ks615_0 kcl0) ks615
/-- ColdShod$StrokePlan.addNext(LColdShod$Idea;I)V -/
def kE616 : aE := (83, 3, ([(.ofNat 0, .ofNat 3), (.ofNat 28, .ofNat 341)], [(57, 27, .inl (0, .ofNat 0)), (52, 6, .inl (1, .ofNat 0))], 0, [some (.inr [52]), some (.inr [20, 21, 22, 23, 24, 25, 26, 27]), some (.inl (.inl (.inr (.ofNat 27)))), none, none], []), ([], none), ([], [], none, ([], [])), ([(52, 6), (58, 0), (58, 1), (58, 2), (58, 3), (58, 4), (58, 5), (58, 6)], [54, 55, 56, 57]))
def kC616_0 : aC := (([(.ofNat 0, .ofNat 3), (.ofNat 28, .ofNat 341), (.ofNat 0, .ofNat 4), (.ofNat 28, .ofNat 341)], [(57, 27, .inl (0, .ofNat 0)), (52, 6, .inl (3, .ofNat 0))], 2, [some (.inr [52]), some (.inr [20, 21, 22, 23, 24, 25, 26, 27]), some (.inl (.inl (.inr (.ofNat 27)))), some (.inl (.inl (.inl (2, .ofNat 0)))), none], []), ([], []), (4, [(-1, 2)]))
theorem ks616 : aseg kS krf kB [kE542, kE543] (ksp []) kE616 [kC616_0] 30000 (none) = true := by decide +kernel
theorem ks616_0 : aseg kS krf kB [kE542, kE543] (ksp []) kE616 [kC616_0] 30000 (some kC616_0) = true := by decide +kernel
theorem kok616 : aOK kS krf kB kE616 := aOK_of (kal1 kok542 (kal1 kok543 kal0)) (kcl1 ks616_0 kcl0) ks616
/-- ColdShod$StrokePlan.addNext(LColdShod$Idea;I)V -/
def kE617 : aE := (83, 3, ([(.ofNat 0, .ofNat 3), (.ofNat 27, .ofNat 341)], [(57, 26, .inl (0, .ofNat 0)), (52, 6, .inl (1, .ofNat 0))], 0, [some (.inr [52]), some (.inr [20, 21, 22, 23, 24, 25, 26, 27]), some (.inl (.inl (.inr (.ofNat 26)))), none, none], []), ([], none), ([], [], none, ([], [])), ([(52, 6), (58, 0), (58, 1), (58, 2), (58, 3), (58, 4), (58, 5), (58, 6)], [54, 55, 56, 57]))
def kC617_0 : aC := (([(.ofNat 0, .ofNat 3), (.ofNat 27, .ofNat 341), (.ofNat 0, .ofNat 4), (.ofNat 27, .ofNat 341)], [(57, 26, .inl (0, .ofNat 0)), (52, 6, .inl (3, .ofNat 0))], 2, [some (.inr [52]), some (.inr [20, 21, 22, 23, 24, 25, 26, 27]), some (.inl (.inl (.inr (.ofNat 26)))), some (.inl (.inl (.inl (2, .ofNat 0)))), none], []), ([], []), (4, [(-1, 2)]))
theorem ks617 : aseg kS krf kB [kE542, kE543] (ksp []) kE617 [kC617_0] 30000 (none) = true := by decide +kernel
theorem ks617_0 : aseg kS krf kB [kE542, kE543] (ksp []) kE617 [kC617_0] 30000 (some kC617_0) = true := by decide +kernel
theorem kok617 : aOK kS krf kB kE617 := aOK_of (kal1 kok542 (kal1 kok543 kal0)) (kcl1 ks617_0 kcl0) ks617
/-- ColdShod$StrokePlan.addNext(LColdShod$Idea;I)V -/
def kE618 : aE := (83, 3, ([(.ofNat 0, .ofNat 3), (.ofNat 26, .ofNat 341)], [(57, 25, .inl (0, .ofNat 0)), (52, 6, .inl (1, .ofNat 0))], 0, [some (.inr [52]), some (.inr [20, 21, 22, 23, 24, 25, 26, 27]), some (.inl (.inl (.inr (.ofNat 25)))), none, none], []), ([], none), ([], [], none, ([], [])), ([(52, 6), (58, 0), (58, 1), (58, 2), (58, 3), (58, 4), (58, 5), (58, 6)], [54, 55, 56, 57]))
def kC618_0 : aC := (([(.ofNat 0, .ofNat 3), (.ofNat 26, .ofNat 341), (.ofNat 0, .ofNat 4), (.ofNat 26, .ofNat 341)], [(57, 25, .inl (0, .ofNat 0)), (52, 6, .inl (3, .ofNat 0))], 2, [some (.inr [52]), some (.inr [20, 21, 22, 23, 24, 25, 26, 27]), some (.inl (.inl (.inr (.ofNat 25)))), some (.inl (.inl (.inl (2, .ofNat 0)))), none], []), ([], []), (4, [(-1, 2)]))
theorem ks618 : aseg kS krf kB [kE542, kE543] (ksp []) kE618 [kC618_0] 30000 (none) = true := by decide +kernel
theorem ks618_0 : aseg kS krf kB [kE542, kE543] (ksp []) kE618 [kC618_0] 30000 (some kC618_0) = true := by decide +kernel
theorem kok618 : aOK kS krf kB kE618 := aOK_of (kal1 kok542 (kal1 kok543 kal0)) (kcl1 ks618_0 kcl0) ks618
/-- ColdShod$StrokePlan.addNext(LColdShod$Idea;I)V -/
def kE619 : aE := (83, 3, ([(.ofNat 0, .ofNat 3), (.ofNat 25, .ofNat 341)], [(57, 24, .inl (0, .ofNat 0)), (52, 6, .inl (1, .ofNat 0))], 0, [some (.inr [52]), some (.inr [20, 21, 22, 23, 24, 25, 26, 27]), some (.inl (.inl (.inr (.ofNat 24)))), none, none], []), ([], none), ([], [], none, ([], [])), ([(52, 6), (58, 0), (58, 1), (58, 2), (58, 3), (58, 4), (58, 5), (58, 6)], [54, 55, 56, 57]))
def kC619_0 : aC := (([(.ofNat 0, .ofNat 3), (.ofNat 25, .ofNat 341), (.ofNat 0, .ofNat 4), (.ofNat 25, .ofNat 341)], [(57, 24, .inl (0, .ofNat 0)), (52, 6, .inl (3, .ofNat 0))], 2, [some (.inr [52]), some (.inr [20, 21, 22, 23, 24, 25, 26, 27]), some (.inl (.inl (.inr (.ofNat 24)))), some (.inl (.inl (.inl (2, .ofNat 0)))), none], []), ([], []), (4, [(-1, 2)]))
theorem ks619 : aseg kS krf kB [kE542, kE543] (ksp []) kE619 [kC619_0] 30000 (none) = true := by decide +kernel
theorem ks619_0 : aseg kS krf kB [kE542, kE543] (ksp []) kE619 [kC619_0] 30000 (some kC619_0) = true := by decide +kernel
theorem kok619 : aOK kS krf kB kE619 := aOK_of (kal1 kok542 (kal1 kok543 kal0)) (kcl1 ks619_0 kcl0) ks619
/-- ColdShod$StrokePlan.addNext(LColdShod$Idea;I)V -/
def kE620 : aE := (83, 3, ([(.ofNat 0, .ofNat 3), (.ofNat 24, .ofNat 341)], [(57, 23, .inl (0, .ofNat 0)), (52, 6, .inl (1, .ofNat 0))], 0, [some (.inr [52]), some (.inr [20, 21, 22, 23, 24, 25, 26, 27]), some (.inl (.inl (.inr (.ofNat 23)))), none, none], []), ([], none), ([], [], none, ([], [])), ([(52, 6), (58, 0), (58, 1), (58, 2), (58, 3), (58, 4), (58, 5), (58, 6)], [54, 55, 56, 57]))
def kC620_0 : aC := (([(.ofNat 0, .ofNat 3), (.ofNat 24, .ofNat 341), (.ofNat 0, .ofNat 4), (.ofNat 24, .ofNat 341)], [(57, 23, .inl (0, .ofNat 0)), (52, 6, .inl (3, .ofNat 0))], 2, [some (.inr [52]), some (.inr [20, 21, 22, 23, 24, 25, 26, 27]), some (.inl (.inl (.inr (.ofNat 23)))), some (.inl (.inl (.inl (2, .ofNat 0)))), none], []), ([], []), (4, [(-1, 2)]))
theorem ks620 : aseg kS krf kB [kE542, kE543] (ksp []) kE620 [kC620_0] 30000 (none) = true := by decide +kernel
theorem ks620_0 : aseg kS krf kB [kE542, kE543] (ksp []) kE620 [kC620_0] 30000 (some kC620_0) = true := by decide +kernel
theorem kok620 : aOK kS krf kB kE620 := aOK_of (kal1 kok542 (kal1 kok543 kal0)) (kcl1 ks620_0 kcl0) ks620
/-- ColdShod$StrokePlan.addNext(LColdShod$Idea;I)V -/
def kE621 : aE := (83, 3, ([(.ofNat 0, .ofNat 3), (.ofNat 23, .ofNat 341)], [(57, 22, .inl (0, .ofNat 0)), (52, 6, .inl (1, .ofNat 0))], 0, [some (.inr [52]), some (.inr [20, 21, 22, 23, 24, 25, 26, 27]), some (.inl (.inl (.inr (.ofNat 22)))), none, none], []), ([], none), ([], [], none, ([], [])), ([(52, 6), (58, 0), (58, 1), (58, 2), (58, 3), (58, 4), (58, 5), (58, 6)], [54, 55, 56, 57]))
def kC621_0 : aC := (([(.ofNat 0, .ofNat 3), (.ofNat 23, .ofNat 341), (.ofNat 0, .ofNat 4), (.ofNat 23, .ofNat 341)], [(57, 22, .inl (0, .ofNat 0)), (52, 6, .inl (3, .ofNat 0))], 2, [some (.inr [52]), some (.inr [20, 21, 22, 23, 24, 25, 26, 27]), some (.inl (.inl (.inr (.ofNat 22)))), some (.inl (.inl (.inl (2, .ofNat 0)))), none], []), ([], []), (4, [(-1, 2)]))
theorem ks621 : aseg kS krf kB [kE542, kE543] (ksp []) kE621 [kC621_0] 30000 (none) = true := by decide +kernel
theorem ks621_0 : aseg kS krf kB [kE542, kE543] (ksp []) kE621 [kC621_0] 30000 (some kC621_0) = true := by decide +kernel
theorem kok621 : aOK kS krf kB kE621 := aOK_of (kal1 kok542 (kal1 kok543 kal0)) (kcl1 ks621_0 kcl0) ks621
/-- ColdShod$StrokePlan.addNext(LColdShod$Idea;I)V -/
def kE622 : aE := (83, 3, ([(.ofNat 0, .ofNat 3), (.ofNat 22, .ofNat 341)], [(57, 21, .inl (0, .ofNat 0)), (52, 6, .inl (1, .ofNat 0))], 0, [some (.inr [52]), some (.inr [20, 21, 22, 23, 24, 25, 26, 27]), some (.inl (.inl (.inr (.ofNat 21)))), none, none], []), ([], none), ([], [], none, ([], [])), ([(52, 6), (58, 0), (58, 1), (58, 2), (58, 3), (58, 4), (58, 5), (58, 6)], [54, 55, 56, 57]))
def kC622_0 : aC := (([(.ofNat 0, .ofNat 3), (.ofNat 22, .ofNat 341), (.ofNat 0, .ofNat 4), (.ofNat 22, .ofNat 341)], [(57, 21, .inl (0, .ofNat 0)), (52, 6, .inl (3, .ofNat 0))], 2, [some (.inr [52]), some (.inr [20, 21, 22, 23, 24, 25, 26, 27]), some (.inl (.inl (.inr (.ofNat 21)))), some (.inl (.inl (.inl (2, .ofNat 0)))), none], []), ([], []), (4, [(-1, 2)]))
theorem ks622 : aseg kS krf kB [kE542, kE543] (ksp []) kE622 [kC622_0] 30000 (none) = true := by decide +kernel
theorem ks622_0 : aseg kS krf kB [kE542, kE543] (ksp []) kE622 [kC622_0] 30000 (some kC622_0) = true := by decide +kernel
theorem kok622 : aOK kS krf kB kE622 := aOK_of (kal1 kok542 (kal1 kok543 kal0)) (kcl1 ks622_0 kcl0) ks622
/-- ColdShod$StrokePlan.addNext(LColdShod$Idea;I)V -/
def kE623 : aE := (83, 3, ([(.ofNat 0, .ofNat 3), (.ofNat 21, .ofNat 341)], [(57, 20, .inl (0, .ofNat 0)), (52, 6, .inl (1, .ofNat 0))], 0, [some (.inr [52]), some (.inr [20, 21, 22, 23, 24, 25, 26, 27]), some (.inl (.inl (.inr (.ofNat 20)))), none, none], []), ([], none), ([], [], none, ([], [])), ([(52, 6), (58, 0), (58, 1), (58, 2), (58, 3), (58, 4), (58, 5), (58, 6)], [54, 55, 56, 57]))
def kC623_0 : aC := (([(.ofNat 0, .ofNat 3), (.ofNat 21, .ofNat 341), (.ofNat 0, .ofNat 4), (.ofNat 21, .ofNat 341)], [(57, 20, .inl (0, .ofNat 0)), (52, 6, .inl (3, .ofNat 0))], 2, [some (.inr [52]), some (.inr [20, 21, 22, 23, 24, 25, 26, 27]), some (.inl (.inl (.inr (.ofNat 20)))), some (.inl (.inl (.inl (2, .ofNat 0)))), none], []), ([], []), (4, [(-1, 2)]))
theorem ks623 : aseg kS krf kB [kE542, kE543] (ksp []) kE623 [kC623_0] 30000 (none) = true := by decide +kernel
theorem ks623_0 : aseg kS krf kB [kE542, kE543] (ksp []) kE623 [kC623_0] 30000 (some kC623_0) = true := by decide +kernel
theorem kok623 : aOK kS krf kB kE623 := aOK_of (kal1 kok542 (kal1 kok543 kal0)) (kcl1 ks623_0 kcl0) ks623
/-- ColdShod$StrokePlan.addNext(LColdShod$Idea;I)V -/
def kE624 : aE := (83, 3, ([(.ofNat 0, .ofNat 3), (.ofNat 100, .ofNat 341)], [(57, 99, .inl (0, .ofNat 0)), (52, 6, .inl (1, .ofNat 0))], 0, [some (.inr [52]), some (.inr [20, 21, 22, 23, 24, 25, 26, 27]), some (.inl (.inl (.inr (.ofNat 99)))), none, none], []), ([], none), ([], [], none, ([], [])), ([(52, 6), (58, 0), (58, 1), (58, 2), (58, 3), (58, 4), (58, 5), (58, 6)], [54, 55, 56, 57]))
def kC624_0 : aC := (([(.ofNat 0, .ofNat 3), (.ofNat 100, .ofNat 341), (.ofNat 0, .ofNat 4), (.ofNat 100, .ofNat 341)], [(57, 99, .inl (0, .ofNat 0)), (52, 6, .inl (3, .ofNat 0))], 2, [some (.inr [52]), some (.inr [20, 21, 22, 23, 24, 25, 26, 27]), some (.inl (.inl (.inr (.ofNat 99)))), some (.inl (.inl (.inl (2, .ofNat 0)))), none], []), ([], []), (4, [(-1, 2)]))
theorem ks624 : aseg kS krf kB [kE542, kE543] (ksp []) kE624 [kC624_0] 30000 (none) = true := by decide +kernel
theorem ks624_0 : aseg kS krf kB [kE542, kE543] (ksp []) kE624 [kC624_0] 30000 (some kC624_0) = true := by decide +kernel
theorem kok624 : aOK kS krf kB kE624 := aOK_of (kal1 kok542 (kal1 kok543 kal0)) (kcl1 ks624_0 kcl0) ks624
/-- ColdShod$StrokePlan.addNext(LColdShod$Idea;I)V -/
def kE625 : aE := (83, 3, ([(.ofNat 0, .ofNat 3), (.ofNat 99, .ofNat 341)], [(57, 98, .inl (0, .ofNat 0)), (52, 6, .inl (1, .ofNat 0))], 0, [some (.inr [52]), some (.inr [20, 21, 22, 23, 24, 25, 26, 27]), some (.inl (.inl (.inr (.ofNat 98)))), none, none], []), ([], none), ([], [], none, ([], [])), ([(52, 6), (58, 0), (58, 1), (58, 2), (58, 3), (58, 4), (58, 5), (58, 6)], [54, 55, 56, 57]))
def kC625_0 : aC := (([(.ofNat 0, .ofNat 3), (.ofNat 99, .ofNat 341), (.ofNat 0, .ofNat 4), (.ofNat 99, .ofNat 341)], [(57, 98, .inl (0, .ofNat 0)), (52, 6, .inl (3, .ofNat 0))], 2, [some (.inr [52]), some (.inr [20, 21, 22, 23, 24, 25, 26, 27]), some (.inl (.inl (.inr (.ofNat 98)))), some (.inl (.inl (.inl (2, .ofNat 0)))), none], []), ([], []), (4, [(-1, 2)]))
theorem ks625 : aseg kS krf kB [kE542, kE543] (ksp []) kE625 [kC625_0] 30000 (none) = true := by decide +kernel
theorem ks625_0 : aseg kS krf kB [kE542, kE543] (ksp []) kE625 [kC625_0] 30000 (some kC625_0) = true := by decide +kernel
theorem kok625 : aOK kS krf kB kE625 := aOK_of (kal1 kok542 (kal1 kok543 kal0)) (kcl1 ks625_0 kcl0) ks625
/-- ColdShod$StrokePlan.addNext(LColdShod$Idea;I)V -/
def kE626 : aE := (83, 3, ([(.ofNat 0, .ofNat 3), (.ofNat 98, .ofNat 341)], [(57, 97, .inl (0, .ofNat 0)), (52, 6, .inl (1, .ofNat 0))], 0, [some (.inr [52]), some (.inr [20, 21, 22, 23, 24, 25, 26, 27]), some (.inl (.inl (.inr (.ofNat 97)))), none, none], []), ([], none), ([], [], none, ([], [])), ([(52, 6), (58, 0), (58, 1), (58, 2), (58, 3), (58, 4), (58, 5), (58, 6)], [54, 55, 56, 57]))
def kC626_0 : aC := (([(.ofNat 0, .ofNat 3), (.ofNat 98, .ofNat 341), (.ofNat 0, .ofNat 4), (.ofNat 98, .ofNat 341)], [(57, 97, .inl (0, .ofNat 0)), (52, 6, .inl (3, .ofNat 0))], 2, [some (.inr [52]), some (.inr [20, 21, 22, 23, 24, 25, 26, 27]), some (.inl (.inl (.inr (.ofNat 97)))), some (.inl (.inl (.inl (2, .ofNat 0)))), none], []), ([], []), (4, [(-1, 2)]))
theorem ks626 : aseg kS krf kB [kE542, kE543] (ksp []) kE626 [kC626_0] 30000 (none) = true := by decide +kernel
theorem ks626_0 : aseg kS krf kB [kE542, kE543] (ksp []) kE626 [kC626_0] 30000 (some kC626_0) = true := by decide +kernel
theorem kok626 : aOK kS krf kB kE626 := aOK_of (kal1 kok542 (kal1 kok543 kal0)) (kcl1 ks626_0 kcl0) ks626
/-- ColdShod$StrokePlan.addNext(LColdShod$Idea;I)V -/
def kE627 : aE := (83, 3, ([(.ofNat 0, .ofNat 3), (.ofNat 97, .ofNat 341)], [(57, 96, .inl (0, .ofNat 0)), (52, 6, .inl (1, .ofNat 0))], 0, [some (.inr [52]), some (.inr [20, 21, 22, 23, 24, 25, 26, 27]), some (.inl (.inl (.inr (.ofNat 96)))), none, none], []), ([], none), ([], [], none, ([], [])), ([(52, 6), (58, 0), (58, 1), (58, 2), (58, 3), (58, 4), (58, 5), (58, 6)], [54, 55, 56, 57]))
def kC627_0 : aC := (([(.ofNat 0, .ofNat 3), (.ofNat 97, .ofNat 341), (.ofNat 0, .ofNat 4), (.ofNat 97, .ofNat 341)], [(57, 96, .inl (0, .ofNat 0)), (52, 6, .inl (3, .ofNat 0))], 2, [some (.inr [52]), some (.inr [20, 21, 22, 23, 24, 25, 26, 27]), some (.inl (.inl (.inr (.ofNat 96)))), some (.inl (.inl (.inl (2, .ofNat 0)))), none], []), ([], []), (4, [(-1, 2)]))
theorem ks627 : aseg kS krf kB [kE542, kE543] (ksp []) kE627 [kC627_0] 30000 (none) = true := by decide +kernel
theorem ks627_0 : aseg kS krf kB [kE542, kE543] (ksp []) kE627 [kC627_0] 30000 (some kC627_0) = true := by decide +kernel
theorem kok627 : aOK kS krf kB kE627 := aOK_of (kal1 kok542 (kal1 kok543 kal0)) (kcl1 ks627_0 kcl0) ks627
/-- ColdShod$StrokePlan.addNext(LColdShod$Idea;I)V -/
def kE628 : aE := (83, 3, ([(.ofNat 0, .ofNat 3), (.ofNat 96, .ofNat 341)], [(57, 95, .inl (0, .ofNat 0)), (52, 6, .inl (1, .ofNat 0))], 0, [some (.inr [52]), some (.inr [20, 21, 22, 23, 24, 25, 26, 27]), some (.inl (.inl (.inr (.ofNat 95)))), none, none], []), ([], none), ([], [], none, ([], [])), ([(52, 6), (58, 0), (58, 1), (58, 2), (58, 3), (58, 4), (58, 5), (58, 6)], [54, 55, 56, 57]))
def kC628_0 : aC := (([(.ofNat 0, .ofNat 3), (.ofNat 96, .ofNat 341), (.ofNat 0, .ofNat 4), (.ofNat 96, .ofNat 341)], [(57, 95, .inl (0, .ofNat 0)), (52, 6, .inl (3, .ofNat 0))], 2, [some (.inr [52]), some (.inr [20, 21, 22, 23, 24, 25, 26, 27]), some (.inl (.inl (.inr (.ofNat 95)))), some (.inl (.inl (.inl (2, .ofNat 0)))), none], []), ([], []), (4, [(-1, 2)]))
theorem ks628 : aseg kS krf kB [kE542, kE543] (ksp []) kE628 [kC628_0] 30000 (none) = true := by decide +kernel
theorem ks628_0 : aseg kS krf kB [kE542, kE543] (ksp []) kE628 [kC628_0] 30000 (some kC628_0) = true := by decide +kernel
theorem kok628 : aOK kS krf kB kE628 := aOK_of (kal1 kok542 (kal1 kok543 kal0)) (kcl1 ks628_0 kcl0) ks628
/-- ColdShod$StrokePlan.addNext(LColdShod$Idea;I)V -/
def kE629 : aE := (83, 3, ([(.ofNat 0, .ofNat 3), (.ofNat 95, .ofNat 341)], [(57, 94, .inl (0, .ofNat 0)), (52, 6, .inl (1, .ofNat 0))], 0, [some (.inr [52]), some (.inr [20, 21, 22, 23, 24, 25, 26, 27]), some (.inl (.inl (.inr (.ofNat 94)))), none, none], []), ([], none), ([], [], none, ([], [])), ([(52, 6), (58, 0), (58, 1), (58, 2), (58, 3), (58, 4), (58, 5), (58, 6)], [54, 55, 56, 57]))
def kC629_0 : aC := (([(.ofNat 0, .ofNat 3), (.ofNat 95, .ofNat 341), (.ofNat 0, .ofNat 4), (.ofNat 95, .ofNat 341)], [(57, 94, .inl (0, .ofNat 0)), (52, 6, .inl (3, .ofNat 0))], 2, [some (.inr [52]), some (.inr [20, 21, 22, 23, 24, 25, 26, 27]), some (.inl (.inl (.inr (.ofNat 94)))), some (.inl (.inl (.inl (2, .ofNat 0)))), none], []), ([], []), (4, [(-1, 2)]))
theorem ks629 : aseg kS krf kB [kE542, kE543] (ksp []) kE629 [kC629_0] 30000 (none) = true := by decide +kernel
theorem ks629_0 : aseg kS krf kB [kE542, kE543] (ksp []) kE629 [kC629_0] 30000 (some kC629_0) = true := by decide +kernel
theorem kok629 : aOK kS krf kB kE629 := aOK_of (kal1 kok542 (kal1 kok543 kal0)) (kcl1 ks629_0 kcl0) ks629
/-- ColdShod$StrokePlan.addNext(LColdShod$Idea;I)V -/
def kE630 : aE := (83, 3, ([(.ofNat 0, .ofNat 3), (.ofNat 94, .ofNat 341)], [(57, 93, .inl (0, .ofNat 0)), (52, 6, .inl (1, .ofNat 0))], 0, [some (.inr [52]), some (.inr [20, 21, 22, 23, 24, 25, 26, 27]), some (.inl (.inl (.inr (.ofNat 93)))), none, none], []), ([], none), ([], [], none, ([], [])), ([(52, 6), (58, 0), (58, 1), (58, 2), (58, 3), (58, 4), (58, 5), (58, 6)], [54, 55, 56, 57]))
def kC630_0 : aC := (([(.ofNat 0, .ofNat 3), (.ofNat 94, .ofNat 341), (.ofNat 0, .ofNat 4), (.ofNat 94, .ofNat 341)], [(57, 93, .inl (0, .ofNat 0)), (52, 6, .inl (3, .ofNat 0))], 2, [some (.inr [52]), some (.inr [20, 21, 22, 23, 24, 25, 26, 27]), some (.inl (.inl (.inr (.ofNat 93)))), some (.inl (.inl (.inl (2, .ofNat 0)))), none], []), ([], []), (4, [(-1, 2)]))
theorem ks630 : aseg kS krf kB [kE542, kE543] (ksp []) kE630 [kC630_0] 30000 (none) = true := by decide +kernel
theorem ks630_0 : aseg kS krf kB [kE542, kE543] (ksp []) kE630 [kC630_0] 30000 (some kC630_0) = true := by decide +kernel
theorem kok630 : aOK kS krf kB kE630 := aOK_of (kal1 kok542 (kal1 kok543 kal0)) (kcl1 ks630_0 kcl0) ks630
/-- ColdShod$StrokePlan.addNext(LColdShod$Idea;I)V -/
def kE631 : aE := (83, 3, ([(.ofNat 0, .ofNat 3), (.ofNat 93, .ofNat 341)], [(57, 92, .inl (0, .ofNat 0)), (52, 6, .inl (1, .ofNat 0))], 0, [some (.inr [52]), some (.inr [20, 21, 22, 23, 24, 25, 26, 27]), some (.inl (.inl (.inr (.ofNat 92)))), none, none], []), ([], none), ([], [], none, ([], [])), ([(52, 6), (58, 0), (58, 1), (58, 2), (58, 3), (58, 4), (58, 5), (58, 6)], [54, 55, 56, 57]))
def kC631_0 : aC := (([(.ofNat 0, .ofNat 3), (.ofNat 93, .ofNat 341), (.ofNat 0, .ofNat 4), (.ofNat 93, .ofNat 341)], [(57, 92, .inl (0, .ofNat 0)), (52, 6, .inl (3, .ofNat 0))], 2, [some (.inr [52]), some (.inr [20, 21, 22, 23, 24, 25, 26, 27]), some (.inl (.inl (.inr (.ofNat 92)))), some (.inl (.inl (.inl (2, .ofNat 0)))), none], []), ([], []), (4, [(-1, 2)]))
theorem ks631 : aseg kS krf kB [kE542, kE543] (ksp []) kE631 [kC631_0] 30000 (none) = true := by decide +kernel
theorem ks631_0 : aseg kS krf kB [kE542, kE543] (ksp []) kE631 [kC631_0] 30000 (some kC631_0) = true := by decide +kernel
theorem kok631 : aOK kS krf kB kE631 := aOK_of (kal1 kok542 (kal1 kok543 kal0)) (kcl1 ks631_0 kcl0) ks631
/-- ColdShod$StrokePlan.addNext(LColdShod$Idea;I)V -/
def kE632 : aE := (83, 3, ([(.ofNat 0, .ofNat 3), (.ofNat 92, .ofNat 341)], [(57, 91, .inl (0, .ofNat 0)), (52, 6, .inl (1, .ofNat 0))], 0, [some (.inr [52]), some (.inr [20, 21, 22, 23, 24, 25, 26, 27]), some (.inl (.inl (.inr (.ofNat 91)))), none, none], []), ([], none), ([], [], none, ([], [])), ([(52, 6), (58, 0), (58, 1), (58, 2), (58, 3), (58, 4), (58, 5), (58, 6)], [54, 55, 56, 57]))
def kC632_0 : aC := (([(.ofNat 0, .ofNat 3), (.ofNat 92, .ofNat 341), (.ofNat 0, .ofNat 4), (.ofNat 92, .ofNat 341)], [(57, 91, .inl (0, .ofNat 0)), (52, 6, .inl (3, .ofNat 0))], 2, [some (.inr [52]), some (.inr [20, 21, 22, 23, 24, 25, 26, 27]), some (.inl (.inl (.inr (.ofNat 91)))), some (.inl (.inl (.inl (2, .ofNat 0)))), none], []), ([], []), (4, [(-1, 2)]))
theorem ks632 : aseg kS krf kB [kE542, kE543] (ksp []) kE632 [kC632_0] 30000 (none) = true := by decide +kernel
theorem ks632_0 : aseg kS krf kB [kE542, kE543] (ksp []) kE632 [kC632_0] 30000 (some kC632_0) = true := by decide +kernel
theorem kok632 : aOK kS krf kB kE632 := aOK_of (kal1 kok542 (kal1 kok543 kal0)) (kcl1 ks632_0 kcl0) ks632
/-- ColdShod$StrokePlan.addNext(LColdShod$Idea;I)V -/
def kE633 : aE := (83, 3, ([(.ofNat 0, .ofNat 3), (.ofNat 91, .ofNat 341)], [(57, 90, .inl (0, .ofNat 0)), (52, 6, .inl (1, .ofNat 0))], 0, [some (.inr [52]), some (.inr [20, 21, 22, 23, 24, 25, 26, 27]), some (.inl (.inl (.inr (.ofNat 90)))), none, none], []), ([], none), ([], [], none, ([], [])), ([(52, 6), (58, 0), (58, 1), (58, 2), (58, 3), (58, 4), (58, 5), (58, 6)], [54, 55, 56, 57]))
def kC633_0 : aC := (([(.ofNat 0, .ofNat 3), (.ofNat 91, .ofNat 341), (.ofNat 0, .ofNat 4), (.ofNat 91, .ofNat 341)], [(57, 90, .inl (0, .ofNat 0)), (52, 6, .inl (3, .ofNat 0))], 2, [some (.inr [52]), some (.inr [20, 21, 22, 23, 24, 25, 26, 27]), some (.inl (.inl (.inr (.ofNat 90)))), some (.inl (.inl (.inl (2, .ofNat 0)))), none], []), ([], []), (4, [(-1, 2)]))
theorem ks633 : aseg kS krf kB [kE542, kE543] (ksp []) kE633 [kC633_0] 30000 (none) = true := by decide +kernel
theorem ks633_0 : aseg kS krf kB [kE542, kE543] (ksp []) kE633 [kC633_0] 30000 (some kC633_0) = true := by decide +kernel
theorem kok633 : aOK kS krf kB kE633 := aOK_of (kal1 kok542 (kal1 kok543 kal0)) (kcl1 ks633_0 kcl0) ks633
/-- ColdShod$StrokePlan.addNext(LColdShod$Idea;I)V -/
def kE634 : aE := (83, 3, ([(.ofNat 0, .ofNat 3), (.ofNat 90, .ofNat 341)], [(57, 89, .inl (0, .ofNat 0)), (52, 6, .inl (1, .ofNat 0))], 0, [some (.inr [52]), some (.inr [20, 21, 22, 23, 24, 25, 26, 27]), some (.inl (.inl (.inr (.ofNat 89)))), none, none], []), ([], none), ([], [], none, ([], [])), ([(52, 6), (58, 0), (58, 1), (58, 2), (58, 3), (58, 4), (58, 5), (58, 6)], [54, 55, 56, 57]))
def kC634_0 : aC := (([(.ofNat 0, .ofNat 3), (.ofNat 90, .ofNat 341), (.ofNat 0, .ofNat 4), (.ofNat 90, .ofNat 341)], [(57, 89, .inl (0, .ofNat 0)), (52, 6, .inl (3, .ofNat 0))], 2, [some (.inr [52]), some (.inr [20, 21, 22, 23, 24, 25, 26, 27]), some (.inl (.inl (.inr (.ofNat 89)))), some (.inl (.inl (.inl (2, .ofNat 0)))), none], []), ([], []), (4, [(-1, 2)]))
theorem ks634 : aseg kS krf kB [kE542, kE543] (ksp []) kE634 [kC634_0] 30000 (none) = true := by decide +kernel
theorem ks634_0 : aseg kS krf kB [kE542, kE543] (ksp []) kE634 [kC634_0] 30000 (some kC634_0) = true := by decide +kernel
theorem kok634 : aOK kS krf kB kE634 := aOK_of (kal1 kok542 (kal1 kok543 kal0)) (kcl1 ks634_0 kcl0) ks634
/-- ColdShod$StrokePlan.addNext(LColdShod$Idea;I)V -/
def kE635 : aE := (83, 3, ([(.ofNat 0, .ofNat 3), (.ofNat 89, .ofNat 341)], [(57, 88, .inl (0, .ofNat 0)), (52, 6, .inl (1, .ofNat 0))], 0, [some (.inr [52]), some (.inr [20, 21, 22, 23, 24, 25, 26, 27]), some (.inl (.inl (.inr (.ofNat 88)))), none, none], []), ([], none), ([], [], none, ([], [])), ([(52, 6), (58, 0), (58, 1), (58, 2), (58, 3), (58, 4), (58, 5), (58, 6)], [54, 55, 56, 57]))
def kC635_0 : aC := (([(.ofNat 0, .ofNat 3), (.ofNat 89, .ofNat 341), (.ofNat 0, .ofNat 4), (.ofNat 89, .ofNat 341)], [(57, 88, .inl (0, .ofNat 0)), (52, 6, .inl (3, .ofNat 0))], 2, [some (.inr [52]), some (.inr [20, 21, 22, 23, 24, 25, 26, 27]), some (.inl (.inl (.inr (.ofNat 88)))), some (.inl (.inl (.inl (2, .ofNat 0)))), none], []), ([], []), (4, [(-1, 2)]))
theorem ks635 : aseg kS krf kB [kE542, kE543] (ksp []) kE635 [kC635_0] 30000 (none) = true := by decide +kernel
theorem ks635_0 : aseg kS krf kB [kE542, kE543] (ksp []) kE635 [kC635_0] 30000 (some kC635_0) = true := by decide +kernel
theorem kok635 : aOK kS krf kB kE635 := aOK_of (kal1 kok542 (kal1 kok543 kal0)) (kcl1 ks635_0 kcl0) ks635
/-- ColdShod$StrokePlan.addNext(LColdShod$Idea;I)V -/
def kE636 : aE := (83, 3, ([(.ofNat 0, .ofNat 3), (.ofNat 88, .ofNat 341)], [(57, 87, .inl (0, .ofNat 0)), (52, 6, .inl (1, .ofNat 0))], 0, [some (.inr [52]), some (.inr [20, 21, 22, 23, 24, 25, 26, 27]), some (.inl (.inl (.inr (.ofNat 87)))), none, none], []), ([], none), ([], [], none, ([], [])), ([(52, 6), (58, 0), (58, 1), (58, 2), (58, 3), (58, 4), (58, 5), (58, 6)], [54, 55, 56, 57]))
def kC636_0 : aC := (([(.ofNat 0, .ofNat 3), (.ofNat 88, .ofNat 341), (.ofNat 0, .ofNat 4), (.ofNat 88, .ofNat 341)], [(57, 87, .inl (0, .ofNat 0)), (52, 6, .inl (3, .ofNat 0))], 2, [some (.inr [52]), some (.inr [20, 21, 22, 23, 24, 25, 26, 27]), some (.inl (.inl (.inr (.ofNat 87)))), some (.inl (.inl (.inl (2, .ofNat 0)))), none], []), ([], []), (4, [(-1, 2)]))
theorem ks636 : aseg kS krf kB [kE542, kE543] (ksp []) kE636 [kC636_0] 30000 (none) = true := by decide +kernel
theorem ks636_0 : aseg kS krf kB [kE542, kE543] (ksp []) kE636 [kC636_0] 30000 (some kC636_0) = true := by decide +kernel
theorem kok636 : aOK kS krf kB kE636 := aOK_of (kal1 kok542 (kal1 kok543 kal0)) (kcl1 ks636_0 kcl0) ks636
/-- ColdShod$StrokePlan.addNext(LColdShod$Idea;I)V -/
def kE637 : aE := (83, 3, ([(.ofNat 0, .ofNat 3), (.ofNat 87, .ofNat 341)], [(57, 86, .inl (0, .ofNat 0)), (52, 6, .inl (1, .ofNat 0))], 0, [some (.inr [52]), some (.inr [20, 21, 22, 23, 24, 25, 26, 27]), some (.inl (.inl (.inr (.ofNat 86)))), none, none], []), ([], none), ([], [], none, ([], [])), ([(52, 6), (58, 0), (58, 1), (58, 2), (58, 3), (58, 4), (58, 5), (58, 6)], [54, 55, 56, 57]))
def kC637_0 : aC := (([(.ofNat 0, .ofNat 3), (.ofNat 87, .ofNat 341), (.ofNat 0, .ofNat 4), (.ofNat 87, .ofNat 341)], [(57, 86, .inl (0, .ofNat 0)), (52, 6, .inl (3, .ofNat 0))], 2, [some (.inr [52]), some (.inr [20, 21, 22, 23, 24, 25, 26, 27]), some (.inl (.inl (.inr (.ofNat 86)))), some (.inl (.inl (.inl (2, .ofNat 0)))), none], []), ([], []), (4, [(-1, 2)]))
theorem ks637 : aseg kS krf kB [kE542, kE543] (ksp []) kE637 [kC637_0] 30000 (none) = true := by decide +kernel
theorem ks637_0 : aseg kS krf kB [kE542, kE543] (ksp []) kE637 [kC637_0] 30000 (some kC637_0) = true := by decide +kernel
theorem kok637 : aOK kS krf kB kE637 := aOK_of (kal1 kok542 (kal1 kok543 kal0)) (kcl1 ks637_0 kcl0) ks637
/-- ColdShod$StrokePlan.addNext(LColdShod$Idea;I)V -/
def kE638 : aE := (83, 3, ([(.ofNat 0, .ofNat 3), (.ofNat 86, .ofNat 341)], [(57, 85, .inl (0, .ofNat 0)), (52, 6, .inl (1, .ofNat 0))], 0, [some (.inr [52]), some (.inr [20, 21, 22, 23, 24, 25, 26, 27]), some (.inl (.inl (.inr (.ofNat 85)))), none, none], []), ([], none), ([], [], none, ([], [])), ([(52, 6), (58, 0), (58, 1), (58, 2), (58, 3), (58, 4), (58, 5), (58, 6)], [54, 55, 56, 57]))
def kC638_0 : aC := (([(.ofNat 0, .ofNat 3), (.ofNat 86, .ofNat 341), (.ofNat 0, .ofNat 4), (.ofNat 86, .ofNat 341)], [(57, 85, .inl (0, .ofNat 0)), (52, 6, .inl (3, .ofNat 0))], 2, [some (.inr [52]), some (.inr [20, 21, 22, 23, 24, 25, 26, 27]), some (.inl (.inl (.inr (.ofNat 85)))), some (.inl (.inl (.inl (2, .ofNat 0)))), none], []), ([], []), (4, [(-1, 2)]))
theorem ks638 : aseg kS krf kB [kE542, kE543] (ksp []) kE638 [kC638_0] 30000 (none) = true := by decide +kernel
theorem ks638_0 : aseg kS krf kB [kE542, kE543] (ksp []) kE638 [kC638_0] 30000 (some kC638_0) = true := by decide +kernel
theorem kok638 : aOK kS krf kB kE638 := aOK_of (kal1 kok542 (kal1 kok543 kal0)) (kcl1 ks638_0 kcl0) ks638
/-- ColdShod$StrokePlan.addNext(LColdShod$Idea;I)V -/
def kE639 : aE := (83, 3, ([(.ofNat 0, .ofNat 3), (.ofNat 85, .ofNat 341)], [(57, 84, .inl (0, .ofNat 0)), (52, 6, .inl (1, .ofNat 0))], 0, [some (.inr [52]), some (.inr [20, 21, 22, 23, 24, 25, 26, 27]), some (.inl (.inl (.inr (.ofNat 84)))), none, none], []), ([], none), ([], [], none, ([], [])), ([(52, 6), (58, 0), (58, 1), (58, 2), (58, 3), (58, 4), (58, 5), (58, 6)], [54, 55, 56, 57]))
def kC639_0 : aC := (([(.ofNat 0, .ofNat 3), (.ofNat 85, .ofNat 341), (.ofNat 0, .ofNat 4), (.ofNat 85, .ofNat 341)], [(57, 84, .inl (0, .ofNat 0)), (52, 6, .inl (3, .ofNat 0))], 2, [some (.inr [52]), some (.inr [20, 21, 22, 23, 24, 25, 26, 27]), some (.inl (.inl (.inr (.ofNat 84)))), some (.inl (.inl (.inl (2, .ofNat 0)))), none], []), ([], []), (4, [(-1, 2)]))
theorem ks639 : aseg kS krf kB [kE542, kE543] (ksp []) kE639 [kC639_0] 30000 (none) = true := by decide +kernel
theorem ks639_0 : aseg kS krf kB [kE542, kE543] (ksp []) kE639 [kC639_0] 30000 (some kC639_0) = true := by decide +kernel
theorem kok639 : aOK kS krf kB kE639 := aOK_of (kal1 kok542 (kal1 kok543 kal0)) (kcl1 ks639_0 kcl0) ks639
/-- ColdShod$StrokePlan.addNext(LColdShod$Idea;I)V -/
def kE640 : aE := (83, 3, ([(.ofNat 0, .ofNat 3), (.ofNat 84, .ofNat 341)], [(57, 83, .inl (0, .ofNat 0)), (52, 6, .inl (1, .ofNat 0))], 0, [some (.inr [52]), some (.inr [20, 21, 22, 23, 24, 25, 26, 27]), some (.inl (.inl (.inr (.ofNat 83)))), none, none], []), ([], none), ([], [], none, ([], [])), ([(52, 6), (58, 0), (58, 1), (58, 2), (58, 3), (58, 4), (58, 5), (58, 6)], [54, 55, 56, 57]))
def kC640_0 : aC := (([(.ofNat 0, .ofNat 3), (.ofNat 84, .ofNat 341), (.ofNat 0, .ofNat 4), (.ofNat 84, .ofNat 341)], [(57, 83, .inl (0, .ofNat 0)), (52, 6, .inl (3, .ofNat 0))], 2, [some (.inr [52]), some (.inr [20, 21, 22, 23, 24, 25, 26, 27]), some (.inl (.inl (.inr (.ofNat 83)))), some (.inl (.inl (.inl (2, .ofNat 0)))), none], []), ([], []), (4, [(-1, 2)]))
theorem ks640 : aseg kS krf kB [kE542, kE543] (ksp []) kE640 [kC640_0] 30000 (none) = true := by decide +kernel
theorem ks640_0 : aseg kS krf kB [kE542, kE543] (ksp []) kE640 [kC640_0] 30000 (some kC640_0) = true := by decide +kernel
theorem kok640 : aOK kS krf kB kE640 := aOK_of (kal1 kok542 (kal1 kok543 kal0)) (kcl1 ks640_0 kcl0) ks640
/-- ColdShod$StrokePlan.addNext(LColdShod$Idea;I)V -/
def kE641 : aE := (83, 3, ([(.ofNat 0, .ofNat 3), (.ofNat 83, .ofNat 341)], [(57, 82, .inl (0, .ofNat 0)), (52, 6, .inl (1, .ofNat 0))], 0, [some (.inr [52]), some (.inr [20, 21, 22, 23, 24, 25, 26, 27]), some (.inl (.inl (.inr (.ofNat 82)))), none, none], []), ([], none), ([], [], none, ([], [])), ([(52, 6), (58, 0), (58, 1), (58, 2), (58, 3), (58, 4), (58, 5), (58, 6)], [54, 55, 56, 57]))
def kC641_0 : aC := (([(.ofNat 0, .ofNat 3), (.ofNat 83, .ofNat 341), (.ofNat 0, .ofNat 4), (.ofNat 83, .ofNat 341)], [(57, 82, .inl (0, .ofNat 0)), (52, 6, .inl (3, .ofNat 0))], 2, [some (.inr [52]), some (.inr [20, 21, 22, 23, 24, 25, 26, 27]), some (.inl (.inl (.inr (.ofNat 82)))), some (.inl (.inl (.inl (2, .ofNat 0)))), none], []), ([], []), (4, [(-1, 2)]))
theorem ks641 : aseg kS krf kB [kE542, kE543] (ksp []) kE641 [kC641_0] 30000 (none) = true := by decide +kernel
theorem ks641_0 : aseg kS krf kB [kE542, kE543] (ksp []) kE641 [kC641_0] 30000 (some kC641_0) = true := by decide +kernel
theorem kok641 : aOK kS krf kB kE641 := aOK_of (kal1 kok542 (kal1 kok543 kal0)) (kcl1 ks641_0 kcl0) ks641
/-- ColdShod$StrokePlan.addNext(LColdShod$Idea;I)V -/
def kE642 : aE := (83, 3, ([(.ofNat 0, .ofNat 3), (.ofNat 82, .ofNat 341)], [(57, 81, .inl (0, .ofNat 0)), (52, 6, .inl (1, .ofNat 0))], 0, [some (.inr [52]), some (.inr [20, 21, 22, 23, 24, 25, 26, 27]), some (.inl (.inl (.inr (.ofNat 81)))), none, none], []), ([], none), ([], [], none, ([], [])), ([(52, 6), (58, 0), (58, 1), (58, 2), (58, 3), (58, 4), (58, 5), (58, 6)], [54, 55, 56, 57]))
def kC642_0 : aC := (([(.ofNat 0, .ofNat 3), (.ofNat 82, .ofNat 341), (.ofNat 0, .ofNat 4), (.ofNat 82, .ofNat 341)], [(57, 81, .inl (0, .ofNat 0)), (52, 6, .inl (3, .ofNat 0))], 2, [some (.inr [52]), some (.inr [20, 21, 22, 23, 24, 25, 26, 27]), some (.inl (.inl (.inr (.ofNat 81)))), some (.inl (.inl (.inl (2, .ofNat 0)))), none], []), ([], []), (4, [(-1, 2)]))
theorem ks642 : aseg kS krf kB [kE542, kE543] (ksp []) kE642 [kC642_0] 30000 (none) = true := by decide +kernel
theorem ks642_0 : aseg kS krf kB [kE542, kE543] (ksp []) kE642 [kC642_0] 30000 (some kC642_0) = true := by decide +kernel
theorem kok642 : aOK kS krf kB kE642 := aOK_of (kal1 kok542 (kal1 kok543 kal0)) (kcl1 ks642_0 kcl0) ks642
/-- ColdShod$StrokePlan.addNext(LColdShod$Idea;I)V -/
def kE643 : aE := (83, 3, ([(.ofNat 0, .ofNat 3), (.ofNat 81, .ofNat 341)], [(57, 80, .inl (0, .ofNat 0)), (52, 6, .inl (1, .ofNat 0))], 0, [some (.inr [52]), some (.inr [20, 21, 22, 23, 24, 25, 26, 27]), some (.inl (.inl (.inr (.ofNat 80)))), none, none], []), ([], none), ([], [], none, ([], [])), ([(52, 6), (58, 0), (58, 1), (58, 2), (58, 3), (58, 4), (58, 5), (58, 6)], [54, 55, 56, 57]))
def kC643_0 : aC := (([(.ofNat 0, .ofNat 3), (.ofNat 81, .ofNat 341), (.ofNat 0, .ofNat 4), (.ofNat 81, .ofNat 341)], [(57, 80, .inl (0, .ofNat 0)), (52, 6, .inl (3, .ofNat 0))], 2, [some (.inr [52]), some (.inr [20, 21, 22, 23, 24, 25, 26, 27]), some (.inl (.inl (.inr (.ofNat 80)))), some (.inl (.inl (.inl (2, .ofNat 0)))), none], []), ([], []), (4, [(-1, 2)]))
theorem ks643 : aseg kS krf kB [kE542, kE543] (ksp []) kE643 [kC643_0] 30000 (none) = true := by decide +kernel
theorem ks643_0 : aseg kS krf kB [kE542, kE543] (ksp []) kE643 [kC643_0] 30000 (some kC643_0) = true := by decide +kernel
theorem kok643 : aOK kS krf kB kE643 := aOK_of (kal1 kok542 (kal1 kok543 kal0)) (kcl1 ks643_0 kcl0) ks643
/-- ColdShod$StrokePlan.addNext(LColdShod$Idea;I)V -/
def kE644 : aE := (83, 3, ([(.ofNat 0, .ofNat 3), (.ofNat 120, .ofNat 341)], [(57, 119, .inl (0, .ofNat 0)), (52, 6, .inl (1, .ofNat 0))], 0, [some (.inr [52]), some (.inr [20, 21, 22, 23, 24, 25, 26, 27]), some (.inl (.inl (.inr (.ofNat 119)))), none, none], []), ([], none), ([], [], none, ([], [])), ([(52, 6), (58, 0), (58, 1), (58, 2), (58, 3), (58, 4), (58, 5), (58, 6)], [54, 55, 56, 57]))
def kC644_0 : aC := (([(.ofNat 0, .ofNat 3), (.ofNat 120, .ofNat 341), (.ofNat 0, .ofNat 4), (.ofNat 120, .ofNat 341)], [(57, 119, .inl (0, .ofNat 0)), (52, 6, .inl (3, .ofNat 0))], 2, [some (.inr [52]), some (.inr [20, 21, 22, 23, 24, 25, 26, 27]), some (.inl (.inl (.inr (.ofNat 119)))), some (.inl (.inl (.inl (2, .ofNat 0)))), none], []), ([], []), (4, [(-1, 2)]))
theorem ks644 : aseg kS krf kB [kE542, kE543] (ksp []) kE644 [kC644_0] 30000 (none) = true := by decide +kernel
theorem ks644_0 : aseg kS krf kB [kE542, kE543] (ksp []) kE644 [kC644_0] 30000 (some kC644_0) = true := by decide +kernel
theorem kok644 : aOK kS krf kB kE644 := aOK_of (kal1 kok542 (kal1 kok543 kal0)) (kcl1 ks644_0 kcl0) ks644
/-- ColdShod$StrokePlan.addNext(LColdShod$Idea;I)V -/
def kE645 : aE := (83, 3, ([(.ofNat 0, .ofNat 3), (.ofNat 119, .ofNat 341)], [(57, 118, .inl (0, .ofNat 0)), (52, 6, .inl (1, .ofNat 0))], 0, [some (.inr [52]), some (.inr [20, 21, 22, 23, 24, 25, 26, 27]), some (.inl (.inl (.inr (.ofNat 118)))), none, none], []), ([], none), ([], [], none, ([], [])), ([(52, 6), (58, 0), (58, 1), (58, 2), (58, 3), (58, 4), (58, 5), (58, 6)], [54, 55, 56, 57]))
def kC645_0 : aC := (([(.ofNat 0, .ofNat 3), (.ofNat 119, .ofNat 341), (.ofNat 0, .ofNat 4), (.ofNat 119, .ofNat 341)], [(57, 118, .inl (0, .ofNat 0)), (52, 6, .inl (3, .ofNat 0))], 2, [some (.inr [52]), some (.inr [20, 21, 22, 23, 24, 25, 26, 27]), some (.inl (.inl (.inr (.ofNat 118)))), some (.inl (.inl (.inl (2, .ofNat 0)))), none], []), ([], []), (4, [(-1, 2)]))
theorem ks645 : aseg kS krf kB [kE542, kE543] (ksp []) kE645 [kC645_0] 30000 (none) = true := by decide +kernel
theorem ks645_0 : aseg kS krf kB [kE542, kE543] (ksp []) kE645 [kC645_0] 30000 (some kC645_0) = true := by decide +kernel
theorem kok645 : aOK kS krf kB kE645 := aOK_of (kal1 kok542 (kal1 kok543 kal0)) (kcl1 ks645_0 kcl0) ks645
/-- ColdShod$StrokePlan.addNext(LColdShod$Idea;I)V -/
def kE646 : aE := (83, 3, ([(.ofNat 0, .ofNat 3), (.ofNat 118, .ofNat 341)], [(57, 117, .inl (0, .ofNat 0)), (52, 6, .inl (1, .ofNat 0))], 0, [some (.inr [52]), some (.inr [20, 21, 22, 23, 24, 25, 26, 27]), some (.inl (.inl (.inr (.ofNat 117)))), none, none], []), ([], none), ([], [], none, ([], [])), ([(52, 6), (58, 0), (58, 1), (58, 2), (58, 3), (58, 4), (58, 5), (58, 6)], [54, 55, 56, 57]))
def kC646_0 : aC := (([(.ofNat 0, .ofNat 3), (.ofNat 118, .ofNat 341), (.ofNat 0, .ofNat 4), (.ofNat 118, .ofNat 341)], [(57, 117, .inl (0, .ofNat 0)), (52, 6, .inl (3, .ofNat 0))], 2, [some (.inr [52]), some (.inr [20, 21, 22, 23, 24, 25, 26, 27]), some (.inl (.inl (.inr (.ofNat 117)))), some (.inl (.inl (.inl (2, .ofNat 0)))), none], []), ([], []), (4, [(-1, 2)]))
theorem ks646 : aseg kS krf kB [kE542, kE543] (ksp []) kE646 [kC646_0] 30000 (none) = true := by decide +kernel
theorem ks646_0 : aseg kS krf kB [kE542, kE543] (ksp []) kE646 [kC646_0] 30000 (some kC646_0) = true := by decide +kernel
theorem kok646 : aOK kS krf kB kE646 := aOK_of (kal1 kok542 (kal1 kok543 kal0)) (kcl1 ks646_0 kcl0) ks646
/-- ColdShod$StrokePlan.addNext(LColdShod$Idea;I)V -/
def kE647 : aE := (83, 3, ([(.ofNat 0, .ofNat 3), (.ofNat 117, .ofNat 341)], [(57, 116, .inl (0, .ofNat 0)), (52, 6, .inl (1, .ofNat 0))], 0, [some (.inr [52]), some (.inr [20, 21, 22, 23, 24, 25, 26, 27]), some (.inl (.inl (.inr (.ofNat 116)))), none, none], []), ([], none), ([], [], none, ([], [])), ([(52, 6), (58, 0), (58, 1), (58, 2), (58, 3), (58, 4), (58, 5), (58, 6)], [54, 55, 56, 57]))
def kC647_0 : aC := (([(.ofNat 0, .ofNat 3), (.ofNat 117, .ofNat 341), (.ofNat 0, .ofNat 4), (.ofNat 117, .ofNat 341)], [(57, 116, .inl (0, .ofNat 0)), (52, 6, .inl (3, .ofNat 0))], 2, [some (.inr [52]), some (.inr [20, 21, 22, 23, 24, 25, 26, 27]), some (.inl (.inl (.inr (.ofNat 116)))), some (.inl (.inl (.inl (2, .ofNat 0)))), none], []), ([], []), (4, [(-1, 2)]))
theorem ks647 : aseg kS krf kB [kE542, kE543] (ksp []) kE647 [kC647_0] 30000 (none) = true := by decide +kernel
theorem ks647_0 : aseg kS krf kB [kE542, kE543] (ksp []) kE647 [kC647_0] 30000 (some kC647_0) = true := by decide +kernel
theorem kok647 : aOK kS krf kB kE647 := aOK_of (kal1 kok542 (kal1 kok543 kal0)) (kcl1 ks647_0 kcl0) ks647
/-- ColdShod$StrokePlan.addNext(LColdShod$Idea;I)V -/
def kE648 : aE := (83, 3, ([(.ofNat 0, .ofNat 3), (.ofNat 116, .ofNat 341)], [(57, 115, .inl (0, .ofNat 0)), (52, 6, .inl (1, .ofNat 0))], 0, [some (.inr [52]), some (.inr [20, 21, 22, 23, 24, 25, 26, 27]), some (.inl (.inl (.inr (.ofNat 115)))), none, none], []), ([], none), ([], [], none, ([], [])), ([(52, 6), (58, 0), (58, 1), (58, 2), (58, 3), (58, 4), (58, 5), (58, 6)], [54, 55, 56, 57]))
def kC648_0 : aC := (([(.ofNat 0, .ofNat 3), (.ofNat 116, .ofNat 341), (.ofNat 0, .ofNat 4), (.ofNat 116, .ofNat 341)], [(57, 115, .inl (0, .ofNat 0)), (52, 6, .inl (3, .ofNat 0))], 2, [some (.inr [52]), some (.inr [20, 21, 22, 23, 24, 25, 26, 27]), some (.inl (.inl (.inr (.ofNat 115)))), some (.inl (.inl (.inl (2, .ofNat 0)))), none], []), ([], []), (4, [(-1, 2)]))
theorem ks648 : aseg kS krf kB [kE542, kE543] (ksp []) kE648 [kC648_0] 30000 (none) = true := by decide +kernel
theorem ks648_0 : aseg kS krf kB [kE542, kE543] (ksp []) kE648 [kC648_0] 30000 (some kC648_0) = true := by decide +kernel
theorem kok648 : aOK kS krf kB kE648 := aOK_of (kal1 kok542 (kal1 kok543 kal0)) (kcl1 ks648_0 kcl0) ks648
/-- ColdShod$StrokePlan.addNext(LColdShod$Idea;I)V -/
def kE649 : aE := (83, 3, ([(.ofNat 0, .ofNat 3), (.ofNat 115, .ofNat 341)], [(57, 114, .inl (0, .ofNat 0)), (52, 6, .inl (1, .ofNat 0))], 0, [some (.inr [52]), some (.inr [20, 21, 22, 23, 24, 25, 26, 27]), some (.inl (.inl (.inr (.ofNat 114)))), none, none], []), ([], none), ([], [], none, ([], [])), ([(52, 6), (58, 0), (58, 1), (58, 2), (58, 3), (58, 4), (58, 5), (58, 6)], [54, 55, 56, 57]))
def kC649_0 : aC := (([(.ofNat 0, .ofNat 3), (.ofNat 115, .ofNat 341), (.ofNat 0, .ofNat 4), (.ofNat 115, .ofNat 341)], [(57, 114, .inl (0, .ofNat 0)), (52, 6, .inl (3, .ofNat 0))], 2, [some (.inr [52]), some (.inr [20, 21, 22, 23, 24, 25, 26, 27]), some (.inl (.inl (.inr (.ofNat 114)))), some (.inl (.inl (.inl (2, .ofNat 0)))), none], []), ([], []), (4, [(-1, 2)]))
theorem ks649 : aseg kS krf kB [kE542, kE543] (ksp []) kE649 [kC649_0] 30000 (none) = true := by decide +kernel
theorem ks649_0 : aseg kS krf kB [kE542, kE543] (ksp []) kE649 [kC649_0] 30000 (some kC649_0) = true := by decide +kernel
theorem kok649 : aOK kS krf kB kE649 := aOK_of (kal1 kok542 (kal1 kok543 kal0)) (kcl1 ks649_0 kcl0) ks649
/-- ColdShod$StrokePlan.addNext(LColdShod$Idea;I)V -/
def kE650 : aE := (83, 3, ([(.ofNat 0, .ofNat 3), (.ofNat 114, .ofNat 341)], [(57, 113, .inl (0, .ofNat 0)), (52, 6, .inl (1, .ofNat 0))], 0, [some (.inr [52]), some (.inr [20, 21, 22, 23, 24, 25, 26, 27]), some (.inl (.inl (.inr (.ofNat 113)))), none, none], []), ([], none), ([], [], none, ([], [])), ([(52, 6), (58, 0), (58, 1), (58, 2), (58, 3), (58, 4), (58, 5), (58, 6)], [54, 55, 56, 57]))
def kC650_0 : aC := (([(.ofNat 0, .ofNat 3), (.ofNat 114, .ofNat 341), (.ofNat 0, .ofNat 4), (.ofNat 114, .ofNat 341)], [(57, 113, .inl (0, .ofNat 0)), (52, 6, .inl (3, .ofNat 0))], 2, [some (.inr [52]), some (.inr [20, 21, 22, 23, 24, 25, 26, 27]), some (.inl (.inl (.inr (.ofNat 113)))), some (.inl (.inl (.inl (2, .ofNat 0)))), none], []), ([], []), (4, [(-1, 2)]))
theorem ks650 : aseg kS krf kB [kE542, kE543] (ksp []) kE650 [kC650_0] 30000 (none) = true := by decide +kernel
theorem ks650_0 : aseg kS krf kB [kE542, kE543] (ksp []) kE650 [kC650_0] 30000 (some kC650_0) = true := by decide +kernel
theorem kok650 : aOK kS krf kB kE650 := aOK_of (kal1 kok542 (kal1 kok543 kal0)) (kcl1 ks650_0 kcl0) ks650
/-- ColdShod$StrokePlan.addNext(LColdShod$Idea;I)V -/
def kE651 : aE := (83, 3, ([(.ofNat 0, .ofNat 3), (.ofNat 113, .ofNat 341)], [(57, 112, .inl (0, .ofNat 0)), (52, 6, .inl (1, .ofNat 0))], 0, [some (.inr [52]), some (.inr [20, 21, 22, 23, 24, 25, 26, 27]), some (.inl (.inl (.inr (.ofNat 112)))), none, none], []), ([], none), ([], [], none, ([], [])), ([(52, 6), (58, 0), (58, 1), (58, 2), (58, 3), (58, 4), (58, 5), (58, 6)], [54, 55, 56, 57]))
def kC651_0 : aC := (([(.ofNat 0, .ofNat 3), (.ofNat 113, .ofNat 341), (.ofNat 0, .ofNat 4), (.ofNat 113, .ofNat 341)], [(57, 112, .inl (0, .ofNat 0)), (52, 6, .inl (3, .ofNat 0))], 2, [some (.inr [52]), some (.inr [20, 21, 22, 23, 24, 25, 26, 27]), some (.inl (.inl (.inr (.ofNat 112)))), some (.inl (.inl (.inl (2, .ofNat 0)))), none], []), ([], []), (4, [(-1, 2)]))
theorem ks651 : aseg kS krf kB [kE542, kE543] (ksp []) kE651 [kC651_0] 30000 (none) = true := by decide +kernel
theorem ks651_0 : aseg kS krf kB [kE542, kE543] (ksp []) kE651 [kC651_0] 30000 (some kC651_0) = true := by decide +kernel
theorem kok651 : aOK kS krf kB kE651 := aOK_of (kal1 kok542 (kal1 kok543 kal0)) (kcl1 ks651_0 kcl0) ks651
/-- ColdShod$StrokePlan.addNext(LColdShod$Idea;I)V -/
def kE652 : aE := (83, 3, ([(.ofNat 0, .ofNat 3), (.ofNat 112, .ofNat 341)], [(57, 111, .inl (0, .ofNat 0)), (52, 6, .inl (1, .ofNat 0))], 0, [some (.inr [52]), some (.inr [20, 21, 22, 23, 24, 25, 26, 27]), some (.inl (.inl (.inr (.ofNat 111)))), none, none], []), ([], none), ([], [], none, ([], [])), ([(52, 6), (58, 0), (58, 1), (58, 2), (58, 3), (58, 4), (58, 5), (58, 6)], [54, 55, 56, 57]))
def kC652_0 : aC := (([(.ofNat 0, .ofNat 3), (.ofNat 112, .ofNat 341), (.ofNat 0, .ofNat 4), (.ofNat 112, .ofNat 341)], [(57, 111, .inl (0, .ofNat 0)), (52, 6, .inl (3, .ofNat 0))], 2, [some (.inr [52]), some (.inr [20, 21, 22, 23, 24, 25, 26, 27]), some (.inl (.inl (.inr (.ofNat 111)))), some (.inl (.inl (.inl (2, .ofNat 0)))), none], []), ([], []), (4, [(-1, 2)]))
theorem ks652 : aseg kS krf kB [kE542, kE543] (ksp []) kE652 [kC652_0] 30000 (none) = true := by decide +kernel
theorem ks652_0 : aseg kS krf kB [kE542, kE543] (ksp []) kE652 [kC652_0] 30000 (some kC652_0) = true := by decide +kernel
theorem kok652 : aOK kS krf kB kE652 := aOK_of (kal1 kok542 (kal1 kok543 kal0)) (kcl1 ks652_0 kcl0) ks652
/-- ColdShod$StrokePlan.addNext(LColdShod$Idea;I)V -/
def kE653 : aE := (83, 3, ([(.ofNat 0, .ofNat 3), (.ofNat 111, .ofNat 341)], [(57, 110, .inl (0, .ofNat 0)), (52, 6, .inl (1, .ofNat 0))], 0, [some (.inr [52]), some (.inr [20, 21, 22, 23, 24, 25, 26, 27]), some (.inl (.inl (.inr (.ofNat 110)))), none, none], []), ([], none), ([], [], none, ([], [])), ([(52, 6), (58, 0), (58, 1), (58, 2), (58, 3), (58, 4), (58, 5), (58, 6)], [54, 55, 56, 57]))
def kC653_0 : aC := (([(.ofNat 0, .ofNat 3), (.ofNat 111, .ofNat 341), (.ofNat 0, .ofNat 4), (.ofNat 111, .ofNat 341)], [(57, 110, .inl (0, .ofNat 0)), (52, 6, .inl (3, .ofNat 0))], 2, [some (.inr [52]), some (.inr [20, 21, 22, 23, 24, 25, 26, 27]), some (.inl (.inl (.inr (.ofNat 110)))), some (.inl (.inl (.inl (2, .ofNat 0)))), none], []), ([], []), (4, [(-1, 2)]))
theorem ks653 : aseg kS krf kB [kE542, kE543] (ksp []) kE653 [kC653_0] 30000 (none) = true := by decide +kernel
theorem ks653_0 : aseg kS krf kB [kE542, kE543] (ksp []) kE653 [kC653_0] 30000 (some kC653_0) = true := by decide +kernel
theorem kok653 : aOK kS krf kB kE653 := aOK_of (kal1 kok542 (kal1 kok543 kal0)) (kcl1 ks653_0 kcl0) ks653
/-- ColdShod$StrokePlan.addNext(LColdShod$Idea;I)V -/
def kE654 : aE := (83, 3, ([(.ofNat 0, .ofNat 3), (.ofNat 110, .ofNat 341)], [(57, 109, .inl (0, .ofNat 0)), (52, 6, .inl (1, .ofNat 0))], 0, [some (.inr [52]), some (.inr [20, 21, 22, 23, 24, 25, 26, 27]), some (.inl (.inl (.inr (.ofNat 109)))), none, none], []), ([], none), ([], [], none, ([], [])), ([(52, 6), (58, 0), (58, 1), (58, 2), (58, 3), (58, 4), (58, 5), (58, 6)], [54, 55, 56, 57]))
def kC654_0 : aC := (([(.ofNat 0, .ofNat 3), (.ofNat 110, .ofNat 341), (.ofNat 0, .ofNat 4), (.ofNat 110, .ofNat 341)], [(57, 109, .inl (0, .ofNat 0)), (52, 6, .inl (3, .ofNat 0))], 2, [some (.inr [52]), some (.inr [20, 21, 22, 23, 24, 25, 26, 27]), some (.inl (.inl (.inr (.ofNat 109)))), some (.inl (.inl (.inl (2, .ofNat 0)))), none], []), ([], []), (4, [(-1, 2)]))
theorem ks654 : aseg kS krf kB [kE542, kE543] (ksp []) kE654 [kC654_0] 30000 (none) = true := by decide +kernel
theorem ks654_0 : aseg kS krf kB [kE542, kE543] (ksp []) kE654 [kC654_0] 30000 (some kC654_0) = true := by decide +kernel
theorem kok654 : aOK kS krf kB kE654 := aOK_of (kal1 kok542 (kal1 kok543 kal0)) (kcl1 ks654_0 kcl0) ks654
/-- ColdShod$StrokePlan.addNext(LColdShod$Idea;I)V -/
def kE655 : aE := (83, 3, ([(.ofNat 0, .ofNat 3), (.ofNat 109, .ofNat 341)], [(57, 108, .inl (0, .ofNat 0)), (52, 6, .inl (1, .ofNat 0))], 0, [some (.inr [52]), some (.inr [20, 21, 22, 23, 24, 25, 26, 27]), some (.inl (.inl (.inr (.ofNat 108)))), none, none], []), ([], none), ([], [], none, ([], [])), ([(52, 6), (58, 0), (58, 1), (58, 2), (58, 3), (58, 4), (58, 5), (58, 6)], [54, 55, 56, 57]))
def kC655_0 : aC := (([(.ofNat 0, .ofNat 3), (.ofNat 109, .ofNat 341), (.ofNat 0, .ofNat 4), (.ofNat 109, .ofNat 341)], [(57, 108, .inl (0, .ofNat 0)), (52, 6, .inl (3, .ofNat 0))], 2, [some (.inr [52]), some (.inr [20, 21, 22, 23, 24, 25, 26, 27]), some (.inl (.inl (.inr (.ofNat 108)))), some (.inl (.inl (.inl (2, .ofNat 0)))), none], []), ([], []), (4, [(-1, 2)]))
theorem ks655 : aseg kS krf kB [kE542, kE543] (ksp []) kE655 [kC655_0] 30000 (none) = true := by decide +kernel
theorem ks655_0 : aseg kS krf kB [kE542, kE543] (ksp []) kE655 [kC655_0] 30000 (some kC655_0) = true := by decide +kernel
theorem kok655 : aOK kS krf kB kE655 := aOK_of (kal1 kok542 (kal1 kok543 kal0)) (kcl1 ks655_0 kcl0) ks655
/-- ColdShod$StrokePlan.addNext(LColdShod$Idea;I)V -/
def kE656 : aE := (83, 3, ([(.ofNat 0, .ofNat 3), (.ofNat 108, .ofNat 341)], [(57, 107, .inl (0, .ofNat 0)), (52, 6, .inl (1, .ofNat 0))], 0, [some (.inr [52]), some (.inr [20, 21, 22, 23, 24, 25, 26, 27]), some (.inl (.inl (.inr (.ofNat 107)))), none, none], []), ([], none), ([], [], none, ([], [])), ([(52, 6), (58, 0), (58, 1), (58, 2), (58, 3), (58, 4), (58, 5), (58, 6)], [54, 55, 56, 57]))
def kC656_0 : aC := (([(.ofNat 0, .ofNat 3), (.ofNat 108, .ofNat 341), (.ofNat 0, .ofNat 4), (.ofNat 108, .ofNat 341)], [(57, 107, .inl (0, .ofNat 0)), (52, 6, .inl (3, .ofNat 0))], 2, [some (.inr [52]), some (.inr [20, 21, 22, 23, 24, 25, 26, 27]), some (.inl (.inl (.inr (.ofNat 107)))), some (.inl (.inl (.inl (2, .ofNat 0)))), none], []), ([], []), (4, [(-1, 2)]))
theorem ks656 : aseg kS krf kB [kE542, kE543] (ksp []) kE656 [kC656_0] 30000 (none) = true := by decide +kernel
theorem ks656_0 : aseg kS krf kB [kE542, kE543] (ksp []) kE656 [kC656_0] 30000 (some kC656_0) = true := by decide +kernel
theorem kok656 : aOK kS krf kB kE656 := aOK_of (kal1 kok542 (kal1 kok543 kal0)) (kcl1 ks656_0 kcl0) ks656
/-- ColdShod$StrokePlan.addNext(LColdShod$Idea;I)V -/
def kE657 : aE := (83, 3, ([(.ofNat 0, .ofNat 3), (.ofNat 107, .ofNat 341)], [(57, 106, .inl (0, .ofNat 0)), (52, 6, .inl (1, .ofNat 0))], 0, [some (.inr [52]), some (.inr [20, 21, 22, 23, 24, 25, 26, 27]), some (.inl (.inl (.inr (.ofNat 106)))), none, none], []), ([], none), ([], [], none, ([], [])), ([(52, 6), (58, 0), (58, 1), (58, 2), (58, 3), (58, 4), (58, 5), (58, 6)], [54, 55, 56, 57]))
def kC657_0 : aC := (([(.ofNat 0, .ofNat 3), (.ofNat 107, .ofNat 341), (.ofNat 0, .ofNat 4), (.ofNat 107, .ofNat 341)], [(57, 106, .inl (0, .ofNat 0)), (52, 6, .inl (3, .ofNat 0))], 2, [some (.inr [52]), some (.inr [20, 21, 22, 23, 24, 25, 26, 27]), some (.inl (.inl (.inr (.ofNat 106)))), some (.inl (.inl (.inl (2, .ofNat 0)))), none], []), ([], []), (4, [(-1, 2)]))
theorem ks657 : aseg kS krf kB [kE542, kE543] (ksp []) kE657 [kC657_0] 30000 (none) = true := by decide +kernel
theorem ks657_0 : aseg kS krf kB [kE542, kE543] (ksp []) kE657 [kC657_0] 30000 (some kC657_0) = true := by decide +kernel
theorem kok657 : aOK kS krf kB kE657 := aOK_of (kal1 kok542 (kal1 kok543 kal0)) (kcl1 ks657_0 kcl0) ks657
/-- ColdShod$StrokePlan.addNext(LColdShod$Idea;I)V -/
def kE658 : aE := (83, 3, ([(.ofNat 0, .ofNat 3), (.ofNat 106, .ofNat 341)], [(57, 105, .inl (0, .ofNat 0)), (52, 6, .inl (1, .ofNat 0))], 0, [some (.inr [52]), some (.inr [20, 21, 22, 23, 24, 25, 26, 27]), some (.inl (.inl (.inr (.ofNat 105)))), none, none], []), ([], none), ([], [], none, ([], [])), ([(52, 6), (58, 0), (58, 1), (58, 2), (58, 3), (58, 4), (58, 5), (58, 6)], [54, 55, 56, 57]))
def kC658_0 : aC := (([(.ofNat 0, .ofNat 3), (.ofNat 106, .ofNat 341), (.ofNat 0, .ofNat 4), (.ofNat 106, .ofNat 341)], [(57, 105, .inl (0, .ofNat 0)), (52, 6, .inl (3, .ofNat 0))], 2, [some (.inr [52]), some (.inr [20, 21, 22, 23, 24, 25, 26, 27]), some (.inl (.inl (.inr (.ofNat 105)))), some (.inl (.inl (.inl (2, .ofNat 0)))), none], []), ([], []), (4, [(-1, 2)]))
theorem ks658 : aseg kS krf kB [kE542, kE543] (ksp []) kE658 [kC658_0] 30000 (none) = true := by decide +kernel
theorem ks658_0 : aseg kS krf kB [kE542, kE543] (ksp []) kE658 [kC658_0] 30000 (some kC658_0) = true := by decide +kernel
theorem kok658 : aOK kS krf kB kE658 := aOK_of (kal1 kok542 (kal1 kok543 kal0)) (kcl1 ks658_0 kcl0) ks658
/-- ColdShod$StrokePlan.addNext(LColdShod$Idea;I)V -/
def kE659 : aE := (83, 3, ([(.ofNat 0, .ofNat 3), (.ofNat 105, .ofNat 341)], [(57, 104, .inl (0, .ofNat 0)), (52, 6, .inl (1, .ofNat 0))], 0, [some (.inr [52]), some (.inr [20, 21, 22, 23, 24, 25, 26, 27]), some (.inl (.inl (.inr (.ofNat 104)))), none, none], []), ([], none), ([], [], none, ([], [])), ([(52, 6), (58, 0), (58, 1), (58, 2), (58, 3), (58, 4), (58, 5), (58, 6)], [54, 55, 56, 57]))
def kC659_0 : aC := (([(.ofNat 0, .ofNat 3), (.ofNat 105, .ofNat 341), (.ofNat 0, .ofNat 4), (.ofNat 105, .ofNat 341)], [(57, 104, .inl (0, .ofNat 0)), (52, 6, .inl (3, .ofNat 0))], 2, [some (.inr [52]), some (.inr [20, 21, 22, 23, 24, 25, 26, 27]), some (.inl (.inl (.inr (.ofNat 104)))), some (.inl (.inl (.inl (2, .ofNat 0)))), none], []), ([], []), (4, [(-1, 2)]))
theorem ks659 : aseg kS krf kB [kE542, kE543] (ksp []) kE659 [kC659_0] 30000 (none) = true := by decide +kernel
theorem ks659_0 : aseg kS krf kB [kE542, kE543] (ksp []) kE659 [kC659_0] 30000 (some kC659_0) = true := by decide +kernel
theorem kok659 : aOK kS krf kB kE659 := aOK_of (kal1 kok542 (kal1 kok543 kal0)) (kcl1 ks659_0 kcl0) ks659
/-- ColdShod$StrokePlan.addNext(LColdShod$Idea;I)V -/
def kE660 : aE := (83, 3, ([(.ofNat 0, .ofNat 3), (.ofNat 104, .ofNat 341)], [(57, 103, .inl (0, .ofNat 0)), (52, 6, .inl (1, .ofNat 0))], 0, [some (.inr [52]), some (.inr [20, 21, 22, 23, 24, 25, 26, 27]), some (.inl (.inl (.inr (.ofNat 103)))), none, none], []), ([], none), ([], [], none, ([], [])), ([(52, 6), (58, 0), (58, 1), (58, 2), (58, 3), (58, 4), (58, 5), (58, 6)], [54, 55, 56, 57]))
def kC660_0 : aC := (([(.ofNat 0, .ofNat 3), (.ofNat 104, .ofNat 341), (.ofNat 0, .ofNat 4), (.ofNat 104, .ofNat 341)], [(57, 103, .inl (0, .ofNat 0)), (52, 6, .inl (3, .ofNat 0))], 2, [some (.inr [52]), some (.inr [20, 21, 22, 23, 24, 25, 26, 27]), some (.inl (.inl (.inr (.ofNat 103)))), some (.inl (.inl (.inl (2, .ofNat 0)))), none], []), ([], []), (4, [(-1, 2)]))
theorem ks660 : aseg kS krf kB [kE542, kE543] (ksp []) kE660 [kC660_0] 30000 (none) = true := by decide +kernel
theorem ks660_0 : aseg kS krf kB [kE542, kE543] (ksp []) kE660 [kC660_0] 30000 (some kC660_0) = true := by decide +kernel
theorem kok660 : aOK kS krf kB kE660 := aOK_of (kal1 kok542 (kal1 kok543 kal0)) (kcl1 ks660_0 kcl0) ks660
/-- ColdShod$StrokePlan.addNext(LColdShod$Idea;I)V -/
def kE661 : aE := (83, 3, ([(.ofNat 0, .ofNat 3), (.ofNat 103, .ofNat 341)], [(57, 102, .inl (0, .ofNat 0)), (52, 6, .inl (1, .ofNat 0))], 0, [some (.inr [52]), some (.inr [20, 21, 22, 23, 24, 25, 26, 27]), some (.inl (.inl (.inr (.ofNat 102)))), none, none], []), ([], none), ([], [], none, ([], [])), ([(52, 6), (58, 0), (58, 1), (58, 2), (58, 3), (58, 4), (58, 5), (58, 6)], [54, 55, 56, 57]))
def kC661_0 : aC := (([(.ofNat 0, .ofNat 3), (.ofNat 103, .ofNat 341), (.ofNat 0, .ofNat 4), (.ofNat 103, .ofNat 341)], [(57, 102, .inl (0, .ofNat 0)), (52, 6, .inl (3, .ofNat 0))], 2, [some (.inr [52]), some (.inr [20, 21, 22, 23, 24, 25, 26, 27]), some (.inl (.inl (.inr (.ofNat 102)))), some (.inl (.inl (.inl (2, .ofNat 0)))), none], []), ([], []), (4, [(-1, 2)]))
theorem ks661 : aseg kS krf kB [kE542, kE543] (ksp []) kE661 [kC661_0] 30000 (none) = true := by decide +kernel
theorem ks661_0 : aseg kS krf kB [kE542, kE543] (ksp []) kE661 [kC661_0] 30000 (some kC661_0) = true := by decide +kernel
theorem kok661 : aOK kS krf kB kE661 := aOK_of (kal1 kok542 (kal1 kok543 kal0)) (kcl1 ks661_0 kcl0) ks661
/-- ColdShod$StrokePlan.addNext(LColdShod$Idea;I)V -/
def kE662 : aE := (83, 3, ([(.ofNat 0, .ofNat 3), (.ofNat 102, .ofNat 341)], [(57, 101, .inl (0, .ofNat 0)), (52, 6, .inl (1, .ofNat 0))], 0, [some (.inr [52]), some (.inr [20, 21, 22, 23, 24, 25, 26, 27]), some (.inl (.inl (.inr (.ofNat 101)))), none, none], []), ([], none), ([], [], none, ([], [])), ([(52, 6), (58, 0), (58, 1), (58, 2), (58, 3), (58, 4), (58, 5), (58, 6)], [54, 55, 56, 57]))
def kC662_0 : aC := (([(.ofNat 0, .ofNat 3), (.ofNat 102, .ofNat 341), (.ofNat 0, .ofNat 4), (.ofNat 102, .ofNat 341)], [(57, 101, .inl (0, .ofNat 0)), (52, 6, .inl (3, .ofNat 0))], 2, [some (.inr [52]), some (.inr [20, 21, 22, 23, 24, 25, 26, 27]), some (.inl (.inl (.inr (.ofNat 101)))), some (.inl (.inl (.inl (2, .ofNat 0)))), none], []), ([], []), (4, [(-1, 2)]))
theorem ks662 : aseg kS krf kB [kE542, kE543] (ksp []) kE662 [kC662_0] 30000 (none) = true := by decide +kernel
theorem ks662_0 : aseg kS krf kB [kE542, kE543] (ksp []) kE662 [kC662_0] 30000 (some kC662_0) = true := by decide +kernel
theorem kok662 : aOK kS krf kB kE662 := aOK_of (kal1 kok542 (kal1 kok543 kal0)) (kcl1 ks662_0 kcl0) ks662
/-- ColdShod$StrokePlan.addNext(LColdShod$Idea;I)V -/
def kE663 : aE := (83, 3, ([(.ofNat 0, .ofNat 3), (.ofNat 101, .ofNat 341)], [(57, 100, .inl (0, .ofNat 0)), (52, 6, .inl (1, .ofNat 0))], 0, [some (.inr [52]), some (.inr [20, 21, 22, 23, 24, 25, 26, 27]), some (.inl (.inl (.inr (.ofNat 100)))), none, none], []), ([], none), ([], [], none, ([], [])), ([(52, 6), (58, 0), (58, 1), (58, 2), (58, 3), (58, 4), (58, 5), (58, 6)], [54, 55, 56, 57]))
def kC663_0 : aC := (([(.ofNat 0, .ofNat 3), (.ofNat 101, .ofNat 341), (.ofNat 0, .ofNat 4), (.ofNat 101, .ofNat 341)], [(57, 100, .inl (0, .ofNat 0)), (52, 6, .inl (3, .ofNat 0))], 2, [some (.inr [52]), some (.inr [20, 21, 22, 23, 24, 25, 26, 27]), some (.inl (.inl (.inr (.ofNat 100)))), some (.inl (.inl (.inl (2, .ofNat 0)))), none], []), ([], []), (4, [(-1, 2)]))
theorem ks663 : aseg kS krf kB [kE542, kE543] (ksp []) kE663 [kC663_0] 30000 (none) = true := by decide +kernel
theorem ks663_0 : aseg kS krf kB [kE542, kE543] (ksp []) kE663 [kC663_0] 30000 (some kC663_0) = true := by decide +kernel
theorem kok663 : aOK kS krf kB kE663 := aOK_of (kal1 kok542 (kal1 kok543 kal0)) (kcl1 ks663_0 kcl0) ks663
/-- ColdShod$StrokePlan.addNext(LColdShod$Idea;I)V -/
def kE664 : aE := (83, 3, ([(.ofNat 0, .ofNat 3), (.ofNat 341, .ofNat 341)], [(57, 340, .inl (0, .ofNat 0)), (52, 6, .inl (1, .ofNat 0))], 0, [some (.inr [52]), some (.inr [20, 21, 22, 23, 24, 25, 26, 27]), some (.inl (.inl (.inr (.ofNat 340)))), none, none], []), ([], none), ([], [], none, ([], [])), ([(58, 0), (58, 1), (58, 2), (58, 3), (58, 4), (58, 5), (58, 6)], []))
def kC664_0 : aC := (([(.ofNat 0, .ofNat 3), (.ofNat 341, .ofNat 341), (.ofNat 0, .ofNat 4)], [(57, 340, .inl (0, .ofNat 0)), (52, 6, .inl (1, .ofNat 0))], 2, [some (.inr [52]), some (.inr [20, 21, 22, 23, 24, 25, 26, 27]), some (.inl (.inl (.inr (.ofNat 340)))), some (.inl (.inl (.inl (2, .ofNat 0)))), none], []), ([], []), (4, [(-1, 2)]))
theorem ks664 : aseg kS krf kB [kE542, kE543] (ksp []) kE664 [kC664_0] 30000 (none) = true := by decide +kernel
theorem ks664_0 : aseg kS krf kB [kE542, kE543] (ksp []) kE664 [kC664_0] 30000 (some kC664_0) = true := by decide +kernel
theorem kok664 : aOK kS krf kB kE664 := aOK_of (kal1 kok542 (kal1 kok543 kal0)) (kcl1 ks664_0 kcl0) ks664
/-- ColdShod$StrokePlan.addNext(LColdShod$Idea;I)V -/
def kE665 : aE := (83, 3, ([(.ofNat 0, .ofNat 3), (.ofNat 340, .ofNat 341)], [(57, 339, .inl (0, .ofNat 0)), (52, 6, .inl (1, .ofNat 0))], 0, [some (.inr [52]), some (.inr [20, 21, 22, 23, 24, 25, 26, 27]), some (.inl (.inl (.inr (.ofNat 339)))), none, none], []), ([], none), ([], [], none, ([], [])), ([(52, 6), (54, 340), (55, 340), (56, 340), (57, 340), (58, 0), (58, 1), (58, 2), (58, 3), (58, 4), (58, 5), (58, 6)], []))
def kC665_0 : aC := (([(.ofNat 0, .ofNat 3), (.ofNat 340, .ofNat 341), (.ofNat 0, .ofNat 4), (.ofNat 340, .ofNat 341)], [(57, 339, .inl (0, .ofNat 0)), (52, 6, .inl (3, .ofNat 0))], 2, [some (.inr [52]), some (.inr [20, 21, 22, 23, 24, 25, 26, 27]), some (.inl (.inl (.inr (.ofNat 339)))), some (.inl (.inl (.inl (2, .ofNat 0)))), none], []), ([], []), (4, [(-1, 2)]))
theorem ks665 : aseg kS krf kB [kE542, kE543] (ksp []) kE665 [kC665_0] 30000 (none) = true := by decide +kernel
theorem ks665_0 : aseg kS krf kB [kE542, kE543] (ksp []) kE665 [kC665_0] 30000 (some kC665_0) = true := by decide +kernel
theorem kok665 : aOK kS krf kB kE665 := aOK_of (kal1 kok542 (kal1 kok543 kal0)) (kcl1 ks665_0 kcl0) ks665
/-- ColdShod$StrokePlan.addNext(LColdShod$Idea;I)V -/
def kE666 : aE := (83, 3, ([(.ofNat 0, .ofNat 3), (.ofNat 339, .ofNat 341)], [(57, 338, .inl (0, .ofNat 0)), (52, 6, .inl (1, .ofNat 0))], 0, [some (.inr [52]), some (.inr [20, 21, 22, 23, 24, 25, 26, 27]), some (.inl (.inl (.inr (.ofNat 338)))), none, none], []), ([], none), ([], [], none, ([], [])), ([(52, 6), (58, 0), (58, 1), (58, 2), (58, 3), (58, 4), (58, 5), (58, 6)], [54, 55, 56, 57]))
def kC666_0 : aC := (([(.ofNat 0, .ofNat 3), (.ofNat 339, .ofNat 341), (.ofNat 0, .ofNat 4), (.ofNat 339, .ofNat 341)], [(57, 338, .inl (0, .ofNat 0)), (52, 6, .inl (3, .ofNat 0))], 2, [some (.inr [52]), some (.inr [20, 21, 22, 23, 24, 25, 26, 27]), some (.inl (.inl (.inr (.ofNat 338)))), some (.inl (.inl (.inl (2, .ofNat 0)))), none], []), ([], []), (4, [(-1, 2)]))
theorem ks666 : aseg kS krf kB [kE542, kE543] (ksp []) kE666 [kC666_0] 30000 (none) = true := by decide +kernel
theorem ks666_0 : aseg kS krf kB [kE542, kE543] (ksp []) kE666 [kC666_0] 30000 (some kC666_0) = true := by decide +kernel
theorem kok666 : aOK kS krf kB kE666 := aOK_of (kal1 kok542 (kal1 kok543 kal0)) (kcl1 ks666_0 kcl0) ks666
/-- ColdShod$StrokePlan.addNext(LColdShod$Idea;I)V -/
def kE667 : aE := (83, 3, ([(.ofNat 0, .ofNat 3), (.ofNat 338, .ofNat 341)], [(57, 337, .inl (0, .ofNat 0)), (52, 6, .inl (1, .ofNat 0))], 0, [some (.inr [52]), some (.inr [20, 21, 22, 23, 24, 25, 26, 27]), some (.inl (.inl (.inr (.ofNat 337)))), none, none], []), ([], none), ([], [], none, ([], [])), ([(52, 6), (58, 0), (58, 1), (58, 2), (58, 3), (58, 4), (58, 5), (58, 6)], [54, 55, 56, 57]))
def kC667_0 : aC := (([(.ofNat 0, .ofNat 3), (.ofNat 338, .ofNat 341), (.ofNat 0, .ofNat 4), (.ofNat 338, .ofNat 341)], [(57, 337, .inl (0, .ofNat 0)), (52, 6, .inl (3, .ofNat 0))], 2, [some (.inr [52]), some (.inr [20, 21, 22, 23, 24, 25, 26, 27]), some (.inl (.inl (.inr (.ofNat 337)))), some (.inl (.inl (.inl (2, .ofNat 0)))), none], []), ([], []), (4, [(-1, 2)]))
theorem ks667 : aseg kS krf kB [kE542, kE543] (ksp []) kE667 [kC667_0] 30000 (none) = true := by decide +kernel
theorem ks667_0 : aseg kS krf kB [kE542, kE543] (ksp []) kE667 [kC667_0] 30000 (some kC667_0) = true := by decide +kernel
theorem kok667 : aOK kS krf kB kE667 := aOK_of (kal1 kok542 (kal1 kok543 kal0)) (kcl1 ks667_0 kcl0) ks667
/-- ColdShod$StrokePlan.addNext(LColdShod$Idea;I)V -/
def kE668 : aE := (83, 3, ([(.ofNat 0, .ofNat 3), (.ofNat 337, .ofNat 341)], [(57, 336, .inl (0, .ofNat 0)), (52, 6, .inl (1, .ofNat 0))], 0, [some (.inr [52]), some (.inr [20, 21, 22, 23, 24, 25, 26, 27]), some (.inl (.inl (.inr (.ofNat 336)))), none, none], []), ([], none), ([], [], none, ([], [])), ([(52, 6), (58, 0), (58, 1), (58, 2), (58, 3), (58, 4), (58, 5), (58, 6)], [54, 55, 56, 57]))
def kC668_0 : aC := (([(.ofNat 0, .ofNat 3), (.ofNat 337, .ofNat 341), (.ofNat 0, .ofNat 4), (.ofNat 337, .ofNat 341)], [(57, 336, .inl (0, .ofNat 0)), (52, 6, .inl (3, .ofNat 0))], 2, [some (.inr [52]), some (.inr [20, 21, 22, 23, 24, 25, 26, 27]), some (.inl (.inl (.inr (.ofNat 336)))), some (.inl (.inl (.inl (2, .ofNat 0)))), none], []), ([], []), (4, [(-1, 2)]))
theorem ks668 : aseg kS krf kB [kE542, kE543] (ksp []) kE668 [kC668_0] 30000 (none) = true := by decide +kernel
theorem ks668_0 : aseg kS krf kB [kE542, kE543] (ksp []) kE668 [kC668_0] 30000 (some kC668_0) = true := by decide +kernel
theorem kok668 : aOK kS krf kB kE668 := aOK_of (kal1 kok542 (kal1 kok543 kal0)) (kcl1 ks668_0 kcl0) ks668
/-- ColdShod$StrokePlan.addNext(LColdShod$Idea;I)V -/
def kE669 : aE := (83, 3, ([(.ofNat 0, .ofNat 3), (.ofNat 336, .ofNat 341)], [(57, 335, .inl (0, .ofNat 0)), (52, 6, .inl (1, .ofNat 0))], 0, [some (.inr [52]), some (.inr [20, 21, 22, 23, 24, 25, 26, 27]), some (.inl (.inl (.inr (.ofNat 335)))), none, none], []), ([], none), ([], [], none, ([], [])), ([(52, 6), (58, 0), (58, 1), (58, 2), (58, 3), (58, 4), (58, 5), (58, 6)], [54, 55, 56, 57]))
def kC669_0 : aC := (([(.ofNat 0, .ofNat 3), (.ofNat 336, .ofNat 341), (.ofNat 0, .ofNat 4), (.ofNat 336, .ofNat 341)], [(57, 335, .inl (0, .ofNat 0)), (52, 6, .inl (3, .ofNat 0))], 2, [some (.inr [52]), some (.inr [20, 21, 22, 23, 24, 25, 26, 27]), some (.inl (.inl (.inr (.ofNat 335)))), some (.inl (.inl (.inl (2, .ofNat 0)))), none], []), ([], []), (4, [(-1, 2)]))
theorem ks669 : aseg kS krf kB [kE542, kE543] (ksp []) kE669 [kC669_0] 30000 (none) = true := by decide +kernel
theorem ks669_0 : aseg kS krf kB [kE542, kE543] (ksp []) kE669 [kC669_0] 30000 (some kC669_0) = true := by decide +kernel
theorem kok669 : aOK kS krf kB kE669 := aOK_of (kal1 kok542 (kal1 kok543 kal0)) (kcl1 ks669_0 kcl0) ks669
/-- ColdShod$StrokePlan.addNext(LColdShod$Idea;I)V -/
def kE670 : aE := (83, 3, ([(.ofNat 0, .ofNat 3), (.ofNat 335, .ofNat 341)], [(57, 334, .inl (0, .ofNat 0)), (52, 6, .inl (1, .ofNat 0))], 0, [some (.inr [52]), some (.inr [20, 21, 22, 23, 24, 25, 26, 27]), some (.inl (.inl (.inr (.ofNat 334)))), none, none], []), ([], none), ([], [], none, ([], [])), ([(52, 6), (58, 0), (58, 1), (58, 2), (58, 3), (58, 4), (58, 5), (58, 6)], [54, 55, 56, 57]))
def kC670_0 : aC := (([(.ofNat 0, .ofNat 3), (.ofNat 335, .ofNat 341), (.ofNat 0, .ofNat 4), (.ofNat 335, .ofNat 341)], [(57, 334, .inl (0, .ofNat 0)), (52, 6, .inl (3, .ofNat 0))], 2, [some (.inr [52]), some (.inr [20, 21, 22, 23, 24, 25, 26, 27]), some (.inl (.inl (.inr (.ofNat 334)))), some (.inl (.inl (.inl (2, .ofNat 0)))), none], []), ([], []), (4, [(-1, 2)]))
theorem ks670 : aseg kS krf kB [kE542, kE543] (ksp []) kE670 [kC670_0] 30000 (none) = true := by decide +kernel
theorem ks670_0 : aseg kS krf kB [kE542, kE543] (ksp []) kE670 [kC670_0] 30000 (some kC670_0) = true := by decide +kernel
theorem kok670 : aOK kS krf kB kE670 := aOK_of (kal1 kok542 (kal1 kok543 kal0)) (kcl1 ks670_0 kcl0) ks670
/-- ColdShod$StrokePlan.addNext(LColdShod$Idea;I)V -/
def kE671 : aE := (83, 3, ([(.ofNat 0, .ofNat 3), (.ofNat 334, .ofNat 341)], [(57, 333, .inl (0, .ofNat 0)), (52, 6, .inl (1, .ofNat 0))], 0, [some (.inr [52]), some (.inr [20, 21, 22, 23, 24, 25, 26, 27]), some (.inl (.inl (.inr (.ofNat 333)))), none, none], []), ([], none), ([], [], none, ([], [])), ([(52, 6), (58, 0), (58, 1), (58, 2), (58, 3), (58, 4), (58, 5), (58, 6)], [54, 55, 56, 57]))
def kC671_0 : aC := (([(.ofNat 0, .ofNat 3), (.ofNat 334, .ofNat 341), (.ofNat 0, .ofNat 4), (.ofNat 334, .ofNat 341)], [(57, 333, .inl (0, .ofNat 0)), (52, 6, .inl (3, .ofNat 0))], 2, [some (.inr [52]), some (.inr [20, 21, 22, 23, 24, 25, 26, 27]), some (.inl (.inl (.inr (.ofNat 333)))), some (.inl (.inl (.inl (2, .ofNat 0)))), none], []), ([], []), (4, [(-1, 2)]))
theorem ks671 : aseg kS krf kB [kE542, kE543] (ksp []) kE671 [kC671_0] 30000 (none) = true := by decide +kernel
theorem ks671_0 : aseg kS krf kB [kE542, kE543] (ksp []) kE671 [kC671_0] 30000 (some kC671_0) = true := by decide +kernel
theorem kok671 : aOK kS krf kB kE671 := aOK_of (kal1 kok542 (kal1 kok543 kal0)) (kcl1 ks671_0 kcl0) ks671
/-- ColdShod$StrokePlan.addNext(LColdShod$Idea;I)V -/
def kE672 : aE := (83, 3, ([(.ofNat 0, .ofNat 3), (.ofNat 333, .ofNat 341)], [(57, 332, .inl (0, .ofNat 0)), (52, 6, .inl (1, .ofNat 0))], 0, [some (.inr [52]), some (.inr [20, 21, 22, 23, 24, 25, 26, 27]), some (.inl (.inl (.inr (.ofNat 332)))), none, none], []), ([], none), ([], [], none, ([], [])), ([(52, 6), (58, 0), (58, 1), (58, 2), (58, 3), (58, 4), (58, 5), (58, 6)], [54, 55, 56, 57]))
def kC672_0 : aC := (([(.ofNat 0, .ofNat 3), (.ofNat 333, .ofNat 341), (.ofNat 0, .ofNat 4), (.ofNat 333, .ofNat 341)], [(57, 332, .inl (0, .ofNat 0)), (52, 6, .inl (3, .ofNat 0))], 2, [some (.inr [52]), some (.inr [20, 21, 22, 23, 24, 25, 26, 27]), some (.inl (.inl (.inr (.ofNat 332)))), some (.inl (.inl (.inl (2, .ofNat 0)))), none], []), ([], []), (4, [(-1, 2)]))
theorem ks672 : aseg kS krf kB [kE542, kE543] (ksp []) kE672 [kC672_0] 30000 (none) = true := by decide +kernel
theorem ks672_0 : aseg kS krf kB [kE542, kE543] (ksp []) kE672 [kC672_0] 30000 (some kC672_0) = true := by decide +kernel
theorem kok672 : aOK kS krf kB kE672 := aOK_of (kal1 kok542 (kal1 kok543 kal0)) (kcl1 ks672_0 kcl0) ks672
/-- ColdShod$StrokePlan.addNext(LColdShod$Idea;I)V -/
def kE673 : aE := (83, 3, ([(.ofNat 0, .ofNat 3), (.ofNat 332, .ofNat 341)], [(57, 331, .inl (0, .ofNat 0)), (52, 6, .inl (1, .ofNat 0))], 0, [some (.inr [52]), some (.inr [20, 21, 22, 23, 24, 25, 26, 27]), some (.inl (.inl (.inr (.ofNat 331)))), none, none], []), ([], none), ([], [], none, ([], [])), ([(52, 6), (58, 0), (58, 1), (58, 2), (58, 3), (58, 4), (58, 5), (58, 6)], [54, 55, 56, 57]))
def kC673_0 : aC := (([(.ofNat 0, .ofNat 3), (.ofNat 332, .ofNat 341), (.ofNat 0, .ofNat 4), (.ofNat 332, .ofNat 341)], [(57, 331, .inl (0, .ofNat 0)), (52, 6, .inl (3, .ofNat 0))], 2, [some (.inr [52]), some (.inr [20, 21, 22, 23, 24, 25, 26, 27]), some (.inl (.inl (.inr (.ofNat 331)))), some (.inl (.inl (.inl (2, .ofNat 0)))), none], []), ([], []), (4, [(-1, 2)]))
theorem ks673 : aseg kS krf kB [kE542, kE543] (ksp []) kE673 [kC673_0] 30000 (none) = true := by decide +kernel
theorem ks673_0 : aseg kS krf kB [kE542, kE543] (ksp []) kE673 [kC673_0] 30000 (some kC673_0) = true := by decide +kernel
theorem kok673 : aOK kS krf kB kE673 := aOK_of (kal1 kok542 (kal1 kok543 kal0)) (kcl1 ks673_0 kcl0) ks673
/-- ColdShod$StrokePlan.addNext(LColdShod$Idea;I)V -/
def kE674 : aE := (83, 3, ([(.ofNat 0, .ofNat 3), (.ofNat 331, .ofNat 341)], [(57, 330, .inl (0, .ofNat 0)), (52, 6, .inl (1, .ofNat 0))], 0, [some (.inr [52]), some (.inr [20, 21, 22, 23, 24, 25, 26, 27]), some (.inl (.inl (.inr (.ofNat 330)))), none, none], []), ([], none), ([], [], none, ([], [])), ([(52, 6), (58, 0), (58, 1), (58, 2), (58, 3), (58, 4), (58, 5), (58, 6)], [54, 55, 56, 57]))
def kC674_0 : aC := (([(.ofNat 0, .ofNat 3), (.ofNat 331, .ofNat 341), (.ofNat 0, .ofNat 4), (.ofNat 331, .ofNat 341)], [(57, 330, .inl (0, .ofNat 0)), (52, 6, .inl (3, .ofNat 0))], 2, [some (.inr [52]), some (.inr [20, 21, 22, 23, 24, 25, 26, 27]), some (.inl (.inl (.inr (.ofNat 330)))), some (.inl (.inl (.inl (2, .ofNat 0)))), none], []), ([], []), (4, [(-1, 2)]))
theorem ks674 : aseg kS krf kB [kE542, kE543] (ksp []) kE674 [kC674_0] 30000 (none) = true := by decide +kernel
theorem ks674_0 : aseg kS krf kB [kE542, kE543] (ksp []) kE674 [kC674_0] 30000 (some kC674_0) = true := by decide +kernel
theorem kok674 : aOK kS krf kB kE674 := aOK_of (kal1 kok542 (kal1 kok543 kal0)) (kcl1 ks674_0 kcl0) ks674
/-- ColdShod$StrokePlan.addNext(LColdShod$Idea;I)V -/
def kE675 : aE := (83, 3, ([(.ofNat 0, .ofNat 3), (.ofNat 330, .ofNat 341)], [(57, 329, .inl (0, .ofNat 0)), (52, 6, .inl (1, .ofNat 0))], 0, [some (.inr [52]), some (.inr [20, 21, 22, 23, 24, 25, 26, 27]), some (.inl (.inl (.inr (.ofNat 329)))), none, none], []), ([], none), ([], [], none, ([], [])), ([(52, 6), (58, 0), (58, 1), (58, 2), (58, 3), (58, 4), (58, 5), (58, 6)], [54, 55, 56, 57]))
def kC675_0 : aC := (([(.ofNat 0, .ofNat 3), (.ofNat 330, .ofNat 341), (.ofNat 0, .ofNat 4), (.ofNat 330, .ofNat 341)], [(57, 329, .inl (0, .ofNat 0)), (52, 6, .inl (3, .ofNat 0))], 2, [some (.inr [52]), some (.inr [20, 21, 22, 23, 24, 25, 26, 27]), some (.inl (.inl (.inr (.ofNat 329)))), some (.inl (.inl (.inl (2, .ofNat 0)))), none], []), ([], []), (4, [(-1, 2)]))
theorem ks675 : aseg kS krf kB [kE542, kE543] (ksp []) kE675 [kC675_0] 30000 (none) = true := by decide +kernel
theorem ks675_0 : aseg kS krf kB [kE542, kE543] (ksp []) kE675 [kC675_0] 30000 (some kC675_0) = true := by decide +kernel
theorem kok675 : aOK kS krf kB kE675 := aOK_of (kal1 kok542 (kal1 kok543 kal0)) (kcl1 ks675_0 kcl0) ks675
/-- ColdShod$StrokePlan.addNext(LColdShod$Idea;I)V -/
def kE676 : aE := (83, 3, ([(.ofNat 0, .ofNat 3), (.ofNat 329, .ofNat 341)], [(57, 328, .inl (0, .ofNat 0)), (52, 6, .inl (1, .ofNat 0))], 0, [some (.inr [52]), some (.inr [20, 21, 22, 23, 24, 25, 26, 27]), some (.inl (.inl (.inr (.ofNat 328)))), none, none], []), ([], none), ([], [], none, ([], [])), ([(52, 6), (58, 0), (58, 1), (58, 2), (58, 3), (58, 4), (58, 5), (58, 6)], [54, 55, 56, 57]))
def kC676_0 : aC := (([(.ofNat 0, .ofNat 3), (.ofNat 329, .ofNat 341), (.ofNat 0, .ofNat 4), (.ofNat 329, .ofNat 341)], [(57, 328, .inl (0, .ofNat 0)), (52, 6, .inl (3, .ofNat 0))], 2, [some (.inr [52]), some (.inr [20, 21, 22, 23, 24, 25, 26, 27]), some (.inl (.inl (.inr (.ofNat 328)))), some (.inl (.inl (.inl (2, .ofNat 0)))), none], []), ([], []), (4, [(-1, 2)]))
theorem ks676 : aseg kS krf kB [kE542, kE543] (ksp []) kE676 [kC676_0] 30000 (none) = true := by decide +kernel
theorem ks676_0 : aseg kS krf kB [kE542, kE543] (ksp []) kE676 [kC676_0] 30000 (some kC676_0) = true := by decide +kernel
theorem kok676 : aOK kS krf kB kE676 := aOK_of (kal1 kok542 (kal1 kok543 kal0)) (kcl1 ks676_0 kcl0) ks676
/-- ColdShod$StrokePlan.addNext(LColdShod$Idea;I)V -/
def kE677 : aE := (83, 3, ([(.ofNat 0, .ofNat 3), (.ofNat 328, .ofNat 341)], [(57, 327, .inl (0, .ofNat 0)), (52, 6, .inl (1, .ofNat 0))], 0, [some (.inr [52]), some (.inr [20, 21, 22, 23, 24, 25, 26, 27]), some (.inl (.inl (.inr (.ofNat 327)))), none, none], []), ([], none), ([], [], none, ([], [])), ([(52, 6), (58, 0), (58, 1), (58, 2), (58, 3), (58, 4), (58, 5), (58, 6)], [54, 55, 56, 57]))
def kC677_0 : aC := (([(.ofNat 0, .ofNat 3), (.ofNat 328, .ofNat 341), (.ofNat 0, .ofNat 4), (.ofNat 328, .ofNat 341)], [(57, 327, .inl (0, .ofNat 0)), (52, 6, .inl (3, .ofNat 0))], 2, [some (.inr [52]), some (.inr [20, 21, 22, 23, 24, 25, 26, 27]), some (.inl (.inl (.inr (.ofNat 327)))), some (.inl (.inl (.inl (2, .ofNat 0)))), none], []), ([], []), (4, [(-1, 2)]))
theorem ks677 : aseg kS krf kB [kE542, kE543] (ksp []) kE677 [kC677_0] 30000 (none) = true := by decide +kernel
theorem ks677_0 : aseg kS krf kB [kE542, kE543] (ksp []) kE677 [kC677_0] 30000 (some kC677_0) = true := by decide +kernel
theorem kok677 : aOK kS krf kB kE677 := aOK_of (kal1 kok542 (kal1 kok543 kal0)) (kcl1 ks677_0 kcl0) ks677
/-- ColdShod$StrokePlan.addNext(LColdShod$Idea;I)V -/
def kE678 : aE := (83, 3, ([(.ofNat 0, .ofNat 3), (.ofNat 327, .ofNat 341)], [(57, 326, .inl (0, .ofNat 0)), (52, 6, .inl (1, .ofNat 0))], 0, [some (.inr [52]), some (.inr [20, 21, 22, 23, 24, 25, 26, 27]), some (.inl (.inl (.inr (.ofNat 326)))), none, none], []), ([], none), ([], [], none, ([], [])), ([(52, 6), (58, 0), (58, 1), (58, 2), (58, 3), (58, 4), (58, 5), (58, 6)], [54, 55, 56, 57]))
def kC678_0 : aC := (([(.ofNat 0, .ofNat 3), (.ofNat 327, .ofNat 341), (.ofNat 0, .ofNat 4), (.ofNat 327, .ofNat 341)], [(57, 326, .inl (0, .ofNat 0)), (52, 6, .inl (3, .ofNat 0))], 2, [some (.inr [52]), some (.inr [20, 21, 22, 23, 24, 25, 26, 27]), some (.inl (.inl (.inr (.ofNat 326)))), some (.inl (.inl (.inl (2, .ofNat 0)))), none], []), ([], []), (4, [(-1, 2)]))
theorem ks678 : aseg kS krf kB [kE542, kE543] (ksp []) kE678 [kC678_0] 30000 (none) = true := by decide +kernel
theorem ks678_0 : aseg kS krf kB [kE542, kE543] (ksp []) kE678 [kC678_0] 30000 (some kC678_0) = true := by decide +kernel
theorem kok678 : aOK kS krf kB kE678 := aOK_of (kal1 kok542 (kal1 kok543 kal0)) (kcl1 ks678_0 kcl0) ks678
/-- ColdShod$StrokePlan.addNext(LColdShod$Idea;I)V -/
def kE679 : aE := (83, 3, ([(.ofNat 0, .ofNat 3), (.ofNat 326, .ofNat 341)], [(57, 325, .inl (0, .ofNat 0)), (52, 6, .inl (1, .ofNat 0))], 0, [some (.inr [52]), some (.inr [20, 21, 22, 23, 24, 25, 26, 27]), some (.inl (.inl (.inr (.ofNat 325)))), none, none], []), ([], none), ([], [], none, ([], [])), ([(52, 6), (58, 0), (58, 1), (58, 2), (58, 3), (58, 4), (58, 5), (58, 6)], [54, 55, 56, 57]))
def kC679_0 : aC := (([(.ofNat 0, .ofNat 3), (.ofNat 326, .ofNat 341), (.ofNat 0, .ofNat 4), (.ofNat 326, .ofNat 341)], [(57, 325, .inl (0, .ofNat 0)), (52, 6, .inl (3, .ofNat 0))], 2, [some (.inr [52]), some (.inr [20, 21, 22, 23, 24, 25, 26, 27]), some (.inl (.inl (.inr (.ofNat 325)))), some (.inl (.inl (.inl (2, .ofNat 0)))), none], []), ([], []), (4, [(-1, 2)]))
theorem ks679 : aseg kS krf kB [kE542, kE543] (ksp []) kE679 [kC679_0] 30000 (none) = true := by decide +kernel
theorem ks679_0 : aseg kS krf kB [kE542, kE543] (ksp []) kE679 [kC679_0] 30000 (some kC679_0) = true := by decide +kernel
theorem kok679 : aOK kS krf kB kE679 := aOK_of (kal1 kok542 (kal1 kok543 kal0)) (kcl1 ks679_0 kcl0) ks679
/-- ColdShod$StrokePlan.addNext(LColdShod$Idea;I)V -/
def kE680 : aE := (83, 3, ([(.ofNat 0, .ofNat 3), (.ofNat 325, .ofNat 341)], [(57, 324, .inl (0, .ofNat 0)), (52, 6, .inl (1, .ofNat 0))], 0, [some (.inr [52]), some (.inr [20, 21, 22, 23, 24, 25, 26, 27]), some (.inl (.inl (.inr (.ofNat 324)))), none, none], []), ([], none), ([], [], none, ([], [])), ([(52, 6), (58, 0), (58, 1), (58, 2), (58, 3), (58, 4), (58, 5), (58, 6)], [54, 55, 56, 57]))
def kC680_0 : aC := (([(.ofNat 0, .ofNat 3), (.ofNat 325, .ofNat 341), (.ofNat 0, .ofNat 4), (.ofNat 325, .ofNat 341)], [(57, 324, .inl (0, .ofNat 0)), (52, 6, .inl (3, .ofNat 0))], 2, [some (.inr [52]), some (.inr [20, 21, 22, 23, 24, 25, 26, 27]), some (.inl (.inl (.inr (.ofNat 324)))), some (.inl (.inl (.inl (2, .ofNat 0)))), none], []), ([], []), (4, [(-1, 2)]))
theorem ks680 : aseg kS krf kB [kE542, kE543] (ksp []) kE680 [kC680_0] 30000 (none) = true := by decide +kernel
theorem ks680_0 : aseg kS krf kB [kE542, kE543] (ksp []) kE680 [kC680_0] 30000 (some kC680_0) = true := by decide +kernel
theorem kok680 : aOK kS krf kB kE680 := aOK_of (kal1 kok542 (kal1 kok543 kal0)) (kcl1 ks680_0 kcl0) ks680
/-- ColdShod$StrokePlan.addNext(LColdShod$Idea;I)V -/
def kE681 : aE := (83, 3, ([(.ofNat 0, .ofNat 3), (.ofNat 324, .ofNat 341)], [(57, 323, .inl (0, .ofNat 0)), (52, 6, .inl (1, .ofNat 0))], 0, [some (.inr [52]), some (.inr [20, 21, 22, 23, 24, 25, 26, 27]), some (.inl (.inl (.inr (.ofNat 323)))), none, none], []), ([], none), ([], [], none, ([], [])), ([(52, 6), (58, 0), (58, 1), (58, 2), (58, 3), (58, 4), (58, 5), (58, 6)], [54, 55, 56, 57]))
def kC681_0 : aC := (([(.ofNat 0, .ofNat 3), (.ofNat 324, .ofNat 341), (.ofNat 0, .ofNat 4), (.ofNat 324, .ofNat 341)], [(57, 323, .inl (0, .ofNat 0)), (52, 6, .inl (3, .ofNat 0))], 2, [some (.inr [52]), some (.inr [20, 21, 22, 23, 24, 25, 26, 27]), some (.inl (.inl (.inr (.ofNat 323)))), some (.inl (.inl (.inl (2, .ofNat 0)))), none], []), ([], []), (4, [(-1, 2)]))
theorem ks681 : aseg kS krf kB [kE542, kE543] (ksp []) kE681 [kC681_0] 30000 (none) = true := by decide +kernel
theorem ks681_0 : aseg kS krf kB [kE542, kE543] (ksp []) kE681 [kC681_0] 30000 (some kC681_0) = true := by decide +kernel
theorem kok681 : aOK kS krf kB kE681 := aOK_of (kal1 kok542 (kal1 kok543 kal0)) (kcl1 ks681_0 kcl0) ks681
/-- ColdShod$StrokePlan.addNext(LColdShod$Idea;I)V -/
def kE682 : aE := (83, 3, ([(.ofNat 0, .ofNat 3), (.ofNat 323, .ofNat 341)], [(57, 322, .inl (0, .ofNat 0)), (52, 6, .inl (1, .ofNat 0))], 0, [some (.inr [52]), some (.inr [20, 21, 22, 23, 24, 25, 26, 27]), some (.inl (.inl (.inr (.ofNat 322)))), none, none], []), ([], none), ([], [], none, ([], [])), ([(52, 6), (58, 0), (58, 1), (58, 2), (58, 3), (58, 4), (58, 5), (58, 6)], [54, 55, 56, 57]))
def kC682_0 : aC := (([(.ofNat 0, .ofNat 3), (.ofNat 323, .ofNat 341), (.ofNat 0, .ofNat 4), (.ofNat 323, .ofNat 341)], [(57, 322, .inl (0, .ofNat 0)), (52, 6, .inl (3, .ofNat 0))], 2, [some (.inr [52]), some (.inr [20, 21, 22, 23, 24, 25, 26, 27]), some (.inl (.inl (.inr (.ofNat 322)))), some (.inl (.inl (.inl (2, .ofNat 0)))), none], []), ([], []), (4, [(-1, 2)]))
theorem ks682 : aseg kS krf kB [kE542, kE543] (ksp []) kE682 [kC682_0] 30000 (none) = true := by decide +kernel
theorem ks682_0 : aseg kS krf kB [kE542, kE543] (ksp []) kE682 [kC682_0] 30000 (some kC682_0) = true := by decide +kernel
theorem kok682 : aOK kS krf kB kE682 := aOK_of (kal1 kok542 (kal1 kok543 kal0)) (kcl1 ks682_0 kcl0) ks682
/-- ColdShod$StrokePlan.addNext(LColdShod$Idea;I)V -/
def kE683 : aE := (83, 3, ([(.ofNat 0, .ofNat 3), (.ofNat 322, .ofNat 341)], [(57, 321, .inl (0, .ofNat 0)), (52, 6, .inl (1, .ofNat 0))], 0, [some (.inr [52]), some (.inr [20, 21, 22, 23, 24, 25, 26, 27]), some (.inl (.inl (.inr (.ofNat 321)))), none, none], []), ([], none), ([], [], none, ([], [])), ([(52, 6), (58, 0), (58, 1), (58, 2), (58, 3), (58, 4), (58, 5), (58, 6)], [54, 55, 56, 57]))
def kC683_0 : aC := (([(.ofNat 0, .ofNat 3), (.ofNat 322, .ofNat 341), (.ofNat 0, .ofNat 4), (.ofNat 322, .ofNat 341)], [(57, 321, .inl (0, .ofNat 0)), (52, 6, .inl (3, .ofNat 0))], 2, [some (.inr [52]), some (.inr [20, 21, 22, 23, 24, 25, 26, 27]), some (.inl (.inl (.inr (.ofNat 321)))), some (.inl (.inl (.inl (2, .ofNat 0)))), none], []), ([], []), (4, [(-1, 2)]))
theorem ks683 : aseg kS krf kB [kE542, kE543] (ksp []) kE683 [kC683_0] 30000 (none) = true := by decide +kernel
theorem ks683_0 : aseg kS krf kB [kE542, kE543] (ksp []) kE683 [kC683_0] 30000 (some kC683_0) = true := by decide +kernel
theorem kok683 : aOK kS krf kB kE683 := aOK_of (kal1 kok542 (kal1 kok543 kal0)) (kcl1 ks683_0 kcl0) ks683
/-- ColdShod$StrokePlan.addNext(LColdShod$Idea;I)V -/
def kE684 : aE := (83, 3, ([(.ofNat 0, .ofNat 3), (.ofNat 321, .ofNat 341)], [(57, 320, .inl (0, .ofNat 0)), (52, 6, .inl (1, .ofNat 0))], 0, [some (.inr [52]), some (.inr [20, 21, 22, 23, 24, 25, 26, 27]), some (.inl (.inl (.inr (.ofNat 320)))), none, none], []), ([], none), ([], [], none, ([], [])), ([(52, 6), (58, 0), (58, 1), (58, 2), (58, 3), (58, 4), (58, 5), (58, 6)], [54, 55, 56, 57]))
def kC684_0 : aC := (([(.ofNat 0, .ofNat 3), (.ofNat 321, .ofNat 341), (.ofNat 0, .ofNat 4), (.ofNat 321, .ofNat 341)], [(57, 320, .inl (0, .ofNat 0)), (52, 6, .inl (3, .ofNat 0))], 2, [some (.inr [52]), some (.inr [20, 21, 22, 23, 24, 25, 26, 27]), some (.inl (.inl (.inr (.ofNat 320)))), some (.inl (.inl (.inl (2, .ofNat 0)))), none], []), ([], []), (4, [(-1, 2)]))
theorem ks684 : aseg kS krf kB [kE542, kE543] (ksp []) kE684 [kC684_0] 30000 (none) = true := by decide +kernel
theorem ks684_0 : aseg kS krf kB [kE542, kE543] (ksp []) kE684 [kC684_0] 30000 (some kC684_0) = true := by decide +kernel
theorem kok684 : aOK kS krf kB kE684 := aOK_of (kal1 kok542 (kal1 kok543 kal0)) (kcl1 ks684_0 kcl0) ks684
/-- ColdShod$StrokePlan.addNext(LColdShod$Idea;I)V -/
def kE685 : aE := (83, 3, ([(.ofNat 0, .ofNat 3), (.ofNat 320, .ofNat 341)], [(57, 319, .inl (0, .ofNat 0)), (52, 6, .inl (1, .ofNat 0))], 0, [some (.inr [52]), some (.inr [20, 21, 22, 23, 24, 25, 26, 27]), some (.inl (.inl (.inr (.ofNat 319)))), none, none], []), ([], none), ([], [], none, ([], [])), ([(52, 6), (58, 0), (58, 1), (58, 2), (58, 3), (58, 4), (58, 5), (58, 6)], [54, 55, 56, 57]))
def kC685_0 : aC := (([(.ofNat 0, .ofNat 3), (.ofNat 320, .ofNat 341), (.ofNat 0, .ofNat 4), (.ofNat 320, .ofNat 341)], [(57, 319, .inl (0, .ofNat 0)), (52, 6, .inl (3, .ofNat 0))], 2, [some (.inr [52]), some (.inr [20, 21, 22, 23, 24, 25, 26, 27]), some (.inl (.inl (.inr (.ofNat 319)))), some (.inl (.inl (.inl (2, .ofNat 0)))), none], []), ([], []), (4, [(-1, 2)]))
theorem ks685 : aseg kS krf kB [kE542, kE543] (ksp []) kE685 [kC685_0] 30000 (none) = true := by decide +kernel
theorem ks685_0 : aseg kS krf kB [kE542, kE543] (ksp []) kE685 [kC685_0] 30000 (some kC685_0) = true := by decide +kernel
theorem kok685 : aOK kS krf kB kE685 := aOK_of (kal1 kok542 (kal1 kok543 kal0)) (kcl1 ks685_0 kcl0) ks685
