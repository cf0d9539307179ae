/-! ENTRIES and their checks: printed by a program (wip/ai). -/
/-- ColdShod$StrokePlan.addNext(LColdShod$Idea;I)V -/
def kE612 : aE := (83, 3, ([(.ofNat 0, .ofNat 3), (.ofNat 273, .ofNat 341)], [(57, 272, .inl (0, .ofNat 0)), (52, 6, .inl (1, .ofNat 0))], 0, [some (.inr [52]), some (.inr [20, 21, 22, 23, 24, 25, 26, 27]), some (.inl (.inl (.inr (.ofNat 272)))), none, none], []), ([], none), ([], [], none, ([], [])), ([(52, 6), (58, 0), (58, 1), (58, 2), (58, 3), (58, 4), (58, 5), (58, 6)], [54, 55, 56, 57]))
def kC612_0 : aC := (([(.ofNat 0, .ofNat 3), (.ofNat 273, .ofNat 341), (.ofNat 0, .ofNat 4), (.ofNat 273, .ofNat 341)], [(57, 272, .inl (0, .ofNat 0)), (52, 6, .inl (3, .ofNat 0))], 2, [some (.inr [52]), some (.inr [20, 21, 22, 23, 24, 25, 26, 27]), some (.inl (.inl (.inr (.ofNat 272)))), some (.inl (.inl (.inl (2, .ofNat 0)))), none], []), ([], []), (4, [(-1, 2)]))
theorem ks612 : aseg kS krf kB [kE542, kE543] (ksp []) kE612 [kC612_0] 30000 (none) = true := by decide +kernel
theorem ks612_0 : aseg kS krf kB [kE542, kE543] (ksp []) kE612 [kC612_0] 30000 (some kC612_0) = true := by decide +kernel
theorem kok612 : aOK kS krf kB kE612 := aOK_of (kal1 kok542 (kal1 kok543 kal0)) (kcl1 ks612_0 kcl0) ks612
/-- ColdShod$StrokePlan.addNext(LColdShod$Idea;I)V -/
def kE613 : aE := (83, 3, ([(.ofNat 0, .ofNat 3), (.ofNat 272, .ofNat 341)], [(57, 271, .inl (0, .ofNat 0)), (52, 6, .inl (1, .ofNat 0))], 0, [some (.inr [52]), some (.inr [20, 21, 22, 23, 24, 25, 26, 27]), some (.inl (.inl (.inr (.ofNat 271)))), none, none], []), ([], none), ([], [], none, ([], [])), ([(52, 6), (58, 0), (58, 1), (58, 2), (58, 3), (58, 4), (58, 5), (58, 6)], [54, 55, 56, 57]))
def kC613_0 : aC := (([(.ofNat 0, .ofNat 3), (.ofNat 272, .ofNat 341), (.ofNat 0, .ofNat 4), (.ofNat 272, .ofNat 341)], [(57, 271, .inl (0, .ofNat 0)), (52, 6, .inl (3, .ofNat 0))], 2, [some (.inr [52]), some (.inr [20, 21, 22, 23, 24, 25, 26, 27]), some (.inl (.inl (.inr (.ofNat 271)))), some (.inl (.inl (.inl (2, .ofNat 0)))), none], []), ([], []), (4, [(-1, 2)]))
theorem ks613 : aseg kS krf kB [kE542, kE543] (ksp []) kE613 [kC613_0] 30000 (none) = true := by decide +kernel
theorem ks613_0 : aseg kS krf kB [kE542, kE543] (ksp []) kE613 [kC613_0] 30000 (some kC613_0) = true := by decide +kernel
theorem kok613 : aOK kS krf kB kE613 := aOK_of (kal1 kok542 (kal1 kok543 kal0)) (kcl1 ks613_0 kcl0) ks613
/-- ColdShod$StrokePlan.addNext(LColdShod$Idea;I)V -/
def kE614 : aE := (83, 3, ([(.ofNat 0, .ofNat 3), (.ofNat 271, .ofNat 341)], [(57, 270, .inl (0, .ofNat 0)), (52, 6, .inl (1, .ofNat 0))], 0, [some (.inr [52]), some (.inr [20, 21, 22, 23, 24, 25, 26, 27]), some (.inl (.inl (.inr (.ofNat 270)))), none, none], []), ([], none), ([], [], none, ([], [])), ([(52, 6), (58, 0), (58, 1), (58, 2), (58, 3), (58, 4), (58, 5), (58, 6)], [54, 55, 56, 57]))
def kC614_0 : aC := (([(.ofNat 0, .ofNat 3), (.ofNat 271, .ofNat 341), (.ofNat 0, .ofNat 4), (.ofNat 271, .ofNat 341)], [(57, 270, .inl (0, .ofNat 0)), (52, 6, .inl (3, .ofNat 0))], 2, [some (.inr [52]), some (.inr [20, 21, 22, 23, 24, 25, 26, 27]), some (.inl (.inl (.inr (.ofNat 270)))), some (.inl (.inl (.inl (2, .ofNat 0)))), none], []), ([], []), (4, [(-1, 2)]))
theorem ks614 : aseg kS krf kB [kE542, kE543] (ksp []) kE614 [kC614_0] 30000 (none) = true := by decide +kernel
theorem ks614_0 : aseg kS krf kB [kE542, kE543] (ksp []) kE614 [kC614_0] 30000 (some kC614_0) = true := by decide +kernel
theorem kok614 : aOK kS krf kB kE614 := aOK_of (kal1 kok542 (kal1 kok543 kal0)) (kcl1 ks614_0 kcl0) ks614
/-- ColdShod$StrokePlan.addNext(LColdShod$Idea;I)V -/
def kE615 : aE := (83, 3, ([(.ofNat 0, .ofNat 3), (.ofNat 270, .ofNat 341)], [(57, 269, .inl (0, .ofNat 0)), (52, 6, .inl (1, .ofNat 0))], 0, [some (.inr [52]), some (.inr [20, 21, 22, 23, 24, 25, 26, 27]), some (.inl (.inl (.inr (.ofNat 269)))), none, none], []), ([], none), ([], [], none, ([], [])), ([(52, 6), (58, 0), (58, 1), (58, 2), (58, 3), (58, 4), (58, 5), (58, 6)], [54, 55, 56, 57]))
def kC615_0 : aC := (([(.ofNat 0, .ofNat 3), (.ofNat 270, .ofNat 341), (.ofNat 0, .ofNat 4), (.ofNat 270, .ofNat 341)], [(57, 269, .inl (0, .ofNat 0)), (52, 6, .inl (3, .ofNat 0))], 2, [some (.inr [52]), some (.inr [20, 21, 22, 23, 24, 25, 26, 27]), some (.inl (.inl (.inr (.ofNat 269)))), some (.inl (.inl (.inl (2, .ofNat 0)))), none], []), ([], []), (4, [(-1, 2)]))
theorem ks615 : aseg kS krf kB [kE542, kE543] (ksp []) kE615 [kC615_0] 30000 (none) = true := by decide +kernel
theorem ks615_0 : aseg kS krf kB [kE542, kE543] (ksp []) kE615 [kC615_0] 30000 (some kC615_0) = true := by decide +kernel
theorem kok615 : aOK kS krf kB kE615 := aOK_of (kal1 kok542 (kal1 kok543 kal0)) (kcl1 ks615_0 kcl0) ks615
/-- ColdShod$StrokePlan.addNext(LColdShod$Idea;I)V -/
def kE616 : aE := (83, 3, ([(.ofNat 0, .ofNat 3), (.ofNat 269, .ofNat 341)], [(57, 268, .inl (0, .ofNat 0)), (52, 6, .inl (1, .ofNat 0))], 0, [some (.inr [52]), some (.inr [20, 21, 22, 23, 24, 25, 26, 27]), some (.inl (.inl (.inr (.ofNat 268)))), none, none], []), ([], none), ([], [], none, ([], [])), ([(52, 6), (58, 0), (58, 1), (58, 2), (58, 3), (58, 4), (58, 5), (58, 6)], [54, 55, 56, 57]))
def kC616_0 : aC := (([(.ofNat 0, .ofNat 3), (.ofNat 269, .ofNat 341), (.ofNat 0, .ofNat 4), (.ofNat 269, .ofNat 341)], [(57, 268, .inl (0, .ofNat 0)), (52, 6, .inl (3, .ofNat 0))], 2, [some (.inr [52]), some (.inr [20, 21, 22, 23, 24, 25, 26, 27]), some (.inl (.inl (.inr (.ofNat 268)))), some (.inl (.inl (.inl (2, .ofNat 0)))), none], []), ([], []), (4, [(-1, 2)]))
theorem ks616 : aseg kS krf kB [kE542, kE543] (ksp []) kE616 [kC616_0] 30000 (none) = true := by decide +kernel
theorem ks616_0 : aseg kS krf kB [kE542, kE543] (ksp []) kE616 [kC616_0] 30000 (some kC616_0) = true := by decide +kernel
theorem kok616 : aOK kS krf kB kE616 := aOK_of (kal1 kok542 (kal1 kok543 kal0)) (kcl1 ks616_0 kcl0) ks616
/-- ColdShod$StrokePlan.addNext(LColdShod$Idea;I)V -/
def kE617 : aE := (83, 3, ([(.ofNat 0, .ofNat 3), (.ofNat 268, .ofNat 341)], [(57, 267, .inl (0, .ofNat 0)), (52, 6, .inl (1, .ofNat 0))], 0, [some (.inr [52]), some (.inr [20, 21, 22, 23, 24, 25, 26, 27]), some (.inl (.inl (.inr (.ofNat 267)))), none, none], []), ([], none), ([], [], none, ([], [])), ([(52, 6), (58, 0), (58, 1), (58, 2), (58, 3), (58, 4), (58, 5), (58, 6)], [54, 55, 56, 57]))
def kC617_0 : aC := (([(.ofNat 0, .ofNat 3), (.ofNat 268, .ofNat 341), (.ofNat 0, .ofNat 4), (.ofNat 268, .ofNat 341)], [(57, 267, .inl (0, .ofNat 0)), (52, 6, .inl (3, .ofNat 0))], 2, [some (.inr [52]), some (.inr [20, 21, 22, 23, 24, 25, 26, 27]), some (.inl (.inl (.inr (.ofNat 267)))), some (.inl (.inl (.inl (2, .ofNat 0)))), none], []), ([], []), (4, [(-1, 2)]))
theorem ks617 : aseg kS krf kB [kE542, kE543] (ksp []) kE617 [kC617_0] 30000 (none) = true := by decide +kernel
theorem ks617_0 : aseg kS krf kB [kE542, kE543] (ksp []) kE617 [kC617_0] 30000 (some kC617_0) = true := by decide +kernel
theorem kok617 : aOK kS krf kB kE617 := aOK_of (kal1 kok542 (kal1 kok543 kal0)) (kcl1 ks617_0 kcl0) ks617
/-- ColdShod$StrokePlan.addNext(LColdShod$Idea;I)V -/
def kE618 : aE := (83, 3, ([(.ofNat 0, .ofNat 3), (.ofNat 267, .ofNat 341)], [(57, 266, .inl (0, .ofNat 0)), (52, 6, .inl (1, .ofNat 0))], 0, [some (.inr [52]), some (.inr [20, 21, 22, 23, 24, 25, 26, 27]), some (.inl (.inl (.inr (.ofNat 266)))), none, none], []), ([], none), ([], [], none, ([], [])), ([(52, 6), (58, 0), (58, 1), (58, 2), (58, 3), (58, 4), (58, 5), (58, 6)], [54, 55, 56, 57]))
def kC618_0 : aC := (([(.ofNat 0, .ofNat 3), (.ofNat 267, .ofNat 341), (.ofNat 0, .ofNat 4), (.ofNat 267, .ofNat 341)], [(57, 266, .inl (0, .ofNat 0)), (52, 6, .inl (3, .ofNat 0))], 2, [some (.inr [52]), some (.inr [20, 21, 22, 23, 24, 25, 26, 27]), some (.inl (.inl (.inr (.ofNat 266)))), some (.inl (.inl (.inl (2, .ofNat 0)))), none], []), ([], []), (4, [(-1, 2)]))
theorem ks618 : aseg kS krf kB [kE542, kE543] (ksp []) kE618 [kC618_0] 30000 (none) = true := by decide +kernel
theorem ks618_0 : aseg kS krf kB [kE542, kE543] (ksp []) kE618 [kC618_0] 30000 (some kC618_0) = true := by decide +kernel
theorem kok618 : aOK kS krf kB kE618 := aOK_of (kal1 kok542 (kal1 kok543 kal0)) (kcl1 ks618_0 kcl0) ks618
/-- ColdShod$StrokePlan.addNext(LColdShod$Idea;I)V -/
def kE619 : aE := (83, 3, ([(.ofNat 0, .ofNat 3), (.ofNat 266, .ofNat 341)], [(57, 265, .inl (0, .ofNat 0)), (52, 6, .inl (1, .ofNat 0))], 0, [some (.inr [52]), some (.inr [20, 21, 22, 23, 24, 25, 26, 27]), some (.inl (.inl (.inr (.ofNat 265)))), none, none], []), ([], none), ([], [], none, ([], [])), ([(52, 6), (58, 0), (58, 1), (58, 2), (58, 3), (58, 4), (58, 5), (58, 6)], [54, 55, 56, 57]))
def kC619_0 : aC := (([(.ofNat 0, .ofNat 3), (.ofNat 266, .ofNat 341), (.ofNat 0, .ofNat 4), (.ofNat 266, .ofNat 341)], [(57, 265, .inl (0, .ofNat 0)), (52, 6, .inl (3, .ofNat 0))], 2, [some (.inr [52]), some (.inr [20, 21, 22, 23, 24, 25, 26, 27]), some (.inl (.inl (.inr (.ofNat 265)))), some (.inl (.inl (.inl (2, .ofNat 0)))), none], []), ([], []), (4, [(-1, 2)]))
theorem ks619 : aseg kS krf kB [kE542, kE543] (ksp []) kE619 [kC619_0] 30000 (none) = true := by decide +kernel
theorem ks619_0 : aseg kS krf kB [kE542, kE543] (ksp []) kE619 [kC619_0] 30000 (some kC619_0) = true := by decide +kernel
theorem kok619 : aOK kS krf kB kE619 := aOK_of (kal1 kok542 (kal1 kok543 kal0)) (kcl1 ks619_0 kcl0) ks619
/-- ColdShod$StrokePlan.addNext(LColdShod$Idea;I)V -/
def kE620 : aE := (83, 3, ([(.ofNat 0, .ofNat 3), (.ofNat 265, .ofNat 341)], [(57, 264, .inl (0, .ofNat 0)), (52, 6, .inl (1, .ofNat 0))], 0, [some (.inr [52]), some (.inr [20, 21, 22, 23, 24, 25, 26, 27]), some (.inl (.inl (.inr (.ofNat 264)))), none, none], []), ([], none), ([], [], none, ([], [])), ([(52, 6), (58, 0), (58, 1), (58, 2), (58, 3), (58, 4), (58, 5), (58, 6)], [54, 55, 56, 57]))
def kC620_0 : aC := (([(.ofNat 0, .ofNat 3), (.ofNat 265, .ofNat 341), (.ofNat 0, .ofNat 4), (.ofNat 265, .ofNat 341)], [(57, 264, .inl (0, .ofNat 0)), (52, 6, .inl (3, .ofNat 0))], 2, [some (.inr [52]), some (.inr [20, 21, 22, 23, 24, 25, 26, 27]), some (.inl (.inl (.inr (.ofNat 264)))), some (.inl (.inl (.inl (2, .ofNat 0)))), none], []), ([], []), (4, [(-1, 2)]))
theorem ks620 : aseg kS krf kB [kE542, kE543] (ksp []) kE620 [kC620_0] 30000 (none) = true := by decide +kernel
theorem ks620_0 : aseg kS krf kB [kE542, kE543] (ksp []) kE620 [kC620_0] 30000 (some kC620_0) = true := by decide +kernel
theorem kok620 : aOK kS krf kB kE620 := aOK_of (kal1 kok542 (kal1 kok543 kal0)) (kcl1 ks620_0 kcl0) ks620
/-- ColdShod$StrokePlan.addNext(LColdShod$Idea;I)V -/
def kE621 : aE := (83, 3, ([(.ofNat 0, .ofNat 3), (.ofNat 264, .ofNat 341)], [(57, 263, .inl (0, .ofNat 0)), (52, 6, .inl (1, .ofNat 0))], 0, [some (.inr [52]), some (.inr [20, 21, 22, 23, 24, 25, 26, 27]), some (.inl (.inl (.inr (.ofNat 263)))), none, none], []), ([], none), ([], [], none, ([], [])), ([(52, 6), (58, 0), (58, 1), (58, 2), (58, 3), (58, 4), (58, 5), (58, 6)], [54, 55, 56, 57]))
def kC621_0 : aC := (([(.ofNat 0, .ofNat 3), (.ofNat 264, .ofNat 341), (.ofNat 0, .ofNat 4), (.ofNat 264, .ofNat 341)], [(57, 263, .inl (0, .ofNat 0)), (52, 6, .inl (3, .ofNat 0))], 2, [some (.inr [52]), some (.inr [20, 21, 22, 23, 24, 25, 26, 27]), some (.inl (.inl (.inr (.ofNat 263)))), some (.inl (.inl (.inl (2, .ofNat 0)))), none], []), ([], []), (4, [(-1, 2)]))
theorem ks621 : aseg kS krf kB [kE542, kE543] (ksp []) kE621 [kC621_0] 30000 (none) = true := by decide +kernel
theorem ks621_0 : aseg kS krf kB [kE542, kE543] (ksp []) kE621 [kC621_0] 30000 (some kC621_0) = true := by decide +kernel
theorem kok621 : aOK kS krf kB kE621 := aOK_of (kal1 kok542 (kal1 kok543 kal0)) (kcl1 ks621_0 kcl0) ks621
/-- ColdShod$StrokePlan.addNext(LColdShod$Idea;I)V -/
def kE622 : aE := (83, 3, ([(.ofNat 0, .ofNat 3), (.ofNat 263, .ofNat 341)], [(57, 262, .inl (0, .ofNat 0)), (52, 6, .inl (1, .ofNat 0))], 0, [some (.inr [52]), some (.inr [20, 21, 22, 23, 24, 25, 26, 27]), some (.inl (.inl (.inr (.ofNat 262)))), none, none], []), ([], none), ([], [], none, ([], [])), ([(52, 6), (58, 0), (58, 1), (58, 2), (58, 3), (58, 4), (58, 5), (58, 6)], [54, 55, 56, 57]))
def kC622_0 : aC := (([(.ofNat 0, .ofNat 3), (.ofNat 263, .ofNat 341), (.ofNat 0, .ofNat 4), (.ofNat 263, .ofNat 341)], [(57, 262, .inl (0, .ofNat 0)), (52, 6, .inl (3, .ofNat 0))], 2, [some (.inr [52]), some (.inr [20, 21, 22, 23, 24, 25, 26, 27]), some (.inl (.inl (.inr (.ofNat 262)))), some (.inl (.inl (.inl (2, .ofNat 0)))), none], []), ([], []), (4, [(-1, 2)]))
theorem ks622 : aseg kS krf kB [kE542, kE543] (ksp []) kE622 [kC622_0] 30000 (none) = true := by decide +kernel
theorem ks622_0 : aseg kS krf kB [kE542, kE543] (ksp []) kE622 [kC622_0] 30000 (some kC622_0) = true := by decide +kernel
theorem kok622 : aOK kS krf kB kE622 := aOK_of (kal1 kok542 (kal1 kok543 kal0)) (kcl1 ks622_0 kcl0) ks622
/-- ColdShod$StrokePlan.addNext(LColdShod$Idea;I)V -/
def kE623 : aE := (83, 3, ([(.ofNat 0, .ofNat 3), (.ofNat 262, .ofNat 341)], [(57, 261, .inl (0, .ofNat 0)), (52, 6, .inl (1, .ofNat 0))], 0, [some (.inr [52]), some (.inr [20, 21, 22, 23, 24, 25, 26, 27]), some (.inl (.inl (.inr (.ofNat 261)))), none, none], []), ([], none), ([], [], none, ([], [])), ([(52, 6), (58, 0), (58, 1), (58, 2), (58, 3), (58, 4), (58, 5), (58, 6)], [54, 55, 56, 57]))
def kC623_0 : aC := (([(.ofNat 0, .ofNat 3), (.ofNat 262, .ofNat 341), (.ofNat 0, .ofNat 4), (.ofNat 262, .ofNat 341)], [(57, 261, .inl (0, .ofNat 0)), (52, 6, .inl (3, .ofNat 0))], 2, [some (.inr [52]), some (.inr [20, 21, 22, 23, 24, 25, 26, 27]), some (.inl (.inl (.inr (.ofNat 261)))), some (.inl (.inl (.inl (2, .ofNat 0)))), none], []), ([], []), (4, [(-1, 2)]))
theorem ks623 : aseg kS krf kB [kE542, kE543] (ksp []) kE623 [kC623_0] 30000 (none) = true := by decide +kernel
theorem ks623_0 : aseg kS krf kB [kE542, kE543] (ksp []) kE623 [kC623_0] 30000 (some kC623_0) = true := by decide +kernel
theorem kok623 : aOK kS krf kB kE623 := aOK_of (kal1 kok542 (kal1 kok543 kal0)) (kcl1 ks623_0 kcl0) ks623
/-- ColdShod$StrokePlan.addNext(LColdShod$Idea;I)V -/
def kE624 : aE := (83, 3, ([(.ofNat 0, .ofNat 3), (.ofNat 261, .ofNat 341)], [(57, 260, .inl (0, .ofNat 0)), (52, 6, .inl (1, .ofNat 0))], 0, [some (.inr [52]), some (.inr [20, 21, 22, 23, 24, 25, 26, 27]), some (.inl (.inl (.inr (.ofNat 260)))), none, none], []), ([], none), ([], [], none, ([], [])), ([(52, 6), (58, 0), (58, 1), (58, 2), (58, 3), (58, 4), (58, 5), (58, 6)], [54, 55, 56, 57]))
def kC624_0 : aC := (([(.ofNat 0, .ofNat 3), (.ofNat 261, .ofNat 341), (.ofNat 0, .ofNat 4), (.ofNat 261, .ofNat 341)], [(57, 260, .inl (0, .ofNat 0)), (52, 6, .inl (3, .ofNat 0))], 2, [some (.inr [52]), some (.inr [20, 21, 22, 23, 24, 25, 26, 27]), some (.inl (.inl (.inr (.ofNat 260)))), some (.inl (.inl (.inl (2, .ofNat 0)))), none], []), ([], []), (4, [(-1, 2)]))
theorem ks624 : aseg kS krf kB [kE542, kE543] (ksp []) kE624 [kC624_0] 30000 (none) = true := by decide +kernel
theorem ks624_0 : aseg kS krf kB [kE542, kE543] (ksp []) kE624 [kC624_0] 30000 (some kC624_0) = true := by decide +kernel
theorem kok624 : aOK kS krf kB kE624 := aOK_of (kal1 kok542 (kal1 kok543 kal0)) (kcl1 ks624_0 kcl0) ks624
/-- ColdShod$StrokePlan.addNext(LColdShod$Idea;I)V -/
def kE625 : aE := (83, 3, ([(.ofNat 0, .ofNat 3), (.ofNat 260, .ofNat 341)], [(57, 259, .inl (0, .ofNat 0)), (52, 6, .inl (1, .ofNat 0))], 0, [some (.inr [52]), some (.inr [20, 21, 22, 23, 24, 25, 26, 27]), some (.inl (.inl (.inr (.ofNat 259)))), none, none], []), ([], none), ([], [], none, ([], [])), ([(52, 6), (58, 0), (58, 1), (58, 2), (58, 3), (58, 4), (58, 5), (58, 6)], [54, 55, 56, 57]))
def kC625_0 : aC := (([(.ofNat 0, .ofNat 3), (.ofNat 260, .ofNat 341), (.ofNat 0, .ofNat 4), (.ofNat 260, .ofNat 341)], [(57, 259, .inl (0, .ofNat 0)), (52, 6, .inl (3, .ofNat 0))], 2, [some (.inr [52]), some (.inr [20, 21, 22, 23, 24, 25, 26, 27]), some (.inl (.inl (.inr (.ofNat 259)))), some (.inl (.inl (.inl (2, .ofNat 0)))), none], []), ([], []), (4, [(-1, 2)]))
theorem ks625 : aseg kS krf kB [kE542, kE543] (ksp []) kE625 [kC625_0] 30000 (none) = true := by decide +kernel
theorem ks625_0 : aseg kS krf kB [kE542, kE543] (ksp []) kE625 [kC625_0] 30000 (some kC625_0) = true := by decide +kernel
theorem kok625 : aOK kS krf kB kE625 := aOK_of (kal1 kok542 (kal1 kok543 kal0)) (kcl1 ks625_0 kcl0) ks625
/-- ColdShod$StrokePlan.addNext(LColdShod$Idea;I)V -/
def kE626 : aE := (83, 3, ([(.ofNat 0, .ofNat 3), (.ofNat 259, .ofNat 341)], [(57, 258, .inl (0, .ofNat 0)), (52, 6, .inl (1, .ofNat 0))], 0, [some (.inr [52]), some (.inr [20, 21, 22, 23, 24, 25, 26, 27]), some (.inl (.inl (.inr (.ofNat 258)))), none, none], []), ([], none), ([], [], none, ([], [])), ([(52, 6), (58, 0), (58, 1), (58, 2), (58, 3), (58, 4), (58, 5), (58, 6)], [54, 55, 56, 57]))
def kC626_0 : aC := (([(.ofNat 0, .ofNat 3), (.ofNat 259, .ofNat 341), (.ofNat 0, .ofNat 4), (.ofNat 259, .ofNat 341)], [(57, 258, .inl (0, .ofNat 0)), (52, 6, .inl (3, .ofNat 0))], 2, [some (.inr [52]), some (.inr [20, 21, 22, 23, 24, 25, 26, 27]), some (.inl (.inl (.inr (.ofNat 258)))), some (.inl (.inl (.inl (2, .ofNat 0)))), none], []), ([], []), (4, [(-1, 2)]))
theorem ks626 : aseg kS krf kB [kE542, kE543] (ksp []) kE626 [kC626_0] 30000 (none) = true := by decide +kernel
theorem ks626_0 : aseg kS krf kB [kE542, kE543] (ksp []) kE626 [kC626_0] 30000 (some kC626_0) = true := by decide +kernel
theorem kok626 : aOK kS krf kB kE626 := aOK_of (kal1 kok542 (kal1 kok543 kal0)) (kcl1 ks626_0 kcl0) ks626
/-- ColdShod$StrokePlan.addNext(LColdShod$Idea;I)V -/
def kE627 : aE := (83, 3, ([(.ofNat 0, .ofNat 3), (.ofNat 258, .ofNat 341)], [(57, 257, .inl (0, .ofNat 0)), (52, 6, .inl (1, .ofNat 0))], 0, [some (.inr [52]), some (.inr [20, 21, 22, 23, 24, 25, 26, 27]), some (.inl (.inl (.inr (.ofNat 257)))), none, none], []), ([], none), ([], [], none, ([], [])), ([(52, 6), (58, 0), (58, 1), (58, 2), (58, 3), (58, 4), (58, 5), (58, 6)], [54, 55, 56, 57]))
def kC627_0 : aC := (([(.ofNat 0, .ofNat 3), (.ofNat 258, .ofNat 341), (.ofNat 0, .ofNat 4), (.ofNat 258, .ofNat 341)], [(57, 257, .inl (0, .ofNat 0)), (52, 6, .inl (3, .ofNat 0))], 2, [some (.inr [52]), some (.inr [20, 21, 22, 23, 24, 25, 26, 27]), some (.inl (.inl (.inr (.ofNat 257)))), some (.inl (.inl (.inl (2, .ofNat 0)))), none], []), ([], []), (4, [(-1, 2)]))
theorem ks627 : aseg kS krf kB [kE542, kE543] (ksp []) kE627 [kC627_0] 30000 (none) = true := by decide +kernel
theorem ks627_0 : aseg kS krf kB [kE542, kE543] (ksp []) kE627 [kC627_0] 30000 (some kC627_0) = true := by decide +kernel
theorem kok627 : aOK kS krf kB kE627 := aOK_of (kal1 kok542 (kal1 kok543 kal0)) (kcl1 ks627_0 kcl0) ks627
/-- ColdShod$StrokePlan.addNext(LColdShod$Idea;I)V -/
def kE628 : aE := (83, 3, ([(.ofNat 0, .ofNat 3), (.ofNat 257, .ofNat 341)], [(57, 256, .inl (0, .ofNat 0)), (52, 6, .inl (1, .ofNat 0))], 0, [some (.inr [52]), some (.inr [20, 21, 22, 23, 24, 25, 26, 27]), some (.inl (.inl (.inr (.ofNat 256)))), none, none], []), ([], none), ([], [], none, ([], [])), ([(52, 6), (58, 0), (58, 1), (58, 2), (58, 3), (58, 4), (58, 5), (58, 6)], [54, 55, 56, 57]))
def kC628_0 : aC := (([(.ofNat 0, .ofNat 3), (.ofNat 257, .ofNat 341), (.ofNat 0, .ofNat 4), (.ofNat 257, .ofNat 341)], [(57, 256, .inl (0, .ofNat 0)), (52, 6, .inl (3, .ofNat 0))], 2, [some (.inr [52]), some (.inr [20, 21, 22, 23, 24, 25, 26, 27]), some (.inl (.inl (.inr (.ofNat 256)))), some (.inl (.inl (.inl (2, .ofNat 0)))), none], []), ([], []), (4, [(-1, 2)]))
theorem ks628 : aseg kS krf kB [kE542, kE543] (ksp []) kE628 [kC628_0] 30000 (none) = true := by decide +kernel
theorem ks628_0 : aseg kS krf kB [kE542, kE543] (ksp []) kE628 [kC628_0] 30000 (some kC628_0) = true := by decide +kernel
theorem kok628 : aOK kS krf kB kE628 := aOK_of (kal1 kok542 (kal1 kok543 kal0)) (kcl1 ks628_0 kcl0) ks628
/-- ColdShod$StrokePlan.addNext(LColdShod$Idea;I)V -/
def kE629 : aE := (83, 3, ([(.ofNat 0, .ofNat 3), (.ofNat 256, .ofNat 341)], [(57, 255, .inl (0, .ofNat 0)), (52, 6, .inl (1, .ofNat 0))], 0, [some (.inr [52]), some (.inr [20, 21, 22, 23, 24, 25, 26, 27]), some (.inl (.inl (.inr (.ofNat 255)))), none, none], []), ([], none), ([], [], none, ([], [])), ([(52, 6), (58, 0), (58, 1), (58, 2), (58, 3), (58, 4), (58, 5), (58, 6)], [54, 55, 56, 57]))
def kC629_0 : aC := (([(.ofNat 0, .ofNat 3), (.ofNat 256, .ofNat 341), (.ofNat 0, .ofNat 4), (.ofNat 256, .ofNat 341)], [(57, 255, .inl (0, .ofNat 0)), (52, 6, .inl (3, .ofNat 0))], 2, [some (.inr [52]), some (.inr [20, 21, 22, 23, 24, 25, 26, 27]), some (.inl (.inl (.inr (.ofNat 255)))), some (.inl (.inl (.inl (2, .ofNat 0)))), none], []), ([], []), (4, [(-1, 2)]))
theorem ks629 : aseg kS krf kB [kE542, kE543] (ksp []) kE629 [kC629_0] 30000 (none) = true := by decide +kernel
theorem ks629_0 : aseg kS krf kB [kE542, kE543] (ksp []) kE629 [kC629_0] 30000 (some kC629_0) = true := by decide +kernel
theorem kok629 : aOK kS krf kB kE629 := aOK_of (kal1 kok542 (kal1 kok543 kal0)) (kcl1 ks629_0 kcl0) ks629
/-- ColdShod$StrokePlan.addNext(LColdShod$Idea;I)V -/
def kE630 : aE := (83, 3, ([(.ofNat 0, .ofNat 3), (.ofNat 255, .ofNat 341)], [(57, 254, .inl (0, .ofNat 0)), (52, 6, .inl (1, .ofNat 0))], 0, [some (.inr [52]), some (.inr [20, 21, 22, 23, 24, 25, 26, 27]), some (.inl (.inl (.inr (.ofNat 254)))), none, none], []), ([], none), ([], [], none, ([], [])), ([(52, 6), (58, 0), (58, 1), (58, 2), (58, 3), (58, 4), (58, 5), (58, 6)], [54, 55, 56, 57]))
def kC630_0 : aC := (([(.ofNat 0, .ofNat 3), (.ofNat 255, .ofNat 341), (.ofNat 0, .ofNat 4), (.ofNat 255, .ofNat 341)], [(57, 254, .inl (0, .ofNat 0)), (52, 6, .inl (3, .ofNat 0))], 2, [some (.inr [52]), some (.inr [20, 21, 22, 23, 24, 25, 26, 27]), some (.inl (.inl (.inr (.ofNat 254)))), some (.inl (.inl (.inl (2, .ofNat 0)))), none], []), ([], []), (4, [(-1, 2)]))
theorem ks630 : aseg kS krf kB [kE542, kE543] (ksp []) kE630 [kC630_0] 30000 (none) = true := by decide +kernel
theorem ks630_0 : aseg kS krf kB [kE542, kE543] (ksp []) kE630 [kC630_0] 30000 (some kC630_0) = true := by decide +kernel
theorem kok630 : aOK kS krf kB kE630 := aOK_of (kal1 kok542 (kal1 kok543 kal0)) (kcl1 ks630_0 kcl0) ks630
/-- ColdShod$StrokePlan.addNext(LColdShod$Idea;I)V -/
def kE631 : aE := (83, 3, ([(.ofNat 0, .ofNat 3), (.ofNat 254, .ofNat 341)], [(57, 253, .inl (0, .ofNat 0)), (52, 6, .inl (1, .ofNat 0))], 0, [some (.inr [52]), some (.inr [20, 21, 22, 23, 24, 25, 26, 27]), some (.inl (.inl (.inr (.ofNat 253)))), none, none], []), ([], none), ([], [], none, ([], [])), ([(52, 6), (58, 0), (58, 1), (58, 2), (58, 3), (58, 4), (58, 5), (58, 6)], [54, 55, 56, 57]))
def kC631_0 : aC := (([(.ofNat 0, .ofNat 3), (.ofNat 254, .ofNat 341), (.ofNat 0, .ofNat 4), (.ofNat 254, .ofNat 341)], [(57, 253, .inl (0, .ofNat 0)), (52, 6, .inl (3, .ofNat 0))], 2, [some (.inr [52]), some (.inr [20, 21, 22, 23, 24, 25, 26, 27]), some (.inl (.inl (.inr (.ofNat 253)))), some (.inl (.inl (.inl (2, .ofNat 0)))), none], []), ([], []), (4, [(-1, 2)]))
theorem ks631 : aseg kS krf kB [kE542, kE543] (ksp []) kE631 [kC631_0] 30000 (none) = true := by decide +kernel
theorem ks631_0 : aseg kS krf kB [kE542, kE543] (ksp []) kE631 [kC631_0] 30000 (some kC631_0) = true := by decide +kernel
theorem kok631 : aOK kS krf kB kE631 := aOK_of (kal1 kok542 (kal1 kok543 kal0)) (kcl1 ks631_0 kcl0) ks631
/-- ColdShod$StrokePlan.addNext(LColdShod$Idea;I)V -/
def kE632 : aE := (83, 3, ([(.ofNat 0, .ofNat 3), (.ofNat 253, .ofNat 341)], [(57, 252, .inl (0, .ofNat 0)), (52, 6, .inl (1, .ofNat 0))], 0, [some (.inr [52]), some (.inr [20, 21, 22, 23, 24, 25, 26, 27]), some (.inl (.inl (.inr (.ofNat 252)))), none, none], []), ([], none), ([], [], none, ([], [])), ([(52, 6), (58, 0), (58, 1), (58, 2), (58, 3), (58, 4), (58, 5), (58, 6)], [54, 55, 56, 57]))
def kC632_0 : aC := (([(.ofNat 0, .ofNat 3), (.ofNat 253, .ofNat 341), (.ofNat 0, .ofNat 4), (.ofNat 253, .ofNat 341)], [(57, 252, .inl (0, .ofNat 0)), (52, 6, .inl (3, .ofNat 0))], 2, [some (.inr [52]), some (.inr [20, 21, 22, 23, 24, 25, 26, 27]), some (.inl (.inl (.inr (.ofNat 252)))), some (.inl (.inl (.inl (2, .ofNat 0)))), none], []), ([], []), (4, [(-1, 2)]))
theorem ks632 : aseg kS krf kB [kE542, kE543] (ksp []) kE632 [kC632_0] 30000 (none) = true := by decide +kernel
theorem ks632_0 : aseg kS krf kB [kE542, kE543] (ksp []) kE632 [kC632_0] 30000 (some kC632_0) = true := by decide +kernel
theorem kok632 : aOK kS krf kB kE632 := aOK_of (kal1 kok542 (kal1 kok543 kal0)) (kcl1 ks632_0 kcl0) ks632
/-- ColdShod$StrokePlan.addNext(LColdShod$Idea;I)V -/
def kE633 : aE := (83, 3, ([(.ofNat 0, .ofNat 3), (.ofNat 252, .ofNat 341)], [(57, 251, .inl (0, .ofNat 0)), (52, 6, .inl (1, .ofNat 0))], 0, [some (.inr [52]), some (.inr [20, 21, 22, 23, 24, 25, 26, 27]), some (.inl (.inl (.inr (.ofNat 251)))), none, none], []), ([], none), ([], [], none, ([], [])), ([(52, 6), (58, 0), (58, 1), (58, 2), (58, 3), (58, 4), (58, 5), (58, 6)], [54, 55, 56, 57]))
def kC633_0 : aC := (([(.ofNat 0, .ofNat 3), (.ofNat 252, .ofNat 341), (.ofNat 0, .ofNat 4), (.ofNat 252, .ofNat 341)], [(57, 251, .inl (0, .ofNat 0)), (52, 6, .inl (3, .ofNat 0))], 2, [some (.inr [52]), some (.inr [20, 21, 22, 23, 24, 25, 26, 27]), some (.inl (.inl (.inr (.ofNat 251)))), some (.inl (.inl (.inl (2, .ofNat 0)))), none], []), ([], []), (4, [(-1, 2)]))
theorem ks633 : aseg kS krf kB [kE542, kE543] (ksp []) kE633 [kC633_0] 30000 (none) = true := by decide +kernel
theorem ks633_0 : aseg kS krf kB [kE542, kE543] (ksp []) kE633 [kC633_0] 30000 (some kC633_0) = true := by decide +kernel
theorem kok633 : aOK kS krf kB kE633 := aOK_of (kal1 kok542 (kal1 kok543 kal0)) (kcl1 ks633_0 kcl0) ks633
/-- ColdShod$StrokePlan.addNext(LColdShod$Idea;I)V -/
def kE634 : aE := (83, 3, ([(.ofNat 0, .ofNat 3), (.ofNat 251, .ofNat 341)], [(57, 250, .inl (0, .ofNat 0)), (52, 6, .inl (1, .ofNat 0))], 0, [some (.inr [52]), some (.inr [20, 21, 22, 23, 24, 25, 26, 27]), some (.inl (.inl (.inr (.ofNat 250)))), none, none], []), ([], none), ([], [], none, ([], [])), ([(52, 6), (58, 0), (58, 1), (58, 2), (58, 3), (58, 4), (58, 5), (58, 6)], [54, 55, 56, 57]))
def kC634_0 : aC := (([(.ofNat 0, .ofNat 3), (.ofNat 251, .ofNat 341), (.ofNat 0, .ofNat 4), (.ofNat 251, .ofNat 341)], [(57, 250, .inl (0, .ofNat 0)), (52, 6, .inl (3, .ofNat 0))], 2, [some (.inr [52]), some (.inr [20, 21, 22, 23, 24, 25, 26, 27]), some (.inl (.inl (.inr (.ofNat 250)))), some (.inl (.inl (.inl (2, .ofNat 0)))), none], []), ([], []), (4, [(-1, 2)]))
theorem ks634 : aseg kS krf kB [kE542, kE543] (ksp []) kE634 [kC634_0] 30000 (none) = true := by decide +kernel
theorem ks634_0 : aseg kS krf kB [kE542, kE543] (ksp []) kE634 [kC634_0] 30000 (some kC634_0) = true := by decide +kernel
theorem kok634 : aOK kS krf kB kE634 := aOK_of (kal1 kok542 (kal1 kok543 kal0)) (kcl1 ks634_0 kcl0) ks634
/-- ColdShod$StrokePlan.addNext(LColdShod$Idea;I)V -/
def kE635 : aE := (83, 3, ([(.ofNat 0, .ofNat 3), (.ofNat 250, .ofNat 341)], [(57, 249, .inl (0, .ofNat 0)), (52, 6, .inl (1, .ofNat 0))], 0, [some (.inr [52]), some (.inr [20, 21, 22, 23, 24, 25, 26, 27]), some (.inl (.inl (.inr (.ofNat 249)))), none, none], []), ([], none), ([], [], none, ([], [])), ([(52, 6), (58, 0), (58, 1), (58, 2), (58, 3), (58, 4), (58, 5), (58, 6)], [54, 55, 56, 57]))
def kC635_0 : aC := (([(.ofNat 0, .ofNat 3), (.ofNat 250, .ofNat 341), (.ofNat 0, .ofNat 4), (.ofNat 250, .ofNat 341)], [(57, 249, .inl (0, .ofNat 0)), (52, 6, .inl (3, .ofNat 0))], 2, [some (.inr [52]), some (.inr [20, 21, 22, 23, 24, 25, 26, 27]), some (.inl (.inl (.inr (.ofNat 249)))), some (.inl (.inl (.inl (2, .ofNat 0)))), none], []), ([], []), (4, [(-1, 2)]))
theorem ks635 : aseg kS krf kB [kE542, kE543] (ksp []) kE635 [kC635_0] 30000 (none) = true := by decide +kernel
theorem ks635_0 : aseg kS krf kB [kE542, kE543] (ksp []) kE635 [kC635_0] 30000 (some kC635_0) = true := by decide +kernel
theorem kok635 : aOK kS krf kB kE635 := aOK_of (kal1 kok542 (kal1 kok543 kal0)) (kcl1 ks635_0 kcl0) ks635
/-- ColdShod$StrokePlan.addNext(LColdShod$Idea;I)V -/
def kE636 : aE := (83, 3, ([(.ofNat 0, .ofNat 3), (.ofNat 249, .ofNat 341)], [(57, 248, .inl (0, .ofNat 0)), (52, 6, .inl (1, .ofNat 0))], 0, [some (.inr [52]), some (.inr [20, 21, 22, 23, 24, 25, 26, 27]), some (.inl (.inl (.inr (.ofNat 248)))), none, none], []), ([], none), ([], [], none, ([], [])), ([(52, 6), (58, 0), (58, 1), (58, 2), (58, 3), (58, 4), (58, 5), (58, 6)], [54, 55, 56, 57]))
def kC636_0 : aC := (([(.ofNat 0, .ofNat 3), (.ofNat 249, .ofNat 341), (.ofNat 0, .ofNat 4), (.ofNat 249, .ofNat 341)], [(57, 248, .inl (0, .ofNat 0)), (52, 6, .inl (3, .ofNat 0))], 2, [some (.inr [52]), some (.inr [20, 21, 22, 23, 24, 25, 26, 27]), some (.inl (.inl (.inr (.ofNat 248)))), some (.inl (.inl (.inl (2, .ofNat 0)))), none], []), ([], []), (4, [(-1, 2)]))
theorem ks636 : aseg kS krf kB [kE542, kE543] (ksp []) kE636 [kC636_0] 30000 (none) = true := by decide +kernel
theorem ks636_0 : aseg kS krf kB [kE542, kE543] (ksp []) kE636 [kC636_0] 30000 (some kC636_0) = true := by decide +kernel
theorem kok636 : aOK kS krf kB kE636 := aOK_of (kal1 kok542 (kal1 kok543 kal0)) (kcl1 ks636_0 kcl0) ks636
/-- ColdShod$StrokePlan.addNext(LColdShod$Idea;I)V -/
def kE637 : aE := (83, 3, ([(.ofNat 0, .ofNat 3), (.ofNat 248, .ofNat 341)], [(57, 247, .inl (0, .ofNat 0)), (52, 6, .inl (1, .ofNat 0))], 0, [some (.inr [52]), some (.inr [20, 21, 22, 23, 24, 25, 26, 27]), some (.inl (.inl (.inr (.ofNat 247)))), none, none], []), ([], none), ([], [], none, ([], [])), ([(52, 6), (58, 0), (58, 1), (58, 2), (58, 3), (58, 4), (58, 5), (58, 6)], [54, 55, 56, 57]))
def kC637_0 : aC := (([(.ofNat 0, .ofNat 3), (.ofNat 248, .ofNat 341), (.ofNat 0, .ofNat 4), (.ofNat 248, .ofNat 341)], [(57, 247, .inl (0, .ofNat 0)), (52, 6, .inl (3, .ofNat 0))], 2, [some (.inr [52]), some (.inr [20, 21, 22, 23, 24, 25, 26, 27]), some (.inl (.inl (.inr (.ofNat 247)))), some (.inl (.inl (.inl (2, .ofNat 0)))), none], []), ([], []), (4, [(-1, 2)]))
theorem ks637 : aseg kS krf kB [kE542, kE543] (ksp []) kE637 [kC637_0] 30000 (none) = true := by decide +kernel
theorem ks637_0 : aseg kS krf kB [kE542, kE543] (ksp []) kE637 [kC637_0] 30000 (some kC637_0) = true := by decide +kernel
theorem kok637 : aOK kS krf kB kE637 := aOK_of (kal1 kok542 (kal1 kok543 kal0)) (kcl1 ks637_0 kcl0) ks637
/-- ColdShod$StrokePlan.addNext(LColdShod$Idea;I)V -/
def kE638 : aE := (83, 3, ([(.ofNat 0, .ofNat 3), (.ofNat 247, .ofNat 341)], [(57, 246, .inl (0, .ofNat 0)), (52, 6, .inl (1, .ofNat 0))], 0, [some (.inr [52]), some (.inr [20, 21, 22, 23, 24, 25, 26, 27]), some (.inl (.inl (.inr (.ofNat 246)))), none, none], []), ([], none), ([], [], none, ([], [])), ([(52, 6), (58, 0), (58, 1), (58, 2), (58, 3), (58, 4), (58, 5), (58, 6)], [54, 55, 56, 57]))
def kC638_0 : aC := (([(.ofNat 0, .ofNat 3), (.ofNat 247, .ofNat 341), (.ofNat 0, .ofNat 4), (.ofNat 247, .ofNat 341)], [(57, 246, .inl (0, .ofNat 0)), (52, 6, .inl (3, .ofNat 0))], 2, [some (.inr [52]), some (.inr [20, 21, 22, 23, 24, 25, 26, 27]), some (.inl (.inl (.inr (.ofNat 246)))), some (.inl (.inl (.inl (2, .ofNat 0)))), none], []), ([], []), (4, [(-1, 2)]))
theorem ks638 : aseg kS krf kB [kE542, kE543] (ksp []) kE638 [kC638_0] 30000 (none) = true := by decide +kernel
theorem ks638_0 : aseg kS krf kB [kE542, kE543] (ksp []) kE638 [kC638_0] 30000 (some kC638_0) = true := by decide +kernel
theorem kok638 : aOK kS krf kB kE638 := aOK_of (kal1 kok542 (kal1 kok543 kal0)) (kcl1 ks638_0 kcl0) ks638
/-- ColdShod$StrokePlan.addNext(LColdShod$Idea;I)V -/
def kE639 : aE := (83, 3, ([(.ofNat 0, .ofNat 3), (.ofNat 246, .ofNat 341)], [(57, 245, .inl (0, .ofNat 0)), (52, 6, .inl (1, .ofNat 0))], 0, [some (.inr [52]), some (.inr [20, 21, 22, 23, 24, 25, 26, 27]), some (.inl (.inl (.inr (.ofNat 245)))), none, none], []), ([], none), ([], [], none, ([], [])), ([(52, 6), (58, 0), (58, 1), (58, 2), (58, 3), (58, 4), (58, 5), (58, 6)], [54, 55, 56, 57]))
def kC639_0 : aC := (([(.ofNat 0, .ofNat 3), (.ofNat 246, .ofNat 341), (.ofNat 0, .ofNat 4), (.ofNat 246, .ofNat 341)], [(57, 245, .inl (0, .ofNat 0)), (52, 6, .inl (3, .ofNat 0))], 2, [some (.inr [52]), some (.inr [20, 21, 22, 23, 24, 25, 26, 27]), some (.inl (.inl (.inr (.ofNat 245)))), some (.inl (.inl (.inl (2, .ofNat 0)))), none], []), ([], []), (4, [(-1, 2)]))
theorem ks639 : aseg kS krf kB [kE542, kE543] (ksp []) kE639 [kC639_0] 30000 (none) = true := by decide +kernel
theorem ks639_0 : aseg kS krf kB [kE542, kE543] (ksp []) kE639 [kC639_0] 30000 (some kC639_0) = true := by decide +kernel
theorem kok639 : aOK kS krf kB kE639 := aOK_of (kal1 kok542 (kal1 kok543 kal0)) (kcl1 ks639_0 kcl0) ks639
/-- ColdShod$StrokePlan.addNext(LColdShod$Idea;I)V -/
def kE640 : aE := (83, 3, ([(.ofNat 0, .ofNat 3), (.ofNat 245, .ofNat 341)], [(57, 244, .inl (0, .ofNat 0)), (52, 6, .inl (1, .ofNat 0))], 0, [some (.inr [52]), some (.inr [20, 21, 22, 23, 24, 25, 26, 27]), some (.inl (.inl (.inr (.ofNat 244)))), none, none], []), ([], none), ([], [], none, ([], [])), ([(52, 6), (58, 0), (58, 1), (58, 2), (58, 3), (58, 4), (58, 5), (58, 6)], [54, 55, 56, 57]))
def kC640_0 : aC := (([(.ofNat 0, .ofNat 3), (.ofNat 245, .ofNat 341), (.ofNat 0, .ofNat 4), (.ofNat 245, .ofNat 341)], [(57, 244, .inl (0, .ofNat 0)), (52, 6, .inl (3, .ofNat 0))], 2, [some (.inr [52]), some (.inr [20, 21, 22, 23, 24, 25, 26, 27]), some (.inl (.inl (.inr (.ofNat 244)))), some (.inl (.inl (.inl (2, .ofNat 0)))), none], []), ([], []), (4, [(-1, 2)]))
theorem ks640 : aseg kS krf kB [kE542, kE543] (ksp []) kE640 [kC640_0] 30000 (none) = true := by decide +kernel
theorem ks640_0 : aseg kS krf kB [kE542, kE543] (ksp []) kE640 [kC640_0] 30000 (some kC640_0) = true := by decide +kernel
theorem kok640 : aOK kS krf kB kE640 := aOK_of (kal1 kok542 (kal1 kok543 kal0)) (kcl1 ks640_0 kcl0) ks640
/-- ColdShod$StrokePlan.addNext(LColdShod$Idea;I)V -/
def kE641 : aE := (83, 3, ([(.ofNat 0, .ofNat 3), (.ofNat 244, .ofNat 341)], [(57, 243, .inl (0, .ofNat 0)), (52, 6, .inl (1, .ofNat 0))], 0, [some (.inr [52]), some (.inr [20, 21, 22, 23, 24, 25, 26, 27]), some (.inl (.inl (.inr (.ofNat 243)))), none, none], []), ([], none), ([], [], none, ([], [])), ([(52, 6), (58, 0), (58, 1), (58, 2), (58, 3), (58, 4), (58, 5), (58, 6)], [54, 55, 56, 57]))
def kC641_0 : aC := (([(.ofNat 0, .ofNat 3), (.ofNat 244, .ofNat 341), (.ofNat 0, .ofNat 4), (.ofNat 244, .ofNat 341)], [(57, 243, .inl (0, .ofNat 0)), (52, 6, .inl (3, .ofNat 0))], 2, [some (.inr [52]), some (.inr [20, 21, 22, 23, 24, 25, 26, 27]), some (.inl (.inl (.inr (.ofNat 243)))), some (.inl (.inl (.inl (2, .ofNat 0)))), none], []), ([], []), (4, [(-1, 2)]))
theorem ks641 : aseg kS krf kB [kE542, kE543] (ksp []) kE641 [kC641_0] 30000 (none) = true := by decide +kernel
theorem ks641_0 : aseg kS krf kB [kE542, kE543] (ksp []) kE641 [kC641_0] 30000 (some kC641_0) = true := by decide +kernel
theorem kok641 : aOK kS krf kB kE641 := aOK_of (kal1 kok542 (kal1 kok543 kal0)) (kcl1 ks641_0 kcl0) ks641
/-- ColdShod$StrokePlan.addNext(LColdShod$Idea;I)V -/
def kE642 : aE := (83, 3, ([(.ofNat 0, .ofNat 3), (.ofNat 243, .ofNat 341)], [(57, 242, .inl (0, .ofNat 0)), (52, 6, .inl (1, .ofNat 0))], 0, [some (.inr [52]), some (.inr [20, 21, 22, 23, 24, 25, 26, 27]), some (.inl (.inl (.inr (.ofNat 242)))), none, none], []), ([], none), ([], [], none, ([], [])), ([(52, 6), (58, 0), (58, 1), (58, 2), (58, 3), (58, 4), (58, 5), (58, 6)], [54, 55, 56, 57]))
def kC642_0 : aC := (([(.ofNat 0, .ofNat 3), (.ofNat 243, .ofNat 341), (.ofNat 0, .ofNat 4), (.ofNat 243, .ofNat 341)], [(57, 242, .inl (0, .ofNat 0)), (52, 6, .inl (3, .ofNat 0))], 2, [some (.inr [52]), some (.inr [20, 21, 22, 23, 24, 25, 26, 27]), some (.inl (.inl (.inr (.ofNat 242)))), some (.inl (.inl (.inl (2, .ofNat 0)))), none], []), ([], []), (4, [(-1, 2)]))
theorem ks642 : aseg kS krf kB [kE542, kE543] (ksp []) kE642 [kC642_0] 30000 (none) = true := by decide +kernel
theorem ks642_0 : aseg kS krf kB [kE542, kE543] (ksp []) kE642 [kC642_0] 30000 (some kC642_0) = true := by decide +kernel
theorem kok642 : aOK kS krf kB kE642 := aOK_of (kal1 kok542 (kal1 kok543 kal0)) (kcl1 ks642_0 kcl0) ks642
/-- ColdShod$StrokePlan.addNext(LColdShod$Idea;I)V -/
def kE643 : aE := (83, 3, ([(.ofNat 0, .ofNat 3), (.ofNat 242, .ofNat 341)], [(57, 241, .inl (0, .ofNat 0)), (52, 6, .inl (1, .ofNat 0))], 0, [some (.inr [52]), some (.inr [20, 21, 22, 23, 24, 25, 26, 27]), some (.inl (.inl (.inr (.ofNat 241)))), none, none], []), ([], none), ([], [], none, ([], [])), ([(52, 6), (58, 0), (58, 1), (58, 2), (58, 3), (58, 4), (58, 5), (58, 6)], [54, 55, 56, 57]))
def kC643_0 : aC := (([(.ofNat 0, .ofNat 3), (.ofNat 242, .ofNat 341), (.ofNat 0, .ofNat 4), (.ofNat 242, .ofNat 341)], [(57, 241, .inl (0, .ofNat 0)), (52, 6, .inl (3, .ofNat 0))], 2, [some (.inr [52]), some (.inr [20, 21, 22, 23, 24, 25, 26, 27]), some (.inl (.inl (.inr (.ofNat 241)))), some (.inl (.inl (.inl (2, .ofNat 0)))), none], []), ([], []), (4, [(-1, 2)]))
theorem ks643 : aseg kS krf kB [kE542, kE543] (ksp []) kE643 [kC643_0] 30000 (none) = true := by decide +kernel
theorem ks643_0 : aseg kS krf kB [kE542, kE543] (ksp []) kE643 [kC643_0] 30000 (some kC643_0) = true := by decide +kernel
theorem kok643 : aOK kS krf kB kE643 := aOK_of (kal1 kok542 (kal1 kok543 kal0)) (kcl1 ks643_0 kcl0) ks643
/-- ColdShod$StrokePlan.addNext(LColdShod$Idea;I)V -/
def kE644 : aE := (83, 3, ([(.ofNat 0, .ofNat 3), (.ofNat 241, .ofNat 341)], [(57, 240, .inl (0, .ofNat 0)), (52, 6, .inl (1, .ofNat 0))], 0, [some (.inr [52]), some (.inr [20, 21, 22, 23, 24, 25, 26, 27]), some (.inl (.inl (.inr (.ofNat 240)))), none, none], []), ([], none), ([], [], none, ([], [])), ([(52, 6), (58, 0), (58, 1), (58, 2), (58, 3), (58, 4), (58, 5), (58, 6)], [54, 55, 56, 57]))
def kC644_0 : aC := (([(.ofNat 0, .ofNat 3), (.ofNat 241, .ofNat 341), (.ofNat 0, .ofNat 4), (.ofNat 241, .ofNat 341)], [(57, 240, .inl (0, .ofNat 0)), (52, 6, .inl (3, .ofNat 0))], 2, [some (.inr [52]), some (.inr [20, 21, 22, 23, 24, 25, 26, 27]), some (.inl (.inl (.inr (.ofNat 240)))), some (.inl (.inl (.inl (2, .ofNat 0)))), none], []), ([], []), (4, [(-1, 2)]))
theorem ks644 : aseg kS krf kB [kE542, kE543] (ksp []) kE644 [kC644_0] 30000 (none) = true := by decide +kernel
theorem ks644_0 : aseg kS krf kB [kE542, kE543] (ksp []) kE644 [kC644_0] 30000 (some kC644_0) = true := by decide +kernel
theorem kok644 : aOK kS krf kB kE644 := aOK_of (kal1 kok542 (kal1 kok543 kal0)) (kcl1 ks644_0 kcl0) ks644
/-- ColdShod$StrokePlan.addNext(LColdShod$Idea;I)V -/
def kE645 : aE := (83, 3, ([(.ofNat 0, .ofNat 3), (.ofNat 240, .ofNat 341)], [(57, 239, .inl (0, .ofNat 0)), (52, 6, .inl (1, .ofNat 0))], 0, [some (.inr [52]), some (.inr [20, 21, 22, 23, 24, 25, 26, 27]), some (.inl (.inl (.inr (.ofNat 239)))), none, none], []), ([], none), ([], [], none, ([], [])), ([(52, 6), (58, 0), (58, 1), (58, 2), (58, 3), (58, 4), (58, 5), (58, 6)], [54, 55, 56, 57]))
def kC645_0 : aC := (([(.ofNat 0, .ofNat 3), (.ofNat 240, .ofNat 341), (.ofNat 0, .ofNat 4), (.ofNat 240, .ofNat 341)], [(57, 239, .inl (0, .ofNat 0)), (52, 6, .inl (3, .ofNat 0))], 2, [some (.inr [52]), some (.inr [20, 21, 22, 23, 24, 25, 26, 27]), some (.inl (.inl (.inr (.ofNat 239)))), some (.inl (.inl (.inl (2, .ofNat 0)))), none], []), ([], []), (4, [(-1, 2)]))
theorem ks645 : aseg kS krf kB [kE542, kE543] (ksp []) kE645 [kC645_0] 30000 (none) = true := by decide +kernel
theorem ks645_0 : aseg kS krf kB [kE542, kE543] (ksp []) kE645 [kC645_0] 30000 (some kC645_0) = true := by decide +kernel
theorem kok645 : aOK kS krf kB kE645 := aOK_of (kal1 kok542 (kal1 kok543 kal0)) (kcl1 ks645_0 kcl0) ks645
/-- ColdShod$StrokePlan.addNext(LColdShod$Idea;I)V -/
def kE646 : aE := (83, 3, ([(.ofNat 0, .ofNat 3), (.ofNat 239, .ofNat 341)], [(57, 238, .inl (0, .ofNat 0)), (52, 6, .inl (1, .ofNat 0))], 0, [some (.inr [52]), some (.inr [20, 21, 22, 23, 24, 25, 26, 27]), some (.inl (.inl (.inr (.ofNat 238)))), none, none], []), ([], none), ([], [], none, ([], [])), ([(52, 6), (58, 0), (58, 1), (58, 2), (58, 3), (58, 4), (58, 5), (58, 6)], [54, 55, 56, 57]))
def kC646_0 : aC := (([(.ofNat 0, .ofNat 3), (.ofNat 239, .ofNat 341), (.ofNat 0, .ofNat 4), (.ofNat 239, .ofNat 341)], [(57, 238, .inl (0, .ofNat 0)), (52, 6, .inl (3, .ofNat 0))], 2, [some (.inr [52]), some (.inr [20, 21, 22, 23, 24, 25, 26, 27]), some (.inl (.inl (.inr (.ofNat 238)))), some (.inl (.inl (.inl (2, .ofNat 0)))), none], []), ([], []), (4, [(-1, 2)]))
theorem ks646 : aseg kS krf kB [kE542, kE543] (ksp []) kE646 [kC646_0] 30000 (none) = true := by decide +kernel
theorem ks646_0 : aseg kS krf kB [kE542, kE543] (ksp []) kE646 [kC646_0] 30000 (some kC646_0) = true := by decide +kernel
theorem kok646 : aOK kS krf kB kE646 := aOK_of (kal1 kok542 (kal1 kok543 kal0)) (kcl1 ks646_0 kcl0) ks646
/-- ColdShod$StrokePlan.addNext(LColdShod$Idea;I)V -/
def kE647 : aE := (83, 3, ([(.ofNat 0, .ofNat 3), (.ofNat 238, .ofNat 341)], [(57, 237, .inl (0, .ofNat 0)), (52, 6, .inl (1, .ofNat 0))], 0, [some (.inr [52]), some (.inr [20, 21, 22, 23, 24, 25, 26, 27]), some (.inl (.inl (.inr (.ofNat 237)))), none, none], []), ([], none), ([], [], none, ([], [])), ([(52, 6), (58, 0), (58, 1), (58, 2), (58, 3), (58, 4), (58, 5), (58, 6)], [54, 55, 56, 57]))
def kC647_0 : aC := (([(.ofNat 0, .ofNat 3), (.ofNat 238, .ofNat 341), (.ofNat 0, .ofNat 4), (.ofNat 238, .ofNat 341)], [(57, 237, .inl (0, .ofNat 0)), (52, 6, .inl (3, .ofNat 0))], 2, [some (.inr [52]), some (.inr [20, 21, 22, 23, 24, 25, 26, 27]), some (.inl (.inl (.inr (.ofNat 237)))), some (.inl (.inl (.inl (2, .ofNat 0)))), none], []), ([], []), (4, [(-1, 2)]))
theorem ks647 : aseg kS krf kB [kE542, kE543] (ksp []) kE647 [kC647_0] 30000 (none) = true := by decide +kernel
theorem ks647_0 : aseg kS krf kB [kE542, kE543] (ksp []) kE647 [kC647_0] 30000 (some kC647_0) = true := by decide +kernel
theorem kok647 : aOK kS krf kB kE647 := aOK_of (kal1 kok542 (kal1 kok543 kal0)) (kcl1 ks647_0 kcl0) ks647
/-- ColdShod$StrokePlan.addNext(LColdShod$Idea;I)V -/
def kE648 : aE := (83, 3, ([(.ofNat 0, .ofNat 3), (.ofNat 237, .ofNat 341)], [(57, 236, .inl (0, .ofNat 0)), (52, 6, .inl (1, .ofNat 0))], 0, [some (.inr [52]), some (.inr [20, 21, 22, 23, 24, 25, 26, 27]), some (.inl (.inl (.inr (.ofNat 236)))), none, none], []), ([], none), ([], [], none, ([], [])), ([(52, 6), (58, 0), (58, 1), (58, 2), (58, 3), (58, 4), (58, 5), (58, 6)], [54, 55, 56, 57]))
def kC648_0 : aC := (([(.ofNat 0, .ofNat 3), (.ofNat 237, .ofNat 341), (.ofNat 0, .ofNat 4), (.ofNat 237, .ofNat 341)], [(57, 236, .inl (0, .ofNat 0)), (52, 6, .inl (3, .ofNat 0))], 2, [some (.inr [52]), some (.inr [20, 21, 22, 23, 24, 25, 26, 27]), some (.inl (.inl (.inr (.ofNat 236)))), some (.inl (.inl (.inl (2, .ofNat 0)))), none], []), ([], []), (4, [(-1, 2)]))
theorem ks648 : aseg kS krf kB [kE542, kE543] (ksp []) kE648 [kC648_0] 30000 (none) = true := by decide +kernel
theorem ks648_0 : aseg kS krf kB [kE542, kE543] (ksp []) kE648 [kC648_0] 30000 (some kC648_0) = true := by decide +kernel
theorem kok648 : aOK kS krf kB kE648 := aOK_of (kal1 kok542 (kal1 kok543 kal0)) (kcl1 ks648_0 kcl0) ks648
/-- ColdShod$StrokePlan.addNext(LColdShod$Idea;I)V -/
def kE649 : aE := (83, 3, ([(.ofNat 0, .ofNat 3), (.ofNat 236, .ofNat 341)], [(57, 235, .inl (0, .ofNat 0)), (52, 6, .inl (1, .ofNat 0))], 0, [some (.inr [52]), some (.inr [20, 21, 22, 23, 24, 25, 26, 27]), some (.inl (.inl (.inr (.ofNat 235)))), none, none], []), ([], none), ([], [], none, ([], [])), ([(52, 6), (58, 0), (58, 1), (58, 2), (58, 3), (58, 4), (58, 5), (58, 6)], [54, 55, 56, 57]))
def kC649_0 : aC := (([(.ofNat 0, .ofNat 3), (.ofNat 236, .ofNat 341), (.ofNat 0, .ofNat 4), (.ofNat 236, .ofNat 341)], [(57, 235, .inl (0, .ofNat 0)), (52, 6, .inl (3, .ofNat 0))], 2, [some (.inr [52]), some (.inr [20, 21, 22, 23, 24, 25, 26, 27]), some (.inl (.inl (.inr (.ofNat 235)))), some (.inl (.inl (.inl (2, .ofNat 0)))), none], []), ([], []), (4, [(-1, 2)]))
theorem ks649 : aseg kS krf kB [kE542, kE543] (ksp []) kE649 [kC649_0] 30000 (none) = true := by decide +kernel
theorem ks649_0 : aseg kS krf kB [kE542, kE543] (ksp []) kE649 [kC649_0] 30000 (some kC649_0) = true := by decide +kernel
theorem kok649 : aOK kS krf kB kE649 := aOK_of (kal1 kok542 (kal1 kok543 kal0)) (kcl1 ks649_0 kcl0) ks649
/-- ColdShod$StrokePlan.addNext(LColdShod$Idea;I)V -/
def kE650 : aE := (83, 3, ([(.ofNat 0, .ofNat 3), (.ofNat 235, .ofNat 341)], [(57, 234, .inl (0, .ofNat 0)), (52, 6, .inl (1, .ofNat 0))], 0, [some (.inr [52]), some (.inr [20, 21, 22, 23, 24, 25, 26, 27]), some (.inl (.inl (.inr (.ofNat 234)))), none, none], []), ([], none), ([], [], none, ([], [])), ([(52, 6), (58, 0), (58, 1), (58, 2), (58, 3), (58, 4), (58, 5), (58, 6)], [54, 55, 56, 57]))
def kC650_0 : aC := (([(.ofNat 0, .ofNat 3), (.ofNat 235, .ofNat 341), (.ofNat 0, .ofNat 4), (.ofNat 235, .ofNat 341)], [(57, 234, .inl (0, .ofNat 0)), (52, 6, .inl (3, .ofNat 0))], 2, [some (.inr [52]), some (.inr [20, 21, 22, 23, 24, 25, 26, 27]), some (.inl (.inl (.inr (.ofNat 234)))), some (.inl (.inl (.inl (2, .ofNat 0)))), none], []), ([], []), (4, [(-1, 2)]))
theorem ks650 : aseg kS krf kB [kE542, kE543] (ksp []) kE650 [kC650_0] 30000 (none) = true := by decide +kernel
theorem ks650_0 : aseg kS krf kB [kE542, kE543] (ksp []) kE650 [kC650_0] 30000 (some kC650_0) = true := by decide +kernel
theorem kok650 : aOK kS krf kB kE650 := aOK_of (kal1 kok542 (kal1 kok543 kal0)) (kcl1 ks650_0 kcl0) ks650
/-- ColdShod$StrokePlan.addNext(LColdShod$Idea;I)V -/
def kE651 : aE := (83, 3, ([(.ofNat 0, .ofNat 3), (.ofNat 234, .ofNat 341)], [(57, 233, .inl (0, .ofNat 0)), (52, 6, .inl (1, .ofNat 0))], 0, [some (.inr [52]), some (.inr [20, 21, 22, 23, 24, 25, 26, 27]), some (.inl (.inl (.inr (.ofNat 233)))), none, none], []), ([], none), ([], [], none, ([], [])), ([(52, 6), (58, 0), (58, 1), (58, 2), (58, 3), (58, 4), (58, 5), (58, 6)], [54, 55, 56, 57]))
def kC651_0 : aC := (([(.ofNat 0, .ofNat 3), (.ofNat 234, .ofNat 341), (.ofNat 0, .ofNat 4), (.ofNat 234, .ofNat 341)], [(57, 233, .inl (0, .ofNat 0)), (52, 6, .inl (3, .ofNat 0))], 2, [some (.inr [52]), some (.inr [20, 21, 22, 23, 24, 25, 26, 27]), some (.inl (.inl (.inr (.ofNat 233)))), some (.inl (.inl (.inl (2, .ofNat 0)))), none], []), ([], []), (4, [(-1, 2)]))
theorem ks651 : aseg kS krf kB [kE542, kE543] (ksp []) kE651 [kC651_0] 30000 (none) = true := by decide +kernel
theorem ks651_0 : aseg kS krf kB [kE542, kE543] (ksp []) kE651 [kC651_0] 30000 (some kC651_0) = true := by decide +kernel
theorem kok651 : aOK kS krf kB kE651 := aOK_of (kal1 kok542 (kal1 kok543 kal0)) (kcl1 ks651_0 kcl0) ks651
/-- ColdShod$StrokePlan.addNext(LColdShod$Idea;I)V -/
def kE652 : aE := (83, 3, ([(.ofNat 0, .ofNat 3), (.ofNat 233, .ofNat 341)], [(57, 232, .inl (0, .ofNat 0)), (52, 6, .inl (1, .ofNat 0))], 0, [some (.inr [52]), some (.inr [20, 21, 22, 23, 24, 25, 26, 27]), some (.inl (.inl (.inr (.ofNat 232)))), none, none], []), ([], none), ([], [], none, ([], [])), ([(52, 6), (58, 0), (58, 1), (58, 2), (58, 3), (58, 4), (58, 5), (58, 6)], [54, 55, 56, 57]))
def kC652_0 : aC := (([(.ofNat 0, .ofNat 3), (.ofNat 233, .ofNat 341), (.ofNat 0, .ofNat 4), (.ofNat 233, .ofNat 341)], [(57, 232, .inl (0, .ofNat 0)), (52, 6, .inl (3, .ofNat 0))], 2, [some (.inr [52]), some (.inr [20, 21, 22, 23, 24, 25, 26, 27]), some (.inl (.inl (.inr (.ofNat 232)))), some (.inl (.inl (.inl (2, .ofNat 0)))), none], []), ([], []), (4, [(-1, 2)]))
theorem ks652 : aseg kS krf kB [kE542, kE543] (ksp []) kE652 [kC652_0] 30000 (none) = true := by decide +kernel
theorem ks652_0 : aseg kS krf kB [kE542, kE543] (ksp []) kE652 [kC652_0] 30000 (some kC652_0) = true := by decide +kernel
theorem kok652 : aOK kS krf kB kE652 := aOK_of (kal1 kok542 (kal1 kok543 kal0)) (kcl1 ks652_0 kcl0) ks652
/-- ColdShod$StrokePlan.addNext(LColdShod$Idea;I)V -/
def kE653 : aE := (83, 3, ([(.ofNat 0, .ofNat 3), (.ofNat 232, .ofNat 341)], [(57, 231, .inl (0, .ofNat 0)), (52, 6, .inl (1, .ofNat 0))], 0, [some (.inr [52]), some (.inr [20, 21, 22, 23, 24, 25, 26, 27]), some (.inl (.inl (.inr (.ofNat 231)))), none, none], []), ([], none), ([], [], none, ([], [])), ([(52, 6), (58, 0), (58, 1), (58, 2), (58, 3), (58, 4), (58, 5), (58, 6)], [54, 55, 56, 57]))
def kC653_0 : aC := (([(.ofNat 0, .ofNat 3), (.ofNat 232, .ofNat 341), (.ofNat 0, .ofNat 4), (.ofNat 232, .ofNat 341)], [(57, 231, .inl (0, .ofNat 0)), (52, 6, .inl (3, .ofNat 0))], 2, [some (.inr [52]), some (.inr [20, 21, 22, 23, 24, 25, 26, 27]), some (.inl (.inl (.inr (.ofNat 231)))), some (.inl (.inl (.inl (2, .ofNat 0)))), none], []), ([], []), (4, [(-1, 2)]))
theorem ks653 : aseg kS krf kB [kE542, kE543] (ksp []) kE653 [kC653_0] 30000 (none) = true := by decide +kernel
theorem ks653_0 : aseg kS krf kB [kE542, kE543] (ksp []) kE653 [kC653_0] 30000 (some kC653_0) = true := by decide +kernel
theorem kok653 : aOK kS krf kB kE653 := aOK_of (kal1 kok542 (kal1 kok543 kal0)) (kcl1 ks653_0 kcl0) ks653
/-- ColdShod$StrokePlan.addNext(LColdShod$Idea;I)V -/
def kE654 : aE := (83, 3, ([(.ofNat 0, .ofNat 3), (.ofNat 231, .ofNat 341)], [(57, 230, .inl (0, .ofNat 0)), (52, 6, .inl (1, .ofNat 0))], 0, [some (.inr [52]), some (.inr [20, 21, 22, 23, 24, 25, 26, 27]), some (.inl (.inl (.inr (.ofNat 230)))), none, none], []), ([], none), ([], [], none, ([], [])), ([(52, 6), (58, 0), (58, 1), (58, 2), (58, 3), (58, 4), (58, 5), (58, 6)], [54, 55, 56, 57]))
def kC654_0 : aC := (([(.ofNat 0, .ofNat 3), (.ofNat 231, .ofNat 341), (.ofNat 0, .ofNat 4), (.ofNat 231, .ofNat 341)], [(57, 230, .inl (0, .ofNat 0)), (52, 6, .inl (3, .ofNat 0))], 2, [some (.inr [52]), some (.inr [20, 21, 22, 23, 24, 25, 26, 27]), some (.inl (.inl (.inr (.ofNat 230)))), some (.inl (.inl (.inl (2, .ofNat 0)))), none], []), ([], []), (4, [(-1, 2)]))
theorem ks654 : aseg kS krf kB [kE542, kE543] (ksp []) kE654 [kC654_0] 30000 (none) = true := by decide +kernel
theorem ks654_0 : aseg kS krf kB [kE542, kE543] (ksp []) kE654 [kC654_0] 30000 (some kC654_0) = true := by decide +kernel
theorem kok654 : aOK kS krf kB kE654 := aOK_of (kal1 kok542 (kal1 kok543 kal0)) (kcl1 ks654_0 kcl0) ks654
/-- ColdShod$StrokePlan.addNext(LColdShod$Idea;I)V -/
def kE655 : aE := (83, 3, ([(.ofNat 0, .ofNat 3), (.ofNat 230, .ofNat 341)], [(57, 229, .inl (0, .ofNat 0)), (52, 6, .inl (1, .ofNat 0))], 0, [some (.inr [52]), some (.inr [20, 21, 22, 23, 24, 25, 26, 27]), some (.inl (.inl (.inr (.ofNat 229)))), none, none], []), ([], none), ([], [], none, ([], [])), ([(52, 6), (58, 0), (58, 1), (58, 2), (58, 3), (58, 4), (58, 5), (58, 6)], [54, 55, 56, 57]))
def kC655_0 : aC := (([(.ofNat 0, .ofNat 3), (.ofNat 230, .ofNat 341), (.ofNat 0, .ofNat 4), (.ofNat 230, .ofNat 341)], [(57, 229, .inl (0, .ofNat 0)), (52, 6, .inl (3, .ofNat 0))], 2, [some (.inr [52]), some (.inr [20, 21, 22, 23, 24, 25, 26, 27]), some (.inl (.inl (.inr (.ofNat 229)))), some (.inl (.inl (.inl (2, .ofNat 0)))), none], []), ([], []), (4, [(-1, 2)]))
theorem ks655 : aseg kS krf kB [kE542, kE543] (ksp []) kE655 [kC655_0] 30000 (none) = true := by decide +kernel
theorem ks655_0 : aseg kS krf kB [kE542, kE543] (ksp []) kE655 [kC655_0] 30000 (some kC655_0) = true := by decide +kernel
theorem kok655 : aOK kS krf kB kE655 := aOK_of (kal1 kok542 (kal1 kok543 kal0)) (kcl1 ks655_0 kcl0) ks655
/-- ColdShod$StrokePlan.addNext(LColdShod$Idea;I)V -/
def kE656 : aE := (83, 3, ([(.ofNat 0, .ofNat 3), (.ofNat 229, .ofNat 341)], [(57, 228, .inl (0, .ofNat 0)), (52, 6, .inl (1, .ofNat 0))], 0, [some (.inr [52]), some (.inr [20, 21, 22, 23, 24, 25, 26, 27]), some (.inl (.inl (.inr (.ofNat 228)))), none, none], []), ([], none), ([], [], none, ([], [])), ([(52, 6), (58, 0), (58, 1), (58, 2), (58, 3), (58, 4), (58, 5), (58, 6)], [54, 55, 56, 57]))
def kC656_0 : aC := (([(.ofNat 0, .ofNat 3), (.ofNat 229, .ofNat 341), (.ofNat 0, .ofNat 4), (.ofNat 229, .ofNat 341)], [(57, 228, .inl (0, .ofNat 0)), (52, 6, .inl (3, .ofNat 0))], 2, [some (.inr [52]), some (.inr [20, 21, 22, 23, 24, 25, 26, 27]), some (.inl (.inl (.inr (.ofNat 228)))), some (.inl (.inl (.inl (2, .ofNat 0)))), none], []), ([], []), (4, [(-1, 2)]))
theorem ks656 : aseg kS krf kB [kE542, kE543] (ksp []) kE656 [kC656_0] 30000 (none) = true := by decide +kernel
theorem ks656_0 : aseg kS krf kB [kE542, kE543] (ksp []) kE656 [kC656_0] 30000 (some kC656_0) = true := by decide +kernel
theorem kok656 : aOK kS krf kB kE656 := aOK_of (kal1 kok542 (kal1 kok543 kal0)) (kcl1 ks656_0 kcl0) ks656
/-- ColdShod$StrokePlan.addNext(LColdShod$Idea;I)V -/
def kE657 : aE := (83, 3, ([(.ofNat 0, .ofNat 3), (.ofNat 228, .ofNat 341)], [(57, 227, .inl (0, .ofNat 0)), (52, 6, .inl (1, .ofNat 0))], 0, [some (.inr [52]), some (.inr [20, 21, 22, 23, 24, 25, 26, 27]), some (.inl (.inl (.inr (.ofNat 227)))), none, none], []), ([], none), ([], [], none, ([], [])), ([(52, 6), (58, 0), (58, 1), (58, 2), (58, 3), (58, 4), (58, 5), (58, 6)], [54, 55, 56, 57]))
def kC657_0 : aC := (([(.ofNat 0, .ofNat 3), (.ofNat 228, .ofNat 341), (.ofNat 0, .ofNat 4), (.ofNat 228, .ofNat 341)], [(57, 227, .inl (0, .ofNat 0)), (52, 6, .inl (3, .ofNat 0))], 2, [some (.inr [52]), some (.inr [20, 21, 22, 23, 24, 25, 26, 27]), some (.inl (.inl (.inr (.ofNat 227)))), some (.inl (.inl (.inl (2, .ofNat 0)))), none], []), ([], []), (4, [(-1, 2)]))
theorem ks657 : aseg kS krf kB [kE542, kE543] (ksp []) kE657 [kC657_0] 30000 (none) = true := by decide +kernel
theorem ks657_0 : aseg kS krf kB [kE542, kE543] (ksp []) kE657 [kC657_0] 30000 (some kC657_0) = true := by decide +kernel
theorem kok657 : aOK kS krf kB kE657 := aOK_of (kal1 kok542 (kal1 kok543 kal0)) (kcl1 ks657_0 kcl0) ks657
/-- ColdShod$StrokePlan.addNext(LColdShod$Idea;I)V -/
def kE658 : aE := (83, 3, ([(.ofNat 0, .ofNat 3), (.ofNat 227, .ofNat 341)], [(57, 226, .inl (0, .ofNat 0)), (52, 6, .inl (1, .ofNat 0))], 0, [some (.inr [52]), some (.inr [20, 21, 22, 23, 24, 25, 26, 27]), some (.inl (.inl (.inr (.ofNat 226)))), none, none], []), ([], none), ([], [], none, ([], [])), ([(52, 6), (58, 0), (58, 1), (58, 2), (58, 3), (58, 4), (58, 5), (58, 6)], [54, 55, 56, 57]))
def kC658_0 : aC := (([(.ofNat 0, .ofNat 3), (.ofNat 227, .ofNat 341), (.ofNat 0, .ofNat 4), (.ofNat 227, .ofNat 341)], [(57, 226, .inl (0, .ofNat 0)), (52, 6, .inl (3, .ofNat 0))], 2, [some (.inr [52]), some (.inr [20, 21, 22, 23, 24, 25, 26, 27]), some (.inl (.inl (.inr (.ofNat 226)))), some (.inl (.inl (.inl (2, .ofNat 0)))), none], []), ([], []), (4, [(-1, 2)]))
theorem ks658 : aseg kS krf kB [kE542, kE543] (ksp []) kE658 [kC658_0] 30000 (none) = true := by decide +kernel
theorem ks658_0 : aseg kS krf kB [kE542, kE543] (ksp []) kE658 [kC658_0] 30000 (some kC658_0) = true := by decide +kernel
theorem kok658 : aOK kS krf kB kE658 := aOK_of (kal1 kok542 (kal1 kok543 kal0)) (kcl1 ks658_0 kcl0) ks658
/-- ColdShod$StrokePlan.addNext(LColdShod$Idea;I)V -/
def kE659 : aE := (83, 3, ([(.ofNat 0, .ofNat 3), (.ofNat 226, .ofNat 341)], [(57, 225, .inl (0, .ofNat 0)), (52, 6, .inl (1, .ofNat 0))], 0, [some (.inr [52]), some (.inr [20, 21, 22, 23, 24, 25, 26, 27]), some (.inl (.inl (.inr (.ofNat 225)))), none, none], []), ([], none), ([], [], none, ([], [])), ([(52, 6), (58, 0), (58, 1), (58, 2), (58, 3), (58, 4), (58, 5), (58, 6)], [54, 55, 56, 57]))
def kC659_0 : aC := (([(.ofNat 0, .ofNat 3), (.ofNat 226, .ofNat 341), (.ofNat 0, .ofNat 4), (.ofNat 226, .ofNat 341)], [(57, 225, .inl (0, .ofNat 0)), (52, 6, .inl (3, .ofNat 0))], 2, [some (.inr [52]), some (.inr [20, 21, 22, 23, 24, 25, 26, 27]), some (.inl (.inl (.inr (.ofNat 225)))), some (.inl (.inl (.inl (2, .ofNat 0)))), none], []), ([], []), (4, [(-1, 2)]))
theorem ks659 : aseg kS krf kB [kE542, kE543] (ksp []) kE659 [kC659_0] 30000 (none) = true := by decide +kernel
theorem ks659_0 : aseg kS krf kB [kE542, kE543] (ksp []) kE659 [kC659_0] 30000 (some kC659_0) = true := by decide +kernel
theorem kok659 : aOK kS krf kB kE659 := aOK_of (kal1 kok542 (kal1 kok543 kal0)) (kcl1 ks659_0 kcl0) ks659
/-- ColdShod$StrokePlan.addNext(LColdShod$Idea;I)V -/
def kE660 : aE := (83, 3, ([(.ofNat 0, .ofNat 3), (.ofNat 225, .ofNat 341)], [(57, 224, .inl (0, .ofNat 0)), (52, 6, .inl (1, .ofNat 0))], 0, [some (.inr [52]), some (.inr [20, 21, 22, 23, 24, 25, 26, 27]), some (.inl (.inl (.inr (.ofNat 224)))), none, none], []), ([], none), ([], [], none, ([], [])), ([(52, 6), (58, 0), (58, 1), (58, 2), (58, 3), (58, 4), (58, 5), (58, 6)], [54, 55, 56, 57]))
def kC660_0 : aC := (([(.ofNat 0, .ofNat 3), (.ofNat 225, .ofNat 341), (.ofNat 0, .ofNat 4), (.ofNat 225, .ofNat 341)], [(57, 224, .inl (0, .ofNat 0)), (52, 6, .inl (3, .ofNat 0))], 2, [some (.inr [52]), some (.inr [20, 21, 22, 23, 24, 25, 26, 27]), some (.inl (.inl (.inr (.ofNat 224)))), some (.inl (.inl (.inl (2, .ofNat 0)))), none], []), ([], []), (4, [(-1, 2)]))
theorem ks660 : aseg kS krf kB [kE542, kE543] (ksp []) kE660 [kC660_0] 30000 (none) = true := by decide +kernel
theorem ks660_0 : aseg kS krf kB [kE542, kE543] (ksp []) kE660 [kC660_0] 30000 (some kC660_0) = true := by decide +kernel
theorem kok660 : aOK kS krf kB kE660 := aOK_of (kal1 kok542 (kal1 kok543 kal0)) (kcl1 ks660_0 kcl0) ks660
/-- ColdShod$StrokePlan.addNext(LColdShod$Idea;I)V -/
def kE661 : aE := (83, 3, ([(.ofNat 0, .ofNat 3), (.ofNat 224, .ofNat 341)], [(57, 223, .inl (0, .ofNat 0)), (52, 6, .inl (1, .ofNat 0))], 0, [some (.inr [52]), some (.inr [20, 21, 22, 23, 24, 25, 26, 27]), some (.inl (.inl (.inr (.ofNat 223)))), none, none], []), ([], none), ([], [], none, ([], [])), ([(52, 6), (58, 0), (58, 1), (58, 2), (58, 3), (58, 4), (58, 5), (58, 6)], [54, 55, 56, 57]))
def kC661_0 : aC := (([(.ofNat 0, .ofNat 3), (.ofNat 224, .ofNat 341), (.ofNat 0, .ofNat 4), (.ofNat 224, .ofNat 341)], [(57, 223, .inl (0, .ofNat 0)), (52, 6, .inl (3, .ofNat 0))], 2, [some (.inr [52]), some (.inr [20, 21, 22, 23, 24, 25, 26, 27]), some (.inl (.inl (.inr (.ofNat 223)))), some (.inl (.inl (.inl (2, .ofNat 0)))), none], []), ([], []), (4, [(-1, 2)]))
theorem ks661 : aseg kS krf kB [kE542, kE543] (ksp []) kE661 [kC661_0] 30000 (none) = true := by decide +kernel
theorem ks661_0 : aseg kS krf kB [kE542, kE543] (ksp []) kE661 [kC661_0] 30000 (some kC661_0) = true := by decide +kernel
theorem kok661 : aOK kS krf kB kE661 := aOK_of (kal1 kok542 (kal1 kok543 kal0)) (kcl1 ks661_0 kcl0) ks661
/-- ColdShod$StrokePlan.addNext(LColdShod$Idea;I)V -/
def kE662 : aE := (83, 3, ([(.ofNat 0, .ofNat 3), (.ofNat 223, .ofNat 341)], [(57, 222, .inl (0, .ofNat 0)), (52, 6, .inl (1, .ofNat 0))], 0, [some (.inr [52]), some (.inr [20, 21, 22, 23, 24, 25, 26, 27]), some (.inl (.inl (.inr (.ofNat 222)))), none, none], []), ([], none), ([], [], none, ([], [])), ([(52, 6), (58, 0), (58, 1), (58, 2), (58, 3), (58, 4), (58, 5), (58, 6)], [54, 55, 56, 57]))
def kC662_0 : aC := (([(.ofNat 0, .ofNat 3), (.ofNat 223, .ofNat 341), (.ofNat 0, .ofNat 4), (.ofNat 223, .ofNat 341)], [(57, 222, .inl (0, .ofNat 0)), (52, 6, .inl (3, .ofNat 0))], 2, [some (.inr [52]), some (.inr [20, 21, 22, 23, 24, 25, 26, 27]), some (.inl (.inl (.inr (.ofNat 222)))), some (.inl (.inl (.inl (2, .ofNat 0)))), none], []), ([], []), (4, [(-1, 2)]))
theorem ks662 : aseg kS krf kB [kE542, kE543] (ksp []) kE662 [kC662_0] 30000 (none) = true := by decide +kernel
theorem ks662_0 : aseg kS krf kB [kE542, kE543] (ksp []) kE662 [kC662_0] 30000 (some kC662_0) = true := by decide +kernel
theorem kok662 : aOK kS krf kB kE662 := aOK_of (kal1 kok542 (kal1 kok543 kal0)) (kcl1 ks662_0 kcl0) ks662
/-- ColdShod$StrokePlan.addNext(LColdShod$Idea;I)V -/
def kE663 : aE := (83, 3, ([(.ofNat 0, .ofNat 3), (.ofNat 222, .ofNat 341)], [(57, 221, .inl (0, .ofNat 0)), (52, 6, .inl (1, .ofNat 0))], 0, [some (.inr [52]), some (.inr [20, 21, 22, 23, 24, 25, 26, 27]), some (.inl (.inl (.inr (.ofNat 221)))), none, none], []), ([], none), ([], [], none, ([], [])), ([(52, 6), (58, 0), (58, 1), (58, 2), (58, 3), (58, 4), (58, 5), (58, 6)], [54, 55, 56, 57]))
def kC663_0 : aC := (([(.ofNat 0, .ofNat 3), (.ofNat 222, .ofNat 341), (.ofNat 0, .ofNat 4), (.ofNat 222, .ofNat 341)], [(57, 221, .inl (0, .ofNat 0)), (52, 6, .inl (3, .ofNat 0))], 2, [some (.inr [52]), some (.inr [20, 21, 22, 23, 24, 25, 26, 27]), some (.inl (.inl (.inr (.ofNat 221)))), some (.inl (.inl (.inl (2, .ofNat 0)))), none], []), ([], []), (4, [(-1, 2)]))
theorem ks663 : aseg kS krf kB [kE542, kE543] (ksp []) kE663 [kC663_0] 30000 (none) = true := by decide +kernel
theorem ks663_0 : aseg kS krf kB [kE542, kE543] (ksp []) kE663 [kC663_0] 30000 (some kC663_0) = true := by decide +kernel
theorem kok663 : aOK kS krf kB kE663 := aOK_of (kal1 kok542 (kal1 kok543 kal0)) (kcl1 ks663_0 kcl0) ks663
/-- ColdShod$StrokePlan.addNext(LColdShod$Idea;I)V -/
def kE664 : aE := (83, 3, ([(.ofNat 0, .ofNat 3), (.ofNat 221, .ofNat 341)], [(57, 220, .inl (0, .ofNat 0)), (52, 6, .inl (1, .ofNat 0))], 0, [some (.inr [52]), some (.inr [20, 21, 22, 23, 24, 25, 26, 27]), some (.inl (.inl (.inr (.ofNat 220)))), none, none], []), ([], none), ([], [], none, ([], [])), ([(52, 6), (58, 0), (58, 1), (58, 2), (58, 3), (58, 4), (58, 5), (58, 6)], [54, 55, 56, 57]))
def kC664_0 : aC := (([(.ofNat 0, .ofNat 3), (.ofNat 221, .ofNat 341), (.ofNat 0, .ofNat 4), (.ofNat 221, .ofNat 341)], [(57, 220, .inl (0, .ofNat 0)), (52, 6, .inl (3, .ofNat 0))], 2, [some (.inr [52]), some (.inr [20, 21, 22, 23, 24, 25, 26, 27]), some (.inl (.inl (.inr (.ofNat 220)))), some (.inl (.inl (.inl (2, .ofNat 0)))), none], []), ([], []), (4, [(-1, 2)]))
theorem ks664 : aseg kS krf kB [kE542, kE543] (ksp []) kE664 [kC664_0] 30000 (none) = true := by decide +kernel
theorem ks664_0 : aseg kS krf kB [kE542, kE543] (ksp []) kE664 [kC664_0] 30000 (some kC664_0) = true := by decide +kernel
theorem kok664 : aOK kS krf kB kE664 := aOK_of (kal1 kok542 (kal1 kok543 kal0)) (kcl1 ks664_0 kcl0) ks664
/-- ColdShod$StrokePlan.addNext(LColdShod$Idea;I)V -/
def kE665 : aE := (83, 3, ([(.ofNat 0, .ofNat 3), (.ofNat 220, .ofNat 341)], [(57, 219, .inl (0, .ofNat 0)), (52, 6, .inl (1, .ofNat 0))], 0, [some (.inr [52]), some (.inr [20, 21, 22, 23, 24, 25, 26, 27]), some (.inl (.inl (.inr (.ofNat 219)))), none, none], []), ([], none), ([], [], none, ([], [])), ([(52, 6), (58, 0), (58, 1), (58, 2), (58, 3), (58, 4), (58, 5), (58, 6)], [54, 55, 56, 57]))
def kC665_0 : aC := (([(.ofNat 0, .ofNat 3), (.ofNat 220, .ofNat 341), (.ofNat 0, .ofNat 4), (.ofNat 220, .ofNat 341)], [(57, 219, .inl (0, .ofNat 0)), (52, 6, .inl (3, .ofNat 0))], 2, [some (.inr [52]), some (.inr [20, 21, 22, 23, 24, 25, 26, 27]), some (.inl (.inl (.inr (.ofNat 219)))), some (.inl (.inl (.inl (2, .ofNat 0)))), none], []), ([], []), (4, [(-1, 2)]))
theorem ks665 : aseg kS krf kB [kE542, kE543] (ksp []) kE665 [kC665_0] 30000 (none) = true := by decide +kernel
theorem ks665_0 : aseg kS krf kB [kE542, kE543] (ksp []) kE665 [kC665_0] 30000 (some kC665_0) = true := by decide +kernel
theorem kok665 : aOK kS krf kB kE665 := aOK_of (kal1 kok542 (kal1 kok543 kal0)) (kcl1 ks665_0 kcl0) ks665
/-- ColdShod$StrokePlan.addNext(LColdShod$Idea;I)V -/
def kE666 : aE := (83, 3, ([(.ofNat 0, .ofNat 3), (.ofNat 219, .ofNat 341)], [(57, 218, .inl (0, .ofNat 0)), (52, 6, .inl (1, .ofNat 0))], 0, [some (.inr [52]), some (.inr [20, 21, 22, 23, 24, 25, 26, 27]), some (.inl (.inl (.inr (.ofNat 218)))), none, none], []), ([], none), ([], [], none, ([], [])), ([(52, 6), (58, 0), (58, 1), (58, 2), (58, 3), (58, 4), (58, 5), (58, 6)], [54, 55, 56, 57]))
def kC666_0 : aC := (([(.ofNat 0, .ofNat 3), (.ofNat 219, .ofNat 341), (.ofNat 0, .ofNat 4), (.ofNat 219, .ofNat 341)], [(57, 218, .inl (0, .ofNat 0)), (52, 6, .inl (3, .ofNat 0))], 2, [some (.inr [52]), some (.inr [20, 21, 22, 23, 24, 25, 26, 27]), some (.inl (.inl (.inr (.ofNat 218)))), some (.inl (.inl (.inl (2, .ofNat 0)))), none], []), ([], []), (4, [(-1, 2)]))
theorem ks666 : aseg kS krf kB [kE542, kE543] (ksp []) kE666 [kC666_0] 30000 (none) = true := by decide +kernel
theorem ks666_0 : aseg kS krf kB [kE542, kE543] (ksp []) kE666 [kC666_0] 30000 (some kC666_0) = true := by decide +kernel
theorem kok666 : aOK kS krf kB kE666 := aOK_of (kal1 kok542 (kal1 kok543 kal0)) (kcl1 ks666_0 kcl0) ks666
/-- ColdShod$StrokePlan.addNext(LColdShod$Idea;I)V -/
def kE667 : aE := (83, 3, ([(.ofNat 0, .ofNat 3), (.ofNat 218, .ofNat 341)], [(57, 217, .inl (0, .ofNat 0)), (52, 6, .inl (1, .ofNat 0))], 0, [some (.inr [52]), some (.inr [20, 21, 22, 23, 24, 25, 26, 27]), some (.inl (.inl (.inr (.ofNat 217)))), none, none], []), ([], none), ([], [], none, ([], [])), ([(52, 6), (58, 0), (58, 1), (58, 2), (58, 3), (58, 4), (58, 5), (58, 6)], [54, 55, 56, 57]))
def kC667_0 : aC := (([(.ofNat 0, .ofNat 3), (.ofNat 218, .ofNat 341), (.ofNat 0, .ofNat 4), (.ofNat 218, .ofNat 341)], [(57, 217, .inl (0, .ofNat 0)), (52, 6, .inl (3, .ofNat 0))], 2, [some (.inr [52]), some (.inr [20, 21, 22, 23, 24, 25, 26, 27]), some (.inl (.inl (.inr (.ofNat 217)))), some (.inl (.inl (.inl (2, .ofNat 0)))), none], []), ([], []), (4, [(-1, 2)]))
theorem ks667 : aseg kS krf kB [kE542, kE543] (ksp []) kE667 [kC667_0] 30000 (none) = true := by decide +kernel
theorem ks667_0 : aseg kS krf kB [kE542, kE543] (ksp []) kE667 [kC667_0] 30000 (some kC667_0) = true := by decide +kernel
theorem kok667 : aOK kS krf kB kE667 := aOK_of (kal1 kok542 (kal1 kok543 kal0)) (kcl1 ks667_0 kcl0) ks667
/-- ColdShod$StrokePlan.addNext(LColdShod$Idea;I)V -/
def kE668 : aE := (83, 3, ([(.ofNat 0, .ofNat 3), (.ofNat 217, .ofNat 341)], [(57, 216, .inl (0, .ofNat 0)), (52, 6, .inl (1, .ofNat 0))], 0, [some (.inr [52]), some (.inr [20, 21, 22, 23, 24, 25, 26, 27]), some (.inl (.inl (.inr (.ofNat 216)))), none, none], []), ([], none), ([], [], none, ([], [])), ([(52, 6), (58, 0), (58, 1), (58, 2), (58, 3), (58, 4), (58, 5), (58, 6)], [54, 55, 56, 57]))
def kC668_0 : aC := (([(.ofNat 0, .ofNat 3), (.ofNat 217, .ofNat 341), (.ofNat 0, .ofNat 4), (.ofNat 217, .ofNat 341)], [(57, 216, .inl (0, .ofNat 0)), (52, 6, .inl (3, .ofNat 0))], 2, [some (.inr [52]), some (.inr [20, 21, 22, 23, 24, 25, 26, 27]), some (.inl (.inl (.inr (.ofNat 216)))), some (.inl (.inl (.inl (2, .ofNat 0)))), none], []), ([], []), (4, [(-1, 2)]))
theorem ks668 : aseg kS krf kB [kE542, kE543] (ksp []) kE668 [kC668_0] 30000 (none) = true := by decide +kernel
theorem ks668_0 : aseg kS krf kB [kE542, kE543] (ksp []) kE668 [kC668_0] 30000 (some kC668_0) = true := by decide +kernel
theorem kok668 : aOK kS krf kB kE668 := aOK_of (kal1 kok542 (kal1 kok543 kal0)) (kcl1 ks668_0 kcl0) ks668
/-- ColdShod$StrokePlan.addNext(LColdShod$Idea;I)V -/
def kE669 : aE := (83, 3, ([(.ofNat 0, .ofNat 3), (.ofNat 216, .ofNat 341)], [(57, 215, .inl (0, .ofNat 0)), (52, 6, .inl (1, .ofNat 0))], 0, [some (.inr [52]), some (.inr [20, 21, 22, 23, 24, 25, 26, 27]), some (.inl (.inl (.inr (.ofNat 215)))), none, none], []), ([], none), ([], [], none, ([], [])), ([(52, 6), (58, 0), (58, 1), (58, 2), (58, 3), (58, 4), (58, 5), (58, 6)], [54, 55, 56, 57]))
def kC669_0 : aC := (([(.ofNat 0, .ofNat 3), (.ofNat 216, .ofNat 341), (.ofNat 0, .ofNat 4), (.ofNat 216, .ofNat 341)], [(57, 215, .inl (0, .ofNat 0)), (52, 6, .inl (3, .ofNat 0))], 2, [some (.inr [52]), some (.inr [20, 21, 22, 23, 24, 25, 26, 27]), some (.inl (.inl (.inr (.ofNat 215)))), some (.inl (.inl (.inl (2, .ofNat 0)))), none], []), ([], []), (4, [(-1, 2)]))
theorem ks669 : aseg kS krf kB [kE542, kE543] (ksp []) kE669 [kC669_0] 30000 (none) = true := by decide +kernel
theorem ks669_0 : aseg kS krf kB [kE542, kE543] (ksp []) kE669 [kC669_0] 30000 (some kC669_0) = true := by decide +kernel
theorem kok669 : aOK kS krf kB kE669 := aOK_of (kal1 kok542 (kal1 kok543 kal0)) (kcl1 ks669_0 kcl0) ks669
/-- ColdShod$StrokePlan.addNext(LColdShod$Idea;I)V -/
def kE670 : aE := (83, 3, ([(.ofNat 0, .ofNat 3), (.ofNat 215, .ofNat 341)], [(57, 214, .inl (0, .ofNat 0)), (52, 6, .inl (1, .ofNat 0))], 0, [some (.inr [52]), some (.inr [20, 21, 22, 23, 24, 25, 26, 27]), some (.inl (.inl (.inr (.ofNat 214)))), none, none], []), ([], none), ([], [], none, ([], [])), ([(52, 6), (58, 0), (58, 1), (58, 2), (58, 3), (58, 4), (58, 5), (58, 6)], [54, 55, 56, 57]))
def kC670_0 : aC := (([(.ofNat 0, .ofNat 3), (.ofNat 215, .ofNat 341), (.ofNat 0, .ofNat 4), (.ofNat 215, .ofNat 341)], [(57, 214, .inl (0, .ofNat 0)), (52, 6, .inl (3, .ofNat 0))], 2, [some (.inr [52]), some (.inr [20, 21, 22, 23, 24, 25, 26, 27]), some (.inl (.inl (.inr (.ofNat 214)))), some (.inl (.inl (.inl (2, .ofNat 0)))), none], []), ([], []), (4, [(-1, 2)]))
theorem ks670 : aseg kS krf kB [kE542, kE543] (ksp []) kE670 [kC670_0] 30000 (none) = true := by decide +kernel
theorem ks670_0 : aseg kS krf kB [kE542, kE543] (ksp []) kE670 [kC670_0] 30000 (some kC670_0) = true := by decide +kernel
theorem kok670 : aOK kS krf kB kE670 := aOK_of (kal1 kok542 (kal1 kok543 kal0)) (kcl1 ks670_0 kcl0) ks670
/-- ColdShod$StrokePlan.addNext(LColdShod$Idea;I)V -/
def kE671 : aE := (83, 3, ([(.ofNat 0, .ofNat 3), (.ofNat 214, .ofNat 341)], [(57, 213, .inl (0, .ofNat 0)), (52, 6, .inl (1, .ofNat 0))], 0, [some (.inr [52]), some (.inr [20, 21, 22, 23, 24, 25, 26, 27]), some (.inl (.inl (.inr (.ofNat 213)))), none, none], []), ([], none), ([], [], none, ([], [])), ([(52, 6), (58, 0), (58, 1), (58, 2), (58, 3), (58, 4), (58, 5), (58, 6)], [54, 55, 56, 57]))
def kC671_0 : aC := (([(.ofNat 0, .ofNat 3), (.ofNat 214, .ofNat 341), (.ofNat 0, .ofNat 4), (.ofNat 214, .ofNat 341)], [(57, 213, .inl (0, .ofNat 0)), (52, 6, .inl (3, .ofNat 0))], 2, [some (.inr [52]), some (.inr [20, 21, 22, 23, 24, 25, 26, 27]), some (.inl (.inl (.inr (.ofNat 213)))), some (.inl (.inl (.inl (2, .ofNat 0)))), none], []), ([], []), (4, [(-1, 2)]))
theorem ks671 : aseg kS krf kB [kE542, kE543] (ksp []) kE671 [kC671_0] 30000 (none) = true := by decide +kernel
theorem ks671_0 : aseg kS krf kB [kE542, kE543] (ksp []) kE671 [kC671_0] 30000 (some kC671_0) = true := by decide +kernel
theorem kok671 : aOK kS krf kB kE671 := aOK_of (kal1 kok542 (kal1 kok543 kal0)) (kcl1 ks671_0 kcl0) ks671
/-- ColdShod$StrokePlan.addNext(LColdShod$Idea;I)V -/
def kE672 : aE := (83, 3, ([(.ofNat 0, .ofNat 3), (.ofNat 213, .ofNat 341)], [(57, 212, .inl (0, .ofNat 0)), (52, 6, .inl (1, .ofNat 0))], 0, [some (.inr [52]), some (.inr [20, 21, 22, 23, 24, 25, 26, 27]), some (.inl (.inl (.inr (.ofNat 212)))), none, none], []), ([], none), ([], [], none, ([], [])), ([(52, 6), (58, 0), (58, 1), (58, 2), (58, 3), (58, 4), (58, 5), (58, 6)], [54, 55, 56, 57]))
def kC672_0 : aC := (([(.ofNat 0, .ofNat 3), (.ofNat 213, .ofNat 341), (.ofNat 0, .ofNat 4), (.ofNat 213, .ofNat 341)], [(57, 212, .inl (0, .ofNat 0)), (52, 6, .inl (3, .ofNat 0))], 2, [some (.inr [52]), some (.inr [20, 21, 22, 23, 24, 25, 26, 27]), some (.inl (.inl (.inr (.ofNat 212)))), some (.inl (.inl (.inl (2, .ofNat 0)))), none], []), ([], []), (4, [(-1, 2)]))
theorem ks672 : aseg kS krf kB [kE542, kE543] (ksp []) kE672 [kC672_0] 30000 (none) = true := by decide +kernel
theorem ks672_0 : aseg kS krf kB [kE542, kE543] (ksp []) kE672 [kC672_0] 30000 (some kC672_0) = true := by decide +kernel
theorem kok672 : aOK kS krf kB kE672 := aOK_of (kal1 kok542 (kal1 kok543 kal0)) (kcl1 ks672_0 kcl0) ks672
/-- ColdShod$StrokePlan.addNext(LColdShod$Idea;I)V -/
def kE673 : aE := (83, 3, ([(.ofNat 0, .ofNat 3), (.ofNat 212, .ofNat 341)], [(57, 211, .inl (0, .ofNat 0)), (52, 6, .inl (1, .ofNat 0))], 0, [some (.inr [52]), some (.inr [20, 21, 22, 23, 24, 25, 26, 27]), some (.inl (.inl (.inr (.ofNat 211)))), none, none], []), ([], none), ([], [], none, ([], [])), ([(52, 6), (58, 0), (58, 1), (58, 2), (58, 3), (58, 4), (58, 5), (58, 6)], [54, 55, 56, 57]))
def kC673_0 : aC := (([(.ofNat 0, .ofNat 3), (.ofNat 212, .ofNat 341), (.ofNat 0, .ofNat 4), (.ofNat 212, .ofNat 341)], [(57, 211, .inl (0, .ofNat 0)), (52, 6, .inl (3, .ofNat 0))], 2, [some (.inr [52]), some (.inr [20, 21, 22, 23, 24, 25, 26, 27]), some (.inl (.inl (.inr (.ofNat 211)))), some (.inl (.inl (.inl (2, .ofNat 0)))), none], []), ([], []), (4, [(-1, 2)]))
theorem ks673 : aseg kS krf kB [kE542, kE543] (ksp []) kE673 [kC673_0] 30000 (none) = true := by decide +kernel
theorem ks673_0 : aseg kS krf kB [kE542, kE543] (ksp []) kE673 [kC673_0] 30000 (some kC673_0) = true := by decide +kernel
theorem kok673 : aOK kS krf kB kE673 := aOK_of (kal1 kok542 (kal1 kok543 kal0)) (kcl1 ks673_0 kcl0) ks673
/-- ColdShod$StrokePlan.addNext(LColdShod$Idea;I)V -/
def kE674 : aE := (83, 3, ([(.ofNat 0, .ofNat 3), (.ofNat 211, .ofNat 341)], [(57, 210, .inl (0, .ofNat 0)), (52, 6, .inl (1, .ofNat 0))], 0, [some (.inr [52]), some (.inr [20, 21, 22, 23, 24, 25, 26, 27]), some (.inl (.inl (.inr (.ofNat 210)))), none, none], []), ([], none), ([], [], none, ([], [])), ([(52, 6), (58, 0), (58, 1), (58, 2), (58, 3), (58, 4), (58, 5), (58, 6)], [54, 55, 56, 57]))
def kC674_0 : aC := (([(.ofNat 0, .ofNat 3), (.ofNat 211, .ofNat 341), (.ofNat 0, .ofNat 4), (.ofNat 211, .ofNat 341)], [(57, 210, .inl (0, .ofNat 0)), (52, 6, .inl (3, .ofNat 0))], 2, [some (.inr [52]), some (.inr [20, 21, 22, 23, 24, 25, 26, 27]), some (.inl (.inl (.inr (.ofNat 210)))), some (.inl (.inl (.inl (2, .ofNat 0)))), none], []), ([], []), (4, [(-1, 2)]))
theorem ks674 : aseg kS krf kB [kE542, kE543] (ksp []) kE674 [kC674_0] 30000 (none) = true := by decide +kernel
theorem ks674_0 : aseg kS krf kB [kE542, kE543] (ksp []) kE674 [kC674_0] 30000 (some kC674_0) = true := by decide +kernel
theorem kok674 : aOK kS krf kB kE674 := aOK_of (kal1 kok542 (kal1 kok543 kal0)) (kcl1 ks674_0 kcl0) ks674
/-- ColdShod$StrokePlan.addNext(LColdShod$Idea;I)V -/
def kE675 : aE := (83, 3, ([(.ofNat 0, .ofNat 3), (.ofNat 210, .ofNat 341)], [(57, 209, .inl (0, .ofNat 0)), (52, 6, .inl (1, .ofNat 0))], 0, [some (.inr [52]), some (.inr [20, 21, 22, 23, 24, 25, 26, 27]), some (.inl (.inl (.inr (.ofNat 209)))), none, none], []), ([], none), ([], [], none, ([], [])), ([(52, 6), (58, 0), (58, 1), (58, 2), (58, 3), (58, 4), (58, 5), (58, 6)], [54, 55, 56, 57]))
def kC675_0 : aC := (([(.ofNat 0, .ofNat 3), (.ofNat 210, .ofNat 341), (.ofNat 0, .ofNat 4), (.ofNat 210, .ofNat 341)], [(57, 209, .inl (0, .ofNat 0)), (52, 6, .inl (3, .ofNat 0))], 2, [some (.inr [52]), some (.inr [20, 21, 22, 23, 24, 25, 26, 27]), some (.inl (.inl (.inr (.ofNat 209)))), some (.inl (.inl (.inl (2, .ofNat 0)))), none], []), ([], []), (4, [(-1, 2)]))
theorem ks675 : aseg kS krf kB [kE542, kE543] (ksp []) kE675 [kC675_0] 30000 (none) = true := by decide +kernel
theorem ks675_0 : aseg kS krf kB [kE542, kE543] (ksp []) kE675 [kC675_0] 30000 (some kC675_0) = true := by decide +kernel
theorem kok675 : aOK kS krf kB kE675 := aOK_of (kal1 kok542 (kal1 kok543 kal0)) (kcl1 ks675_0 kcl0) ks675
/-- ColdShod$StrokePlan.addNext(LColdShod$Idea;I)V -/
def kE676 : aE := (83, 3, ([(.ofNat 0, .ofNat 3), (.ofNat 209, .ofNat 341)], [(57, 208, .inl (0, .ofNat 0)), (52, 6, .inl (1, .ofNat 0))], 0, [some (.inr [52]), some (.inr [20, 21, 22, 23, 24, 25, 26, 27]), some (.inl (.inl (.inr (.ofNat 208)))), none, none], []), ([], none), ([], [], none, ([], [])), ([(52, 6), (58, 0), (58, 1), (58, 2), (58, 3), (58, 4), (58, 5), (58, 6)], [54, 55, 56, 57]))
def kC676_0 : aC := (([(.ofNat 0, .ofNat 3), (.ofNat 209, .ofNat 341), (.ofNat 0, .ofNat 4), (.ofNat 209, .ofNat 341)], [(57, 208, .inl (0, .ofNat 0)), (52, 6, .inl (3, .ofNat 0))], 2, [some (.inr [52]), some (.inr [20, 21, 22, 23, 24, 25, 26, 27]), some (.inl (.inl (.inr (.ofNat 208)))), some (.inl (.inl (.inl (2, .ofNat 0)))), none], []), ([], []), (4, [(-1, 2)]))
theorem ks676 : aseg kS krf kB [kE542, kE543] (ksp []) kE676 [kC676_0] 30000 (none) = true := by decide +kernel
theorem ks676_0 : aseg kS krf kB [kE542, kE543] (ksp []) kE676 [kC676_0] 30000 (some kC676_0) = true := by decide +kernel
theorem kok676 : aOK kS krf kB kE676 := aOK_of (kal1 kok542 (kal1 kok543 kal0)) (kcl1 ks676_0 kcl0) ks676
/-- ColdShod$StrokePlan.addNext(LColdShod$Idea;I)V -/
def kE677 : aE := (83, 3, ([(.ofNat 0, .ofNat 3), (.ofNat 208, .ofNat 341)], [(57, 207, .inl (0, .ofNat 0)), (52, 6, .inl (1, .ofNat 0))], 0, [some (.inr [52]), some (.inr [20, 21, 22, 23, 24, 25, 26, 27]), some (.inl (.inl (.inr (.ofNat 207)))), none, none], []), ([], none), ([], [], none, ([], [])), ([(52, 6), (58, 0), (58, 1), (58, 2), (58, 3), (58, 4), (58, 5), (58, 6)], [54, 55, 56, 57]))
def kC677_0 : aC := (([(.ofNat 0, .ofNat 3), (.ofNat 208, .ofNat 341), (.ofNat 0, .ofNat 4), (.ofNat 208, .ofNat 341)], [(57, 207, .inl (0, .ofNat 0)), (52, 6, .inl (3, .ofNat 0))], 2, [some (.inr [52]), some (.inr [20, 21, 22, 23, 24, 25, 26, 27]), some (.inl (.inl (.inr (.ofNat 207)))), some (.inl (.inl (.inl (2, .ofNat 0)))), none], []), ([], []), (4, [(-1, 2)]))
theorem ks677 : aseg kS krf kB [kE542, kE543] (ksp []) kE677 [kC677_0] 30000 (none) = true := by decide +kernel
theorem ks677_0 : aseg kS krf kB [kE542, kE543] (ksp []) kE677 [kC677_0] 30000 (some kC677_0) = true := by decide +kernel
theorem kok677 : aOK kS krf kB kE677 := aOK_of (kal1 kok542 (kal1 kok543 kal0)) (kcl1 ks677_0 kcl0) ks677
/-- ColdShod$StrokePlan.addNext(LColdShod$Idea;I)V -/
def kE678 : aE := (83, 3, ([(.ofNat 0, .ofNat 3), (.ofNat 207, .ofNat 341)], [(57, 206, .inl (0, .ofNat 0)), (52, 6, .inl (1, .ofNat 0))], 0, [some (.inr [52]), some (.inr [20, 21, 22, 23, 24, 25, 26, 27]), some (.inl (.inl (.inr (.ofNat 206)))), none, none], []), ([], none), ([], [], none, ([], [])), ([(52, 6), (58, 0), (58, 1), (58, 2), (58, 3), (58, 4), (58, 5), (58, 6)], [54, 55, 56, 57]))
def kC678_0 : aC := (([(.ofNat 0, .ofNat 3), (.ofNat 207, .ofNat 341), (.ofNat 0, .ofNat 4), (.ofNat 207, .ofNat 341)], [(57, 206, .inl (0, .ofNat 0)), (52, 6, .inl (3, .ofNat 0))], 2, [some (.inr [52]), some (.inr [20, 21, 22, 23, 24, 25, 26, 27]), some (.inl (.inl (.inr (.ofNat 206)))), some (.inl (.inl (.inl (2, .ofNat 0)))), none], []), ([], []), (4, [(-1, 2)]))
theorem ks678 : aseg kS krf kB [kE542, kE543] (ksp []) kE678 [kC678_0] 30000 (none) = true := by decide +kernel
theorem ks678_0 : aseg kS krf kB [kE542, kE543] (ksp []) kE678 [kC678_0] 30000 (some kC678_0) = true := by decide +kernel
theorem kok678 : aOK kS krf kB kE678 := aOK_of (kal1 kok542 (kal1 kok543 kal0)) (kcl1 ks678_0 kcl0) ks678
/-- ColdShod$StrokePlan.addNext(LColdShod$Idea;I)V -/
def kE679 : aE := (83, 3, ([(.ofNat 0, .ofNat 3), (.ofNat 206, .ofNat 341)], [(57, 205, .inl (0, .ofNat 0)), (52, 6, .inl (1, .ofNat 0))], 0, [some (.inr [52]), some (.inr [20, 21, 22, 23, 24, 25, 26, 27]), some (.inl (.inl (.inr (.ofNat 205)))), none, none], []), ([], none), ([], [], none, ([], [])), ([(52, 6), (58, 0), (58, 1), (58, 2), (58, 3), (58, 4), (58, 5), (58, 6)], [54, 55, 56, 57]))
def kC679_0 : aC := (([(.ofNat 0, .ofNat 3), (.ofNat 206, .ofNat 341), (.ofNat 0, .ofNat 4), (.ofNat 206, .ofNat 341)], [(57, 205, .inl (0, .ofNat 0)), (52, 6, .inl (3, .ofNat 0))], 2, [some (.inr [52]), some (.inr [20, 21, 22, 23, 24, 25, 26, 27]), some (.inl (.inl (.inr (.ofNat 205)))), some (.inl (.inl (.inl (2, .ofNat 0)))), none], []), ([], []), (4, [(-1, 2)]))
theorem ks679 : aseg kS krf kB [kE542, kE543] (ksp []) kE679 [kC679_0] 30000 (none) = true := by decide +kernel
theorem ks679_0 : aseg kS krf kB [kE542, kE543] (ksp []) kE679 [kC679_0] 30000 (some kC679_0) = true := by decide +kernel
theorem kok679 : aOK kS krf kB kE679 := aOK_of (kal1 kok542 (kal1 kok543 kal0)) (kcl1 ks679_0 kcl0) ks679
/-- ColdShod$StrokePlan.addNext(LColdShod$Idea;I)V -/
def kE680 : aE := (83, 3, ([(.ofNat 0, .ofNat 3), (.ofNat 205, .ofNat 341)], [(57, 204, .inl (0, .ofNat 0)), (52, 6, .inl (1, .ofNat 0))], 0, [some (.inr [52]), some (.inr [20, 21, 22, 23, 24, 25, 26, 27]), some (.inl (.inl (.inr (.ofNat 204)))), none, none], []), ([], none), ([], [], none, ([], [])), ([(52, 6), (58, 0), (58, 1), (58, 2), (58, 3), (58, 4), (58, 5), (58, 6)], [54, 55, 56, 57]))
def kC680_0 : aC := (([(.ofNat 0, .ofNat 3), (.ofNat 205, .ofNat 341), (.ofNat 0, .ofNat 4), (.ofNat 205, .ofNat 341)], [(57, 204, .inl (0, .ofNat 0)), (52, 6, .inl (3, .ofNat 0))], 2, [some (.inr [52]), some (.inr [20, 21, 22, 23, 24, 25, 26, 27]), some (.inl (.inl (.inr (.ofNat 204)))), some (.inl (.inl (.inl (2, .ofNat 0)))), none], []), ([], []), (4, [(-1, 2)]))
theorem ks680 : aseg kS krf kB [kE542, kE543] (ksp []) kE680 [kC680_0] 30000 (none) = true := by decide +kernel
theorem ks680_0 : aseg kS krf kB [kE542, kE543] (ksp []) kE680 [kC680_0] 30000 (some kC680_0) = true := by decide +kernel
theorem kok680 : aOK kS krf kB kE680 := aOK_of (kal1 kok542 (kal1 kok543 kal0)) (kcl1 ks680_0 kcl0) ks680
/-- ColdShod$StrokePlan.addNext(LColdShod$Idea;I)V -/
def kE681 : aE := (83, 3, ([(.ofNat 0, .ofNat 3), (.ofNat 204, .ofNat 341)], [(57, 203, .inl (0, .ofNat 0)), (52, 6, .inl (1, .ofNat 0))], 0, [some (.inr [52]), some (.inr [20, 21, 22, 23, 24, 25, 26, 27]), some (.inl (.inl (.inr (.ofNat 203)))), none, none], []), ([], none), ([], [], none, ([], [])), ([(52, 6), (58, 0), (58, 1), (58, 2), (58, 3), (58, 4), (58, 5), (58, 6)], [54, 55, 56, 57]))
def kC681_0 : aC := (([(.ofNat 0, .ofNat 3), (.ofNat 204, .ofNat 341), (.ofNat 0, .ofNat 4), (.ofNat 204, .ofNat 341)], [(57, 203, .inl (0, .ofNat 0)), (52, 6, .inl (3, .ofNat 0))], 2, [some (.inr [52]), some (.inr [20, 21, 22, 23, 24, 25, 26, 27]), some (.inl (.inl (.inr (.ofNat 203)))), some (.inl (.inl (.inl (2, .ofNat 0)))), none], []), ([], []), (4, [(-1, 2)]))
theorem ks681 : aseg kS krf kB [kE542, kE543] (ksp []) kE681 [kC681_0] 30000 (none) = true := by decide +kernel
theorem ks681_0 : aseg kS krf kB [kE542, kE543] (ksp []) kE681 [kC681_0] 30000 (some kC681_0) = true := by decide +kernel
theorem kok681 : aOK kS krf kB kE681 := aOK_of (kal1 kok542 (kal1 kok543 kal0)) (kcl1 ks681_0 kcl0) ks681
/-- ColdShod$StrokePlan.addNext(LColdShod$Idea;I)V -/
def kE682 : aE := (83, 3, ([(.ofNat 0, .ofNat 3), (.ofNat 203, .ofNat 341)], [(57, 202, .inl (0, .ofNat 0)), (52, 6, .inl (1, .ofNat 0))], 0, [some (.inr [52]), some (.inr [20, 21, 22, 23, 24, 25, 26, 27]), some (.inl (.inl (.inr (.ofNat 202)))), none, none], []), ([], none), ([], [], none, ([], [])), ([(52, 6), (58, 0), (58, 1), (58, 2), (58, 3), (58, 4), (58, 5), (58, 6)], [54, 55, 56, 57]))
def kC682_0 : aC := (([(.ofNat 0, .ofNat 3), (.ofNat 203, .ofNat 341), (.ofNat 0, .ofNat 4), (.ofNat 203, .ofNat 341)], [(57, 202, .inl (0, .ofNat 0)), (52, 6, .inl (3, .ofNat 0))], 2, [some (.inr [52]), some (.inr [20, 21, 22, 23, 24, 25, 26, 27]), some (.inl (.inl (.inr (.ofNat 202)))), some (.inl (.inl (.inl (2, .ofNat 0)))), none], []), ([], []), (4, [(-1, 2)]))
theorem ks682 : aseg kS krf kB [kE542, kE543] (ksp []) kE682 [kC682_0] 30000 (none) = true := by decide +kernel
theorem ks682_0 : aseg kS krf kB [kE542, kE543] (ksp []) kE682 [kC682_0] 30000 (some kC682_0) = true := by decide +kernel
theorem kok682 : aOK kS krf kB kE682 := aOK_of (kal1 kok542 (kal1 kok543 kal0)) (kcl1 ks682_0 kcl0) ks682
/-- ColdShod$StrokePlan.addNext(LColdShod$Idea;I)V -/
def kE683 : aE := (83, 3, ([(.ofNat 0, .ofNat 3), (.ofNat 202, .ofNat 341)], [(57, 201, .inl (0, .ofNat 0)), (52, 6, .inl (1, .ofNat 0))], 0, [some (.inr [52]), some (.inr [20, 21, 22, 23, 24, 25, 26, 27]), some (.inl (.inl (.inr (.ofNat 201)))), none, none], []), ([], none), ([], [], none, ([], [])), ([(52, 6), (58, 0), (58, 1), (58, 2), (58, 3), (58, 4), (58, 5), (58, 6)], [54, 55, 56, 57]))
def kC683_0 : aC := (([(.ofNat 0, .ofNat 3), (.ofNat 202, .ofNat 341), (.ofNat 0, .ofNat 4), (.ofNat 202, .ofNat 341)], [(57, 201, .inl (0, .ofNat 0)), (52, 6, .inl (3, .ofNat 0))], 2, [some (.inr [52]), some (.inr [20, 21, 22, 23, 24, 25, 26, 27]), some (.inl (.inl (.inr (.ofNat 201)))), some (.inl (.inl (.inl (2, .ofNat 0)))), none], []), ([], []), (4, [(-1, 2)]))
theorem ks683 : aseg kS krf kB [kE542, kE543] (ksp []) kE683 [kC683_0] 30000 (none) = true := by decide +kernel
theorem ks683_0 : aseg kS krf kB [kE542, kE543] (ksp []) kE683 [kC683_0] 30000 (some kC683_0) = true := by decide +kernel
theorem kok683 : aOK kS krf kB kE683 := aOK_of (kal1 kok542 (kal1 kok543 kal0)) (kcl1 ks683_0 kcl0) ks683
/-- ColdShod$StrokePlan.addNext(LColdShod$Idea;I)V -/
def kE684 : aE := (83, 3, ([(.ofNat 0, .ofNat 3), (.ofNat 201, .ofNat 341)], [(57, 200, .inl (0, .ofNat 0)), (52, 6, .inl (1, .ofNat 0))], 0, [some (.inr [52]), some (.inr [20, 21, 22, 23, 24, 25, 26, 27]), some (.inl (.inl (.inr (.ofNat 200)))), none, none], []), ([], none), ([], [], none, ([], [])), ([(52, 6), (58, 0), (58, 1), (58, 2), (58, 3), (58, 4), (58, 5), (58, 6)], [54, 55, 56, 57]))
def kC684_0 : aC := (([(.ofNat 0, .ofNat 3), (.ofNat 201, .ofNat 341), (.ofNat 0, .ofNat 4), (.ofNat 201, .ofNat 341)], [(57, 200, .inl (0, .ofNat 0)), (52, 6, .inl (3, .ofNat 0))], 2, [some (.inr [52]), some (.inr [20, 21, 22, 23, 24, 25, 26, 27]), some (.inl (.inl (.inr (.ofNat 200)))), some (.inl (.inl (.inl (2, .ofNat 0)))), none], []), ([], []), (4, [(-1, 2)]))
theorem ks684 : aseg kS krf kB [kE542, kE543] (ksp []) kE684 [kC684_0] 30000 (none) = true := by decide +kernel
theorem ks684_0 : aseg kS krf kB [kE542, kE543] (ksp []) kE684 [kC684_0] 30000 (some kC684_0) = true := by decide +kernel
theorem kok684 : aOK kS krf kB kE684 := aOK_of (kal1 kok542 (kal1 kok543 kal0)) (kcl1 ks684_0 kcl0) ks684
/-- ColdShod$StrokePlan.addNext(LColdShod$Idea;I)V -/
def kE685 : aE := (83, 3, ([(.ofNat 0, .ofNat 3), (.ofNat 200, .ofNat 341)], [(57, 199, .inl (0, .ofNat 0)), (52, 6, .inl (1, .ofNat 0))], 0, [some (.inr [52]), some (.inr [20, 21, 22, 23, 24, 25, 26, 27]), some (.inl (.inl (.inr (.ofNat 199)))), none, none], []), ([], none), ([], [], none, ([], [])), ([(52, 6), (58, 0), (58, 1), (58, 2), (58, 3), (58, 4), (58, 5), (58, 6)], [54, 55, 56, 57]))
def kC685_0 : aC := (([(.ofNat 0, .ofNat 3), (.ofNat 200, .ofNat 341), (.ofNat 0, .ofNat 4), (.ofNat 200, .ofNat 341)], [(57, 199, .inl (0, .ofNat 0)), (52, 6, .inl (3, .ofNat 0))], 2, [some (.inr [52]), some (.inr [20, 21, 22, 23, 24, 25, 26, 27]), some (.inl (.inl (.inr (.ofNat 199)))), some (.inl (.inl (.inl (2, .ofNat 0)))), none], []), ([], []), (4, [(-1, 2)]))
theorem ks685 : aseg kS krf kB [kE542, kE543] (ksp []) kE685 [kC685_0] 30000 (none) = true := by decide +kernel
theorem ks685_0 : aseg kS krf kB [kE542, kE543] (ksp []) kE685 [kC685_0] 30000 (some kC685_0) = true := by decide +kernel
theorem kok685 : aOK kS krf kB kE685 := aOK_of (kal1 kok542 (kal1 kok543 kal0)) (kcl1 ks685_0 kcl0) ks685
