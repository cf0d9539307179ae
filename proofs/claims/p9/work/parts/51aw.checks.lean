/-! ENTRIES and their checks: printed by a program (wip/ai). -/
/-- ColdShod$StrokePlan.addNext(LColdShod$Idea;I)V -/
def kE686 : aE := (83, 3, ([(.ofNat 0, .ofNat 3), (.ofNat 319, .ofNat 341)], [(57, 318, .inl (0, .ofNat 0)), (52, 6, .inl (1, .ofNat 0))], 0, [some (.inr [52]), some (.inr [20, 21, 22, 23, 24, 25, 26, 27]), some (.inl (.inl (.inr (.ofNat 318)))), none, none], []), ([], none), ([], [], none, ([], [])), ([(52, 6), (58, 0), (58, 1), (58, 2), (58, 3), (58, 4), (58, 5), (58, 6)], [54, 55, 56, 57]))
def kC686_0 : aC := (([(.ofNat 0, .ofNat 3), (.ofNat 319, .ofNat 341), (.ofNat 0, .ofNat 4), (.ofNat 319, .ofNat 341)], [(57, 318, .inl (0, .ofNat 0)), (52, 6, .inl (3, .ofNat 0))], 2, [some (.inr [52]), some (.inr [20, 21, 22, 23, 24, 25, 26, 27]), some (.inl (.inl (.inr (.ofNat 318)))), some (.inl (.inl (.inl (2, .ofNat 0)))), none], []), ([], []), (4, [(-1, 2)]))
theorem ks686 : aseg kS krf kB [kE542, kE543] (ksp []) kE686 [kC686_0] 30000 (none) = true := by decide +kernel
theorem ks686_0 : aseg kS krf kB [kE542, kE543] (ksp []) kE686 [kC686_0] 30000 (some kC686_0) = true := by decide +kernel
theorem kok686 : aOK kS krf kB kE686 := aOK_of (kal1 kok542 (kal1 kok543 kal0)) (kcl1 ks686_0 kcl0) ks686
/-- ColdShod$StrokePlan.addNext(LColdShod$Idea;I)V -/
def kE687 : aE := (83, 3, ([(.ofNat 0, .ofNat 3), (.ofNat 318, .ofNat 341)], [(57, 317, .inl (0, .ofNat 0)), (52, 6, .inl (1, .ofNat 0))], 0, [some (.inr [52]), some (.inr [20, 21, 22, 23, 24, 25, 26, 27]), some (.inl (.inl (.inr (.ofNat 317)))), none, none], []), ([], none), ([], [], none, ([], [])), ([(52, 6), (58, 0), (58, 1), (58, 2), (58, 3), (58, 4), (58, 5), (58, 6)], [54, 55, 56, 57]))
def kC687_0 : aC := (([(.ofNat 0, .ofNat 3), (.ofNat 318, .ofNat 341), (.ofNat 0, .ofNat 4), (.ofNat 318, .ofNat 341)], [(57, 317, .inl (0, .ofNat 0)), (52, 6, .inl (3, .ofNat 0))], 2, [some (.inr [52]), some (.inr [20, 21, 22, 23, 24, 25, 26, 27]), some (.inl (.inl (.inr (.ofNat 317)))), some (.inl (.inl (.inl (2, .ofNat 0)))), none], []), ([], []), (4, [(-1, 2)]))
theorem ks687 : aseg kS krf kB [kE542, kE543] (ksp []) kE687 [kC687_0] 30000 (none) = true := by decide +kernel
theorem ks687_0 : aseg kS krf kB [kE542, kE543] (ksp []) kE687 [kC687_0] 30000 (some kC687_0) = true := by decide +kernel
theorem kok687 : aOK kS krf kB kE687 := aOK_of (kal1 kok542 (kal1 kok543 kal0)) (kcl1 ks687_0 kcl0) ks687
/-- ColdShod$StrokePlan.addNext(LColdShod$Idea;I)V -/
def kE688 : aE := (83, 3, ([(.ofNat 0, .ofNat 3), (.ofNat 317, .ofNat 341)], [(57, 316, .inl (0, .ofNat 0)), (52, 6, .inl (1, .ofNat 0))], 0, [some (.inr [52]), some (.inr [20, 21, 22, 23, 24, 25, 26, 27]), some (.inl (.inl (.inr (.ofNat 316)))), none, none], []), ([], none), ([], [], none, ([], [])), ([(52, 6), (58, 0), (58, 1), (58, 2), (58, 3), (58, 4), (58, 5), (58, 6)], [54, 55, 56, 57]))
def kC688_0 : aC := (([(.ofNat 0, .ofNat 3), (.ofNat 317, .ofNat 341), (.ofNat 0, .ofNat 4), (.ofNat 317, .ofNat 341)], [(57, 316, .inl (0, .ofNat 0)), (52, 6, .inl (3, .ofNat 0))], 2, [some (.inr [52]), some (.inr [20, 21, 22, 23, 24, 25, 26, 27]), some (.inl (.inl (.inr (.ofNat 316)))), some (.inl (.inl (.inl (2, .ofNat 0)))), none], []), ([], []), (4, [(-1, 2)]))
theorem ks688 : aseg kS krf kB [kE542, kE543] (ksp []) kE688 [kC688_0] 30000 (none) = true := by decide +kernel
theorem ks688_0 : aseg kS krf kB [kE542, kE543] (ksp []) kE688 [kC688_0] 30000 (some kC688_0) = true := by decide +kernel
theorem kok688 : aOK kS krf kB kE688 := aOK_of (kal1 kok542 (kal1 kok543 kal0)) (kcl1 ks688_0 kcl0) ks688
/-- ColdShod$StrokePlan.addNext(LColdShod$Idea;I)V -/
def kE689 : aE := (83, 3, ([(.ofNat 0, .ofNat 3), (.ofNat 316, .ofNat 341)], [(57, 315, .inl (0, .ofNat 0)), (52, 6, .inl (1, .ofNat 0))], 0, [some (.inr [52]), some (.inr [20, 21, 22, 23, 24, 25, 26, 27]), some (.inl (.inl (.inr (.ofNat 315)))), none, none], []), ([], none), ([], [], none, ([], [])), ([(52, 6), (58, 0), (58, 1), (58, 2), (58, 3), (58, 4), (58, 5), (58, 6)], [54, 55, 56, 57]))
def kC689_0 : aC := (([(.ofNat 0, .ofNat 3), (.ofNat 316, .ofNat 341), (.ofNat 0, .ofNat 4), (.ofNat 316, .ofNat 341)], [(57, 315, .inl (0, .ofNat 0)), (52, 6, .inl (3, .ofNat 0))], 2, [some (.inr [52]), some (.inr [20, 21, 22, 23, 24, 25, 26, 27]), some (.inl (.inl (.inr (.ofNat 315)))), some (.inl (.inl (.inl (2, .ofNat 0)))), none], []), ([], []), (4, [(-1, 2)]))
theorem ks689 : aseg kS krf kB [kE542, kE543] (ksp []) kE689 [kC689_0] 30000 (none) = true := by decide +kernel
theorem ks689_0 : aseg kS krf kB [kE542, kE543] (ksp []) kE689 [kC689_0] 30000 (some kC689_0) = true := by decide +kernel
theorem kok689 : aOK kS krf kB kE689 := aOK_of (kal1 kok542 (kal1 kok543 kal0)) (kcl1 ks689_0 kcl0) ks689
/-- ColdShod$StrokePlan.addNext(LColdShod$Idea;I)V -/
def kE690 : aE := (83, 3, ([(.ofNat 0, .ofNat 3), (.ofNat 315, .ofNat 341)], [(57, 314, .inl (0, .ofNat 0)), (52, 6, .inl (1, .ofNat 0))], 0, [some (.inr [52]), some (.inr [20, 21, 22, 23, 24, 25, 26, 27]), some (.inl (.inl (.inr (.ofNat 314)))), none, none], []), ([], none), ([], [], none, ([], [])), ([(52, 6), (58, 0), (58, 1), (58, 2), (58, 3), (58, 4), (58, 5), (58, 6)], [54, 55, 56, 57]))
def kC690_0 : aC := (([(.ofNat 0, .ofNat 3), (.ofNat 315, .ofNat 341), (.ofNat 0, .ofNat 4), (.ofNat 315, .ofNat 341)], [(57, 314, .inl (0, .ofNat 0)), (52, 6, .inl (3, .ofNat 0))], 2, [some (.inr [52]), some (.inr [20, 21, 22, 23, 24, 25, 26, 27]), some (.inl (.inl (.inr (.ofNat 314)))), some (.inl (.inl (.inl (2, .ofNat 0)))), none], []), ([], []), (4, [(-1, 2)]))
theorem ks690 : aseg kS krf kB [kE542, kE543] (ksp []) kE690 [kC690_0] 30000 (none) = true := by decide +kernel
theorem ks690_0 : aseg kS krf kB [kE542, kE543] (ksp []) kE690 [kC690_0] 30000 (some kC690_0) = true := by decide +kernel
theorem kok690 : aOK kS krf kB kE690 := aOK_of (kal1 kok542 (kal1 kok543 kal0)) (kcl1 ks690_0 kcl0) ks690
/-- ColdShod$StrokePlan.addNext(LColdShod$Idea;I)V -/
def kE691 : aE := (83, 3, ([(.ofNat 0, .ofNat 3), (.ofNat 314, .ofNat 341)], [(57, 313, .inl (0, .ofNat 0)), (52, 6, .inl (1, .ofNat 0))], 0, [some (.inr [52]), some (.inr [20, 21, 22, 23, 24, 25, 26, 27]), some (.inl (.inl (.inr (.ofNat 313)))), none, none], []), ([], none), ([], [], none, ([], [])), ([(52, 6), (58, 0), (58, 1), (58, 2), (58, 3), (58, 4), (58, 5), (58, 6)], [54, 55, 56, 57]))
def kC691_0 : aC := (([(.ofNat 0, .ofNat 3), (.ofNat 314, .ofNat 341), (.ofNat 0, .ofNat 4), (.ofNat 314, .ofNat 341)], [(57, 313, .inl (0, .ofNat 0)), (52, 6, .inl (3, .ofNat 0))], 2, [some (.inr [52]), some (.inr [20, 21, 22, 23, 24, 25, 26, 27]), some (.inl (.inl (.inr (.ofNat 313)))), some (.inl (.inl (.inl (2, .ofNat 0)))), none], []), ([], []), (4, [(-1, 2)]))
theorem ks691 : aseg kS krf kB [kE542, kE543] (ksp []) kE691 [kC691_0] 30000 (none) = true := by decide +kernel
theorem ks691_0 : aseg kS krf kB [kE542, kE543] (ksp []) kE691 [kC691_0] 30000 (some kC691_0) = true := by decide +kernel
theorem kok691 : aOK kS krf kB kE691 := aOK_of (kal1 kok542 (kal1 kok543 kal0)) (kcl1 ks691_0 kcl0) ks691
/-- ColdShod$StrokePlan.addNext(LColdShod$Idea;I)V -/
def kE692 : aE := (83, 3, ([(.ofNat 0, .ofNat 3), (.ofNat 313, .ofNat 341)], [(57, 312, .inl (0, .ofNat 0)), (52, 6, .inl (1, .ofNat 0))], 0, [some (.inr [52]), some (.inr [20, 21, 22, 23, 24, 25, 26, 27]), some (.inl (.inl (.inr (.ofNat 312)))), none, none], []), ([], none), ([], [], none, ([], [])), ([(52, 6), (58, 0), (58, 1), (58, 2), (58, 3), (58, 4), (58, 5), (58, 6)], [54, 55, 56, 57]))
def kC692_0 : aC := (([(.ofNat 0, .ofNat 3), (.ofNat 313, .ofNat 341), (.ofNat 0, .ofNat 4), (.ofNat 313, .ofNat 341)], [(57, 312, .inl (0, .ofNat 0)), (52, 6, .inl (3, .ofNat 0))], 2, [some (.inr [52]), some (.inr [20, 21, 22, 23, 24, 25, 26, 27]), some (.inl (.inl (.inr (.ofNat 312)))), some (.inl (.inl (.inl (2, .ofNat 0)))), none], []), ([], []), (4, [(-1, 2)]))
theorem ks692 : aseg kS krf kB [kE542, kE543] (ksp []) kE692 [kC692_0] 30000 (none) = true := by decide +kernel
theorem ks692_0 : aseg kS krf kB [kE542, kE543] (ksp []) kE692 [kC692_0] 30000 (some kC692_0) = true := by decide +kernel
theorem kok692 : aOK kS krf kB kE692 := aOK_of (kal1 kok542 (kal1 kok543 kal0)) (kcl1 ks692_0 kcl0) ks692
/-- ColdShod$StrokePlan.addNext(LColdShod$Idea;I)V -/
def kE693 : aE := (83, 3, ([(.ofNat 0, .ofNat 3), (.ofNat 312, .ofNat 341)], [(57, 311, .inl (0, .ofNat 0)), (52, 6, .inl (1, .ofNat 0))], 0, [some (.inr [52]), some (.inr [20, 21, 22, 23, 24, 25, 26, 27]), some (.inl (.inl (.inr (.ofNat 311)))), none, none], []), ([], none), ([], [], none, ([], [])), ([(52, 6), (58, 0), (58, 1), (58, 2), (58, 3), (58, 4), (58, 5), (58, 6)], [54, 55, 56, 57]))
def kC693_0 : aC := (([(.ofNat 0, .ofNat 3), (.ofNat 312, .ofNat 341), (.ofNat 0, .ofNat 4), (.ofNat 312, .ofNat 341)], [(57, 311, .inl (0, .ofNat 0)), (52, 6, .inl (3, .ofNat 0))], 2, [some (.inr [52]), some (.inr [20, 21, 22, 23, 24, 25, 26, 27]), some (.inl (.inl (.inr (.ofNat 311)))), some (.inl (.inl (.inl (2, .ofNat 0)))), none], []), ([], []), (4, [(-1, 2)]))
theorem ks693 : aseg kS krf kB [kE542, kE543] (ksp []) kE693 [kC693_0] 30000 (none) = true := by decide +kernel
theorem ks693_0 : aseg kS krf kB [kE542, kE543] (ksp []) kE693 [kC693_0] 30000 (some kC693_0) = true := by decide +kernel
theorem kok693 : aOK kS krf kB kE693 := aOK_of (kal1 kok542 (kal1 kok543 kal0)) (kcl1 ks693_0 kcl0) ks693
/-- ColdShod$StrokePlan.addNext(LColdShod$Idea;I)V -/
def kE694 : aE := (83, 3, ([(.ofNat 0, .ofNat 3), (.ofNat 311, .ofNat 341)], [(57, 310, .inl (0, .ofNat 0)), (52, 6, .inl (1, .ofNat 0))], 0, [some (.inr [52]), some (.inr [20, 21, 22, 23, 24, 25, 26, 27]), some (.inl (.inl (.inr (.ofNat 310)))), none, none], []), ([], none), ([], [], none, ([], [])), ([(52, 6), (58, 0), (58, 1), (58, 2), (58, 3), (58, 4), (58, 5), (58, 6)], [54, 55, 56, 57]))
def kC694_0 : aC := (([(.ofNat 0, .ofNat 3), (.ofNat 311, .ofNat 341), (.ofNat 0, .ofNat 4), (.ofNat 311, .ofNat 341)], [(57, 310, .inl (0, .ofNat 0)), (52, 6, .inl (3, .ofNat 0))], 2, [some (.inr [52]), some (.inr [20, 21, 22, 23, 24, 25, 26, 27]), some (.inl (.inl (.inr (.ofNat 310)))), some (.inl (.inl (.inl (2, .ofNat 0)))), none], []), ([], []), (4, [(-1, 2)]))
theorem ks694 : aseg kS krf kB [kE542, kE543] (ksp []) kE694 [kC694_0] 30000 (none) = true := by decide +kernel
theorem ks694_0 : aseg kS krf kB [kE542, kE543] (ksp []) kE694 [kC694_0] 30000 (some kC694_0) = true := by decide +kernel
theorem kok694 : aOK kS krf kB kE694 := aOK_of (kal1 kok542 (kal1 kok543 kal0)) (kcl1 ks694_0 kcl0) ks694
/-- ColdShod$StrokePlan.addNext(LColdShod$Idea;I)V -/
def kE695 : aE := (83, 3, ([(.ofNat 0, .ofNat 3), (.ofNat 310, .ofNat 341)], [(57, 309, .inl (0, .ofNat 0)), (52, 6, .inl (1, .ofNat 0))], 0, [some (.inr [52]), some (.inr [20, 21, 22, 23, 24, 25, 26, 27]), some (.inl (.inl (.inr (.ofNat 309)))), none, none], []), ([], none), ([], [], none, ([], [])), ([(52, 6), (58, 0), (58, 1), (58, 2), (58, 3), (58, 4), (58, 5), (58, 6)], [54, 55, 56, 57]))
def kC695_0 : aC := (([(.ofNat 0, .ofNat 3), (.ofNat 310, .ofNat 341), (.ofNat 0, .ofNat 4), (.ofNat 310, .ofNat 341)], [(57, 309, .inl (0, .ofNat 0)), (52, 6, .inl (3, .ofNat 0))], 2, [some (.inr [52]), some (.inr [20, 21, 22, 23, 24, 25, 26, 27]), some (.inl (.inl (.inr (.ofNat 309)))), some (.inl (.inl (.inl (2, .ofNat 0)))), none], []), ([], []), (4, [(-1, 2)]))
theorem ks695 : aseg kS krf kB [kE542, kE543] (ksp []) kE695 [kC695_0] 30000 (none) = true := by decide +kernel
theorem ks695_0 : aseg kS krf kB [kE542, kE543] (ksp []) kE695 [kC695_0] 30000 (some kC695_0) = true := by decide +kernel
theorem kok695 : aOK kS krf kB kE695 := aOK_of (kal1 kok542 (kal1 kok543 kal0)) (kcl1 ks695_0 kcl0) ks695
/-- ColdShod$StrokePlan.addNext(LColdShod$Idea;I)V -/
def kE696 : aE := (83, 3, ([(.ofNat 0, .ofNat 3), (.ofNat 309, .ofNat 341)], [(57, 308, .inl (0, .ofNat 0)), (52, 6, .inl (1, .ofNat 0))], 0, [some (.inr [52]), some (.inr [20, 21, 22, 23, 24, 25, 26, 27]), some (.inl (.inl (.inr (.ofNat 308)))), none, none], []), ([], none), ([], [], none, ([], [])), ([(52, 6), (58, 0), (58, 1), (58, 2), (58, 3), (58, 4), (58, 5), (58, 6)], [54, 55, 56, 57]))
def kC696_0 : aC := (([(.ofNat 0, .ofNat 3), (.ofNat 309, .ofNat 341), (.ofNat 0, .ofNat 4), (.ofNat 309, .ofNat 341)], [(57, 308, .inl (0, .ofNat 0)), (52, 6, .inl (3, .ofNat 0))], 2, [some (.inr [52]), some (.inr [20, 21, 22, 23, 24, 25, 26, 27]), some (.inl (.inl (.inr (.ofNat 308)))), some (.inl (.inl (.inl (2, .ofNat 0)))), none], []), ([], []), (4, [(-1, 2)]))
theorem ks696 : aseg kS krf kB [kE542, kE543] (ksp []) kE696 [kC696_0] 30000 (none) = true := by decide +kernel
theorem ks696_0 : aseg kS krf kB [kE542, kE543] (ksp []) kE696 [kC696_0] 30000 (some kC696_0) = true := by decide +kernel
theorem kok696 : aOK kS krf kB kE696 := aOK_of (kal1 kok542 (kal1 kok543 kal0)) (kcl1 ks696_0 kcl0) ks696
/-- ColdShod$StrokePlan.addNext(LColdShod$Idea;I)V -/
def kE697 : aE := (83, 3, ([(.ofNat 0, .ofNat 3), (.ofNat 308, .ofNat 341)], [(57, 307, .inl (0, .ofNat 0)), (52, 6, .inl (1, .ofNat 0))], 0, [some (.inr [52]), some (.inr [20, 21, 22, 23, 24, 25, 26, 27]), some (.inl (.inl (.inr (.ofNat 307)))), none, none], []), ([], none), ([], [], none, ([], [])), ([(52, 6), (58, 0), (58, 1), (58, 2), (58, 3), (58, 4), (58, 5), (58, 6)], [54, 55, 56, 57]))
def kC697_0 : aC := (([(.ofNat 0, .ofNat 3), (.ofNat 308, .ofNat 341), (.ofNat 0, .ofNat 4), (.ofNat 308, .ofNat 341)], [(57, 307, .inl (0, .ofNat 0)), (52, 6, .inl (3, .ofNat 0))], 2, [some (.inr [52]), some (.inr [20, 21, 22, 23, 24, 25, 26, 27]), some (.inl (.inl (.inr (.ofNat 307)))), some (.inl (.inl (.inl (2, .ofNat 0)))), none], []), ([], []), (4, [(-1, 2)]))
theorem ks697 : aseg kS krf kB [kE542, kE543] (ksp []) kE697 [kC697_0] 30000 (none) = true := by decide +kernel
theorem ks697_0 : aseg kS krf kB [kE542, kE543] (ksp []) kE697 [kC697_0] 30000 (some kC697_0) = true := by decide +kernel
theorem kok697 : aOK kS krf kB kE697 := aOK_of (kal1 kok542 (kal1 kok543 kal0)) (kcl1 ks697_0 kcl0) ks697
/-- ColdShod$StrokePlan.addNext(LColdShod$Idea;I)V -/
def kE698 : aE := (83, 3, ([(.ofNat 0, .ofNat 3), (.ofNat 307, .ofNat 341)], [(57, 306, .inl (0, .ofNat 0)), (52, 6, .inl (1, .ofNat 0))], 0, [some (.inr [52]), some (.inr [20, 21, 22, 23, 24, 25, 26, 27]), some (.inl (.inl (.inr (.ofNat 306)))), none, none], []), ([], none), ([], [], none, ([], [])), ([(52, 6), (58, 0), (58, 1), (58, 2), (58, 3), (58, 4), (58, 5), (58, 6)], [54, 55, 56, 57]))
def kC698_0 : aC := (([(.ofNat 0, .ofNat 3), (.ofNat 307, .ofNat 341), (.ofNat 0, .ofNat 4), (.ofNat 307, .ofNat 341)], [(57, 306, .inl (0, .ofNat 0)), (52, 6, .inl (3, .ofNat 0))], 2, [some (.inr [52]), some (.inr [20, 21, 22, 23, 24, 25, 26, 27]), some (.inl (.inl (.inr (.ofNat 306)))), some (.inl (.inl (.inl (2, .ofNat 0)))), none], []), ([], []), (4, [(-1, 2)]))
theorem ks698 : aseg kS krf kB [kE542, kE543] (ksp []) kE698 [kC698_0] 30000 (none) = true := by decide +kernel
theorem ks698_0 : aseg kS krf kB [kE542, kE543] (ksp []) kE698 [kC698_0] 30000 (some kC698_0) = true := by decide +kernel
theorem kok698 : aOK kS krf kB kE698 := aOK_of (kal1 kok542 (kal1 kok543 kal0)) (kcl1 ks698_0 kcl0) ks698
/-- ColdShod$StrokePlan.addNext(LColdShod$Idea;I)V -/
def kE699 : aE := (83, 3, ([(.ofNat 0, .ofNat 3), (.ofNat 306, .ofNat 341)], [(57, 305, .inl (0, .ofNat 0)), (52, 6, .inl (1, .ofNat 0))], 0, [some (.inr [52]), some (.inr [20, 21, 22, 23, 24, 25, 26, 27]), some (.inl (.inl (.inr (.ofNat 305)))), none, none], []), ([], none), ([], [], none, ([], [])), ([(52, 6), (58, 0), (58, 1), (58, 2), (58, 3), (58, 4), (58, 5), (58, 6)], [54, 55, 56, 57]))
def kC699_0 : aC := (([(.ofNat 0, .ofNat 3), (.ofNat 306, .ofNat 341), (.ofNat 0, .ofNat 4), (.ofNat 306, .ofNat 341)], [(57, 305, .inl (0, .ofNat 0)), (52, 6, .inl (3, .ofNat 0))], 2, [some (.inr [52]), some (.inr [20, 21, 22, 23, 24, 25, 26, 27]), some (.inl (.inl (.inr (.ofNat 305)))), some (.inl (.inl (.inl (2, .ofNat 0)))), none], []), ([], []), (4, [(-1, 2)]))
theorem ks699 : aseg kS krf kB [kE542, kE543] (ksp []) kE699 [kC699_0] 30000 (none) = true := by decide +kernel
theorem ks699_0 : aseg kS krf kB [kE542, kE543] (ksp []) kE699 [kC699_0] 30000 (some kC699_0) = true := by decide +kernel
theorem kok699 : aOK kS krf kB kE699 := aOK_of (kal1 kok542 (kal1 kok543 kal0)) (kcl1 ks699_0 kcl0) ks699
/-- ColdShod$StrokePlan.addNext(LColdShod$Idea;I)V -/
def kE700 : aE := (83, 3, ([(.ofNat 0, .ofNat 3), (.ofNat 305, .ofNat 341)], [(57, 304, .inl (0, .ofNat 0)), (52, 6, .inl (1, .ofNat 0))], 0, [some (.inr [52]), some (.inr [20, 21, 22, 23, 24, 25, 26, 27]), some (.inl (.inl (.inr (.ofNat 304)))), none, none], []), ([], none), ([], [], none, ([], [])), ([(52, 6), (58, 0), (58, 1), (58, 2), (58, 3), (58, 4), (58, 5), (58, 6)], [54, 55, 56, 57]))
def kC700_0 : aC := (([(.ofNat 0, .ofNat 3), (.ofNat 305, .ofNat 341), (.ofNat 0, .ofNat 4), (.ofNat 305, .ofNat 341)], [(57, 304, .inl (0, .ofNat 0)), (52, 6, .inl (3, .ofNat 0))], 2, [some (.inr [52]), some (.inr [20, 21, 22, 23, 24, 25, 26, 27]), some (.inl (.inl (.inr (.ofNat 304)))), some (.inl (.inl (.inl (2, .ofNat 0)))), none], []), ([], []), (4, [(-1, 2)]))
theorem ks700 : aseg kS krf kB [kE542, kE543] (ksp []) kE700 [kC700_0] 30000 (none) = true := by decide +kernel
theorem ks700_0 : aseg kS krf kB [kE542, kE543] (ksp []) kE700 [kC700_0] 30000 (some kC700_0) = true := by decide +kernel
theorem kok700 : aOK kS krf kB kE700 := aOK_of (kal1 kok542 (kal1 kok543 kal0)) (kcl1 ks700_0 kcl0) ks700
/-- ColdShod$StrokePlan.addNext(LColdShod$Idea;I)V -/
def kE701 : aE := (83, 3, ([(.ofNat 0, .ofNat 3), (.ofNat 304, .ofNat 341)], [(57, 303, .inl (0, .ofNat 0)), (52, 6, .inl (1, .ofNat 0))], 0, [some (.inr [52]), some (.inr [20, 21, 22, 23, 24, 25, 26, 27]), some (.inl (.inl (.inr (.ofNat 303)))), none, none], []), ([], none), ([], [], none, ([], [])), ([(52, 6), (58, 0), (58, 1), (58, 2), (58, 3), (58, 4), (58, 5), (58, 6)], [54, 55, 56, 57]))
def kC701_0 : aC := (([(.ofNat 0, .ofNat 3), (.ofNat 304, .ofNat 341), (.ofNat 0, .ofNat 4), (.ofNat 304, .ofNat 341)], [(57, 303, .inl (0, .ofNat 0)), (52, 6, .inl (3, .ofNat 0))], 2, [some (.inr [52]), some (.inr [20, 21, 22, 23, 24, 25, 26, 27]), some (.inl (.inl (.inr (.ofNat 303)))), some (.inl (.inl (.inl (2, .ofNat 0)))), none], []), ([], []), (4, [(-1, 2)]))
theorem ks701 : aseg kS krf kB [kE542, kE543] (ksp []) kE701 [kC701_0] 30000 (none) = true := by decide +kernel
theorem ks701_0 : aseg kS krf kB [kE542, kE543] (ksp []) kE701 [kC701_0] 30000 (some kC701_0) = true := by decide +kernel
theorem kok701 : aOK kS krf kB kE701 := aOK_of (kal1 kok542 (kal1 kok543 kal0)) (kcl1 ks701_0 kcl0) ks701
/-- ColdShod$StrokePlan.addNext(LColdShod$Idea;I)V -/
def kE702 : aE := (83, 3, ([(.ofNat 0, .ofNat 3), (.ofNat 303, .ofNat 341)], [(57, 302, .inl (0, .ofNat 0)), (52, 6, .inl (1, .ofNat 0))], 0, [some (.inr [52]), some (.inr [20, 21, 22, 23, 24, 25, 26, 27]), some (.inl (.inl (.inr (.ofNat 302)))), none, none], []), ([], none), ([], [], none, ([], [])), ([(52, 6), (58, 0), (58, 1), (58, 2), (58, 3), (58, 4), (58, 5), (58, 6)], [54, 55, 56, 57]))
def kC702_0 : aC := (([(.ofNat 0, .ofNat 3), (.ofNat 303, .ofNat 341), (.ofNat 0, .ofNat 4), (.ofNat 303, .ofNat 341)], [(57, 302, .inl (0, .ofNat 0)), (52, 6, .inl (3, .ofNat 0))], 2, [some (.inr [52]), some (.inr [20, 21, 22, 23, 24, 25, 26, 27]), some (.inl (.inl (.inr (.ofNat 302)))), some (.inl (.inl (.inl (2, .ofNat 0)))), none], []), ([], []), (4, [(-1, 2)]))
theorem ks702 : aseg kS krf kB [kE542, kE543] (ksp []) kE702 [kC702_0] 30000 (none) = true := by decide +kernel
theorem ks702_0 : aseg kS krf kB [kE542, kE543] (ksp []) kE702 [kC702_0] 30000 (some kC702_0) = true := by decide +kernel
theorem kok702 : aOK kS krf kB kE702 := aOK_of (kal1 kok542 (kal1 kok543 kal0)) (kcl1 ks702_0 kcl0) ks702
/-- ColdShod$StrokePlan.addNext(LColdShod$Idea;I)V -/
def kE703 : aE := (83, 3, ([(.ofNat 0, .ofNat 3), (.ofNat 302, .ofNat 341)], [(57, 301, .inl (0, .ofNat 0)), (52, 6, .inl (1, .ofNat 0))], 0, [some (.inr [52]), some (.inr [20, 21, 22, 23, 24, 25, 26, 27]), some (.inl (.inl (.inr (.ofNat 301)))), none, none], []), ([], none), ([], [], none, ([], [])), ([(52, 6), (58, 0), (58, 1), (58, 2), (58, 3), (58, 4), (58, 5), (58, 6)], [54, 55, 56, 57]))
def kC703_0 : aC := (([(.ofNat 0, .ofNat 3), (.ofNat 302, .ofNat 341), (.ofNat 0, .ofNat 4), (.ofNat 302, .ofNat 341)], [(57, 301, .inl (0, .ofNat 0)), (52, 6, .inl (3, .ofNat 0))], 2, [some (.inr [52]), some (.inr [20, 21, 22, 23, 24, 25, 26, 27]), some (.inl (.inl (.inr (.ofNat 301)))), some (.inl (.inl (.inl (2, .ofNat 0)))), none], []), ([], []), (4, [(-1, 2)]))
theorem ks703 : aseg kS krf kB [kE542, kE543] (ksp []) kE703 [kC703_0] 30000 (none) = true := by decide +kernel
theorem ks703_0 : aseg kS krf kB [kE542, kE543] (ksp []) kE703 [kC703_0] 30000 (some kC703_0) = true := by decide +kernel
theorem kok703 : aOK kS krf kB kE703 := aOK_of (kal1 kok542 (kal1 kok543 kal0)) (kcl1 ks703_0 kcl0) ks703
/-- ColdShod$StrokePlan.addNext(LColdShod$Idea;I)V -/
def kE704 : aE := (83, 3, ([(.ofNat 0, .ofNat 3), (.ofNat 301, .ofNat 341)], [(57, 300, .inl (0, .ofNat 0)), (52, 6, .inl (1, .ofNat 0))], 0, [some (.inr [52]), some (.inr [20, 21, 22, 23, 24, 25, 26, 27]), some (.inl (.inl (.inr (.ofNat 300)))), none, none], []), ([], none), ([], [], none, ([], [])), ([(52, 6), (58, 0), (58, 1), (58, 2), (58, 3), (58, 4), (58, 5), (58, 6)], [54, 55, 56, 57]))
def kC704_0 : aC := (([(.ofNat 0, .ofNat 3), (.ofNat 301, .ofNat 341), (.ofNat 0, .ofNat 4), (.ofNat 301, .ofNat 341)], [(57, 300, .inl (0, .ofNat 0)), (52, 6, .inl (3, .ofNat 0))], 2, [some (.inr [52]), some (.inr [20, 21, 22, 23, 24, 25, 26, 27]), some (.inl (.inl (.inr (.ofNat 300)))), some (.inl (.inl (.inl (2, .ofNat 0)))), none], []), ([], []), (4, [(-1, 2)]))
theorem ks704 : aseg kS krf kB [kE542, kE543] (ksp []) kE704 [kC704_0] 30000 (none) = true := by decide +kernel
theorem ks704_0 : aseg kS krf kB [kE542, kE543] (ksp []) kE704 [kC704_0] 30000 (some kC704_0) = true := by decide +kernel
theorem kok704 : aOK kS krf kB kE704 := aOK_of (kal1 kok542 (kal1 kok543 kal0)) (kcl1 ks704_0 kcl0) ks704
/-- ColdShod$StrokePlan.addNext(LColdShod$Idea;I)V -/
def kE705 : aE := (83, 3, ([(.ofNat 0, .ofNat 3), (.ofNat 300, .ofNat 341)], [(57, 299, .inl (0, .ofNat 0)), (52, 6, .inl (1, .ofNat 0))], 0, [some (.inr [52]), some (.inr [20, 21, 22, 23, 24, 25, 26, 27]), some (.inl (.inl (.inr (.ofNat 299)))), none, none], []), ([], none), ([], [], none, ([], [])), ([(52, 6), (58, 0), (58, 1), (58, 2), (58, 3), (58, 4), (58, 5), (58, 6)], [54, 55, 56, 57]))
def kC705_0 : aC := (([(.ofNat 0, .ofNat 3), (.ofNat 300, .ofNat 341), (.ofNat 0, .ofNat 4), (.ofNat 300, .ofNat 341)], [(57, 299, .inl (0, .ofNat 0)), (52, 6, .inl (3, .ofNat 0))], 2, [some (.inr [52]), some (.inr [20, 21, 22, 23, 24, 25, 26, 27]), some (.inl (.inl (.inr (.ofNat 299)))), some (.inl (.inl (.inl (2, .ofNat 0)))), none], []), ([], []), (4, [(-1, 2)]))
theorem ks705 : aseg kS krf kB [kE542, kE543] (ksp []) kE705 [kC705_0] 30000 (none) = true := by decide +kernel
theorem ks705_0 : aseg kS krf kB [kE542, kE543] (ksp []) kE705 [kC705_0] 30000 (some kC705_0) = true := by decide +kernel
theorem kok705 : aOK kS krf kB kE705 := aOK_of (kal1 kok542 (kal1 kok543 kal0)) (kcl1 ks705_0 kcl0) ks705
/-- ColdShod$StrokePlan.addNext(LColdShod$Idea;I)V -/
def kE706 : aE := (83, 3, ([(.ofNat 0, .ofNat 3), (.ofNat 299, .ofNat 341)], [(57, 298, .inl (0, .ofNat 0)), (52, 6, .inl (1, .ofNat 0))], 0, [some (.inr [52]), some (.inr [20, 21, 22, 23, 24, 25, 26, 27]), some (.inl (.inl (.inr (.ofNat 298)))), none, none], []), ([], none), ([], [], none, ([], [])), ([(52, 6), (58, 0), (58, 1), (58, 2), (58, 3), (58, 4), (58, 5), (58, 6)], [54, 55, 56, 57]))
def kC706_0 : aC := (([(.ofNat 0, .ofNat 3), (.ofNat 299, .ofNat 341), (.ofNat 0, .ofNat 4), (.ofNat 299, .ofNat 341)], [(57, 298, .inl (0, .ofNat 0)), (52, 6, .inl (3, .ofNat 0))], 2, [some (.inr [52]), some (.inr [20, 21, 22, 23, 24, 25, 26, 27]), some (.inl (.inl (.inr (.ofNat 298)))), some (.inl (.inl (.inl (2, .ofNat 0)))), none], []), ([], []), (4, [(-1, 2)]))
theorem ks706 : aseg kS krf kB [kE542, kE543] (ksp []) kE706 [kC706_0] 30000 (none) = true := by decide +kernel
theorem ks706_0 : aseg kS krf kB [kE542, kE543] (ksp []) kE706 [kC706_0] 30000 (some kC706_0) = true := by decide +kernel
theorem kok706 : aOK kS krf kB kE706 := aOK_of (kal1 kok542 (kal1 kok543 kal0)) (kcl1 ks706_0 kcl0) ks706
/-- ColdShod$StrokePlan.addNext(LColdShod$Idea;I)V -/
def kE707 : aE := (83, 3, ([(.ofNat 0, .ofNat 3), (.ofNat 298, .ofNat 341)], [(57, 297, .inl (0, .ofNat 0)), (52, 6, .inl (1, .ofNat 0))], 0, [some (.inr [52]), some (.inr [20, 21, 22, 23, 24, 25, 26, 27]), some (.inl (.inl (.inr (.ofNat 297)))), none, none], []), ([], none), ([], [], none, ([], [])), ([(52, 6), (58, 0), (58, 1), (58, 2), (58, 3), (58, 4), (58, 5), (58, 6)], [54, 55, 56, 57]))
def kC707_0 : aC := (([(.ofNat 0, .ofNat 3), (.ofNat 298, .ofNat 341), (.ofNat 0, .ofNat 4), (.ofNat 298, .ofNat 341)], [(57, 297, .inl (0, .ofNat 0)), (52, 6, .inl (3, .ofNat 0))], 2, [some (.inr [52]), some (.inr [20, 21, 22, 23, 24, 25, 26, 27]), some (.inl (.inl (.inr (.ofNat 297)))), some (.inl (.inl (.inl (2, .ofNat 0)))), none], []), ([], []), (4, [(-1, 2)]))
theorem ks707 : aseg kS krf kB [kE542, kE543] (ksp []) kE707 [kC707_0] 30000 (none) = true := by decide +kernel
theorem ks707_0 : aseg kS krf kB [kE542, kE543] (ksp []) kE707 [kC707_0] 30000 (some kC707_0) = true := by decide +kernel
theorem kok707 : aOK kS krf kB kE707 := aOK_of (kal1 kok542 (kal1 kok543 kal0)) (kcl1 ks707_0 kcl0) ks707
/-- ColdShod$StrokePlan.addNext(LColdShod$Idea;I)V -/
def kE708 : aE := (83, 3, ([(.ofNat 0, .ofNat 3), (.ofNat 297, .ofNat 341)], [(57, 296, .inl (0, .ofNat 0)), (52, 6, .inl (1, .ofNat 0))], 0, [some (.inr [52]), some (.inr [20, 21, 22, 23, 24, 25, 26, 27]), some (.inl (.inl (.inr (.ofNat 296)))), none, none], []), ([], none), ([], [], none, ([], [])), ([(52, 6), (58, 0), (58, 1), (58, 2), (58, 3), (58, 4), (58, 5), (58, 6)], [54, 55, 56, 57]))
def kC708_0 : aC := (([(.ofNat 0, .ofNat 3), (.ofNat 297, .ofNat 341), (.ofNat 0, .ofNat 4), (.ofNat 297, .ofNat 341)], [(57, 296, .inl (0, .ofNat 0)), (52, 6, .inl (3, .ofNat 0))], 2, [some (.inr [52]), some (.inr [20, 21, 22, 23, 24, 25, 26, 27]), some (.inl (.inl (.inr (.ofNat 296)))), some (.inl (.inl (.inl (2, .ofNat 0)))), none], []), ([], []), (4, [(-1, 2)]))
theorem ks708 : aseg kS krf kB [kE542, kE543] (ksp []) kE708 [kC708_0] 30000 (none) = true := by decide +kernel
theorem ks708_0 : aseg kS krf kB [kE542, kE543] (ksp []) kE708 [kC708_0] 30000 (some kC708_0) = true := by decide +kernel
theorem kok708 : aOK kS krf kB kE708 := aOK_of (kal1 kok542 (kal1 kok543 kal0)) (kcl1 ks708_0 kcl0) ks708
/-- ColdShod$StrokePlan.addNext(LColdShod$Idea;I)V -/
def kE709 : aE := (83, 3, ([(.ofNat 0, .ofNat 3), (.ofNat 296, .ofNat 341)], [(57, 295, .inl (0, .ofNat 0)), (52, 6, .inl (1, .ofNat 0))], 0, [some (.inr [52]), some (.inr [20, 21, 22, 23, 24, 25, 26, 27]), some (.inl (.inl (.inr (.ofNat 295)))), none, none], []), ([], none), ([], [], none, ([], [])), ([(52, 6), (58, 0), (58, 1), (58, 2), (58, 3), (58, 4), (58, 5), (58, 6)], [54, 55, 56, 57]))
def kC709_0 : aC := (([(.ofNat 0, .ofNat 3), (.ofNat 296, .ofNat 341), (.ofNat 0, .ofNat 4), (.ofNat 296, .ofNat 341)], [(57, 295, .inl (0, .ofNat 0)), (52, 6, .inl (3, .ofNat 0))], 2, [some (.inr [52]), some (.inr [20, 21, 22, 23, 24, 25, 26, 27]), some (.inl (.inl (.inr (.ofNat 295)))), some (.inl (.inl (.inl (2, .ofNat 0)))), none], []), ([], []), (4, [(-1, 2)]))
theorem ks709 : aseg kS krf kB [kE542, kE543] (ksp []) kE709 [kC709_0] 30000 (none) = true := by decide +kernel
theorem ks709_0 : aseg kS krf kB [kE542, kE543] (ksp []) kE709 [kC709_0] 30000 (some kC709_0) = true := by decide +kernel
theorem kok709 : aOK kS krf kB kE709 := aOK_of (kal1 kok542 (kal1 kok543 kal0)) (kcl1 ks709_0 kcl0) ks709
/-- ColdShod$StrokePlan.addNext(LColdShod$Idea;I)V -/
def kE710 : aE := (83, 3, ([(.ofNat 0, .ofNat 3), (.ofNat 295, .ofNat 341)], [(57, 294, .inl (0, .ofNat 0)), (52, 6, .inl (1, .ofNat 0))], 0, [some (.inr [52]), some (.inr [20, 21, 22, 23, 24, 25, 26, 27]), some (.inl (.inl (.inr (.ofNat 294)))), none, none], []), ([], none), ([], [], none, ([], [])), ([(52, 6), (58, 0), (58, 1), (58, 2), (58, 3), (58, 4), (58, 5), (58, 6)], [54, 55, 56, 57]))
def kC710_0 : aC := (([(.ofNat 0, .ofNat 3), (.ofNat 295, .ofNat 341), (.ofNat 0, .ofNat 4), (.ofNat 295, .ofNat 341)], [(57, 294, .inl (0, .ofNat 0)), (52, 6, .inl (3, .ofNat 0))], 2, [some (.inr [52]), some (.inr [20, 21, 22, 23, 24, 25, 26, 27]), some (.inl (.inl (.inr (.ofNat 294)))), some (.inl (.inl (.inl (2, .ofNat 0)))), none], []), ([], []), (4, [(-1, 2)]))
theorem ks710 : aseg kS krf kB [kE542, kE543] (ksp []) kE710 [kC710_0] 30000 (none) = true := by decide +kernel
theorem ks710_0 : aseg kS krf kB [kE542, kE543] (ksp []) kE710 [kC710_0] 30000 (some kC710_0) = true := by decide +kernel
theorem kok710 : aOK kS krf kB kE710 := aOK_of (kal1 kok542 (kal1 kok543 kal0)) (kcl1 ks710_0 kcl0) ks710
/-- ColdShod$StrokePlan.addNext(LColdShod$Idea;I)V -/
def kE711 : aE := (83, 3, ([(.ofNat 0, .ofNat 3), (.ofNat 294, .ofNat 341)], [(57, 293, .inl (0, .ofNat 0)), (52, 6, .inl (1, .ofNat 0))], 0, [some (.inr [52]), some (.inr [20, 21, 22, 23, 24, 25, 26, 27]), some (.inl (.inl (.inr (.ofNat 293)))), none, none], []), ([], none), ([], [], none, ([], [])), ([(52, 6), (58, 0), (58, 1), (58, 2), (58, 3), (58, 4), (58, 5), (58, 6)], [54, 55, 56, 57]))
def kC711_0 : aC := (([(.ofNat 0, .ofNat 3), (.ofNat 294, .ofNat 341), (.ofNat 0, .ofNat 4), (.ofNat 294, .ofNat 341)], [(57, 293, .inl (0, .ofNat 0)), (52, 6, .inl (3, .ofNat 0))], 2, [some (.inr [52]), some (.inr [20, 21, 22, 23, 24, 25, 26, 27]), some (.inl (.inl (.inr (.ofNat 293)))), some (.inl (.inl (.inl (2, .ofNat 0)))), none], []), ([], []), (4, [(-1, 2)]))
theorem ks711 : aseg kS krf kB [kE542, kE543] (ksp []) kE711 [kC711_0] 30000 (none) = true := by decide +kernel
theorem ks711_0 : aseg kS krf kB [kE542, kE543] (ksp []) kE711 [kC711_0] 30000 (some kC711_0) = true := by decide +kernel
theorem kok711 : aOK kS krf kB kE711 := aOK_of (kal1 kok542 (kal1 kok543 kal0)) (kcl1 ks711_0 kcl0) ks711
/-- ColdShod$StrokePlan.addNext(LColdShod$Idea;I)V -/
def kE712 : aE := (83, 3, ([(.ofNat 0, .ofNat 3), (.ofNat 293, .ofNat 341)], [(57, 292, .inl (0, .ofNat 0)), (52, 6, .inl (1, .ofNat 0))], 0, [some (.inr [52]), some (.inr [20, 21, 22, 23, 24, 25, 26, 27]), some (.inl (.inl (.inr (.ofNat 292)))), none, none], []), ([], none), ([], [], none, ([], [])), ([(52, 6), (58, 0), (58, 1), (58, 2), (58, 3), (58, 4), (58, 5), (58, 6)], [54, 55, 56, 57]))
def kC712_0 : aC := (([(.ofNat 0, .ofNat 3), (.ofNat 293, .ofNat 341), (.ofNat 0, .ofNat 4), (.ofNat 293, .ofNat 341)], [(57, 292, .inl (0, .ofNat 0)), (52, 6, .inl (3, .ofNat 0))], 2, [some (.inr [52]), some (.inr [20, 21, 22, 23, 24, 25, 26, 27]), some (.inl (.inl (.inr (.ofNat 292)))), some (.inl (.inl (.inl (2, .ofNat 0)))), none], []), ([], []), (4, [(-1, 2)]))
theorem ks712 : aseg kS krf kB [kE542, kE543] (ksp []) kE712 [kC712_0] 30000 (none) = true := by decide +kernel
theorem ks712_0 : aseg kS krf kB [kE542, kE543] (ksp []) kE712 [kC712_0] 30000 (some kC712_0) = true := by decide +kernel
theorem kok712 : aOK kS krf kB kE712 := aOK_of (kal1 kok542 (kal1 kok543 kal0)) (kcl1 ks712_0 kcl0) ks712
/-- ColdShod$StrokePlan.addNext(LColdShod$Idea;I)V -/
def kE713 : aE := (83, 3, ([(.ofNat 0, .ofNat 3), (.ofNat 292, .ofNat 341)], [(57, 291, .inl (0, .ofNat 0)), (52, 6, .inl (1, .ofNat 0))], 0, [some (.inr [52]), some (.inr [20, 21, 22, 23, 24, 25, 26, 27]), some (.inl (.inl (.inr (.ofNat 291)))), none, none], []), ([], none), ([], [], none, ([], [])), ([(52, 6), (58, 0), (58, 1), (58, 2), (58, 3), (58, 4), (58, 5), (58, 6)], [54, 55, 56, 57]))
def kC713_0 : aC := (([(.ofNat 0, .ofNat 3), (.ofNat 292, .ofNat 341), (.ofNat 0, .ofNat 4), (.ofNat 292, .ofNat 341)], [(57, 291, .inl (0, .ofNat 0)), (52, 6, .inl (3, .ofNat 0))], 2, [some (.inr [52]), some (.inr [20, 21, 22, 23, 24, 25, 26, 27]), some (.inl (.inl (.inr (.ofNat 291)))), some (.inl (.inl (.inl (2, .ofNat 0)))), none], []), ([], []), (4, [(-1, 2)]))
theorem ks713 : aseg kS krf kB [kE542, kE543] (ksp []) kE713 [kC713_0] 30000 (none) = true := by decide +kernel
theorem ks713_0 : aseg kS krf kB [kE542, kE543] (ksp []) kE713 [kC713_0] 30000 (some kC713_0) = true := by decide +kernel
theorem kok713 : aOK kS krf kB kE713 := aOK_of (kal1 kok542 (kal1 kok543 kal0)) (kcl1 ks713_0 kcl0) ks713
/-- ColdShod$StrokePlan.addNext(LColdShod$Idea;I)V -/
def kE714 : aE := (83, 3, ([(.ofNat 0, .ofNat 3), (.ofNat 291, .ofNat 341)], [(57, 290, .inl (0, .ofNat 0)), (52, 6, .inl (1, .ofNat 0))], 0, [some (.inr [52]), some (.inr [20, 21, 22, 23, 24, 25, 26, 27]), some (.inl (.inl (.inr (.ofNat 290)))), none, none], []), ([], none), ([], [], none, ([], [])), ([(52, 6), (58, 0), (58, 1), (58, 2), (58, 3), (58, 4), (58, 5), (58, 6)], [54, 55, 56, 57]))
def kC714_0 : aC := (([(.ofNat 0, .ofNat 3), (.ofNat 291, .ofNat 341), (.ofNat 0, .ofNat 4), (.ofNat 291, .ofNat 341)], [(57, 290, .inl (0, .ofNat 0)), (52, 6, .inl (3, .ofNat 0))], 2, [some (.inr [52]), some (.inr [20, 21, 22, 23, 24, 25, 26, 27]), some (.inl (.inl (.inr (.ofNat 290)))), some (.inl (.inl (.inl (2, .ofNat 0)))), none], []), ([], []), (4, [(-1, 2)]))
theorem ks714 : aseg kS krf kB [kE542, kE543] (ksp []) kE714 [kC714_0] 30000 (none) = true := by decide +kernel
theorem ks714_0 : aseg kS krf kB [kE542, kE543] (ksp []) kE714 [kC714_0] 30000 (some kC714_0) = true := by decide +kernel
theorem kok714 : aOK kS krf kB kE714 := aOK_of (kal1 kok542 (kal1 kok543 kal0)) (kcl1 ks714_0 kcl0) ks714
/-- ColdShod$StrokePlan.addNext(LColdShod$Idea;I)V -/
def kE715 : aE := (83, 3, ([(.ofNat 0, .ofNat 3), (.ofNat 290, .ofNat 341)], [(57, 289, .inl (0, .ofNat 0)), (52, 6, .inl (1, .ofNat 0))], 0, [some (.inr [52]), some (.inr [20, 21, 22, 23, 24, 25, 26, 27]), some (.inl (.inl (.inr (.ofNat 289)))), none, none], []), ([], none), ([], [], none, ([], [])), ([(52, 6), (58, 0), (58, 1), (58, 2), (58, 3), (58, 4), (58, 5), (58, 6)], [54, 55, 56, 57]))
def kC715_0 : aC := (([(.ofNat 0, .ofNat 3), (.ofNat 290, .ofNat 341), (.ofNat 0, .ofNat 4), (.ofNat 290, .ofNat 341)], [(57, 289, .inl (0, .ofNat 0)), (52, 6, .inl (3, .ofNat 0))], 2, [some (.inr [52]), some (.inr [20, 21, 22, 23, 24, 25, 26, 27]), some (.inl (.inl (.inr (.ofNat 289)))), some (.inl (.inl (.inl (2, .ofNat 0)))), none], []), ([], []), (4, [(-1, 2)]))
theorem ks715 : aseg kS krf kB [kE542, kE543] (ksp []) kE715 [kC715_0] 30000 (none) = true := by decide +kernel
theorem ks715_0 : aseg kS krf kB [kE542, kE543] (ksp []) kE715 [kC715_0] 30000 (some kC715_0) = true := by decide +kernel
theorem kok715 : aOK kS krf kB kE715 := aOK_of (kal1 kok542 (kal1 kok543 kal0)) (kcl1 ks715_0 kcl0) ks715
/-- ColdShod$StrokePlan.addNext(LColdShod$Idea;I)V -/
def kE716 : aE := (83, 3, ([(.ofNat 0, .ofNat 3), (.ofNat 289, .ofNat 341)], [(57, 288, .inl (0, .ofNat 0)), (52, 6, .inl (1, .ofNat 0))], 0, [some (.inr [52]), some (.inr [20, 21, 22, 23, 24, 25, 26, 27]), some (.inl (.inl (.inr (.ofNat 288)))), none, none], []), ([], none), ([], [], none, ([], [])), ([(52, 6), (58, 0), (58, 1), (58, 2), (58, 3), (58, 4), (58, 5), (58, 6)], [54, 55, 56, 57]))
def kC716_0 : aC := (([(.ofNat 0, .ofNat 3), (.ofNat 289, .ofNat 341), (.ofNat 0, .ofNat 4), (.ofNat 289, .ofNat 341)], [(57, 288, .inl (0, .ofNat 0)), (52, 6, .inl (3, .ofNat 0))], 2, [some (.inr [52]), some (.inr [20, 21, 22, 23, 24, 25, 26, 27]), some (.inl (.inl (.inr (.ofNat 288)))), some (.inl (.inl (.inl (2, .ofNat 0)))), none], []), ([], []), (4, [(-1, 2)]))
theorem ks716 : aseg kS krf kB [kE542, kE543] (ksp []) kE716 [kC716_0] 30000 (none) = true := by decide +kernel
theorem ks716_0 : aseg kS krf kB [kE542, kE543] (ksp []) kE716 [kC716_0] 30000 (some kC716_0) = true := by decide +kernel
theorem kok716 : aOK kS krf kB kE716 := aOK_of (kal1 kok542 (kal1 kok543 kal0)) (kcl1 ks716_0 kcl0) ks716
/-- ColdShod$StrokePlan.addNext(LColdShod$Idea;I)V -/
def kE717 : aE := (83, 3, ([(.ofNat 0, .ofNat 3), (.ofNat 288, .ofNat 341)], [(57, 287, .inl (0, .ofNat 0)), (52, 6, .inl (1, .ofNat 0))], 0, [some (.inr [52]), some (.inr [20, 21, 22, 23, 24, 25, 26, 27]), some (.inl (.inl (.inr (.ofNat 287)))), none, none], []), ([], none), ([], [], none, ([], [])), ([(52, 6), (58, 0), (58, 1), (58, 2), (58, 3), (58, 4), (58, 5), (58, 6)], [54, 55, 56, 57]))
def kC717_0 : aC := (([(.ofNat 0, .ofNat 3), (.ofNat 288, .ofNat 341), (.ofNat 0, .ofNat 4), (.ofNat 288, .ofNat 341)], [(57, 287, .inl (0, .ofNat 0)), (52, 6, .inl (3, .ofNat 0))], 2, [some (.inr [52]), some (.inr [20, 21, 22, 23, 24, 25, 26, 27]), some (.inl (.inl (.inr (.ofNat 287)))), some (.inl (.inl (.inl (2, .ofNat 0)))), none], []), ([], []), (4, [(-1, 2)]))
theorem ks717 : aseg kS krf kB [kE542, kE543] (ksp []) kE717 [kC717_0] 30000 (none) = true := by decide +kernel
theorem ks717_0 : aseg kS krf kB [kE542, kE543] (ksp []) kE717 [kC717_0] 30000 (some kC717_0) = true := by decide +kernel
theorem kok717 : aOK kS krf kB kE717 := aOK_of (kal1 kok542 (kal1 kok543 kal0)) (kcl1 ks717_0 kcl0) ks717
/-- ColdShod$StrokePlan.addNext(LColdShod$Idea;I)V -/
def kE718 : aE := (83, 3, ([(.ofNat 0, .ofNat 3), (.ofNat 287, .ofNat 341)], [(57, 286, .inl (0, .ofNat 0)), (52, 6, .inl (1, .ofNat 0))], 0, [some (.inr [52]), some (.inr [20, 21, 22, 23, 24, 25, 26, 27]), some (.inl (.inl (.inr (.ofNat 286)))), none, none], []), ([], none), ([], [], none, ([], [])), ([(52, 6), (58, 0), (58, 1), (58, 2), (58, 3), (58, 4), (58, 5), (58, 6)], [54, 55, 56, 57]))
def kC718_0 : aC := (([(.ofNat 0, .ofNat 3), (.ofNat 287, .ofNat 341), (.ofNat 0, .ofNat 4), (.ofNat 287, .ofNat 341)], [(57, 286, .inl (0, .ofNat 0)), (52, 6, .inl (3, .ofNat 0))], 2, [some (.inr [52]), some (.inr [20, 21, 22, 23, 24, 25, 26, 27]), some (.inl (.inl (.inr (.ofNat 286)))), some (.inl (.inl (.inl (2, .ofNat 0)))), none], []), ([], []), (4, [(-1, 2)]))
theorem ks718 : aseg kS krf kB [kE542, kE543] (ksp []) kE718 [kC718_0] 30000 (none) = true := by decide +kernel
theorem ks718_0 : aseg kS krf kB [kE542, kE543] (ksp []) kE718 [kC718_0] 30000 (some kC718_0) = true := by decide +kernel
theorem kok718 : aOK kS krf kB kE718 := aOK_of (kal1 kok542 (kal1 kok543 kal0)) (kcl1 ks718_0 kcl0) ks718
/-- ColdShod$StrokePlan.addNext(LColdShod$Idea;I)V -/
def kE719 : aE := (83, 3, ([(.ofNat 0, .ofNat 3), (.ofNat 286, .ofNat 341)], [(57, 285, .inl (0, .ofNat 0)), (52, 6, .inl (1, .ofNat 0))], 0, [some (.inr [52]), some (.inr [20, 21, 22, 23, 24, 25, 26, 27]), some (.inl (.inl (.inr (.ofNat 285)))), none, none], []), ([], none), ([], [], none, ([], [])), ([(52, 6), (58, 0), (58, 1), (58, 2), (58, 3), (58, 4), (58, 5), (58, 6)], [54, 55, 56, 57]))
def kC719_0 : aC := (([(.ofNat 0, .ofNat 3), (.ofNat 286, .ofNat 341), (.ofNat 0, .ofNat 4), (.ofNat 286, .ofNat 341)], [(57, 285, .inl (0, .ofNat 0)), (52, 6, .inl (3, .ofNat 0))], 2, [some (.inr [52]), some (.inr [20, 21, 22, 23, 24, 25, 26, 27]), some (.inl (.inl (.inr (.ofNat 285)))), some (.inl (.inl (.inl (2, .ofNat 0)))), none], []), ([], []), (4, [(-1, 2)]))
theorem ks719 : aseg kS krf kB [kE542, kE543] (ksp []) kE719 [kC719_0] 30000 (none) = true := by decide +kernel
theorem ks719_0 : aseg kS krf kB [kE542, kE543] (ksp []) kE719 [kC719_0] 30000 (some kC719_0) = true := by decide +kernel
theorem kok719 : aOK kS krf kB kE719 := aOK_of (kal1 kok542 (kal1 kok543 kal0)) (kcl1 ks719_0 kcl0) ks719
/-- ColdShod$StrokePlan.addNext(LColdShod$Idea;I)V -/
def kE720 : aE := (83, 3, ([(.ofNat 0, .ofNat 3), (.ofNat 285, .ofNat 341)], [(57, 284, .inl (0, .ofNat 0)), (52, 6, .inl (1, .ofNat 0))], 0, [some (.inr [52]), some (.inr [20, 21, 22, 23, 24, 25, 26, 27]), some (.inl (.inl (.inr (.ofNat 284)))), none, none], []), ([], none), ([], [], none, ([], [])), ([(52, 6), (58, 0), (58, 1), (58, 2), (58, 3), (58, 4), (58, 5), (58, 6)], [54, 55, 56, 57]))
def kC720_0 : aC := (([(.ofNat 0, .ofNat 3), (.ofNat 285, .ofNat 341), (.ofNat 0, .ofNat 4), (.ofNat 285, .ofNat 341)], [(57, 284, .inl (0, .ofNat 0)), (52, 6, .inl (3, .ofNat 0))], 2, [some (.inr [52]), some (.inr [20, 21, 22, 23, 24, 25, 26, 27]), some (.inl (.inl (.inr (.ofNat 284)))), some (.inl (.inl (.inl (2, .ofNat 0)))), none], []), ([], []), (4, [(-1, 2)]))
theorem ks720 : aseg kS krf kB [kE542, kE543] (ksp []) kE720 [kC720_0] 30000 (none) = true := by decide +kernel
theorem ks720_0 : aseg kS krf kB [kE542, kE543] (ksp []) kE720 [kC720_0] 30000 (some kC720_0) = true := by decide +kernel
theorem kok720 : aOK kS krf kB kE720 := aOK_of (kal1 kok542 (kal1 kok543 kal0)) (kcl1 ks720_0 kcl0) ks720
/-- ColdShod$StrokePlan.addNext(LColdShod$Idea;I)V -/
def kE721 : aE := (83, 3, ([(.ofNat 0, .ofNat 3), (.ofNat 284, .ofNat 341)], [(57, 283, .inl (0, .ofNat 0)), (52, 6, .inl (1, .ofNat 0))], 0, [some (.inr [52]), some (.inr [20, 21, 22, 23, 24, 25, 26, 27]), some (.inl (.inl (.inr (.ofNat 283)))), none, none], []), ([], none), ([], [], none, ([], [])), ([(52, 6), (58, 0), (58, 1), (58, 2), (58, 3), (58, 4), (58, 5), (58, 6)], [54, 55, 56, 57]))
def kC721_0 : aC := (([(.ofNat 0, .ofNat 3), (.ofNat 284, .ofNat 341), (.ofNat 0, .ofNat 4), (.ofNat 284, .ofNat 341)], [(57, 283, .inl (0, .ofNat 0)), (52, 6, .inl (3, .ofNat 0))], 2, [some (.inr [52]), some (.inr [20, 21, 22, 23, 24, 25, 26, 27]), some (.inl (.inl (.inr (.ofNat 283)))), some (.inl (.inl (.inl (2, .ofNat 0)))), none], []), ([], []), (4, [(-1, 2)]))
theorem ks721 : aseg kS krf kB [kE542, kE543] (ksp []) kE721 [kC721_0] 30000 (none) = true := by decide +kernel
theorem ks721_0 : aseg kS krf kB [kE542, kE543] (ksp []) kE721 [kC721_0] 30000 (some kC721_0) = true := by decide +kernel
theorem kok721 : aOK kS krf kB kE721 := aOK_of (kal1 kok542 (kal1 kok543 kal0)) (kcl1 ks721_0 kcl0) ks721
/-- ColdShod$StrokePlan.addNext(LColdShod$Idea;I)V -/
def kE722 : aE := (83, 3, ([(.ofNat 0, .ofNat 3), (.ofNat 283, .ofNat 341)], [(57, 282, .inl (0, .ofNat 0)), (52, 6, .inl (1, .ofNat 0))], 0, [some (.inr [52]), some (.inr [20, 21, 22, 23, 24, 25, 26, 27]), some (.inl (.inl (.inr (.ofNat 282)))), none, none], []), ([], none), ([], [], none, ([], [])), ([(52, 6), (58, 0), (58, 1), (58, 2), (58, 3), (58, 4), (58, 5), (58, 6)], [54, 55, 56, 57]))
def kC722_0 : aC := (([(.ofNat 0, .ofNat 3), (.ofNat 283, .ofNat 341), (.ofNat 0, .ofNat 4), (.ofNat 283, .ofNat 341)], [(57, 282, .inl (0, .ofNat 0)), (52, 6, .inl (3, .ofNat 0))], 2, [some (.inr [52]), some (.inr [20, 21, 22, 23, 24, 25, 26, 27]), some (.inl (.inl (.inr (.ofNat 282)))), some (.inl (.inl (.inl (2, .ofNat 0)))), none], []), ([], []), (4, [(-1, 2)]))
theorem ks722 : aseg kS krf kB [kE542, kE543] (ksp []) kE722 [kC722_0] 30000 (none) = true := by decide +kernel
theorem ks722_0 : aseg kS krf kB [kE542, kE543] (ksp []) kE722 [kC722_0] 30000 (some kC722_0) = true := by decide +kernel
theorem kok722 : aOK kS krf kB kE722 := aOK_of (kal1 kok542 (kal1 kok543 kal0)) (kcl1 ks722_0 kcl0) ks722
/-- ColdShod$StrokePlan.addNext(LColdShod$Idea;I)V -/
def kE723 : aE := (83, 3, ([(.ofNat 0, .ofNat 3), (.ofNat 282, .ofNat 341)], [(57, 281, .inl (0, .ofNat 0)), (52, 6, .inl (1, .ofNat 0))], 0, [some (.inr [52]), some (.inr [20, 21, 22, 23, 24, 25, 26, 27]), some (.inl (.inl (.inr (.ofNat 281)))), none, none], []), ([], none), ([], [], none, ([], [])), ([(52, 6), (58, 0), (58, 1), (58, 2), (58, 3), (58, 4), (58, 5), (58, 6)], [54, 55, 56, 57]))
def kC723_0 : aC := (([(.ofNat 0, .ofNat 3), (.ofNat 282, .ofNat 341), (.ofNat 0, .ofNat 4), (.ofNat 282, .ofNat 341)], [(57, 281, .inl (0, .ofNat 0)), (52, 6, .inl (3, .ofNat 0))], 2, [some (.inr [52]), some (.inr [20, 21, 22, 23, 24, 25, 26, 27]), some (.inl (.inl (.inr (.ofNat 281)))), some (.inl (.inl (.inl (2, .ofNat 0)))), none], []), ([], []), (4, [(-1, 2)]))
theorem ks723 : aseg kS krf kB [kE542, kE543] (ksp []) kE723 [kC723_0] 30000 (none) = true := by decide +kernel
theorem ks723_0 : aseg kS krf kB [kE542, kE543] (ksp []) kE723 [kC723_0] 30000 (some kC723_0) = true := by decide +kernel
theorem kok723 : aOK kS krf kB kE723 := aOK_of (kal1 kok542 (kal1 kok543 kal0)) (kcl1 ks723_0 kcl0) ks723
/-- ColdShod$StrokePlan.addNext(LColdShod$Idea;I)V -/
def kE724 : aE := (83, 3, ([(.ofNat 0, .ofNat 3), (.ofNat 281, .ofNat 341)], [(57, 280, .inl (0, .ofNat 0)), (52, 6, .inl (1, .ofNat 0))], 0, [some (.inr [52]), some (.inr [20, 21, 22, 23, 24, 25, 26, 27]), some (.inl (.inl (.inr (.ofNat 280)))), none, none], []), ([], none), ([], [], none, ([], [])), ([(52, 6), (58, 0), (58, 1), (58, 2), (58, 3), (58, 4), (58, 5), (58, 6)], [54, 55, 56, 57]))
def kC724_0 : aC := (([(.ofNat 0, .ofNat 3), (.ofNat 281, .ofNat 341), (.ofNat 0, .ofNat 4), (.ofNat 281, .ofNat 341)], [(57, 280, .inl (0, .ofNat 0)), (52, 6, .inl (3, .ofNat 0))], 2, [some (.inr [52]), some (.inr [20, 21, 22, 23, 24, 25, 26, 27]), some (.inl (.inl (.inr (.ofNat 280)))), some (.inl (.inl (.inl (2, .ofNat 0)))), none], []), ([], []), (4, [(-1, 2)]))
theorem ks724 : aseg kS krf kB [kE542, kE543] (ksp []) kE724 [kC724_0] 30000 (none) = true := by decide +kernel
theorem ks724_0 : aseg kS krf kB [kE542, kE543] (ksp []) kE724 [kC724_0] 30000 (some kC724_0) = true := by decide +kernel
theorem kok724 : aOK kS krf kB kE724 := aOK_of (kal1 kok542 (kal1 kok543 kal0)) (kcl1 ks724_0 kcl0) ks724
/-- ColdShod$StrokePlan.addNext(LColdShod$Idea;I)V -/
def kE725 : aE := (83, 3, ([(.ofNat 0, .ofNat 3), (.ofNat 280, .ofNat 341)], [(57, 279, .inl (0, .ofNat 0)), (52, 6, .inl (1, .ofNat 0))], 0, [some (.inr [52]), some (.inr [20, 21, 22, 23, 24, 25, 26, 27]), some (.inl (.inl (.inr (.ofNat 279)))), none, none], []), ([], none), ([], [], none, ([], [])), ([(52, 6), (58, 0), (58, 1), (58, 2), (58, 3), (58, 4), (58, 5), (58, 6)], [54, 55, 56, 57]))
def kC725_0 : aC := (([(.ofNat 0, .ofNat 3), (.ofNat 280, .ofNat 341), (.ofNat 0, .ofNat 4), (.ofNat 280, .ofNat 341)], [(57, 279, .inl (0, .ofNat 0)), (52, 6, .inl (3, .ofNat 0))], 2, [some (.inr [52]), some (.inr [20, 21, 22, 23, 24, 25, 26, 27]), some (.inl (.inl (.inr (.ofNat 279)))), some (.inl (.inl (.inl (2, .ofNat 0)))), none], []), ([], []), (4, [(-1, 2)]))
theorem ks725 : aseg kS krf kB [kE542, kE543] (ksp []) kE725 [kC725_0] 30000 (none) = true := by decide +kernel
theorem ks725_0 : aseg kS krf kB [kE542, kE543] (ksp []) kE725 [kC725_0] 30000 (some kC725_0) = true := by decide +kernel
theorem kok725 : aOK kS krf kB kE725 := aOK_of (kal1 kok542 (kal1 kok543 kal0)) (kcl1 ks725_0 kcl0) ks725
/-- ColdShod$StrokePlan.addNext(LColdShod$Idea;I)V -/
def kE726 : aE := (83, 3, ([(.ofNat 0, .ofNat 3), (.ofNat 279, .ofNat 341)], [(57, 278, .inl (0, .ofNat 0)), (52, 6, .inl (1, .ofNat 0))], 0, [some (.inr [52]), some (.inr [20, 21, 22, 23, 24, 25, 26, 27]), some (.inl (.inl (.inr (.ofNat 278)))), none, none], []), ([], none), ([], [], none, ([], [])), ([(52, 6), (58, 0), (58, 1), (58, 2), (58, 3), (58, 4), (58, 5), (58, 6)], [54, 55, 56, 57]))
def kC726_0 : aC := (([(.ofNat 0, .ofNat 3), (.ofNat 279, .ofNat 341), (.ofNat 0, .ofNat 4), (.ofNat 279, .ofNat 341)], [(57, 278, .inl (0, .ofNat 0)), (52, 6, .inl (3, .ofNat 0))], 2, [some (.inr [52]), some (.inr [20, 21, 22, 23, 24, 25, 26, 27]), some (.inl (.inl (.inr (.ofNat 278)))), some (.inl (.inl (.inl (2, .ofNat 0)))), none], []), ([], []), (4, [(-1, 2)]))
theorem ks726 : aseg kS krf kB [kE542, kE543] (ksp []) kE726 [kC726_0] 30000 (none) = true := by decide +kernel
theorem ks726_0 : aseg kS krf kB [kE542, kE543] (ksp []) kE726 [kC726_0] 30000 (some kC726_0) = true := by decide +kernel
theorem kok726 : aOK kS krf kB kE726 := aOK_of (kal1 kok542 (kal1 kok543 kal0)) (kcl1 ks726_0 kcl0) ks726
/-- ColdShod$StrokePlan.addNext(LColdShod$Idea;I)V -/
def kE727 : aE := (83, 3, ([(.ofNat 0, .ofNat 3), (.ofNat 278, .ofNat 341)], [(57, 277, .inl (0, .ofNat 0)), (52, 6, .inl (1, .ofNat 0))], 0, [some (.inr [52]), some (.inr [20, 21, 22, 23, 24, 25, 26, 27]), some (.inl (.inl (.inr (.ofNat 277)))), none, none], []), ([], none), ([], [], none, ([], [])), ([(52, 6), (58, 0), (58, 1), (58, 2), (58, 3), (58, 4), (58, 5), (58, 6)], [54, 55, 56, 57]))
def kC727_0 : aC := (([(.ofNat 0, .ofNat 3), (.ofNat 278, .ofNat 341), (.ofNat 0, .ofNat 4), (.ofNat 278, .ofNat 341)], [(57, 277, .inl (0, .ofNat 0)), (52, 6, .inl (3, .ofNat 0))], 2, [some (.inr [52]), some (.inr [20, 21, 22, 23, 24, 25, 26, 27]), some (.inl (.inl (.inr (.ofNat 277)))), some (.inl (.inl (.inl (2, .ofNat 0)))), none], []), ([], []), (4, [(-1, 2)]))
theorem ks727 : aseg kS krf kB [kE542, kE543] (ksp []) kE727 [kC727_0] 30000 (none) = true := by decide +kernel
theorem ks727_0 : aseg kS krf kB [kE542, kE543] (ksp []) kE727 [kC727_0] 30000 (some kC727_0) = true := by decide +kernel
theorem kok727 : aOK kS krf kB kE727 := aOK_of (kal1 kok542 (kal1 kok543 kal0)) (kcl1 ks727_0 kcl0) ks727
/-- ColdShod$StrokePlan.addNext(LColdShod$Idea;I)V -/
def kE728 : aE := (83, 3, ([(.ofNat 0, .ofNat 3), (.ofNat 277, .ofNat 341)], [(57, 276, .inl (0, .ofNat 0)), (52, 6, .inl (1, .ofNat 0))], 0, [some (.inr [52]), some (.inr [20, 21, 22, 23, 24, 25, 26, 27]), some (.inl (.inl (.inr (.ofNat 276)))), none, none], []), ([], none), ([], [], none, ([], [])), ([(52, 6), (58, 0), (58, 1), (58, 2), (58, 3), (58, 4), (58, 5), (58, 6)], [54, 55, 56, 57]))
def kC728_0 : aC := (([(.ofNat 0, .ofNat 3), (.ofNat 277, .ofNat 341), (.ofNat 0, .ofNat 4), (.ofNat 277, .ofNat 341)], [(57, 276, .inl (0, .ofNat 0)), (52, 6, .inl (3, .ofNat 0))], 2, [some (.inr [52]), some (.inr [20, 21, 22, 23, 24, 25, 26, 27]), some (.inl (.inl (.inr (.ofNat 276)))), some (.inl (.inl (.inl (2, .ofNat 0)))), none], []), ([], []), (4, [(-1, 2)]))
theorem ks728 : aseg kS krf kB [kE542, kE543] (ksp []) kE728 [kC728_0] 30000 (none) = true := by decide +kernel
theorem ks728_0 : aseg kS krf kB [kE542, kE543] (ksp []) kE728 [kC728_0] 30000 (some kC728_0) = true := by decide +kernel
theorem kok728 : aOK kS krf kB kE728 := aOK_of (kal1 kok542 (kal1 kok543 kal0)) (kcl1 ks728_0 kcl0) ks728
/-- ColdShod$StrokePlan.addNext(LColdShod$Idea;I)V -/
def kE729 : aE := (83, 3, ([(.ofNat 0, .ofNat 3), (.ofNat 276, .ofNat 341)], [(57, 275, .inl (0, .ofNat 0)), (52, 6, .inl (1, .ofNat 0))], 0, [some (.inr [52]), some (.inr [20, 21, 22, 23, 24, 25, 26, 27]), some (.inl (.inl (.inr (.ofNat 275)))), none, none], []), ([], none), ([], [], none, ([], [])), ([(52, 6), (58, 0), (58, 1), (58, 2), (58, 3), (58, 4), (58, 5), (58, 6)], [54, 55, 56, 57]))
def kC729_0 : aC := (([(.ofNat 0, .ofNat 3), (.ofNat 276, .ofNat 341), (.ofNat 0, .ofNat 4), (.ofNat 276, .ofNat 341)], [(57, 275, .inl (0, .ofNat 0)), (52, 6, .inl (3, .ofNat 0))], 2, [some (.inr [52]), some (.inr [20, 21, 22, 23, 24, 25, 26, 27]), some (.inl (.inl (.inr (.ofNat 275)))), some (.inl (.inl (.inl (2, .ofNat 0)))), none], []), ([], []), (4, [(-1, 2)]))
theorem ks729 : aseg kS krf kB [kE542, kE543] (ksp []) kE729 [kC729_0] 30000 (none) = true := by decide +kernel
theorem ks729_0 : aseg kS krf kB [kE542, kE543] (ksp []) kE729 [kC729_0] 30000 (some kC729_0) = true := by decide +kernel
theorem kok729 : aOK kS krf kB kE729 := aOK_of (kal1 kok542 (kal1 kok543 kal0)) (kcl1 ks729_0 kcl0) ks729
/-- ColdShod$StrokePlan.addNext(LColdShod$Idea;I)V -/
def kE730 : aE := (83, 3, ([(.ofNat 0, .ofNat 3), (.ofNat 275, .ofNat 341)], [(57, 274, .inl (0, .ofNat 0)), (52, 6, .inl (1, .ofNat 0))], 0, [some (.inr [52]), some (.inr [20, 21, 22, 23, 24, 25, 26, 27]), some (.inl (.inl (.inr (.ofNat 274)))), none, none], []), ([], none), ([], [], none, ([], [])), ([(52, 6), (58, 0), (58, 1), (58, 2), (58, 3), (58, 4), (58, 5), (58, 6)], [54, 55, 56, 57]))
def kC730_0 : aC := (([(.ofNat 0, .ofNat 3), (.ofNat 275, .ofNat 341), (.ofNat 0, .ofNat 4), (.ofNat 275, .ofNat 341)], [(57, 274, .inl (0, .ofNat 0)), (52, 6, .inl (3, .ofNat 0))], 2, [some (.inr [52]), some (.inr [20, 21, 22, 23, 24, 25, 26, 27]), some (.inl (.inl (.inr (.ofNat 274)))), some (.inl (.inl (.inl (2, .ofNat 0)))), none], []), ([], []), (4, [(-1, 2)]))
theorem ks730 : aseg kS krf kB [kE542, kE543] (ksp []) kE730 [kC730_0] 30000 (none) = true := by decide +kernel
theorem ks730_0 : aseg kS krf kB [kE542, kE543] (ksp []) kE730 [kC730_0] 30000 (some kC730_0) = true := by decide +kernel
theorem kok730 : aOK kS krf kB kE730 := aOK_of (kal1 kok542 (kal1 kok543 kal0)) (kcl1 ks730_0 kcl0) ks730
/-- ColdShod$StrokePlan.addNext(LColdShod$Idea;I)V -/
def kE731 : aE := (83, 3, ([(.ofNat 0, .ofNat 3), (.ofNat 274, .ofNat 341)], [(57, 273, .inl (0, .ofNat 0)), (52, 6, .inl (1, .ofNat 0))], 0, [some (.inr [52]), some (.inr [20, 21, 22, 23, 24, 25, 26, 27]), some (.inl (.inl (.inr (.ofNat 273)))), none, none], []), ([], none), ([], [], none, ([], [])), ([(52, 6), (58, 0), (58, 1), (58, 2), (58, 3), (58, 4), (58, 5), (58, 6)], [54, 55, 56, 57]))
def kC731_0 : aC := (([(.ofNat 0, .ofNat 3), (.ofNat 274, .ofNat 341), (.ofNat 0, .ofNat 4), (.ofNat 274, .ofNat 341)], [(57, 273, .inl (0, .ofNat 0)), (52, 6, .inl (3, .ofNat 0))], 2, [some (.inr [52]), some (.inr [20, 21, 22, 23, 24, 25, 26, 27]), some (.inl (.inl (.inr (.ofNat 273)))), some (.inl (.inl (.inl (2, .ofNat 0)))), none], []), ([], []), (4, [(-1, 2)]))
theorem ks731 : aseg kS krf kB [kE542, kE543] (ksp []) kE731 [kC731_0] 30000 (none) = true := by decide +kernel
theorem ks731_0 : aseg kS krf kB [kE542, kE543] (ksp []) kE731 [kC731_0] 30000 (some kC731_0) = true := by decide +kernel
theorem kok731 : aOK kS krf kB kE731 := aOK_of (kal1 kok542 (kal1 kok543 kal0)) (kcl1 ks731_0 kcl0) ks731
/-- ColdShod$StrokePlan.addNext(LColdShod$Idea;I)V -/
def kE732 : aE := (83, 3, ([(.ofNat 0, .ofNat 3), (.ofNat 273, .ofNat 341)], [(57, 272, .inl (0, .ofNat 0)), (52, 6, .inl (1, .ofNat 0))], 0, [some (.inr [52]), some (.inr [20, 21, 22, 23, 24, 25, 26, 27]), some (.inl (.inl (.inr (.ofNat 272)))), none, none], []), ([], none), ([], [], none, ([], [])), ([(52, 6), (58, 0), (58, 1), (58, 2), (58, 3), (58, 4), (58, 5), (58, 6)], [54, 55, 56, 57]))
def kC732_0 : aC := (([(.ofNat 0, .ofNat 3), (.ofNat 273, .ofNat 341), (.ofNat 0, .ofNat 4), (.ofNat 273, .ofNat 341)], [(57, 272, .inl (0, .ofNat 0)), (52, 6, .inl (3, .ofNat 0))], 2, [some (.inr [52]), some (.inr [20, 21, 22, 23, 24, 25, 26, 27]), some (.inl (.inl (.inr (.ofNat 272)))), some (.inl (.inl (.inl (2, .ofNat 0)))), none], []), ([], []), (4, [(-1, 2)]))
theorem ks732 : aseg kS krf kB [kE542, kE543] (ksp []) kE732 [kC732_0] 30000 (none) = true := by decide +kernel
theorem ks732_0 : aseg kS krf kB [kE542, kE543] (ksp []) kE732 [kC732_0] 30000 (some kC732_0) = true := by decide +kernel
theorem kok732 : aOK kS krf kB kE732 := aOK_of (kal1 kok542 (kal1 kok543 kal0)) (kcl1 ks732_0 kcl0) ks732
/-- ColdShod$StrokePlan.addNext(LColdShod$Idea;I)V -/
def kE733 : aE := (83, 3, ([(.ofNat 0, .ofNat 3), (.ofNat 272, .ofNat 341)], [(57, 271, .inl (0, .ofNat 0)), (52, 6, .inl (1, .ofNat 0))], 0, [some (.inr [52]), some (.inr [20, 21, 22, 23, 24, 25, 26, 27]), some (.inl (.inl (.inr (.ofNat 271)))), none, none], []), ([], none), ([], [], none, ([], [])), ([(52, 6), (58, 0), (58, 1), (58, 2), (58, 3), (58, 4), (58, 5), (58, 6)], [54, 55, 56, 57]))
def kC733_0 : aC := (([(.ofNat 0, .ofNat 3), (.ofNat 272, .ofNat 341), (.ofNat 0, .ofNat 4), (.ofNat 272, .ofNat 341)], [(57, 271, .inl (0, .ofNat 0)), (52, 6, .inl (3, .ofNat 0))], 2, [some (.inr [52]), some (.inr [20, 21, 22, 23, 24, 25, 26, 27]), some (.inl (.inl (.inr (.ofNat 271)))), some (.inl (.inl (.inl (2, .ofNat 0)))), none], []), ([], []), (4, [(-1, 2)]))
theorem ks733 : aseg kS krf kB [kE542, kE543] (ksp []) kE733 [kC733_0] 30000 (none) = true := by decide +kernel
theorem ks733_0 : aseg kS krf kB [kE542, kE543] (ksp []) kE733 [kC733_0] 30000 (some kC733_0) = true := by decide +kernel
theorem kok733 : aOK kS krf kB kE733 := aOK_of (kal1 kok542 (kal1 kok543 kal0)) (kcl1 ks733_0 kcl0) ks733
/-- ColdShod$StrokePlan.addNext(LColdShod$Idea;I)V -/
def kE734 : aE := (83, 3, ([(.ofNat 0, .ofNat 3), (.ofNat 271, .ofNat 341)], [(57, 270, .inl (0, .ofNat 0)), (52, 6, .inl (1, .ofNat 0))], 0, [some (.inr [52]), some (.inr [20, 21, 22, 23, 24, 25, 26, 27]), some (.inl (.inl (.inr (.ofNat 270)))), none, none], []), ([], none), ([], [], none, ([], [])), ([(52, 6), (58, 0), (58, 1), (58, 2), (58, 3), (58, 4), (58, 5), (58, 6)], [54, 55, 56, 57]))
def kC734_0 : aC := (([(.ofNat 0, .ofNat 3), (.ofNat 271, .ofNat 341), (.ofNat 0, .ofNat 4), (.ofNat 271, .ofNat 341)], [(57, 270, .inl (0, .ofNat 0)), (52, 6, .inl (3, .ofNat 0))], 2, [some (.inr [52]), some (.inr [20, 21, 22, 23, 24, 25, 26, 27]), some (.inl (.inl (.inr (.ofNat 270)))), some (.inl (.inl (.inl (2, .ofNat 0)))), none], []), ([], []), (4, [(-1, 2)]))
theorem ks734 : aseg kS krf kB [kE542, kE543] (ksp []) kE734 [kC734_0] 30000 (none) = true := by decide +kernel
theorem ks734_0 : aseg kS krf kB [kE542, kE543] (ksp []) kE734 [kC734_0] 30000 (some kC734_0) = true := by decide +kernel
theorem kok734 : aOK kS krf kB kE734 := aOK_of (kal1 kok542 (kal1 kok543 kal0)) (kcl1 ks734_0 kcl0) ks734
/-- ColdShod$StrokePlan.addNext(LColdShod$Idea;I)V -/
def kE735 : aE := (83, 3, ([(.ofNat 0, .ofNat 3), (.ofNat 270, .ofNat 341)], [(57, 269, .inl (0, .ofNat 0)), (52, 6, .inl (1, .ofNat 0))], 0, [some (.inr [52]), some (.inr [20, 21, 22, 23, 24, 25, 26, 27]), some (.inl (.inl (.inr (.ofNat 269)))), none, none], []), ([], none), ([], [], none, ([], [])), ([(52, 6), (58, 0), (58, 1), (58, 2), (58, 3), (58, 4), (58, 5), (58, 6)], [54, 55, 56, 57]))
def kC735_0 : aC := (([(.ofNat 0, .ofNat 3), (.ofNat 270, .ofNat 341), (.ofNat 0, .ofNat 4), (.ofNat 270, .ofNat 341)], [(57, 269, .inl (0, .ofNat 0)), (52, 6, .inl (3, .ofNat 0))], 2, [some (.inr [52]), some (.inr [20, 21, 22, 23, 24, 25, 26, 27]), some (.inl (.inl (.inr (.ofNat 269)))), some (.inl (.inl (.inl (2, .ofNat 0)))), none], []), ([], []), (4, [(-1, 2)]))
theorem ks735 : aseg kS krf kB [kE542, kE543] (ksp []) kE735 [kC735_0] 30000 (none) = true := by decide +kernel
theorem ks735_0 : aseg kS krf kB [kE542, kE543] (ksp []) kE735 [kC735_0] 30000 (some kC735_0) = true := by decide +kernel
theorem kok735 : aOK kS krf kB kE735 := aOK_of (kal1 kok542 (kal1 kok543 kal0)) (kcl1 ks735_0 kcl0) ks735
/-- ColdShod$StrokePlan.addNext(LColdShod$Idea;I)V -/
def kE736 : aE := (83, 3, ([(.ofNat 0, .ofNat 3), (.ofNat 269, .ofNat 341)], [(57, 268, .inl (0, .ofNat 0)), (52, 6, .inl (1, .ofNat 0))], 0, [some (.inr [52]), some (.inr [20, 21, 22, 23, 24, 25, 26, 27]), some (.inl (.inl (.inr (.ofNat 268)))), none, none], []), ([], none), ([], [], none, ([], [])), ([(52, 6), (58, 0), (58, 1), (58, 2), (58, 3), (58, 4), (58, 5), (58, 6)], [54, 55, 56, 57]))
def kC736_0 : aC := (([(.ofNat 0, .ofNat 3), (.ofNat 269, .ofNat 341), (.ofNat 0, .ofNat 4), (.ofNat 269, .ofNat 341)], [(57, 268, .inl (0, .ofNat 0)), (52, 6, .inl (3, .ofNat 0))], 2, [some (.inr [52]), some (.inr [20, 21, 22, 23, 24, 25, 26, 27]), some (.inl (.inl (.inr (.ofNat 268)))), some (.inl (.inl (.inl (2, .ofNat 0)))), none], []), ([], []), (4, [(-1, 2)]))
theorem ks736 : aseg kS krf kB [kE542, kE543] (ksp []) kE736 [kC736_0] 30000 (none) = true := by decide +kernel
theorem ks736_0 : aseg kS krf kB [kE542, kE543] (ksp []) kE736 [kC736_0] 30000 (some kC736_0) = true := by decide +kernel
theorem kok736 : aOK kS krf kB kE736 := aOK_of (kal1 kok542 (kal1 kok543 kal0)) (kcl1 ks736_0 kcl0) ks736
/-- ColdShod$StrokePlan.addNext(LColdShod$Idea;I)V -/
def kE737 : aE := (83, 3, ([(.ofNat 0, .ofNat 3), (.ofNat 268, .ofNat 341)], [(57, 267, .inl (0, .ofNat 0)), (52, 6, .inl (1, .ofNat 0))], 0, [some (.inr [52]), some (.inr [20, 21, 22, 23, 24, 25, 26, 27]), some (.inl (.inl (.inr (.ofNat 267)))), none, none], []), ([], none), ([], [], none, ([], [])), ([(52, 6), (58, 0), (58, 1), (58, 2), (58, 3), (58, 4), (58, 5), (58, 6)], [54, 55, 56, 57]))
def kC737_0 : aC := (([(.ofNat 0, .ofNat 3), (.ofNat 268, .ofNat 341), (.ofNat 0, .ofNat 4), (.ofNat 268, .ofNat 341)], [(57, 267, .inl (0, .ofNat 0)), (52, 6, .inl (3, .ofNat 0))], 2, [some (.inr [52]), some (.inr [20, 21, 22, 23, 24, 25, 26, 27]), some (.inl (.inl (.inr (.ofNat 267)))), some (.inl (.inl (.inl (2, .ofNat 0)))), none], []), ([], []), (4, [(-1, 2)]))
theorem ks737 : aseg kS krf kB [kE542, kE543] (ksp []) kE737 [kC737_0] 30000 (none) = true := by decide +kernel
theorem ks737_0 : aseg kS krf kB [kE542, kE543] (ksp []) kE737 [kC737_0] 30000 (some kC737_0) = true := by decide +kernel
theorem kok737 : aOK kS krf kB kE737 := aOK_of (kal1 kok542 (kal1 kok543 kal0)) (kcl1 ks737_0 kcl0) ks737
/-- ColdShod$StrokePlan.addNext(LColdShod$Idea;I)V -/
def kE738 : aE := (83, 3, ([(.ofNat 0, .ofNat 3), (.ofNat 267, .ofNat 341)], [(57, 266, .inl (0, .ofNat 0)), (52, 6, .inl (1, .ofNat 0))], 0, [some (.inr [52]), some (.inr [20, 21, 22, 23, 24, 25, 26, 27]), some (.inl (.inl (.inr (.ofNat 266)))), none, none], []), ([], none), ([], [], none, ([], [])), ([(52, 6), (58, 0), (58, 1), (58, 2), (58, 3), (58, 4), (58, 5), (58, 6)], [54, 55, 56, 57]))
def kC738_0 : aC := (([(.ofNat 0, .ofNat 3), (.ofNat 267, .ofNat 341), (.ofNat 0, .ofNat 4), (.ofNat 267, .ofNat 341)], [(57, 266, .inl (0, .ofNat 0)), (52, 6, .inl (3, .ofNat 0))], 2, [some (.inr [52]), some (.inr [20, 21, 22, 23, 24, 25, 26, 27]), some (.inl (.inl (.inr (.ofNat 266)))), some (.inl (.inl (.inl (2, .ofNat 0)))), none], []), ([], []), (4, [(-1, 2)]))
theorem ks738 : aseg kS krf kB [kE542, kE543] (ksp []) kE738 [kC738_0] 30000 (none) = true := by decide +kernel
theorem ks738_0 : aseg kS krf kB [kE542, kE543] (ksp []) kE738 [kC738_0] 30000 (some kC738_0) = true := by decide +kernel
theorem kok738 : aOK kS krf kB kE738 := aOK_of (kal1 kok542 (kal1 kok543 kal0)) (kcl1 ks738_0 kcl0) ks738
/-- ColdShod$StrokePlan.addNext(LColdShod$Idea;I)V -/
def kE739 : aE := (83, 3, ([(.ofNat 0, .ofNat 3), (.ofNat 266, .ofNat 341)], [(57, 265, .inl (0, .ofNat 0)), (52, 6, .inl (1, .ofNat 0))], 0, [some (.inr [52]), some (.inr [20, 21, 22, 23, 24, 25, 26, 27]), some (.inl (.inl (.inr (.ofNat 265)))), none, none], []), ([], none), ([], [], none, ([], [])), ([(52, 6), (58, 0), (58, 1), (58, 2), (58, 3), (58, 4), (58, 5), (58, 6)], [54, 55, 56, 57]))
def kC739_0 : aC := (([(.ofNat 0, .ofNat 3), (.ofNat 266, .ofNat 341), (.ofNat 0, .ofNat 4), (.ofNat 266, .ofNat 341)], [(57, 265, .inl (0, .ofNat 0)), (52, 6, .inl (3, .ofNat 0))], 2, [some (.inr [52]), some (.inr [20, 21, 22, 23, 24, 25, 26, 27]), some (.inl (.inl (.inr (.ofNat 265)))), some (.inl (.inl (.inl (2, .ofNat 0)))), none], []), ([], []), (4, [(-1, 2)]))
theorem ks739 : aseg kS krf kB [kE542, kE543] (ksp []) kE739 [kC739_0] 30000 (none) = true := by decide +kernel
theorem ks739_0 : aseg kS krf kB [kE542, kE543] (ksp []) kE739 [kC739_0] 30000 (some kC739_0) = true := by decide +kernel
theorem kok739 : aOK kS krf kB kE739 := aOK_of (kal1 kok542 (kal1 kok543 kal0)) (kcl1 ks739_0 kcl0) ks739
/-- ColdShod$StrokePlan.addNext(LColdShod$Idea;I)V -/
def kE740 : aE := (83, 3, ([(.ofNat 0, .ofNat 3), (.ofNat 265, .ofNat 341)], [(57, 264, .inl (0, .ofNat 0)), (52, 6, .inl (1, .ofNat 0))], 0, [some (.inr [52]), some (.inr [20, 21, 22, 23, 24, 25, 26, 27]), some (.inl (.inl (.inr (.ofNat 264)))), none, none], []), ([], none), ([], [], none, ([], [])), ([(52, 6), (58, 0), (58, 1), (58, 2), (58, 3), (58, 4), (58, 5), (58, 6)], [54, 55, 56, 57]))
def kC740_0 : aC := (([(.ofNat 0, .ofNat 3), (.ofNat 265, .ofNat 341), (.ofNat 0, .ofNat 4), (.ofNat 265, .ofNat 341)], [(57, 264, .inl (0, .ofNat 0)), (52, 6, .inl (3, .ofNat 0))], 2, [some (.inr [52]), some (.inr [20, 21, 22, 23, 24, 25, 26, 27]), some (.inl (.inl (.inr (.ofNat 264)))), some (.inl (.inl (.inl (2, .ofNat 0)))), none], []), ([], []), (4, [(-1, 2)]))
theorem ks740 : aseg kS krf kB [kE542, kE543] (ksp []) kE740 [kC740_0] 30000 (none) = true := by decide +kernel
theorem ks740_0 : aseg kS krf kB [kE542, kE543] (ksp []) kE740 [kC740_0] 30000 (some kC740_0) = true := by decide +kernel
theorem kok740 : aOK kS krf kB kE740 := aOK_of (kal1 kok542 (kal1 kok543 kal0)) (kcl1 ks740_0 kcl0) ks740
/-- ColdShod$StrokePlan.addNext(LColdShod$Idea;I)V -/
def kE741 : aE := (83, 3, ([(.ofNat 0, .ofNat 3), (.ofNat 264, .ofNat 341)], [(57, 263, .inl (0, .ofNat 0)), (52, 6, .inl (1, .ofNat 0))], 0, [some (.inr [52]), some (.inr [20, 21, 22, 23, 24, 25, 26, 27]), some (.inl (.inl (.inr (.ofNat 263)))), none, none], []), ([], none), ([], [], none, ([], [])), ([(52, 6), (58, 0), (58, 1), (58, 2), (58, 3), (58, 4), (58, 5), (58, 6)], [54, 55, 56, 57]))
def kC741_0 : aC := (([(.ofNat 0, .ofNat 3), (.ofNat 264, .ofNat 341), (.ofNat 0, .ofNat 4), (.ofNat 264, .ofNat 341)], [(57, 263, .inl (0, .ofNat 0)), (52, 6, .inl (3, .ofNat 0))], 2, [some (.inr [52]), some (.inr [20, 21, 22, 23, 24, 25, 26, 27]), some (.inl (.inl (.inr (.ofNat 263)))), some (.inl (.inl (.inl (2, .ofNat 0)))), none], []), ([], []), (4, [(-1, 2)]))
theorem ks741 : aseg kS krf kB [kE542, kE543] (ksp []) kE741 [kC741_0] 30000 (none) = true := by decide +kernel
theorem ks741_0 : aseg kS krf kB [kE542, kE543] (ksp []) kE741 [kC741_0] 30000 (some kC741_0) = true := by decide +kernel
theorem kok741 : aOK kS krf kB kE741 := aOK_of (kal1 kok542 (kal1 kok543 kal0)) (kcl1 ks741_0 kcl0) ks741
/-- ColdShod$StrokePlan.addNext(LColdShod$Idea;I)V -/
def kE742 : aE := (83, 3, ([(.ofNat 0, .ofNat 3), (.ofNat 263, .ofNat 341)], [(57, 262, .inl (0, .ofNat 0)), (52, 6, .inl (1, .ofNat 0))], 0, [some (.inr [52]), some (.inr [20, 21, 22, 23, 24, 25, 26, 27]), some (.inl (.inl (.inr (.ofNat 262)))), none, none], []), ([], none), ([], [], none, ([], [])), ([(52, 6), (58, 0), (58, 1), (58, 2), (58, 3), (58, 4), (58, 5), (58, 6)], [54, 55, 56, 57]))
def kC742_0 : aC := (([(.ofNat 0, .ofNat 3), (.ofNat 263, .ofNat 341), (.ofNat 0, .ofNat 4), (.ofNat 263, .ofNat 341)], [(57, 262, .inl (0, .ofNat 0)), (52, 6, .inl (3, .ofNat 0))], 2, [some (.inr [52]), some (.inr [20, 21, 22, 23, 24, 25, 26, 27]), some (.inl (.inl (.inr (.ofNat 262)))), some (.inl (.inl (.inl (2, .ofNat 0)))), none], []), ([], []), (4, [(-1, 2)]))
theorem ks742 : aseg kS krf kB [kE542, kE543] (ksp []) kE742 [kC742_0] 30000 (none) = true := by decide +kernel
theorem ks742_0 : aseg kS krf kB [kE542, kE543] (ksp []) kE742 [kC742_0] 30000 (some kC742_0) = true := by decide +kernel
theorem kok742 : aOK kS krf kB kE742 := aOK_of (kal1 kok542 (kal1 kok543 kal0)) (kcl1 ks742_0 kcl0) ks742
/-- ColdShod$StrokePlan.addNext(LColdShod$Idea;I)V -/
def kE743 : aE := (83, 3, ([(.ofNat 0, .ofNat 3), (.ofNat 262, .ofNat 341)], [(57, 261, .inl (0, .ofNat 0)), (52, 6, .inl (1, .ofNat 0))], 0, [some (.inr [52]), some (.inr [20, 21, 22, 23, 24, 25, 26, 27]), some (.inl (.inl (.inr (.ofNat 261)))), none, none], []), ([], none), ([], [], none, ([], [])), ([(52, 6), (58, 0), (58, 1), (58, 2), (58, 3), (58, 4), (58, 5), (58, 6)], [54, 55, 56, 57]))
def kC743_0 : aC := (([(.ofNat 0, .ofNat 3), (.ofNat 262, .ofNat 341), (.ofNat 0, .ofNat 4), (.ofNat 262, .ofNat 341)], [(57, 261, .inl (0, .ofNat 0)), (52, 6, .inl (3, .ofNat 0))], 2, [some (.inr [52]), some (.inr [20, 21, 22, 23, 24, 25, 26, 27]), some (.inl (.inl (.inr (.ofNat 261)))), some (.inl (.inl (.inl (2, .ofNat 0)))), none], []), ([], []), (4, [(-1, 2)]))
theorem ks743 : aseg kS krf kB [kE542, kE543] (ksp []) kE743 [kC743_0] 30000 (none) = true := by decide +kernel
theorem ks743_0 : aseg kS krf kB [kE542, kE543] (ksp []) kE743 [kC743_0] 30000 (some kC743_0) = true := by decide +kernel
theorem kok743 : aOK kS krf kB kE743 := aOK_of (kal1 kok542 (kal1 kok543 kal0)) (kcl1 ks743_0 kcl0) ks743
/-- ColdShod$StrokePlan.addNext(LColdShod$Idea;I)V -/
def kE744 : aE := (83, 3, ([(.ofNat 0, .ofNat 3), (.ofNat 261, .ofNat 341)], [(57, 260, .inl (0, .ofNat 0)), (52, 6, .inl (1, .ofNat 0))], 0, [some (.inr [52]), some (.inr [20, 21, 22, 23, 24, 25, 26, 27]), some (.inl (.inl (.inr (.ofNat 260)))), none, none], []), ([], none), ([], [], none, ([], [])), ([(52, 6), (58, 0), (58, 1), (58, 2), (58, 3), (58, 4), (58, 5), (58, 6)], [54, 55, 56, 57]))
def kC744_0 : aC := (([(.ofNat 0, .ofNat 3), (.ofNat 261, .ofNat 341), (.ofNat 0, .ofNat 4), (.ofNat 261, .ofNat 341)], [(57, 260, .inl (0, .ofNat 0)), (52, 6, .inl (3, .ofNat 0))], 2, [some (.inr [52]), some (.inr [20, 21, 22, 23, 24, 25, 26, 27]), some (.inl (.inl (.inr (.ofNat 260)))), some (.inl (.inl (.inl (2, .ofNat 0)))), none], []), ([], []), (4, [(-1, 2)]))
theorem ks744 : aseg kS krf kB [kE542, kE543] (ksp []) kE744 [kC744_0] 30000 (none) = true := by decide +kernel
theorem ks744_0 : aseg kS krf kB [kE542, kE543] (ksp []) kE744 [kC744_0] 30000 (some kC744_0) = true := by decide +kernel
theorem kok744 : aOK kS krf kB kE744 := aOK_of (kal1 kok542 (kal1 kok543 kal0)) (kcl1 ks744_0 kcl0) ks744
/-- ColdShod$StrokePlan.addNext(LColdShod$Idea;I)V -/
def kE745 : aE := (83, 3, ([(.ofNat 0, .ofNat 3), (.ofNat 260, .ofNat 341)], [(57, 259, .inl (0, .ofNat 0)), (52, 6, .inl (1, .ofNat 0))], 0, [some (.inr [52]), some (.inr [20, 21, 22, 23, 24, 25, 26, 27]), some (.inl (.inl (.inr (.ofNat 259)))), none, none], []), ([], none), ([], [], none, ([], [])), ([(52, 6), (58, 0), (58, 1), (58, 2), (58, 3), (58, 4), (58, 5), (58, 6)], [54, 55, 56, 57]))
def kC745_0 : aC := (([(.ofNat 0, .ofNat 3), (.ofNat 260, .ofNat 341), (.ofNat 0, .ofNat 4), (.ofNat 260, .ofNat 341)], [(57, 259, .inl (0, .ofNat 0)), (52, 6, .inl (3, .ofNat 0))], 2, [some (.inr [52]), some (.inr [20, 21, 22, 23, 24, 25, 26, 27]), some (.inl (.inl (.inr (.ofNat 259)))), some (.inl (.inl (.inl (2, .ofNat 0)))), none], []), ([], []), (4, [(-1, 2)]))
theorem ks745 : aseg kS krf kB [kE542, kE543] (ksp []) kE745 [kC745_0] 30000 (none) = true := by decide +kernel
theorem ks745_0 : aseg kS krf kB [kE542, kE543] (ksp []) kE745 [kC745_0] 30000 (some kC745_0) = true := by decide +kernel
theorem kok745 : aOK kS krf kB kE745 := aOK_of (kal1 kok542 (kal1 kok543 kal0)) (kcl1 ks745_0 kcl0) ks745
/-- ColdShod$StrokePlan.addNext(LColdShod$Idea;I)V -/
def kE746 : aE := (83, 3, ([(.ofNat 0, .ofNat 3), (.ofNat 259, .ofNat 341)], [(57, 258, .inl (0, .ofNat 0)), (52, 6, .inl (1, .ofNat 0))], 0, [some (.inr [52]), some (.inr [20, 21, 22, 23, 24, 25, 26, 27]), some (.inl (.inl (.inr (.ofNat 258)))), none, none], []), ([], none), ([], [], none, ([], [])), ([(52, 6), (58, 0), (58, 1), (58, 2), (58, 3), (58, 4), (58, 5), (58, 6)], [54, 55, 56, 57]))
def kC746_0 : aC := (([(.ofNat 0, .ofNat 3), (.ofNat 259, .ofNat 341), (.ofNat 0, .ofNat 4), (.ofNat 259, .ofNat 341)], [(57, 258, .inl (0, .ofNat 0)), (52, 6, .inl (3, .ofNat 0))], 2, [some (.inr [52]), some (.inr [20, 21, 22, 23, 24, 25, 26, 27]), some (.inl (.inl (.inr (.ofNat 258)))), some (.inl (.inl (.inl (2, .ofNat 0)))), none], []), ([], []), (4, [(-1, 2)]))
theorem ks746 : aseg kS krf kB [kE542, kE543] (ksp []) kE746 [kC746_0] 30000 (none) = true := by decide +kernel
theorem ks746_0 : aseg kS krf kB [kE542, kE543] (ksp []) kE746 [kC746_0] 30000 (some kC746_0) = true := by decide +kernel
theorem kok746 : aOK kS krf kB kE746 := aOK_of (kal1 kok542 (kal1 kok543 kal0)) (kcl1 ks746_0 kcl0) ks746
/-- ColdShod$StrokePlan.addNext(LColdShod$Idea;I)V -/
def kE747 : aE := (83, 3, ([(.ofNat 0, .ofNat 3), (.ofNat 258, .ofNat 341)], [(57, 257, .inl (0, .ofNat 0)), (52, 6, .inl (1, .ofNat 0))], 0, [some (.inr [52]), some (.inr [20, 21, 22, 23, 24, 25, 26, 27]), some (.inl (.inl (.inr (.ofNat 257)))), none, none], []), ([], none), ([], [], none, ([], [])), ([(52, 6), (58, 0), (58, 1), (58, 2), (58, 3), (58, 4), (58, 5), (58, 6)], [54, 55, 56, 57]))
def kC747_0 : aC := (([(.ofNat 0, .ofNat 3), (.ofNat 258, .ofNat 341), (.ofNat 0, .ofNat 4), (.ofNat 258, .ofNat 341)], [(57, 257, .inl (0, .ofNat 0)), (52, 6, .inl (3, .ofNat 0))], 2, [some (.inr [52]), some (.inr [20, 21, 22, 23, 24, 25, 26, 27]), some (.inl (.inl (.inr (.ofNat 257)))), some (.inl (.inl (.inl (2, .ofNat 0)))), none], []), ([], []), (4, [(-1, 2)]))
theorem ks747 : aseg kS krf kB [kE542, kE543] (ksp []) kE747 [kC747_0] 30000 (none) = true := by decide +kernel
theorem ks747_0 : aseg kS krf kB [kE542, kE543] (ksp []) kE747 [kC747_0] 30000 (some kC747_0) = true := by decide +kernel
theorem kok747 : aOK kS krf kB kE747 := aOK_of (kal1 kok542 (kal1 kok543 kal0)) (kcl1 ks747_0 kcl0) ks747
/-- ColdShod$StrokePlan.addNext(LColdShod$Idea;I)V -/
def kE748 : aE := (83, 3, ([(.ofNat 0, .ofNat 3), (.ofNat 257, .ofNat 341)], [(57, 256, .inl (0, .ofNat 0)), (52, 6, .inl (1, .ofNat 0))], 0, [some (.inr [52]), some (.inr [20, 21, 22, 23, 24, 25, 26, 27]), some (.inl (.inl (.inr (.ofNat 256)))), none, none], []), ([], none), ([], [], none, ([], [])), ([(52, 6), (58, 0), (58, 1), (58, 2), (58, 3), (58, 4), (58, 5), (58, 6)], [54, 55, 56, 57]))
def kC748_0 : aC := (([(.ofNat 0, .ofNat 3), (.ofNat 257, .ofNat 341), (.ofNat 0, .ofNat 4), (.ofNat 257, .ofNat 341)], [(57, 256, .inl (0, .ofNat 0)), (52, 6, .inl (3, .ofNat 0))], 2, [some (.inr [52]), some (.inr [20, 21, 22, 23, 24, 25, 26, 27]), some (.inl (.inl (.inr (.ofNat 256)))), some (.inl (.inl (.inl (2, .ofNat 0)))), none], []), ([], []), (4, [(-1, 2)]))
theorem ks748 : aseg kS krf kB [kE542, kE543] (ksp []) kE748 [kC748_0] 30000 (none) = true := by decide +kernel
theorem ks748_0 : aseg kS krf kB [kE542, kE543] (ksp []) kE748 [kC748_0] 30000 (some kC748_0) = true := by decide +kernel
theorem kok748 : aOK kS krf kB kE748 := aOK_of (kal1 kok542 (kal1 kok543 kal0)) (kcl1 ks748_0 kcl0) ks748
/-- ColdShod$StrokePlan.addNext(LColdShod$Idea;I)V -/
def kE749 : aE := (83, 3, ([(.ofNat 0, .ofNat 3), (.ofNat 256, .ofNat 341)], [(57, 255, .inl (0, .ofNat 0)), (52, 6, .inl (1, .ofNat 0))], 0, [some (.inr [52]), some (.inr [20, 21, 22, 23, 24, 25, 26, 27]), some (.inl (.inl (.inr (.ofNat 255)))), none, none], []), ([], none), ([], [], none, ([], [])), ([(52, 6), (58, 0), (58, 1), (58, 2), (58, 3), (58, 4), (58, 5), (58, 6)], [54, 55, 56, 57]))
def kC749_0 : aC := (([(.ofNat 0, .ofNat 3), (.ofNat 256, .ofNat 341), (.ofNat 0, .ofNat 4), (.ofNat 256, .ofNat 341)], [(57, 255, .inl (0, .ofNat 0)), (52, 6, .inl (3, .ofNat 0))], 2, [some (.inr [52]), some (.inr [20, 21, 22, 23, 24, 25, 26, 27]), some (.inl (.inl (.inr (.ofNat 255)))), some (.inl (.inl (.inl (2, .ofNat 0)))), none], []), ([], []), (4, [(-1, 2)]))
theorem ks749 : aseg kS krf kB [kE542, kE543] (ksp []) kE749 [kC749_0] 30000 (none) = true := by decide +kernel
theorem ks749_0 : aseg kS krf kB [kE542, kE543] (ksp []) kE749 [kC749_0] 30000 (some kC749_0) = true := by decide +kernel
theorem kok749 : aOK kS krf kB kE749 := aOK_of (kal1 kok542 (kal1 kok543 kal0)) (kcl1 ks749_0 kcl0) ks749
/-- ColdShod$StrokePlan.addNext(LColdShod$Idea;I)V -/
def kE750 : aE := (83, 3, ([(.ofNat 0, .ofNat 3), (.ofNat 255, .ofNat 341)], [(57, 254, .inl (0, .ofNat 0)), (52, 6, .inl (1, .ofNat 0))], 0, [some (.inr [52]), some (.inr [20, 21, 22, 23, 24, 25, 26, 27]), some (.inl (.inl (.inr (.ofNat 254)))), none, none], []), ([], none), ([], [], none, ([], [])), ([(52, 6), (58, 0), (58, 1), (58, 2), (58, 3), (58, 4), (58, 5), (58, 6)], [54, 55, 56, 57]))
def kC750_0 : aC := (([(.ofNat 0, .ofNat 3), (.ofNat 255, .ofNat 341), (.ofNat 0, .ofNat 4), (.ofNat 255, .ofNat 341)], [(57, 254, .inl (0, .ofNat 0)), (52, 6, .inl (3, .ofNat 0))], 2, [some (.inr [52]), some (.inr [20, 21, 22, 23, 24, 25, 26, 27]), some (.inl (.inl (.inr (.ofNat 254)))), some (.inl (.inl (.inl (2, .ofNat 0)))), none], []), ([], []), (4, [(-1, 2)]))
theorem ks750 : aseg kS krf kB [kE542, kE543] (ksp []) kE750 [kC750_0] 30000 (none) = true := by decide +kernel
theorem ks750_0 : aseg kS krf kB [kE542, kE543] (ksp []) kE750 [kC750_0] 30000 (some kC750_0) = true := by decide +kernel
theorem kok750 : aOK kS krf kB kE750 := aOK_of (kal1 kok542 (kal1 kok543 kal0)) (kcl1 ks750_0 kcl0) ks750
/-- ColdShod$StrokePlan.addNext(LColdShod$Idea;I)V -/
def kE751 : aE := (83, 3, ([(.ofNat 0, .ofNat 3), (.ofNat 254, .ofNat 341)], [(57, 253, .inl (0, .ofNat 0)), (52, 6, .inl (1, .ofNat 0))], 0, [some (.inr [52]), some (.inr [20, 21, 22, 23, 24, 25, 26, 27]), some (.inl (.inl (.inr (.ofNat 253)))), none, none], []), ([], none), ([], [], none, ([], [])), ([(52, 6), (58, 0), (58, 1), (58, 2), (58, 3), (58, 4), (58, 5), (58, 6)], [54, 55, 56, 57]))
def kC751_0 : aC := (([(.ofNat 0, .ofNat 3), (.ofNat 254, .ofNat 341), (.ofNat 0, .ofNat 4), (.ofNat 254, .ofNat 341)], [(57, 253, .inl (0, .ofNat 0)), (52, 6, .inl (3, .ofNat 0))], 2, [some (.inr [52]), some (.inr [20, 21, 22, 23, 24, 25, 26, 27]), some (.inl (.inl (.inr (.ofNat 253)))), some (.inl (.inl (.inl (2, .ofNat 0)))), none], []), ([], []), (4, [(-1, 2)]))
theorem ks751 : aseg kS krf kB [kE542, kE543] (ksp []) kE751 [kC751_0] 30000 (none) = true := by decide +kernel
theorem ks751_0 : aseg kS krf kB [kE542, kE543] (ksp []) kE751 [kC751_0] 30000 (some kC751_0) = true := by decide +kernel
theorem kok751 : aOK kS krf kB kE751 := aOK_of (kal1 kok542 (kal1 kok543 kal0)) (kcl1 ks751_0 kcl0) ks751
/-- ColdShod$StrokePlan.addNext(LColdShod$Idea;I)V -/
def kE752 : aE := (83, 3, ([(.ofNat 0, .ofNat 3), (.ofNat 253, .ofNat 341)], [(57, 252, .inl (0, .ofNat 0)), (52, 6, .inl (1, .ofNat 0))], 0, [some (.inr [52]), some (.inr [20, 21, 22, 23, 24, 25, 26, 27]), some (.inl (.inl (.inr (.ofNat 252)))), none, none], []), ([], none), ([], [], none, ([], [])), ([(52, 6), (58, 0), (58, 1), (58, 2), (58, 3), (58, 4), (58, 5), (58, 6)], [54, 55, 56, 57]))
def kC752_0 : aC := (([(.ofNat 0, .ofNat 3), (.ofNat 253, .ofNat 341), (.ofNat 0, .ofNat 4), (.ofNat 253, .ofNat 341)], [(57, 252, .inl (0, .ofNat 0)), (52, 6, .inl (3, .ofNat 0))], 2, [some (.inr [52]), some (.inr [20, 21, 22, 23, 24, 25, 26, 27]), some (.inl (.inl (.inr (.ofNat 252)))), some (.inl (.inl (.inl (2, .ofNat 0)))), none], []), ([], []), (4, [(-1, 2)]))
theorem ks752 : aseg kS krf kB [kE542, kE543] (ksp []) kE752 [kC752_0] 30000 (none) = true := by decide +kernel
theorem ks752_0 : aseg kS krf kB [kE542, kE543] (ksp []) kE752 [kC752_0] 30000 (some kC752_0) = true := by decide +kernel
theorem kok752 : aOK kS krf kB kE752 := aOK_of (kal1 kok542 (kal1 kok543 kal0)) (kcl1 ks752_0 kcl0) ks752
/-- ColdShod$StrokePlan.addNext(LColdShod$Idea;I)V -/
def kE753 : aE := (83, 3, ([(.ofNat 0, .ofNat 3), (.ofNat 252, .ofNat 341)], [(57, 251, .inl (0, .ofNat 0)), (52, 6, .inl (1, .ofNat 0))], 0, [some (.inr [52]), some (.inr [20, 21, 22, 23, 24, 25, 26, 27]), some (.inl (.inl (.inr (.ofNat 251)))), none, none], []), ([], none), ([], [], none, ([], [])), ([(52, 6), (58, 0), (58, 1), (58, 2), (58, 3), (58, 4), (58, 5), (58, 6)], [54, 55, 56, 57]))
def kC753_0 : aC := (([(.ofNat 0, .ofNat 3), (.ofNat 252, .ofNat 341), (.ofNat 0, .ofNat 4), (.ofNat 252, .ofNat 341)], [(57, 251, .inl (0, .ofNat 0)), (52, 6, .inl (3, .ofNat 0))], 2, [some (.inr [52]), some (.inr [20, 21, 22, 23, 24, 25, 26, 27]), some (.inl (.inl (.inr (.ofNat 251)))), some (.inl (.inl (.inl (2, .ofNat 0)))), none], []), ([], []), (4, [(-1, 2)]))
theorem ks753 : aseg kS krf kB [kE542, kE543] (ksp []) kE753 [kC753_0] 30000 (none) = true := by decide +kernel
theorem ks753_0 : aseg kS krf kB [kE542, kE543] (ksp []) kE753 [kC753_0] 30000 (some kC753_0) = true := by decide +kernel
theorem kok753 : aOK kS krf kB kE753 := aOK_of (kal1 kok542 (kal1 kok543 kal0)) (kcl1 ks753_0 kcl0) ks753
/-- ColdShod$StrokePlan.addNext(LColdShod$Idea;I)V -/
def kE754 : aE := (83, 3, ([(.ofNat 0, .ofNat 3), (.ofNat 251, .ofNat 341)], [(57, 250, .inl (0, .ofNat 0)), (52, 6, .inl (1, .ofNat 0))], 0, [some (.inr [52]), some (.inr [20, 21, 22, 23, 24, 25, 26, 27]), some (.inl (.inl (.inr (.ofNat 250)))), none, none], []), ([], none), ([], [], none, ([], [])), ([(52, 6), (58, 0), (58, 1), (58, 2), (58, 3), (58, 4), (58, 5), (58, 6)], [54, 55, 56, 57]))
def kC754_0 : aC := (([(.ofNat 0, .ofNat 3), (.ofNat 251, .ofNat 341), (.ofNat 0, .ofNat 4), (.ofNat 251, .ofNat 341)], [(57, 250, .inl (0, .ofNat 0)), (52, 6, .inl (3, .ofNat 0))], 2, [some (.inr [52]), some (.inr [20, 21, 22, 23, 24, 25, 26, 27]), some (.inl (.inl (.inr (.ofNat 250)))), some (.inl (.inl (.inl (2, .ofNat 0)))), none], []), ([], []), (4, [(-1, 2)]))
theorem ks754 : aseg kS krf kB [kE542, kE543] (ksp []) kE754 [kC754_0] 30000 (none) = true := by decide +kernel
theorem ks754_0 : aseg kS krf kB [kE542, kE543] (ksp []) kE754 [kC754_0] 30000 (some kC754_0) = true := by decide +kernel
theorem kok754 : aOK kS krf kB kE754 := aOK_of (kal1 kok542 (kal1 kok543 kal0)) (kcl1 ks754_0 kcl0) ks754
/-- ColdShod$StrokePlan.addNext(LColdShod$Idea;I)V -/
def kE755 : aE := (83, 3, ([(.ofNat 0, .ofNat 3), (.ofNat 250, .ofNat 341)], [(57, 249, .inl (0, .ofNat 0)), (52, 6, .inl (1, .ofNat 0))], 0, [some (.inr [52]), some (.inr [20, 21, 22, 23, 24, 25, 26, 27]), some (.inl (.inl (.inr (.ofNat 249)))), none, none], []), ([], none), ([], [], none, ([], [])), ([(52, 6), (58, 0), (58, 1), (58, 2), (58, 3), (58, 4), (58, 5), (58, 6)], [54, 55, 56, 57]))
def kC755_0 : aC := (([(.ofNat 0, .ofNat 3), (.ofNat 250, .ofNat 341), (.ofNat 0, .ofNat 4), (.ofNat 250, .ofNat 341)], [(57, 249, .inl (0, .ofNat 0)), (52, 6, .inl (3, .ofNat 0))], 2, [some (.inr [52]), some (.inr [20, 21, 22, 23, 24, 25, 26, 27]), some (.inl (.inl (.inr (.ofNat 249)))), some (.inl (.inl (.inl (2, .ofNat 0)))), none], []), ([], []), (4, [(-1, 2)]))
theorem ks755 : aseg kS krf kB [kE542, kE543] (ksp []) kE755 [kC755_0] 30000 (none) = true := by decide +kernel
theorem ks755_0 : aseg kS krf kB [kE542, kE543] (ksp []) kE755 [kC755_0] 30000 (some kC755_0) = true := by decide +kernel
theorem kok755 : aOK kS krf kB kE755 := aOK_of (kal1 kok542 (kal1 kok543 kal0)) (kcl1 ks755_0 kcl0) ks755
/-- ColdShod$StrokePlan.addNext(LColdShod$Idea;I)V -/
def kE756 : aE := (83, 3, ([(.ofNat 0, .ofNat 3), (.ofNat 249, .ofNat 341)], [(57, 248, .inl (0, .ofNat 0)), (52, 6, .inl (1, .ofNat 0))], 0, [some (.inr [52]), some (.inr [20, 21, 22, 23, 24, 25, 26, 27]), some (.inl (.inl (.inr (.ofNat 248)))), none, none], []), ([], none), ([], [], none, ([], [])), ([(52, 6), (58, 0), (58, 1), (58, 2), (58, 3), (58, 4), (58, 5), (58, 6)], [54, 55, 56, 57]))
def kC756_0 : aC := (([(.ofNat 0, .ofNat 3), (.ofNat 249, .ofNat 341), (.ofNat 0, .ofNat 4), (.ofNat 249, .ofNat 341)], [(57, 248, .inl (0, .ofNat 0)), (52, 6, .inl (3, .ofNat 0))], 2, [some (.inr [52]), some (.inr [20, 21, 22, 23, 24, 25, 26, 27]), some (.inl (.inl (.inr (.ofNat 248)))), some (.inl (.inl (.inl (2, .ofNat 0)))), none], []), ([], []), (4, [(-1, 2)]))
theorem ks756 : aseg kS krf kB [kE542, kE543] (ksp []) kE756 [kC756_0] 30000 (none) = true := by decide +kernel
theorem ks756_0 : aseg kS krf kB [kE542, kE543] (ksp []) kE756 [kC756_0] 30000 (some kC756_0) = true := by decide +kernel
theorem kok756 : aOK kS krf kB kE756 := aOK_of (kal1 kok542 (kal1 kok543 kal0)) (kcl1 ks756_0 kcl0) ks756
/-- ColdShod$StrokePlan.addNext(LColdShod$Idea;I)V -/
def kE757 : aE := (83, 3, ([(.ofNat 0, .ofNat 3), (.ofNat 248, .ofNat 341)], [(57, 247, .inl (0, .ofNat 0)), (52, 6, .inl (1, .ofNat 0))], 0, [some (.inr [52]), some (.inr [20, 21, 22, 23, 24, 25, 26, 27]), some (.inl (.inl (.inr (.ofNat 247)))), none, none], []), ([], none), ([], [], none, ([], [])), ([(52, 6), (58, 0), (58, 1), (58, 2), (58, 3), (58, 4), (58, 5), (58, 6)], [54, 55, 56, 57]))
def kC757_0 : aC := (([(.ofNat 0, .ofNat 3), (.ofNat 248, .ofNat 341), (.ofNat 0, .ofNat 4), (.ofNat 248, .ofNat 341)], [(57, 247, .inl (0, .ofNat 0)), (52, 6, .inl (3, .ofNat 0))], 2, [some (.inr [52]), some (.inr [20, 21, 22, 23, 24, 25, 26, 27]), some (.inl (.inl (.inr (.ofNat 247)))), some (.inl (.inl (.inl (2, .ofNat 0)))), none], []), ([], []), (4, [(-1, 2)]))
theorem ks757 : aseg kS krf kB [kE542, kE543] (ksp []) kE757 [kC757_0] 30000 (none) = true := by decide +kernel
theorem ks757_0 : aseg kS krf kB [kE542, kE543] (ksp []) kE757 [kC757_0] 30000 (some kC757_0) = true := by decide +kernel
theorem kok757 : aOK kS krf kB kE757 := aOK_of (kal1 kok542 (kal1 kok543 kal0)) (kcl1 ks757_0 kcl0) ks757
/-- ColdShod$StrokePlan.addNext(LColdShod$Idea;I)V -/
def kE758 : aE := (83, 3, ([(.ofNat 0, .ofNat 3), (.ofNat 247, .ofNat 341)], [(57, 246, .inl (0, .ofNat 0)), (52, 6, .inl (1, .ofNat 0))], 0, [some (.inr [52]), some (.inr [20, 21, 22, 23, 24, 25, 26, 27]), some (.inl (.inl (.inr (.ofNat 246)))), none, none], []), ([], none), ([], [], none, ([], [])), ([(52, 6), (58, 0), (58, 1), (58, 2), (58, 3), (58, 4), (58, 5), (58, 6)], [54, 55, 56, 57]))
def kC758_0 : aC := (([(.ofNat 0, .ofNat 3), (.ofNat 247, .ofNat 341), (.ofNat 0, .ofNat 4), (.ofNat 247, .ofNat 341)], [(57, 246, .inl (0, .ofNat 0)), (52, 6, .inl (3, .ofNat 0))], 2, [some (.inr [52]), some (.inr [20, 21, 22, 23, 24, 25, 26, 27]), some (.inl (.inl (.inr (.ofNat 246)))), some (.inl (.inl (.inl (2, .ofNat 0)))), none], []), ([], []), (4, [(-1, 2)]))
theorem ks758 : aseg kS krf kB [kE542, kE543] (ksp []) kE758 [kC758_0] 30000 (none) = true := by decide +kernel
theorem ks758_0 : aseg kS krf kB [kE542, kE543] (ksp []) kE758 [kC758_0] 30000 (some kC758_0) = true := by decide +kernel
theorem kok758 : aOK kS krf kB kE758 := aOK_of (kal1 kok542 (kal1 kok543 kal0)) (kcl1 ks758_0 kcl0) ks758
/-- ColdShod$StrokePlan.addNext(LColdShod$Idea;I)V -/
def kE759 : aE := (83, 3, ([(.ofNat 0, .ofNat 3), (.ofNat 246, .ofNat 341)], [(57, 245, .inl (0, .ofNat 0)), (52, 6, .inl (1, .ofNat 0))], 0, [some (.inr [52]), some (.inr [20, 21, 22, 23, 24, 25, 26, 27]), some (.inl (.inl (.inr (.ofNat 245)))), none, none], []), ([], none), ([], [], none, ([], [])), ([(52, 6), (58, 0), (58, 1), (58, 2), (58, 3), (58, 4), (58, 5), (58, 6)], [54, 55, 56, 57]))
def kC759_0 : aC := (([(.ofNat 0, .ofNat 3), (.ofNat 246, .ofNat 341), (.ofNat 0, .ofNat 4), (.ofNat 246, .ofNat 341)], [(57, 245, .inl (0, .ofNat 0)), (52, 6, .inl (3, .ofNat 0))], 2, [some (.inr [52]), some (.inr [20, 21, 22, 23, 24, 25, 26, 27]), some (.inl (.inl (.inr (.ofNat 245)))), some (.inl (.inl (.inl (2, .ofNat 0)))), none], []), ([], []), (4, [(-1, 2)]))
theorem ks759 : aseg kS krf kB [kE542, kE543] (ksp []) kE759 [kC759_0] 30000 (none) = true := by decide +kernel
theorem ks759_0 : aseg kS krf kB [kE542, kE543] (ksp []) kE759 [kC759_0] 30000 (some kC759_0) = true := by decide +kernel
theorem kok759 : aOK kS krf kB kE759 := aOK_of (kal1 kok542 (kal1 kok543 kal0)) (kcl1 ks759_0 kcl0) ks759
