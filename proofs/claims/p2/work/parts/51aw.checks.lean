/-! ENTRIES and their checks: printed by a program (wip/ai). -/
/-- ColdShod$StrokePlan.addNext(LColdShod$Idea;I)V -/
def kE686 : aE := (83, 3, ([(.ofNat 0, .ofNat 3), (.ofNat 199, .ofNat 341)], [(57, 198, .inl (0, .ofNat 0)), (52, 6, .inl (1, .ofNat 0))], 0, [some (.inr [52]), some (.inr [20, 21, 22, 23, 24, 25, 26, 27]), some (.inl (.inl (.inr (.ofNat 198)))), none, none], []), ([], none), ([], [], none, ([], [])), ([(52, 6), (58, 0), (58, 1), (58, 2), (58, 3), (58, 4), (58, 5), (58, 6)], [54, 55, 56, 57]))
def kC686_0 : aC := (([(.ofNat 0, .ofNat 3), (.ofNat 199, .ofNat 341), (.ofNat 0, .ofNat 4), (.ofNat 199, .ofNat 341)], [(57, 198, .inl (0, .ofNat 0)), (52, 6, .inl (3, .ofNat 0))], 2, [some (.inr [52]), some (.inr [20, 21, 22, 23, 24, 25, 26, 27]), some (.inl (.inl (.inr (.ofNat 198)))), some (.inl (.inl (.inl (2, .ofNat 0)))), none], []), ([], []), (4, [(-1, 2)]))
theorem ks686 : aseg kS krf kB [kE542, kE543] (ksp []) kE686 [kC686_0] 30000 (none) = true := by decide +kernel
theorem ks686_0 : aseg kS krf kB [kE542, kE543] (ksp []) kE686 [kC686_0] 30000 (some kC686_0) = true := by decide +kernel
theorem kok686 : aOK kS krf kB kE686 := aOK_of (kal1 kok542 (kal1 kok543 kal0)) (kcl1 ks686_0 kcl0) ks686
/-- ColdShod$StrokePlan.addNext(LColdShod$Idea;I)V -/
def kE687 : aE := (83, 3, ([(.ofNat 0, .ofNat 3), (.ofNat 198, .ofNat 341)], [(57, 197, .inl (0, .ofNat 0)), (52, 6, .inl (1, .ofNat 0))], 0, [some (.inr [52]), some (.inr [20, 21, 22, 23, 24, 25, 26, 27]), some (.inl (.inl (.inr (.ofNat 197)))), none, none], []), ([], none), ([], [], none, ([], [])), ([(52, 6), (58, 0), (58, 1), (58, 2), (58, 3), (58, 4), (58, 5), (58, 6)], [54, 55, 56, 57]))
def kC687_0 : aC := (([(.ofNat 0, .ofNat 3), (.ofNat 198, .ofNat 341), (.ofNat 0, .ofNat 4), (.ofNat 198, .ofNat 341)], [(57, 197, .inl (0, .ofNat 0)), (52, 6, .inl (3, .ofNat 0))], 2, [some (.inr [52]), some (.inr [20, 21, 22, 23, 24, 25, 26, 27]), some (.inl (.inl (.inr (.ofNat 197)))), some (.inl (.inl (.inl (2, .ofNat 0)))), none], []), ([], []), (4, [(-1, 2)]))
theorem ks687 : aseg kS krf kB [kE542, kE543] (ksp []) kE687 [kC687_0] 30000 (none) = true := by decide +kernel
theorem ks687_0 : aseg kS krf kB [kE542, kE543] (ksp []) kE687 [kC687_0] 30000 (some kC687_0) = true := by decide +kernel
theorem kok687 : aOK kS krf kB kE687 := aOK_of (kal1 kok542 (kal1 kok543 kal0)) (kcl1 ks687_0 kcl0) ks687
/-- ColdShod$StrokePlan.addNext(LColdShod$Idea;I)V -/
def kE688 : aE := (83, 3, ([(.ofNat 0, .ofNat 3), (.ofNat 197, .ofNat 341)], [(57, 196, .inl (0, .ofNat 0)), (52, 6, .inl (1, .ofNat 0))], 0, [some (.inr [52]), some (.inr [20, 21, 22, 23, 24, 25, 26, 27]), some (.inl (.inl (.inr (.ofNat 196)))), none, none], []), ([], none), ([], [], none, ([], [])), ([(52, 6), (58, 0), (58, 1), (58, 2), (58, 3), (58, 4), (58, 5), (58, 6)], [54, 55, 56, 57]))
def kC688_0 : aC := (([(.ofNat 0, .ofNat 3), (.ofNat 197, .ofNat 341), (.ofNat 0, .ofNat 4), (.ofNat 197, .ofNat 341)], [(57, 196, .inl (0, .ofNat 0)), (52, 6, .inl (3, .ofNat 0))], 2, [some (.inr [52]), some (.inr [20, 21, 22, 23, 24, 25, 26, 27]), some (.inl (.inl (.inr (.ofNat 196)))), some (.inl (.inl (.inl (2, .ofNat 0)))), none], []), ([], []), (4, [(-1, 2)]))
theorem ks688 : aseg kS krf kB [kE542, kE543] (ksp []) kE688 [kC688_0] 30000 (none) = true := by decide +kernel
theorem ks688_0 : aseg kS krf kB [kE542, kE543] (ksp []) kE688 [kC688_0] 30000 (some kC688_0) = true := by decide +kernel
theorem kok688 : aOK kS krf kB kE688 := aOK_of (kal1 kok542 (kal1 kok543 kal0)) (kcl1 ks688_0 kcl0) ks688
/-- ColdShod$StrokePlan.addNext(LColdShod$Idea;I)V -/
def kE689 : aE := (83, 3, ([(.ofNat 0, .ofNat 3), (.ofNat 196, .ofNat 341)], [(57, 195, .inl (0, .ofNat 0)), (52, 6, .inl (1, .ofNat 0))], 0, [some (.inr [52]), some (.inr [20, 21, 22, 23, 24, 25, 26, 27]), some (.inl (.inl (.inr (.ofNat 195)))), none, none], []), ([], none), ([], [], none, ([], [])), ([(52, 6), (58, 0), (58, 1), (58, 2), (58, 3), (58, 4), (58, 5), (58, 6)], [54, 55, 56, 57]))
def kC689_0 : aC := (([(.ofNat 0, .ofNat 3), (.ofNat 196, .ofNat 341), (.ofNat 0, .ofNat 4), (.ofNat 196, .ofNat 341)], [(57, 195, .inl (0, .ofNat 0)), (52, 6, .inl (3, .ofNat 0))], 2, [some (.inr [52]), some (.inr [20, 21, 22, 23, 24, 25, 26, 27]), some (.inl (.inl (.inr (.ofNat 195)))), some (.inl (.inl (.inl (2, .ofNat 0)))), none], []), ([], []), (4, [(-1, 2)]))
theorem ks689 : aseg kS krf kB [kE542, kE543] (ksp []) kE689 [kC689_0] 30000 (none) = true := by decide +kernel
theorem ks689_0 : aseg kS krf kB [kE542, kE543] (ksp []) kE689 [kC689_0] 30000 (some kC689_0) = true := by decide +kernel
theorem kok689 : aOK kS krf kB kE689 := aOK_of (kal1 kok542 (kal1 kok543 kal0)) (kcl1 ks689_0 kcl0) ks689
/-- ColdShod$StrokePlan.addNext(LColdShod$Idea;I)V -/
def kE690 : aE := (83, 3, ([(.ofNat 0, .ofNat 3), (.ofNat 195, .ofNat 341)], [(57, 194, .inl (0, .ofNat 0)), (52, 6, .inl (1, .ofNat 0))], 0, [some (.inr [52]), some (.inr [20, 21, 22, 23, 24, 25, 26, 27]), some (.inl (.inl (.inr (.ofNat 194)))), none, none], []), ([], none), ([], [], none, ([], [])), ([(52, 6), (58, 0), (58, 1), (58, 2), (58, 3), (58, 4), (58, 5), (58, 6)], [54, 55, 56, 57]))
def kC690_0 : aC := (([(.ofNat 0, .ofNat 3), (.ofNat 195, .ofNat 341), (.ofNat 0, .ofNat 4), (.ofNat 195, .ofNat 341)], [(57, 194, .inl (0, .ofNat 0)), (52, 6, .inl (3, .ofNat 0))], 2, [some (.inr [52]), some (.inr [20, 21, 22, 23, 24, 25, 26, 27]), some (.inl (.inl (.inr (.ofNat 194)))), some (.inl (.inl (.inl (2, .ofNat 0)))), none], []), ([], []), (4, [(-1, 2)]))
theorem ks690 : aseg kS krf kB [kE542, kE543] (ksp []) kE690 [kC690_0] 30000 (none) = true := by decide +kernel
theorem ks690_0 : aseg kS krf kB [kE542, kE543] (ksp []) kE690 [kC690_0] 30000 (some kC690_0) = true := by decide +kernel
theorem kok690 : aOK kS krf kB kE690 := aOK_of (kal1 kok542 (kal1 kok543 kal0)) (kcl1 ks690_0 kcl0) ks690
/-- ColdShod$StrokePlan.addNext(LColdShod$Idea;I)V -/
def kE691 : aE := (83, 3, ([(.ofNat 0, .ofNat 3), (.ofNat 194, .ofNat 341)], [(57, 193, .inl (0, .ofNat 0)), (52, 6, .inl (1, .ofNat 0))], 0, [some (.inr [52]), some (.inr [20, 21, 22, 23, 24, 25, 26, 27]), some (.inl (.inl (.inr (.ofNat 193)))), none, none], []), ([], none), ([], [], none, ([], [])), ([(52, 6), (58, 0), (58, 1), (58, 2), (58, 3), (58, 4), (58, 5), (58, 6)], [54, 55, 56, 57]))
def kC691_0 : aC := (([(.ofNat 0, .ofNat 3), (.ofNat 194, .ofNat 341), (.ofNat 0, .ofNat 4), (.ofNat 194, .ofNat 341)], [(57, 193, .inl (0, .ofNat 0)), (52, 6, .inl (3, .ofNat 0))], 2, [some (.inr [52]), some (.inr [20, 21, 22, 23, 24, 25, 26, 27]), some (.inl (.inl (.inr (.ofNat 193)))), some (.inl (.inl (.inl (2, .ofNat 0)))), none], []), ([], []), (4, [(-1, 2)]))
theorem ks691 : aseg kS krf kB [kE542, kE543] (ksp []) kE691 [kC691_0] 30000 (none) = true := by decide +kernel
theorem ks691_0 : aseg kS krf kB [kE542, kE543] (ksp []) kE691 [kC691_0] 30000 (some kC691_0) = true := by decide +kernel
theorem kok691 : aOK kS krf kB kE691 := aOK_of (kal1 kok542 (kal1 kok543 kal0)) (kcl1 ks691_0 kcl0) ks691
/-- ColdShod$StrokePlan.addNext(LColdShod$Idea;I)V -/
def kE692 : aE := (83, 3, ([(.ofNat 0, .ofNat 3), (.ofNat 193, .ofNat 341)], [(57, 192, .inl (0, .ofNat 0)), (52, 6, .inl (1, .ofNat 0))], 0, [some (.inr [52]), some (.inr [20, 21, 22, 23, 24, 25, 26, 27]), some (.inl (.inl (.inr (.ofNat 192)))), none, none], []), ([], none), ([], [], none, ([], [])), ([(52, 6), (58, 0), (58, 1), (58, 2), (58, 3), (58, 4), (58, 5), (58, 6)], [54, 55, 56, 57]))
def kC692_0 : aC := (([(.ofNat 0, .ofNat 3), (.ofNat 193, .ofNat 341), (.ofNat 0, .ofNat 4), (.ofNat 193, .ofNat 341)], [(57, 192, .inl (0, .ofNat 0)), (52, 6, .inl (3, .ofNat 0))], 2, [some (.inr [52]), some (.inr [20, 21, 22, 23, 24, 25, 26, 27]), some (.inl (.inl (.inr (.ofNat 192)))), some (.inl (.inl (.inl (2, .ofNat 0)))), none], []), ([], []), (4, [(-1, 2)]))
theorem ks692 : aseg kS krf kB [kE542, kE543] (ksp []) kE692 [kC692_0] 30000 (none) = true := by decide +kernel
theorem ks692_0 : aseg kS krf kB [kE542, kE543] (ksp []) kE692 [kC692_0] 30000 (some kC692_0) = true := by decide +kernel
theorem kok692 : aOK kS krf kB kE692 := aOK_of (kal1 kok542 (kal1 kok543 kal0)) (kcl1 ks692_0 kcl0) ks692
/-- ColdShod$StrokePlan.addNext(LColdShod$Idea;I)V -/
def kE693 : aE := (83, 3, ([(.ofNat 0, .ofNat 3), (.ofNat 192, .ofNat 341)], [(57, 191, .inl (0, .ofNat 0)), (52, 6, .inl (1, .ofNat 0))], 0, [some (.inr [52]), some (.inr [20, 21, 22, 23, 24, 25, 26, 27]), some (.inl (.inl (.inr (.ofNat 191)))), none, none], []), ([], none), ([], [], none, ([], [])), ([(52, 6), (58, 0), (58, 1), (58, 2), (58, 3), (58, 4), (58, 5), (58, 6)], [54, 55, 56, 57]))
def kC693_0 : aC := (([(.ofNat 0, .ofNat 3), (.ofNat 192, .ofNat 341), (.ofNat 0, .ofNat 4), (.ofNat 192, .ofNat 341)], [(57, 191, .inl (0, .ofNat 0)), (52, 6, .inl (3, .ofNat 0))], 2, [some (.inr [52]), some (.inr [20, 21, 22, 23, 24, 25, 26, 27]), some (.inl (.inl (.inr (.ofNat 191)))), some (.inl (.inl (.inl (2, .ofNat 0)))), none], []), ([], []), (4, [(-1, 2)]))
theorem ks693 : aseg kS krf kB [kE542, kE543] (ksp []) kE693 [kC693_0] 30000 (none) = true := by decide +kernel
theorem ks693_0 : aseg kS krf kB [kE542, kE543] (ksp []) kE693 [kC693_0] 30000 (some kC693_0) = true := by decide +kernel
theorem kok693 : aOK kS krf kB kE693 := aOK_of (kal1 kok542 (kal1 kok543 kal0)) (kcl1 ks693_0 kcl0) ks693
/-- ColdShod$StrokePlan.addNext(LColdShod$Idea;I)V -/
def kE694 : aE := (83, 3, ([(.ofNat 0, .ofNat 3), (.ofNat 191, .ofNat 341)], [(57, 190, .inl (0, .ofNat 0)), (52, 6, .inl (1, .ofNat 0))], 0, [some (.inr [52]), some (.inr [20, 21, 22, 23, 24, 25, 26, 27]), some (.inl (.inl (.inr (.ofNat 190)))), none, none], []), ([], none), ([], [], none, ([], [])), ([(52, 6), (58, 0), (58, 1), (58, 2), (58, 3), (58, 4), (58, 5), (58, 6)], [54, 55, 56, 57]))
def kC694_0 : aC := (([(.ofNat 0, .ofNat 3), (.ofNat 191, .ofNat 341), (.ofNat 0, .ofNat 4), (.ofNat 191, .ofNat 341)], [(57, 190, .inl (0, .ofNat 0)), (52, 6, .inl (3, .ofNat 0))], 2, [some (.inr [52]), some (.inr [20, 21, 22, 23, 24, 25, 26, 27]), some (.inl (.inl (.inr (.ofNat 190)))), some (.inl (.inl (.inl (2, .ofNat 0)))), none], []), ([], []), (4, [(-1, 2)]))
theorem ks694 : aseg kS krf kB [kE542, kE543] (ksp []) kE694 [kC694_0] 30000 (none) = true := by decide +kernel
theorem ks694_0 : aseg kS krf kB [kE542, kE543] (ksp []) kE694 [kC694_0] 30000 (some kC694_0) = true := by decide +kernel
theorem kok694 : aOK kS krf kB kE694 := aOK_of (kal1 kok542 (kal1 kok543 kal0)) (kcl1 ks694_0 kcl0) ks694
/-- ColdShod$StrokePlan.addNext(LColdShod$Idea;I)V -/
def kE695 : aE := (83, 3, ([(.ofNat 0, .ofNat 3), (.ofNat 190, .ofNat 341)], [(57, 189, .inl (0, .ofNat 0)), (52, 6, .inl (1, .ofNat 0))], 0, [some (.inr [52]), some (.inr [20, 21, 22, 23, 24, 25, 26, 27]), some (.inl (.inl (.inr (.ofNat 189)))), none, none], []), ([], none), ([], [], none, ([], [])), ([(52, 6), (58, 0), (58, 1), (58, 2), (58, 3), (58, 4), (58, 5), (58, 6)], [54, 55, 56, 57]))
def kC695_0 : aC := (([(.ofNat 0, .ofNat 3), (.ofNat 190, .ofNat 341), (.ofNat 0, .ofNat 4), (.ofNat 190, .ofNat 341)], [(57, 189, .inl (0, .ofNat 0)), (52, 6, .inl (3, .ofNat 0))], 2, [some (.inr [52]), some (.inr [20, 21, 22, 23, 24, 25, 26, 27]), some (.inl (.inl (.inr (.ofNat 189)))), some (.inl (.inl (.inl (2, .ofNat 0)))), none], []), ([], []), (4, [(-1, 2)]))
theorem ks695 : aseg kS krf kB [kE542, kE543] (ksp []) kE695 [kC695_0] 30000 (none) = true := by decide +kernel
theorem ks695_0 : aseg kS krf kB [kE542, kE543] (ksp []) kE695 [kC695_0] 30000 (some kC695_0) = true := by decide +kernel
theorem kok695 : aOK kS krf kB kE695 := aOK_of (kal1 kok542 (kal1 kok543 kal0)) (kcl1 ks695_0 kcl0) ks695
/-- ColdShod$StrokePlan.addNext(LColdShod$Idea;I)V -/
def kE696 : aE := (83, 3, ([(.ofNat 0, .ofNat 3), (.ofNat 189, .ofNat 341)], [(57, 188, .inl (0, .ofNat 0)), (52, 6, .inl (1, .ofNat 0))], 0, [some (.inr [52]), some (.inr [20, 21, 22, 23, 24, 25, 26, 27]), some (.inl (.inl (.inr (.ofNat 188)))), none, none], []), ([], none), ([], [], none, ([], [])), ([(52, 6), (58, 0), (58, 1), (58, 2), (58, 3), (58, 4), (58, 5), (58, 6)], [54, 55, 56, 57]))
def kC696_0 : aC := (([(.ofNat 0, .ofNat 3), (.ofNat 189, .ofNat 341), (.ofNat 0, .ofNat 4), (.ofNat 189, .ofNat 341)], [(57, 188, .inl (0, .ofNat 0)), (52, 6, .inl (3, .ofNat 0))], 2, [some (.inr [52]), some (.inr [20, 21, 22, 23, 24, 25, 26, 27]), some (.inl (.inl (.inr (.ofNat 188)))), some (.inl (.inl (.inl (2, .ofNat 0)))), none], []), ([], []), (4, [(-1, 2)]))
theorem ks696 : aseg kS krf kB [kE542, kE543] (ksp []) kE696 [kC696_0] 30000 (none) = true := by decide +kernel
theorem ks696_0 : aseg kS krf kB [kE542, kE543] (ksp []) kE696 [kC696_0] 30000 (some kC696_0) = true := by decide +kernel
theorem kok696 : aOK kS krf kB kE696 := aOK_of (kal1 kok542 (kal1 kok543 kal0)) (kcl1 ks696_0 kcl0) ks696
/-- ColdShod$StrokePlan.addNext(LColdShod$Idea;I)V -/
def kE697 : aE := (83, 3, ([(.ofNat 0, .ofNat 3), (.ofNat 188, .ofNat 341)], [(57, 187, .inl (0, .ofNat 0)), (52, 6, .inl (1, .ofNat 0))], 0, [some (.inr [52]), some (.inr [20, 21, 22, 23, 24, 25, 26, 27]), some (.inl (.inl (.inr (.ofNat 187)))), none, none], []), ([], none), ([], [], none, ([], [])), ([(52, 6), (58, 0), (58, 1), (58, 2), (58, 3), (58, 4), (58, 5), (58, 6)], [54, 55, 56, 57]))
def kC697_0 : aC := (([(.ofNat 0, .ofNat 3), (.ofNat 188, .ofNat 341), (.ofNat 0, .ofNat 4), (.ofNat 188, .ofNat 341)], [(57, 187, .inl (0, .ofNat 0)), (52, 6, .inl (3, .ofNat 0))], 2, [some (.inr [52]), some (.inr [20, 21, 22, 23, 24, 25, 26, 27]), some (.inl (.inl (.inr (.ofNat 187)))), some (.inl (.inl (.inl (2, .ofNat 0)))), none], []), ([], []), (4, [(-1, 2)]))
theorem ks697 : aseg kS krf kB [kE542, kE543] (ksp []) kE697 [kC697_0] 30000 (none) = true := by decide +kernel
theorem ks697_0 : aseg kS krf kB [kE542, kE543] (ksp []) kE697 [kC697_0] 30000 (some kC697_0) = true := by decide +kernel
theorem kok697 : aOK kS krf kB kE697 := aOK_of (kal1 kok542 (kal1 kok543 kal0)) (kcl1 ks697_0 kcl0) ks697
/-- ColdShod$StrokePlan.addNext(LColdShod$Idea;I)V -/
def kE698 : aE := (83, 3, ([(.ofNat 0, .ofNat 3), (.ofNat 187, .ofNat 341)], [(57, 186, .inl (0, .ofNat 0)), (52, 6, .inl (1, .ofNat 0))], 0, [some (.inr [52]), some (.inr [20, 21, 22, 23, 24, 25, 26, 27]), some (.inl (.inl (.inr (.ofNat 186)))), none, none], []), ([], none), ([], [], none, ([], [])), ([(52, 6), (58, 0), (58, 1), (58, 2), (58, 3), (58, 4), (58, 5), (58, 6)], [54, 55, 56, 57]))
def kC698_0 : aC := (([(.ofNat 0, .ofNat 3), (.ofNat 187, .ofNat 341), (.ofNat 0, .ofNat 4), (.ofNat 187, .ofNat 341)], [(57, 186, .inl (0, .ofNat 0)), (52, 6, .inl (3, .ofNat 0))], 2, [some (.inr [52]), some (.inr [20, 21, 22, 23, 24, 25, 26, 27]), some (.inl (.inl (.inr (.ofNat 186)))), some (.inl (.inl (.inl (2, .ofNat 0)))), none], []), ([], []), (4, [(-1, 2)]))
theorem ks698 : aseg kS krf kB [kE542, kE543] (ksp []) kE698 [kC698_0] 30000 (none) = true := by decide +kernel
theorem ks698_0 : aseg kS krf kB [kE542, kE543] (ksp []) kE698 [kC698_0] 30000 (some kC698_0) = true := by decide +kernel
theorem kok698 : aOK kS krf kB kE698 := aOK_of (kal1 kok542 (kal1 kok543 kal0)) (kcl1 ks698_0 kcl0) ks698
/-- ColdShod$StrokePlan.addNext(LColdShod$Idea;I)V -/
def kE699 : aE := (83, 3, ([(.ofNat 0, .ofNat 3), (.ofNat 186, .ofNat 341)], [(57, 185, .inl (0, .ofNat 0)), (52, 6, .inl (1, .ofNat 0))], 0, [some (.inr [52]), some (.inr [20, 21, 22, 23, 24, 25, 26, 27]), some (.inl (.inl (.inr (.ofNat 185)))), none, none], []), ([], none), ([], [], none, ([], [])), ([(52, 6), (58, 0), (58, 1), (58, 2), (58, 3), (58, 4), (58, 5), (58, 6)], [54, 55, 56, 57]))
def kC699_0 : aC := (([(.ofNat 0, .ofNat 3), (.ofNat 186, .ofNat 341), (.ofNat 0, .ofNat 4), (.ofNat 186, .ofNat 341)], [(57, 185, .inl (0, .ofNat 0)), (52, 6, .inl (3, .ofNat 0))], 2, [some (.inr [52]), some (.inr [20, 21, 22, 23, 24, 25, 26, 27]), some (.inl (.inl (.inr (.ofNat 185)))), some (.inl (.inl (.inl (2, .ofNat 0)))), none], []), ([], []), (4, [(-1, 2)]))
theorem ks699 : aseg kS krf kB [kE542, kE543] (ksp []) kE699 [kC699_0] 30000 (none) = true := by decide +kernel
theorem ks699_0 : aseg kS krf kB [kE542, kE543] (ksp []) kE699 [kC699_0] 30000 (some kC699_0) = true := by decide +kernel
theorem kok699 : aOK kS krf kB kE699 := aOK_of (kal1 kok542 (kal1 kok543 kal0)) (kcl1 ks699_0 kcl0) ks699
/-- ColdShod$StrokePlan.addNext(LColdShod$Idea;I)V -/
def kE700 : aE := (83, 3, ([(.ofNat 0, .ofNat 3), (.ofNat 185, .ofNat 341)], [(57, 184, .inl (0, .ofNat 0)), (52, 6, .inl (1, .ofNat 0))], 0, [some (.inr [52]), some (.inr [20, 21, 22, 23, 24, 25, 26, 27]), some (.inl (.inl (.inr (.ofNat 184)))), none, none], []), ([], none), ([], [], none, ([], [])), ([(52, 6), (58, 0), (58, 1), (58, 2), (58, 3), (58, 4), (58, 5), (58, 6)], [54, 55, 56, 57]))
def kC700_0 : aC := (([(.ofNat 0, .ofNat 3), (.ofNat 185, .ofNat 341), (.ofNat 0, .ofNat 4), (.ofNat 185, .ofNat 341)], [(57, 184, .inl (0, .ofNat 0)), (52, 6, .inl (3, .ofNat 0))], 2, [some (.inr [52]), some (.inr [20, 21, 22, 23, 24, 25, 26, 27]), some (.inl (.inl (.inr (.ofNat 184)))), some (.inl (.inl (.inl (2, .ofNat 0)))), none], []), ([], []), (4, [(-1, 2)]))
theorem ks700 : aseg kS krf kB [kE542, kE543] (ksp []) kE700 [kC700_0] 30000 (none) = true := by decide +kernel
theorem ks700_0 : aseg kS krf kB [kE542, kE543] (ksp []) kE700 [kC700_0] 30000 (some kC700_0) = true := by decide +kernel
theorem kok700 : aOK kS krf kB kE700 := aOK_of (kal1 kok542 (kal1 kok543 kal0)) (kcl1 ks700_0 kcl0) ks700
/-- ColdShod$StrokePlan.addNext(LColdShod$Idea;I)V -/
def kE701 : aE := (83, 3, ([(.ofNat 0, .ofNat 3), (.ofNat 184, .ofNat 341)], [(57, 183, .inl (0, .ofNat 0)), (52, 6, .inl (1, .ofNat 0))], 0, [some (.inr [52]), some (.inr [20, 21, 22, 23, 24, 25, 26, 27]), some (.inl (.inl (.inr (.ofNat 183)))), none, none], []), ([], none), ([], [], none, ([], [])), ([(52, 6), (58, 0), (58, 1), (58, 2), (58, 3), (58, 4), (58, 5), (58, 6)], [54, 55, 56, 57]))
def kC701_0 : aC := (([(.ofNat 0, .ofNat 3), (.ofNat 184, .ofNat 341), (.ofNat 0, .ofNat 4), (.ofNat 184, .ofNat 341)], [(57, 183, .inl (0, .ofNat 0)), (52, 6, .inl (3, .ofNat 0))], 2, [some (.inr [52]), some (.inr [20, 21, 22, 23, 24, 25, 26, 27]), some (.inl (.inl (.inr (.ofNat 183)))), some (.inl (.inl (.inl (2, .ofNat 0)))), none], []), ([], []), (4, [(-1, 2)]))
theorem ks701 : aseg kS krf kB [kE542, kE543] (ksp []) kE701 [kC701_0] 30000 (none) = true := by decide +kernel
theorem ks701_0 : aseg kS krf kB [kE542, kE543] (ksp []) kE701 [kC701_0] 30000 (some kC701_0) = true := by decide +kernel
theorem kok701 : aOK kS krf kB kE701 := aOK_of (kal1 kok542 (kal1 kok543 kal0)) (kcl1 ks701_0 kcl0) ks701
/-- ColdShod$StrokePlan.addNext(LColdShod$Idea;I)V -/
def kE702 : aE := (83, 3, ([(.ofNat 0, .ofNat 3), (.ofNat 183, .ofNat 341)], [(57, 182, .inl (0, .ofNat 0)), (52, 6, .inl (1, .ofNat 0))], 0, [some (.inr [52]), some (.inr [20, 21, 22, 23, 24, 25, 26, 27]), some (.inl (.inl (.inr (.ofNat 182)))), none, none], []), ([], none), ([], [], none, ([], [])), ([(52, 6), (58, 0), (58, 1), (58, 2), (58, 3), (58, 4), (58, 5), (58, 6)], [54, 55, 56, 57]))
def kC702_0 : aC := (([(.ofNat 0, .ofNat 3), (.ofNat 183, .ofNat 341), (.ofNat 0, .ofNat 4), (.ofNat 183, .ofNat 341)], [(57, 182, .inl (0, .ofNat 0)), (52, 6, .inl (3, .ofNat 0))], 2, [some (.inr [52]), some (.inr [20, 21, 22, 23, 24, 25, 26, 27]), some (.inl (.inl (.inr (.ofNat 182)))), some (.inl (.inl (.inl (2, .ofNat 0)))), none], []), ([], []), (4, [(-1, 2)]))
theorem ks702 : aseg kS krf kB [kE542, kE543] (ksp []) kE702 [kC702_0] 30000 (none) = true := by decide +kernel
theorem ks702_0 : aseg kS krf kB [kE542, kE543] (ksp []) kE702 [kC702_0] 30000 (some kC702_0) = true := by decide +kernel
theorem kok702 : aOK kS krf kB kE702 := aOK_of (kal1 kok542 (kal1 kok543 kal0)) (kcl1 ks702_0 kcl0) ks702
/-- ColdShod$StrokePlan.addNext(LColdShod$Idea;I)V -/
def kE703 : aE := (83, 3, ([(.ofNat 0, .ofNat 3), (.ofNat 182, .ofNat 341)], [(57, 181, .inl (0, .ofNat 0)), (52, 6, .inl (1, .ofNat 0))], 0, [some (.inr [52]), some (.inr [20, 21, 22, 23, 24, 25, 26, 27]), some (.inl (.inl (.inr (.ofNat 181)))), none, none], []), ([], none), ([], [], none, ([], [])), ([(52, 6), (58, 0), (58, 1), (58, 2), (58, 3), (58, 4), (58, 5), (58, 6)], [54, 55, 56, 57]))
def kC703_0 : aC := (([(.ofNat 0, .ofNat 3), (.ofNat 182, .ofNat 341), (.ofNat 0, .ofNat 4), (.ofNat 182, .ofNat 341)], [(57, 181, .inl (0, .ofNat 0)), (52, 6, .inl (3, .ofNat 0))], 2, [some (.inr [52]), some (.inr [20, 21, 22, 23, 24, 25, 26, 27]), some (.inl (.inl (.inr (.ofNat 181)))), some (.inl (.inl (.inl (2, .ofNat 0)))), none], []), ([], []), (4, [(-1, 2)]))
theorem ks703 : aseg kS krf kB [kE542, kE543] (ksp []) kE703 [kC703_0] 30000 (none) = true := by decide +kernel
theorem ks703_0 : aseg kS krf kB [kE542, kE543] (ksp []) kE703 [kC703_0] 30000 (some kC703_0) = true := by decide +kernel
theorem kok703 : aOK kS krf kB kE703 := aOK_of (kal1 kok542 (kal1 kok543 kal0)) (kcl1 ks703_0 kcl0) ks703
/-- ColdShod$StrokePlan.addNext(LColdShod$Idea;I)V -/
def kE704 : aE := (83, 3, ([(.ofNat 0, .ofNat 3), (.ofNat 181, .ofNat 341)], [(57, 180, .inl (0, .ofNat 0)), (52, 6, .inl (1, .ofNat 0))], 0, [some (.inr [52]), some (.inr [20, 21, 22, 23, 24, 25, 26, 27]), some (.inl (.inl (.inr (.ofNat 180)))), none, none], []), ([], none), ([], [], none, ([], [])), ([(52, 6), (58, 0), (58, 1), (58, 2), (58, 3), (58, 4), (58, 5), (58, 6)], [54, 55, 56, 57]))
def kC704_0 : aC := (([(.ofNat 0, .ofNat 3), (.ofNat 181, .ofNat 341), (.ofNat 0, .ofNat 4), (.ofNat 181, .ofNat 341)], [(57, 180, .inl (0, .ofNat 0)), (52, 6, .inl (3, .ofNat 0))], 2, [some (.inr [52]), some (.inr [20, 21, 22, 23, 24, 25, 26, 27]), some (.inl (.inl (.inr (.ofNat 180)))), some (.inl (.inl (.inl (2, .ofNat 0)))), none], []), ([], []), (4, [(-1, 2)]))
theorem ks704 : aseg kS krf kB [kE542, kE543] (ksp []) kE704 [kC704_0] 30000 (none) = true := by decide +kernel
theorem ks704_0 : aseg kS krf kB [kE542, kE543] (ksp []) kE704 [kC704_0] 30000 (some kC704_0) = true := by decide +kernel
theorem kok704 : aOK kS krf kB kE704 := aOK_of (kal1 kok542 (kal1 kok543 kal0)) (kcl1 ks704_0 kcl0) ks704
/-- ColdShod$StrokePlan.addNext(LColdShod$Idea;I)V -/
def kE705 : aE := (83, 3, ([(.ofNat 0, .ofNat 3), (.ofNat 180, .ofNat 341)], [(57, 179, .inl (0, .ofNat 0)), (52, 6, .inl (1, .ofNat 0))], 0, [some (.inr [52]), some (.inr [20, 21, 22, 23, 24, 25, 26, 27]), some (.inl (.inl (.inr (.ofNat 179)))), none, none], []), ([], none), ([], [], none, ([], [])), ([(52, 6), (58, 0), (58, 1), (58, 2), (58, 3), (58, 4), (58, 5), (58, 6)], [54, 55, 56, 57]))
def kC705_0 : aC := (([(.ofNat 0, .ofNat 3), (.ofNat 180, .ofNat 341), (.ofNat 0, .ofNat 4), (.ofNat 180, .ofNat 341)], [(57, 179, .inl (0, .ofNat 0)), (52, 6, .inl (3, .ofNat 0))], 2, [some (.inr [52]), some (.inr [20, 21, 22, 23, 24, 25, 26, 27]), some (.inl (.inl (.inr (.ofNat 179)))), some (.inl (.inl (.inl (2, .ofNat 0)))), none], []), ([], []), (4, [(-1, 2)]))
theorem ks705 : aseg kS krf kB [kE542, kE543] (ksp []) kE705 [kC705_0] 30000 (none) = true := by decide +kernel
theorem ks705_0 : aseg kS krf kB [kE542, kE543] (ksp []) kE705 [kC705_0] 30000 (some kC705_0) = true := by decide +kernel
theorem kok705 : aOK kS krf kB kE705 := aOK_of (kal1 kok542 (kal1 kok543 kal0)) (kcl1 ks705_0 kcl0) ks705
/-- ColdShod$StrokePlan.addNext(LColdShod$Idea;I)V -/
def kE706 : aE := (83, 3, ([(.ofNat 0, .ofNat 3), (.ofNat 179, .ofNat 341)], [(57, 178, .inl (0, .ofNat 0)), (52, 6, .inl (1, .ofNat 0))], 0, [some (.inr [52]), some (.inr [20, 21, 22, 23, 24, 25, 26, 27]), some (.inl (.inl (.inr (.ofNat 178)))), none, none], []), ([], none), ([], [], none, ([], [])), ([(52, 6), (58, 0), (58, 1), (58, 2), (58, 3), (58, 4), (58, 5), (58, 6)], [54, 55, 56, 57]))
def kC706_0 : aC := (([(.ofNat 0, .ofNat 3), (.ofNat 179, .ofNat 341), (.ofNat 0, .ofNat 4), (.ofNat 179, .ofNat 341)], [(57, 178, .inl (0, .ofNat 0)), (52, 6, .inl (3, .ofNat 0))], 2, [some (.inr [52]), some (.inr [20, 21, 22, 23, 24, 25, 26, 27]), some (.inl (.inl (.inr (.ofNat 178)))), some (.inl (.inl (.inl (2, .ofNat 0)))), none], []), ([], []), (4, [(-1, 2)]))
theorem ks706 : aseg kS krf kB [kE542, kE543] (ksp []) kE706 [kC706_0] 30000 (none) = true := by decide +kernel
theorem ks706_0 : aseg kS krf kB [kE542, kE543] (ksp []) kE706 [kC706_0] 30000 (some kC706_0) = true := by decide +kernel
theorem kok706 : aOK kS krf kB kE706 := aOK_of (kal1 kok542 (kal1 kok543 kal0)) (kcl1 ks706_0 kcl0) ks706
/-- ColdShod$StrokePlan.addNext(LColdShod$Idea;I)V -/
def kE707 : aE := (83, 3, ([(.ofNat 0, .ofNat 3), (.ofNat 178, .ofNat 341)], [(57, 177, .inl (0, .ofNat 0)), (52, 6, .inl (1, .ofNat 0))], 0, [some (.inr [52]), some (.inr [20, 21, 22, 23, 24, 25, 26, 27]), some (.inl (.inl (.inr (.ofNat 177)))), none, none], []), ([], none), ([], [], none, ([], [])), ([(52, 6), (58, 0), (58, 1), (58, 2), (58, 3), (58, 4), (58, 5), (58, 6)], [54, 55, 56, 57]))
def kC707_0 : aC := (([(.ofNat 0, .ofNat 3), (.ofNat 178, .ofNat 341), (.ofNat 0, .ofNat 4), (.ofNat 178, .ofNat 341)], [(57, 177, .inl (0, .ofNat 0)), (52, 6, .inl (3, .ofNat 0))], 2, [some (.inr [52]), some (.inr [20, 21, 22, 23, 24, 25, 26, 27]), some (.inl (.inl (.inr (.ofNat 177)))), some (.inl (.inl (.inl (2, .ofNat 0)))), none], []), ([], []), (4, [(-1, 2)]))
theorem ks707 : aseg kS krf kB [kE542, kE543] (ksp []) kE707 [kC707_0] 30000 (none) = true := by decide +kernel
theorem ks707_0 : aseg kS krf kB [kE542, kE543] (ksp []) kE707 [kC707_0] 30000 (some kC707_0) = true := by decide +kernel
theorem kok707 : aOK kS krf kB kE707 := aOK_of (kal1 kok542 (kal1 kok543 kal0)) (kcl1 ks707_0 kcl0) ks707
/-- ColdShod$StrokePlan.addNext(LColdShod$Idea;I)V -/
def kE708 : aE := (83, 3, ([(.ofNat 0, .ofNat 3), (.ofNat 177, .ofNat 341)], [(57, 176, .inl (0, .ofNat 0)), (52, 6, .inl (1, .ofNat 0))], 0, [some (.inr [52]), some (.inr [20, 21, 22, 23, 24, 25, 26, 27]), some (.inl (.inl (.inr (.ofNat 176)))), none, none], []), ([], none), ([], [], none, ([], [])), ([(52, 6), (58, 0), (58, 1), (58, 2), (58, 3), (58, 4), (58, 5), (58, 6)], [54, 55, 56, 57]))
def kC708_0 : aC := (([(.ofNat 0, .ofNat 3), (.ofNat 177, .ofNat 341), (.ofNat 0, .ofNat 4), (.ofNat 177, .ofNat 341)], [(57, 176, .inl (0, .ofNat 0)), (52, 6, .inl (3, .ofNat 0))], 2, [some (.inr [52]), some (.inr [20, 21, 22, 23, 24, 25, 26, 27]), some (.inl (.inl (.inr (.ofNat 176)))), some (.inl (.inl (.inl (2, .ofNat 0)))), none], []), ([], []), (4, [(-1, 2)]))
theorem ks708 : aseg kS krf kB [kE542, kE543] (ksp []) kE708 [kC708_0] 30000 (none) = true := by decide +kernel
theorem ks708_0 : aseg kS krf kB [kE542, kE543] (ksp []) kE708 [kC708_0] 30000 (some kC708_0) = true := by decide +kernel
theorem kok708 : aOK kS krf kB kE708 := aOK_of (kal1 kok542 (kal1 kok543 kal0)) (kcl1 ks708_0 kcl0) ks708
/-- ColdShod$StrokePlan.addNext(LColdShod$Idea;I)V -/
def kE709 : aE := (83, 3, ([(.ofNat 0, .ofNat 3), (.ofNat 176, .ofNat 341)], [(57, 175, .inl (0, .ofNat 0)), (52, 6, .inl (1, .ofNat 0))], 0, [some (.inr [52]), some (.inr [20, 21, 22, 23, 24, 25, 26, 27]), some (.inl (.inl (.inr (.ofNat 175)))), none, none], []), ([], none), ([], [], none, ([], [])), ([(52, 6), (58, 0), (58, 1), (58, 2), (58, 3), (58, 4), (58, 5), (58, 6)], [54, 55, 56, 57]))
def kC709_0 : aC := (([(.ofNat 0, .ofNat 3), (.ofNat 176, .ofNat 341), (.ofNat 0, .ofNat 4), (.ofNat 176, .ofNat 341)], [(57, 175, .inl (0, .ofNat 0)), (52, 6, .inl (3, .ofNat 0))], 2, [some (.inr [52]), some (.inr [20, 21, 22, 23, 24, 25, 26, 27]), some (.inl (.inl (.inr (.ofNat 175)))), some (.inl (.inl (.inl (2, .ofNat 0)))), none], []), ([], []), (4, [(-1, 2)]))
theorem ks709 : aseg kS krf kB [kE542, kE543] (ksp []) kE709 [kC709_0] 30000 (none) = true := by decide +kernel
theorem ks709_0 : aseg kS krf kB [kE542, kE543] (ksp []) kE709 [kC709_0] 30000 (some kC709_0) = true := by decide +kernel
theorem kok709 : aOK kS krf kB kE709 := aOK_of (kal1 kok542 (kal1 kok543 kal0)) (kcl1 ks709_0 kcl0) ks709
/-- ColdShod$StrokePlan.addNext(LColdShod$Idea;I)V -/
def kE710 : aE := (83, 3, ([(.ofNat 0, .ofNat 3), (.ofNat 175, .ofNat 341)], [(57, 174, .inl (0, .ofNat 0)), (52, 6, .inl (1, .ofNat 0))], 0, [some (.inr [52]), some (.inr [20, 21, 22, 23, 24, 25, 26, 27]), some (.inl (.inl (.inr (.ofNat 174)))), none, none], []), ([], none), ([], [], none, ([], [])), ([(52, 6), (58, 0), (58, 1), (58, 2), (58, 3), (58, 4), (58, 5), (58, 6)], [54, 55, 56, 57]))
def kC710_0 : aC := (([(.ofNat 0, .ofNat 3), (.ofNat 175, .ofNat 341), (.ofNat 0, .ofNat 4), (.ofNat 175, .ofNat 341)], [(57, 174, .inl (0, .ofNat 0)), (52, 6, .inl (3, .ofNat 0))], 2, [some (.inr [52]), some (.inr [20, 21, 22, 23, 24, 25, 26, 27]), some (.inl (.inl (.inr (.ofNat 174)))), some (.inl (.inl (.inl (2, .ofNat 0)))), none], []), ([], []), (4, [(-1, 2)]))
theorem ks710 : aseg kS krf kB [kE542, kE543] (ksp []) kE710 [kC710_0] 30000 (none) = true := by decide +kernel
theorem ks710_0 : aseg kS krf kB [kE542, kE543] (ksp []) kE710 [kC710_0] 30000 (some kC710_0) = true := by decide +kernel
theorem kok710 : aOK kS krf kB kE710 := aOK_of (kal1 kok542 (kal1 kok543 kal0)) (kcl1 ks710_0 kcl0) ks710
/-- ColdShod$StrokePlan.addNext(LColdShod$Idea;I)V -/
def kE711 : aE := (83, 3, ([(.ofNat 0, .ofNat 3), (.ofNat 174, .ofNat 341)], [(57, 173, .inl (0, .ofNat 0)), (52, 6, .inl (1, .ofNat 0))], 0, [some (.inr [52]), some (.inr [20, 21, 22, 23, 24, 25, 26, 27]), some (.inl (.inl (.inr (.ofNat 173)))), none, none], []), ([], none), ([], [], none, ([], [])), ([(52, 6), (58, 0), (58, 1), (58, 2), (58, 3), (58, 4), (58, 5), (58, 6)], [54, 55, 56, 57]))
def kC711_0 : aC := (([(.ofNat 0, .ofNat 3), (.ofNat 174, .ofNat 341), (.ofNat 0, .ofNat 4), (.ofNat 174, .ofNat 341)], [(57, 173, .inl (0, .ofNat 0)), (52, 6, .inl (3, .ofNat 0))], 2, [some (.inr [52]), some (.inr [20, 21, 22, 23, 24, 25, 26, 27]), some (.inl (.inl (.inr (.ofNat 173)))), some (.inl (.inl (.inl (2, .ofNat 0)))), none], []), ([], []), (4, [(-1, 2)]))
theorem ks711 : aseg kS krf kB [kE542, kE543] (ksp []) kE711 [kC711_0] 30000 (none) = true := by decide +kernel
theorem ks711_0 : aseg kS krf kB [kE542, kE543] (ksp []) kE711 [kC711_0] 30000 (some kC711_0) = true := by decide +kernel
theorem kok711 : aOK kS krf kB kE711 := aOK_of (kal1 kok542 (kal1 kok543 kal0)) (kcl1 ks711_0 kcl0) ks711
/-- ColdShod$StrokePlan.addNext(LColdShod$Idea;I)V -/
def kE712 : aE := (83, 3, ([(.ofNat 0, .ofNat 3), (.ofNat 173, .ofNat 341)], [(57, 172, .inl (0, .ofNat 0)), (52, 6, .inl (1, .ofNat 0))], 0, [some (.inr [52]), some (.inr [20, 21, 22, 23, 24, 25, 26, 27]), some (.inl (.inl (.inr (.ofNat 172)))), none, none], []), ([], none), ([], [], none, ([], [])), ([(52, 6), (58, 0), (58, 1), (58, 2), (58, 3), (58, 4), (58, 5), (58, 6)], [54, 55, 56, 57]))
def kC712_0 : aC := (([(.ofNat 0, .ofNat 3), (.ofNat 173, .ofNat 341), (.ofNat 0, .ofNat 4), (.ofNat 173, .ofNat 341)], [(57, 172, .inl (0, .ofNat 0)), (52, 6, .inl (3, .ofNat 0))], 2, [some (.inr [52]), some (.inr [20, 21, 22, 23, 24, 25, 26, 27]), some (.inl (.inl (.inr (.ofNat 172)))), some (.inl (.inl (.inl (2, .ofNat 0)))), none], []), ([], []), (4, [(-1, 2)]))
theorem ks712 : aseg kS krf kB [kE542, kE543] (ksp []) kE712 [kC712_0] 30000 (none) = true := by decide +kernel
theorem ks712_0 : aseg kS krf kB [kE542, kE543] (ksp []) kE712 [kC712_0] 30000 (some kC712_0) = true := by decide +kernel
theorem kok712 : aOK kS krf kB kE712 := aOK_of (kal1 kok542 (kal1 kok543 kal0)) (kcl1 ks712_0 kcl0) ks712
/-- ColdShod$StrokePlan.addNext(LColdShod$Idea;I)V -/
def kE713 : aE := (83, 3, ([(.ofNat 0, .ofNat 3), (.ofNat 172, .ofNat 341)], [(57, 171, .inl (0, .ofNat 0)), (52, 6, .inl (1, .ofNat 0))], 0, [some (.inr [52]), some (.inr [20, 21, 22, 23, 24, 25, 26, 27]), some (.inl (.inl (.inr (.ofNat 171)))), none, none], []), ([], none), ([], [], none, ([], [])), ([(52, 6), (58, 0), (58, 1), (58, 2), (58, 3), (58, 4), (58, 5), (58, 6)], [54, 55, 56, 57]))
def kC713_0 : aC := (([(.ofNat 0, .ofNat 3), (.ofNat 172, .ofNat 341), (.ofNat 0, .ofNat 4), (.ofNat 172, .ofNat 341)], [(57, 171, .inl (0, .ofNat 0)), (52, 6, .inl (3, .ofNat 0))], 2, [some (.inr [52]), some (.inr [20, 21, 22, 23, 24, 25, 26, 27]), some (.inl (.inl (.inr (.ofNat 171)))), some (.inl (.inl (.inl (2, .ofNat 0)))), none], []), ([], []), (4, [(-1, 2)]))
theorem ks713 : aseg kS krf kB [kE542, kE543] (ksp []) kE713 [kC713_0] 30000 (none) = true := by decide +kernel
theorem ks713_0 : aseg kS krf kB [kE542, kE543] (ksp []) kE713 [kC713_0] 30000 (some kC713_0) = true := by decide +kernel
theorem kok713 : aOK kS krf kB kE713 := aOK_of (kal1 kok542 (kal1 kok543 kal0)) (kcl1 ks713_0 kcl0) ks713
/-- ColdShod$StrokePlan.addNext(LColdShod$Idea;I)V -/
def kE714 : aE := (83, 3, ([(.ofNat 0, .ofNat 3), (.ofNat 171, .ofNat 341)], [(57, 170, .inl (0, .ofNat 0)), (52, 6, .inl (1, .ofNat 0))], 0, [some (.inr [52]), some (.inr [20, 21, 22, 23, 24, 25, 26, 27]), some (.inl (.inl (.inr (.ofNat 170)))), none, none], []), ([], none), ([], [], none, ([], [])), ([(52, 6), (58, 0), (58, 1), (58, 2), (58, 3), (58, 4), (58, 5), (58, 6)], [54, 55, 56, 57]))
def kC714_0 : aC := (([(.ofNat 0, .ofNat 3), (.ofNat 171, .ofNat 341), (.ofNat 0, .ofNat 4), (.ofNat 171, .ofNat 341)], [(57, 170, .inl (0, .ofNat 0)), (52, 6, .inl (3, .ofNat 0))], 2, [some (.inr [52]), some (.inr [20, 21, 22, 23, 24, 25, 26, 27]), some (.inl (.inl (.inr (.ofNat 170)))), some (.inl (.inl (.inl (2, .ofNat 0)))), none], []), ([], []), (4, [(-1, 2)]))
theorem ks714 : aseg kS krf kB [kE542, kE543] (ksp []) kE714 [kC714_0] 30000 (none) = true := by decide +kernel
theorem ks714_0 : aseg kS krf kB [kE542, kE543] (ksp []) kE714 [kC714_0] 30000 (some kC714_0) = true := by decide +kernel
theorem kok714 : aOK kS krf kB kE714 := aOK_of (kal1 kok542 (kal1 kok543 kal0)) (kcl1 ks714_0 kcl0) ks714
/-- ColdShod$StrokePlan.addNext(LColdShod$Idea;I)V -/
def kE715 : aE := (83, 3, ([(.ofNat 0, .ofNat 3), (.ofNat 170, .ofNat 341)], [(57, 169, .inl (0, .ofNat 0)), (52, 6, .inl (1, .ofNat 0))], 0, [some (.inr [52]), some (.inr [20, 21, 22, 23, 24, 25, 26, 27]), some (.inl (.inl (.inr (.ofNat 169)))), none, none], []), ([], none), ([], [], none, ([], [])), ([(52, 6), (58, 0), (58, 1), (58, 2), (58, 3), (58, 4), (58, 5), (58, 6)], [54, 55, 56, 57]))
def kC715_0 : aC := (([(.ofNat 0, .ofNat 3), (.ofNat 170, .ofNat 341), (.ofNat 0, .ofNat 4), (.ofNat 170, .ofNat 341)], [(57, 169, .inl (0, .ofNat 0)), (52, 6, .inl (3, .ofNat 0))], 2, [some (.inr [52]), some (.inr [20, 21, 22, 23, 24, 25, 26, 27]), some (.inl (.inl (.inr (.ofNat 169)))), some (.inl (.inl (.inl (2, .ofNat 0)))), none], []), ([], []), (4, [(-1, 2)]))
theorem ks715 : aseg kS krf kB [kE542, kE543] (ksp []) kE715 [kC715_0] 30000 (none) = true := by decide +kernel
theorem ks715_0 : aseg kS krf kB [kE542, kE543] (ksp []) kE715 [kC715_0] 30000 (some kC715_0) = true := by decide +kernel
theorem kok715 : aOK kS krf kB kE715 := aOK_of (kal1 kok542 (kal1 kok543 kal0)) (kcl1 ks715_0 kcl0) ks715
/-- ColdShod$StrokePlan.addNext(LColdShod$Idea;I)V -/
def kE716 : aE := (83, 3, ([(.ofNat 0, .ofNat 3), (.ofNat 169, .ofNat 341)], [(57, 168, .inl (0, .ofNat 0)), (52, 6, .inl (1, .ofNat 0))], 0, [some (.inr [52]), some (.inr [20, 21, 22, 23, 24, 25, 26, 27]), some (.inl (.inl (.inr (.ofNat 168)))), none, none], []), ([], none), ([], [], none, ([], [])), ([(52, 6), (58, 0), (58, 1), (58, 2), (58, 3), (58, 4), (58, 5), (58, 6)], [54, 55, 56, 57]))
def kC716_0 : aC := (([(.ofNat 0, .ofNat 3), (.ofNat 169, .ofNat 341), (.ofNat 0, .ofNat 4), (.ofNat 169, .ofNat 341)], [(57, 168, .inl (0, .ofNat 0)), (52, 6, .inl (3, .ofNat 0))], 2, [some (.inr [52]), some (.inr [20, 21, 22, 23, 24, 25, 26, 27]), some (.inl (.inl (.inr (.ofNat 168)))), some (.inl (.inl (.inl (2, .ofNat 0)))), none], []), ([], []), (4, [(-1, 2)]))
theorem ks716 : aseg kS krf kB [kE542, kE543] (ksp []) kE716 [kC716_0] 30000 (none) = true := by decide +kernel
theorem ks716_0 : aseg kS krf kB [kE542, kE543] (ksp []) kE716 [kC716_0] 30000 (some kC716_0) = true := by decide +kernel
theorem kok716 : aOK kS krf kB kE716 := aOK_of (kal1 kok542 (kal1 kok543 kal0)) (kcl1 ks716_0 kcl0) ks716
/-- ColdShod$StrokePlan.addNext(LColdShod$Idea;I)V -/
def kE717 : aE := (83, 3, ([(.ofNat 0, .ofNat 3), (.ofNat 168, .ofNat 341)], [(57, 167, .inl (0, .ofNat 0)), (52, 6, .inl (1, .ofNat 0))], 0, [some (.inr [52]), some (.inr [20, 21, 22, 23, 24, 25, 26, 27]), some (.inl (.inl (.inr (.ofNat 167)))), none, none], []), ([], none), ([], [], none, ([], [])), ([(52, 6), (58, 0), (58, 1), (58, 2), (58, 3), (58, 4), (58, 5), (58, 6)], [54, 55, 56, 57]))
def kC717_0 : aC := (([(.ofNat 0, .ofNat 3), (.ofNat 168, .ofNat 341), (.ofNat 0, .ofNat 4), (.ofNat 168, .ofNat 341)], [(57, 167, .inl (0, .ofNat 0)), (52, 6, .inl (3, .ofNat 0))], 2, [some (.inr [52]), some (.inr [20, 21, 22, 23, 24, 25, 26, 27]), some (.inl (.inl (.inr (.ofNat 167)))), some (.inl (.inl (.inl (2, .ofNat 0)))), none], []), ([], []), (4, [(-1, 2)]))
theorem ks717 : aseg kS krf kB [kE542, kE543] (ksp []) kE717 [kC717_0] 30000 (none) = true := by decide +kernel
theorem ks717_0 : aseg kS krf kB [kE542, kE543] (ksp []) kE717 [kC717_0] 30000 (some kC717_0) = true := by decide +kernel
theorem kok717 : aOK kS krf kB kE717 := aOK_of (kal1 kok542 (kal1 kok543 kal0)) (kcl1 ks717_0 kcl0) ks717
/-- ColdShod$StrokePlan.addNext(LColdShod$Idea;I)V -/
def kE718 : aE := (83, 3, ([(.ofNat 0, .ofNat 3), (.ofNat 167, .ofNat 341)], [(57, 166, .inl (0, .ofNat 0)), (52, 6, .inl (1, .ofNat 0))], 0, [some (.inr [52]), some (.inr [20, 21, 22, 23, 24, 25, 26, 27]), some (.inl (.inl (.inr (.ofNat 166)))), none, none], []), ([], none), ([], [], none, ([], [])), ([(52, 6), (58, 0), (58, 1), (58, 2), (58, 3), (58, 4), (58, 5), (58, 6)], [54, 55, 56, 57]))
def kC718_0 : aC := (([(.ofNat 0, .ofNat 3), (.ofNat 167, .ofNat 341), (.ofNat 0, .ofNat 4), (.ofNat 167, .ofNat 341)], [(57, 166, .inl (0, .ofNat 0)), (52, 6, .inl (3, .ofNat 0))], 2, [some (.inr [52]), some (.inr [20, 21, 22, 23, 24, 25, 26, 27]), some (.inl (.inl (.inr (.ofNat 166)))), some (.inl (.inl (.inl (2, .ofNat 0)))), none], []), ([], []), (4, [(-1, 2)]))
theorem ks718 : aseg kS krf kB [kE542, kE543] (ksp []) kE718 [kC718_0] 30000 (none) = true := by decide +kernel
theorem ks718_0 : aseg kS krf kB [kE542, kE543] (ksp []) kE718 [kC718_0] 30000 (some kC718_0) = true := by decide +kernel
theorem kok718 : aOK kS krf kB kE718 := aOK_of (kal1 kok542 (kal1 kok543 kal0)) (kcl1 ks718_0 kcl0) ks718
/-- ColdShod$StrokePlan.addNext(LColdShod$Idea;I)V -/
def kE719 : aE := (83, 3, ([(.ofNat 0, .ofNat 3), (.ofNat 166, .ofNat 341)], [(57, 165, .inl (0, .ofNat 0)), (52, 6, .inl (1, .ofNat 0))], 0, [some (.inr [52]), some (.inr [20, 21, 22, 23, 24, 25, 26, 27]), some (.inl (.inl (.inr (.ofNat 165)))), none, none], []), ([], none), ([], [], none, ([], [])), ([(52, 6), (58, 0), (58, 1), (58, 2), (58, 3), (58, 4), (58, 5), (58, 6)], [54, 55, 56, 57]))
def kC719_0 : aC := (([(.ofNat 0, .ofNat 3), (.ofNat 166, .ofNat 341), (.ofNat 0, .ofNat 4), (.ofNat 166, .ofNat 341)], [(57, 165, .inl (0, .ofNat 0)), (52, 6, .inl (3, .ofNat 0))], 2, [some (.inr [52]), some (.inr [20, 21, 22, 23, 24, 25, 26, 27]), some (.inl (.inl (.inr (.ofNat 165)))), some (.inl (.inl (.inl (2, .ofNat 0)))), none], []), ([], []), (4, [(-1, 2)]))
theorem ks719 : aseg kS krf kB [kE542, kE543] (ksp []) kE719 [kC719_0] 30000 (none) = true := by decide +kernel
theorem ks719_0 : aseg kS krf kB [kE542, kE543] (ksp []) kE719 [kC719_0] 30000 (some kC719_0) = true := by decide +kernel
theorem kok719 : aOK kS krf kB kE719 := aOK_of (kal1 kok542 (kal1 kok543 kal0)) (kcl1 ks719_0 kcl0) ks719
/-- ColdShod$StrokePlan.addNext(LColdShod$Idea;I)V -/
def kE720 : aE := (83, 3, ([(.ofNat 0, .ofNat 3), (.ofNat 165, .ofNat 341)], [(57, 164, .inl (0, .ofNat 0)), (52, 6, .inl (1, .ofNat 0))], 0, [some (.inr [52]), some (.inr [20, 21, 22, 23, 24, 25, 26, 27]), some (.inl (.inl (.inr (.ofNat 164)))), none, none], []), ([], none), ([], [], none, ([], [])), ([(52, 6), (58, 0), (58, 1), (58, 2), (58, 3), (58, 4), (58, 5), (58, 6)], [54, 55, 56, 57]))
def kC720_0 : aC := (([(.ofNat 0, .ofNat 3), (.ofNat 165, .ofNat 341), (.ofNat 0, .ofNat 4), (.ofNat 165, .ofNat 341)], [(57, 164, .inl (0, .ofNat 0)), (52, 6, .inl (3, .ofNat 0))], 2, [some (.inr [52]), some (.inr [20, 21, 22, 23, 24, 25, 26, 27]), some (.inl (.inl (.inr (.ofNat 164)))), some (.inl (.inl (.inl (2, .ofNat 0)))), none], []), ([], []), (4, [(-1, 2)]))
theorem ks720 : aseg kS krf kB [kE542, kE543] (ksp []) kE720 [kC720_0] 30000 (none) = true := by decide +kernel
theorem ks720_0 : aseg kS krf kB [kE542, kE543] (ksp []) kE720 [kC720_0] 30000 (some kC720_0) = true := by decide +kernel
theorem kok720 : aOK kS krf kB kE720 := aOK_of (kal1 kok542 (kal1 kok543 kal0)) (kcl1 ks720_0 kcl0) ks720
/-- ColdShod$StrokePlan.addNext(LColdShod$Idea;I)V -/
def kE721 : aE := (83, 3, ([(.ofNat 0, .ofNat 3), (.ofNat 164, .ofNat 341)], [(57, 163, .inl (0, .ofNat 0)), (52, 6, .inl (1, .ofNat 0))], 0, [some (.inr [52]), some (.inr [20, 21, 22, 23, 24, 25, 26, 27]), some (.inl (.inl (.inr (.ofNat 163)))), none, none], []), ([], none), ([], [], none, ([], [])), ([(52, 6), (58, 0), (58, 1), (58, 2), (58, 3), (58, 4), (58, 5), (58, 6)], [54, 55, 56, 57]))
def kC721_0 : aC := (([(.ofNat 0, .ofNat 3), (.ofNat 164, .ofNat 341), (.ofNat 0, .ofNat 4), (.ofNat 164, .ofNat 341)], [(57, 163, .inl (0, .ofNat 0)), (52, 6, .inl (3, .ofNat 0))], 2, [some (.inr [52]), some (.inr [20, 21, 22, 23, 24, 25, 26, 27]), some (.inl (.inl (.inr (.ofNat 163)))), some (.inl (.inl (.inl (2, .ofNat 0)))), none], []), ([], []), (4, [(-1, 2)]))
theorem ks721 : aseg kS krf kB [kE542, kE543] (ksp []) kE721 [kC721_0] 30000 (none) = true := by decide +kernel
theorem ks721_0 : aseg kS krf kB [kE542, kE543] (ksp []) kE721 [kC721_0] 30000 (some kC721_0) = true := by decide +kernel
theorem kok721 : aOK kS krf kB kE721 := aOK_of (kal1 kok542 (kal1 kok543 kal0)) (kcl1 ks721_0 kcl0) ks721
/-- ColdShod$StrokePlan.addNext(LColdShod$Idea;I)V -/
def kE722 : aE := (83, 3, ([(.ofNat 0, .ofNat 3), (.ofNat 163, .ofNat 341)], [(57, 162, .inl (0, .ofNat 0)), (52, 6, .inl (1, .ofNat 0))], 0, [some (.inr [52]), some (.inr [20, 21, 22, 23, 24, 25, 26, 27]), some (.inl (.inl (.inr (.ofNat 162)))), none, none], []), ([], none), ([], [], none, ([], [])), ([(52, 6), (58, 0), (58, 1), (58, 2), (58, 3), (58, 4), (58, 5), (58, 6)], [54, 55, 56, 57]))
def kC722_0 : aC := (([(.ofNat 0, .ofNat 3), (.ofNat 163, .ofNat 341), (.ofNat 0, .ofNat 4), (.ofNat 163, .ofNat 341)], [(57, 162, .inl (0, .ofNat 0)), (52, 6, .inl (3, .ofNat 0))], 2, [some (.inr [52]), some (.inr [20, 21, 22, 23, 24, 25, 26, 27]), some (.inl (.inl (.inr (.ofNat 162)))), some (.inl (.inl (.inl (2, .ofNat 0)))), none], []), ([], []), (4, [(-1, 2)]))
theorem ks722 : aseg kS krf kB [kE542, kE543] (ksp []) kE722 [kC722_0] 30000 (none) = true := by decide +kernel
theorem ks722_0 : aseg kS krf kB [kE542, kE543] (ksp []) kE722 [kC722_0] 30000 (some kC722_0) = true := by decide +kernel
theorem kok722 : aOK kS krf kB kE722 := aOK_of (kal1 kok542 (kal1 kok543 kal0)) (kcl1 ks722_0 kcl0) ks722
/-- ColdShod$StrokePlan.addNext(LColdShod$Idea;I)V -/
def kE723 : aE := (83, 3, ([(.ofNat 0, .ofNat 3), (.ofNat 162, .ofNat 341)], [(57, 161, .inl (0, .ofNat 0)), (52, 6, .inl (1, .ofNat 0))], 0, [some (.inr [52]), some (.inr [20, 21, 22, 23, 24, 25, 26, 27]), some (.inl (.inl (.inr (.ofNat 161)))), none, none], []), ([], none), ([], [], none, ([], [])), ([(52, 6), (58, 0), (58, 1), (58, 2), (58, 3), (58, 4), (58, 5), (58, 6)], [54, 55, 56, 57]))
def kC723_0 : aC := (([(.ofNat 0, .ofNat 3), (.ofNat 162, .ofNat 341), (.ofNat 0, .ofNat 4), (.ofNat 162, .ofNat 341)], [(57, 161, .inl (0, .ofNat 0)), (52, 6, .inl (3, .ofNat 0))], 2, [some (.inr [52]), some (.inr [20, 21, 22, 23, 24, 25, 26, 27]), some (.inl (.inl (.inr (.ofNat 161)))), some (.inl (.inl (.inl (2, .ofNat 0)))), none], []), ([], []), (4, [(-1, 2)]))
theorem ks723 : aseg kS krf kB [kE542, kE543] (ksp []) kE723 [kC723_0] 30000 (none) = true := by decide +kernel
theorem ks723_0 : aseg kS krf kB [kE542, kE543] (ksp []) kE723 [kC723_0] 30000 (some kC723_0) = true := by decide +kernel
theorem kok723 : aOK kS krf kB kE723 := aOK_of (kal1 kok542 (kal1 kok543 kal0)) (kcl1 ks723_0 kcl0) ks723
/-- ColdShod$StrokePlan.addNext(LColdShod$Idea;I)V -/
def kE724 : aE := (83, 3, ([(.ofNat 0, .ofNat 3), (.ofNat 161, .ofNat 341)], [(57, 160, .inl (0, .ofNat 0)), (52, 6, .inl (1, .ofNat 0))], 0, [some (.inr [52]), some (.inr [20, 21, 22, 23, 24, 25, 26, 27]), some (.inl (.inl (.inr (.ofNat 160)))), none, none], []), ([], none), ([], [], none, ([], [])), ([(52, 6), (58, 0), (58, 1), (58, 2), (58, 3), (58, 4), (58, 5), (58, 6)], [54, 55, 56, 57]))
def kC724_0 : aC := (([(.ofNat 0, .ofNat 3), (.ofNat 161, .ofNat 341), (.ofNat 0, .ofNat 4), (.ofNat 161, .ofNat 341)], [(57, 160, .inl (0, .ofNat 0)), (52, 6, .inl (3, .ofNat 0))], 2, [some (.inr [52]), some (.inr [20, 21, 22, 23, 24, 25, 26, 27]), some (.inl (.inl (.inr (.ofNat 160)))), some (.inl (.inl (.inl (2, .ofNat 0)))), none], []), ([], []), (4, [(-1, 2)]))
theorem ks724 : aseg kS krf kB [kE542, kE543] (ksp []) kE724 [kC724_0] 30000 (none) = true := by decide +kernel
theorem ks724_0 : aseg kS krf kB [kE542, kE543] (ksp []) kE724 [kC724_0] 30000 (some kC724_0) = true := by decide +kernel
theorem kok724 : aOK kS krf kB kE724 := aOK_of (kal1 kok542 (kal1 kok543 kal0)) (kcl1 ks724_0 kcl0) ks724
/-- ColdShod$StrokePlan.addNext(LColdShod$Idea;I)V -/
def kE725 : aE := (83, 3, ([(.ofNat 0, .ofNat 3), (.ofNat 160, .ofNat 341)], [(57, 159, .inl (0, .ofNat 0)), (52, 6, .inl (1, .ofNat 0))], 0, [some (.inr [52]), some (.inr [20, 21, 22, 23, 24, 25, 26, 27]), some (.inl (.inl (.inr (.ofNat 159)))), none, none], []), ([], none), ([], [], none, ([], [])), ([(52, 6), (58, 0), (58, 1), (58, 2), (58, 3), (58, 4), (58, 5), (58, 6)], [54, 55, 56, 57]))
def kC725_0 : aC := (([(.ofNat 0, .ofNat 3), (.ofNat 160, .ofNat 341), (.ofNat 0, .ofNat 4), (.ofNat 160, .ofNat 341)], [(57, 159, .inl (0, .ofNat 0)), (52, 6, .inl (3, .ofNat 0))], 2, [some (.inr [52]), some (.inr [20, 21, 22, 23, 24, 25, 26, 27]), some (.inl (.inl (.inr (.ofNat 159)))), some (.inl (.inl (.inl (2, .ofNat 0)))), none], []), ([], []), (4, [(-1, 2)]))
theorem ks725 : aseg kS krf kB [kE542, kE543] (ksp []) kE725 [kC725_0] 30000 (none) = true := by decide +kernel
theorem ks725_0 : aseg kS krf kB [kE542, kE543] (ksp []) kE725 [kC725_0] 30000 (some kC725_0) = true := by decide +kernel
theorem kok725 : aOK kS krf kB kE725 := aOK_of (kal1 kok542 (kal1 kok543 kal0)) (kcl1 ks725_0 kcl0) ks725
/-- ColdShod$StrokePlan.addNext(LColdShod$Idea;I)V -/
def kE726 : aE := (83, 3, ([(.ofNat 0, .ofNat 3), (.ofNat 159, .ofNat 341)], [(57, 158, .inl (0, .ofNat 0)), (52, 6, .inl (1, .ofNat 0))], 0, [some (.inr [52]), some (.inr [20, 21, 22, 23, 24, 25, 26, 27]), some (.inl (.inl (.inr (.ofNat 158)))), none, none], []), ([], none), ([], [], none, ([], [])), ([(52, 6), (58, 0), (58, 1), (58, 2), (58, 3), (58, 4), (58, 5), (58, 6)], [54, 55, 56, 57]))
def kC726_0 : aC := (([(.ofNat 0, .ofNat 3), (.ofNat 159, .ofNat 341), (.ofNat 0, .ofNat 4), (.ofNat 159, .ofNat 341)], [(57, 158, .inl (0, .ofNat 0)), (52, 6, .inl (3, .ofNat 0))], 2, [some (.inr [52]), some (.inr [20, 21, 22, 23, 24, 25, 26, 27]), some (.inl (.inl (.inr (.ofNat 158)))), some (.inl (.inl (.inl (2, .ofNat 0)))), none], []), ([], []), (4, [(-1, 2)]))
theorem ks726 : aseg kS krf kB [kE542, kE543] (ksp []) kE726 [kC726_0] 30000 (none) = true := by decide +kernel
theorem ks726_0 : aseg kS krf kB [kE542, kE543] (ksp []) kE726 [kC726_0] 30000 (some kC726_0) = true := by decide +kernel
theorem kok726 : aOK kS krf kB kE726 := aOK_of (kal1 kok542 (kal1 kok543 kal0)) (kcl1 ks726_0 kcl0) ks726
/-- ColdShod$StrokePlan.addNext(LColdShod$Idea;I)V -/
def kE727 : aE := (83, 3, ([(.ofNat 0, .ofNat 3), (.ofNat 158, .ofNat 341)], [(57, 157, .inl (0, .ofNat 0)), (52, 6, .inl (1, .ofNat 0))], 0, [some (.inr [52]), some (.inr [20, 21, 22, 23, 24, 25, 26, 27]), some (.inl (.inl (.inr (.ofNat 157)))), none, none], []), ([], none), ([], [], none, ([], [])), ([(52, 6), (58, 0), (58, 1), (58, 2), (58, 3), (58, 4), (58, 5), (58, 6)], [54, 55, 56, 57]))
def kC727_0 : aC := (([(.ofNat 0, .ofNat 3), (.ofNat 158, .ofNat 341), (.ofNat 0, .ofNat 4), (.ofNat 158, .ofNat 341)], [(57, 157, .inl (0, .ofNat 0)), (52, 6, .inl (3, .ofNat 0))], 2, [some (.inr [52]), some (.inr [20, 21, 22, 23, 24, 25, 26, 27]), some (.inl (.inl (.inr (.ofNat 157)))), some (.inl (.inl (.inl (2, .ofNat 0)))), none], []), ([], []), (4, [(-1, 2)]))
theorem ks727 : aseg kS krf kB [kE542, kE543] (ksp []) kE727 [kC727_0] 30000 (none) = true := by decide +kernel
theorem ks727_0 : aseg kS krf kB [kE542, kE543] (ksp []) kE727 [kC727_0] 30000 (some kC727_0) = true := by decide +kernel
theorem kok727 : aOK kS krf kB kE727 := aOK_of (kal1 kok542 (kal1 kok543 kal0)) (kcl1 ks727_0 kcl0) ks727
/-- ColdShod$StrokePlan.addNext(LColdShod$Idea;I)V -/
def kE728 : aE := (83, 3, ([(.ofNat 0, .ofNat 3), (.ofNat 157, .ofNat 341)], [(57, 156, .inl (0, .ofNat 0)), (52, 6, .inl (1, .ofNat 0))], 0, [some (.inr [52]), some (.inr [20, 21, 22, 23, 24, 25, 26, 27]), some (.inl (.inl (.inr (.ofNat 156)))), none, none], []), ([], none), ([], [], none, ([], [])), ([(52, 6), (58, 0), (58, 1), (58, 2), (58, 3), (58, 4), (58, 5), (58, 6)], [54, 55, 56, 57]))
def kC728_0 : aC := (([(.ofNat 0, .ofNat 3), (.ofNat 157, .ofNat 341), (.ofNat 0, .ofNat 4), (.ofNat 157, .ofNat 341)], [(57, 156, .inl (0, .ofNat 0)), (52, 6, .inl (3, .ofNat 0))], 2, [some (.inr [52]), some (.inr [20, 21, 22, 23, 24, 25, 26, 27]), some (.inl (.inl (.inr (.ofNat 156)))), some (.inl (.inl (.inl (2, .ofNat 0)))), none], []), ([], []), (4, [(-1, 2)]))
theorem ks728 : aseg kS krf kB [kE542, kE543] (ksp []) kE728 [kC728_0] 30000 (none) = true := by decide +kernel
theorem ks728_0 : aseg kS krf kB [kE542, kE543] (ksp []) kE728 [kC728_0] 30000 (some kC728_0) = true := by decide +kernel
theorem kok728 : aOK kS krf kB kE728 := aOK_of (kal1 kok542 (kal1 kok543 kal0)) (kcl1 ks728_0 kcl0) ks728
/-- ColdShod$StrokePlan.addNext(LColdShod$Idea;I)V -/
def kE729 : aE := (83, 3, ([(.ofNat 0, .ofNat 3), (.ofNat 156, .ofNat 341)], [(57, 155, .inl (0, .ofNat 0)), (52, 6, .inl (1, .ofNat 0))], 0, [some (.inr [52]), some (.inr [20, 21, 22, 23, 24, 25, 26, 27]), some (.inl (.inl (.inr (.ofNat 155)))), none, none], []), ([], none), ([], [], none, ([], [])), ([(52, 6), (58, 0), (58, 1), (58, 2), (58, 3), (58, 4), (58, 5), (58, 6)], [54, 55, 56, 57]))
def kC729_0 : aC := (([(.ofNat 0, .ofNat 3), (.ofNat 156, .ofNat 341), (.ofNat 0, .ofNat 4), (.ofNat 156, .ofNat 341)], [(57, 155, .inl (0, .ofNat 0)), (52, 6, .inl (3, .ofNat 0))], 2, [some (.inr [52]), some (.inr [20, 21, 22, 23, 24, 25, 26, 27]), some (.inl (.inl (.inr (.ofNat 155)))), some (.inl (.inl (.inl (2, .ofNat 0)))), none], []), ([], []), (4, [(-1, 2)]))
theorem ks729 : aseg kS krf kB [kE542, kE543] (ksp []) kE729 [kC729_0] 30000 (none) = true := by decide +kernel
theorem ks729_0 : aseg kS krf kB [kE542, kE543] (ksp []) kE729 [kC729_0] 30000 (some kC729_0) = true := by decide +kernel
theorem kok729 : aOK kS krf kB kE729 := aOK_of (kal1 kok542 (kal1 kok543 kal0)) (kcl1 ks729_0 kcl0) ks729
/-- ColdShod$StrokePlan.addNext(LColdShod$Idea;I)V -/
def kE730 : aE := (83, 3, ([(.ofNat 0, .ofNat 3), (.ofNat 155, .ofNat 341)], [(57, 154, .inl (0, .ofNat 0)), (52, 6, .inl (1, .ofNat 0))], 0, [some (.inr [52]), some (.inr [20, 21, 22, 23, 24, 25, 26, 27]), some (.inl (.inl (.inr (.ofNat 154)))), none, none], []), ([], none), ([], [], none, ([], [])), ([(52, 6), (58, 0), (58, 1), (58, 2), (58, 3), (58, 4), (58, 5), (58, 6)], [54, 55, 56, 57]))
def kC730_0 : aC := (([(.ofNat 0, .ofNat 3), (.ofNat 155, .ofNat 341), (.ofNat 0, .ofNat 4), (.ofNat 155, .ofNat 341)], [(57, 154, .inl (0, .ofNat 0)), (52, 6, .inl (3, .ofNat 0))], 2, [some (.inr [52]), some (.inr [20, 21, 22, 23, 24, 25, 26, 27]), some (.inl (.inl (.inr (.ofNat 154)))), some (.inl (.inl (.inl (2, .ofNat 0)))), none], []), ([], []), (4, [(-1, 2)]))
theorem ks730 : aseg kS krf kB [kE542, kE543] (ksp []) kE730 [kC730_0] 30000 (none) = true := by decide +kernel
theorem ks730_0 : aseg kS krf kB [kE542, kE543] (ksp []) kE730 [kC730_0] 30000 (some kC730_0) = true := by decide +kernel
theorem kok730 : aOK kS krf kB kE730 := aOK_of (kal1 kok542 (kal1 kok543 kal0)) (kcl1 ks730_0 kcl0) ks730
/-- ColdShod$StrokePlan.addNext(LColdShod$Idea;I)V -/
def kE731 : aE := (83, 3, ([(.ofNat 0, .ofNat 3), (.ofNat 154, .ofNat 341)], [(57, 153, .inl (0, .ofNat 0)), (52, 6, .inl (1, .ofNat 0))], 0, [some (.inr [52]), some (.inr [20, 21, 22, 23, 24, 25, 26, 27]), some (.inl (.inl (.inr (.ofNat 153)))), none, none], []), ([], none), ([], [], none, ([], [])), ([(52, 6), (58, 0), (58, 1), (58, 2), (58, 3), (58, 4), (58, 5), (58, 6)], [54, 55, 56, 57]))
def kC731_0 : aC := (([(.ofNat 0, .ofNat 3), (.ofNat 154, .ofNat 341), (.ofNat 0, .ofNat 4), (.ofNat 154, .ofNat 341)], [(57, 153, .inl (0, .ofNat 0)), (52, 6, .inl (3, .ofNat 0))], 2, [some (.inr [52]), some (.inr [20, 21, 22, 23, 24, 25, 26, 27]), some (.inl (.inl (.inr (.ofNat 153)))), some (.inl (.inl (.inl (2, .ofNat 0)))), none], []), ([], []), (4, [(-1, 2)]))
theorem ks731 : aseg kS krf kB [kE542, kE543] (ksp []) kE731 [kC731_0] 30000 (none) = true := by decide +kernel
theorem ks731_0 : aseg kS krf kB [kE542, kE543] (ksp []) kE731 [kC731_0] 30000 (some kC731_0) = true := by decide +kernel
theorem kok731 : aOK kS krf kB kE731 := aOK_of (kal1 kok542 (kal1 kok543 kal0)) (kcl1 ks731_0 kcl0) ks731
/-- ColdShod$StrokePlan.addNext(LColdShod$Idea;I)V -/
def kE732 : aE := (83, 3, ([(.ofNat 0, .ofNat 3), (.ofNat 153, .ofNat 341)], [(57, 152, .inl (0, .ofNat 0)), (52, 6, .inl (1, .ofNat 0))], 0, [some (.inr [52]), some (.inr [20, 21, 22, 23, 24, 25, 26, 27]), some (.inl (.inl (.inr (.ofNat 152)))), none, none], []), ([], none), ([], [], none, ([], [])), ([(52, 6), (58, 0), (58, 1), (58, 2), (58, 3), (58, 4), (58, 5), (58, 6)], [54, 55, 56, 57]))
def kC732_0 : aC := (([(.ofNat 0, .ofNat 3), (.ofNat 153, .ofNat 341), (.ofNat 0, .ofNat 4), (.ofNat 153, .ofNat 341)], [(57, 152, .inl (0, .ofNat 0)), (52, 6, .inl (3, .ofNat 0))], 2, [some (.inr [52]), some (.inr [20, 21, 22, 23, 24, 25, 26, 27]), some (.inl (.inl (.inr (.ofNat 152)))), some (.inl (.inl (.inl (2, .ofNat 0)))), none], []), ([], []), (4, [(-1, 2)]))
theorem ks732 : aseg kS krf kB [kE542, kE543] (ksp []) kE732 [kC732_0] 30000 (none) = true := by decide +kernel
theorem ks732_0 : aseg kS krf kB [kE542, kE543] (ksp []) kE732 [kC732_0] 30000 (some kC732_0) = true := by decide +kernel
theorem kok732 : aOK kS krf kB kE732 := aOK_of (kal1 kok542 (kal1 kok543 kal0)) (kcl1 ks732_0 kcl0) ks732
/-- ColdShod$StrokePlan.addNext(LColdShod$Idea;I)V -/
def kE733 : aE := (83, 3, ([(.ofNat 0, .ofNat 3), (.ofNat 152, .ofNat 341)], [(57, 151, .inl (0, .ofNat 0)), (52, 6, .inl (1, .ofNat 0))], 0, [some (.inr [52]), some (.inr [20, 21, 22, 23, 24, 25, 26, 27]), some (.inl (.inl (.inr (.ofNat 151)))), none, none], []), ([], none), ([], [], none, ([], [])), ([(52, 6), (58, 0), (58, 1), (58, 2), (58, 3), (58, 4), (58, 5), (58, 6)], [54, 55, 56, 57]))
def kC733_0 : aC := (([(.ofNat 0, .ofNat 3), (.ofNat 152, .ofNat 341), (.ofNat 0, .ofNat 4), (.ofNat 152, .ofNat 341)], [(57, 151, .inl (0, .ofNat 0)), (52, 6, .inl (3, .ofNat 0))], 2, [some (.inr [52]), some (.inr [20, 21, 22, 23, 24, 25, 26, 27]), some (.inl (.inl (.inr (.ofNat 151)))), some (.inl (.inl (.inl (2, .ofNat 0)))), none], []), ([], []), (4, [(-1, 2)]))
theorem ks733 : aseg kS krf kB [kE542, kE543] (ksp []) kE733 [kC733_0] 30000 (none) = true := by decide +kernel
theorem ks733_0 : aseg kS krf kB [kE542, kE543] (ksp []) kE733 [kC733_0] 30000 (some kC733_0) = true := by decide +kernel
theorem kok733 : aOK kS krf kB kE733 := aOK_of (kal1 kok542 (kal1 kok543 kal0)) (kcl1 ks733_0 kcl0) ks733
/-- ColdShod$StrokePlan.addNext(LColdShod$Idea;I)V -/
def kE734 : aE := (83, 3, ([(.ofNat 0, .ofNat 3), (.ofNat 151, .ofNat 341)], [(57, 150, .inl (0, .ofNat 0)), (52, 6, .inl (1, .ofNat 0))], 0, [some (.inr [52]), some (.inr [20, 21, 22, 23, 24, 25, 26, 27]), some (.inl (.inl (.inr (.ofNat 150)))), none, none], []), ([], none), ([], [], none, ([], [])), ([(52, 6), (58, 0), (58, 1), (58, 2), (58, 3), (58, 4), (58, 5), (58, 6)], [54, 55, 56, 57]))
def kC734_0 : aC := (([(.ofNat 0, .ofNat 3), (.ofNat 151, .ofNat 341), (.ofNat 0, .ofNat 4), (.ofNat 151, .ofNat 341)], [(57, 150, .inl (0, .ofNat 0)), (52, 6, .inl (3, .ofNat 0))], 2, [some (.inr [52]), some (.inr [20, 21, 22, 23, 24, 25, 26, 27]), some (.inl (.inl (.inr (.ofNat 150)))), some (.inl (.inl (.inl (2, .ofNat 0)))), none], []), ([], []), (4, [(-1, 2)]))
theorem ks734 : aseg kS krf kB [kE542, kE543] (ksp []) kE734 [kC734_0] 30000 (none) = true := by decide +kernel
theorem ks734_0 : aseg kS krf kB [kE542, kE543] (ksp []) kE734 [kC734_0] 30000 (some kC734_0) = true := by decide +kernel
theorem kok734 : aOK kS krf kB kE734 := aOK_of (kal1 kok542 (kal1 kok543 kal0)) (kcl1 ks734_0 kcl0) ks734
/-- ColdShod$StrokePlan.addNext(LColdShod$Idea;I)V -/
def kE735 : aE := (83, 3, ([(.ofNat 0, .ofNat 3), (.ofNat 150, .ofNat 341)], [(57, 149, .inl (0, .ofNat 0)), (52, 6, .inl (1, .ofNat 0))], 0, [some (.inr [52]), some (.inr [20, 21, 22, 23, 24, 25, 26, 27]), some (.inl (.inl (.inr (.ofNat 149)))), none, none], []), ([], none), ([], [], none, ([], [])), ([(52, 6), (58, 0), (58, 1), (58, 2), (58, 3), (58, 4), (58, 5), (58, 6)], [54, 55, 56, 57]))
def kC735_0 : aC := (([(.ofNat 0, .ofNat 3), (.ofNat 150, .ofNat 341), (.ofNat 0, .ofNat 4), (.ofNat 150, .ofNat 341)], [(57, 149, .inl (0, .ofNat 0)), (52, 6, .inl (3, .ofNat 0))], 2, [some (.inr [52]), some (.inr [20, 21, 22, 23, 24, 25, 26, 27]), some (.inl (.inl (.inr (.ofNat 149)))), some (.inl (.inl (.inl (2, .ofNat 0)))), none], []), ([], []), (4, [(-1, 2)]))
theorem ks735 : aseg kS krf kB [kE542, kE543] (ksp []) kE735 [kC735_0] 30000 (none) = true := by decide +kernel
theorem ks735_0 : aseg kS krf kB [kE542, kE543] (ksp []) kE735 [kC735_0] 30000 (some kC735_0) = true := by decide +kernel
theorem kok735 : aOK kS krf kB kE735 := aOK_of (kal1 kok542 (kal1 kok543 kal0)) (kcl1 ks735_0 kcl0) ks735
/-- ColdShod$StrokePlan.addNext(LColdShod$Idea;I)V -/
def kE736 : aE := (83, 3, ([(.ofNat 0, .ofNat 3), (.ofNat 149, .ofNat 341)], [(57, 148, .inl (0, .ofNat 0)), (52, 6, .inl (1, .ofNat 0))], 0, [some (.inr [52]), some (.inr [20, 21, 22, 23, 24, 25, 26, 27]), some (.inl (.inl (.inr (.ofNat 148)))), none, none], []), ([], none), ([], [], none, ([], [])), ([(52, 6), (58, 0), (58, 1), (58, 2), (58, 3), (58, 4), (58, 5), (58, 6)], [54, 55, 56, 57]))
def kC736_0 : aC := (([(.ofNat 0, .ofNat 3), (.ofNat 149, .ofNat 341), (.ofNat 0, .ofNat 4), (.ofNat 149, .ofNat 341)], [(57, 148, .inl (0, .ofNat 0)), (52, 6, .inl (3, .ofNat 0))], 2, [some (.inr [52]), some (.inr [20, 21, 22, 23, 24, 25, 26, 27]), some (.inl (.inl (.inr (.ofNat 148)))), some (.inl (.inl (.inl (2, .ofNat 0)))), none], []), ([], []), (4, [(-1, 2)]))
theorem ks736 : aseg kS krf kB [kE542, kE543] (ksp []) kE736 [kC736_0] 30000 (none) = true := by decide +kernel
theorem ks736_0 : aseg kS krf kB [kE542, kE543] (ksp []) kE736 [kC736_0] 30000 (some kC736_0) = true := by decide +kernel
theorem kok736 : aOK kS krf kB kE736 := aOK_of (kal1 kok542 (kal1 kok543 kal0)) (kcl1 ks736_0 kcl0) ks736
/-- ColdShod$StrokePlan.addNext(LColdShod$Idea;I)V -/
def kE737 : aE := (83, 3, ([(.ofNat 0, .ofNat 3), (.ofNat 148, .ofNat 341)], [(57, 147, .inl (0, .ofNat 0)), (52, 6, .inl (1, .ofNat 0))], 0, [some (.inr [52]), some (.inr [20, 21, 22, 23, 24, 25, 26, 27]), some (.inl (.inl (.inr (.ofNat 147)))), none, none], []), ([], none), ([], [], none, ([], [])), ([(52, 6), (58, 0), (58, 1), (58, 2), (58, 3), (58, 4), (58, 5), (58, 6)], [54, 55, 56, 57]))
def kC737_0 : aC := (([(.ofNat 0, .ofNat 3), (.ofNat 148, .ofNat 341), (.ofNat 0, .ofNat 4), (.ofNat 148, .ofNat 341)], [(57, 147, .inl (0, .ofNat 0)), (52, 6, .inl (3, .ofNat 0))], 2, [some (.inr [52]), some (.inr [20, 21, 22, 23, 24, 25, 26, 27]), some (.inl (.inl (.inr (.ofNat 147)))), some (.inl (.inl (.inl (2, .ofNat 0)))), none], []), ([], []), (4, [(-1, 2)]))
theorem ks737 : aseg kS krf kB [kE542, kE543] (ksp []) kE737 [kC737_0] 30000 (none) = true := by decide +kernel
theorem ks737_0 : aseg kS krf kB [kE542, kE543] (ksp []) kE737 [kC737_0] 30000 (some kC737_0) = true := by decide +kernel
theorem kok737 : aOK kS krf kB kE737 := aOK_of (kal1 kok542 (kal1 kok543 kal0)) (kcl1 ks737_0 kcl0) ks737
/-- ColdShod$StrokePlan.addNext(LColdShod$Idea;I)V -/
def kE738 : aE := (83, 3, ([(.ofNat 0, .ofNat 3), (.ofNat 147, .ofNat 341)], [(57, 146, .inl (0, .ofNat 0)), (52, 6, .inl (1, .ofNat 0))], 0, [some (.inr [52]), some (.inr [20, 21, 22, 23, 24, 25, 26, 27]), some (.inl (.inl (.inr (.ofNat 146)))), none, none], []), ([], none), ([], [], none, ([], [])), ([(52, 6), (58, 0), (58, 1), (58, 2), (58, 3), (58, 4), (58, 5), (58, 6)], [54, 55, 56, 57]))
def kC738_0 : aC := (([(.ofNat 0, .ofNat 3), (.ofNat 147, .ofNat 341), (.ofNat 0, .ofNat 4), (.ofNat 147, .ofNat 341)], [(57, 146, .inl (0, .ofNat 0)), (52, 6, .inl (3, .ofNat 0))], 2, [some (.inr [52]), some (.inr [20, 21, 22, 23, 24, 25, 26, 27]), some (.inl (.inl (.inr (.ofNat 146)))), some (.inl (.inl (.inl (2, .ofNat 0)))), none], []), ([], []), (4, [(-1, 2)]))
theorem ks738 : aseg kS krf kB [kE542, kE543] (ksp []) kE738 [kC738_0] 30000 (none) = true := by decide +kernel
theorem ks738_0 : aseg kS krf kB [kE542, kE543] (ksp []) kE738 [kC738_0] 30000 (some kC738_0) = true := by decide +kernel
theorem kok738 : aOK kS krf kB kE738 := aOK_of (kal1 kok542 (kal1 kok543 kal0)) (kcl1 ks738_0 kcl0) ks738
/-- ColdShod$StrokePlan.addNext(LColdShod$Idea;I)V -/
def kE739 : aE := (83, 3, ([(.ofNat 0, .ofNat 3), (.ofNat 146, .ofNat 341)], [(57, 145, .inl (0, .ofNat 0)), (52, 6, .inl (1, .ofNat 0))], 0, [some (.inr [52]), some (.inr [20, 21, 22, 23, 24, 25, 26, 27]), some (.inl (.inl (.inr (.ofNat 145)))), none, none], []), ([], none), ([], [], none, ([], [])), ([(52, 6), (58, 0), (58, 1), (58, 2), (58, 3), (58, 4), (58, 5), (58, 6)], [54, 55, 56, 57]))
def kC739_0 : aC := (([(.ofNat 0, .ofNat 3), (.ofNat 146, .ofNat 341), (.ofNat 0, .ofNat 4), (.ofNat 146, .ofNat 341)], [(57, 145, .inl (0, .ofNat 0)), (52, 6, .inl (3, .ofNat 0))], 2, [some (.inr [52]), some (.inr [20, 21, 22, 23, 24, 25, 26, 27]), some (.inl (.inl (.inr (.ofNat 145)))), some (.inl (.inl (.inl (2, .ofNat 0)))), none], []), ([], []), (4, [(-1, 2)]))
theorem ks739 : aseg kS krf kB [kE542, kE543] (ksp []) kE739 [kC739_0] 30000 (none) = true := by decide +kernel
theorem ks739_0 : aseg kS krf kB [kE542, kE543] (ksp []) kE739 [kC739_0] 30000 (some kC739_0) = true := by decide +kernel
theorem kok739 : aOK kS krf kB kE739 := aOK_of (kal1 kok542 (kal1 kok543 kal0)) (kcl1 ks739_0 kcl0) ks739
/-- ColdShod$StrokePlan.addNext(LColdShod$Idea;I)V -/
def kE740 : aE := (83, 3, ([(.ofNat 0, .ofNat 3), (.ofNat 145, .ofNat 341)], [(57, 144, .inl (0, .ofNat 0)), (52, 6, .inl (1, .ofNat 0))], 0, [some (.inr [52]), some (.inr [20, 21, 22, 23, 24, 25, 26, 27]), some (.inl (.inl (.inr (.ofNat 144)))), none, none], []), ([], none), ([], [], none, ([], [])), ([(52, 6), (58, 0), (58, 1), (58, 2), (58, 3), (58, 4), (58, 5), (58, 6)], [54, 55, 56, 57]))
def kC740_0 : aC := (([(.ofNat 0, .ofNat 3), (.ofNat 145, .ofNat 341), (.ofNat 0, .ofNat 4), (.ofNat 145, .ofNat 341)], [(57, 144, .inl (0, .ofNat 0)), (52, 6, .inl (3, .ofNat 0))], 2, [some (.inr [52]), some (.inr [20, 21, 22, 23, 24, 25, 26, 27]), some (.inl (.inl (.inr (.ofNat 144)))), some (.inl (.inl (.inl (2, .ofNat 0)))), none], []), ([], []), (4, [(-1, 2)]))
theorem ks740 : aseg kS krf kB [kE542, kE543] (ksp []) kE740 [kC740_0] 30000 (none) = true := by decide +kernel
theorem ks740_0 : aseg kS krf kB [kE542, kE543] (ksp []) kE740 [kC740_0] 30000 (some kC740_0) = true := by decide +kernel
theorem kok740 : aOK kS krf kB kE740 := aOK_of (kal1 kok542 (kal1 kok543 kal0)) (kcl1 ks740_0 kcl0) ks740
/-- ColdShod$StrokePlan.addNext(LColdShod$Idea;I)V -/
def kE741 : aE := (83, 3, ([(.ofNat 0, .ofNat 3), (.ofNat 144, .ofNat 341)], [(57, 143, .inl (0, .ofNat 0)), (52, 6, .inl (1, .ofNat 0))], 0, [some (.inr [52]), some (.inr [20, 21, 22, 23, 24, 25, 26, 27]), some (.inl (.inl (.inr (.ofNat 143)))), none, none], []), ([], none), ([], [], none, ([], [])), ([(52, 6), (58, 0), (58, 1), (58, 2), (58, 3), (58, 4), (58, 5), (58, 6)], [54, 55, 56, 57]))
def kC741_0 : aC := (([(.ofNat 0, .ofNat 3), (.ofNat 144, .ofNat 341), (.ofNat 0, .ofNat 4), (.ofNat 144, .ofNat 341)], [(57, 143, .inl (0, .ofNat 0)), (52, 6, .inl (3, .ofNat 0))], 2, [some (.inr [52]), some (.inr [20, 21, 22, 23, 24, 25, 26, 27]), some (.inl (.inl (.inr (.ofNat 143)))), some (.inl (.inl (.inl (2, .ofNat 0)))), none], []), ([], []), (4, [(-1, 2)]))
theorem ks741 : aseg kS krf kB [kE542, kE543] (ksp []) kE741 [kC741_0] 30000 (none) = true := by decide +kernel
theorem ks741_0 : aseg kS krf kB [kE542, kE543] (ksp []) kE741 [kC741_0] 30000 (some kC741_0) = true := by decide +kernel
theorem kok741 : aOK kS krf kB kE741 := aOK_of (kal1 kok542 (kal1 kok543 kal0)) (kcl1 ks741_0 kcl0) ks741
/-- ColdShod$StrokePlan.addNext(LColdShod$Idea;I)V -/
def kE742 : aE := (83, 3, ([(.ofNat 0, .ofNat 3), (.ofNat 143, .ofNat 341)], [(57, 142, .inl (0, .ofNat 0)), (52, 6, .inl (1, .ofNat 0))], 0, [some (.inr [52]), some (.inr [20, 21, 22, 23, 24, 25, 26, 27]), some (.inl (.inl (.inr (.ofNat 142)))), none, none], []), ([], none), ([], [], none, ([], [])), ([(52, 6), (58, 0), (58, 1), (58, 2), (58, 3), (58, 4), (58, 5), (58, 6)], [54, 55, 56, 57]))
def kC742_0 : aC := (([(.ofNat 0, .ofNat 3), (.ofNat 143, .ofNat 341), (.ofNat 0, .ofNat 4), (.ofNat 143, .ofNat 341)], [(57, 142, .inl (0, .ofNat 0)), (52, 6, .inl (3, .ofNat 0))], 2, [some (.inr [52]), some (.inr [20, 21, 22, 23, 24, 25, 26, 27]), some (.inl (.inl (.inr (.ofNat 142)))), some (.inl (.inl (.inl (2, .ofNat 0)))), none], []), ([], []), (4, [(-1, 2)]))
theorem ks742 : aseg kS krf kB [kE542, kE543] (ksp []) kE742 [kC742_0] 30000 (none) = true := by decide +kernel
theorem ks742_0 : aseg kS krf kB [kE542, kE543] (ksp []) kE742 [kC742_0] 30000 (some kC742_0) = true := by decide +kernel
theorem kok742 : aOK kS krf kB kE742 := aOK_of (kal1 kok542 (kal1 kok543 kal0)) (kcl1 ks742_0 kcl0) ks742
/-- ColdShod$StrokePlan.addNext(LColdShod$Idea;I)V -/
def kE743 : aE := (83, 3, ([(.ofNat 0, .ofNat 3), (.ofNat 142, .ofNat 341)], [(57, 141, .inl (0, .ofNat 0)), (52, 6, .inl (1, .ofNat 0))], 0, [some (.inr [52]), some (.inr [20, 21, 22, 23, 24, 25, 26, 27]), some (.inl (.inl (.inr (.ofNat 141)))), none, none], []), ([], none), ([], [], none, ([], [])), ([(52, 6), (58, 0), (58, 1), (58, 2), (58, 3), (58, 4), (58, 5), (58, 6)], [54, 55, 56, 57]))
def kC743_0 : aC := (([(.ofNat 0, .ofNat 3), (.ofNat 142, .ofNat 341), (.ofNat 0, .ofNat 4), (.ofNat 142, .ofNat 341)], [(57, 141, .inl (0, .ofNat 0)), (52, 6, .inl (3, .ofNat 0))], 2, [some (.inr [52]), some (.inr [20, 21, 22, 23, 24, 25, 26, 27]), some (.inl (.inl (.inr (.ofNat 141)))), some (.inl (.inl (.inl (2, .ofNat 0)))), none], []), ([], []), (4, [(-1, 2)]))
theorem ks743 : aseg kS krf kB [kE542, kE543] (ksp []) kE743 [kC743_0] 30000 (none) = true := by decide +kernel
theorem ks743_0 : aseg kS krf kB [kE542, kE543] (ksp []) kE743 [kC743_0] 30000 (some kC743_0) = true := by decide +kernel
theorem kok743 : aOK kS krf kB kE743 := aOK_of (kal1 kok542 (kal1 kok543 kal0)) (kcl1 ks743_0 kcl0) ks743
/-- ColdShod$StrokePlan.addNext(LColdShod$Idea;I)V -/
def kE744 : aE := (83, 3, ([(.ofNat 0, .ofNat 3), (.ofNat 141, .ofNat 341)], [(57, 140, .inl (0, .ofNat 0)), (52, 6, .inl (1, .ofNat 0))], 0, [some (.inr [52]), some (.inr [20, 21, 22, 23, 24, 25, 26, 27]), some (.inl (.inl (.inr (.ofNat 140)))), none, none], []), ([], none), ([], [], none, ([], [])), ([(52, 6), (58, 0), (58, 1), (58, 2), (58, 3), (58, 4), (58, 5), (58, 6)], [54, 55, 56, 57]))
def kC744_0 : aC := (([(.ofNat 0, .ofNat 3), (.ofNat 141, .ofNat 341), (.ofNat 0, .ofNat 4), (.ofNat 141, .ofNat 341)], [(57, 140, .inl (0, .ofNat 0)), (52, 6, .inl (3, .ofNat 0))], 2, [some (.inr [52]), some (.inr [20, 21, 22, 23, 24, 25, 26, 27]), some (.inl (.inl (.inr (.ofNat 140)))), some (.inl (.inl (.inl (2, .ofNat 0)))), none], []), ([], []), (4, [(-1, 2)]))
theorem ks744 : aseg kS krf kB [kE542, kE543] (ksp []) kE744 [kC744_0] 30000 (none) = true := by decide +kernel
theorem ks744_0 : aseg kS krf kB [kE542, kE543] (ksp []) kE744 [kC744_0] 30000 (some kC744_0) = true := by decide +kernel
theorem kok744 : aOK kS krf kB kE744 := aOK_of (kal1 kok542 (kal1 kok543 kal0)) (kcl1 ks744_0 kcl0) ks744
/-- ColdShod$StrokePlan.addNext(LColdShod$Idea;I)V -/
def kE745 : aE := (83, 3, ([(.ofNat 0, .ofNat 3), (.ofNat 140, .ofNat 341)], [(57, 139, .inl (0, .ofNat 0)), (52, 6, .inl (1, .ofNat 0))], 0, [some (.inr [52]), some (.inr [20, 21, 22, 23, 24, 25, 26, 27]), some (.inl (.inl (.inr (.ofNat 139)))), none, none], []), ([], none), ([], [], none, ([], [])), ([(52, 6), (58, 0), (58, 1), (58, 2), (58, 3), (58, 4), (58, 5), (58, 6)], [54, 55, 56, 57]))
def kC745_0 : aC := (([(.ofNat 0, .ofNat 3), (.ofNat 140, .ofNat 341), (.ofNat 0, .ofNat 4), (.ofNat 140, .ofNat 341)], [(57, 139, .inl (0, .ofNat 0)), (52, 6, .inl (3, .ofNat 0))], 2, [some (.inr [52]), some (.inr [20, 21, 22, 23, 24, 25, 26, 27]), some (.inl (.inl (.inr (.ofNat 139)))), some (.inl (.inl (.inl (2, .ofNat 0)))), none], []), ([], []), (4, [(-1, 2)]))
theorem ks745 : aseg kS krf kB [kE542, kE543] (ksp []) kE745 [kC745_0] 30000 (none) = true := by decide +kernel
theorem ks745_0 : aseg kS krf kB [kE542, kE543] (ksp []) kE745 [kC745_0] 30000 (some kC745_0) = true := by decide +kernel
theorem kok745 : aOK kS krf kB kE745 := aOK_of (kal1 kok542 (kal1 kok543 kal0)) (kcl1 ks745_0 kcl0) ks745
/-- ColdShod$StrokePlan.addNext(LColdShod$Idea;I)V -/
def kE746 : aE := (83, 3, ([(.ofNat 0, .ofNat 3), (.ofNat 139, .ofNat 341)], [(57, 138, .inl (0, .ofNat 0)), (52, 6, .inl (1, .ofNat 0))], 0, [some (.inr [52]), some (.inr [20, 21, 22, 23, 24, 25, 26, 27]), some (.inl (.inl (.inr (.ofNat 138)))), none, none], []), ([], none), ([], [], none, ([], [])), ([(52, 6), (58, 0), (58, 1), (58, 2), (58, 3), (58, 4), (58, 5), (58, 6)], [54, 55, 56, 57]))
def kC746_0 : aC := (([(.ofNat 0, .ofNat 3), (.ofNat 139, .ofNat 341), (.ofNat 0, .ofNat 4), (.ofNat 139, .ofNat 341)], [(57, 138, .inl (0, .ofNat 0)), (52, 6, .inl (3, .ofNat 0))], 2, [some (.inr [52]), some (.inr [20, 21, 22, 23, 24, 25, 26, 27]), some (.inl (.inl (.inr (.ofNat 138)))), some (.inl (.inl (.inl (2, .ofNat 0)))), none], []), ([], []), (4, [(-1, 2)]))
theorem ks746 : aseg kS krf kB [kE542, kE543] (ksp []) kE746 [kC746_0] 30000 (none) = true := by decide +kernel
theorem ks746_0 : aseg kS krf kB [kE542, kE543] (ksp []) kE746 [kC746_0] 30000 (some kC746_0) = true := by decide +kernel
theorem kok746 : aOK kS krf kB kE746 := aOK_of (kal1 kok542 (kal1 kok543 kal0)) (kcl1 ks746_0 kcl0) ks746
/-- ColdShod$StrokePlan.addNext(LColdShod$Idea;I)V -/
def kE747 : aE := (83, 3, ([(.ofNat 0, .ofNat 3), (.ofNat 138, .ofNat 341)], [(57, 137, .inl (0, .ofNat 0)), (52, 6, .inl (1, .ofNat 0))], 0, [some (.inr [52]), some (.inr [20, 21, 22, 23, 24, 25, 26, 27]), some (.inl (.inl (.inr (.ofNat 137)))), none, none], []), ([], none), ([], [], none, ([], [])), ([(52, 6), (58, 0), (58, 1), (58, 2), (58, 3), (58, 4), (58, 5), (58, 6)], [54, 55, 56, 57]))
def kC747_0 : aC := (([(.ofNat 0, .ofNat 3), (.ofNat 138, .ofNat 341), (.ofNat 0, .ofNat 4), (.ofNat 138, .ofNat 341)], [(57, 137, .inl (0, .ofNat 0)), (52, 6, .inl (3, .ofNat 0))], 2, [some (.inr [52]), some (.inr [20, 21, 22, 23, 24, 25, 26, 27]), some (.inl (.inl (.inr (.ofNat 137)))), some (.inl (.inl (.inl (2, .ofNat 0)))), none], []), ([], []), (4, [(-1, 2)]))
theorem ks747 : aseg kS krf kB [kE542, kE543] (ksp []) kE747 [kC747_0] 30000 (none) = true := by decide +kernel
theorem ks747_0 : aseg kS krf kB [kE542, kE543] (ksp []) kE747 [kC747_0] 30000 (some kC747_0) = true := by decide +kernel
theorem kok747 : aOK kS krf kB kE747 := aOK_of (kal1 kok542 (kal1 kok543 kal0)) (kcl1 ks747_0 kcl0) ks747
/-- ColdShod$StrokePlan.addNext(LColdShod$Idea;I)V -/
def kE748 : aE := (83, 3, ([(.ofNat 0, .ofNat 3), (.ofNat 137, .ofNat 341)], [(57, 136, .inl (0, .ofNat 0)), (52, 6, .inl (1, .ofNat 0))], 0, [some (.inr [52]), some (.inr [20, 21, 22, 23, 24, 25, 26, 27]), some (.inl (.inl (.inr (.ofNat 136)))), none, none], []), ([], none), ([], [], none, ([], [])), ([(52, 6), (58, 0), (58, 1), (58, 2), (58, 3), (58, 4), (58, 5), (58, 6)], [54, 55, 56, 57]))
def kC748_0 : aC := (([(.ofNat 0, .ofNat 3), (.ofNat 137, .ofNat 341), (.ofNat 0, .ofNat 4), (.ofNat 137, .ofNat 341)], [(57, 136, .inl (0, .ofNat 0)), (52, 6, .inl (3, .ofNat 0))], 2, [some (.inr [52]), some (.inr [20, 21, 22, 23, 24, 25, 26, 27]), some (.inl (.inl (.inr (.ofNat 136)))), some (.inl (.inl (.inl (2, .ofNat 0)))), none], []), ([], []), (4, [(-1, 2)]))
theorem ks748 : aseg kS krf kB [kE542, kE543] (ksp []) kE748 [kC748_0] 30000 (none) = true := by decide +kernel
theorem ks748_0 : aseg kS krf kB [kE542, kE543] (ksp []) kE748 [kC748_0] 30000 (some kC748_0) = true := by decide +kernel
theorem kok748 : aOK kS krf kB kE748 := aOK_of (kal1 kok542 (kal1 kok543 kal0)) (kcl1 ks748_0 kcl0) ks748
/-- ColdShod$StrokePlan.addNext(LColdShod$Idea;I)V -/
def kE749 : aE := (83, 3, ([(.ofNat 0, .ofNat 3), (.ofNat 136, .ofNat 341)], [(57, 135, .inl (0, .ofNat 0)), (52, 6, .inl (1, .ofNat 0))], 0, [some (.inr [52]), some (.inr [20, 21, 22, 23, 24, 25, 26, 27]), some (.inl (.inl (.inr (.ofNat 135)))), none, none], []), ([], none), ([], [], none, ([], [])), ([(52, 6), (58, 0), (58, 1), (58, 2), (58, 3), (58, 4), (58, 5), (58, 6)], [54, 55, 56, 57]))
def kC749_0 : aC := (([(.ofNat 0, .ofNat 3), (.ofNat 136, .ofNat 341), (.ofNat 0, .ofNat 4), (.ofNat 136, .ofNat 341)], [(57, 135, .inl (0, .ofNat 0)), (52, 6, .inl (3, .ofNat 0))], 2, [some (.inr [52]), some (.inr [20, 21, 22, 23, 24, 25, 26, 27]), some (.inl (.inl (.inr (.ofNat 135)))), some (.inl (.inl (.inl (2, .ofNat 0)))), none], []), ([], []), (4, [(-1, 2)]))
theorem ks749 : aseg kS krf kB [kE542, kE543] (ksp []) kE749 [kC749_0] 30000 (none) = true := by decide +kernel
theorem ks749_0 : aseg kS krf kB [kE542, kE543] (ksp []) kE749 [kC749_0] 30000 (some kC749_0) = true := by decide +kernel
theorem kok749 : aOK kS krf kB kE749 := aOK_of (kal1 kok542 (kal1 kok543 kal0)) (kcl1 ks749_0 kcl0) ks749
/-- ColdShod$StrokePlan.addNext(LColdShod$Idea;I)V -/
def kE750 : aE := (83, 3, ([(.ofNat 0, .ofNat 3), (.ofNat 135, .ofNat 341)], [(57, 134, .inl (0, .ofNat 0)), (52, 6, .inl (1, .ofNat 0))], 0, [some (.inr [52]), some (.inr [20, 21, 22, 23, 24, 25, 26, 27]), some (.inl (.inl (.inr (.ofNat 134)))), none, none], []), ([], none), ([], [], none, ([], [])), ([(52, 6), (58, 0), (58, 1), (58, 2), (58, 3), (58, 4), (58, 5), (58, 6)], [54, 55, 56, 57]))
def kC750_0 : aC := (([(.ofNat 0, .ofNat 3), (.ofNat 135, .ofNat 341), (.ofNat 0, .ofNat 4), (.ofNat 135, .ofNat 341)], [(57, 134, .inl (0, .ofNat 0)), (52, 6, .inl (3, .ofNat 0))], 2, [some (.inr [52]), some (.inr [20, 21, 22, 23, 24, 25, 26, 27]), some (.inl (.inl (.inr (.ofNat 134)))), some (.inl (.inl (.inl (2, .ofNat 0)))), none], []), ([], []), (4, [(-1, 2)]))
theorem ks750 : aseg kS krf kB [kE542, kE543] (ksp []) kE750 [kC750_0] 30000 (none) = true := by decide +kernel
theorem ks750_0 : aseg kS krf kB [kE542, kE543] (ksp []) kE750 [kC750_0] 30000 (some kC750_0) = true := by decide +kernel
theorem kok750 : aOK kS krf kB kE750 := aOK_of (kal1 kok542 (kal1 kok543 kal0)) (kcl1 ks750_0 kcl0) ks750
/-- ColdShod$StrokePlan.addNext(LColdShod$Idea;I)V -/
def kE751 : aE := (83, 3, ([(.ofNat 0, .ofNat 3), (.ofNat 134, .ofNat 341)], [(57, 133, .inl (0, .ofNat 0)), (52, 6, .inl (1, .ofNat 0))], 0, [some (.inr [52]), some (.inr [20, 21, 22, 23, 24, 25, 26, 27]), some (.inl (.inl (.inr (.ofNat 133)))), none, none], []), ([], none), ([], [], none, ([], [])), ([(52, 6), (58, 0), (58, 1), (58, 2), (58, 3), (58, 4), (58, 5), (58, 6)], [54, 55, 56, 57]))
def kC751_0 : aC := (([(.ofNat 0, .ofNat 3), (.ofNat 134, .ofNat 341), (.ofNat 0, .ofNat 4), (.ofNat 134, .ofNat 341)], [(57, 133, .inl (0, .ofNat 0)), (52, 6, .inl (3, .ofNat 0))], 2, [some (.inr [52]), some (.inr [20, 21, 22, 23, 24, 25, 26, 27]), some (.inl (.inl (.inr (.ofNat 133)))), some (.inl (.inl (.inl (2, .ofNat 0)))), none], []), ([], []), (4, [(-1, 2)]))
theorem ks751 : aseg kS krf kB [kE542, kE543] (ksp []) kE751 [kC751_0] 30000 (none) = true := by decide +kernel
theorem ks751_0 : aseg kS krf kB [kE542, kE543] (ksp []) kE751 [kC751_0] 30000 (some kC751_0) = true := by decide +kernel
theorem kok751 : aOK kS krf kB kE751 := aOK_of (kal1 kok542 (kal1 kok543 kal0)) (kcl1 ks751_0 kcl0) ks751
/-- ColdShod$StrokePlan.addNext(LColdShod$Idea;I)V -/
def kE752 : aE := (83, 3, ([(.ofNat 0, .ofNat 3), (.ofNat 133, .ofNat 341)], [(57, 132, .inl (0, .ofNat 0)), (52, 6, .inl (1, .ofNat 0))], 0, [some (.inr [52]), some (.inr [20, 21, 22, 23, 24, 25, 26, 27]), some (.inl (.inl (.inr (.ofNat 132)))), none, none], []), ([], none), ([], [], none, ([], [])), ([(52, 6), (58, 0), (58, 1), (58, 2), (58, 3), (58, 4), (58, 5), (58, 6)], [54, 55, 56, 57]))
def kC752_0 : aC := (([(.ofNat 0, .ofNat 3), (.ofNat 133, .ofNat 341), (.ofNat 0, .ofNat 4), (.ofNat 133, .ofNat 341)], [(57, 132, .inl (0, .ofNat 0)), (52, 6, .inl (3, .ofNat 0))], 2, [some (.inr [52]), some (.inr [20, 21, 22, 23, 24, 25, 26, 27]), some (.inl (.inl (.inr (.ofNat 132)))), some (.inl (.inl (.inl (2, .ofNat 0)))), none], []), ([], []), (4, [(-1, 2)]))
theorem ks752 : aseg kS krf kB [kE542, kE543] (ksp []) kE752 [kC752_0] 30000 (none) = true := by decide +kernel
theorem ks752_0 : aseg kS krf kB [kE542, kE543] (ksp []) kE752 [kC752_0] 30000 (some kC752_0) = true := by decide +kernel
theorem kok752 : aOK kS krf kB kE752 := aOK_of (kal1 kok542 (kal1 kok543 kal0)) (kcl1 ks752_0 kcl0) ks752
/-- ColdShod$StrokePlan.addNext(LColdShod$Idea;I)V -/
def kE753 : aE := (83, 3, ([(.ofNat 0, .ofNat 3), (.ofNat 132, .ofNat 341)], [(57, 131, .inl (0, .ofNat 0)), (52, 6, .inl (1, .ofNat 0))], 0, [some (.inr [52]), some (.inr [20, 21, 22, 23, 24, 25, 26, 27]), some (.inl (.inl (.inr (.ofNat 131)))), none, none], []), ([], none), ([], [], none, ([], [])), ([(52, 6), (58, 0), (58, 1), (58, 2), (58, 3), (58, 4), (58, 5), (58, 6)], [54, 55, 56, 57]))
def kC753_0 : aC := (([(.ofNat 0, .ofNat 3), (.ofNat 132, .ofNat 341), (.ofNat 0, .ofNat 4), (.ofNat 132, .ofNat 341)], [(57, 131, .inl (0, .ofNat 0)), (52, 6, .inl (3, .ofNat 0))], 2, [some (.inr [52]), some (.inr [20, 21, 22, 23, 24, 25, 26, 27]), some (.inl (.inl (.inr (.ofNat 131)))), some (.inl (.inl (.inl (2, .ofNat 0)))), none], []), ([], []), (4, [(-1, 2)]))
theorem ks753 : aseg kS krf kB [kE542, kE543] (ksp []) kE753 [kC753_0] 30000 (none) = true := by decide +kernel
theorem ks753_0 : aseg kS krf kB [kE542, kE543] (ksp []) kE753 [kC753_0] 30000 (some kC753_0) = true := by decide +kernel
theorem kok753 : aOK kS krf kB kE753 := aOK_of (kal1 kok542 (kal1 kok543 kal0)) (kcl1 ks753_0 kcl0) ks753
/-- ColdShod$StrokePlan.addNext(LColdShod$Idea;I)V -/
def kE754 : aE := (83, 3, ([(.ofNat 0, .ofNat 3), (.ofNat 131, .ofNat 341)], [(57, 130, .inl (0, .ofNat 0)), (52, 6, .inl (1, .ofNat 0))], 0, [some (.inr [52]), some (.inr [20, 21, 22, 23, 24, 25, 26, 27]), some (.inl (.inl (.inr (.ofNat 130)))), none, none], []), ([], none), ([], [], none, ([], [])), ([(52, 6), (58, 0), (58, 1), (58, 2), (58, 3), (58, 4), (58, 5), (58, 6)], [54, 55, 56, 57]))
def kC754_0 : aC := (([(.ofNat 0, .ofNat 3), (.ofNat 131, .ofNat 341), (.ofNat 0, .ofNat 4), (.ofNat 131, .ofNat 341)], [(57, 130, .inl (0, .ofNat 0)), (52, 6, .inl (3, .ofNat 0))], 2, [some (.inr [52]), some (.inr [20, 21, 22, 23, 24, 25, 26, 27]), some (.inl (.inl (.inr (.ofNat 130)))), some (.inl (.inl (.inl (2, .ofNat 0)))), none], []), ([], []), (4, [(-1, 2)]))
theorem ks754 : aseg kS krf kB [kE542, kE543] (ksp []) kE754 [kC754_0] 30000 (none) = true := by decide +kernel
theorem ks754_0 : aseg kS krf kB [kE542, kE543] (ksp []) kE754 [kC754_0] 30000 (some kC754_0) = true := by decide +kernel
theorem kok754 : aOK kS krf kB kE754 := aOK_of (kal1 kok542 (kal1 kok543 kal0)) (kcl1 ks754_0 kcl0) ks754
/-- ColdShod$StrokePlan.addNext(LColdShod$Idea;I)V -/
def kE755 : aE := (83, 3, ([(.ofNat 0, .ofNat 3), (.ofNat 130, .ofNat 341)], [(57, 129, .inl (0, .ofNat 0)), (52, 6, .inl (1, .ofNat 0))], 0, [some (.inr [52]), some (.inr [20, 21, 22, 23, 24, 25, 26, 27]), some (.inl (.inl (.inr (.ofNat 129)))), none, none], []), ([], none), ([], [], none, ([], [])), ([(52, 6), (58, 0), (58, 1), (58, 2), (58, 3), (58, 4), (58, 5), (58, 6)], [54, 55, 56, 57]))
def kC755_0 : aC := (([(.ofNat 0, .ofNat 3), (.ofNat 130, .ofNat 341), (.ofNat 0, .ofNat 4), (.ofNat 130, .ofNat 341)], [(57, 129, .inl (0, .ofNat 0)), (52, 6, .inl (3, .ofNat 0))], 2, [some (.inr [52]), some (.inr [20, 21, 22, 23, 24, 25, 26, 27]), some (.inl (.inl (.inr (.ofNat 129)))), some (.inl (.inl (.inl (2, .ofNat 0)))), none], []), ([], []), (4, [(-1, 2)]))
theorem ks755 : aseg kS krf kB [kE542, kE543] (ksp []) kE755 [kC755_0] 30000 (none) = true := by decide +kernel
theorem ks755_0 : aseg kS krf kB [kE542, kE543] (ksp []) kE755 [kC755_0] 30000 (some kC755_0) = true := by decide +kernel
theorem kok755 : aOK kS krf kB kE755 := aOK_of (kal1 kok542 (kal1 kok543 kal0)) (kcl1 ks755_0 kcl0) ks755
/-- ColdShod$StrokePlan.addNext(LColdShod$Idea;I)V -/
def kE756 : aE := (83, 3, ([(.ofNat 0, .ofNat 3), (.ofNat 129, .ofNat 341)], [(57, 128, .inl (0, .ofNat 0)), (52, 6, .inl (1, .ofNat 0))], 0, [some (.inr [52]), some (.inr [20, 21, 22, 23, 24, 25, 26, 27]), some (.inl (.inl (.inr (.ofNat 128)))), none, none], []), ([], none), ([], [], none, ([], [])), ([(52, 6), (58, 0), (58, 1), (58, 2), (58, 3), (58, 4), (58, 5), (58, 6)], [54, 55, 56, 57]))
def kC756_0 : aC := (([(.ofNat 0, .ofNat 3), (.ofNat 129, .ofNat 341), (.ofNat 0, .ofNat 4), (.ofNat 129, .ofNat 341)], [(57, 128, .inl (0, .ofNat 0)), (52, 6, .inl (3, .ofNat 0))], 2, [some (.inr [52]), some (.inr [20, 21, 22, 23, 24, 25, 26, 27]), some (.inl (.inl (.inr (.ofNat 128)))), some (.inl (.inl (.inl (2, .ofNat 0)))), none], []), ([], []), (4, [(-1, 2)]))
theorem ks756 : aseg kS krf kB [kE542, kE543] (ksp []) kE756 [kC756_0] 30000 (none) = true := by decide +kernel
theorem ks756_0 : aseg kS krf kB [kE542, kE543] (ksp []) kE756 [kC756_0] 30000 (some kC756_0) = true := by decide +kernel
theorem kok756 : aOK kS krf kB kE756 := aOK_of (kal1 kok542 (kal1 kok543 kal0)) (kcl1 ks756_0 kcl0) ks756
/-- ColdShod$StrokePlan.addNext(LColdShod$Idea;I)V -/
def kE757 : aE := (83, 3, ([(.ofNat 0, .ofNat 3), (.ofNat 128, .ofNat 341)], [(57, 127, .inl (0, .ofNat 0)), (52, 6, .inl (1, .ofNat 0))], 0, [some (.inr [52]), some (.inr [20, 21, 22, 23, 24, 25, 26, 27]), some (.inl (.inl (.inr (.ofNat 127)))), none, none], []), ([], none), ([], [], none, ([], [])), ([(52, 6), (58, 0), (58, 1), (58, 2), (58, 3), (58, 4), (58, 5), (58, 6)], [54, 55, 56, 57]))
def kC757_0 : aC := (([(.ofNat 0, .ofNat 3), (.ofNat 128, .ofNat 341), (.ofNat 0, .ofNat 4), (.ofNat 128, .ofNat 341)], [(57, 127, .inl (0, .ofNat 0)), (52, 6, .inl (3, .ofNat 0))], 2, [some (.inr [52]), some (.inr [20, 21, 22, 23, 24, 25, 26, 27]), some (.inl (.inl (.inr (.ofNat 127)))), some (.inl (.inl (.inl (2, .ofNat 0)))), none], []), ([], []), (4, [(-1, 2)]))
theorem ks757 : aseg kS krf kB [kE542, kE543] (ksp []) kE757 [kC757_0] 30000 (none) = true := by decide +kernel
theorem ks757_0 : aseg kS krf kB [kE542, kE543] (ksp []) kE757 [kC757_0] 30000 (some kC757_0) = true := by decide +kernel
theorem kok757 : aOK kS krf kB kE757 := aOK_of (kal1 kok542 (kal1 kok543 kal0)) (kcl1 ks757_0 kcl0) ks757
/-- ColdShod$StrokePlan.addNext(LColdShod$Idea;I)V -/
def kE758 : aE := (83, 3, ([(.ofNat 0, .ofNat 3), (.ofNat 127, .ofNat 341)], [(57, 126, .inl (0, .ofNat 0)), (52, 6, .inl (1, .ofNat 0))], 0, [some (.inr [52]), some (.inr [20, 21, 22, 23, 24, 25, 26, 27]), some (.inl (.inl (.inr (.ofNat 126)))), none, none], []), ([], none), ([], [], none, ([], [])), ([(52, 6), (58, 0), (58, 1), (58, 2), (58, 3), (58, 4), (58, 5), (58, 6)], [54, 55, 56, 57]))
def kC758_0 : aC := (([(.ofNat 0, .ofNat 3), (.ofNat 127, .ofNat 341), (.ofNat 0, .ofNat 4), (.ofNat 127, .ofNat 341)], [(57, 126, .inl (0, .ofNat 0)), (52, 6, .inl (3, .ofNat 0))], 2, [some (.inr [52]), some (.inr [20, 21, 22, 23, 24, 25, 26, 27]), some (.inl (.inl (.inr (.ofNat 126)))), some (.inl (.inl (.inl (2, .ofNat 0)))), none], []), ([], []), (4, [(-1, 2)]))
theorem ks758 : aseg kS krf kB [kE542, kE543] (ksp []) kE758 [kC758_0] 30000 (none) = true := by decide +kernel
theorem ks758_0 : aseg kS krf kB [kE542, kE543] (ksp []) kE758 [kC758_0] 30000 (some kC758_0) = true := by decide +kernel
theorem kok758 : aOK kS krf kB kE758 := aOK_of (kal1 kok542 (kal1 kok543 kal0)) (kcl1 ks758_0 kcl0) ks758
/-- ColdShod$StrokePlan.addNext(LColdShod$Idea;I)V -/
def kE759 : aE := (83, 3, ([(.ofNat 0, .ofNat 3), (.ofNat 126, .ofNat 341)], [(57, 125, .inl (0, .ofNat 0)), (52, 6, .inl (1, .ofNat 0))], 0, [some (.inr [52]), some (.inr [20, 21, 22, 23, 24, 25, 26, 27]), some (.inl (.inl (.inr (.ofNat 125)))), none, none], []), ([], none), ([], [], none, ([], [])), ([(52, 6), (58, 0), (58, 1), (58, 2), (58, 3), (58, 4), (58, 5), (58, 6)], [54, 55, 56, 57]))
def kC759_0 : aC := (([(.ofNat 0, .ofNat 3), (.ofNat 126, .ofNat 341), (.ofNat 0, .ofNat 4), (.ofNat 126, .ofNat 341)], [(57, 125, .inl (0, .ofNat 0)), (52, 6, .inl (3, .ofNat 0))], 2, [some (.inr [52]), some (.inr [20, 21, 22, 23, 24, 25, 26, 27]), some (.inl (.inl (.inr (.ofNat 125)))), some (.inl (.inl (.inl (2, .ofNat 0)))), none], []), ([], []), (4, [(-1, 2)]))
theorem ks759 : aseg kS krf kB [kE542, kE543] (ksp []) kE759 [kC759_0] 30000 (none) = true := by decide +kernel
theorem ks759_0 : aseg kS krf kB [kE542, kE543] (ksp []) kE759 [kC759_0] 30000 (some kC759_0) = true := by decide +kernel
theorem kok759 : aOK kS krf kB kE759 := aOK_of (kal1 kok542 (kal1 kok543 kal0)) (kcl1 ks759_0 kcl0) ks759
