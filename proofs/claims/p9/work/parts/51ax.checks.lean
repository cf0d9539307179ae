/-! ENTRIES and their checks: printed by a program (wip/ai). -/
/-- ColdShod$StrokePlan.addNext(LColdShod$Idea;I)V -/
def kE760 : aE := (83, 3, ([(.ofNat 0, .ofNat 3), (.ofNat 245, .ofNat 341)], [(57, 244, .inl (0, .ofNat 0)), (52, 6, .inl (1, .ofNat 0))], 0, [some (.inr [52]), some (.inr [20, 21, 22, 23, 24, 25, 26, 27]), some (.inl (.inl (.inr (.ofNat 244)))), none, none], []), ([], none), ([], [], none, ([], [])), ([(52, 6), (58, 0), (58, 1), (58, 2), (58, 3), (58, 4), (58, 5), (58, 6)], [54, 55, 56, 57]))
def kC760_0 : aC := (([(.ofNat 0, .ofNat 3), (.ofNat 245, .ofNat 341), (.ofNat 0, .ofNat 4), (.ofNat 245, .ofNat 341)], [(57, 244, .inl (0, .ofNat 0)), (52, 6, .inl (3, .ofNat 0))], 2, [some (.inr [52]), some (.inr [20, 21, 22, 23, 24, 25, 26, 27]), some (.inl (.inl (.inr (.ofNat 244)))), some (.inl (.inl (.inl (2, .ofNat 0)))), none], []), ([], []), (4, [(-1, 2)]))
theorem ks760 : aseg kS krf kB [kE542, kE543] (ksp []) kE760 [kC760_0] 30000 (none) = true := by decide +kernel
theorem ks760_0 : aseg kS krf kB [kE542, kE543] (ksp []) kE760 [kC760_0] 30000 (some kC760_0) = true := by decide +kernel
theorem kok760 : aOK kS krf kB kE760 := aOK_of (kal1 kok542 (kal1 kok543 kal0)) (kcl1 ks760_0 kcl0) ks760
/-- ColdShod$StrokePlan.addNext(LColdShod$Idea;I)V -/
def kE761 : aE := (83, 3, ([(.ofNat 0, .ofNat 3), (.ofNat 244, .ofNat 341)], [(57, 243, .inl (0, .ofNat 0)), (52, 6, .inl (1, .ofNat 0))], 0, [some (.inr [52]), some (.inr [20, 21, 22, 23, 24, 25, 26, 27]), some (.inl (.inl (.inr (.ofNat 243)))), none, none], []), ([], none), ([], [], none, ([], [])), ([(52, 6), (58, 0), (58, 1), (58, 2), (58, 3), (58, 4), (58, 5), (58, 6)], [54, 55, 56, 57]))
def kC761_0 : aC := (([(.ofNat 0, .ofNat 3), (.ofNat 244, .ofNat 341), (.ofNat 0, .ofNat 4), (.ofNat 244, .ofNat 341)], [(57, 243, .inl (0, .ofNat 0)), (52, 6, .inl (3, .ofNat 0))], 2, [some (.inr [52]), some (.inr [20, 21, 22, 23, 24, 25, 26, 27]), some (.inl (.inl (.inr (.ofNat 243)))), some (.inl (.inl (.inl (2, .ofNat 0)))), none], []), ([], []), (4, [(-1, 2)]))
theorem ks761 : aseg kS krf kB [kE542, kE543] (ksp []) kE761 [kC761_0] 30000 (none) = true := by decide +kernel
theorem ks761_0 : aseg kS krf kB [kE542, kE543] (ksp []) kE761 [kC761_0] 30000 (some kC761_0) = true := by decide +kernel
theorem kok761 : aOK kS krf kB kE761 := aOK_of (kal1 kok542 (kal1 kok543 kal0)) (kcl1 ks761_0 kcl0) ks761
/-- ColdShod$StrokePlan.addNext(LColdShod$Idea;I)V -/
def kE762 : aE := (83, 3, ([(.ofNat 0, .ofNat 3), (.ofNat 243, .ofNat 341)], [(57, 242, .inl (0, .ofNat 0)), (52, 6, .inl (1, .ofNat 0))], 0, [some (.inr [52]), some (.inr [20, 21, 22, 23, 24, 25, 26, 27]), some (.inl (.inl (.inr (.ofNat 242)))), none, none], []), ([], none), ([], [], none, ([], [])), ([(52, 6), (58, 0), (58, 1), (58, 2), (58, 3), (58, 4), (58, 5), (58, 6)], [54, 55, 56, 57]))
def kC762_0 : aC := (([(.ofNat 0, .ofNat 3), (.ofNat 243, .ofNat 341), (.ofNat 0, .ofNat 4), (.ofNat 243, .ofNat 341)], [(57, 242, .inl (0, .ofNat 0)), (52, 6, .inl (3, .ofNat 0))], 2, [some (.inr [52]), some (.inr [20, 21, 22, 23, 24, 25, 26, 27]), some (.inl (.inl (.inr (.ofNat 242)))), some (.inl (.inl (.inl (2, .ofNat 0)))), none], []), ([], []), (4, [(-1, 2)]))
theorem ks762 : aseg kS krf kB [kE542, kE543] (ksp []) kE762 [kC762_0] 30000 (none) = true := by decide +kernel
theorem ks762_0 : aseg kS krf kB [kE542, kE543] (ksp []) kE762 [kC762_0] 30000 (some kC762_0) = true := by decide +kernel
theorem kok762 : aOK kS krf kB kE762 := aOK_of (kal1 kok542 (kal1 kok543 kal0)) (kcl1 ks762_0 kcl0) ks762
/-- ColdShod$StrokePlan.addNext(LColdShod$Idea;I)V -/
def kE763 : aE := (83, 3, ([(.ofNat 0, .ofNat 3), (.ofNat 242, .ofNat 341)], [(57, 241, .inl (0, .ofNat 0)), (52, 6, .inl (1, .ofNat 0))], 0, [some (.inr [52]), some (.inr [20, 21, 22, 23, 24, 25, 26, 27]), some (.inl (.inl (.inr (.ofNat 241)))), none, none], []), ([], none), ([], [], none, ([], [])), ([(52, 6), (58, 0), (58, 1), (58, 2), (58, 3), (58, 4), (58, 5), (58, 6)], [54, 55, 56, 57]))
def kC763_0 : aC := (([(.ofNat 0, .ofNat 3), (.ofNat 242, .ofNat 341), (.ofNat 0, .ofNat 4), (.ofNat 242, .ofNat 341)], [(57, 241, .inl (0, .ofNat 0)), (52, 6, .inl (3, .ofNat 0))], 2, [some (.inr [52]), some (.inr [20, 21, 22, 23, 24, 25, 26, 27]), some (.inl (.inl (.inr (.ofNat 241)))), some (.inl (.inl (.inl (2, .ofNat 0)))), none], []), ([], []), (4, [(-1, 2)]))
theorem ks763 : aseg kS krf kB [kE542, kE543] (ksp []) kE763 [kC763_0] 30000 (none) = true := by decide +kernel
theorem ks763_0 : aseg kS krf kB [kE542, kE543] (ksp []) kE763 [kC763_0] 30000 (some kC763_0) = true := by decide +kernel
theorem kok763 : aOK kS krf kB kE763 := aOK_of (kal1 kok542 (kal1 kok543 kal0)) (kcl1 ks763_0 kcl0) ks763
/-- ColdShod$StrokePlan.addNext(LColdShod$Idea;I)V -/
def kE764 : aE := (83, 3, ([(.ofNat 0, .ofNat 3), (.ofNat 241, .ofNat 341)], [(57, 240, .inl (0, .ofNat 0)), (52, 6, .inl (1, .ofNat 0))], 0, [some (.inr [52]), some (.inr [20, 21, 22, 23, 24, 25, 26, 27]), some (.inl (.inl (.inr (.ofNat 240)))), none, none], []), ([], none), ([], [], none, ([], [])), ([(52, 6), (58, 0), (58, 1), (58, 2), (58, 3), (58, 4), (58, 5), (58, 6)], [54, 55, 56, 57]))
def kC764_0 : aC := (([(.ofNat 0, .ofNat 3), (.ofNat 241, .ofNat 341), (.ofNat 0, .ofNat 4), (.ofNat 241, .ofNat 341)], [(57, 240, .inl (0, .ofNat 0)), (52, 6, .inl (3, .ofNat 0))], 2, [some (.inr [52]), some (.inr [20, 21, 22, 23, 24, 25, 26, 27]), some (.inl (.inl (.inr (.ofNat 240)))), some (.inl (.inl (.inl (2, .ofNat 0)))), none], []), ([], []), (4, [(-1, 2)]))
theorem ks764 : aseg kS krf kB [kE542, kE543] (ksp []) kE764 [kC764_0] 30000 (none) = true := by decide +kernel
theorem ks764_0 : aseg kS krf kB [kE542, kE543] (ksp []) kE764 [kC764_0] 30000 (some kC764_0) = true := by decide +kernel
theorem kok764 : aOK kS krf kB kE764 := aOK_of (kal1 kok542 (kal1 kok543 kal0)) (kcl1 ks764_0 kcl0) ks764
/-- ColdShod$StrokePlan.addNext(LColdShod$Idea;I)V -/
def kE765 : aE := (83, 3, ([(.ofNat 0, .ofNat 3), (.ofNat 240, .ofNat 341)], [(57, 239, .inl (0, .ofNat 0)), (52, 6, .inl (1, .ofNat 0))], 0, [some (.inr [52]), some (.inr [20, 21, 22, 23, 24, 25, 26, 27]), some (.inl (.inl (.inr (.ofNat 239)))), none, none], []), ([], none), ([], [], none, ([], [])), ([(52, 6), (58, 0), (58, 1), (58, 2), (58, 3), (58, 4), (58, 5), (58, 6)], [54, 55, 56, 57]))
def kC765_0 : aC := (([(.ofNat 0, .ofNat 3), (.ofNat 240, .ofNat 341), (.ofNat 0, .ofNat 4), (.ofNat 240, .ofNat 341)], [(57, 239, .inl (0, .ofNat 0)), (52, 6, .inl (3, .ofNat 0))], 2, [some (.inr [52]), some (.inr [20, 21, 22, 23, 24, 25, 26, 27]), some (.inl (.inl (.inr (.ofNat 239)))), some (.inl (.inl (.inl (2, .ofNat 0)))), none], []), ([], []), (4, [(-1, 2)]))
theorem ks765 : aseg kS krf kB [kE542, kE543] (ksp []) kE765 [kC765_0] 30000 (none) = true := by decide +kernel
theorem ks765_0 : aseg kS krf kB [kE542, kE543] (ksp []) kE765 [kC765_0] 30000 (some kC765_0) = true := by decide +kernel
theorem kok765 : aOK kS krf kB kE765 := aOK_of (kal1 kok542 (kal1 kok543 kal0)) (kcl1 ks765_0 kcl0) ks765
/-- ColdShod$StrokePlan.addNext(LColdShod$Idea;I)V -/
def kE766 : aE := (83, 3, ([(.ofNat 0, .ofNat 3), (.ofNat 239, .ofNat 341)], [(57, 238, .inl (0, .ofNat 0)), (52, 6, .inl (1, .ofNat 0))], 0, [some (.inr [52]), some (.inr [20, 21, 22, 23, 24, 25, 26, 27]), some (.inl (.inl (.inr (.ofNat 238)))), none, none], []), ([], none), ([], [], none, ([], [])), ([(52, 6), (58, 0), (58, 1), (58, 2), (58, 3), (58, 4), (58, 5), (58, 6)], [54, 55, 56, 57]))
def kC766_0 : aC := (([(.ofNat 0, .ofNat 3), (.ofNat 239, .ofNat 341), (.ofNat 0, .ofNat 4), (.ofNat 239, .ofNat 341)], [(57, 238, .inl (0, .ofNat 0)), (52, 6, .inl (3, .ofNat 0))], 2, [some (.inr [52]), some (.inr [20, 21, 22, 23, 24, 25, 26, 27]), some (.inl (.inl (.inr (.ofNat 238)))), some (.inl (.inl (.inl (2, .ofNat 0)))), none], []), ([], []), (4, [(-1, 2)]))
theorem ks766 : aseg kS krf kB [kE542, kE543] (ksp []) kE766 [kC766_0] 30000 (none) = true := by decide +kernel
theorem ks766_0 : aseg kS krf kB [kE542, kE543] (ksp []) kE766 [kC766_0] 30000 (some kC766_0) = true := by decide +kernel
theorem kok766 : aOK kS krf kB kE766 := aOK_of (kal1 kok542 (kal1 kok543 kal0)) (kcl1 ks766_0 kcl0) ks766
/-- ColdShod$StrokePlan.addNext(LColdShod$Idea;I)V -/
def kE767 : aE := (83, 3, ([(.ofNat 0, .ofNat 3), (.ofNat 238, .ofNat 341)], [(57, 237, .inl (0, .ofNat 0)), (52, 6, .inl (1, .ofNat 0))], 0, [some (.inr [52]), some (.inr [20, 21, 22, 23, 24, 25, 26, 27]), some (.inl (.inl (.inr (.ofNat 237)))), none, none], []), ([], none), ([], [], none, ([], [])), ([(52, 6), (58, 0), (58, 1), (58, 2), (58, 3), (58, 4), (58, 5), (58, 6)], [54, 55, 56, 57]))
def kC767_0 : aC := (([(.ofNat 0, .ofNat 3), (.ofNat 238, .ofNat 341), (.ofNat 0, .ofNat 4), (.ofNat 238, .ofNat 341)], [(57, 237, .inl (0, .ofNat 0)), (52, 6, .inl (3, .ofNat 0))], 2, [some (.inr [52]), some (.inr [20, 21, 22, 23, 24, 25, 26, 27]), some (.inl (.inl (.inr (.ofNat 237)))), some (.inl (.inl (.inl (2, .ofNat 0)))), none], []), ([], []), (4, [(-1, 2)]))
theorem ks767 : aseg kS krf kB [kE542, kE543] (ksp []) kE767 [kC767_0] 30000 (none) = true := by decide +kernel
theorem ks767_0 : aseg kS krf kB [kE542, kE543] (ksp []) kE767 [kC767_0] 30000 (some kC767_0) = true := by decide +kernel
theorem kok767 : aOK kS krf kB kE767 := aOK_of (kal1 kok542 (kal1 kok543 kal0)) (kcl1 ks767_0 kcl0) ks767
/-- ColdShod$StrokePlan.addNext(LColdShod$Idea;I)V -/
def kE768 : aE := (83, 3, ([(.ofNat 0, .ofNat 3), (.ofNat 237, .ofNat 341)], [(57, 236, .inl (0, .ofNat 0)), (52, 6, .inl (1, .ofNat 0))], 0, [some (.inr [52]), some (.inr [20, 21, 22, 23, 24, 25, 26, 27]), some (.inl (.inl (.inr (.ofNat 236)))), none, none], []), ([], none), ([], [], none, ([], [])), ([(52, 6), (58, 0), (58, 1), (58, 2), (58, 3), (58, 4), (58, 5), (58, 6)], [54, 55, 56, 57]))
def kC768_0 : aC := (([(.ofNat 0, .ofNat 3), (.ofNat 237, .ofNat 341), (.ofNat 0, .ofNat 4), (.ofNat 237, .ofNat 341)], [(57, 236, .inl (0, .ofNat 0)), (52, 6, .inl (3, .ofNat 0))], 2, [some (.inr [52]), some (.inr [20, 21, 22, 23, 24, 25, 26, 27]), some (.inl (.inl (.inr (.ofNat 236)))), some (.inl (.inl (.inl (2, .ofNat 0)))), none], []), ([], []), (4, [(-1, 2)]))
theorem ks768 : aseg kS krf kB [kE542, kE543] (ksp []) kE768 [kC768_0] 30000 (none) = true := by decide +kernel
theorem ks768_0 : aseg kS krf kB [kE542, kE543] (ksp []) kE768 [kC768_0] 30000 (some kC768_0) = true := by decide +kernel
theorem kok768 : aOK kS krf kB kE768 := aOK_of (kal1 kok542 (kal1 kok543 kal0)) (kcl1 ks768_0 kcl0) ks768
/-- ColdShod$StrokePlan.addNext(LColdShod$Idea;I)V -/
def kE769 : aE := (83, 3, ([(.ofNat 0, .ofNat 3), (.ofNat 236, .ofNat 341)], [(57, 235, .inl (0, .ofNat 0)), (52, 6, .inl (1, .ofNat 0))], 0, [some (.inr [52]), some (.inr [20, 21, 22, 23, 24, 25, 26, 27]), some (.inl (.inl (.inr (.ofNat 235)))), none, none], []), ([], none), ([], [], none, ([], [])), ([(52, 6), (58, 0), (58, 1), (58, 2), (58, 3), (58, 4), (58, 5), (58, 6)], [54, 55, 56, 57]))
def kC769_0 : aC := (([(.ofNat 0, .ofNat 3), (.ofNat 236, .ofNat 341), (.ofNat 0, .ofNat 4), (.ofNat 236, .ofNat 341)], [(57, 235, .inl (0, .ofNat 0)), (52, 6, .inl (3, .ofNat 0))], 2, [some (.inr [52]), some (.inr [20, 21, 22, 23, 24, 25, 26, 27]), some (.inl (.inl (.inr (.ofNat 235)))), some (.inl (.inl (.inl (2, .ofNat 0)))), none], []), ([], []), (4, [(-1, 2)]))
theorem ks769 : aseg kS krf kB [kE542, kE543] (ksp []) kE769 [kC769_0] 30000 (none) = true := by decide +kernel
theorem ks769_0 : aseg kS krf kB [kE542, kE543] (ksp []) kE769 [kC769_0] 30000 (some kC769_0) = true := by decide +kernel
theorem kok769 : aOK kS krf kB kE769 := aOK_of (kal1 kok542 (kal1 kok543 kal0)) (kcl1 ks769_0 kcl0) ks769
/-- ColdShod$StrokePlan.addNext(LColdShod$Idea;I)V -/
def kE770 : aE := (83, 3, ([(.ofNat 0, .ofNat 3), (.ofNat 235, .ofNat 341)], [(57, 234, .inl (0, .ofNat 0)), (52, 6, .inl (1, .ofNat 0))], 0, [some (.inr [52]), some (.inr [20, 21, 22, 23, 24, 25, 26, 27]), some (.inl (.inl (.inr (.ofNat 234)))), none, none], []), ([], none), ([], [], none, ([], [])), ([(52, 6), (58, 0), (58, 1), (58, 2), (58, 3), (58, 4), (58, 5), (58, 6)], [54, 55, 56, 57]))
def kC770_0 : aC := (([(.ofNat 0, .ofNat 3), (.ofNat 235, .ofNat 341), (.ofNat 0, .ofNat 4), (.ofNat 235, .ofNat 341)], [(57, 234, .inl (0, .ofNat 0)), (52, 6, .inl (3, .ofNat 0))], 2, [some (.inr [52]), some (.inr [20, 21, 22, 23, 24, 25, 26, 27]), some (.inl (.inl (.inr (.ofNat 234)))), some (.inl (.inl (.inl (2, .ofNat 0)))), none], []), ([], []), (4, [(-1, 2)]))
theorem ks770 : aseg kS krf kB [kE542, kE543] (ksp []) kE770 [kC770_0] 30000 (none) = true := by decide +kernel
theorem ks770_0 : aseg kS krf kB [kE542, kE543] (ksp []) kE770 [kC770_0] 30000 (some kC770_0) = true := by decide +kernel
theorem kok770 : aOK kS krf kB kE770 := aOK_of (kal1 kok542 (kal1 kok543 kal0)) (kcl1 ks770_0 kcl0) ks770
/-- ColdShod$StrokePlan.addNext(LColdShod$Idea;I)V -/
def kE771 : aE := (83, 3, ([(.ofNat 0, .ofNat 3), (.ofNat 234, .ofNat 341)], [(57, 233, .inl (0, .ofNat 0)), (52, 6, .inl (1, .ofNat 0))], 0, [some (.inr [52]), some (.inr [20, 21, 22, 23, 24, 25, 26, 27]), some (.inl (.inl (.inr (.ofNat 233)))), none, none], []), ([], none), ([], [], none, ([], [])), ([(52, 6), (58, 0), (58, 1), (58, 2), (58, 3), (58, 4), (58, 5), (58, 6)], [54, 55, 56, 57]))
def kC771_0 : aC := (([(.ofNat 0, .ofNat 3), (.ofNat 234, .ofNat 341), (.ofNat 0, .ofNat 4), (.ofNat 234, .ofNat 341)], [(57, 233, .inl (0, .ofNat 0)), (52, 6, .inl (3, .ofNat 0))], 2, [some (.inr [52]), some (.inr [20, 21, 22, 23, 24, 25, 26, 27]), some (.inl (.inl (.inr (.ofNat 233)))), some (.inl (.inl (.inl (2, .ofNat 0)))), none], []), ([], []), (4, [(-1, 2)]))
theorem ks771 : aseg kS krf kB [kE542, kE543] (ksp []) kE771 [kC771_0] 30000 (none) = true := by decide +kernel
theorem ks771_0 : aseg kS krf kB [kE542, kE543] (ksp []) kE771 [kC771_0] 30000 (some kC771_0) = true := by decide +kernel
theorem kok771 : aOK kS krf kB kE771 := aOK_of (kal1 kok542 (kal1 kok543 kal0)) (kcl1 ks771_0 kcl0) ks771
/-- ColdShod$StrokePlan.addNext(LColdShod$Idea;I)V -/
def kE772 : aE := (83, 3, ([(.ofNat 0, .ofNat 3), (.ofNat 233, .ofNat 341)], [(57, 232, .inl (0, .ofNat 0)), (52, 6, .inl (1, .ofNat 0))], 0, [some (.inr [52]), some (.inr [20, 21, 22, 23, 24, 25, 26, 27]), some (.inl (.inl (.inr (.ofNat 232)))), none, none], []), ([], none), ([], [], none, ([], [])), ([(52, 6), (58, 0), (58, 1), (58, 2), (58, 3), (58, 4), (58, 5), (58, 6)], [54, 55, 56, 57]))
def kC772_0 : aC := (([(.ofNat 0, .ofNat 3), (.ofNat 233, .ofNat 341), (.ofNat 0, .ofNat 4), (.ofNat 233, .ofNat 341)], [(57, 232, .inl (0, .ofNat 0)), (52, 6, .inl (3, .ofNat 0))], 2, [some (.inr [52]), some (.inr [20, 21, 22, 23, 24, 25, 26, 27]), some (.inl (.inl (.inr (.ofNat 232)))), some (.inl (.inl (.inl (2, .ofNat 0)))), none], []), ([], []), (4, [(-1, 2)]))
theorem ks772 : aseg kS krf kB [kE542, kE543] (ksp []) kE772 [kC772_0] 30000 (none) = true := by decide +kernel
theorem ks772_0 : aseg kS krf kB [kE542, kE543] (ksp []) kE772 [kC772_0] 30000 (some kC772_0) = true := by decide +kernel
theorem kok772 : aOK kS krf kB kE772 := aOK_of (kal1 kok542 (kal1 kok543 kal0)) (kcl1 ks772_0 kcl0) ks772
/-- ColdShod$StrokePlan.addNext(LColdShod$Idea;I)V -/
def kE773 : aE := (83, 3, ([(.ofNat 0, .ofNat 3), (.ofNat 232, .ofNat 341)], [(57, 231, .inl (0, .ofNat 0)), (52, 6, .inl (1, .ofNat 0))], 0, [some (.inr [52]), some (.inr [20, 21, 22, 23, 24, 25, 26, 27]), some (.inl (.inl (.inr (.ofNat 231)))), none, none], []), ([], none), ([], [], none, ([], [])), ([(52, 6), (58, 0), (58, 1), (58, 2), (58, 3), (58, 4), (58, 5), (58, 6)], [54, 55, 56, 57]))
def kC773_0 : aC := (([(.ofNat 0, .ofNat 3), (.ofNat 232, .ofNat 341), (.ofNat 0, .ofNat 4), (.ofNat 232, .ofNat 341)], [(57, 231, .inl (0, .ofNat 0)), (52, 6, .inl (3, .ofNat 0))], 2, [some (.inr [52]), some (.inr [20, 21, 22, 23, 24, 25, 26, 27]), some (.inl (.inl (.inr (.ofNat 231)))), some (.inl (.inl (.inl (2, .ofNat 0)))), none], []), ([], []), (4, [(-1, 2)]))
theorem ks773 : aseg kS krf kB [kE542, kE543] (ksp []) kE773 [kC773_0] 30000 (none) = true := by decide +kernel
theorem ks773_0 : aseg kS krf kB [kE542, kE543] (ksp []) kE773 [kC773_0] 30000 (some kC773_0) = true := by decide +kernel
theorem kok773 : aOK kS krf kB kE773 := aOK_of (kal1 kok542 (kal1 kok543 kal0)) (kcl1 ks773_0 kcl0) ks773
/-- ColdShod$StrokePlan.addNext(LColdShod$Idea;I)V -/
def kE774 : aE := (83, 3, ([(.ofNat 0, .ofNat 3), (.ofNat 231, .ofNat 341)], [(57, 230, .inl (0, .ofNat 0)), (52, 6, .inl (1, .ofNat 0))], 0, [some (.inr [52]), some (.inr [20, 21, 22, 23, 24, 25, 26, 27]), some (.inl (.inl (.inr (.ofNat 230)))), none, none], []), ([], none), ([], [], none, ([], [])), ([(52, 6), (58, 0), (58, 1), (58, 2), (58, 3), (58, 4), (58, 5), (58, 6)], [54, 55, 56, 57]))
def kC774_0 : aC := (([(.ofNat 0, .ofNat 3), (.ofNat 231, .ofNat 341), (.ofNat 0, .ofNat 4), (.ofNat 231, .ofNat 341)], [(57, 230, .inl (0, .ofNat 0)), (52, 6, .inl (3, .ofNat 0))], 2, [some (.inr [52]), some (.inr [20, 21, 22, 23, 24, 25, 26, 27]), some (.inl (.inl (.inr (.ofNat 230)))), some (.inl (.inl (.inl (2, .ofNat 0)))), none], []), ([], []), (4, [(-1, 2)]))
theorem ks774 : aseg kS krf kB [kE542, kE543] (ksp []) kE774 [kC774_0] 30000 (none) = true := by decide +kernel
theorem ks774_0 : aseg kS krf kB [kE542, kE543] (ksp []) kE774 [kC774_0] 30000 (some kC774_0) = true := by decide +kernel
theorem kok774 : aOK kS krf kB kE774 := aOK_of (kal1 kok542 (kal1 kok543 kal0)) (kcl1 ks774_0 kcl0) ks774
/-- ColdShod$StrokePlan.addNext(LColdShod$Idea;I)V -/
def kE775 : aE := (83, 3, ([(.ofNat 0, .ofNat 3), (.ofNat 230, .ofNat 341)], [(57, 229, .inl (0, .ofNat 0)), (52, 6, .inl (1, .ofNat 0))], 0, [some (.inr [52]), some (.inr [20, 21, 22, 23, 24, 25, 26, 27]), some (.inl (.inl (.inr (.ofNat 229)))), none, none], []), ([], none), ([], [], none, ([], [])), ([(52, 6), (58, 0), (58, 1), (58, 2), (58, 3), (58, 4), (58, 5), (58, 6)], [54, 55, 56, 57]))
def kC775_0 : aC := (([(.ofNat 0, .ofNat 3), (.ofNat 230, .ofNat 341), (.ofNat 0, .ofNat 4), (.ofNat 230, .ofNat 341)], [(57, 229, .inl (0, .ofNat 0)), (52, 6, .inl (3, .ofNat 0))], 2, [some (.inr [52]), some (.inr [20, 21, 22, 23, 24, 25, 26, 27]), some (.inl (.inl (.inr (.ofNat 229)))), some (.inl (.inl (.inl (2, .ofNat 0)))), none], []), ([], []), (4, [(-1, 2)]))
theorem ks775 : aseg kS krf kB [kE542, kE543] (ksp []) kE775 [kC775_0] 30000 (none) = true := by decide +kernel
theorem ks775_0 : aseg kS krf kB [kE542, kE543] (ksp []) kE775 [kC775_0] 30000 (some kC775_0) = true := by decide +kernel
theorem kok775 : aOK kS krf kB kE775 := aOK_of (kal1 kok542 (kal1 kok543 kal0)) (kcl1 ks775_0 kcl0) ks775
/-- ColdShod$StrokePlan.addNext(LColdShod$Idea;I)V -/
def kE776 : aE := (83, 3, ([(.ofNat 0, .ofNat 3), (.ofNat 229, .ofNat 341)], [(57, 228, .inl (0, .ofNat 0)), (52, 6, .inl (1, .ofNat 0))], 0, [some (.inr [52]), some (.inr [20, 21, 22, 23, 24, 25, 26, 27]), some (.inl (.inl (.inr (.ofNat 228)))), none, none], []), ([], none), ([], [], none, ([], [])), ([(52, 6), (58, 0), (58, 1), (58, 2), (58, 3), (58, 4), (58, 5), (58, 6)], [54, 55, 56, 57]))
def kC776_0 : aC := (([(.ofNat 0, .ofNat 3), (.ofNat 229, .ofNat 341), (.ofNat 0, .ofNat 4), (.ofNat 229, .ofNat 341)], [(57, 228, .inl (0, .ofNat 0)), (52, 6, .inl (3, .ofNat 0))], 2, [some (.inr [52]), some (.inr [20, 21, 22, 23, 24, 25, 26, 27]), some (.inl (.inl (.inr (.ofNat 228)))), some (.inl (.inl (.inl (2, .ofNat 0)))), none], []), ([], []), (4, [(-1, 2)]))
theorem ks776 : aseg kS krf kB [kE542, kE543] (ksp []) kE776 [kC776_0] 30000 (none) = true := by decide +kernel
theorem ks776_0 : aseg kS krf kB [kE542, kE543] (ksp []) kE776 [kC776_0] 30000 (some kC776_0) = true := by decide +kernel
theorem kok776 : aOK kS krf kB kE776 := aOK_of (kal1 kok542 (kal1 kok543 kal0)) (kcl1 ks776_0 kcl0) ks776
/-- ColdShod$StrokePlan.addNext(LColdShod$Idea;I)V -/
def kE777 : aE := (83, 3, ([(.ofNat 0, .ofNat 3), (.ofNat 228, .ofNat 341)], [(57, 227, .inl (0, .ofNat 0)), (52, 6, .inl (1, .ofNat 0))], 0, [some (.inr [52]), some (.inr [20, 21, 22, 23, 24, 25, 26, 27]), some (.inl (.inl (.inr (.ofNat 227)))), none, none], []), ([], none), ([], [], none, ([], [])), ([(52, 6), (58, 0), (58, 1), (58, 2), (58, 3), (58, 4), (58, 5), (58, 6)], [54, 55, 56, 57]))
def kC777_0 : aC := (([(.ofNat 0, .ofNat 3), (.ofNat 228, .ofNat 341), (.ofNat 0, .ofNat 4), (.ofNat 228, .ofNat 341)], [(57, 227, .inl (0, .ofNat 0)), (52, 6, .inl (3, .ofNat 0))], 2, [some (.inr [52]), some (.inr [20, 21, 22, 23, 24, 25, 26, 27]), some (.inl (.inl (.inr (.ofNat 227)))), some (.inl (.inl (.inl (2, .ofNat 0)))), none], []), ([], []), (4, [(-1, 2)]))
theorem ks777 : aseg kS krf kB [kE542, kE543] (ksp []) kE777 [kC777_0] 30000 (none) = true := by decide +kernel
theorem ks777_0 : aseg kS krf kB [kE542, kE543] (ksp []) kE777 [kC777_0] 30000 (some kC777_0) = true := by decide +kernel
theorem kok777 : aOK kS krf kB kE777 := aOK_of (kal1 kok542 (kal1 kok543 kal0)) (kcl1 ks777_0 kcl0) ks777
/-- ColdShod$StrokePlan.addNext(LColdShod$Idea;I)V -/
def kE778 : aE := (83, 3, ([(.ofNat 0, .ofNat 3), (.ofNat 227, .ofNat 341)], [(57, 226, .inl (0, .ofNat 0)), (52, 6, .inl (1, .ofNat 0))], 0, [some (.inr [52]), some (.inr [20, 21, 22, 23, 24, 25, 26, 27]), some (.inl (.inl (.inr (.ofNat 226)))), none, none], []), ([], none), ([], [], none, ([], [])), ([(52, 6), (58, 0), (58, 1), (58, 2), (58, 3), (58, 4), (58, 5), (58, 6)], [54, 55, 56, 57]))
def kC778_0 : aC := (([(.ofNat 0, .ofNat 3), (.ofNat 227, .ofNat 341), (.ofNat 0, .ofNat 4), (.ofNat 227, .ofNat 341)], [(57, 226, .inl (0, .ofNat 0)), (52, 6, .inl (3, .ofNat 0))], 2, [some (.inr [52]), some (.inr [20, 21, 22, 23, 24, 25, 26, 27]), some (.inl (.inl (.inr (.ofNat 226)))), some (.inl (.inl (.inl (2, .ofNat 0)))), none], []), ([], []), (4, [(-1, 2)]))
theorem ks778 : aseg kS krf kB [kE542, kE543] (ksp []) kE778 [kC778_0] 30000 (none) = true := by decide +kernel
theorem ks778_0 : aseg kS krf kB [kE542, kE543] (ksp []) kE778 [kC778_0] 30000 (some kC778_0) = true := by decide +kernel
theorem kok778 : aOK kS krf kB kE778 := aOK_of (kal1 kok542 (kal1 kok543 kal0)) (kcl1 ks778_0 kcl0) ks778
/-- ColdShod$StrokePlan.addNext(LColdShod$Idea;I)V -/
def kE779 : aE := (83, 3, ([(.ofNat 0, .ofNat 3), (.ofNat 226, .ofNat 341)], [(57, 225, .inl (0, .ofNat 0)), (52, 6, .inl (1, .ofNat 0))], 0, [some (.inr [52]), some (.inr [20, 21, 22, 23, 24, 25, 26, 27]), some (.inl (.inl (.inr (.ofNat 225)))), none, none], []), ([], none), ([], [], none, ([], [])), ([(52, 6), (58, 0), (58, 1), (58, 2), (58, 3), (58, 4), (58, 5), (58, 6)], [54, 55, 56, 57]))
def kC779_0 : aC := (([(.ofNat 0, .ofNat 3), (.ofNat 226, .ofNat 341), (.ofNat 0, .ofNat 4), (.ofNat 226, .ofNat 341)], [(57, 225, .inl (0, .ofNat 0)), (52, 6, .inl (3, .ofNat 0))], 2, [some (.inr [52]), some (.inr [20, 21, 22, 23, 24, 25, 26, 27]), some (.inl (.inl (.inr (.ofNat 225)))), some (.inl (.inl (.inl (2, .ofNat 0)))), none], []), ([], []), (4, [(-1, 2)]))
theorem ks779 : aseg kS krf kB [kE542, kE543] (ksp []) kE779 [kC779_0] 30000 (none) = true := by decide +kernel
theorem ks779_0 : aseg kS krf kB [kE542, kE543] (ksp []) kE779 [kC779_0] 30000 (some kC779_0) = true := by decide +kernel
theorem kok779 : aOK kS krf kB kE779 := aOK_of (kal1 kok542 (kal1 kok543 kal0)) (kcl1 ks779_0 kcl0) ks779
/-- ColdShod$StrokePlan.addNext(LColdShod$Idea;I)V -/
def kE780 : aE := (83, 3, ([(.ofNat 0, .ofNat 3), (.ofNat 225, .ofNat 341)], [(57, 224, .inl (0, .ofNat 0)), (52, 6, .inl (1, .ofNat 0))], 0, [some (.inr [52]), some (.inr [20, 21, 22, 23, 24, 25, 26, 27]), some (.inl (.inl (.inr (.ofNat 224)))), none, none], []), ([], none), ([], [], none, ([], [])), ([(52, 6), (58, 0), (58, 1), (58, 2), (58, 3), (58, 4), (58, 5), (58, 6)], [54, 55, 56, 57]))
def kC780_0 : aC := (([(.ofNat 0, .ofNat 3), (.ofNat 225, .ofNat 341), (.ofNat 0, .ofNat 4), (.ofNat 225, .ofNat 341)], [(57, 224, .inl (0, .ofNat 0)), (52, 6, .inl (3, .ofNat 0))], 2, [some (.inr [52]), some (.inr [20, 21, 22, 23, 24, 25, 26, 27]), some (.inl (.inl (.inr (.ofNat 224)))), some (.inl (.inl (.inl (2, .ofNat 0)))), none], []), ([], []), (4, [(-1, 2)]))
theorem ks780 : aseg kS krf kB [kE542, kE543] (ksp []) kE780 [kC780_0] 30000 (none) = true := by decide +kernel
theorem ks780_0 : aseg kS krf kB [kE542, kE543] (ksp []) kE780 [kC780_0] 30000 (some kC780_0) = true := by decide +kernel
theorem kok780 : aOK kS krf kB kE780 := aOK_of (kal1 kok542 (kal1 kok543 kal0)) (kcl1 ks780_0 kcl0) ks780
/-- ColdShod$StrokePlan.addNext(LColdShod$Idea;I)V -/
def kE781 : aE := (83, 3, ([(.ofNat 0, .ofNat 3), (.ofNat 224, .ofNat 341)], [(57, 223, .inl (0, .ofNat 0)), (52, 6, .inl (1, .ofNat 0))], 0, [some (.inr [52]), some (.inr [20, 21, 22, 23, 24, 25, 26, 27]), some (.inl (.inl (.inr (.ofNat 223)))), none, none], []), ([], none), ([], [], none, ([], [])), ([(52, 6), (58, 0), (58, 1), (58, 2), (58, 3), (58, 4), (58, 5), (58, 6)], [54, 55, 56, 57]))
def kC781_0 : aC := (([(.ofNat 0, .ofNat 3), (.ofNat 224, .ofNat 341), (.ofNat 0, .ofNat 4), (.ofNat 224, .ofNat 341)], [(57, 223, .inl (0, .ofNat 0)), (52, 6, .inl (3, .ofNat 0))], 2, [some (.inr [52]), some (.inr [20, 21, 22, 23, 24, 25, 26, 27]), some (.inl (.inl (.inr (.ofNat 223)))), some (.inl (.inl (.inl (2, .ofNat 0)))), none], []), ([], []), (4, [(-1, 2)]))
theorem ks781 : aseg kS krf kB [kE542, kE543] (ksp []) kE781 [kC781_0] 30000 (none) = true := by decide +kernel
theorem ks781_0 : aseg kS krf kB [kE542, kE543] (ksp []) kE781 [kC781_0] 30000 (some kC781_0) = true := by decide +kernel
theorem kok781 : aOK kS krf kB kE781 := aOK_of (kal1 kok542 (kal1 kok543 kal0)) (kcl1 ks781_0 kcl0) ks781
/-- ColdShod$StrokePlan.addNext(LColdShod$Idea;I)V -/
def kE782 : aE := (83, 3, ([(.ofNat 0, .ofNat 3), (.ofNat 223, .ofNat 341)], [(57, 222, .inl (0, .ofNat 0)), (52, 6, .inl (1, .ofNat 0))], 0, [some (.inr [52]), some (.inr [20, 21, 22, 23, 24, 25, 26, 27]), some (.inl (.inl (.inr (.ofNat 222)))), none, none], []), ([], none), ([], [], none, ([], [])), ([(52, 6), (58, 0), (58, 1), (58, 2), (58, 3), (58, 4), (58, 5), (58, 6)], [54, 55, 56, 57]))
def kC782_0 : aC := (([(.ofNat 0, .ofNat 3), (.ofNat 223, .ofNat 341), (.ofNat 0, .ofNat 4), (.ofNat 223, .ofNat 341)], [(57, 222, .inl (0, .ofNat 0)), (52, 6, .inl (3, .ofNat 0))], 2, [some (.inr [52]), some (.inr [20, 21, 22, 23, 24, 25, 26, 27]), some (.inl (.inl (.inr (.ofNat 222)))), some (.inl (.inl (.inl (2, .ofNat 0)))), none], []), ([], []), (4, [(-1, 2)]))
theorem ks782 : aseg kS krf kB [kE542, kE543] (ksp []) kE782 [kC782_0] 30000 (none) = true := by decide +kernel
theorem ks782_0 : aseg kS krf kB [kE542, kE543] (ksp []) kE782 [kC782_0] 30000 (some kC782_0) = true := by decide +kernel
theorem kok782 : aOK kS krf kB kE782 := aOK_of (kal1 kok542 (kal1 kok543 kal0)) (kcl1 ks782_0 kcl0) ks782
/-- ColdShod$StrokePlan.addNext(LColdShod$Idea;I)V -/
def kE783 : aE := (83, 3, ([(.ofNat 0, .ofNat 3), (.ofNat 222, .ofNat 341)], [(57, 221, .inl (0, .ofNat 0)), (52, 6, .inl (1, .ofNat 0))], 0, [some (.inr [52]), some (.inr [20, 21, 22, 23, 24, 25, 26, 27]), some (.inl (.inl (.inr (.ofNat 221)))), none, none], []), ([], none), ([], [], none, ([], [])), ([(52, 6), (58, 0), (58, 1), (58, 2), (58, 3), (58, 4), (58, 5), (58, 6)], [54, 55, 56, 57]))
def kC783_0 : aC := (([(.ofNat 0, .ofNat 3), (.ofNat 222, .ofNat 341), (.ofNat 0, .ofNat 4), (.ofNat 222, .ofNat 341)], [(57, 221, .inl (0, .ofNat 0)), (52, 6, .inl (3, .ofNat 0))], 2, [some (.inr [52]), some (.inr [20, 21, 22, 23, 24, 25, 26, 27]), some (.inl (.inl (.inr (.ofNat 221)))), some (.inl (.inl (.inl (2, .ofNat 0)))), none], []), ([], []), (4, [(-1, 2)]))
theorem ks783 : aseg kS krf kB [kE542, kE543] (ksp []) kE783 [kC783_0] 30000 (none) = true := by decide +kernel
theorem ks783_0 : aseg kS krf kB [kE542, kE543] (ksp []) kE783 [kC783_0] 30000 (some kC783_0) = true := by decide +kernel
theorem kok783 : aOK kS krf kB kE783 := aOK_of (kal1 kok542 (kal1 kok543 kal0)) (kcl1 ks783_0 kcl0) ks783
/-- ColdShod$StrokePlan.addNext(LColdShod$Idea;I)V -/
def kE784 : aE := (83, 3, ([(.ofNat 0, .ofNat 3), (.ofNat 221, .ofNat 341)], [(57, 220, .inl (0, .ofNat 0)), (52, 6, .inl (1, .ofNat 0))], 0, [some (.inr [52]), some (.inr [20, 21, 22, 23, 24, 25, 26, 27]), some (.inl (.inl (.inr (.ofNat 220)))), none, none], []), ([], none), ([], [], none, ([], [])), ([(52, 6), (58, 0), (58, 1), (58, 2), (58, 3), (58, 4), (58, 5), (58, 6)], [54, 55, 56, 57]))
def kC784_0 : aC := (([(.ofNat 0, .ofNat 3), (.ofNat 221, .ofNat 341), (.ofNat 0, .ofNat 4), (.ofNat 221, .ofNat 341)], [(57, 220, .inl (0, .ofNat 0)), (52, 6, .inl (3, .ofNat 0))], 2, [some (.inr [52]), some (.inr [20, 21, 22, 23, 24, 25, 26, 27]), some (.inl (.inl (.inr (.ofNat 220)))), some (.inl (.inl (.inl (2, .ofNat 0)))), none], []), ([], []), (4, [(-1, 2)]))
theorem ks784 : aseg kS krf kB [kE542, kE543] (ksp []) kE784 [kC784_0] 30000 (none) = true := by decide +kernel
theorem ks784_0 : aseg kS krf kB [kE542, kE543] (ksp []) kE784 [kC784_0] 30000 (some kC784_0) = true := by decide +kernel
theorem kok784 : aOK kS krf kB kE784 := aOK_of (kal1 kok542 (kal1 kok543 kal0)) (kcl1 ks784_0 kcl0) ks784
/-- ColdShod$StrokePlan.addNext(LColdShod$Idea;I)V -/
def kE785 : aE := (83, 3, ([(.ofNat 0, .ofNat 3), (.ofNat 220, .ofNat 341)], [(57, 219, .inl (0, .ofNat 0)), (52, 6, .inl (1, .ofNat 0))], 0, [some (.inr [52]), some (.inr [20, 21, 22, 23, 24, 25, 26, 27]), some (.inl (.inl (.inr (.ofNat 219)))), none, none], []), ([], none), ([], [], none, ([], [])), ([(52, 6), (58, 0), (58, 1), (58, 2), (58, 3), (58, 4), (58, 5), (58, 6)], [54, 55, 56, 57]))
def kC785_0 : aC := (([(.ofNat 0, .ofNat 3), (.ofNat 220, .ofNat 341), (.ofNat 0, .ofNat 4), (.ofNat 220, .ofNat 341)], [(57, 219, .inl (0, .ofNat 0)), (52, 6, .inl (3, .ofNat 0))], 2, [some (.inr [52]), some (.inr [20, 21, 22, 23, 24, 25, 26, 27]), some (.inl (.inl (.inr (.ofNat 219)))), some (.inl (.inl (.inl (2, .ofNat 0)))), none], []), ([], []), (4, [(-1, 2)]))
theorem ks785 : aseg kS krf kB [kE542, kE543] (ksp []) kE785 [kC785_0] 30000 (none) = true := by decide +kernel
theorem ks785_0 : aseg kS krf kB [kE542, kE543] (ksp []) kE785 [kC785_0] 30000 (some kC785_0) = true := by decide +kernel
theorem kok785 : aOK kS krf kB kE785 := aOK_of (kal1 kok542 (kal1 kok543 kal0)) (kcl1 ks785_0 kcl0) ks785
/-- ColdShod$StrokePlan.addNext(LColdShod$Idea;I)V -/
def kE786 : aE := (83, 3, ([(.ofNat 0, .ofNat 3), (.ofNat 219, .ofNat 341)], [(57, 218, .inl (0, .ofNat 0)), (52, 6, .inl (1, .ofNat 0))], 0, [some (.inr [52]), some (.inr [20, 21, 22, 23, 24, 25, 26, 27]), some (.inl (.inl (.inr (.ofNat 218)))), none, none], []), ([], none), ([], [], none, ([], [])), ([(52, 6), (58, 0), (58, 1), (58, 2), (58, 3), (58, 4), (58, 5), (58, 6)], [54, 55, 56, 57]))
def kC786_0 : aC := (([(.ofNat 0, .ofNat 3), (.ofNat 219, .ofNat 341), (.ofNat 0, .ofNat 4), (.ofNat 219, .ofNat 341)], [(57, 218, .inl (0, .ofNat 0)), (52, 6, .inl (3, .ofNat 0))], 2, [some (.inr [52]), some (.inr [20, 21, 22, 23, 24, 25, 26, 27]), some (.inl (.inl (.inr (.ofNat 218)))), some (.inl (.inl (.inl (2, .ofNat 0)))), none], []), ([], []), (4, [(-1, 2)]))
theorem ks786 : aseg kS krf kB [kE542, kE543] (ksp []) kE786 [kC786_0] 30000 (none) = true := by decide +kernel
theorem ks786_0 : aseg kS krf kB [kE542, kE543] (ksp []) kE786 [kC786_0] 30000 (some kC786_0) = true := by decide +kernel
theorem kok786 : aOK kS krf kB kE786 := aOK_of (kal1 kok542 (kal1 kok543 kal0)) (kcl1 ks786_0 kcl0) ks786
/-- ColdShod$StrokePlan.addNext(LColdShod$Idea;I)V -/
def kE787 : aE := (83, 3, ([(.ofNat 0, .ofNat 3), (.ofNat 218, .ofNat 341)], [(57, 217, .inl (0, .ofNat 0)), (52, 6, .inl (1, .ofNat 0))], 0, [some (.inr [52]), some (.inr [20, 21, 22, 23, 24, 25, 26, 27]), some (.inl (.inl (.inr (.ofNat 217)))), none, none], []), ([], none), ([], [], none, ([], [])), ([(52, 6), (58, 0), (58, 1), (58, 2), (58, 3), (58, 4), (58, 5), (58, 6)], [54, 55, 56, 57]))
def kC787_0 : aC := (([(.ofNat 0, .ofNat 3), (.ofNat 218, .ofNat 341), (.ofNat 0, .ofNat 4), (.ofNat 218, .ofNat 341)], [(57, 217, .inl (0, .ofNat 0)), (52, 6, .inl (3, .ofNat 0))], 2, [some (.inr [52]), some (.inr [20, 21, 22, 23, 24, 25, 26, 27]), some (.inl (.inl (.inr (.ofNat 217)))), some (.inl (.inl (.inl (2, .ofNat 0)))), none], []), ([], []), (4, [(-1, 2)]))
theorem ks787 : aseg kS krf kB [kE542, kE543] (ksp []) kE787 [kC787_0] 30000 (none) = true := by decide +kernel
theorem ks787_0 : aseg kS krf kB [kE542, kE543] (ksp []) kE787 [kC787_0] 30000 (some kC787_0) = true := by decide +kernel
theorem kok787 : aOK kS krf kB kE787 := aOK_of (kal1 kok542 (kal1 kok543 kal0)) (kcl1 ks787_0 kcl0) ks787
/-- ColdShod$StrokePlan.addNext(LColdShod$Idea;I)V -/
def kE788 : aE := (83, 3, ([(.ofNat 0, .ofNat 3), (.ofNat 217, .ofNat 341)], [(57, 216, .inl (0, .ofNat 0)), (52, 6, .inl (1, .ofNat 0))], 0, [some (.inr [52]), some (.inr [20, 21, 22, 23, 24, 25, 26, 27]), some (.inl (.inl (.inr (.ofNat 216)))), none, none], []), ([], none), ([], [], none, ([], [])), ([(52, 6), (58, 0), (58, 1), (58, 2), (58, 3), (58, 4), (58, 5), (58, 6)], [54, 55, 56, 57]))
def kC788_0 : aC := (([(.ofNat 0, .ofNat 3), (.ofNat 217, .ofNat 341), (.ofNat 0, .ofNat 4), (.ofNat 217, .ofNat 341)], [(57, 216, .inl (0, .ofNat 0)), (52, 6, .inl (3, .ofNat 0))], 2, [some (.inr [52]), some (.inr [20, 21, 22, 23, 24, 25, 26, 27]), some (.inl (.inl (.inr (.ofNat 216)))), some (.inl (.inl (.inl (2, .ofNat 0)))), none], []), ([], []), (4, [(-1, 2)]))
theorem ks788 : aseg kS krf kB [kE542, kE543] (ksp []) kE788 [kC788_0] 30000 (none) = true := by decide +kernel
theorem ks788_0 : aseg kS krf kB [kE542, kE543] (ksp []) kE788 [kC788_0] 30000 (some kC788_0) = true := by decide +kernel
theorem kok788 : aOK kS krf kB kE788 := aOK_of (kal1 kok542 (kal1 kok543 kal0)) (kcl1 ks788_0 kcl0) ks788
/-- ColdShod$StrokePlan.addNext(LColdShod$Idea;I)V -/
def kE789 : aE := (83, 3, ([(.ofNat 0, .ofNat 3), (.ofNat 216, .ofNat 341)], [(57, 215, .inl (0, .ofNat 0)), (52, 6, .inl (1, .ofNat 0))], 0, [some (.inr [52]), some (.inr [20, 21, 22, 23, 24, 25, 26, 27]), some (.inl (.inl (.inr (.ofNat 215)))), none, none], []), ([], none), ([], [], none, ([], [])), ([(52, 6), (58, 0), (58, 1), (58, 2), (58, 3), (58, 4), (58, 5), (58, 6)], [54, 55, 56, 57]))
def kC789_0 : aC := (([(.ofNat 0, .ofNat 3), (.ofNat 216, .ofNat 341), (.ofNat 0, .ofNat 4), (.ofNat 216, .ofNat 341)], [(57, 215, .inl (0, .ofNat 0)), (52, 6, .inl (3, .ofNat 0))], 2, [some (.inr [52]), some (.inr [20, 21, 22, 23, 24, 25, 26, 27]), some (.inl (.inl (.inr (.ofNat 215)))), some (.inl (.inl (.inl (2, .ofNat 0)))), none], []), ([], []), (4, [(-1, 2)]))
theorem ks789 : aseg kS krf kB [kE542, kE543] (ksp []) kE789 [kC789_0] 30000 (none) = true := by decide +kernel
theorem ks789_0 : aseg kS krf kB [kE542, kE543] (ksp []) kE789 [kC789_0] 30000 (some kC789_0) = true := by decide +kernel
theorem kok789 : aOK kS krf kB kE789 := aOK_of (kal1 kok542 (kal1 kok543 kal0)) (kcl1 ks789_0 kcl0) ks789
/-- ColdShod$StrokePlan.addNext(LColdShod$Idea;I)V -/
def kE790 : aE := (83, 3, ([(.ofNat 0, .ofNat 3), (.ofNat 215, .ofNat 341)], [(57, 214, .inl (0, .ofNat 0)), (52, 6, .inl (1, .ofNat 0))], 0, [some (.inr [52]), some (.inr [20, 21, 22, 23, 24, 25, 26, 27]), some (.inl (.inl (.inr (.ofNat 214)))), none, none], []), ([], none), ([], [], none, ([], [])), ([(52, 6), (58, 0), (58, 1), (58, 2), (58, 3), (58, 4), (58, 5), (58, 6)], [54, 55, 56, 57]))
def kC790_0 : aC := (([(.ofNat 0, .ofNat 3), (.ofNat 215, .ofNat 341), (.ofNat 0, .ofNat 4), (.ofNat 215, .ofNat 341)], [(57, 214, .inl (0, .ofNat 0)), (52, 6, .inl (3, .ofNat 0))], 2, [some (.inr [52]), some (.inr [20, 21, 22, 23, 24, 25, 26, 27]), some (.inl (.inl (.inr (.ofNat 214)))), some (.inl (.inl (.inl (2, .ofNat 0)))), none], []), ([], []), (4, [(-1, 2)]))
theorem ks790 : aseg kS krf kB [kE542, kE543] (ksp []) kE790 [kC790_0] 30000 (none) = true := by decide +kernel
theorem ks790_0 : aseg kS krf kB [kE542, kE543] (ksp []) kE790 [kC790_0] 30000 (some kC790_0) = true := by decide +kernel
theorem kok790 : aOK kS krf kB kE790 := aOK_of (kal1 kok542 (kal1 kok543 kal0)) (kcl1 ks790_0 kcl0) ks790
/-- ColdShod$StrokePlan.addNext(LColdShod$Idea;I)V -/
def kE791 : aE := (83, 3, ([(.ofNat 0, .ofNat 3), (.ofNat 214, .ofNat 341)], [(57, 213, .inl (0, .ofNat 0)), (52, 6, .inl (1, .ofNat 0))], 0, [some (.inr [52]), some (.inr [20, 21, 22, 23, 24, 25, 26, 27]), some (.inl (.inl (.inr (.ofNat 213)))), none, none], []), ([], none), ([], [], none, ([], [])), ([(52, 6), (58, 0), (58, 1), (58, 2), (58, 3), (58, 4), (58, 5), (58, 6)], [54, 55, 56, 57]))
def kC791_0 : aC := (([(.ofNat 0, .ofNat 3), (.ofNat 214, .ofNat 341), (.ofNat 0, .ofNat 4), (.ofNat 214, .ofNat 341)], [(57, 213, .inl (0, .ofNat 0)), (52, 6, .inl (3, .ofNat 0))], 2, [some (.inr [52]), some (.inr [20, 21, 22, 23, 24, 25, 26, 27]), some (.inl (.inl (.inr (.ofNat 213)))), some (.inl (.inl (.inl (2, .ofNat 0)))), none], []), ([], []), (4, [(-1, 2)]))
theorem ks791 : aseg kS krf kB [kE542, kE543] (ksp []) kE791 [kC791_0] 30000 (none) = true := by decide +kernel
theorem ks791_0 : aseg kS krf kB [kE542, kE543] (ksp []) kE791 [kC791_0] 30000 (some kC791_0) = true := by decide +kernel
theorem kok791 : aOK kS krf kB kE791 := aOK_of (kal1 kok542 (kal1 kok543 kal0)) (kcl1 ks791_0 kcl0) ks791
/-- ColdShod$StrokePlan.addNext(LColdShod$Idea;I)V -/
def kE792 : aE := (83, 3, ([(.ofNat 0, .ofNat 3), (.ofNat 213, .ofNat 341)], [(57, 212, .inl (0, .ofNat 0)), (52, 6, .inl (1, .ofNat 0))], 0, [some (.inr [52]), some (.inr [20, 21, 22, 23, 24, 25, 26, 27]), some (.inl (.inl (.inr (.ofNat 212)))), none, none], []), ([], none), ([], [], none, ([], [])), ([(52, 6), (58, 0), (58, 1), (58, 2), (58, 3), (58, 4), (58, 5), (58, 6)], [54, 55, 56, 57]))
def kC792_0 : aC := (([(.ofNat 0, .ofNat 3), (.ofNat 213, .ofNat 341), (.ofNat 0, .ofNat 4), (.ofNat 213, .ofNat 341)], [(57, 212, .inl (0, .ofNat 0)), (52, 6, .inl (3, .ofNat 0))], 2, [some (.inr [52]), some (.inr [20, 21, 22, 23, 24, 25, 26, 27]), some (.inl (.inl (.inr (.ofNat 212)))), some (.inl (.inl (.inl (2, .ofNat 0)))), none], []), ([], []), (4, [(-1, 2)]))
theorem ks792 : aseg kS krf kB [kE542, kE543] (ksp []) kE792 [kC792_0] 30000 (none) = true := by decide +kernel
theorem ks792_0 : aseg kS krf kB [kE542, kE543] (ksp []) kE792 [kC792_0] 30000 (some kC792_0) = true := by decide +kernel
theorem kok792 : aOK kS krf kB kE792 := aOK_of (kal1 kok542 (kal1 kok543 kal0)) (kcl1 ks792_0 kcl0) ks792
/-- ColdShod$StrokePlan.addNext(LColdShod$Idea;I)V -/
def kE793 : aE := (83, 3, ([(.ofNat 0, .ofNat 3), (.ofNat 212, .ofNat 341)], [(57, 211, .inl (0, .ofNat 0)), (52, 6, .inl (1, .ofNat 0))], 0, [some (.inr [52]), some (.inr [20, 21, 22, 23, 24, 25, 26, 27]), some (.inl (.inl (.inr (.ofNat 211)))), none, none], []), ([], none), ([], [], none, ([], [])), ([(52, 6), (58, 0), (58, 1), (58, 2), (58, 3), (58, 4), (58, 5), (58, 6)], [54, 55, 56, 57]))
def kC793_0 : aC := (([(.ofNat 0, .ofNat 3), (.ofNat 212, .ofNat 341), (.ofNat 0, .ofNat 4), (.ofNat 212, .ofNat 341)], [(57, 211, .inl (0, .ofNat 0)), (52, 6, .inl (3, .ofNat 0))], 2, [some (.inr [52]), some (.inr [20, 21, 22, 23, 24, 25, 26, 27]), some (.inl (.inl (.inr (.ofNat 211)))), some (.inl (.inl (.inl (2, .ofNat 0)))), none], []), ([], []), (4, [(-1, 2)]))
theorem ks793 : aseg kS krf kB [kE542, kE543] (ksp []) kE793 [kC793_0] 30000 (none) = true := by decide +kernel
theorem ks793_0 : aseg kS krf kB [kE542, kE543] (ksp []) kE793 [kC793_0] 30000 (some kC793_0) = true := by decide +kernel
theorem kok793 : aOK kS krf kB kE793 := aOK_of (kal1 kok542 (kal1 kok543 kal0)) (kcl1 ks793_0 kcl0) ks793
/-- ColdShod$StrokePlan.addNext(LColdShod$Idea;I)V -/
def kE794 : aE := (83, 3, ([(.ofNat 0, .ofNat 3), (.ofNat 211, .ofNat 341)], [(57, 210, .inl (0, .ofNat 0)), (52, 6, .inl (1, .ofNat 0))], 0, [some (.inr [52]), some (.inr [20, 21, 22, 23, 24, 25, 26, 27]), some (.inl (.inl (.inr (.ofNat 210)))), none, none], []), ([], none), ([], [], none, ([], [])), ([(52, 6), (58, 0), (58, 1), (58, 2), (58, 3), (58, 4), (58, 5), (58, 6)], [54, 55, 56, 57]))
def kC794_0 : aC := (([(.ofNat 0, .ofNat 3), (.ofNat 211, .ofNat 341), (.ofNat 0, .ofNat 4), (.ofNat 211, .ofNat 341)], [(57, 210, .inl (0, .ofNat 0)), (52, 6, .inl (3, .ofNat 0))], 2, [some (.inr [52]), some (.inr [20, 21, 22, 23, 24, 25, 26, 27]), some (.inl (.inl (.inr (.ofNat 210)))), some (.inl (.inl (.inl (2, .ofNat 0)))), none], []), ([], []), (4, [(-1, 2)]))
theorem ks794 : aseg kS krf kB [kE542, kE543] (ksp []) kE794 [kC794_0] 30000 (none) = true := by decide +kernel
theorem ks794_0 : aseg kS krf kB [kE542, kE543] (ksp []) kE794 [kC794_0] 30000 (some kC794_0) = true := by decide +kernel
theorem kok794 : aOK kS krf kB kE794 := aOK_of (kal1 kok542 (kal1 kok543 kal0)) (kcl1 ks794_0 kcl0) ks794
/-- ColdShod$StrokePlan.addNext(LColdShod$Idea;I)V -/
def kE795 : aE := (83, 3, ([(.ofNat 0, .ofNat 3), (.ofNat 210, .ofNat 341)], [(57, 209, .inl (0, .ofNat 0)), (52, 6, .inl (1, .ofNat 0))], 0, [some (.inr [52]), some (.inr [20, 21, 22, 23, 24, 25, 26, 27]), some (.inl (.inl (.inr (.ofNat 209)))), none, none], []), ([], none), ([], [], none, ([], [])), ([(52, 6), (58, 0), (58, 1), (58, 2), (58, 3), (58, 4), (58, 5), (58, 6)], [54, 55, 56, 57]))
def kC795_0 : aC := (([(.ofNat 0, .ofNat 3), (.ofNat 210, .ofNat 341), (.ofNat 0, .ofNat 4), (.ofNat 210, .ofNat 341)], [(57, 209, .inl (0, .ofNat 0)), (52, 6, .inl (3, .ofNat 0))], 2, [some (.inr [52]), some (.inr [20, 21, 22, 23, 24, 25, 26, 27]), some (.inl (.inl (.inr (.ofNat 209)))), some (.inl (.inl (.inl (2, .ofNat 0)))), none], []), ([], []), (4, [(-1, 2)]))
theorem ks795 : aseg kS krf kB [kE542, kE543] (ksp []) kE795 [kC795_0] 30000 (none) = true := by decide +kernel
theorem ks795_0 : aseg kS krf kB [kE542, kE543] (ksp []) kE795 [kC795_0] 30000 (some kC795_0) = true := by decide +kernel
theorem kok795 : aOK kS krf kB kE795 := aOK_of (kal1 kok542 (kal1 kok543 kal0)) (kcl1 ks795_0 kcl0) ks795
/-- ColdShod$StrokePlan.addNext(LColdShod$Idea;I)V -/
def kE796 : aE := (83, 3, ([(.ofNat 0, .ofNat 3), (.ofNat 209, .ofNat 341)], [(57, 208, .inl (0, .ofNat 0)), (52, 6, .inl (1, .ofNat 0))], 0, [some (.inr [52]), some (.inr [20, 21, 22, 23, 24, 25, 26, 27]), some (.inl (.inl (.inr (.ofNat 208)))), none, none], []), ([], none), ([], [], none, ([], [])), ([(52, 6), (58, 0), (58, 1), (58, 2), (58, 3), (58, 4), (58, 5), (58, 6)], [54, 55, 56, 57]))
def kC796_0 : aC := (([(.ofNat 0, .ofNat 3), (.ofNat 209, .ofNat 341), (.ofNat 0, .ofNat 4), (.ofNat 209, .ofNat 341)], [(57, 208, .inl (0, .ofNat 0)), (52, 6, .inl (3, .ofNat 0))], 2, [some (.inr [52]), some (.inr [20, 21, 22, 23, 24, 25, 26, 27]), some (.inl (.inl (.inr (.ofNat 208)))), some (.inl (.inl (.inl (2, .ofNat 0)))), none], []), ([], []), (4, [(-1, 2)]))
theorem ks796 : aseg kS krf kB [kE542, kE543] (ksp []) kE796 [kC796_0] 30000 (none) = true := by decide +kernel
theorem ks796_0 : aseg kS krf kB [kE542, kE543] (ksp []) kE796 [kC796_0] 30000 (some kC796_0) = true := by decide +kernel
theorem kok796 : aOK kS krf kB kE796 := aOK_of (kal1 kok542 (kal1 kok543 kal0)) (kcl1 ks796_0 kcl0) ks796
/-- ColdShod$StrokePlan.addNext(LColdShod$Idea;I)V -/
def kE797 : aE := (83, 3, ([(.ofNat 0, .ofNat 3), (.ofNat 208, .ofNat 341)], [(57, 207, .inl (0, .ofNat 0)), (52, 6, .inl (1, .ofNat 0))], 0, [some (.inr [52]), some (.inr [20, 21, 22, 23, 24, 25, 26, 27]), some (.inl (.inl (.inr (.ofNat 207)))), none, none], []), ([], none), ([], [], none, ([], [])), ([(52, 6), (58, 0), (58, 1), (58, 2), (58, 3), (58, 4), (58, 5), (58, 6)], [54, 55, 56, 57]))
def kC797_0 : aC := (([(.ofNat 0, .ofNat 3), (.ofNat 208, .ofNat 341), (.ofNat 0, .ofNat 4), (.ofNat 208, .ofNat 341)], [(57, 207, .inl (0, .ofNat 0)), (52, 6, .inl (3, .ofNat 0))], 2, [some (.inr [52]), some (.inr [20, 21, 22, 23, 24, 25, 26, 27]), some (.inl (.inl (.inr (.ofNat 207)))), some (.inl (.inl (.inl (2, .ofNat 0)))), none], []), ([], []), (4, [(-1, 2)]))
theorem ks797 : aseg kS krf kB [kE542, kE543] (ksp []) kE797 [kC797_0] 30000 (none) = true := by decide +kernel
theorem ks797_0 : aseg kS krf kB [kE542, kE543] (ksp []) kE797 [kC797_0] 30000 (some kC797_0) = true := by decide +kernel
theorem kok797 : aOK kS krf kB kE797 := aOK_of (kal1 kok542 (kal1 kok543 kal0)) (kcl1 ks797_0 kcl0) ks797
/-- ColdShod$StrokePlan.addNext(LColdShod$Idea;I)V -/
def kE798 : aE := (83, 3, ([(.ofNat 0, .ofNat 3), (.ofNat 207, .ofNat 341)], [(57, 206, .inl (0, .ofNat 0)), (52, 6, .inl (1, .ofNat 0))], 0, [some (.inr [52]), some (.inr [20, 21, 22, 23, 24, 25, 26, 27]), some (.inl (.inl (.inr (.ofNat 206)))), none, none], []), ([], none), ([], [], none, ([], [])), ([(52, 6), (58, 0), (58, 1), (58, 2), (58, 3), (58, 4), (58, 5), (58, 6)], [54, 55, 56, 57]))
def kC798_0 : aC := (([(.ofNat 0, .ofNat 3), (.ofNat 207, .ofNat 341), (.ofNat 0, .ofNat 4), (.ofNat 207, .ofNat 341)], [(57, 206, .inl (0, .ofNat 0)), (52, 6, .inl (3, .ofNat 0))], 2, [some (.inr [52]), some (.inr [20, 21, 22, 23, 24, 25, 26, 27]), some (.inl (.inl (.inr (.ofNat 206)))), some (.inl (.inl (.inl (2, .ofNat 0)))), none], []), ([], []), (4, [(-1, 2)]))
theorem ks798 : aseg kS krf kB [kE542, kE543] (ksp []) kE798 [kC798_0] 30000 (none) = true := by decide +kernel
theorem ks798_0 : aseg kS krf kB [kE542, kE543] (ksp []) kE798 [kC798_0] 30000 (some kC798_0) = true := by decide +kernel
theorem kok798 : aOK kS krf kB kE798 := aOK_of (kal1 kok542 (kal1 kok543 kal0)) (kcl1 ks798_0 kcl0) ks798
/-- ColdShod$StrokePlan.addNext(LColdShod$Idea;I)V -/
def kE799 : aE := (83, 3, ([(.ofNat 0, .ofNat 3), (.ofNat 206, .ofNat 341)], [(57, 205, .inl (0, .ofNat 0)), (52, 6, .inl (1, .ofNat 0))], 0, [some (.inr [52]), some (.inr [20, 21, 22, 23, 24, 25, 26, 27]), some (.inl (.inl (.inr (.ofNat 205)))), none, none], []), ([], none), ([], [], none, ([], [])), ([(52, 6), (58, 0), (58, 1), (58, 2), (58, 3), (58, 4), (58, 5), (58, 6)], [54, 55, 56, 57]))
def kC799_0 : aC := (([(.ofNat 0, .ofNat 3), (.ofNat 206, .ofNat 341), (.ofNat 0, .ofNat 4), (.ofNat 206, .ofNat 341)], [(57, 205, .inl (0, .ofNat 0)), (52, 6, .inl (3, .ofNat 0))], 2, [some (.inr [52]), some (.inr [20, 21, 22, 23, 24, 25, 26, 27]), some (.inl (.inl (.inr (.ofNat 205)))), some (.inl (.inl (.inl (2, .ofNat 0)))), none], []), ([], []), (4, [(-1, 2)]))
theorem ks799 : aseg kS krf kB [kE542, kE543] (ksp []) kE799 [kC799_0] 30000 (none) = true := by decide +kernel
theorem ks799_0 : aseg kS krf kB [kE542, kE543] (ksp []) kE799 [kC799_0] 30000 (some kC799_0) = true := by decide +kernel
theorem kok799 : aOK kS krf kB kE799 := aOK_of (kal1 kok542 (kal1 kok543 kal0)) (kcl1 ks799_0 kcl0) ks799
/-- ColdShod$StrokePlan.addNext(LColdShod$Idea;I)V -/
def kE800 : aE := (83, 3, ([(.ofNat 0, .ofNat 3), (.ofNat 205, .ofNat 341)], [(57, 204, .inl (0, .ofNat 0)), (52, 6, .inl (1, .ofNat 0))], 0, [some (.inr [52]), some (.inr [20, 21, 22, 23, 24, 25, 26, 27]), some (.inl (.inl (.inr (.ofNat 204)))), none, none], []), ([], none), ([], [], none, ([], [])), ([(52, 6), (58, 0), (58, 1), (58, 2), (58, 3), (58, 4), (58, 5), (58, 6)], [54, 55, 56, 57]))
def kC800_0 : aC := (([(.ofNat 0, .ofNat 3), (.ofNat 205, .ofNat 341), (.ofNat 0, .ofNat 4), (.ofNat 205, .ofNat 341)], [(57, 204, .inl (0, .ofNat 0)), (52, 6, .inl (3, .ofNat 0))], 2, [some (.inr [52]), some (.inr [20, 21, 22, 23, 24, 25, 26, 27]), some (.inl (.inl (.inr (.ofNat 204)))), some (.inl (.inl (.inl (2, .ofNat 0)))), none], []), ([], []), (4, [(-1, 2)]))
theorem ks800 : aseg kS krf kB [kE542, kE543] (ksp []) kE800 [kC800_0] 30000 (none) = true := by decide +kernel
theorem ks800_0 : aseg kS krf kB [kE542, kE543] (ksp []) kE800 [kC800_0] 30000 (some kC800_0) = true := by decide +kernel
theorem kok800 : aOK kS krf kB kE800 := aOK_of (kal1 kok542 (kal1 kok543 kal0)) (kcl1 ks800_0 kcl0) ks800
/-- ColdShod$StrokePlan.addNext(LColdShod$Idea;I)V -/
def kE801 : aE := (83, 3, ([(.ofNat 0, .ofNat 3), (.ofNat 204, .ofNat 341)], [(57, 203, .inl (0, .ofNat 0)), (52, 6, .inl (1, .ofNat 0))], 0, [some (.inr [52]), some (.inr [20, 21, 22, 23, 24, 25, 26, 27]), some (.inl (.inl (.inr (.ofNat 203)))), none, none], []), ([], none), ([], [], none, ([], [])), ([(52, 6), (58, 0), (58, 1), (58, 2), (58, 3), (58, 4), (58, 5), (58, 6)], [54, 55, 56, 57]))
def kC801_0 : aC := (([(.ofNat 0, .ofNat 3), (.ofNat 204, .ofNat 341), (.ofNat 0, .ofNat 4), (.ofNat 204, .ofNat 341)], [(57, 203, .inl (0, .ofNat 0)), (52, 6, .inl (3, .ofNat 0))], 2, [some (.inr [52]), some (.inr [20, 21, 22, 23, 24, 25, 26, 27]), some (.inl (.inl (.inr (.ofNat 203)))), some (.inl (.inl (.inl (2, .ofNat 0)))), none], []), ([], []), (4, [(-1, 2)]))
theorem ks801 : aseg kS krf kB [kE542, kE543] (ksp []) kE801 [kC801_0] 30000 (none) = true := by decide +kernel
theorem ks801_0 : aseg kS krf kB [kE542, kE543] (ksp []) kE801 [kC801_0] 30000 (some kC801_0) = true := by decide +kernel
theorem kok801 : aOK kS krf kB kE801 := aOK_of (kal1 kok542 (kal1 kok543 kal0)) (kcl1 ks801_0 kcl0) ks801
/-- ColdShod$StrokePlan.addNext(LColdShod$Idea;I)V -/
def kE802 : aE := (83, 3, ([(.ofNat 0, .ofNat 3), (.ofNat 203, .ofNat 341)], [(57, 202, .inl (0, .ofNat 0)), (52, 6, .inl (1, .ofNat 0))], 0, [some (.inr [52]), some (.inr [20, 21, 22, 23, 24, 25, 26, 27]), some (.inl (.inl (.inr (.ofNat 202)))), none, none], []), ([], none), ([], [], none, ([], [])), ([(52, 6), (58, 0), (58, 1), (58, 2), (58, 3), (58, 4), (58, 5), (58, 6)], [54, 55, 56, 57]))
def kC802_0 : aC := (([(.ofNat 0, .ofNat 3), (.ofNat 203, .ofNat 341), (.ofNat 0, .ofNat 4), (.ofNat 203, .ofNat 341)], [(57, 202, .inl (0, .ofNat 0)), (52, 6, .inl (3, .ofNat 0))], 2, [some (.inr [52]), some (.inr [20, 21, 22, 23, 24, 25, 26, 27]), some (.inl (.inl (.inr (.ofNat 202)))), some (.inl (.inl (.inl (2, .ofNat 0)))), none], []), ([], []), (4, [(-1, 2)]))
theorem ks802 : aseg kS krf kB [kE542, kE543] (ksp []) kE802 [kC802_0] 30000 (none) = true := by decide +kernel
theorem ks802_0 : aseg kS krf kB [kE542, kE543] (ksp []) kE802 [kC802_0] 30000 (some kC802_0) = true := by decide +kernel
theorem kok802 : aOK kS krf kB kE802 := aOK_of (kal1 kok542 (kal1 kok543 kal0)) (kcl1 ks802_0 kcl0) ks802
/-- ColdShod$StrokePlan.addNext(LColdShod$Idea;I)V -/
def kE803 : aE := (83, 3, ([(.ofNat 0, .ofNat 3), (.ofNat 202, .ofNat 341)], [(57, 201, .inl (0, .ofNat 0)), (52, 6, .inl (1, .ofNat 0))], 0, [some (.inr [52]), some (.inr [20, 21, 22, 23, 24, 25, 26, 27]), some (.inl (.inl (.inr (.ofNat 201)))), none, none], []), ([], none), ([], [], none, ([], [])), ([(52, 6), (58, 0), (58, 1), (58, 2), (58, 3), (58, 4), (58, 5), (58, 6)], [54, 55, 56, 57]))
def kC803_0 : aC := (([(.ofNat 0, .ofNat 3), (.ofNat 202, .ofNat 341), (.ofNat 0, .ofNat 4), (.ofNat 202, .ofNat 341)], [(57, 201, .inl (0, .ofNat 0)), (52, 6, .inl (3, .ofNat 0))], 2, [some (.inr [52]), some (.inr [20, 21, 22, 23, 24, 25, 26, 27]), some (.inl (.inl (.inr (.ofNat 201)))), some (.inl (.inl (.inl (2, .ofNat 0)))), none], []), ([], []), (4, [(-1, 2)]))
theorem ks803 : aseg kS krf kB [kE542, kE543] (ksp []) kE803 [kC803_0] 30000 (none) = true := by decide +kernel
theorem ks803_0 : aseg kS krf kB [kE542, kE543] (ksp []) kE803 [kC803_0] 30000 (some kC803_0) = true := by decide +kernel
theorem kok803 : aOK kS krf kB kE803 := aOK_of (kal1 kok542 (kal1 kok543 kal0)) (kcl1 ks803_0 kcl0) ks803
/-- ColdShod$StrokePlan.addNext(LColdShod$Idea;I)V -/
def kE804 : aE := (83, 3, ([(.ofNat 0, .ofNat 3), (.ofNat 201, .ofNat 341)], [(57, 200, .inl (0, .ofNat 0)), (52, 6, .inl (1, .ofNat 0))], 0, [some (.inr [52]), some (.inr [20, 21, 22, 23, 24, 25, 26, 27]), some (.inl (.inl (.inr (.ofNat 200)))), none, none], []), ([], none), ([], [], none, ([], [])), ([(52, 6), (58, 0), (58, 1), (58, 2), (58, 3), (58, 4), (58, 5), (58, 6)], [54, 55, 56, 57]))
def kC804_0 : aC := (([(.ofNat 0, .ofNat 3), (.ofNat 201, .ofNat 341), (.ofNat 0, .ofNat 4), (.ofNat 201, .ofNat 341)], [(57, 200, .inl (0, .ofNat 0)), (52, 6, .inl (3, .ofNat 0))], 2, [some (.inr [52]), some (.inr [20, 21, 22, 23, 24, 25, 26, 27]), some (.inl (.inl (.inr (.ofNat 200)))), some (.inl (.inl (.inl (2, .ofNat 0)))), none], []), ([], []), (4, [(-1, 2)]))
theorem ks804 : aseg kS krf kB [kE542, kE543] (ksp []) kE804 [kC804_0] 30000 (none) = true := by decide +kernel
theorem ks804_0 : aseg kS krf kB [kE542, kE543] (ksp []) kE804 [kC804_0] 30000 (some kC804_0) = true := by decide +kernel
theorem kok804 : aOK kS krf kB kE804 := aOK_of (kal1 kok542 (kal1 kok543 kal0)) (kcl1 ks804_0 kcl0) ks804
/-- ColdShod$StrokePlan.addNext(LColdShod$Idea;I)V -/
def kE805 : aE := (83, 3, ([(.ofNat 0, .ofNat 3), (.ofNat 200, .ofNat 341)], [(57, 199, .inl (0, .ofNat 0)), (52, 6, .inl (1, .ofNat 0))], 0, [some (.inr [52]), some (.inr [20, 21, 22, 23, 24, 25, 26, 27]), some (.inl (.inl (.inr (.ofNat 199)))), none, none], []), ([], none), ([], [], none, ([], [])), ([(52, 6), (58, 0), (58, 1), (58, 2), (58, 3), (58, 4), (58, 5), (58, 6)], [54, 55, 56, 57]))
def kC805_0 : aC := (([(.ofNat 0, .ofNat 3), (.ofNat 200, .ofNat 341), (.ofNat 0, .ofNat 4), (.ofNat 200, .ofNat 341)], [(57, 199, .inl (0, .ofNat 0)), (52, 6, .inl (3, .ofNat 0))], 2, [some (.inr [52]), some (.inr [20, 21, 22, 23, 24, 25, 26, 27]), some (.inl (.inl (.inr (.ofNat 199)))), some (.inl (.inl (.inl (2, .ofNat 0)))), none], []), ([], []), (4, [(-1, 2)]))
theorem ks805 : aseg kS krf kB [kE542, kE543] (ksp []) kE805 [kC805_0] 30000 (none) = true := by decide +kernel
theorem ks805_0 : aseg kS krf kB [kE542, kE543] (ksp []) kE805 [kC805_0] 30000 (some kC805_0) = true := by decide +kernel
theorem kok805 : aOK kS krf kB kE805 := aOK_of (kal1 kok542 (kal1 kok543 kal0)) (kcl1 ks805_0 kcl0) ks805
/-- ColdShod$StrokePlan.addNext(LColdShod$Idea;I)V -/
def kE806 : aE := (83, 3, ([(.ofNat 0, .ofNat 3), (.ofNat 199, .ofNat 341)], [(57, 198, .inl (0, .ofNat 0)), (52, 6, .inl (1, .ofNat 0))], 0, [some (.inr [52]), some (.inr [20, 21, 22, 23, 24, 25, 26, 27]), some (.inl (.inl (.inr (.ofNat 198)))), none, none], []), ([], none), ([], [], none, ([], [])), ([(52, 6), (58, 0), (58, 1), (58, 2), (58, 3), (58, 4), (58, 5), (58, 6)], [54, 55, 56, 57]))
def kC806_0 : aC := (([(.ofNat 0, .ofNat 3), (.ofNat 199, .ofNat 341), (.ofNat 0, .ofNat 4), (.ofNat 199, .ofNat 341)], [(57, 198, .inl (0, .ofNat 0)), (52, 6, .inl (3, .ofNat 0))], 2, [some (.inr [52]), some (.inr [20, 21, 22, 23, 24, 25, 26, 27]), some (.inl (.inl (.inr (.ofNat 198)))), some (.inl (.inl (.inl (2, .ofNat 0)))), none], []), ([], []), (4, [(-1, 2)]))
theorem ks806 : aseg kS krf kB [kE542, kE543] (ksp []) kE806 [kC806_0] 30000 (none) = true := by decide +kernel
theorem ks806_0 : aseg kS krf kB [kE542, kE543] (ksp []) kE806 [kC806_0] 30000 (some kC806_0) = true := by decide +kernel
theorem kok806 : aOK kS krf kB kE806 := aOK_of (kal1 kok542 (kal1 kok543 kal0)) (kcl1 ks806_0 kcl0) ks806
/-- ColdShod$StrokePlan.addNext(LColdShod$Idea;I)V -/
def kE807 : aE := (83, 3, ([(.ofNat 0, .ofNat 3), (.ofNat 198, .ofNat 341)], [(57, 197, .inl (0, .ofNat 0)), (52, 6, .inl (1, .ofNat 0))], 0, [some (.inr [52]), some (.inr [20, 21, 22, 23, 24, 25, 26, 27]), some (.inl (.inl (.inr (.ofNat 197)))), none, none], []), ([], none), ([], [], none, ([], [])), ([(52, 6), (58, 0), (58, 1), (58, 2), (58, 3), (58, 4), (58, 5), (58, 6)], [54, 55, 56, 57]))
def kC807_0 : aC := (([(.ofNat 0, .ofNat 3), (.ofNat 198, .ofNat 341), (.ofNat 0, .ofNat 4), (.ofNat 198, .ofNat 341)], [(57, 197, .inl (0, .ofNat 0)), (52, 6, .inl (3, .ofNat 0))], 2, [some (.inr [52]), some (.inr [20, 21, 22, 23, 24, 25, 26, 27]), some (.inl (.inl (.inr (.ofNat 197)))), some (.inl (.inl (.inl (2, .ofNat 0)))), none], []), ([], []), (4, [(-1, 2)]))
theorem ks807 : aseg kS krf kB [kE542, kE543] (ksp []) kE807 [kC807_0] 30000 (none) = true := by decide +kernel
theorem ks807_0 : aseg kS krf kB [kE542, kE543] (ksp []) kE807 [kC807_0] 30000 (some kC807_0) = true := by decide +kernel
theorem kok807 : aOK kS krf kB kE807 := aOK_of (kal1 kok542 (kal1 kok543 kal0)) (kcl1 ks807_0 kcl0) ks807
/-- ColdShod$StrokePlan.addNext(LColdShod$Idea;I)V -/
def kE808 : aE := (83, 3, ([(.ofNat 0, .ofNat 3), (.ofNat 197, .ofNat 341)], [(57, 196, .inl (0, .ofNat 0)), (52, 6, .inl (1, .ofNat 0))], 0, [some (.inr [52]), some (.inr [20, 21, 22, 23, 24, 25, 26, 27]), some (.inl (.inl (.inr (.ofNat 196)))), none, none], []), ([], none), ([], [], none, ([], [])), ([(52, 6), (58, 0), (58, 1), (58, 2), (58, 3), (58, 4), (58, 5), (58, 6)], [54, 55, 56, 57]))
def kC808_0 : aC := (([(.ofNat 0, .ofNat 3), (.ofNat 197, .ofNat 341), (.ofNat 0, .ofNat 4), (.ofNat 197, .ofNat 341)], [(57, 196, .inl (0, .ofNat 0)), (52, 6, .inl (3, .ofNat 0))], 2, [some (.inr [52]), some (.inr [20, 21, 22, 23, 24, 25, 26, 27]), some (.inl (.inl (.inr (.ofNat 196)))), some (.inl (.inl (.inl (2, .ofNat 0)))), none], []), ([], []), (4, [(-1, 2)]))
theorem ks808 : aseg kS krf kB [kE542, kE543] (ksp []) kE808 [kC808_0] 30000 (none) = true := by decide +kernel
theorem ks808_0 : aseg kS krf kB [kE542, kE543] (ksp []) kE808 [kC808_0] 30000 (some kC808_0) = true := by decide +kernel
theorem kok808 : aOK kS krf kB kE808 := aOK_of (kal1 kok542 (kal1 kok543 kal0)) (kcl1 ks808_0 kcl0) ks808
/-- ColdShod$StrokePlan.addNext(LColdShod$Idea;I)V -/
def kE809 : aE := (83, 3, ([(.ofNat 0, .ofNat 3), (.ofNat 196, .ofNat 341)], [(57, 195, .inl (0, .ofNat 0)), (52, 6, .inl (1, .ofNat 0))], 0, [some (.inr [52]), some (.inr [20, 21, 22, 23, 24, 25, 26, 27]), some (.inl (.inl (.inr (.ofNat 195)))), none, none], []), ([], none), ([], [], none, ([], [])), ([(52, 6), (58, 0), (58, 1), (58, 2), (58, 3), (58, 4), (58, 5), (58, 6)], [54, 55, 56, 57]))
def kC809_0 : aC := (([(.ofNat 0, .ofNat 3), (.ofNat 196, .ofNat 341), (.ofNat 0, .ofNat 4), (.ofNat 196, .ofNat 341)], [(57, 195, .inl (0, .ofNat 0)), (52, 6, .inl (3, .ofNat 0))], 2, [some (.inr [52]), some (.inr [20, 21, 22, 23, 24, 25, 26, 27]), some (.inl (.inl (.inr (.ofNat 195)))), some (.inl (.inl (.inl (2, .ofNat 0)))), none], []), ([], []), (4, [(-1, 2)]))
theorem ks809 : aseg kS krf kB [kE542, kE543] (ksp []) kE809 [kC809_0] 30000 (none) = true := by decide +kernel
theorem ks809_0 : aseg kS krf kB [kE542, kE543] (ksp []) kE809 [kC809_0] 30000 (some kC809_0) = true := by decide +kernel
theorem kok809 : aOK kS krf kB kE809 := aOK_of (kal1 kok542 (kal1 kok543 kal0)) (kcl1 ks809_0 kcl0) ks809
/-- ColdShod$StrokePlan.addNext(LColdShod$Idea;I)V -/
def kE810 : aE := (83, 3, ([(.ofNat 0, .ofNat 3), (.ofNat 195, .ofNat 341)], [(57, 194, .inl (0, .ofNat 0)), (52, 6, .inl (1, .ofNat 0))], 0, [some (.inr [52]), some (.inr [20, 21, 22, 23, 24, 25, 26, 27]), some (.inl (.inl (.inr (.ofNat 194)))), none, none], []), ([], none), ([], [], none, ([], [])), ([(52, 6), (58, 0), (58, 1), (58, 2), (58, 3), (58, 4), (58, 5), (58, 6)], [54, 55, 56, 57]))
def kC810_0 : aC := (([(.ofNat 0, .ofNat 3), (.ofNat 195, .ofNat 341), (.ofNat 0, .ofNat 4), (.ofNat 195, .ofNat 341)], [(57, 194, .inl (0, .ofNat 0)), (52, 6, .inl (3, .ofNat 0))], 2, [some (.inr [52]), some (.inr [20, 21, 22, 23, 24, 25, 26, 27]), some (.inl (.inl (.inr (.ofNat 194)))), some (.inl (.inl (.inl (2, .ofNat 0)))), none], []), ([], []), (4, [(-1, 2)]))
theorem ks810 : aseg kS krf kB [kE542, kE543] (ksp []) kE810 [kC810_0] 30000 (none) = true := by decide +kernel
theorem ks810_0 : aseg kS krf kB [kE542, kE543] (ksp []) kE810 [kC810_0] 30000 (some kC810_0) = true := by decide +kernel
theorem kok810 : aOK kS krf kB kE810 := aOK_of (kal1 kok542 (kal1 kok543 kal0)) (kcl1 ks810_0 kcl0) ks810
/-- ColdShod$StrokePlan.addNext(LColdShod$Idea;I)V -/
def kE811 : aE := (83, 3, ([(.ofNat 0, .ofNat 3), (.ofNat 194, .ofNat 341)], [(57, 193, .inl (0, .ofNat 0)), (52, 6, .inl (1, .ofNat 0))], 0, [some (.inr [52]), some (.inr [20, 21, 22, 23, 24, 25, 26, 27]), some (.inl (.inl (.inr (.ofNat 193)))), none, none], []), ([], none), ([], [], none, ([], [])), ([(52, 6), (58, 0), (58, 1), (58, 2), (58, 3), (58, 4), (58, 5), (58, 6)], [54, 55, 56, 57]))
def kC811_0 : aC := (([(.ofNat 0, .ofNat 3), (.ofNat 194, .ofNat 341), (.ofNat 0, .ofNat 4), (.ofNat 194, .ofNat 341)], [(57, 193, .inl (0, .ofNat 0)), (52, 6, .inl (3, .ofNat 0))], 2, [some (.inr [52]), some (.inr [20, 21, 22, 23, 24, 25, 26, 27]), some (.inl (.inl (.inr (.ofNat 193)))), some (.inl (.inl (.inl (2, .ofNat 0)))), none], []), ([], []), (4, [(-1, 2)]))
theorem ks811 : aseg kS krf kB [kE542, kE543] (ksp []) kE811 [kC811_0] 30000 (none) = true := by decide +kernel
theorem ks811_0 : aseg kS krf kB [kE542, kE543] (ksp []) kE811 [kC811_0] 30000 (some kC811_0) = true := by decide +kernel
theorem kok811 : aOK kS krf kB kE811 := aOK_of (kal1 kok542 (kal1 kok543 kal0)) (kcl1 ks811_0 kcl0) ks811
/-- ColdShod$StrokePlan.addNext(LColdShod$Idea;I)V -/
def kE812 : aE := (83, 3, ([(.ofNat 0, .ofNat 3), (.ofNat 193, .ofNat 341)], [(57, 192, .inl (0, .ofNat 0)), (52, 6, .inl (1, .ofNat 0))], 0, [some (.inr [52]), some (.inr [20, 21, 22, 23, 24, 25, 26, 27]), some (.inl (.inl (.inr (.ofNat 192)))), none, none], []), ([], none), ([], [], none, ([], [])), ([(52, 6), (58, 0), (58, 1), (58, 2), (58, 3), (58, 4), (58, 5), (58, 6)], [54, 55, 56, 57]))
def kC812_0 : aC := (([(.ofNat 0, .ofNat 3), (.ofNat 193, .ofNat 341), (.ofNat 0, .ofNat 4), (.ofNat 193, .ofNat 341)], [(57, 192, .inl (0, .ofNat 0)), (52, 6, .inl (3, .ofNat 0))], 2, [some (.inr [52]), some (.inr [20, 21, 22, 23, 24, 25, 26, 27]), some (.inl (.inl (.inr (.ofNat 192)))), some (.inl (.inl (.inl (2, .ofNat 0)))), none], []), ([], []), (4, [(-1, 2)]))
theorem ks812 : aseg kS krf kB [kE542, kE543] (ksp []) kE812 [kC812_0] 30000 (none) = true := by decide +kernel
theorem ks812_0 : aseg kS krf kB [kE542, kE543] (ksp []) kE812 [kC812_0] 30000 (some kC812_0) = true := by decide +kernel
theorem kok812 : aOK kS krf kB kE812 := aOK_of (kal1 kok542 (kal1 kok543 kal0)) (kcl1 ks812_0 kcl0) ks812
/-- ColdShod$StrokePlan.addNext(LColdShod$Idea;I)V -/
def kE813 : aE := (83, 3, ([(.ofNat 0, .ofNat 3), (.ofNat 192, .ofNat 341)], [(57, 191, .inl (0, .ofNat 0)), (52, 6, .inl (1, .ofNat 0))], 0, [some (.inr [52]), some (.inr [20, 21, 22, 23, 24, 25, 26, 27]), some (.inl (.inl (.inr (.ofNat 191)))), none, none], []), ([], none), ([], [], none, ([], [])), ([(52, 6), (58, 0), (58, 1), (58, 2), (58, 3), (58, 4), (58, 5), (58, 6)], [54, 55, 56, 57]))
def kC813_0 : aC := (([(.ofNat 0, .ofNat 3), (.ofNat 192, .ofNat 341), (.ofNat 0, .ofNat 4), (.ofNat 192, .ofNat 341)], [(57, 191, .inl (0, .ofNat 0)), (52, 6, .inl (3, .ofNat 0))], 2, [some (.inr [52]), some (.inr [20, 21, 22, 23, 24, 25, 26, 27]), some (.inl (.inl (.inr (.ofNat 191)))), some (.inl (.inl (.inl (2, .ofNat 0)))), none], []), ([], []), (4, [(-1, 2)]))
theorem ks813 : aseg kS krf kB [kE542, kE543] (ksp []) kE813 [kC813_0] 30000 (none) = true := by decide +kernel
theorem ks813_0 : aseg kS krf kB [kE542, kE543] (ksp []) kE813 [kC813_0] 30000 (some kC813_0) = true := by decide +kernel
theorem kok813 : aOK kS krf kB kE813 := aOK_of (kal1 kok542 (kal1 kok543 kal0)) (kcl1 ks813_0 kcl0) ks813
/-- ColdShod$StrokePlan.addNext(LColdShod$Idea;I)V -/
def kE814 : aE := (83, 3, ([(.ofNat 0, .ofNat 3), (.ofNat 191, .ofNat 341)], [(57, 190, .inl (0, .ofNat 0)), (52, 6, .inl (1, .ofNat 0))], 0, [some (.inr [52]), some (.inr [20, 21, 22, 23, 24, 25, 26, 27]), some (.inl (.inl (.inr (.ofNat 190)))), none, none], []), ([], none), ([], [], none, ([], [])), ([(52, 6), (58, 0), (58, 1), (58, 2), (58, 3), (58, 4), (58, 5), (58, 6)], [54, 55, 56, 57]))
def kC814_0 : aC := (([(.ofNat 0, .ofNat 3), (.ofNat 191, .ofNat 341), (.ofNat 0, .ofNat 4), (.ofNat 191, .ofNat 341)], [(57, 190, .inl (0, .ofNat 0)), (52, 6, .inl (3, .ofNat 0))], 2, [some (.inr [52]), some (.inr [20, 21, 22, 23, 24, 25, 26, 27]), some (.inl (.inl (.inr (.ofNat 190)))), some (.inl (.inl (.inl (2, .ofNat 0)))), none], []), ([], []), (4, [(-1, 2)]))
theorem ks814 : aseg kS krf kB [kE542, kE543] (ksp []) kE814 [kC814_0] 30000 (none) = true := by decide +kernel
theorem ks814_0 : aseg kS krf kB [kE542, kE543] (ksp []) kE814 [kC814_0] 30000 (some kC814_0) = true := by decide +kernel
theorem kok814 : aOK kS krf kB kE814 := aOK_of (kal1 kok542 (kal1 kok543 kal0)) (kcl1 ks814_0 kcl0) ks814
/-- ColdShod$StrokePlan.addNext(LColdShod$Idea;I)V -/
def kE815 : aE := (83, 3, ([(.ofNat 0, .ofNat 3), (.ofNat 190, .ofNat 341)], [(57, 189, .inl (0, .ofNat 0)), (52, 6, .inl (1, .ofNat 0))], 0, [some (.inr [52]), some (.inr [20, 21, 22, 23, 24, 25, 26, 27]), some (.inl (.inl (.inr (.ofNat 189)))), none, none], []), ([], none), ([], [], none, ([], [])), ([(52, 6), (58, 0), (58, 1), (58, 2), (58, 3), (58, 4), (58, 5), (58, 6)], [54, 55, 56, 57]))
def kC815_0 : aC := (([(.ofNat 0, .ofNat 3), (.ofNat 190, .ofNat 341), (.ofNat 0, .ofNat 4), (.ofNat 190, .ofNat 341)], [(57, 189, .inl (0, .ofNat 0)), (52, 6, .inl (3, .ofNat 0))], 2, [some (.inr [52]), some (.inr [20, 21, 22, 23, 24, 25, 26, 27]), some (.inl (.inl (.inr (.ofNat 189)))), some (.inl (.inl (.inl (2, .ofNat 0)))), none], []), ([], []), (4, [(-1, 2)]))
theorem ks815 : aseg kS krf kB [kE542, kE543] (ksp []) kE815 [kC815_0] 30000 (none) = true := by decide +kernel
theorem ks815_0 : aseg kS krf kB [kE542, kE543] (ksp []) kE815 [kC815_0] 30000 (some kC815_0) = true := by decide +kernel
theorem kok815 : aOK kS krf kB kE815 := aOK_of (kal1 kok542 (kal1 kok543 kal0)) (kcl1 ks815_0 kcl0) ks815
/-- ColdShod$StrokePlan.addNext(LColdShod$Idea;I)V -/
def kE816 : aE := (83, 3, ([(.ofNat 0, .ofNat 3), (.ofNat 189, .ofNat 341)], [(57, 188, .inl (0, .ofNat 0)), (52, 6, .inl (1, .ofNat 0))], 0, [some (.inr [52]), some (.inr [20, 21, 22, 23, 24, 25, 26, 27]), some (.inl (.inl (.inr (.ofNat 188)))), none, none], []), ([], none), ([], [], none, ([], [])), ([(52, 6), (58, 0), (58, 1), (58, 2), (58, 3), (58, 4), (58, 5), (58, 6)], [54, 55, 56, 57]))
def kC816_0 : aC := (([(.ofNat 0, .ofNat 3), (.ofNat 189, .ofNat 341), (.ofNat 0, .ofNat 4), (.ofNat 189, .ofNat 341)], [(57, 188, .inl (0, .ofNat 0)), (52, 6, .inl (3, .ofNat 0))], 2, [some (.inr [52]), some (.inr [20, 21, 22, 23, 24, 25, 26, 27]), some (.inl (.inl (.inr (.ofNat 188)))), some (.inl (.inl (.inl (2, .ofNat 0)))), none], []), ([], []), (4, [(-1, 2)]))
theorem ks816 : aseg kS krf kB [kE542, kE543] (ksp []) kE816 [kC816_0] 30000 (none) = true := by decide +kernel
theorem ks816_0 : aseg kS krf kB [kE542, kE543] (ksp []) kE816 [kC816_0] 30000 (some kC816_0) = true := by decide +kernel
theorem kok816 : aOK kS krf kB kE816 := aOK_of (kal1 kok542 (kal1 kok543 kal0)) (kcl1 ks816_0 kcl0) ks816
/-- ColdShod$StrokePlan.addNext(LColdShod$Idea;I)V -/
def kE817 : aE := (83, 3, ([(.ofNat 0, .ofNat 3), (.ofNat 188, .ofNat 341)], [(57, 187, .inl (0, .ofNat 0)), (52, 6, .inl (1, .ofNat 0))], 0, [some (.inr [52]), some (.inr [20, 21, 22, 23, 24, 25, 26, 27]), some (.inl (.inl (.inr (.ofNat 187)))), none, none], []), ([], none), ([], [], none, ([], [])), ([(52, 6), (58, 0), (58, 1), (58, 2), (58, 3), (58, 4), (58, 5), (58, 6)], [54, 55, 56, 57]))
def kC817_0 : aC := (([(.ofNat 0, .ofNat 3), (.ofNat 188, .ofNat 341), (.ofNat 0, .ofNat 4), (.ofNat 188, .ofNat 341)], [(57, 187, .inl (0, .ofNat 0)), (52, 6, .inl (3, .ofNat 0))], 2, [some (.inr [52]), some (.inr [20, 21, 22, 23, 24, 25, 26, 27]), some (.inl (.inl (.inr (.ofNat 187)))), some (.inl (.inl (.inl (2, .ofNat 0)))), none], []), ([], []), (4, [(-1, 2)]))
theorem ks817 : aseg kS krf kB [kE542, kE543] (ksp []) kE817 [kC817_0] 30000 (none) = true := by decide +kernel
theorem ks817_0 : aseg kS krf kB [kE542, kE543] (ksp []) kE817 [kC817_0] 30000 (some kC817_0) = true := by decide +kernel
theorem kok817 : aOK kS krf kB kE817 := aOK_of (kal1 kok542 (kal1 kok543 kal0)) (kcl1 ks817_0 kcl0) ks817
/-- ColdShod$StrokePlan.addNext(LColdShod$Idea;I)V -/
def kE818 : aE := (83, 3, ([(.ofNat 0, .ofNat 3), (.ofNat 187, .ofNat 341)], [(57, 186, .inl (0, .ofNat 0)), (52, 6, .inl (1, .ofNat 0))], 0, [some (.inr [52]), some (.inr [20, 21, 22, 23, 24, 25, 26, 27]), some (.inl (.inl (.inr (.ofNat 186)))), none, none], []), ([], none), ([], [], none, ([], [])), ([(52, 6), (58, 0), (58, 1), (58, 2), (58, 3), (58, 4), (58, 5), (58, 6)], [54, 55, 56, 57]))
def kC818_0 : aC := (([(.ofNat 0, .ofNat 3), (.ofNat 187, .ofNat 341), (.ofNat 0, .ofNat 4), (.ofNat 187, .ofNat 341)], [(57, 186, .inl (0, .ofNat 0)), (52, 6, .inl (3, .ofNat 0))], 2, [some (.inr [52]), some (.inr [20, 21, 22, 23, 24, 25, 26, 27]), some (.inl (.inl (.inr (.ofNat 186)))), some (.inl (.inl (.inl (2, .ofNat 0)))), none], []), ([], []), (4, [(-1, 2)]))
theorem ks818 : aseg kS krf kB [kE542, kE543] (ksp []) kE818 [kC818_0] 30000 (none) = true := by decide +kernel
theorem ks818_0 : aseg kS krf kB [kE542, kE543] (ksp []) kE818 [kC818_0] 30000 (some kC818_0) = true := by decide +kernel
theorem kok818 : aOK kS krf kB kE818 := aOK_of (kal1 kok542 (kal1 kok543 kal0)) (kcl1 ks818_0 kcl0) ks818
/-- ColdShod$StrokePlan.addNext(LColdShod$Idea;I)V -/
def kE819 : aE := (83, 3, ([(.ofNat 0, .ofNat 3), (.ofNat 186, .ofNat 341)], [(57, 185, .inl (0, .ofNat 0)), (52, 6, .inl (1, .ofNat 0))], 0, [some (.inr [52]), some (.inr [20, 21, 22, 23, 24, 25, 26, 27]), some (.inl (.inl (.inr (.ofNat 185)))), none, none], []), ([], none), ([], [], none, ([], [])), ([(52, 6), (58, 0), (58, 1), (58, 2), (58, 3), (58, 4), (58, 5), (58, 6)], [54, 55, 56, 57]))
def kC819_0 : aC := (([(.ofNat 0, .ofNat 3), (.ofNat 186, .ofNat 341), (.ofNat 0, .ofNat 4), (.ofNat 186, .ofNat 341)], [(57, 185, .inl (0, .ofNat 0)), (52, 6, .inl (3, .ofNat 0))], 2, [some (.inr [52]), some (.inr [20, 21, 22, 23, 24, 25, 26, 27]), some (.inl (.inl (.inr (.ofNat 185)))), some (.inl (.inl (.inl (2, .ofNat 0)))), none], []), ([], []), (4, [(-1, 2)]))
theorem ks819 : aseg kS krf kB [kE542, kE543] (ksp []) kE819 [kC819_0] 30000 (none) = true := by decide +kernel
theorem ks819_0 : aseg kS krf kB [kE542, kE543] (ksp []) kE819 [kC819_0] 30000 (some kC819_0) = true := by decide +kernel
theorem kok819 : aOK kS krf kB kE819 := aOK_of (kal1 kok542 (kal1 kok543 kal0)) (kcl1 ks819_0 kcl0) ks819
/-- ColdShod$StrokePlan.addNext(LColdShod$Idea;I)V -/
def kE820 : aE := (83, 3, ([(.ofNat 0, .ofNat 3), (.ofNat 185, .ofNat 341)], [(57, 184, .inl (0, .ofNat 0)), (52, 6, .inl (1, .ofNat 0))], 0, [some (.inr [52]), some (.inr [20, 21, 22, 23, 24, 25, 26, 27]), some (.inl (.inl (.inr (.ofNat 184)))), none, none], []), ([], none), ([], [], none, ([], [])), ([(52, 6), (58, 0), (58, 1), (58, 2), (58, 3), (58, 4), (58, 5), (58, 6)], [54, 55, 56, 57]))
def kC820_0 : aC := (([(.ofNat 0, .ofNat 3), (.ofNat 185, .ofNat 341), (.ofNat 0, .ofNat 4), (.ofNat 185, .ofNat 341)], [(57, 184, .inl (0, .ofNat 0)), (52, 6, .inl (3, .ofNat 0))], 2, [some (.inr [52]), some (.inr [20, 21, 22, 23, 24, 25, 26, 27]), some (.inl (.inl (.inr (.ofNat 184)))), some (.inl (.inl (.inl (2, .ofNat 0)))), none], []), ([], []), (4, [(-1, 2)]))
theorem ks820 : aseg kS krf kB [kE542, kE543] (ksp []) kE820 [kC820_0] 30000 (none) = true := by decide +kernel
theorem ks820_0 : aseg kS krf kB [kE542, kE543] (ksp []) kE820 [kC820_0] 30000 (some kC820_0) = true := by decide +kernel
theorem kok820 : aOK kS krf kB kE820 := aOK_of (kal1 kok542 (kal1 kok543 kal0)) (kcl1 ks820_0 kcl0) ks820
/-- ColdShod$StrokePlan.addNext(LColdShod$Idea;I)V -/
def kE821 : aE := (83, 3, ([(.ofNat 0, .ofNat 3), (.ofNat 184, .ofNat 341)], [(57, 183, .inl (0, .ofNat 0)), (52, 6, .inl (1, .ofNat 0))], 0, [some (.inr [52]), some (.inr [20, 21, 22, 23, 24, 25, 26, 27]), some (.inl (.inl (.inr (.ofNat 183)))), none, none], []), ([], none), ([], [], none, ([], [])), ([(52, 6), (58, 0), (58, 1), (58, 2), (58, 3), (58, 4), (58, 5), (58, 6)], [54, 55, 56, 57]))
def kC821_0 : aC := (([(.ofNat 0, .ofNat 3), (.ofNat 184, .ofNat 341), (.ofNat 0, .ofNat 4), (.ofNat 184, .ofNat 341)], [(57, 183, .inl (0, .ofNat 0)), (52, 6, .inl (3, .ofNat 0))], 2, [some (.inr [52]), some (.inr [20, 21, 22, 23, 24, 25, 26, 27]), some (.inl (.inl (.inr (.ofNat 183)))), some (.inl (.inl (.inl (2, .ofNat 0)))), none], []), ([], []), (4, [(-1, 2)]))
theorem ks821 : aseg kS krf kB [kE542, kE543] (ksp []) kE821 [kC821_0] 30000 (none) = true := by decide +kernel
theorem ks821_0 : aseg kS krf kB [kE542, kE543] (ksp []) kE821 [kC821_0] 30000 (some kC821_0) = true := by decide +kernel
theorem kok821 : aOK kS krf kB kE821 := aOK_of (kal1 kok542 (kal1 kok543 kal0)) (kcl1 ks821_0 kcl0) ks821
/-- ColdShod$StrokePlan.addNext(LColdShod$Idea;I)V -/
def kE822 : aE := (83, 3, ([(.ofNat 0, .ofNat 3), (.ofNat 183, .ofNat 341)], [(57, 182, .inl (0, .ofNat 0)), (52, 6, .inl (1, .ofNat 0))], 0, [some (.inr [52]), some (.inr [20, 21, 22, 23, 24, 25, 26, 27]), some (.inl (.inl (.inr (.ofNat 182)))), none, none], []), ([], none), ([], [], none, ([], [])), ([(52, 6), (58, 0), (58, 1), (58, 2), (58, 3), (58, 4), (58, 5), (58, 6)], [54, 55, 56, 57]))
def kC822_0 : aC := (([(.ofNat 0, .ofNat 3), (.ofNat 183, .ofNat 341), (.ofNat 0, .ofNat 4), (.ofNat 183, .ofNat 341)], [(57, 182, .inl (0, .ofNat 0)), (52, 6, .inl (3, .ofNat 0))], 2, [some (.inr [52]), some (.inr [20, 21, 22, 23, 24, 25, 26, 27]), some (.inl (.inl (.inr (.ofNat 182)))), some (.inl (.inl (.inl (2, .ofNat 0)))), none], []), ([], []), (4, [(-1, 2)]))
theorem ks822 : aseg kS krf kB [kE542, kE543] (ksp []) kE822 [kC822_0] 30000 (none) = true := by decide +kernel
theorem ks822_0 : aseg kS krf kB [kE542, kE543] (ksp []) kE822 [kC822_0] 30000 (some kC822_0) = true := by decide +kernel
theorem kok822 : aOK kS krf kB kE822 := aOK_of (kal1 kok542 (kal1 kok543 kal0)) (kcl1 ks822_0 kcl0) ks822
/-- ColdShod$StrokePlan.addNext(LColdShod$Idea;I)V -/
def kE823 : aE := (83, 3, ([(.ofNat 0, .ofNat 3), (.ofNat 182, .ofNat 341)], [(57, 181, .inl (0, .ofNat 0)), (52, 6, .inl (1, .ofNat 0))], 0, [some (.inr [52]), some (.inr [20, 21, 22, 23, 24, 25, 26, 27]), some (.inl (.inl (.inr (.ofNat 181)))), none, none], []), ([], none), ([], [], none, ([], [])), ([(52, 6), (58, 0), (58, 1), (58, 2), (58, 3), (58, 4), (58, 5), (58, 6)], [54, 55, 56, 57]))
def kC823_0 : aC := (([(.ofNat 0, .ofNat 3), (.ofNat 182, .ofNat 341), (.ofNat 0, .ofNat 4), (.ofNat 182, .ofNat 341)], [(57, 181, .inl (0, .ofNat 0)), (52, 6, .inl (3, .ofNat 0))], 2, [some (.inr [52]), some (.inr [20, 21, 22, 23, 24, 25, 26, 27]), some (.inl (.inl (.inr (.ofNat 181)))), some (.inl (.inl (.inl (2, .ofNat 0)))), none], []), ([], []), (4, [(-1, 2)]))
theorem ks823 : aseg kS krf kB [kE542, kE543] (ksp []) kE823 [kC823_0] 30000 (none) = true := by decide +kernel
theorem ks823_0 : aseg kS krf kB [kE542, kE543] (ksp []) kE823 [kC823_0] 30000 (some kC823_0) = true := by decide +kernel
theorem kok823 : aOK kS krf kB kE823 := aOK_of (kal1 kok542 (kal1 kok543 kal0)) (kcl1 ks823_0 kcl0) ks823
/-- ColdShod$StrokePlan.addNext(LColdShod$Idea;I)V -/
def kE824 : aE := (83, 3, ([(.ofNat 0, .ofNat 3), (.ofNat 181, .ofNat 341)], [(57, 180, .inl (0, .ofNat 0)), (52, 6, .inl (1, .ofNat 0))], 0, [some (.inr [52]), some (.inr [20, 21, 22, 23, 24, 25, 26, 27]), some (.inl (.inl (.inr (.ofNat 180)))), none, none], []), ([], none), ([], [], none, ([], [])), ([(52, 6), (58, 0), (58, 1), (58, 2), (58, 3), (58, 4), (58, 5), (58, 6)], [54, 55, 56, 57]))
def kC824_0 : aC := (([(.ofNat 0, .ofNat 3), (.ofNat 181, .ofNat 341), (.ofNat 0, .ofNat 4), (.ofNat 181, .ofNat 341)], [(57, 180, .inl (0, .ofNat 0)), (52, 6, .inl (3, .ofNat 0))], 2, [some (.inr [52]), some (.inr [20, 21, 22, 23, 24, 25, 26, 27]), some (.inl (.inl (.inr (.ofNat 180)))), some (.inl (.inl (.inl (2, .ofNat 0)))), none], []), ([], []), (4, [(-1, 2)]))
theorem ks824 : aseg kS krf kB [kE542, kE543] (ksp []) kE824 [kC824_0] 30000 (none) = true := by decide +kernel
theorem ks824_0 : aseg kS krf kB [kE542, kE543] (ksp []) kE824 [kC824_0] 30000 (some kC824_0) = true := by decide +kernel
theorem kok824 : aOK kS krf kB kE824 := aOK_of (kal1 kok542 (kal1 kok543 kal0)) (kcl1 ks824_0 kcl0) ks824
/-- ColdShod$StrokePlan.addNext(LColdShod$Idea;I)V -/
def kE825 : aE := (83, 3, ([(.ofNat 0, .ofNat 3), (.ofNat 180, .ofNat 341)], [(57, 179, .inl (0, .ofNat 0)), (52, 6, .inl (1, .ofNat 0))], 0, [some (.inr [52]), some (.inr [20, 21, 22, 23, 24, 25, 26, 27]), some (.inl (.inl (.inr (.ofNat 179)))), none, none], []), ([], none), ([], [], none, ([], [])), ([(52, 6), (58, 0), (58, 1), (58, 2), (58, 3), (58, 4), (58, 5), (58, 6)], [54, 55, 56, 57]))
def kC825_0 : aC := (([(.ofNat 0, .ofNat 3), (.ofNat 180, .ofNat 341), (.ofNat 0, .ofNat 4), (.ofNat 180, .ofNat 341)], [(57, 179, .inl (0, .ofNat 0)), (52, 6, .inl (3, .ofNat 0))], 2, [some (.inr [52]), some (.inr [20, 21, 22, 23, 24, 25, 26, 27]), some (.inl (.inl (.inr (.ofNat 179)))), some (.inl (.inl (.inl (2, .ofNat 0)))), none], []), ([], []), (4, [(-1, 2)]))
theorem ks825 : aseg kS krf kB [kE542, kE543] (ksp []) kE825 [kC825_0] 30000 (none) = true := by decide +kernel
theorem ks825_0 : aseg kS krf kB [kE542, kE543] (ksp []) kE825 [kC825_0] 30000 (some kC825_0) = true := by decide +kernel
theorem kok825 : aOK kS krf kB kE825 := aOK_of (kal1 kok542 (kal1 kok543 kal0)) (kcl1 ks825_0 kcl0) ks825
/-- ColdShod$StrokePlan.addNext(LColdShod$Idea;I)V -/
def kE826 : aE := (83, 3, ([(.ofNat 0, .ofNat 3), (.ofNat 179, .ofNat 341)], [(57, 178, .inl (0, .ofNat 0)), (52, 6, .inl (1, .ofNat 0))], 0, [some (.inr [52]), some (.inr [20, 21, 22, 23, 24, 25, 26, 27]), some (.inl (.inl (.inr (.ofNat 178)))), none, none], []), ([], none), ([], [], none, ([], [])), ([(52, 6), (58, 0), (58, 1), (58, 2), (58, 3), (58, 4), (58, 5), (58, 6)], [54, 55, 56, 57]))
def kC826_0 : aC := (([(.ofNat 0, .ofNat 3), (.ofNat 179, .ofNat 341), (.ofNat 0, .ofNat 4), (.ofNat 179, .ofNat 341)], [(57, 178, .inl (0, .ofNat 0)), (52, 6, .inl (3, .ofNat 0))], 2, [some (.inr [52]), some (.inr [20, 21, 22, 23, 24, 25, 26, 27]), some (.inl (.inl (.inr (.ofNat 178)))), some (.inl (.inl (.inl (2, .ofNat 0)))), none], []), ([], []), (4, [(-1, 2)]))
theorem ks826 : aseg kS krf kB [kE542, kE543] (ksp []) kE826 [kC826_0] 30000 (none) = true := by decide +kernel
theorem ks826_0 : aseg kS krf kB [kE542, kE543] (ksp []) kE826 [kC826_0] 30000 (some kC826_0) = true := by decide +kernel
theorem kok826 : aOK kS krf kB kE826 := aOK_of (kal1 kok542 (kal1 kok543 kal0)) (kcl1 ks826_0 kcl0) ks826
/-- ColdShod$StrokePlan.addNext(LColdShod$Idea;I)V -/
def kE827 : aE := (83, 3, ([(.ofNat 0, .ofNat 3), (.ofNat 178, .ofNat 341)], [(57, 177, .inl (0, .ofNat 0)), (52, 6, .inl (1, .ofNat 0))], 0, [some (.inr [52]), some (.inr [20, 21, 22, 23, 24, 25, 26, 27]), some (.inl (.inl (.inr (.ofNat 177)))), none, none], []), ([], none), ([], [], none, ([], [])), ([(52, 6), (58, 0), (58, 1), (58, 2), (58, 3), (58, 4), (58, 5), (58, 6)], [54, 55, 56, 57]))
def kC827_0 : aC := (([(.ofNat 0, .ofNat 3), (.ofNat 178, .ofNat 341), (.ofNat 0, .ofNat 4), (.ofNat 178, .ofNat 341)], [(57, 177, .inl (0, .ofNat 0)), (52, 6, .inl (3, .ofNat 0))], 2, [some (.inr [52]), some (.inr [20, 21, 22, 23, 24, 25, 26, 27]), some (.inl (.inl (.inr (.ofNat 177)))), some (.inl (.inl (.inl (2, .ofNat 0)))), none], []), ([], []), (4, [(-1, 2)]))
theorem ks827 : aseg kS krf kB [kE542, kE543] (ksp []) kE827 [kC827_0] 30000 (none) = true := by decide +kernel
theorem ks827_0 : aseg kS krf kB [kE542, kE543] (ksp []) kE827 [kC827_0] 30000 (some kC827_0) = true := by decide +kernel
theorem kok827 : aOK kS krf kB kE827 := aOK_of (kal1 kok542 (kal1 kok543 kal0)) (kcl1 ks827_0 kcl0) ks827
/-- ColdShod$StrokePlan.addNext(LColdShod$Idea;I)V -/
def kE828 : aE := (83, 3, ([(.ofNat 0, .ofNat 3), (.ofNat 177, .ofNat 341)], [(57, 176, .inl (0, .ofNat 0)), (52, 6, .inl (1, .ofNat 0))], 0, [some (.inr [52]), some (.inr [20, 21, 22, 23, 24, 25, 26, 27]), some (.inl (.inl (.inr (.ofNat 176)))), none, none], []), ([], none), ([], [], none, ([], [])), ([(52, 6), (58, 0), (58, 1), (58, 2), (58, 3), (58, 4), (58, 5), (58, 6)], [54, 55, 56, 57]))
def kC828_0 : aC := (([(.ofNat 0, .ofNat 3), (.ofNat 177, .ofNat 341), (.ofNat 0, .ofNat 4), (.ofNat 177, .ofNat 341)], [(57, 176, .inl (0, .ofNat 0)), (52, 6, .inl (3, .ofNat 0))], 2, [some (.inr [52]), some (.inr [20, 21, 22, 23, 24, 25, 26, 27]), some (.inl (.inl (.inr (.ofNat 176)))), some (.inl (.inl (.inl (2, .ofNat 0)))), none], []), ([], []), (4, [(-1, 2)]))
theorem ks828 : aseg kS krf kB [kE542, kE543] (ksp []) kE828 [kC828_0] 30000 (none) = true := by decide +kernel
theorem ks828_0 : aseg kS krf kB [kE542, kE543] (ksp []) kE828 [kC828_0] 30000 (some kC828_0) = true := by decide +kernel
theorem kok828 : aOK kS krf kB kE828 := aOK_of (kal1 kok542 (kal1 kok543 kal0)) (kcl1 ks828_0 kcl0) ks828
/-- ColdShod$StrokePlan.addNext(LColdShod$Idea;I)V -/
def kE829 : aE := (83, 3, ([(.ofNat 0, .ofNat 3), (.ofNat 176, .ofNat 341)], [(57, 175, .inl (0, .ofNat 0)), (52, 6, .inl (1, .ofNat 0))], 0, [some (.inr [52]), some (.inr [20, 21, 22, 23, 24, 25, 26, 27]), some (.inl (.inl (.inr (.ofNat 175)))), none, none], []), ([], none), ([], [], none, ([], [])), ([(52, 6), (58, 0), (58, 1), (58, 2), (58, 3), (58, 4), (58, 5), (58, 6)], [54, 55, 56, 57]))
def kC829_0 : aC := (([(.ofNat 0, .ofNat 3), (.ofNat 176, .ofNat 341), (.ofNat 0, .ofNat 4), (.ofNat 176, .ofNat 341)], [(57, 175, .inl (0, .ofNat 0)), (52, 6, .inl (3, .ofNat 0))], 2, [some (.inr [52]), some (.inr [20, 21, 22, 23, 24, 25, 26, 27]), some (.inl (.inl (.inr (.ofNat 175)))), some (.inl (.inl (.inl (2, .ofNat 0)))), none], []), ([], []), (4, [(-1, 2)]))
theorem ks829 : aseg kS krf kB [kE542, kE543] (ksp []) kE829 [kC829_0] 30000 (none) = true := by decide +kernel
theorem ks829_0 : aseg kS krf kB [kE542, kE543] (ksp []) kE829 [kC829_0] 30000 (some kC829_0) = true := by decide +kernel
theorem kok829 : aOK kS krf kB kE829 := aOK_of (kal1 kok542 (kal1 kok543 kal0)) (kcl1 ks829_0 kcl0) ks829
/-- ColdShod$StrokePlan.addNext(LColdShod$Idea;I)V -/
def kE830 : aE := (83, 3, ([(.ofNat 0, .ofNat 3), (.ofNat 175, .ofNat 341)], [(57, 174, .inl (0, .ofNat 0)), (52, 6, .inl (1, .ofNat 0))], 0, [some (.inr [52]), some (.inr [20, 21, 22, 23, 24, 25, 26, 27]), some (.inl (.inl (.inr (.ofNat 174)))), none, none], []), ([], none), ([], [], none, ([], [])), ([(52, 6), (58, 0), (58, 1), (58, 2), (58, 3), (58, 4), (58, 5), (58, 6)], [54, 55, 56, 57]))
def kC830_0 : aC := (([(.ofNat 0, .ofNat 3), (.ofNat 175, .ofNat 341), (.ofNat 0, .ofNat 4), (.ofNat 175, .ofNat 341)], [(57, 174, .inl (0, .ofNat 0)), (52, 6, .inl (3, .ofNat 0))], 2, [some (.inr [52]), some (.inr [20, 21, 22, 23, 24, 25, 26, 27]), some (.inl (.inl (.inr (.ofNat 174)))), some (.inl (.inl (.inl (2, .ofNat 0)))), none], []), ([], []), (4, [(-1, 2)]))
theorem ks830 : aseg kS krf kB [kE542, kE543] (ksp []) kE830 [kC830_0] 30000 (none) = true := by decide +kernel
theorem ks830_0 : aseg kS krf kB [kE542, kE543] (ksp []) kE830 [kC830_0] 30000 (some kC830_0) = true := by decide +kernel
theorem kok830 : aOK kS krf kB kE830 := aOK_of (kal1 kok542 (kal1 kok543 kal0)) (kcl1 ks830_0 kcl0) ks830
/-- ColdShod$StrokePlan.addNext(LColdShod$Idea;I)V -/
def kE831 : aE := (83, 3, ([(.ofNat 0, .ofNat 3), (.ofNat 174, .ofNat 341)], [(57, 173, .inl (0, .ofNat 0)), (52, 6, .inl (1, .ofNat 0))], 0, [some (.inr [52]), some (.inr [20, 21, 22, 23, 24, 25, 26, 27]), some (.inl (.inl (.inr (.ofNat 173)))), none, none], []), ([], none), ([], [], none, ([], [])), ([(52, 6), (58, 0), (58, 1), (58, 2), (58, 3), (58, 4), (58, 5), (58, 6)], [54, 55, 56, 57]))
def kC831_0 : aC := (([(.ofNat 0, .ofNat 3), (.ofNat 174, .ofNat 341), (.ofNat 0, .ofNat 4), (.ofNat 174, .ofNat 341)], [(57, 173, .inl (0, .ofNat 0)), (52, 6, .inl (3, .ofNat 0))], 2, [some (.inr [52]), some (.inr [20, 21, 22, 23, 24, 25, 26, 27]), some (.inl (.inl (.inr (.ofNat 173)))), some (.inl (.inl (.inl (2, .ofNat 0)))), none], []), ([], []), (4, [(-1, 2)]))
theorem ks831 : aseg kS krf kB [kE542, kE543] (ksp []) kE831 [kC831_0] 30000 (none) = true := by decide +kernel
theorem ks831_0 : aseg kS krf kB [kE542, kE543] (ksp []) kE831 [kC831_0] 30000 (some kC831_0) = true := by decide +kernel
theorem kok831 : aOK kS krf kB kE831 := aOK_of (kal1 kok542 (kal1 kok543 kal0)) (kcl1 ks831_0 kcl0) ks831
/-- ColdShod$StrokePlan.addNext(LColdShod$Idea;I)V -/
def kE832 : aE := (83, 3, ([(.ofNat 0, .ofNat 3), (.ofNat 173, .ofNat 341)], [(57, 172, .inl (0, .ofNat 0)), (52, 6, .inl (1, .ofNat 0))], 0, [some (.inr [52]), some (.inr [20, 21, 22, 23, 24, 25, 26, 27]), some (.inl (.inl (.inr (.ofNat 172)))), none, none], []), ([], none), ([], [], none, ([], [])), ([(52, 6), (58, 0), (58, 1), (58, 2), (58, 3), (58, 4), (58, 5), (58, 6)], [54, 55, 56, 57]))
def kC832_0 : aC := (([(.ofNat 0, .ofNat 3), (.ofNat 173, .ofNat 341), (.ofNat 0, .ofNat 4), (.ofNat 173, .ofNat 341)], [(57, 172, .inl (0, .ofNat 0)), (52, 6, .inl (3, .ofNat 0))], 2, [some (.inr [52]), some (.inr [20, 21, 22, 23, 24, 25, 26, 27]), some (.inl (.inl (.inr (.ofNat 172)))), some (.inl (.inl (.inl (2, .ofNat 0)))), none], []), ([], []), (4, [(-1, 2)]))
theorem ks832 : aseg kS krf kB [kE542, kE543] (ksp []) kE832 [kC832_0] 30000 (none) = true := by decide +kernel
theorem ks832_0 : aseg kS krf kB [kE542, kE543] (ksp []) kE832 [kC832_0] 30000 (some kC832_0) = true := by decide +kernel
theorem kok832 : aOK kS krf kB kE832 := aOK_of (kal1 kok542 (kal1 kok543 kal0)) (kcl1 ks832_0 kcl0) ks832
/-- ColdShod$StrokePlan.addNext(LColdShod$Idea;I)V -/
def kE833 : aE := (83, 3, ([(.ofNat 0, .ofNat 3), (.ofNat 172, .ofNat 341)], [(57, 171, .inl (0, .ofNat 0)), (52, 6, .inl (1, .ofNat 0))], 0, [some (.inr [52]), some (.inr [20, 21, 22, 23, 24, 25, 26, 27]), some (.inl (.inl (.inr (.ofNat 171)))), none, none], []), ([], none), ([], [], none, ([], [])), ([(52, 6), (58, 0), (58, 1), (58, 2), (58, 3), (58, 4), (58, 5), (58, 6)], [54, 55, 56, 57]))
def kC833_0 : aC := (([(.ofNat 0, .ofNat 3), (.ofNat 172, .ofNat 341), (.ofNat 0, .ofNat 4), (.ofNat 172, .ofNat 341)], [(57, 171, .inl (0, .ofNat 0)), (52, 6, .inl (3, .ofNat 0))], 2, [some (.inr [52]), some (.inr [20, 21, 22, 23, 24, 25, 26, 27]), some (.inl (.inl (.inr (.ofNat 171)))), some (.inl (.inl (.inl (2, .ofNat 0)))), none], []), ([], []), (4, [(-1, 2)]))
theorem ks833 : aseg kS krf kB [kE542, kE543] (ksp []) kE833 [kC833_0] 30000 (none) = true := by decide +kernel
theorem ks833_0 : aseg kS krf kB [kE542, kE543] (ksp []) kE833 [kC833_0] 30000 (some kC833_0) = true := by decide +kernel
theorem kok833 : aOK kS krf kB kE833 := aOK_of (kal1 kok542 (kal1 kok543 kal0)) (kcl1 ks833_0 kcl0) ks833
