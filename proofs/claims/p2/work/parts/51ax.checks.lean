/-! ENTRIES and their checks: printed by a program (wip/ai). -/
/-- ColdShod$StrokePlan.addNext(LColdShod$Idea;I)V -/
def kE760 : aE := (83, 3, ([(.ofNat 0, .ofNat 3), (.ofNat 125, .ofNat 341)], [(57, 124, .inl (0, .ofNat 0)), (52, 6, .inl (1, .ofNat 0))], 0, [some (.inr [52]), some (.inr [20, 21, 22, 23, 24, 25, 26, 27]), some (.inl (.inl (.inr (.ofNat 124)))), none, none], []), ([], none), ([], [], none, ([], [])), ([(52, 6), (58, 0), (58, 1), (58, 2), (58, 3), (58, 4), (58, 5), (58, 6)], [54, 55, 56, 57]))
def kC760_0 : aC := (([(.ofNat 0, .ofNat 3), (.ofNat 125, .ofNat 341), (.ofNat 0, .ofNat 4), (.ofNat 125, .ofNat 341)], [(57, 124, .inl (0, .ofNat 0)), (52, 6, .inl (3, .ofNat 0))], 2, [some (.inr [52]), some (.inr [20, 21, 22, 23, 24, 25, 26, 27]), some (.inl (.inl (.inr (.ofNat 124)))), some (.inl (.inl (.inl (2, .ofNat 0)))), none], []), ([], []), (4, [(-1, 2)]))
theorem ks760 : aseg kS krf kB [kE542, kE543] (ksp []) kE760 [kC760_0] 30000 (none) = true := by decide +kernel
theorem ks760_0 : aseg kS krf kB [kE542, kE543] (ksp []) kE760 [kC760_0] 30000 (some kC760_0) = true := by decide +kernel
theorem kok760 : aOK kS krf kB kE760 := aOK_of (kal1 kok542 (kal1 kok543 kal0)) (kcl1 ks760_0 kcl0) ks760
/-- ColdShod$StrokePlan.addNext(LColdShod$Idea;I)V -/
def kE761 : aE := (83, 3, ([(.ofNat 0, .ofNat 3), (.ofNat 124, .ofNat 341)], [(57, 123, .inl (0, .ofNat 0)), (52, 6, .inl (1, .ofNat 0))], 0, [some (.inr [52]), some (.inr [20, 21, 22, 23, 24, 25, 26, 27]), some (.inl (.inl (.inr (.ofNat 123)))), none, none], []), ([], none), ([], [], none, ([], [])), ([(52, 6), (58, 0), (58, 1), (58, 2), (58, 3), (58, 4), (58, 5), (58, 6)], [54, 55, 56, 57]))
def kC761_0 : aC := (([(.ofNat 0, .ofNat 3), (.ofNat 124, .ofNat 341), (.ofNat 0, .ofNat 4), (.ofNat 124, .ofNat 341)], [(57, 123, .inl (0, .ofNat 0)), (52, 6, .inl (3, .ofNat 0))], 2, [some (.inr [52]), some (.inr [20, 21, 22, 23, 24, 25, 26, 27]), some (.inl (.inl (.inr (.ofNat 123)))), some (.inl (.inl (.inl (2, .ofNat 0)))), none], []), ([], []), (4, [(-1, 2)]))
theorem ks761 : aseg kS krf kB [kE542, kE543] (ksp []) kE761 [kC761_0] 30000 (none) = true := by decide +kernel
theorem ks761_0 : aseg kS krf kB [kE542, kE543] (ksp []) kE761 [kC761_0] 30000 (some kC761_0) = true := by decide +kernel
theorem kok761 : aOK kS krf kB kE761 := aOK_of (kal1 kok542 (kal1 kok543 kal0)) (kcl1 ks761_0 kcl0) ks761
/-- ColdShod$StrokePlan.addNext(LColdShod$Idea;I)V -/
def kE762 : aE := (83, 3, ([(.ofNat 0, .ofNat 3), (.ofNat 123, .ofNat 341)], [(57, 122, .inl (0, .ofNat 0)), (52, 6, .inl (1, .ofNat 0))], 0, [some (.inr [52]), some (.inr [20, 21, 22, 23, 24, 25, 26, 27]), some (.inl (.inl (.inr (.ofNat 122)))), none, none], []), ([], none), ([], [], none, ([], [])), ([(52, 6), (58, 0), (58, 1), (58, 2), (58, 3), (58, 4), (58, 5), (58, 6)], [54, 55, 56, 57]))
def kC762_0 : aC := (([(.ofNat 0, .ofNat 3), (.ofNat 123, .ofNat 341), (.ofNat 0, .ofNat 4), (.ofNat 123, .ofNat 341)], [(57, 122, .inl (0, .ofNat 0)), (52, 6, .inl (3, .ofNat 0))], 2, [some (.inr [52]), some (.inr [20, 21, 22, 23, 24, 25, 26, 27]), some (.inl (.inl (.inr (.ofNat 122)))), some (.inl (.inl (.inl (2, .ofNat 0)))), none], []), ([], []), (4, [(-1, 2)]))
theorem ks762 : aseg kS krf kB [kE542, kE543] (ksp []) kE762 [kC762_0] 30000 (none) = true := by decide +kernel
theorem ks762_0 : aseg kS krf kB [kE542, kE543] (ksp []) kE762 [kC762_0] 30000 (some kC762_0) = true := by decide +kernel
theorem kok762 : aOK kS krf kB kE762 := aOK_of (kal1 kok542 (kal1 kok543 kal0)) (kcl1 ks762_0 kcl0) ks762
/-- ColdShod$StrokePlan.addNext(LColdShod$Idea;I)V -/
def kE763 : aE := (83, 3, ([(.ofNat 0, .ofNat 3), (.ofNat 122, .ofNat 341)], [(57, 121, .inl (0, .ofNat 0)), (52, 6, .inl (1, .ofNat 0))], 0, [some (.inr [52]), some (.inr [20, 21, 22, 23, 24, 25, 26, 27]), some (.inl (.inl (.inr (.ofNat 121)))), none, none], []), ([], none), ([], [], none, ([], [])), ([(52, 6), (58, 0), (58, 1), (58, 2), (58, 3), (58, 4), (58, 5), (58, 6)], [54, 55, 56, 57]))
def kC763_0 : aC := (([(.ofNat 0, .ofNat 3), (.ofNat 122, .ofNat 341), (.ofNat 0, .ofNat 4), (.ofNat 122, .ofNat 341)], [(57, 121, .inl (0, .ofNat 0)), (52, 6, .inl (3, .ofNat 0))], 2, [some (.inr [52]), some (.inr [20, 21, 22, 23, 24, 25, 26, 27]), some (.inl (.inl (.inr (.ofNat 121)))), some (.inl (.inl (.inl (2, .ofNat 0)))), none], []), ([], []), (4, [(-1, 2)]))
theorem ks763 : aseg kS krf kB [kE542, kE543] (ksp []) kE763 [kC763_0] 30000 (none) = true := by decide +kernel
theorem ks763_0 : aseg kS krf kB [kE542, kE543] (ksp []) kE763 [kC763_0] 30000 (some kC763_0) = true := by decide +kernel
theorem kok763 : aOK kS krf kB kE763 := aOK_of (kal1 kok542 (kal1 kok543 kal0)) (kcl1 ks763_0 kcl0) ks763
/-- ColdShod$StrokePlan.addNext(LColdShod$Idea;I)V -/
def kE764 : aE := (83, 3, ([(.ofNat 0, .ofNat 3), (.ofNat 121, .ofNat 341)], [(57, 120, .inl (0, .ofNat 0)), (52, 6, .inl (1, .ofNat 0))], 0, [some (.inr [52]), some (.inr [20, 21, 22, 23, 24, 25, 26, 27]), some (.inl (.inl (.inr (.ofNat 120)))), none, none], []), ([], none), ([], [], none, ([], [])), ([(52, 6), (58, 0), (58, 1), (58, 2), (58, 3), (58, 4), (58, 5), (58, 6)], [54, 55, 56, 57]))
def kC764_0 : aC := (([(.ofNat 0, .ofNat 3), (.ofNat 121, .ofNat 341), (.ofNat 0, .ofNat 4), (.ofNat 121, .ofNat 341)], [(57, 120, .inl (0, .ofNat 0)), (52, 6, .inl (3, .ofNat 0))], 2, [some (.inr [52]), some (.inr [20, 21, 22, 23, 24, 25, 26, 27]), some (.inl (.inl (.inr (.ofNat 120)))), some (.inl (.inl (.inl (2, .ofNat 0)))), none], []), ([], []), (4, [(-1, 2)]))
theorem ks764 : aseg kS krf kB [kE542, kE543] (ksp []) kE764 [kC764_0] 30000 (none) = true := by decide +kernel
theorem ks764_0 : aseg kS krf kB [kE542, kE543] (ksp []) kE764 [kC764_0] 30000 (some kC764_0) = true := by decide +kernel
theorem kok764 : aOK kS krf kB kE764 := aOK_of (kal1 kok542 (kal1 kok543 kal0)) (kcl1 ks764_0 kcl0) ks764
/-- ColdShod$StrokePlan.addNext(LColdShod$Idea;I)V -/
def kE765 : aE := (83, 3, ([(.ofNat 0, .ofNat 3), (.ofNat 120, .ofNat 341)], [(57, 119, .inl (0, .ofNat 0)), (52, 6, .inl (1, .ofNat 0))], 0, [some (.inr [52]), some (.inr [20, 21, 22, 23, 24, 25, 26, 27]), some (.inl (.inl (.inr (.ofNat 119)))), none, none], []), ([], none), ([], [], none, ([], [])), ([(52, 6), (58, 0), (58, 1), (58, 2), (58, 3), (58, 4), (58, 5), (58, 6)], [54, 55, 56, 57]))
def kC765_0 : aC := (([(.ofNat 0, .ofNat 3), (.ofNat 120, .ofNat 341), (.ofNat 0, .ofNat 4), (.ofNat 120, .ofNat 341)], [(57, 119, .inl (0, .ofNat 0)), (52, 6, .inl (3, .ofNat 0))], 2, [some (.inr [52]), some (.inr [20, 21, 22, 23, 24, 25, 26, 27]), some (.inl (.inl (.inr (.ofNat 119)))), some (.inl (.inl (.inl (2, .ofNat 0)))), none], []), ([], []), (4, [(-1, 2)]))
theorem ks765 : aseg kS krf kB [kE542, kE543] (ksp []) kE765 [kC765_0] 30000 (none) = true := by decide +kernel
theorem ks765_0 : aseg kS krf kB [kE542, kE543] (ksp []) kE765 [kC765_0] 30000 (some kC765_0) = true := by decide +kernel
theorem kok765 : aOK kS krf kB kE765 := aOK_of (kal1 kok542 (kal1 kok543 kal0)) (kcl1 ks765_0 kcl0) ks765
/-- ColdShod$StrokePlan.addNext(LColdShod$Idea;I)V -/
def kE766 : aE := (83, 3, ([(.ofNat 0, .ofNat 3), (.ofNat 119, .ofNat 341)], [(57, 118, .inl (0, .ofNat 0)), (52, 6, .inl (1, .ofNat 0))], 0, [some (.inr [52]), some (.inr [20, 21, 22, 23, 24, 25, 26, 27]), some (.inl (.inl (.inr (.ofNat 118)))), none, none], []), ([], none), ([], [], none, ([], [])), ([(52, 6), (58, 0), (58, 1), (58, 2), (58, 3), (58, 4), (58, 5), (58, 6)], [54, 55, 56, 57]))
def kC766_0 : aC := (([(.ofNat 0, .ofNat 3), (.ofNat 119, .ofNat 341), (.ofNat 0, .ofNat 4), (.ofNat 119, .ofNat 341)], [(57, 118, .inl (0, .ofNat 0)), (52, 6, .inl (3, .ofNat 0))], 2, [some (.inr [52]), some (.inr [20, 21, 22, 23, 24, 25, 26, 27]), some (.inl (.inl (.inr (.ofNat 118)))), some (.inl (.inl (.inl (2, .ofNat 0)))), none], []), ([], []), (4, [(-1, 2)]))
theorem ks766 : aseg kS krf kB [kE542, kE543] (ksp []) kE766 [kC766_0] 30000 (none) = true := by decide +kernel
theorem ks766_0 : aseg kS krf kB [kE542, kE543] (ksp []) kE766 [kC766_0] 30000 (some kC766_0) = true := by decide +kernel
theorem kok766 : aOK kS krf kB kE766 := aOK_of (kal1 kok542 (kal1 kok543 kal0)) (kcl1 ks766_0 kcl0) ks766
/-- ColdShod$StrokePlan.addNext(LColdShod$Idea;I)V -/
def kE767 : aE := (83, 3, ([(.ofNat 0, .ofNat 3), (.ofNat 118, .ofNat 341)], [(57, 117, .inl (0, .ofNat 0)), (52, 6, .inl (1, .ofNat 0))], 0, [some (.inr [52]), some (.inr [20, 21, 22, 23, 24, 25, 26, 27]), some (.inl (.inl (.inr (.ofNat 117)))), none, none], []), ([], none), ([], [], none, ([], [])), ([(52, 6), (58, 0), (58, 1), (58, 2), (58, 3), (58, 4), (58, 5), (58, 6)], [54, 55, 56, 57]))
def kC767_0 : aC := (([(.ofNat 0, .ofNat 3), (.ofNat 118, .ofNat 341), (.ofNat 0, .ofNat 4), (.ofNat 118, .ofNat 341)], [(57, 117, .inl (0, .ofNat 0)), (52, 6, .inl (3, .ofNat 0))], 2, [some (.inr [52]), some (.inr [20, 21, 22, 23, 24, 25, 26, 27]), some (.inl (.inl (.inr (.ofNat 117)))), some (.inl (.inl (.inl (2, .ofNat 0)))), none], []), ([], []), (4, [(-1, 2)]))
theorem ks767 : aseg kS krf kB [kE542, kE543] (ksp []) kE767 [kC767_0] 30000 (none) = true := by decide +kernel
theorem ks767_0 : aseg kS krf kB [kE542, kE543] (ksp []) kE767 [kC767_0] 30000 (some kC767_0) = true := by decide +kernel
theorem kok767 : aOK kS krf kB kE767 := aOK_of (kal1 kok542 (kal1 kok543 kal0)) (kcl1 ks767_0 kcl0) ks767
/-- ColdShod$StrokePlan.addNext(LColdShod$Idea;I)V -/
def kE768 : aE := (83, 3, ([(.ofNat 0, .ofNat 3), (.ofNat 117, .ofNat 341)], [(57, 116, .inl (0, .ofNat 0)), (52, 6, .inl (1, .ofNat 0))], 0, [some (.inr [52]), some (.inr [20, 21, 22, 23, 24, 25, 26, 27]), some (.inl (.inl (.inr (.ofNat 116)))), none, none], []), ([], none), ([], [], none, ([], [])), ([(52, 6), (58, 0), (58, 1), (58, 2), (58, 3), (58, 4), (58, 5), (58, 6)], [54, 55, 56, 57]))
def kC768_0 : aC := (([(.ofNat 0, .ofNat 3), (.ofNat 117, .ofNat 341), (.ofNat 0, .ofNat 4), (.ofNat 117, .ofNat 341)], [(57, 116, .inl (0, .ofNat 0)), (52, 6, .inl (3, .ofNat 0))], 2, [some (.inr [52]), some (.inr [20, 21, 22, 23, 24, 25, 26, 27]), some (.inl (.inl (.inr (.ofNat 116)))), some (.inl (.inl (.inl (2, .ofNat 0)))), none], []), ([], []), (4, [(-1, 2)]))
theorem ks768 : aseg kS krf kB [kE542, kE543] (ksp []) kE768 [kC768_0] 30000 (none) = true := by decide +kernel
theorem ks768_0 : aseg kS krf kB [kE542, kE543] (ksp []) kE768 [kC768_0] 30000 (some kC768_0) = true := by decide +kernel
theorem kok768 : aOK kS krf kB kE768 := aOK_of (kal1 kok542 (kal1 kok543 kal0)) (kcl1 ks768_0 kcl0) ks768
/-- ColdShod$StrokePlan.addNext(LColdShod$Idea;I)V -/
def kE769 : aE := (83, 3, ([(.ofNat 0, .ofNat 3), (.ofNat 116, .ofNat 341)], [(57, 115, .inl (0, .ofNat 0)), (52, 6, .inl (1, .ofNat 0))], 0, [some (.inr [52]), some (.inr [20, 21, 22, 23, 24, 25, 26, 27]), some (.inl (.inl (.inr (.ofNat 115)))), none, none], []), ([], none), ([], [], none, ([], [])), ([(52, 6), (58, 0), (58, 1), (58, 2), (58, 3), (58, 4), (58, 5), (58, 6)], [54, 55, 56, 57]))
def kC769_0 : aC := (([(.ofNat 0, .ofNat 3), (.ofNat 116, .ofNat 341), (.ofNat 0, .ofNat 4), (.ofNat 116, .ofNat 341)], [(57, 115, .inl (0, .ofNat 0)), (52, 6, .inl (3, .ofNat 0))], 2, [some (.inr [52]), some (.inr [20, 21, 22, 23, 24, 25, 26, 27]), some (.inl (.inl (.inr (.ofNat 115)))), some (.inl (.inl (.inl (2, .ofNat 0)))), none], []), ([], []), (4, [(-1, 2)]))
theorem ks769 : aseg kS krf kB [kE542, kE543] (ksp []) kE769 [kC769_0] 30000 (none) = true := by decide +kernel
theorem ks769_0 : aseg kS krf kB [kE542, kE543] (ksp []) kE769 [kC769_0] 30000 (some kC769_0) = true := by decide +kernel
theorem kok769 : aOK kS krf kB kE769 := aOK_of (kal1 kok542 (kal1 kok543 kal0)) (kcl1 ks769_0 kcl0) ks769
/-- ColdShod$StrokePlan.addNext(LColdShod$Idea;I)V -/
def kE770 : aE := (83, 3, ([(.ofNat 0, .ofNat 3), (.ofNat 115, .ofNat 341)], [(57, 114, .inl (0, .ofNat 0)), (52, 6, .inl (1, .ofNat 0))], 0, [some (.inr [52]), some (.inr [20, 21, 22, 23, 24, 25, 26, 27]), some (.inl (.inl (.inr (.ofNat 114)))), none, none], []), ([], none), ([], [], none, ([], [])), ([(52, 6), (58, 0), (58, 1), (58, 2), (58, 3), (58, 4), (58, 5), (58, 6)], [54, 55, 56, 57]))
def kC770_0 : aC := (([(.ofNat 0, .ofNat 3), (.ofNat 115, .ofNat 341), (.ofNat 0, .ofNat 4), (.ofNat 115, .ofNat 341)], [(57, 114, .inl (0, .ofNat 0)), (52, 6, .inl (3, .ofNat 0))], 2, [some (.inr [52]), some (.inr [20, 21, 22, 23, 24, 25, 26, 27]), some (.inl (.inl (.inr (.ofNat 114)))), some (.inl (.inl (.inl (2, .ofNat 0)))), none], []), ([], []), (4, [(-1, 2)]))
theorem ks770 : aseg kS krf kB [kE542, kE543] (ksp []) kE770 [kC770_0] 30000 (none) = true := by decide +kernel
theorem ks770_0 : aseg kS krf kB [kE542, kE543] (ksp []) kE770 [kC770_0] 30000 (some kC770_0) = true := by decide +kernel
theorem kok770 : aOK kS krf kB kE770 := aOK_of (kal1 kok542 (kal1 kok543 kal0)) (kcl1 ks770_0 kcl0) ks770
/-- ColdShod$StrokePlan.addNext(LColdShod$Idea;I)V -/
def kE771 : aE := (83, 3, ([(.ofNat 0, .ofNat 3), (.ofNat 114, .ofNat 341)], [(57, 113, .inl (0, .ofNat 0)), (52, 6, .inl (1, .ofNat 0))], 0, [some (.inr [52]), some (.inr [20, 21, 22, 23, 24, 25, 26, 27]), some (.inl (.inl (.inr (.ofNat 113)))), none, none], []), ([], none), ([], [], none, ([], [])), ([(52, 6), (58, 0), (58, 1), (58, 2), (58, 3), (58, 4), (58, 5), (58, 6)], [54, 55, 56, 57]))
def kC771_0 : aC := (([(.ofNat 0, .ofNat 3), (.ofNat 114, .ofNat 341), (.ofNat 0, .ofNat 4), (.ofNat 114, .ofNat 341)], [(57, 113, .inl (0, .ofNat 0)), (52, 6, .inl (3, .ofNat 0))], 2, [some (.inr [52]), some (.inr [20, 21, 22, 23, 24, 25, 26, 27]), some (.inl (.inl (.inr (.ofNat 113)))), some (.inl (.inl (.inl (2, .ofNat 0)))), none], []), ([], []), (4, [(-1, 2)]))
theorem ks771 : aseg kS krf kB [kE542, kE543] (ksp []) kE771 [kC771_0] 30000 (none) = true := by decide +kernel
theorem ks771_0 : aseg kS krf kB [kE542, kE543] (ksp []) kE771 [kC771_0] 30000 (some kC771_0) = true := by decide +kernel
theorem kok771 : aOK kS krf kB kE771 := aOK_of (kal1 kok542 (kal1 kok543 kal0)) (kcl1 ks771_0 kcl0) ks771
/-- ColdShod$StrokePlan.addNext(LColdShod$Idea;I)V -/
def kE772 : aE := (83, 3, ([(.ofNat 0, .ofNat 3), (.ofNat 113, .ofNat 341)], [(57, 112, .inl (0, .ofNat 0)), (52, 6, .inl (1, .ofNat 0))], 0, [some (.inr [52]), some (.inr [20, 21, 22, 23, 24, 25, 26, 27]), some (.inl (.inl (.inr (.ofNat 112)))), none, none], []), ([], none), ([], [], none, ([], [])), ([(52, 6), (58, 0), (58, 1), (58, 2), (58, 3), (58, 4), (58, 5), (58, 6)], [54, 55, 56, 57]))
def kC772_0 : aC := (([(.ofNat 0, .ofNat 3), (.ofNat 113, .ofNat 341), (.ofNat 0, .ofNat 4), (.ofNat 113, .ofNat 341)], [(57, 112, .inl (0, .ofNat 0)), (52, 6, .inl (3, .ofNat 0))], 2, [some (.inr [52]), some (.inr [20, 21, 22, 23, 24, 25, 26, 27]), some (.inl (.inl (.inr (.ofNat 112)))), some (.inl (.inl (.inl (2, .ofNat 0)))), none], []), ([], []), (4, [(-1, 2)]))
theorem ks772 : aseg kS krf kB [kE542, kE543] (ksp []) kE772 [kC772_0] 30000 (none) = true := by decide +kernel
theorem ks772_0 : aseg kS krf kB [kE542, kE543] (ksp []) kE772 [kC772_0] 30000 (some kC772_0) = true := by decide +kernel
theorem kok772 : aOK kS krf kB kE772 := aOK_of (kal1 kok542 (kal1 kok543 kal0)) (kcl1 ks772_0 kcl0) ks772
/-- ColdShod$StrokePlan.addNext(LColdShod$Idea;I)V -/
def kE773 : aE := (83, 3, ([(.ofNat 0, .ofNat 3), (.ofNat 112, .ofNat 341)], [(57, 111, .inl (0, .ofNat 0)), (52, 6, .inl (1, .ofNat 0))], 0, [some (.inr [52]), some (.inr [20, 21, 22, 23, 24, 25, 26, 27]), some (.inl (.inl (.inr (.ofNat 111)))), none, none], []), ([], none), ([], [], none, ([], [])), ([(52, 6), (58, 0), (58, 1), (58, 2), (58, 3), (58, 4), (58, 5), (58, 6)], [54, 55, 56, 57]))
def kC773_0 : aC := (([(.ofNat 0, .ofNat 3), (.ofNat 112, .ofNat 341), (.ofNat 0, .ofNat 4), (.ofNat 112, .ofNat 341)], [(57, 111, .inl (0, .ofNat 0)), (52, 6, .inl (3, .ofNat 0))], 2, [some (.inr [52]), some (.inr [20, 21, 22, 23, 24, 25, 26, 27]), some (.inl (.inl (.inr (.ofNat 111)))), some (.inl (.inl (.inl (2, .ofNat 0)))), none], []), ([], []), (4, [(-1, 2)]))
theorem ks773 : aseg kS krf kB [kE542, kE543] (ksp []) kE773 [kC773_0] 30000 (none) = true := by decide +kernel
theorem ks773_0 : aseg kS krf kB [kE542, kE543] (ksp []) kE773 [kC773_0] 30000 (some kC773_0) = true := by decide +kernel
theorem kok773 : aOK kS krf kB kE773 := aOK_of (kal1 kok542 (kal1 kok543 kal0)) (kcl1 ks773_0 kcl0) ks773
/-- ColdShod$StrokePlan.addNext(LColdShod$Idea;I)V -/
def kE774 : aE := (83, 3, ([(.ofNat 0, .ofNat 3), (.ofNat 111, .ofNat 341)], [(57, 110, .inl (0, .ofNat 0)), (52, 6, .inl (1, .ofNat 0))], 0, [some (.inr [52]), some (.inr [20, 21, 22, 23, 24, 25, 26, 27]), some (.inl (.inl (.inr (.ofNat 110)))), none, none], []), ([], none), ([], [], none, ([], [])), ([(52, 6), (58, 0), (58, 1), (58, 2), (58, 3), (58, 4), (58, 5), (58, 6)], [54, 55, 56, 57]))
def kC774_0 : aC := (([(.ofNat 0, .ofNat 3), (.ofNat 111, .ofNat 341), (.ofNat 0, .ofNat 4), (.ofNat 111, .ofNat 341)], [(57, 110, .inl (0, .ofNat 0)), (52, 6, .inl (3, .ofNat 0))], 2, [some (.inr [52]), some (.inr [20, 21, 22, 23, 24, 25, 26, 27]), some (.inl (.inl (.inr (.ofNat 110)))), some (.inl (.inl (.inl (2, .ofNat 0)))), none], []), ([], []), (4, [(-1, 2)]))
theorem ks774 : aseg kS krf kB [kE542, kE543] (ksp []) kE774 [kC774_0] 30000 (none) = true := by decide +kernel
theorem ks774_0 : aseg kS krf kB [kE542, kE543] (ksp []) kE774 [kC774_0] 30000 (some kC774_0) = true := by decide +kernel
theorem kok774 : aOK kS krf kB kE774 := aOK_of (kal1 kok542 (kal1 kok543 kal0)) (kcl1 ks774_0 kcl0) ks774
/-- ColdShod$StrokePlan.addNext(LColdShod$Idea;I)V -/
def kE775 : aE := (83, 3, ([(.ofNat 0, .ofNat 3), (.ofNat 110, .ofNat 341)], [(57, 109, .inl (0, .ofNat 0)), (52, 6, .inl (1, .ofNat 0))], 0, [some (.inr [52]), some (.inr [20, 21, 22, 23, 24, 25, 26, 27]), some (.inl (.inl (.inr (.ofNat 109)))), none, none], []), ([], none), ([], [], none, ([], [])), ([(52, 6), (58, 0), (58, 1), (58, 2), (58, 3), (58, 4), (58, 5), (58, 6)], [54, 55, 56, 57]))
def kC775_0 : aC := (([(.ofNat 0, .ofNat 3), (.ofNat 110, .ofNat 341), (.ofNat 0, .ofNat 4), (.ofNat 110, .ofNat 341)], [(57, 109, .inl (0, .ofNat 0)), (52, 6, .inl (3, .ofNat 0))], 2, [some (.inr [52]), some (.inr [20, 21, 22, 23, 24, 25, 26, 27]), some (.inl (.inl (.inr (.ofNat 109)))), some (.inl (.inl (.inl (2, .ofNat 0)))), none], []), ([], []), (4, [(-1, 2)]))
theorem ks775 : aseg kS krf kB [kE542, kE543] (ksp []) kE775 [kC775_0] 30000 (none) = true := by decide +kernel
theorem ks775_0 : aseg kS krf kB [kE542, kE543] (ksp []) kE775 [kC775_0] 30000 (some kC775_0) = true := by decide +kernel
theorem kok775 : aOK kS krf kB kE775 := aOK_of (kal1 kok542 (kal1 kok543 kal0)) (kcl1 ks775_0 kcl0) ks775
/-- ColdShod$StrokePlan.addNext(LColdShod$Idea;I)V -/
def kE776 : aE := (83, 3, ([(.ofNat 0, .ofNat 3), (.ofNat 109, .ofNat 341)], [(57, 108, .inl (0, .ofNat 0)), (52, 6, .inl (1, .ofNat 0))], 0, [some (.inr [52]), some (.inr [20, 21, 22, 23, 24, 25, 26, 27]), some (.inl (.inl (.inr (.ofNat 108)))), none, none], []), ([], none), ([], [], none, ([], [])), ([(52, 6), (58, 0), (58, 1), (58, 2), (58, 3), (58, 4), (58, 5), (58, 6)], [54, 55, 56, 57]))
def kC776_0 : aC := (([(.ofNat 0, .ofNat 3), (.ofNat 109, .ofNat 341), (.ofNat 0, .ofNat 4), (.ofNat 109, .ofNat 341)], [(57, 108, .inl (0, .ofNat 0)), (52, 6, .inl (3, .ofNat 0))], 2, [some (.inr [52]), some (.inr [20, 21, 22, 23, 24, 25, 26, 27]), some (.inl (.inl (.inr (.ofNat 108)))), some (.inl (.inl (.inl (2, .ofNat 0)))), none], []), ([], []), (4, [(-1, 2)]))
theorem ks776 : aseg kS krf kB [kE542, kE543] (ksp []) kE776 [kC776_0] 30000 (none) = true := by decide +kernel
theorem ks776_0 : aseg kS krf kB [kE542, kE543] (ksp []) kE776 [kC776_0] 30000 (some kC776_0) = true := by decide +kernel
theorem kok776 : aOK kS krf kB kE776 := aOK_of (kal1 kok542 (kal1 kok543 kal0)) (kcl1 ks776_0 kcl0) ks776
/-- ColdShod$StrokePlan.addNext(LColdShod$Idea;I)V -/
def kE777 : aE := (83, 3, ([(.ofNat 0, .ofNat 3), (.ofNat 108, .ofNat 341)], [(57, 107, .inl (0, .ofNat 0)), (52, 6, .inl (1, .ofNat 0))], 0, [some (.inr [52]), some (.inr [20, 21, 22, 23, 24, 25, 26, 27]), some (.inl (.inl (.inr (.ofNat 107)))), none, none], []), ([], none), ([], [], none, ([], [])), ([(52, 6), (58, 0), (58, 1), (58, 2), (58, 3), (58, 4), (58, 5), (58, 6)], [54, 55, 56, 57]))
def kC777_0 : aC := (([(.ofNat 0, .ofNat 3), (.ofNat 108, .ofNat 341), (.ofNat 0, .ofNat 4), (.ofNat 108, .ofNat 341)], [(57, 107, .inl (0, .ofNat 0)), (52, 6, .inl (3, .ofNat 0))], 2, [some (.inr [52]), some (.inr [20, 21, 22, 23, 24, 25, 26, 27]), some (.inl (.inl (.inr (.ofNat 107)))), some (.inl (.inl (.inl (2, .ofNat 0)))), none], []), ([], []), (4, [(-1, 2)]))
theorem ks777 : aseg kS krf kB [kE542, kE543] (ksp []) kE777 [kC777_0] 30000 (none) = true := by decide +kernel
theorem ks777_0 : aseg kS krf kB [kE542, kE543] (ksp []) kE777 [kC777_0] 30000 (some kC777_0) = true := by decide +kernel
theorem kok777 : aOK kS krf kB kE777 := aOK_of (kal1 kok542 (kal1 kok543 kal0)) (kcl1 ks777_0 kcl0) ks777
/-- ColdShod$StrokePlan.addNext(LColdShod$Idea;I)V -/
def kE778 : aE := (83, 3, ([(.ofNat 0, .ofNat 3), (.ofNat 107, .ofNat 341)], [(57, 106, .inl (0, .ofNat 0)), (52, 6, .inl (1, .ofNat 0))], 0, [some (.inr [52]), some (.inr [20, 21, 22, 23, 24, 25, 26, 27]), some (.inl (.inl (.inr (.ofNat 106)))), none, none], []), ([], none), ([], [], none, ([], [])), ([(52, 6), (58, 0), (58, 1), (58, 2), (58, 3), (58, 4), (58, 5), (58, 6)], [54, 55, 56, 57]))
def kC778_0 : aC := (([(.ofNat 0, .ofNat 3), (.ofNat 107, .ofNat 341), (.ofNat 0, .ofNat 4), (.ofNat 107, .ofNat 341)], [(57, 106, .inl (0, .ofNat 0)), (52, 6, .inl (3, .ofNat 0))], 2, [some (.inr [52]), some (.inr [20, 21, 22, 23, 24, 25, 26, 27]), some (.inl (.inl (.inr (.ofNat 106)))), some (.inl (.inl (.inl (2, .ofNat 0)))), none], []), ([], []), (4, [(-1, 2)]))
theorem ks778 : aseg kS krf kB [kE542, kE543] (ksp []) kE778 [kC778_0] 30000 (none) = true := by decide +kernel
theorem ks778_0 : aseg kS krf kB [kE542, kE543] (ksp []) kE778 [kC778_0] 30000 (some kC778_0) = true := by decide +kernel
theorem kok778 : aOK kS krf kB kE778 := aOK_of (kal1 kok542 (kal1 kok543 kal0)) (kcl1 ks778_0 kcl0) ks778
/-- ColdShod$StrokePlan.addNext(LColdShod$Idea;I)V -/
def kE779 : aE := (83, 3, ([(.ofNat 0, .ofNat 3), (.ofNat 106, .ofNat 341)], [(57, 105, .inl (0, .ofNat 0)), (52, 6, .inl (1, .ofNat 0))], 0, [some (.inr [52]), some (.inr [20, 21, 22, 23, 24, 25, 26, 27]), some (.inl (.inl (.inr (.ofNat 105)))), none, none], []), ([], none), ([], [], none, ([], [])), ([(52, 6), (58, 0), (58, 1), (58, 2), (58, 3), (58, 4), (58, 5), (58, 6)], [54, 55, 56, 57]))
def kC779_0 : aC := (([(.ofNat 0, .ofNat 3), (.ofNat 106, .ofNat 341), (.ofNat 0, .ofNat 4), (.ofNat 106, .ofNat 341)], [(57, 105, .inl (0, .ofNat 0)), (52, 6, .inl (3, .ofNat 0))], 2, [some (.inr [52]), some (.inr [20, 21, 22, 23, 24, 25, 26, 27]), some (.inl (.inl (.inr (.ofNat 105)))), some (.inl (.inl (.inl (2, .ofNat 0)))), none], []), ([], []), (4, [(-1, 2)]))
theorem ks779 : aseg kS krf kB [kE542, kE543] (ksp []) kE779 [kC779_0] 30000 (none) = true := by decide +kernel
theorem ks779_0 : aseg kS krf kB [kE542, kE543] (ksp []) kE779 [kC779_0] 30000 (some kC779_0) = true := by decide +kernel
theorem kok779 : aOK kS krf kB kE779 := aOK_of (kal1 kok542 (kal1 kok543 kal0)) (kcl1 ks779_0 kcl0) ks779
/-- ColdShod$StrokePlan.addNext(LColdShod$Idea;I)V -/
def kE780 : aE := (83, 3, ([(.ofNat 0, .ofNat 3), (.ofNat 105, .ofNat 341)], [(57, 104, .inl (0, .ofNat 0)), (52, 6, .inl (1, .ofNat 0))], 0, [some (.inr [52]), some (.inr [20, 21, 22, 23, 24, 25, 26, 27]), some (.inl (.inl (.inr (.ofNat 104)))), none, none], []), ([], none), ([], [], none, ([], [])), ([(52, 6), (58, 0), (58, 1), (58, 2), (58, 3), (58, 4), (58, 5), (58, 6)], [54, 55, 56, 57]))
def kC780_0 : aC := (([(.ofNat 0, .ofNat 3), (.ofNat 105, .ofNat 341), (.ofNat 0, .ofNat 4), (.ofNat 105, .ofNat 341)], [(57, 104, .inl (0, .ofNat 0)), (52, 6, .inl (3, .ofNat 0))], 2, [some (.inr [52]), some (.inr [20, 21, 22, 23, 24, 25, 26, 27]), some (.inl (.inl (.inr (.ofNat 104)))), some (.inl (.inl (.inl (2, .ofNat 0)))), none], []), ([], []), (4, [(-1, 2)]))
theorem ks780 : aseg kS krf kB [kE542, kE543] (ksp []) kE780 [kC780_0] 30000 (none) = true := by decide +kernel
theorem ks780_0 : aseg kS krf kB [kE542, kE543] (ksp []) kE780 [kC780_0] 30000 (some kC780_0) = true := by decide +kernel
theorem kok780 : aOK kS krf kB kE780 := aOK_of (kal1 kok542 (kal1 kok543 kal0)) (kcl1 ks780_0 kcl0) ks780
/-- ColdShod$StrokePlan.addNext(LColdShod$Idea;I)V -/
def kE781 : aE := (83, 3, ([(.ofNat 0, .ofNat 3), (.ofNat 104, .ofNat 341)], [(57, 103, .inl (0, .ofNat 0)), (52, 6, .inl (1, .ofNat 0))], 0, [some (.inr [52]), some (.inr [20, 21, 22, 23, 24, 25, 26, 27]), some (.inl (.inl (.inr (.ofNat 103)))), none, none], []), ([], none), ([], [], none, ([], [])), ([(52, 6), (58, 0), (58, 1), (58, 2), (58, 3), (58, 4), (58, 5), (58, 6)], [54, 55, 56, 57]))
def kC781_0 : aC := (([(.ofNat 0, .ofNat 3), (.ofNat 104, .ofNat 341), (.ofNat 0, .ofNat 4), (.ofNat 104, .ofNat 341)], [(57, 103, .inl (0, .ofNat 0)), (52, 6, .inl (3, .ofNat 0))], 2, [some (.inr [52]), some (.inr [20, 21, 22, 23, 24, 25, 26, 27]), some (.inl (.inl (.inr (.ofNat 103)))), some (.inl (.inl (.inl (2, .ofNat 0)))), none], []), ([], []), (4, [(-1, 2)]))
theorem ks781 : aseg kS krf kB [kE542, kE543] (ksp []) kE781 [kC781_0] 30000 (none) = true := by decide +kernel
theorem ks781_0 : aseg kS krf kB [kE542, kE543] (ksp []) kE781 [kC781_0] 30000 (some kC781_0) = true := by decide +kernel
theorem kok781 : aOK kS krf kB kE781 := aOK_of (kal1 kok542 (kal1 kok543 kal0)) (kcl1 ks781_0 kcl0) ks781
/-- ColdShod$StrokePlan.addNext(LColdShod$Idea;I)V -/
def kE782 : aE := (83, 3, ([(.ofNat 0, .ofNat 3), (.ofNat 103, .ofNat 341)], [(57, 102, .inl (0, .ofNat 0)), (52, 6, .inl (1, .ofNat 0))], 0, [some (.inr [52]), some (.inr [20, 21, 22, 23, 24, 25, 26, 27]), some (.inl (.inl (.inr (.ofNat 102)))), none, none], []), ([], none), ([], [], none, ([], [])), ([(52, 6), (58, 0), (58, 1), (58, 2), (58, 3), (58, 4), (58, 5), (58, 6)], [54, 55, 56, 57]))
def kC782_0 : aC := (([(.ofNat 0, .ofNat 3), (.ofNat 103, .ofNat 341), (.ofNat 0, .ofNat 4), (.ofNat 103, .ofNat 341)], [(57, 102, .inl (0, .ofNat 0)), (52, 6, .inl (3, .ofNat 0))], 2, [some (.inr [52]), some (.inr [20, 21, 22, 23, 24, 25, 26, 27]), some (.inl (.inl (.inr (.ofNat 102)))), some (.inl (.inl (.inl (2, .ofNat 0)))), none], []), ([], []), (4, [(-1, 2)]))
theorem ks782 : aseg kS krf kB [kE542, kE543] (ksp []) kE782 [kC782_0] 30000 (none) = true := by decide +kernel
theorem ks782_0 : aseg kS krf kB [kE542, kE543] (ksp []) kE782 [kC782_0] 30000 (some kC782_0) = true := by decide +kernel
theorem kok782 : aOK kS krf kB kE782 := aOK_of (kal1 kok542 (kal1 kok543 kal0)) (kcl1 ks782_0 kcl0) ks782
/-- ColdShod$StrokePlan.addNext(LColdShod$Idea;I)V -/
def kE783 : aE := (83, 3, ([(.ofNat 0, .ofNat 3), (.ofNat 102, .ofNat 341)], [(57, 101, .inl (0, .ofNat 0)), (52, 6, .inl (1, .ofNat 0))], 0, [some (.inr [52]), some (.inr [20, 21, 22, 23, 24, 25, 26, 27]), some (.inl (.inl (.inr (.ofNat 101)))), none, none], []), ([], none), ([], [], none, ([], [])), ([(52, 6), (58, 0), (58, 1), (58, 2), (58, 3), (58, 4), (58, 5), (58, 6)], [54, 55, 56, 57]))
def kC783_0 : aC := (([(.ofNat 0, .ofNat 3), (.ofNat 102, .ofNat 341), (.ofNat 0, .ofNat 4), (.ofNat 102, .ofNat 341)], [(57, 101, .inl (0, .ofNat 0)), (52, 6, .inl (3, .ofNat 0))], 2, [some (.inr [52]), some (.inr [20, 21, 22, 23, 24, 25, 26, 27]), some (.inl (.inl (.inr (.ofNat 101)))), some (.inl (.inl (.inl (2, .ofNat 0)))), none], []), ([], []), (4, [(-1, 2)]))
theorem ks783 : aseg kS krf kB [kE542, kE543] (ksp []) kE783 [kC783_0] 30000 (none) = true := by decide +kernel
theorem ks783_0 : aseg kS krf kB [kE542, kE543] (ksp []) kE783 [kC783_0] 30000 (some kC783_0) = true := by decide +kernel
theorem kok783 : aOK kS krf kB kE783 := aOK_of (kal1 kok542 (kal1 kok543 kal0)) (kcl1 ks783_0 kcl0) ks783
/-- ColdShod$StrokePlan.addNext(LColdShod$Idea;I)V -/
def kE784 : aE := (83, 3, ([(.ofNat 0, .ofNat 3), (.ofNat 101, .ofNat 341)], [(57, 100, .inl (0, .ofNat 0)), (52, 6, .inl (1, .ofNat 0))], 0, [some (.inr [52]), some (.inr [20, 21, 22, 23, 24, 25, 26, 27]), some (.inl (.inl (.inr (.ofNat 100)))), none, none], []), ([], none), ([], [], none, ([], [])), ([(52, 6), (58, 0), (58, 1), (58, 2), (58, 3), (58, 4), (58, 5), (58, 6)], [54, 55, 56, 57]))
def kC784_0 : aC := (([(.ofNat 0, .ofNat 3), (.ofNat 101, .ofNat 341), (.ofNat 0, .ofNat 4), (.ofNat 101, .ofNat 341)], [(57, 100, .inl (0, .ofNat 0)), (52, 6, .inl (3, .ofNat 0))], 2, [some (.inr [52]), some (.inr [20, 21, 22, 23, 24, 25, 26, 27]), some (.inl (.inl (.inr (.ofNat 100)))), some (.inl (.inl (.inl (2, .ofNat 0)))), none], []), ([], []), (4, [(-1, 2)]))
theorem ks784 : aseg kS krf kB [kE542, kE543] (ksp []) kE784 [kC784_0] 30000 (none) = true := by decide +kernel
theorem ks784_0 : aseg kS krf kB [kE542, kE543] (ksp []) kE784 [kC784_0] 30000 (some kC784_0) = true := by decide +kernel
theorem kok784 : aOK kS krf kB kE784 := aOK_of (kal1 kok542 (kal1 kok543 kal0)) (kcl1 ks784_0 kcl0) ks784
/-- ColdShod$StrokePlan.addNext(LColdShod$Idea;I)V -/
def kE785 : aE := (83, 3, ([(.ofNat 0, .ofNat 3), (.ofNat 100, .ofNat 341)], [(57, 99, .inl (0, .ofNat 0)), (52, 6, .inl (1, .ofNat 0))], 0, [some (.inr [52]), some (.inr [20, 21, 22, 23, 24, 25, 26, 27]), some (.inl (.inl (.inr (.ofNat 99)))), none, none], []), ([], none), ([], [], none, ([], [])), ([(52, 6), (58, 0), (58, 1), (58, 2), (58, 3), (58, 4), (58, 5), (58, 6)], [54, 55, 56, 57]))
def kC785_0 : aC := (([(.ofNat 0, .ofNat 3), (.ofNat 100, .ofNat 341), (.ofNat 0, .ofNat 4), (.ofNat 100, .ofNat 341)], [(57, 99, .inl (0, .ofNat 0)), (52, 6, .inl (3, .ofNat 0))], 2, [some (.inr [52]), some (.inr [20, 21, 22, 23, 24, 25, 26, 27]), some (.inl (.inl (.inr (.ofNat 99)))), some (.inl (.inl (.inl (2, .ofNat 0)))), none], []), ([], []), (4, [(-1, 2)]))
theorem ks785 : aseg kS krf kB [kE542, kE543] (ksp []) kE785 [kC785_0] 30000 (none) = true := by decide +kernel
theorem ks785_0 : aseg kS krf kB [kE542, kE543] (ksp []) kE785 [kC785_0] 30000 (some kC785_0) = true := by decide +kernel
theorem kok785 : aOK kS krf kB kE785 := aOK_of (kal1 kok542 (kal1 kok543 kal0)) (kcl1 ks785_0 kcl0) ks785
/-- ColdShod$StrokePlan.addNext(LColdShod$Idea;I)V -/
def kE786 : aE := (83, 3, ([(.ofNat 0, .ofNat 3), (.ofNat 99, .ofNat 341)], [(57, 98, .inl (0, .ofNat 0)), (52, 6, .inl (1, .ofNat 0))], 0, [some (.inr [52]), some (.inr [20, 21, 22, 23, 24, 25, 26, 27]), some (.inl (.inl (.inr (.ofNat 98)))), none, none], []), ([], none), ([], [], none, ([], [])), ([(52, 6), (58, 0), (58, 1), (58, 2), (58, 3), (58, 4), (58, 5), (58, 6)], [54, 55, 56, 57]))
def kC786_0 : aC := (([(.ofNat 0, .ofNat 3), (.ofNat 99, .ofNat 341), (.ofNat 0, .ofNat 4), (.ofNat 99, .ofNat 341)], [(57, 98, .inl (0, .ofNat 0)), (52, 6, .inl (3, .ofNat 0))], 2, [some (.inr [52]), some (.inr [20, 21, 22, 23, 24, 25, 26, 27]), some (.inl (.inl (.inr (.ofNat 98)))), some (.inl (.inl (.inl (2, .ofNat 0)))), none], []), ([], []), (4, [(-1, 2)]))
theorem ks786 : aseg kS krf kB [kE542, kE543] (ksp []) kE786 [kC786_0] 30000 (none) = true := by decide +kernel
theorem ks786_0 : aseg kS krf kB [kE542, kE543] (ksp []) kE786 [kC786_0] 30000 (some kC786_0) = true := by decide +kernel
theorem kok786 : aOK kS krf kB kE786 := aOK_of (kal1 kok542 (kal1 kok543 kal0)) (kcl1 ks786_0 kcl0) ks786
/-- ColdShod$StrokePlan.addNext(LColdShod$Idea;I)V -/
def kE787 : aE := (83, 3, ([(.ofNat 0, .ofNat 3), (.ofNat 98, .ofNat 341)], [(57, 97, .inl (0, .ofNat 0)), (52, 6, .inl (1, .ofNat 0))], 0, [some (.inr [52]), some (.inr [20, 21, 22, 23, 24, 25, 26, 27]), some (.inl (.inl (.inr (.ofNat 97)))), none, none], []), ([], none), ([], [], none, ([], [])), ([(52, 6), (58, 0), (58, 1), (58, 2), (58, 3), (58, 4), (58, 5), (58, 6)], [54, 55, 56, 57]))
def kC787_0 : aC := (([(.ofNat 0, .ofNat 3), (.ofNat 98, .ofNat 341), (.ofNat 0, .ofNat 4), (.ofNat 98, .ofNat 341)], [(57, 97, .inl (0, .ofNat 0)), (52, 6, .inl (3, .ofNat 0))], 2, [some (.inr [52]), some (.inr [20, 21, 22, 23, 24, 25, 26, 27]), some (.inl (.inl (.inr (.ofNat 97)))), some (.inl (.inl (.inl (2, .ofNat 0)))), none], []), ([], []), (4, [(-1, 2)]))
theorem ks787 : aseg kS krf kB [kE542, kE543] (ksp []) kE787 [kC787_0] 30000 (none) = true := by decide +kernel
theorem ks787_0 : aseg kS krf kB [kE542, kE543] (ksp []) kE787 [kC787_0] 30000 (some kC787_0) = true := by decide +kernel
theorem kok787 : aOK kS krf kB kE787 := aOK_of (kal1 kok542 (kal1 kok543 kal0)) (kcl1 ks787_0 kcl0) ks787
/-- ColdShod$StrokePlan.addNext(LColdShod$Idea;I)V -/
def kE788 : aE := (83, 3, ([(.ofNat 0, .ofNat 3), (.ofNat 97, .ofNat 341)], [(57, 96, .inl (0, .ofNat 0)), (52, 6, .inl (1, .ofNat 0))], 0, [some (.inr [52]), some (.inr [20, 21, 22, 23, 24, 25, 26, 27]), some (.inl (.inl (.inr (.ofNat 96)))), none, none], []), ([], none), ([], [], none, ([], [])), ([(52, 6), (58, 0), (58, 1), (58, 2), (58, 3), (58, 4), (58, 5), (58, 6)], [54, 55, 56, 57]))
def kC788_0 : aC := (([(.ofNat 0, .ofNat 3), (.ofNat 97, .ofNat 341), (.ofNat 0, .ofNat 4), (.ofNat 97, .ofNat 341)], [(57, 96, .inl (0, .ofNat 0)), (52, 6, .inl (3, .ofNat 0))], 2, [some (.inr [52]), some (.inr [20, 21, 22, 23, 24, 25, 26, 27]), some (.inl (.inl (.inr (.ofNat 96)))), some (.inl (.inl (.inl (2, .ofNat 0)))), none], []), ([], []), (4, [(-1, 2)]))
theorem ks788 : aseg kS krf kB [kE542, kE543] (ksp []) kE788 [kC788_0] 30000 (none) = true := by decide +kernel
theorem ks788_0 : aseg kS krf kB [kE542, kE543] (ksp []) kE788 [kC788_0] 30000 (some kC788_0) = true := by decide +kernel
theorem kok788 : aOK kS krf kB kE788 := aOK_of (kal1 kok542 (kal1 kok543 kal0)) (kcl1 ks788_0 kcl0) ks788
/-- ColdShod$StrokePlan.addNext(LColdShod$Idea;I)V -/
def kE789 : aE := (83, 3, ([(.ofNat 0, .ofNat 3), (.ofNat 96, .ofNat 341)], [(57, 95, .inl (0, .ofNat 0)), (52, 6, .inl (1, .ofNat 0))], 0, [some (.inr [52]), some (.inr [20, 21, 22, 23, 24, 25, 26, 27]), some (.inl (.inl (.inr (.ofNat 95)))), none, none], []), ([], none), ([], [], none, ([], [])), ([(52, 6), (58, 0), (58, 1), (58, 2), (58, 3), (58, 4), (58, 5), (58, 6)], [54, 55, 56, 57]))
def kC789_0 : aC := (([(.ofNat 0, .ofNat 3), (.ofNat 96, .ofNat 341), (.ofNat 0, .ofNat 4), (.ofNat 96, .ofNat 341)], [(57, 95, .inl (0, .ofNat 0)), (52, 6, .inl (3, .ofNat 0))], 2, [some (.inr [52]), some (.inr [20, 21, 22, 23, 24, 25, 26, 27]), some (.inl (.inl (.inr (.ofNat 95)))), some (.inl (.inl (.inl (2, .ofNat 0)))), none], []), ([], []), (4, [(-1, 2)]))
theorem ks789 : aseg kS krf kB [kE542, kE543] (ksp []) kE789 [kC789_0] 30000 (none) = true := by decide +kernel
theorem ks789_0 : aseg kS krf kB [kE542, kE543] (ksp []) kE789 [kC789_0] 30000 (some kC789_0) = true := by decide +kernel
theorem kok789 : aOK kS krf kB kE789 := aOK_of (kal1 kok542 (kal1 kok543 kal0)) (kcl1 ks789_0 kcl0) ks789
/-- ColdShod$StrokePlan.addNext(LColdShod$Idea;I)V -/
def kE790 : aE := (83, 3, ([(.ofNat 0, .ofNat 3), (.ofNat 95, .ofNat 341)], [(57, 94, .inl (0, .ofNat 0)), (52, 6, .inl (1, .ofNat 0))], 0, [some (.inr [52]), some (.inr [20, 21, 22, 23, 24, 25, 26, 27]), some (.inl (.inl (.inr (.ofNat 94)))), none, none], []), ([], none), ([], [], none, ([], [])), ([(52, 6), (58, 0), (58, 1), (58, 2), (58, 3), (58, 4), (58, 5), (58, 6)], [54, 55, 56, 57]))
def kC790_0 : aC := (([(.ofNat 0, .ofNat 3), (.ofNat 95, .ofNat 341), (.ofNat 0, .ofNat 4), (.ofNat 95, .ofNat 341)], [(57, 94, .inl (0, .ofNat 0)), (52, 6, .inl (3, .ofNat 0))], 2, [some (.inr [52]), some (.inr [20, 21, 22, 23, 24, 25, 26, 27]), some (.inl (.inl (.inr (.ofNat 94)))), some (.inl (.inl (.inl (2, .ofNat 0)))), none], []), ([], []), (4, [(-1, 2)]))
theorem ks790 : aseg kS krf kB [kE542, kE543] (ksp []) kE790 [kC790_0] 30000 (none) = true := by decide +kernel
theorem ks790_0 : aseg kS krf kB [kE542, kE543] (ksp []) kE790 [kC790_0] 30000 (some kC790_0) = true := by decide +kernel
theorem kok790 : aOK kS krf kB kE790 := aOK_of (kal1 kok542 (kal1 kok543 kal0)) (kcl1 ks790_0 kcl0) ks790
/-- ColdShod$StrokePlan.addNext(LColdShod$Idea;I)V -/
def kE791 : aE := (83, 3, ([(.ofNat 0, .ofNat 3), (.ofNat 94, .ofNat 341)], [(57, 93, .inl (0, .ofNat 0)), (52, 6, .inl (1, .ofNat 0))], 0, [some (.inr [52]), some (.inr [20, 21, 22, 23, 24, 25, 26, 27]), some (.inl (.inl (.inr (.ofNat 93)))), none, none], []), ([], none), ([], [], none, ([], [])), ([(52, 6), (58, 0), (58, 1), (58, 2), (58, 3), (58, 4), (58, 5), (58, 6)], [54, 55, 56, 57]))
def kC791_0 : aC := (([(.ofNat 0, .ofNat 3), (.ofNat 94, .ofNat 341), (.ofNat 0, .ofNat 4), (.ofNat 94, .ofNat 341)], [(57, 93, .inl (0, .ofNat 0)), (52, 6, .inl (3, .ofNat 0))], 2, [some (.inr [52]), some (.inr [20, 21, 22, 23, 24, 25, 26, 27]), some (.inl (.inl (.inr (.ofNat 93)))), some (.inl (.inl (.inl (2, .ofNat 0)))), none], []), ([], []), (4, [(-1, 2)]))
theorem ks791 : aseg kS krf kB [kE542, kE543] (ksp []) kE791 [kC791_0] 30000 (none) = true := by decide +kernel
theorem ks791_0 : aseg kS krf kB [kE542, kE543] (ksp []) kE791 [kC791_0] 30000 (some kC791_0) = true := by decide +kernel
theorem kok791 : aOK kS krf kB kE791 := aOK_of (kal1 kok542 (kal1 kok543 kal0)) (kcl1 ks791_0 kcl0) ks791
/-- ColdShod$StrokePlan.addNext(LColdShod$Idea;I)V -/
def kE792 : aE := (83, 3, ([(.ofNat 0, .ofNat 3), (.ofNat 93, .ofNat 341)], [(57, 92, .inl (0, .ofNat 0)), (52, 6, .inl (1, .ofNat 0))], 0, [some (.inr [52]), some (.inr [20, 21, 22, 23, 24, 25, 26, 27]), some (.inl (.inl (.inr (.ofNat 92)))), none, none], []), ([], none), ([], [], none, ([], [])), ([(52, 6), (58, 0), (58, 1), (58, 2), (58, 3), (58, 4), (58, 5), (58, 6)], [54, 55, 56, 57]))
def kC792_0 : aC := (([(.ofNat 0, .ofNat 3), (.ofNat 93, .ofNat 341), (.ofNat 0, .ofNat 4), (.ofNat 93, .ofNat 341)], [(57, 92, .inl (0, .ofNat 0)), (52, 6, .inl (3, .ofNat 0))], 2, [some (.inr [52]), some (.inr [20, 21, 22, 23, 24, 25, 26, 27]), some (.inl (.inl (.inr (.ofNat 92)))), some (.inl (.inl (.inl (2, .ofNat 0)))), none], []), ([], []), (4, [(-1, 2)]))
theorem ks792 : aseg kS krf kB [kE542, kE543] (ksp []) kE792 [kC792_0] 30000 (none) = true := by decide +kernel
theorem ks792_0 : aseg kS krf kB [kE542, kE543] (ksp []) kE792 [kC792_0] 30000 (some kC792_0) = true := by decide +kernel
theorem kok792 : aOK kS krf kB kE792 := aOK_of (kal1 kok542 (kal1 kok543 kal0)) (kcl1 ks792_0 kcl0) ks792
/-- ColdShod$StrokePlan.addNext(LColdShod$Idea;I)V -/
def kE793 : aE := (83, 3, ([(.ofNat 0, .ofNat 3), (.ofNat 92, .ofNat 341)], [(57, 91, .inl (0, .ofNat 0)), (52, 6, .inl (1, .ofNat 0))], 0, [some (.inr [52]), some (.inr [20, 21, 22, 23, 24, 25, 26, 27]), some (.inl (.inl (.inr (.ofNat 91)))), none, none], []), ([], none), ([], [], none, ([], [])), ([(52, 6), (58, 0), (58, 1), (58, 2), (58, 3), (58, 4), (58, 5), (58, 6)], [54, 55, 56, 57]))
def kC793_0 : aC := (([(.ofNat 0, .ofNat 3), (.ofNat 92, .ofNat 341), (.ofNat 0, .ofNat 4), (.ofNat 92, .ofNat 341)], [(57, 91, .inl (0, .ofNat 0)), (52, 6, .inl (3, .ofNat 0))], 2, [some (.inr [52]), some (.inr [20, 21, 22, 23, 24, 25, 26, 27]), some (.inl (.inl (.inr (.ofNat 91)))), some (.inl (.inl (.inl (2, .ofNat 0)))), none], []), ([], []), (4, [(-1, 2)]))
theorem ks793 : aseg kS krf kB [kE542, kE543] (ksp []) kE793 [kC793_0] 30000 (none) = true := by decide +kernel
theorem ks793_0 : aseg kS krf kB [kE542, kE543] (ksp []) kE793 [kC793_0] 30000 (some kC793_0) = true := by decide +kernel
theorem kok793 : aOK kS krf kB kE793 := aOK_of (kal1 kok542 (kal1 kok543 kal0)) (kcl1 ks793_0 kcl0) ks793
/-- ColdShod$StrokePlan.addNext(LColdShod$Idea;I)V -/
def kE794 : aE := (83, 3, ([(.ofNat 0, .ofNat 3), (.ofNat 91, .ofNat 341)], [(57, 90, .inl (0, .ofNat 0)), (52, 6, .inl (1, .ofNat 0))], 0, [some (.inr [52]), some (.inr [20, 21, 22, 23, 24, 25, 26, 27]), some (.inl (.inl (.inr (.ofNat 90)))), none, none], []), ([], none), ([], [], none, ([], [])), ([(52, 6), (58, 0), (58, 1), (58, 2), (58, 3), (58, 4), (58, 5), (58, 6)], [54, 55, 56, 57]))
def kC794_0 : aC := (([(.ofNat 0, .ofNat 3), (.ofNat 91, .ofNat 341), (.ofNat 0, .ofNat 4), (.ofNat 91, .ofNat 341)], [(57, 90, .inl (0, .ofNat 0)), (52, 6, .inl (3, .ofNat 0))], 2, [some (.inr [52]), some (.inr [20, 21, 22, 23, 24, 25, 26, 27]), some (.inl (.inl (.inr (.ofNat 90)))), some (.inl (.inl (.inl (2, .ofNat 0)))), none], []), ([], []), (4, [(-1, 2)]))
theorem ks794 : aseg kS krf kB [kE542, kE543] (ksp []) kE794 [kC794_0] 30000 (none) = true := by decide +kernel
theorem ks794_0 : aseg kS krf kB [kE542, kE543] (ksp []) kE794 [kC794_0] 30000 (some kC794_0) = true := by decide +kernel
theorem kok794 : aOK kS krf kB kE794 := aOK_of (kal1 kok542 (kal1 kok543 kal0)) (kcl1 ks794_0 kcl0) ks794
/-- ColdShod$StrokePlan.addNext(LColdShod$Idea;I)V -/
def kE795 : aE := (83, 3, ([(.ofNat 0, .ofNat 3), (.ofNat 90, .ofNat 341)], [(57, 89, .inl (0, .ofNat 0)), (52, 6, .inl (1, .ofNat 0))], 0, [some (.inr [52]), some (.inr [20, 21, 22, 23, 24, 25, 26, 27]), some (.inl (.inl (.inr (.ofNat 89)))), none, none], []), ([], none), ([], [], none, ([], [])), ([(52, 6), (58, 0), (58, 1), (58, 2), (58, 3), (58, 4), (58, 5), (58, 6)], [54, 55, 56, 57]))
def kC795_0 : aC := (([(.ofNat 0, .ofNat 3), (.ofNat 90, .ofNat 341), (.ofNat 0, .ofNat 4), (.ofNat 90, .ofNat 341)], [(57, 89, .inl (0, .ofNat 0)), (52, 6, .inl (3, .ofNat 0))], 2, [some (.inr [52]), some (.inr [20, 21, 22, 23, 24, 25, 26, 27]), some (.inl (.inl (.inr (.ofNat 89)))), some (.inl (.inl (.inl (2, .ofNat 0)))), none], []), ([], []), (4, [(-1, 2)]))
theorem ks795 : aseg kS krf kB [kE542, kE543] (ksp []) kE795 [kC795_0] 30000 (none) = true := by decide +kernel
theorem ks795_0 : aseg kS krf kB [kE542, kE543] (ksp []) kE795 [kC795_0] 30000 (some kC795_0) = true := by decide +kernel
theorem kok795 : aOK kS krf kB kE795 := aOK_of (kal1 kok542 (kal1 kok543 kal0)) (kcl1 ks795_0 kcl0) ks795
/-- ColdShod$StrokePlan.addNext(LColdShod$Idea;I)V -/
def kE796 : aE := (83, 3, ([(.ofNat 0, .ofNat 3), (.ofNat 89, .ofNat 341)], [(57, 88, .inl (0, .ofNat 0)), (52, 6, .inl (1, .ofNat 0))], 0, [some (.inr [52]), some (.inr [20, 21, 22, 23, 24, 25, 26, 27]), some (.inl (.inl (.inr (.ofNat 88)))), none, none], []), ([], none), ([], [], none, ([], [])), ([(52, 6), (58, 0), (58, 1), (58, 2), (58, 3), (58, 4), (58, 5), (58, 6)], [54, 55, 56, 57]))
def kC796_0 : aC := (([(.ofNat 0, .ofNat 3), (.ofNat 89, .ofNat 341), (.ofNat 0, .ofNat 4), (.ofNat 89, .ofNat 341)], [(57, 88, .inl (0, .ofNat 0)), (52, 6, .inl (3, .ofNat 0))], 2, [some (.inr [52]), some (.inr [20, 21, 22, 23, 24, 25, 26, 27]), some (.inl (.inl (.inr (.ofNat 88)))), some (.inl (.inl (.inl (2, .ofNat 0)))), none], []), ([], []), (4, [(-1, 2)]))
theorem ks796 : aseg kS krf kB [kE542, kE543] (ksp []) kE796 [kC796_0] 30000 (none) = true := by decide +kernel
theorem ks796_0 : aseg kS krf kB [kE542, kE543] (ksp []) kE796 [kC796_0] 30000 (some kC796_0) = true := by decide +kernel
theorem kok796 : aOK kS krf kB kE796 := aOK_of (kal1 kok542 (kal1 kok543 kal0)) (kcl1 ks796_0 kcl0) ks796
/-- ColdShod$StrokePlan.addNext(LColdShod$Idea;I)V -/
def kE797 : aE := (83, 3, ([(.ofNat 0, .ofNat 3), (.ofNat 88, .ofNat 341)], [(57, 87, .inl (0, .ofNat 0)), (52, 6, .inl (1, .ofNat 0))], 0, [some (.inr [52]), some (.inr [20, 21, 22, 23, 24, 25, 26, 27]), some (.inl (.inl (.inr (.ofNat 87)))), none, none], []), ([], none), ([], [], none, ([], [])), ([(52, 6), (58, 0), (58, 1), (58, 2), (58, 3), (58, 4), (58, 5), (58, 6)], [54, 55, 56, 57]))
def kC797_0 : aC := (([(.ofNat 0, .ofNat 3), (.ofNat 88, .ofNat 341), (.ofNat 0, .ofNat 4), (.ofNat 88, .ofNat 341)], [(57, 87, .inl (0, .ofNat 0)), (52, 6, .inl (3, .ofNat 0))], 2, [some (.inr [52]), some (.inr [20, 21, 22, 23, 24, 25, 26, 27]), some (.inl (.inl (.inr (.ofNat 87)))), some (.inl (.inl (.inl (2, .ofNat 0)))), none], []), ([], []), (4, [(-1, 2)]))
theorem ks797 : aseg kS krf kB [kE542, kE543] (ksp []) kE797 [kC797_0] 30000 (none) = true := by decide +kernel
theorem ks797_0 : aseg kS krf kB [kE542, kE543] (ksp []) kE797 [kC797_0] 30000 (some kC797_0) = true := by decide +kernel
theorem kok797 : aOK kS krf kB kE797 := aOK_of (kal1 kok542 (kal1 kok543 kal0)) (kcl1 ks797_0 kcl0) ks797
/-- ColdShod$StrokePlan.addNext(LColdShod$Idea;I)V -/
def kE798 : aE := (83, 3, ([(.ofNat 0, .ofNat 3), (.ofNat 87, .ofNat 341)], [(57, 86, .inl (0, .ofNat 0)), (52, 6, .inl (1, .ofNat 0))], 0, [some (.inr [52]), some (.inr [20, 21, 22, 23, 24, 25, 26, 27]), some (.inl (.inl (.inr (.ofNat 86)))), none, none], []), ([], none), ([], [], none, ([], [])), ([(52, 6), (58, 0), (58, 1), (58, 2), (58, 3), (58, 4), (58, 5), (58, 6)], [54, 55, 56, 57]))
def kC798_0 : aC := (([(.ofNat 0, .ofNat 3), (.ofNat 87, .ofNat 341), (.ofNat 0, .ofNat 4), (.ofNat 87, .ofNat 341)], [(57, 86, .inl (0, .ofNat 0)), (52, 6, .inl (3, .ofNat 0))], 2, [some (.inr [52]), some (.inr [20, 21, 22, 23, 24, 25, 26, 27]), some (.inl (.inl (.inr (.ofNat 86)))), some (.inl (.inl (.inl (2, .ofNat 0)))), none], []), ([], []), (4, [(-1, 2)]))
theorem ks798 : aseg kS krf kB [kE542, kE543] (ksp []) kE798 [kC798_0] 30000 (none) = true := by decide +kernel
theorem ks798_0 : aseg kS krf kB [kE542, kE543] (ksp []) kE798 [kC798_0] 30000 (some kC798_0) = true := by decide +kernel
theorem kok798 : aOK kS krf kB kE798 := aOK_of (kal1 kok542 (kal1 kok543 kal0)) (kcl1 ks798_0 kcl0) ks798
/-- ColdShod$StrokePlan.addNext(LColdShod$Idea;I)V -/
def kE799 : aE := (83, 3, ([(.ofNat 0, .ofNat 3), (.ofNat 86, .ofNat 341)], [(57, 85, .inl (0, .ofNat 0)), (52, 6, .inl (1, .ofNat 0))], 0, [some (.inr [52]), some (.inr [20, 21, 22, 23, 24, 25, 26, 27]), some (.inl (.inl (.inr (.ofNat 85)))), none, none], []), ([], none), ([], [], none, ([], [])), ([(52, 6), (58, 0), (58, 1), (58, 2), (58, 3), (58, 4), (58, 5), (58, 6)], [54, 55, 56, 57]))
def kC799_0 : aC := (([(.ofNat 0, .ofNat 3), (.ofNat 86, .ofNat 341), (.ofNat 0, .ofNat 4), (.ofNat 86, .ofNat 341)], [(57, 85, .inl (0, .ofNat 0)), (52, 6, .inl (3, .ofNat 0))], 2, [some (.inr [52]), some (.inr [20, 21, 22, 23, 24, 25, 26, 27]), some (.inl (.inl (.inr (.ofNat 85)))), some (.inl (.inl (.inl (2, .ofNat 0)))), none], []), ([], []), (4, [(-1, 2)]))
theorem ks799 : aseg kS krf kB [kE542, kE543] (ksp []) kE799 [kC799_0] 30000 (none) = true := by decide +kernel
theorem ks799_0 : aseg kS krf kB [kE542, kE543] (ksp []) kE799 [kC799_0] 30000 (some kC799_0) = true := by decide +kernel
theorem kok799 : aOK kS krf kB kE799 := aOK_of (kal1 kok542 (kal1 kok543 kal0)) (kcl1 ks799_0 kcl0) ks799
/-- ColdShod$StrokePlan.addNext(LColdShod$Idea;I)V -/
def kE800 : aE := (83, 3, ([(.ofNat 0, .ofNat 3), (.ofNat 85, .ofNat 341)], [(57, 84, .inl (0, .ofNat 0)), (52, 6, .inl (1, .ofNat 0))], 0, [some (.inr [52]), some (.inr [20, 21, 22, 23, 24, 25, 26, 27]), some (.inl (.inl (.inr (.ofNat 84)))), none, none], []), ([], none), ([], [], none, ([], [])), ([(52, 6), (58, 0), (58, 1), (58, 2), (58, 3), (58, 4), (58, 5), (58, 6)], [54, 55, 56, 57]))
def kC800_0 : aC := (([(.ofNat 0, .ofNat 3), (.ofNat 85, .ofNat 341), (.ofNat 0, .ofNat 4), (.ofNat 85, .ofNat 341)], [(57, 84, .inl (0, .ofNat 0)), (52, 6, .inl (3, .ofNat 0))], 2, [some (.inr [52]), some (.inr [20, 21, 22, 23, 24, 25, 26, 27]), some (.inl (.inl (.inr (.ofNat 84)))), some (.inl (.inl (.inl (2, .ofNat 0)))), none], []), ([], []), (4, [(-1, 2)]))
theorem ks800 : aseg kS krf kB [kE542, kE543] (ksp []) kE800 [kC800_0] 30000 (none) = true := by decide +kernel
theorem ks800_0 : aseg kS krf kB [kE542, kE543] (ksp []) kE800 [kC800_0] 30000 (some kC800_0) = true := by decide +kernel
theorem kok800 : aOK kS krf kB kE800 := aOK_of (kal1 kok542 (kal1 kok543 kal0)) (kcl1 ks800_0 kcl0) ks800
/-- ColdShod$StrokePlan.addNext(LColdShod$Idea;I)V -/
def kE801 : aE := (83, 3, ([(.ofNat 0, .ofNat 3), (.ofNat 84, .ofNat 341)], [(57, 83, .inl (0, .ofNat 0)), (52, 6, .inl (1, .ofNat 0))], 0, [some (.inr [52]), some (.inr [20, 21, 22, 23, 24, 25, 26, 27]), some (.inl (.inl (.inr (.ofNat 83)))), none, none], []), ([], none), ([], [], none, ([], [])), ([(52, 6), (58, 0), (58, 1), (58, 2), (58, 3), (58, 4), (58, 5), (58, 6)], [54, 55, 56, 57]))
def kC801_0 : aC := (([(.ofNat 0, .ofNat 3), (.ofNat 84, .ofNat 341), (.ofNat 0, .ofNat 4), (.ofNat 84, .ofNat 341)], [(57, 83, .inl (0, .ofNat 0)), (52, 6, .inl (3, .ofNat 0))], 2, [some (.inr [52]), some (.inr [20, 21, 22, 23, 24, 25, 26, 27]), some (.inl (.inl (.inr (.ofNat 83)))), some (.inl (.inl (.inl (2, .ofNat 0)))), none], []), ([], []), (4, [(-1, 2)]))
theorem ks801 : aseg kS krf kB [kE542, kE543] (ksp []) kE801 [kC801_0] 30000 (none) = true := by decide +kernel
theorem ks801_0 : aseg kS krf kB [kE542, kE543] (ksp []) kE801 [kC801_0] 30000 (some kC801_0) = true := by decide +kernel
theorem kok801 : aOK kS krf kB kE801 := aOK_of (kal1 kok542 (kal1 kok543 kal0)) (kcl1 ks801_0 kcl0) ks801
/-- ColdShod$StrokePlan.addNext(LColdShod$Idea;I)V -/
def kE802 : aE := (83, 3, ([(.ofNat 0, .ofNat 3), (.ofNat 83, .ofNat 341)], [(57, 82, .inl (0, .ofNat 0)), (52, 6, .inl (1, .ofNat 0))], 0, [some (.inr [52]), some (.inr [20, 21, 22, 23, 24, 25, 26, 27]), some (.inl (.inl (.inr (.ofNat 82)))), none, none], []), ([], none), ([], [], none, ([], [])), ([(52, 6), (58, 0), (58, 1), (58, 2), (58, 3), (58, 4), (58, 5), (58, 6)], [54, 55, 56, 57]))
def kC802_0 : aC := (([(.ofNat 0, .ofNat 3), (.ofNat 83, .ofNat 341), (.ofNat 0, .ofNat 4), (.ofNat 83, .ofNat 341)], [(57, 82, .inl (0, .ofNat 0)), (52, 6, .inl (3, .ofNat 0))], 2, [some (.inr [52]), some (.inr [20, 21, 22, 23, 24, 25, 26, 27]), some (.inl (.inl (.inr (.ofNat 82)))), some (.inl (.inl (.inl (2, .ofNat 0)))), none], []), ([], []), (4, [(-1, 2)]))
theorem ks802 : aseg kS krf kB [kE542, kE543] (ksp []) kE802 [kC802_0] 30000 (none) = true := by decide +kernel
theorem ks802_0 : aseg kS krf kB [kE542, kE543] (ksp []) kE802 [kC802_0] 30000 (some kC802_0) = true := by decide +kernel
theorem kok802 : aOK kS krf kB kE802 := aOK_of (kal1 kok542 (kal1 kok543 kal0)) (kcl1 ks802_0 kcl0) ks802
/-- ColdShod$StrokePlan.addNext(LColdShod$Idea;I)V -/
def kE803 : aE := (83, 3, ([(.ofNat 0, .ofNat 3), (.ofNat 82, .ofNat 341)], [(57, 81, .inl (0, .ofNat 0)), (52, 6, .inl (1, .ofNat 0))], 0, [some (.inr [52]), some (.inr [20, 21, 22, 23, 24, 25, 26, 27]), some (.inl (.inl (.inr (.ofNat 81)))), none, none], []), ([], none), ([], [], none, ([], [])), ([(52, 6), (58, 0), (58, 1), (58, 2), (58, 3), (58, 4), (58, 5), (58, 6)], [54, 55, 56, 57]))
def kC803_0 : aC := (([(.ofNat 0, .ofNat 3), (.ofNat 82, .ofNat 341), (.ofNat 0, .ofNat 4), (.ofNat 82, .ofNat 341)], [(57, 81, .inl (0, .ofNat 0)), (52, 6, .inl (3, .ofNat 0))], 2, [some (.inr [52]), some (.inr [20, 21, 22, 23, 24, 25, 26, 27]), some (.inl (.inl (.inr (.ofNat 81)))), some (.inl (.inl (.inl (2, .ofNat 0)))), none], []), ([], []), (4, [(-1, 2)]))
theorem ks803 : aseg kS krf kB [kE542, kE543] (ksp []) kE803 [kC803_0] 30000 (none) = true := by decide +kernel
theorem ks803_0 : aseg kS krf kB [kE542, kE543] (ksp []) kE803 [kC803_0] 30000 (some kC803_0) = true := by decide +kernel
theorem kok803 : aOK kS krf kB kE803 := aOK_of (kal1 kok542 (kal1 kok543 kal0)) (kcl1 ks803_0 kcl0) ks803
/-- ColdShod$StrokePlan.addNext(LColdShod$Idea;I)V -/
def kE804 : aE := (83, 3, ([(.ofNat 0, .ofNat 3), (.ofNat 81, .ofNat 341)], [(57, 80, .inl (0, .ofNat 0)), (52, 6, .inl (1, .ofNat 0))], 0, [some (.inr [52]), some (.inr [20, 21, 22, 23, 24, 25, 26, 27]), some (.inl (.inl (.inr (.ofNat 80)))), none, none], []), ([], none), ([], [], none, ([], [])), ([(52, 6), (58, 0), (58, 1), (58, 2), (58, 3), (58, 4), (58, 5), (58, 6)], [54, 55, 56, 57]))
def kC804_0 : aC := (([(.ofNat 0, .ofNat 3), (.ofNat 81, .ofNat 341), (.ofNat 0, .ofNat 4), (.ofNat 81, .ofNat 341)], [(57, 80, .inl (0, .ofNat 0)), (52, 6, .inl (3, .ofNat 0))], 2, [some (.inr [52]), some (.inr [20, 21, 22, 23, 24, 25, 26, 27]), some (.inl (.inl (.inr (.ofNat 80)))), some (.inl (.inl (.inl (2, .ofNat 0)))), none], []), ([], []), (4, [(-1, 2)]))
theorem ks804 : aseg kS krf kB [kE542, kE543] (ksp []) kE804 [kC804_0] 30000 (none) = true := by decide +kernel
theorem ks804_0 : aseg kS krf kB [kE542, kE543] (ksp []) kE804 [kC804_0] 30000 (some kC804_0) = true := by decide +kernel
theorem kok804 : aOK kS krf kB kE804 := aOK_of (kal1 kok542 (kal1 kok543 kal0)) (kcl1 ks804_0 kcl0) ks804
/-- ColdShod$StrokePlan.addNext(LColdShod$Idea;I)V -/
def kE805 : aE := (83, 3, ([(.ofNat 0, .ofNat 3), (.ofNat 80, .ofNat 341)], [(57, 79, .inl (0, .ofNat 0)), (52, 6, .inl (1, .ofNat 0))], 0, [some (.inr [52]), some (.inr [20, 21, 22, 23, 24, 25, 26, 27]), some (.inl (.inl (.inr (.ofNat 79)))), none, none], []), ([], none), ([], [], none, ([], [])), ([(52, 6), (58, 0), (58, 1), (58, 2), (58, 3), (58, 4), (58, 5), (58, 6)], [54, 55, 56, 57]))
def kC805_0 : aC := (([(.ofNat 0, .ofNat 3), (.ofNat 80, .ofNat 341), (.ofNat 0, .ofNat 4), (.ofNat 80, .ofNat 341)], [(57, 79, .inl (0, .ofNat 0)), (52, 6, .inl (3, .ofNat 0))], 2, [some (.inr [52]), some (.inr [20, 21, 22, 23, 24, 25, 26, 27]), some (.inl (.inl (.inr (.ofNat 79)))), some (.inl (.inl (.inl (2, .ofNat 0)))), none], []), ([], []), (4, [(-1, 2)]))
theorem ks805 : aseg kS krf kB [kE542, kE543] (ksp []) kE805 [kC805_0] 30000 (none) = true := by decide +kernel
theorem ks805_0 : aseg kS krf kB [kE542, kE543] (ksp []) kE805 [kC805_0] 30000 (some kC805_0) = true := by decide +kernel
theorem kok805 : aOK kS krf kB kE805 := aOK_of (kal1 kok542 (kal1 kok543 kal0)) (kcl1 ks805_0 kcl0) ks805
/-- ColdShod$StrokePlan.addNext(LColdShod$Idea;I)V -/
def kE806 : aE := (83, 3, ([(.ofNat 0, .ofNat 3), (.ofNat 79, .ofNat 341)], [(57, 78, .inl (0, .ofNat 0)), (52, 6, .inl (1, .ofNat 0))], 0, [some (.inr [52]), some (.inr [20, 21, 22, 23, 24, 25, 26, 27]), some (.inl (.inl (.inr (.ofNat 78)))), none, none], []), ([], none), ([], [], none, ([], [])), ([(52, 6), (58, 0), (58, 1), (58, 2), (58, 3), (58, 4), (58, 5), (58, 6)], [54, 55, 56, 57]))
def kC806_0 : aC := (([(.ofNat 0, .ofNat 3), (.ofNat 79, .ofNat 341), (.ofNat 0, .ofNat 4), (.ofNat 79, .ofNat 341)], [(57, 78, .inl (0, .ofNat 0)), (52, 6, .inl (3, .ofNat 0))], 2, [some (.inr [52]), some (.inr [20, 21, 22, 23, 24, 25, 26, 27]), some (.inl (.inl (.inr (.ofNat 78)))), some (.inl (.inl (.inl (2, .ofNat 0)))), none], []), ([], []), (4, [(-1, 2)]))
theorem ks806 : aseg kS krf kB [kE542, kE543] (ksp []) kE806 [kC806_0] 30000 (none) = true := by decide +kernel
theorem ks806_0 : aseg kS krf kB [kE542, kE543] (ksp []) kE806 [kC806_0] 30000 (some kC806_0) = true := by decide +kernel
theorem kok806 : aOK kS krf kB kE806 := aOK_of (kal1 kok542 (kal1 kok543 kal0)) (kcl1 ks806_0 kcl0) ks806
/-- ColdShod$StrokePlan.addNext(LColdShod$Idea;I)V -/
def kE807 : aE := (83, 3, ([(.ofNat 0, .ofNat 3), (.ofNat 78, .ofNat 341)], [(57, 77, .inl (0, .ofNat 0)), (52, 6, .inl (1, .ofNat 0))], 0, [some (.inr [52]), some (.inr [20, 21, 22, 23, 24, 25, 26, 27]), some (.inl (.inl (.inr (.ofNat 77)))), none, none], []), ([], none), ([], [], none, ([], [])), ([(52, 6), (58, 0), (58, 1), (58, 2), (58, 3), (58, 4), (58, 5), (58, 6)], [54, 55, 56, 57]))
def kC807_0 : aC := (([(.ofNat 0, .ofNat 3), (.ofNat 78, .ofNat 341), (.ofNat 0, .ofNat 4), (.ofNat 78, .ofNat 341)], [(57, 77, .inl (0, .ofNat 0)), (52, 6, .inl (3, .ofNat 0))], 2, [some (.inr [52]), some (.inr [20, 21, 22, 23, 24, 25, 26, 27]), some (.inl (.inl (.inr (.ofNat 77)))), some (.inl (.inl (.inl (2, .ofNat 0)))), none], []), ([], []), (4, [(-1, 2)]))
theorem ks807 : aseg kS krf kB [kE542, kE543] (ksp []) kE807 [kC807_0] 30000 (none) = true := by decide +kernel
theorem ks807_0 : aseg kS krf kB [kE542, kE543] (ksp []) kE807 [kC807_0] 30000 (some kC807_0) = true := by decide +kernel
theorem kok807 : aOK kS krf kB kE807 := aOK_of (kal1 kok542 (kal1 kok543 kal0)) (kcl1 ks807_0 kcl0) ks807
/-- ColdShod$StrokePlan.addNext(LColdShod$Idea;I)V -/
def kE808 : aE := (83, 3, ([(.ofNat 0, .ofNat 3), (.ofNat 77, .ofNat 341)], [(57, 76, .inl (0, .ofNat 0)), (52, 6, .inl (1, .ofNat 0))], 0, [some (.inr [52]), some (.inr [20, 21, 22, 23, 24, 25, 26, 27]), some (.inl (.inl (.inr (.ofNat 76)))), none, none], []), ([], none), ([], [], none, ([], [])), ([(52, 6), (58, 0), (58, 1), (58, 2), (58, 3), (58, 4), (58, 5), (58, 6)], [54, 55, 56, 57]))
def kC808_0 : aC := (([(.ofNat 0, .ofNat 3), (.ofNat 77, .ofNat 341), (.ofNat 0, .ofNat 4), (.ofNat 77, .ofNat 341)], [(57, 76, .inl (0, .ofNat 0)), (52, 6, .inl (3, .ofNat 0))], 2, [some (.inr [52]), some (.inr [20, 21, 22, 23, 24, 25, 26, 27]), some (.inl (.inl (.inr (.ofNat 76)))), some (.inl (.inl (.inl (2, .ofNat 0)))), none], []), ([], []), (4, [(-1, 2)]))
theorem ks808 : aseg kS krf kB [kE542, kE543] (ksp []) kE808 [kC808_0] 30000 (none) = true := by decide +kernel
theorem ks808_0 : aseg kS krf kB [kE542, kE543] (ksp []) kE808 [kC808_0] 30000 (some kC808_0) = true := by decide +kernel
theorem kok808 : aOK kS krf kB kE808 := aOK_of (kal1 kok542 (kal1 kok543 kal0)) (kcl1 ks808_0 kcl0) ks808
/-- ColdShod$StrokePlan.addNext(LColdShod$Idea;I)V -/
def kE809 : aE := (83, 3, ([(.ofNat 0, .ofNat 3), (.ofNat 76, .ofNat 341)], [(57, 75, .inl (0, .ofNat 0)), (52, 6, .inl (1, .ofNat 0))], 0, [some (.inr [52]), some (.inr [20, 21, 22, 23, 24, 25, 26, 27]), some (.inl (.inl (.inr (.ofNat 75)))), none, none], []), ([], none), ([], [], none, ([], [])), ([(52, 6), (58, 0), (58, 1), (58, 2), (58, 3), (58, 4), (58, 5), (58, 6)], [54, 55, 56, 57]))
def kC809_0 : aC := (([(.ofNat 0, .ofNat 3), (.ofNat 76, .ofNat 341), (.ofNat 0, .ofNat 4), (.ofNat 76, .ofNat 341)], [(57, 75, .inl (0, .ofNat 0)), (52, 6, .inl (3, .ofNat 0))], 2, [some (.inr [52]), some (.inr [20, 21, 22, 23, 24, 25, 26, 27]), some (.inl (.inl (.inr (.ofNat 75)))), some (.inl (.inl (.inl (2, .ofNat 0)))), none], []), ([], []), (4, [(-1, 2)]))
theorem ks809 : aseg kS krf kB [kE542, kE543] (ksp []) kE809 [kC809_0] 30000 (none) = true := by decide +kernel
theorem ks809_0 : aseg kS krf kB [kE542, kE543] (ksp []) kE809 [kC809_0] 30000 (some kC809_0) = true := by decide +kernel
theorem kok809 : aOK kS krf kB kE809 := aOK_of (kal1 kok542 (kal1 kok543 kal0)) (kcl1 ks809_0 kcl0) ks809
/-- ColdShod$StrokePlan.addNext(LColdShod$Idea;I)V -/
def kE810 : aE := (83, 3, ([(.ofNat 0, .ofNat 3), (.ofNat 75, .ofNat 341)], [(57, 74, .inl (0, .ofNat 0)), (52, 6, .inl (1, .ofNat 0))], 0, [some (.inr [52]), some (.inr [20, 21, 22, 23, 24, 25, 26, 27]), some (.inl (.inl (.inr (.ofNat 74)))), none, none], []), ([], none), ([], [], none, ([], [])), ([(52, 6), (58, 0), (58, 1), (58, 2), (58, 3), (58, 4), (58, 5), (58, 6)], [54, 55, 56, 57]))
def kC810_0 : aC := (([(.ofNat 0, .ofNat 3), (.ofNat 75, .ofNat 341), (.ofNat 0, .ofNat 4), (.ofNat 75, .ofNat 341)], [(57, 74, .inl (0, .ofNat 0)), (52, 6, .inl (3, .ofNat 0))], 2, [some (.inr [52]), some (.inr [20, 21, 22, 23, 24, 25, 26, 27]), some (.inl (.inl (.inr (.ofNat 74)))), some (.inl (.inl (.inl (2, .ofNat 0)))), none], []), ([], []), (4, [(-1, 2)]))
theorem ks810 : aseg kS krf kB [kE542, kE543] (ksp []) kE810 [kC810_0] 30000 (none) = true := by decide +kernel
theorem ks810_0 : aseg kS krf kB [kE542, kE543] (ksp []) kE810 [kC810_0] 30000 (some kC810_0) = true := by decide +kernel
theorem kok810 : aOK kS krf kB kE810 := aOK_of (kal1 kok542 (kal1 kok543 kal0)) (kcl1 ks810_0 kcl0) ks810
/-- ColdShod$StrokePlan.addNext(LColdShod$Idea;I)V -/
def kE811 : aE := (83, 3, ([(.ofNat 0, .ofNat 3), (.ofNat 74, .ofNat 341)], [(57, 73, .inl (0, .ofNat 0)), (52, 6, .inl (1, .ofNat 0))], 0, [some (.inr [52]), some (.inr [20, 21, 22, 23, 24, 25, 26, 27]), some (.inl (.inl (.inr (.ofNat 73)))), none, none], []), ([], none), ([], [], none, ([], [])), ([(52, 6), (58, 0), (58, 1), (58, 2), (58, 3), (58, 4), (58, 5), (58, 6)], [54, 55, 56, 57]))
def kC811_0 : aC := (([(.ofNat 0, .ofNat 3), (.ofNat 74, .ofNat 341), (.ofNat 0, .ofNat 4), (.ofNat 74, .ofNat 341)], [(57, 73, .inl (0, .ofNat 0)), (52, 6, .inl (3, .ofNat 0))], 2, [some (.inr [52]), some (.inr [20, 21, 22, 23, 24, 25, 26, 27]), some (.inl (.inl (.inr (.ofNat 73)))), some (.inl (.inl (.inl (2, .ofNat 0)))), none], []), ([], []), (4, [(-1, 2)]))
theorem ks811 : aseg kS krf kB [kE542, kE543] (ksp []) kE811 [kC811_0] 30000 (none) = true := by decide +kernel
theorem ks811_0 : aseg kS krf kB [kE542, kE543] (ksp []) kE811 [kC811_0] 30000 (some kC811_0) = true := by decide +kernel
theorem kok811 : aOK kS krf kB kE811 := aOK_of (kal1 kok542 (kal1 kok543 kal0)) (kcl1 ks811_0 kcl0) ks811
/-- ColdShod$StrokePlan.addNext(LColdShod$Idea;I)V -/
def kE812 : aE := (83, 3, ([(.ofNat 0, .ofNat 3), (.ofNat 73, .ofNat 341)], [(57, 72, .inl (0, .ofNat 0)), (52, 6, .inl (1, .ofNat 0))], 0, [some (.inr [52]), some (.inr [20, 21, 22, 23, 24, 25, 26, 27]), some (.inl (.inl (.inr (.ofNat 72)))), none, none], []), ([], none), ([], [], none, ([], [])), ([(52, 6), (58, 0), (58, 1), (58, 2), (58, 3), (58, 4), (58, 5), (58, 6)], [54, 55, 56, 57]))
def kC812_0 : aC := (([(.ofNat 0, .ofNat 3), (.ofNat 73, .ofNat 341), (.ofNat 0, .ofNat 4), (.ofNat 73, .ofNat 341)], [(57, 72, .inl (0, .ofNat 0)), (52, 6, .inl (3, .ofNat 0))], 2, [some (.inr [52]), some (.inr [20, 21, 22, 23, 24, 25, 26, 27]), some (.inl (.inl (.inr (.ofNat 72)))), some (.inl (.inl (.inl (2, .ofNat 0)))), none], []), ([], []), (4, [(-1, 2)]))
theorem ks812 : aseg kS krf kB [kE542, kE543] (ksp []) kE812 [kC812_0] 30000 (none) = true := by decide +kernel
theorem ks812_0 : aseg kS krf kB [kE542, kE543] (ksp []) kE812 [kC812_0] 30000 (some kC812_0) = true := by decide +kernel
theorem kok812 : aOK kS krf kB kE812 := aOK_of (kal1 kok542 (kal1 kok543 kal0)) (kcl1 ks812_0 kcl0) ks812
/-- ColdShod$StrokePlan.addNext(LColdShod$Idea;I)V -/
def kE813 : aE := (83, 3, ([(.ofNat 0, .ofNat 3), (.ofNat 72, .ofNat 341)], [(57, 71, .inl (0, .ofNat 0)), (52, 6, .inl (1, .ofNat 0))], 0, [some (.inr [52]), some (.inr [20, 21, 22, 23, 24, 25, 26, 27]), some (.inl (.inl (.inr (.ofNat 71)))), none, none], []), ([], none), ([], [], none, ([], [])), ([(52, 6), (58, 0), (58, 1), (58, 2), (58, 3), (58, 4), (58, 5), (58, 6)], [54, 55, 56, 57]))
def kC813_0 : aC := (([(.ofNat 0, .ofNat 3), (.ofNat 72, .ofNat 341), (.ofNat 0, .ofNat 4), (.ofNat 72, .ofNat 341)], [(57, 71, .inl (0, .ofNat 0)), (52, 6, .inl (3, .ofNat 0))], 2, [some (.inr [52]), some (.inr [20, 21, 22, 23, 24, 25, 26, 27]), some (.inl (.inl (.inr (.ofNat 71)))), some (.inl (.inl (.inl (2, .ofNat 0)))), none], []), ([], []), (4, [(-1, 2)]))
theorem ks813 : aseg kS krf kB [kE542, kE543] (ksp []) kE813 [kC813_0] 30000 (none) = true := by decide +kernel
theorem ks813_0 : aseg kS krf kB [kE542, kE543] (ksp []) kE813 [kC813_0] 30000 (some kC813_0) = true := by decide +kernel
theorem kok813 : aOK kS krf kB kE813 := aOK_of (kal1 kok542 (kal1 kok543 kal0)) (kcl1 ks813_0 kcl0) ks813
/-- ColdShod$StrokePlan.addNext(LColdShod$Idea;I)V -/
def kE814 : aE := (83, 3, ([(.ofNat 0, .ofNat 3), (.ofNat 71, .ofNat 341)], [(57, 70, .inl (0, .ofNat 0)), (52, 6, .inl (1, .ofNat 0))], 0, [some (.inr [52]), some (.inr [20, 21, 22, 23, 24, 25, 26, 27]), some (.inl (.inl (.inr (.ofNat 70)))), none, none], []), ([], none), ([], [], none, ([], [])), ([(52, 6), (58, 0), (58, 1), (58, 2), (58, 3), (58, 4), (58, 5), (58, 6)], [54, 55, 56, 57]))
def kC814_0 : aC := (([(.ofNat 0, .ofNat 3), (.ofNat 71, .ofNat 341), (.ofNat 0, .ofNat 4), (.ofNat 71, .ofNat 341)], [(57, 70, .inl (0, .ofNat 0)), (52, 6, .inl (3, .ofNat 0))], 2, [some (.inr [52]), some (.inr [20, 21, 22, 23, 24, 25, 26, 27]), some (.inl (.inl (.inr (.ofNat 70)))), some (.inl (.inl (.inl (2, .ofNat 0)))), none], []), ([], []), (4, [(-1, 2)]))
theorem ks814 : aseg kS krf kB [kE542, kE543] (ksp []) kE814 [kC814_0] 30000 (none) = true := by decide +kernel
theorem ks814_0 : aseg kS krf kB [kE542, kE543] (ksp []) kE814 [kC814_0] 30000 (some kC814_0) = true := by decide +kernel
theorem kok814 : aOK kS krf kB kE814 := aOK_of (kal1 kok542 (kal1 kok543 kal0)) (kcl1 ks814_0 kcl0) ks814
/-- ColdShod$StrokePlan.addNext(LColdShod$Idea;I)V -/
def kE815 : aE := (83, 3, ([(.ofNat 0, .ofNat 3), (.ofNat 70, .ofNat 341)], [(57, 69, .inl (0, .ofNat 0)), (52, 6, .inl (1, .ofNat 0))], 0, [some (.inr [52]), some (.inr [20, 21, 22, 23, 24, 25, 26, 27]), some (.inl (.inl (.inr (.ofNat 69)))), none, none], []), ([], none), ([], [], none, ([], [])), ([(52, 6), (58, 0), (58, 1), (58, 2), (58, 3), (58, 4), (58, 5), (58, 6)], [54, 55, 56, 57]))
def kC815_0 : aC := (([(.ofNat 0, .ofNat 3), (.ofNat 70, .ofNat 341), (.ofNat 0, .ofNat 4), (.ofNat 70, .ofNat 341)], [(57, 69, .inl (0, .ofNat 0)), (52, 6, .inl (3, .ofNat 0))], 2, [some (.inr [52]), some (.inr [20, 21, 22, 23, 24, 25, 26, 27]), some (.inl (.inl (.inr (.ofNat 69)))), some (.inl (.inl (.inl (2, .ofNat 0)))), none], []), ([], []), (4, [(-1, 2)]))
theorem ks815 : aseg kS krf kB [kE542, kE543] (ksp []) kE815 [kC815_0] 30000 (none) = true := by decide +kernel
theorem ks815_0 : aseg kS krf kB [kE542, kE543] (ksp []) kE815 [kC815_0] 30000 (some kC815_0) = true := by decide +kernel
theorem kok815 : aOK kS krf kB kE815 := aOK_of (kal1 kok542 (kal1 kok543 kal0)) (kcl1 ks815_0 kcl0) ks815
/-- ColdShod$StrokePlan.addNext(LColdShod$Idea;I)V -/
def kE816 : aE := (83, 3, ([(.ofNat 0, .ofNat 3), (.ofNat 69, .ofNat 341)], [(57, 68, .inl (0, .ofNat 0)), (52, 6, .inl (1, .ofNat 0))], 0, [some (.inr [52]), some (.inr [20, 21, 22, 23, 24, 25, 26, 27]), some (.inl (.inl (.inr (.ofNat 68)))), none, none], []), ([], none), ([], [], none, ([], [])), ([(52, 6), (58, 0), (58, 1), (58, 2), (58, 3), (58, 4), (58, 5), (58, 6)], [54, 55, 56, 57]))
def kC816_0 : aC := (([(.ofNat 0, .ofNat 3), (.ofNat 69, .ofNat 341), (.ofNat 0, .ofNat 4), (.ofNat 69, .ofNat 341)], [(57, 68, .inl (0, .ofNat 0)), (52, 6, .inl (3, .ofNat 0))], 2, [some (.inr [52]), some (.inr [20, 21, 22, 23, 24, 25, 26, 27]), some (.inl (.inl (.inr (.ofNat 68)))), some (.inl (.inl (.inl (2, .ofNat 0)))), none], []), ([], []), (4, [(-1, 2)]))
theorem ks816 : aseg kS krf kB [kE542, kE543] (ksp []) kE816 [kC816_0] 30000 (none) = true := by decide +kernel
theorem ks816_0 : aseg kS krf kB [kE542, kE543] (ksp []) kE816 [kC816_0] 30000 (some kC816_0) = true := by decide +kernel
theorem kok816 : aOK kS krf kB kE816 := aOK_of (kal1 kok542 (kal1 kok543 kal0)) (kcl1 ks816_0 kcl0) ks816
/-- ColdShod$StrokePlan.addNext(LColdShod$Idea;I)V -/
def kE817 : aE := (83, 3, ([(.ofNat 0, .ofNat 3), (.ofNat 68, .ofNat 341)], [(57, 67, .inl (0, .ofNat 0)), (52, 6, .inl (1, .ofNat 0))], 0, [some (.inr [52]), some (.inr [20, 21, 22, 23, 24, 25, 26, 27]), some (.inl (.inl (.inr (.ofNat 67)))), none, none], []), ([], none), ([], [], none, ([], [])), ([(52, 6), (58, 0), (58, 1), (58, 2), (58, 3), (58, 4), (58, 5), (58, 6)], [54, 55, 56, 57]))
def kC817_0 : aC := (([(.ofNat 0, .ofNat 3), (.ofNat 68, .ofNat 341), (.ofNat 0, .ofNat 4), (.ofNat 68, .ofNat 341)], [(57, 67, .inl (0, .ofNat 0)), (52, 6, .inl (3, .ofNat 0))], 2, [some (.inr [52]), some (.inr [20, 21, 22, 23, 24, 25, 26, 27]), some (.inl (.inl (.inr (.ofNat 67)))), some (.inl (.inl (.inl (2, .ofNat 0)))), none], []), ([], []), (4, [(-1, 2)]))
theorem ks817 : aseg kS krf kB [kE542, kE543] (ksp []) kE817 [kC817_0] 30000 (none) = true := by decide +kernel
theorem ks817_0 : aseg kS krf kB [kE542, kE543] (ksp []) kE817 [kC817_0] 30000 (some kC817_0) = true := by decide +kernel
theorem kok817 : aOK kS krf kB kE817 := aOK_of (kal1 kok542 (kal1 kok543 kal0)) (kcl1 ks817_0 kcl0) ks817
/-- ColdShod$StrokePlan.addNext(LColdShod$Idea;I)V -/
def kE818 : aE := (83, 3, ([(.ofNat 0, .ofNat 3), (.ofNat 67, .ofNat 341)], [(57, 66, .inl (0, .ofNat 0)), (52, 6, .inl (1, .ofNat 0))], 0, [some (.inr [52]), some (.inr [20, 21, 22, 23, 24, 25, 26, 27]), some (.inl (.inl (.inr (.ofNat 66)))), none, none], []), ([], none), ([], [], none, ([], [])), ([(52, 6), (58, 0), (58, 1), (58, 2), (58, 3), (58, 4), (58, 5), (58, 6)], [54, 55, 56, 57]))
def kC818_0 : aC := (([(.ofNat 0, .ofNat 3), (.ofNat 67, .ofNat 341), (.ofNat 0, .ofNat 4), (.ofNat 67, .ofNat 341)], [(57, 66, .inl (0, .ofNat 0)), (52, 6, .inl (3, .ofNat 0))], 2, [some (.inr [52]), some (.inr [20, 21, 22, 23, 24, 25, 26, 27]), some (.inl (.inl (.inr (.ofNat 66)))), some (.inl (.inl (.inl (2, .ofNat 0)))), none], []), ([], []), (4, [(-1, 2)]))
theorem ks818 : aseg kS krf kB [kE542, kE543] (ksp []) kE818 [kC818_0] 30000 (none) = true := by decide +kernel
theorem ks818_0 : aseg kS krf kB [kE542, kE543] (ksp []) kE818 [kC818_0] 30000 (some kC818_0) = true := by decide +kernel
theorem kok818 : aOK kS krf kB kE818 := aOK_of (kal1 kok542 (kal1 kok543 kal0)) (kcl1 ks818_0 kcl0) ks818
/-- ColdShod$StrokePlan.addNext(LColdShod$Idea;I)V -/
def kE819 : aE := (83, 3, ([(.ofNat 0, .ofNat 3), (.ofNat 66, .ofNat 341)], [(57, 65, .inl (0, .ofNat 0)), (52, 6, .inl (1, .ofNat 0))], 0, [some (.inr [52]), some (.inr [20, 21, 22, 23, 24, 25, 26, 27]), some (.inl (.inl (.inr (.ofNat 65)))), none, none], []), ([], none), ([], [], none, ([], [])), ([(52, 6), (58, 0), (58, 1), (58, 2), (58, 3), (58, 4), (58, 5), (58, 6)], [54, 55, 56, 57]))
def kC819_0 : aC := (([(.ofNat 0, .ofNat 3), (.ofNat 66, .ofNat 341), (.ofNat 0, .ofNat 4), (.ofNat 66, .ofNat 341)], [(57, 65, .inl (0, .ofNat 0)), (52, 6, .inl (3, .ofNat 0))], 2, [some (.inr [52]), some (.inr [20, 21, 22, 23, 24, 25, 26, 27]), some (.inl (.inl (.inr (.ofNat 65)))), some (.inl (.inl (.inl (2, .ofNat 0)))), none], []), ([], []), (4, [(-1, 2)]))
theorem ks819 : aseg kS krf kB [kE542, kE543] (ksp []) kE819 [kC819_0] 30000 (none) = true := by decide +kernel
theorem ks819_0 : aseg kS krf kB [kE542, kE543] (ksp []) kE819 [kC819_0] 30000 (some kC819_0) = true := by decide +kernel
theorem kok819 : aOK kS krf kB kE819 := aOK_of (kal1 kok542 (kal1 kok543 kal0)) (kcl1 ks819_0 kcl0) ks819
/-- ColdShod$StrokePlan.addNext(LColdShod$Idea;I)V -/
def kE820 : aE := (83, 3, ([(.ofNat 0, .ofNat 3), (.ofNat 65, .ofNat 341)], [(57, 64, .inl (0, .ofNat 0)), (52, 6, .inl (1, .ofNat 0))], 0, [some (.inr [52]), some (.inr [20, 21, 22, 23, 24, 25, 26, 27]), some (.inl (.inl (.inr (.ofNat 64)))), none, none], []), ([], none), ([], [], none, ([], [])), ([(52, 6), (58, 0), (58, 1), (58, 2), (58, 3), (58, 4), (58, 5), (58, 6)], [54, 55, 56, 57]))
def kC820_0 : aC := (([(.ofNat 0, .ofNat 3), (.ofNat 65, .ofNat 341), (.ofNat 0, .ofNat 4), (.ofNat 65, .ofNat 341)], [(57, 64, .inl (0, .ofNat 0)), (52, 6, .inl (3, .ofNat 0))], 2, [some (.inr [52]), some (.inr [20, 21, 22, 23, 24, 25, 26, 27]), some (.inl (.inl (.inr (.ofNat 64)))), some (.inl (.inl (.inl (2, .ofNat 0)))), none], []), ([], []), (4, [(-1, 2)]))
theorem ks820 : aseg kS krf kB [kE542, kE543] (ksp []) kE820 [kC820_0] 30000 (none) = true := by decide +kernel
theorem ks820_0 : aseg kS krf kB [kE542, kE543] (ksp []) kE820 [kC820_0] 30000 (some kC820_0) = true := by decide +kernel
theorem kok820 : aOK kS krf kB kE820 := aOK_of (kal1 kok542 (kal1 kok543 kal0)) (kcl1 ks820_0 kcl0) ks820
/-- ColdShod$StrokePlan.addNext(LColdShod$Idea;I)V -/
def kE821 : aE := (83, 3, ([(.ofNat 0, .ofNat 3), (.ofNat 64, .ofNat 341)], [(57, 63, .inl (0, .ofNat 0)), (52, 6, .inl (1, .ofNat 0))], 0, [some (.inr [52]), some (.inr [20, 21, 22, 23, 24, 25, 26, 27]), some (.inl (.inl (.inr (.ofNat 63)))), none, none], []), ([], none), ([], [], none, ([], [])), ([(52, 6), (58, 0), (58, 1), (58, 2), (58, 3), (58, 4), (58, 5), (58, 6)], [54, 55, 56, 57]))
def kC821_0 : aC := (([(.ofNat 0, .ofNat 3), (.ofNat 64, .ofNat 341), (.ofNat 0, .ofNat 4), (.ofNat 64, .ofNat 341)], [(57, 63, .inl (0, .ofNat 0)), (52, 6, .inl (3, .ofNat 0))], 2, [some (.inr [52]), some (.inr [20, 21, 22, 23, 24, 25, 26, 27]), some (.inl (.inl (.inr (.ofNat 63)))), some (.inl (.inl (.inl (2, .ofNat 0)))), none], []), ([], []), (4, [(-1, 2)]))
theorem ks821 : aseg kS krf kB [kE542, kE543] (ksp []) kE821 [kC821_0] 30000 (none) = true := by decide +kernel
theorem ks821_0 : aseg kS krf kB [kE542, kE543] (ksp []) kE821 [kC821_0] 30000 (some kC821_0) = true := by decide +kernel
theorem kok821 : aOK kS krf kB kE821 := aOK_of (kal1 kok542 (kal1 kok543 kal0)) (kcl1 ks821_0 kcl0) ks821
/-- ColdShod$StrokePlan.addNext(LColdShod$Idea;I)V -/
def kE822 : aE := (83, 3, ([(.ofNat 0, .ofNat 3), (.ofNat 63, .ofNat 341)], [(57, 62, .inl (0, .ofNat 0)), (52, 6, .inl (1, .ofNat 0))], 0, [some (.inr [52]), some (.inr [20, 21, 22, 23, 24, 25, 26, 27]), some (.inl (.inl (.inr (.ofNat 62)))), none, none], []), ([], none), ([], [], none, ([], [])), ([(52, 6), (58, 0), (58, 1), (58, 2), (58, 3), (58, 4), (58, 5), (58, 6)], [54, 55, 56, 57]))
def kC822_0 : aC := (([(.ofNat 0, .ofNat 3), (.ofNat 63, .ofNat 341), (.ofNat 0, .ofNat 4), (.ofNat 63, .ofNat 341)], [(57, 62, .inl (0, .ofNat 0)), (52, 6, .inl (3, .ofNat 0))], 2, [some (.inr [52]), some (.inr [20, 21, 22, 23, 24, 25, 26, 27]), some (.inl (.inl (.inr (.ofNat 62)))), some (.inl (.inl (.inl (2, .ofNat 0)))), none], []), ([], []), (4, [(-1, 2)]))
theorem ks822 : aseg kS krf kB [kE542, kE543] (ksp []) kE822 [kC822_0] 30000 (none) = true := by decide +kernel
theorem ks822_0 : aseg kS krf kB [kE542, kE543] (ksp []) kE822 [kC822_0] 30000 (some kC822_0) = true := by decide +kernel
theorem kok822 : aOK kS krf kB kE822 := aOK_of (kal1 kok542 (kal1 kok543 kal0)) (kcl1 ks822_0 kcl0) ks822
/-- ColdShod$StrokePlan.addNext(LColdShod$Idea;I)V -/
def kE823 : aE := (83, 3, ([(.ofNat 0, .ofNat 3), (.ofNat 62, .ofNat 341)], [(57, 61, .inl (0, .ofNat 0)), (52, 6, .inl (1, .ofNat 0))], 0, [some (.inr [52]), some (.inr [20, 21, 22, 23, 24, 25, 26, 27]), some (.inl (.inl (.inr (.ofNat 61)))), none, none], []), ([], none), ([], [], none, ([], [])), ([(52, 6), (58, 0), (58, 1), (58, 2), (58, 3), (58, 4), (58, 5), (58, 6)], [54, 55, 56, 57]))
def kC823_0 : aC := (([(.ofNat 0, .ofNat 3), (.ofNat 62, .ofNat 341), (.ofNat 0, .ofNat 4), (.ofNat 62, .ofNat 341)], [(57, 61, .inl (0, .ofNat 0)), (52, 6, .inl (3, .ofNat 0))], 2, [some (.inr [52]), some (.inr [20, 21, 22, 23, 24, 25, 26, 27]), some (.inl (.inl (.inr (.ofNat 61)))), some (.inl (.inl (.inl (2, .ofNat 0)))), none], []), ([], []), (4, [(-1, 2)]))
theorem ks823 : aseg kS krf kB [kE542, kE543] (ksp []) kE823 [kC823_0] 30000 (none) = true := by decide +kernel
theorem ks823_0 : aseg kS krf kB [kE542, kE543] (ksp []) kE823 [kC823_0] 30000 (some kC823_0) = true := by decide +kernel
theorem kok823 : aOK kS krf kB kE823 := aOK_of (kal1 kok542 (kal1 kok543 kal0)) (kcl1 ks823_0 kcl0) ks823
/-- ColdShod$StrokePlan.addNext(LColdShod$Idea;I)V -/
def kE824 : aE := (83, 3, ([(.ofNat 0, .ofNat 3), (.ofNat 61, .ofNat 341)], [(57, 60, .inl (0, .ofNat 0)), (52, 6, .inl (1, .ofNat 0))], 0, [some (.inr [52]), some (.inr [20, 21, 22, 23, 24, 25, 26, 27]), some (.inl (.inl (.inr (.ofNat 60)))), none, none], []), ([], none), ([], [], none, ([], [])), ([(52, 6), (58, 0), (58, 1), (58, 2), (58, 3), (58, 4), (58, 5), (58, 6)], [54, 55, 56, 57]))
def kC824_0 : aC := (([(.ofNat 0, .ofNat 3), (.ofNat 61, .ofNat 341), (.ofNat 0, .ofNat 4), (.ofNat 61, .ofNat 341)], [(57, 60, .inl (0, .ofNat 0)), (52, 6, .inl (3, .ofNat 0))], 2, [some (.inr [52]), some (.inr [20, 21, 22, 23, 24, 25, 26, 27]), some (.inl (.inl (.inr (.ofNat 60)))), some (.inl (.inl (.inl (2, .ofNat 0)))), none], []), ([], []), (4, [(-1, 2)]))
theorem ks824 : aseg kS krf kB [kE542, kE543] (ksp []) kE824 [kC824_0] 30000 (none) = true := by decide +kernel
theorem ks824_0 : aseg kS krf kB [kE542, kE543] (ksp []) kE824 [kC824_0] 30000 (some kC824_0) = true := by decide +kernel
theorem kok824 : aOK kS krf kB kE824 := aOK_of (kal1 kok542 (kal1 kok543 kal0)) (kcl1 ks824_0 kcl0) ks824
/-- ColdShod$StrokePlan.addNext(LColdShod$Idea;I)V -/
def kE825 : aE := (83, 3, ([(.ofNat 0, .ofNat 3), (.ofNat 60, .ofNat 341)], [(57, 59, .inl (0, .ofNat 0)), (52, 6, .inl (1, .ofNat 0))], 0, [some (.inr [52]), some (.inr [20, 21, 22, 23, 24, 25, 26, 27]), some (.inl (.inl (.inr (.ofNat 59)))), none, none], []), ([], none), ([], [], none, ([], [])), ([(52, 6), (58, 0), (58, 1), (58, 2), (58, 3), (58, 4), (58, 5), (58, 6)], [54, 55, 56, 57]))
def kC825_0 : aC := (([(.ofNat 0, .ofNat 3), (.ofNat 60, .ofNat 341), (.ofNat 0, .ofNat 4), (.ofNat 60, .ofNat 341)], [(57, 59, .inl (0, .ofNat 0)), (52, 6, .inl (3, .ofNat 0))], 2, [some (.inr [52]), some (.inr [20, 21, 22, 23, 24, 25, 26, 27]), some (.inl (.inl (.inr (.ofNat 59)))), some (.inl (.inl (.inl (2, .ofNat 0)))), none], []), ([], []), (4, [(-1, 2)]))
theorem ks825 : aseg kS krf kB [kE542, kE543] (ksp []) kE825 [kC825_0] 30000 (none) = true := by decide +kernel
theorem ks825_0 : aseg kS krf kB [kE542, kE543] (ksp []) kE825 [kC825_0] 30000 (some kC825_0) = true := by decide +kernel
theorem kok825 : aOK kS krf kB kE825 := aOK_of (kal1 kok542 (kal1 kok543 kal0)) (kcl1 ks825_0 kcl0) ks825
/-- ColdShod$StrokePlan.addNext(LColdShod$Idea;I)V -/
def kE826 : aE := (83, 3, ([(.ofNat 0, .ofNat 3), (.ofNat 59, .ofNat 341)], [(57, 58, .inl (0, .ofNat 0)), (52, 6, .inl (1, .ofNat 0))], 0, [some (.inr [52]), some (.inr [20, 21, 22, 23, 24, 25, 26, 27]), some (.inl (.inl (.inr (.ofNat 58)))), none, none], []), ([], none), ([], [], none, ([], [])), ([(52, 6), (58, 0), (58, 1), (58, 2), (58, 3), (58, 4), (58, 5), (58, 6)], [54, 55, 56, 57]))
def kC826_0 : aC := (([(.ofNat 0, .ofNat 3), (.ofNat 59, .ofNat 341), (.ofNat 0, .ofNat 4), (.ofNat 59, .ofNat 341)], [(57, 58, .inl (0, .ofNat 0)), (52, 6, .inl (3, .ofNat 0))], 2, [some (.inr [52]), some (.inr [20, 21, 22, 23, 24, 25, 26, 27]), some (.inl (.inl (.inr (.ofNat 58)))), some (.inl (.inl (.inl (2, .ofNat 0)))), none], []), ([], []), (4, [(-1, 2)]))
theorem ks826 : aseg kS krf kB [kE542, kE543] (ksp []) kE826 [kC826_0] 30000 (none) = true := by decide +kernel
theorem ks826_0 : aseg kS krf kB [kE542, kE543] (ksp []) kE826 [kC826_0] 30000 (some kC826_0) = true := by decide +kernel
theorem kok826 : aOK kS krf kB kE826 := aOK_of (kal1 kok542 (kal1 kok543 kal0)) (kcl1 ks826_0 kcl0) ks826
/-- ColdShod$StrokePlan.addNext(LColdShod$Idea;I)V -/
def kE827 : aE := (83, 3, ([(.ofNat 0, .ofNat 3), (.ofNat 58, .ofNat 341)], [(57, 57, .inl (0, .ofNat 0)), (52, 6, .inl (1, .ofNat 0))], 0, [some (.inr [52]), some (.inr [20, 21, 22, 23, 24, 25, 26, 27]), some (.inl (.inl (.inr (.ofNat 57)))), none, none], []), ([], none), ([], [], none, ([], [])), ([(52, 6), (58, 0), (58, 1), (58, 2), (58, 3), (58, 4), (58, 5), (58, 6)], [54, 55, 56, 57]))
def kC827_0 : aC := (([(.ofNat 0, .ofNat 3), (.ofNat 58, .ofNat 341), (.ofNat 0, .ofNat 4), (.ofNat 58, .ofNat 341)], [(57, 57, .inl (0, .ofNat 0)), (52, 6, .inl (3, .ofNat 0))], 2, [some (.inr [52]), some (.inr [20, 21, 22, 23, 24, 25, 26, 27]), some (.inl (.inl (.inr (.ofNat 57)))), some (.inl (.inl (.inl (2, .ofNat 0)))), none], []), ([], []), (4, [(-1, 2)]))
theorem ks827 : aseg kS krf kB [kE542, kE543] (ksp []) kE827 [kC827_0] 30000 (none) = true := by decide +kernel
theorem ks827_0 : aseg kS krf kB [kE542, kE543] (ksp []) kE827 [kC827_0] 30000 (some kC827_0) = true := by decide +kernel
theorem kok827 : aOK kS krf kB kE827 := aOK_of (kal1 kok542 (kal1 kok543 kal0)) (kcl1 ks827_0 kcl0) ks827
/-- ColdShod$StrokePlan.addNext(LColdShod$Idea;I)V -/
def kE828 : aE := (83, 3, ([(.ofNat 0, .ofNat 3), (.ofNat 57, .ofNat 341)], [(57, 56, .inl (0, .ofNat 0)), (52, 6, .inl (1, .ofNat 0))], 0, [some (.inr [52]), some (.inr [20, 21, 22, 23, 24, 25, 26, 27]), some (.inl (.inl (.inr (.ofNat 56)))), none, none], []), ([], none), ([], [], none, ([], [])), ([(52, 6), (58, 0), (58, 1), (58, 2), (58, 3), (58, 4), (58, 5), (58, 6)], [54, 55, 56, 57]))
def kC828_0 : aC := (([(.ofNat 0, .ofNat 3), (.ofNat 57, .ofNat 341), (.ofNat 0, .ofNat 4), (.ofNat 57, .ofNat 341)], [(57, 56, .inl (0, .ofNat 0)), (52, 6, .inl (3, .ofNat 0))], 2, [some (.inr [52]), some (.inr [20, 21, 22, 23, 24, 25, 26, 27]), some (.inl (.inl (.inr (.ofNat 56)))), some (.inl (.inl (.inl (2, .ofNat 0)))), none], []), ([], []), (4, [(-1, 2)]))
theorem ks828 : aseg kS krf kB [kE542, kE543] (ksp []) kE828 [kC828_0] 30000 (none) = true := by decide +kernel
theorem ks828_0 : aseg kS krf kB [kE542, kE543] (ksp []) kE828 [kC828_0] 30000 (some kC828_0) = true := by decide +kernel
theorem kok828 : aOK kS krf kB kE828 := aOK_of (kal1 kok542 (kal1 kok543 kal0)) (kcl1 ks828_0 kcl0) ks828
/-- ColdShod$StrokePlan.addNext(LColdShod$Idea;I)V -/
def kE829 : aE := (83, 3, ([(.ofNat 0, .ofNat 3), (.ofNat 56, .ofNat 341)], [(57, 55, .inl (0, .ofNat 0)), (52, 6, .inl (1, .ofNat 0))], 0, [some (.inr [52]), some (.inr [20, 21, 22, 23, 24, 25, 26, 27]), some (.inl (.inl (.inr (.ofNat 55)))), none, none], []), ([], none), ([], [], none, ([], [])), ([(52, 6), (58, 0), (58, 1), (58, 2), (58, 3), (58, 4), (58, 5), (58, 6)], [54, 55, 56, 57]))
def kC829_0 : aC := (([(.ofNat 0, .ofNat 3), (.ofNat 56, .ofNat 341), (.ofNat 0, .ofNat 4), (.ofNat 56, .ofNat 341)], [(57, 55, .inl (0, .ofNat 0)), (52, 6, .inl (3, .ofNat 0))], 2, [some (.inr [52]), some (.inr [20, 21, 22, 23, 24, 25, 26, 27]), some (.inl (.inl (.inr (.ofNat 55)))), some (.inl (.inl (.inl (2, .ofNat 0)))), none], []), ([], []), (4, [(-1, 2)]))
theorem ks829 : aseg kS krf kB [kE542, kE543] (ksp []) kE829 [kC829_0] 30000 (none) = true := by decide +kernel
theorem ks829_0 : aseg kS krf kB [kE542, kE543] (ksp []) kE829 [kC829_0] 30000 (some kC829_0) = true := by decide +kernel
theorem kok829 : aOK kS krf kB kE829 := aOK_of (kal1 kok542 (kal1 kok543 kal0)) (kcl1 ks829_0 kcl0) ks829
/-- ColdShod$StrokePlan.addNext(LColdShod$Idea;I)V -/
def kE830 : aE := (83, 3, ([(.ofNat 0, .ofNat 3), (.ofNat 55, .ofNat 341)], [(57, 54, .inl (0, .ofNat 0)), (52, 6, .inl (1, .ofNat 0))], 0, [some (.inr [52]), some (.inr [20, 21, 22, 23, 24, 25, 26, 27]), some (.inl (.inl (.inr (.ofNat 54)))), none, none], []), ([], none), ([], [], none, ([], [])), ([(52, 6), (58, 0), (58, 1), (58, 2), (58, 3), (58, 4), (58, 5), (58, 6)], [54, 55, 56, 57]))
def kC830_0 : aC := (([(.ofNat 0, .ofNat 3), (.ofNat 55, .ofNat 341), (.ofNat 0, .ofNat 4), (.ofNat 55, .ofNat 341)], [(57, 54, .inl (0, .ofNat 0)), (52, 6, .inl (3, .ofNat 0))], 2, [some (.inr [52]), some (.inr [20, 21, 22, 23, 24, 25, 26, 27]), some (.inl (.inl (.inr (.ofNat 54)))), some (.inl (.inl (.inl (2, .ofNat 0)))), none], []), ([], []), (4, [(-1, 2)]))
theorem ks830 : aseg kS krf kB [kE542, kE543] (ksp []) kE830 [kC830_0] 30000 (none) = true := by decide +kernel
theorem ks830_0 : aseg kS krf kB [kE542, kE543] (ksp []) kE830 [kC830_0] 30000 (some kC830_0) = true := by decide +kernel
theorem kok830 : aOK kS krf kB kE830 := aOK_of (kal1 kok542 (kal1 kok543 kal0)) (kcl1 ks830_0 kcl0) ks830
/-- ColdShod$StrokePlan.addNext(LColdShod$Idea;I)V -/
def kE831 : aE := (83, 3, ([(.ofNat 0, .ofNat 3), (.ofNat 54, .ofNat 341)], [(57, 53, .inl (0, .ofNat 0)), (52, 6, .inl (1, .ofNat 0))], 0, [some (.inr [52]), some (.inr [20, 21, 22, 23, 24, 25, 26, 27]), some (.inl (.inl (.inr (.ofNat 53)))), none, none], []), ([], none), ([], [], none, ([], [])), ([(52, 6), (58, 0), (58, 1), (58, 2), (58, 3), (58, 4), (58, 5), (58, 6)], [54, 55, 56, 57]))
def kC831_0 : aC := (([(.ofNat 0, .ofNat 3), (.ofNat 54, .ofNat 341), (.ofNat 0, .ofNat 4), (.ofNat 54, .ofNat 341)], [(57, 53, .inl (0, .ofNat 0)), (52, 6, .inl (3, .ofNat 0))], 2, [some (.inr [52]), some (.inr [20, 21, 22, 23, 24, 25, 26, 27]), some (.inl (.inl (.inr (.ofNat 53)))), some (.inl (.inl (.inl (2, .ofNat 0)))), none], []), ([], []), (4, [(-1, 2)]))
theorem ks831 : aseg kS krf kB [kE542, kE543] (ksp []) kE831 [kC831_0] 30000 (none) = true := by decide +kernel
theorem ks831_0 : aseg kS krf kB [kE542, kE543] (ksp []) kE831 [kC831_0] 30000 (some kC831_0) = true := by decide +kernel
theorem kok831 : aOK kS krf kB kE831 := aOK_of (kal1 kok542 (kal1 kok543 kal0)) (kcl1 ks831_0 kcl0) ks831
/-- ColdShod$StrokePlan.addNext(LColdShod$Idea;I)V -/
def kE832 : aE := (83, 3, ([(.ofNat 0, .ofNat 3), (.ofNat 53, .ofNat 341)], [(57, 52, .inl (0, .ofNat 0)), (52, 6, .inl (1, .ofNat 0))], 0, [some (.inr [52]), some (.inr [20, 21, 22, 23, 24, 25, 26, 27]), some (.inl (.inl (.inr (.ofNat 52)))), none, none], []), ([], none), ([], [], none, ([], [])), ([(52, 6), (58, 0), (58, 1), (58, 2), (58, 3), (58, 4), (58, 5), (58, 6)], [54, 55, 56, 57]))
def kC832_0 : aC := (([(.ofNat 0, .ofNat 3), (.ofNat 53, .ofNat 341), (.ofNat 0, .ofNat 4), (.ofNat 53, .ofNat 341)], [(57, 52, .inl (0, .ofNat 0)), (52, 6, .inl (3, .ofNat 0))], 2, [some (.inr [52]), some (.inr [20, 21, 22, 23, 24, 25, 26, 27]), some (.inl (.inl (.inr (.ofNat 52)))), some (.inl (.inl (.inl (2, .ofNat 0)))), none], []), ([], []), (4, [(-1, 2)]))
theorem ks832 : aseg kS krf kB [kE542, kE543] (ksp []) kE832 [kC832_0] 30000 (none) = true := by decide +kernel
theorem ks832_0 : aseg kS krf kB [kE542, kE543] (ksp []) kE832 [kC832_0] 30000 (some kC832_0) = true := by decide +kernel
theorem kok832 : aOK kS krf kB kE832 := aOK_of (kal1 kok542 (kal1 kok543 kal0)) (kcl1 ks832_0 kcl0) ks832
/-- ColdShod$StrokePlan.addNext(LColdShod$Idea;I)V -/
def kE833 : aE := (83, 3, ([(.ofNat 0, .ofNat 3), (.ofNat 52, .ofNat 341)], [(57, 51, .inl (0, .ofNat 0)), (52, 6, .inl (1, .ofNat 0))], 0, [some (.inr [52]), some (.inr [20, 21, 22, 23, 24, 25, 26, 27]), some (.inl (.inl (.inr (.ofNat 51)))), none, none], []), ([], none), ([], [], none, ([], [])), ([(52, 6), (58, 0), (58, 1), (58, 2), (58, 3), (58, 4), (58, 5), (58, 6)], [54, 55, 56, 57]))
def kC833_0 : aC := (([(.ofNat 0, .ofNat 3), (.ofNat 52, .ofNat 341), (.ofNat 0, .ofNat 4), (.ofNat 52, .ofNat 341)], [(57, 51, .inl (0, .ofNat 0)), (52, 6, .inl (3, .ofNat 0))], 2, [some (.inr [52]), some (.inr [20, 21, 22, 23, 24, 25, 26, 27]), some (.inl (.inl (.inr (.ofNat 51)))), some (.inl (.inl (.inl (2, .ofNat 0)))), none], []), ([], []), (4, [(-1, 2)]))
theorem ks833 : aseg kS krf kB [kE542, kE543] (ksp []) kE833 [kC833_0] 30000 (none) = true := by decide +kernel
theorem ks833_0 : aseg kS krf kB [kE542, kE543] (ksp []) kE833 [kC833_0] 30000 (some kC833_0) = true := by decide +kernel
theorem kok833 : aOK kS krf kB kE833 := aOK_of (kal1 kok542 (kal1 kok543 kal0)) (kcl1 ks833_0 kcl0) ks833
