/-! ENTRIES and their checks: printed by a program (wip/ai). -/
/-- ColdShod$StrokePlan.addNext(LColdShod$Idea;I)V -/
def kE834 : aE := (83, 3, ([(.ofNat 0, .ofNat 3), (.ofNat 171, .ofNat 341)], [(57, 170, .inl (0, .ofNat 0)), (52, 6, .inl (1, .ofNat 0))], 0, [some (.inr [52]), some (.inr [20, 21, 22, 23, 24, 25, 26, 27]), some (.inl (.inl (.inr (.ofNat 170)))), none, none], []), ([], none), ([], [], none, ([], [])), ([(52, 6), (58, 0), (58, 1), (58, 2), (58, 3), (58, 4), (58, 5), (58, 6)], [54, 55, 56, 57]))
def kC834_0 : aC := (([(.ofNat 0, .ofNat 3), (.ofNat 171, .ofNat 341), (.ofNat 0, .ofNat 4), (.ofNat 171, .ofNat 341)], [(57, 170, .inl (0, .ofNat 0)), (52, 6, .inl (3, .ofNat 0))], 2, [some (.inr [52]), some (.inr [20, 21, 22, 23, 24, 25, 26, 27]), some (.inl (.inl (.inr (.ofNat 170)))), some (.inl (.inl (.inl (2, .ofNat 0)))), none], []), ([], []), (4, [(-1, 2)]))
theorem ks834 : aseg kS krf kB [kE542, kE543] (ksp []) kE834 [kC834_0] 30000 (none) = true := by decide +kernel
theorem ks834_0 : aseg kS krf kB [kE542, kE543] (ksp []) kE834 [kC834_0] 30000 (some kC834_0) = true := by decide +kernel
theorem kok834 : aOK kS krf kB kE834 := aOK_of (kal1 kok542 (kal1 kok543 kal0)) (kcl1 ks834_0 kcl0) ks834
/-- ColdShod$StrokePlan.addNext(LColdShod$Idea;I)V -/
def kE835 : aE := (83, 3, ([(.ofNat 0, .ofNat 3), (.ofNat 170, .ofNat 341)], [(57, 169, .inl (0, .ofNat 0)), (52, 6, .inl (1, .ofNat 0))], 0, [some (.inr [52]), some (.inr [20, 21, 22, 23, 24, 25, 26, 27]), some (.inl (.inl (.inr (.ofNat 169)))), none, none], []), ([], none), ([], [], none, ([], [])), ([(52, 6), (58, 0), (58, 1), (58, 2), (58, 3), (58, 4), (58, 5), (58, 6)], [54, 55, 56, 57]))
def kC835_0 : aC := (([(.ofNat 0, .ofNat 3), (.ofNat 170, .ofNat 341), (.ofNat 0, .ofNat 4), (.ofNat 170, .ofNat 341)], [(57, 169, .inl (0, .ofNat 0)), (52, 6, .inl (3, .ofNat 0))], 2, [some (.inr [52]), some (.inr [20, 21, 22, 23, 24, 25, 26, 27]), some (.inl (.inl (.inr (.ofNat 169)))), some (.inl (.inl (.inl (2, .ofNat 0)))), none], []), ([], []), (4, [(-1, 2)]))
theorem ks835 : aseg kS krf kB [kE542, kE543] (ksp []) kE835 [kC835_0] 30000 (none) = true := by decide +kernel
theorem ks835_0 : aseg kS krf kB [kE542, kE543] (ksp []) kE835 [kC835_0] 30000 (some kC835_0) = true := by decide +kernel
theorem kok835 : aOK kS krf kB kE835 := aOK_of (kal1 kok542 (kal1 kok543 kal0)) (kcl1 ks835_0 kcl0) ks835
/-- ColdShod$StrokePlan.addNext(LColdShod$Idea;I)V -/
def kE836 : aE := (83, 3, ([(.ofNat 0, .ofNat 3), (.ofNat 169, .ofNat 341)], [(57, 168, .inl (0, .ofNat 0)), (52, 6, .inl (1, .ofNat 0))], 0, [some (.inr [52]), some (.inr [20, 21, 22, 23, 24, 25, 26, 27]), some (.inl (.inl (.inr (.ofNat 168)))), none, none], []), ([], none), ([], [], none, ([], [])), ([(52, 6), (58, 0), (58, 1), (58, 2), (58, 3), (58, 4), (58, 5), (58, 6)], [54, 55, 56, 57]))
def kC836_0 : aC := (([(.ofNat 0, .ofNat 3), (.ofNat 169, .ofNat 341), (.ofNat 0, .ofNat 4), (.ofNat 169, .ofNat 341)], [(57, 168, .inl (0, .ofNat 0)), (52, 6, .inl (3, .ofNat 0))], 2, [some (.inr [52]), some (.inr [20, 21, 22, 23, 24, 25, 26, 27]), some (.inl (.inl (.inr (.ofNat 168)))), some (.inl (.inl (.inl (2, .ofNat 0)))), none], []), ([], []), (4, [(-1, 2)]))
theorem ks836 : aseg kS krf kB [kE542, kE543] (ksp []) kE836 [kC836_0] 30000 (none) = true := by decide +kernel
theorem ks836_0 : aseg kS krf kB [kE542, kE543] (ksp []) kE836 [kC836_0] 30000 (some kC836_0) = true := by decide +kernel
theorem kok836 : aOK kS krf kB kE836 := aOK_of (kal1 kok542 (kal1 kok543 kal0)) (kcl1 ks836_0 kcl0) ks836
/-- ColdShod$StrokePlan.addNext(LColdShod$Idea;I)V -/
def kE837 : aE := (83, 3, ([(.ofNat 0, .ofNat 3), (.ofNat 168, .ofNat 341)], [(57, 167, .inl (0, .ofNat 0)), (52, 6, .inl (1, .ofNat 0))], 0, [some (.inr [52]), some (.inr [20, 21, 22, 23, 24, 25, 26, 27]), some (.inl (.inl (.inr (.ofNat 167)))), none, none], []), ([], none), ([], [], none, ([], [])), ([(52, 6), (58, 0), (58, 1), (58, 2), (58, 3), (58, 4), (58, 5), (58, 6)], [54, 55, 56, 57]))
def kC837_0 : aC := (([(.ofNat 0, .ofNat 3), (.ofNat 168, .ofNat 341), (.ofNat 0, .ofNat 4), (.ofNat 168, .ofNat 341)], [(57, 167, .inl (0, .ofNat 0)), (52, 6, .inl (3, .ofNat 0))], 2, [some (.inr [52]), some (.inr [20, 21, 22, 23, 24, 25, 26, 27]), some (.inl (.inl (.inr (.ofNat 167)))), some (.inl (.inl (.inl (2, .ofNat 0)))), none], []), ([], []), (4, [(-1, 2)]))
theorem ks837 : aseg kS krf kB [kE542, kE543] (ksp []) kE837 [kC837_0] 30000 (none) = true := by decide +kernel
theorem ks837_0 : aseg kS krf kB [kE542, kE543] (ksp []) kE837 [kC837_0] 30000 (some kC837_0) = true := by decide +kernel
theorem kok837 : aOK kS krf kB kE837 := aOK_of (kal1 kok542 (kal1 kok543 kal0)) (kcl1 ks837_0 kcl0) ks837
/-- ColdShod$StrokePlan.addNext(LColdShod$Idea;I)V -/
def kE838 : aE := (83, 3, ([(.ofNat 0, .ofNat 3), (.ofNat 167, .ofNat 341)], [(57, 166, .inl (0, .ofNat 0)), (52, 6, .inl (1, .ofNat 0))], 0, [some (.inr [52]), some (.inr [20, 21, 22, 23, 24, 25, 26, 27]), some (.inl (.inl (.inr (.ofNat 166)))), none, none], []), ([], none), ([], [], none, ([], [])), ([(52, 6), (58, 0), (58, 1), (58, 2), (58, 3), (58, 4), (58, 5), (58, 6)], [54, 55, 56, 57]))
def kC838_0 : aC := (([(.ofNat 0, .ofNat 3), (.ofNat 167, .ofNat 341), (.ofNat 0, .ofNat 4), (.ofNat 167, .ofNat 341)], [(57, 166, .inl (0, .ofNat 0)), (52, 6, .inl (3, .ofNat 0))], 2, [some (.inr [52]), some (.inr [20, 21, 22, 23, 24, 25, 26, 27]), some (.inl (.inl (.inr (.ofNat 166)))), some (.inl (.inl (.inl (2, .ofNat 0)))), none], []), ([], []), (4, [(-1, 2)]))
theorem ks838 : aseg kS krf kB [kE542, kE543] (ksp []) kE838 [kC838_0] 30000 (none) = true := by decide +kernel
theorem ks838_0 : aseg kS krf kB [kE542, kE543] (ksp []) kE838 [kC838_0] 30000 (some kC838_0) = true := by decide +kernel
theorem kok838 : aOK kS krf kB kE838 := aOK_of (kal1 kok542 (kal1 kok543 kal0)) (kcl1 ks838_0 kcl0) ks838
/-- ColdShod$StrokePlan.addNext(LColdShod$Idea;I)V -/
def kE839 : aE := (83, 3, ([(.ofNat 0, .ofNat 3), (.ofNat 166, .ofNat 341)], [(57, 165, .inl (0, .ofNat 0)), (52, 6, .inl (1, .ofNat 0))], 0, [some (.inr [52]), some (.inr [20, 21, 22, 23, 24, 25, 26, 27]), some (.inl (.inl (.inr (.ofNat 165)))), none, none], []), ([], none), ([], [], none, ([], [])), ([(52, 6), (58, 0), (58, 1), (58, 2), (58, 3), (58, 4), (58, 5), (58, 6)], [54, 55, 56, 57]))
def kC839_0 : aC := (([(.ofNat 0, .ofNat 3), (.ofNat 166, .ofNat 341), (.ofNat 0, .ofNat 4), (.ofNat 166, .ofNat 341)], [(57, 165, .inl (0, .ofNat 0)), (52, 6, .inl (3, .ofNat 0))], 2, [some (.inr [52]), some (.inr [20, 21, 22, 23, 24, 25, 26, 27]), some (.inl (.inl (.inr (.ofNat 165)))), some (.inl (.inl (.inl (2, .ofNat 0)))), none], []), ([], []), (4, [(-1, 2)]))
theorem ks839 : aseg kS krf kB [kE542, kE543] (ksp []) kE839 [kC839_0] 30000 (none) = true := by decide +kernel
theorem ks839_0 : aseg kS krf kB [kE542, kE543] (ksp []) kE839 [kC839_0] 30000 (some kC839_0) = true := by decide +kernel
theorem kok839 : aOK kS krf kB kE839 := aOK_of (kal1 kok542 (kal1 kok543 kal0)) (kcl1 ks839_0 kcl0) ks839
/-- ColdShod$StrokePlan.addNext(LColdShod$Idea;I)V -/
def kE840 : aE := (83, 3, ([(.ofNat 0, .ofNat 3), (.ofNat 165, .ofNat 341)], [(57, 164, .inl (0, .ofNat 0)), (52, 6, .inl (1, .ofNat 0))], 0, [some (.inr [52]), some (.inr [20, 21, 22, 23, 24, 25, 26, 27]), some (.inl (.inl (.inr (.ofNat 164)))), none, none], []), ([], none), ([], [], none, ([], [])), ([(52, 6), (58, 0), (58, 1), (58, 2), (58, 3), (58, 4), (58, 5), (58, 6)], [54, 55, 56, 57]))
def kC840_0 : aC := (([(.ofNat 0, .ofNat 3), (.ofNat 165, .ofNat 341), (.ofNat 0, .ofNat 4), (.ofNat 165, .ofNat 341)], [(57, 164, .inl (0, .ofNat 0)), (52, 6, .inl (3, .ofNat 0))], 2, [some (.inr [52]), some (.inr [20, 21, 22, 23, 24, 25, 26, 27]), some (.inl (.inl (.inr (.ofNat 164)))), some (.inl (.inl (.inl (2, .ofNat 0)))), none], []), ([], []), (4, [(-1, 2)]))
theorem ks840 : aseg kS krf kB [kE542, kE543] (ksp []) kE840 [kC840_0] 30000 (none) = true := by decide +kernel
theorem ks840_0 : aseg kS krf kB [kE542, kE543] (ksp []) kE840 [kC840_0] 30000 (some kC840_0) = true := by decide +kernel
theorem kok840 : aOK kS krf kB kE840 := aOK_of (kal1 kok542 (kal1 kok543 kal0)) (kcl1 ks840_0 kcl0) ks840
/-- ColdShod$StrokePlan.addNext(LColdShod$Idea;I)V -/
def kE841 : aE := (83, 3, ([(.ofNat 0, .ofNat 3), (.ofNat 164, .ofNat 341)], [(57, 163, .inl (0, .ofNat 0)), (52, 6, .inl (1, .ofNat 0))], 0, [some (.inr [52]), some (.inr [20, 21, 22, 23, 24, 25, 26, 27]), some (.inl (.inl (.inr (.ofNat 163)))), none, none], []), ([], none), ([], [], none, ([], [])), ([(52, 6), (58, 0), (58, 1), (58, 2), (58, 3), (58, 4), (58, 5), (58, 6)], [54, 55, 56, 57]))
def kC841_0 : aC := (([(.ofNat 0, .ofNat 3), (.ofNat 164, .ofNat 341), (.ofNat 0, .ofNat 4), (.ofNat 164, .ofNat 341)], [(57, 163, .inl (0, .ofNat 0)), (52, 6, .inl (3, .ofNat 0))], 2, [some (.inr [52]), some (.inr [20, 21, 22, 23, 24, 25, 26, 27]), some (.inl (.inl (.inr (.ofNat 163)))), some (.inl (.inl (.inl (2, .ofNat 0)))), none], []), ([], []), (4, [(-1, 2)]))
theorem ks841 : aseg kS krf kB [kE542, kE543] (ksp []) kE841 [kC841_0] 30000 (none) = true := by decide +kernel
theorem ks841_0 : aseg kS krf kB [kE542, kE543] (ksp []) kE841 [kC841_0] 30000 (some kC841_0) = true := by decide +kernel
theorem kok841 : aOK kS krf kB kE841 := aOK_of (kal1 kok542 (kal1 kok543 kal0)) (kcl1 ks841_0 kcl0) ks841
/-- ColdShod$StrokePlan.addNext(LColdShod$Idea;I)V -/
def kE842 : aE := (83, 3, ([(.ofNat 0, .ofNat 3), (.ofNat 163, .ofNat 341)], [(57, 162, .inl (0, .ofNat 0)), (52, 6, .inl (1, .ofNat 0))], 0, [some (.inr [52]), some (.inr [20, 21, 22, 23, 24, 25, 26, 27]), some (.inl (.inl (.inr (.ofNat 162)))), none, none], []), ([], none), ([], [], none, ([], [])), ([(52, 6), (58, 0), (58, 1), (58, 2), (58, 3), (58, 4), (58, 5), (58, 6)], [54, 55, 56, 57]))
def kC842_0 : aC := (([(.ofNat 0, .ofNat 3), (.ofNat 163, .ofNat 341), (.ofNat 0, .ofNat 4), (.ofNat 163, .ofNat 341)], [(57, 162, .inl (0, .ofNat 0)), (52, 6, .inl (3, .ofNat 0))], 2, [some (.inr [52]), some (.inr [20, 21, 22, 23, 24, 25, 26, 27]), some (.inl (.inl (.inr (.ofNat 162)))), some (.inl (.inl (.inl (2, .ofNat 0)))), none], []), ([], []), (4, [(-1, 2)]))
theorem ks842 : aseg kS krf kB [kE542, kE543] (ksp []) kE842 [kC842_0] 30000 (none) = true := by decide +kernel
theorem ks842_0 : aseg kS krf kB [kE542, kE543] (ksp []) kE842 [kC842_0] 30000 (some kC842_0) = true := by decide +kernel
theorem kok842 : aOK kS krf kB kE842 := aOK_of (kal1 kok542 (kal1 kok543 kal0)) (kcl1 ks842_0 kcl0) ks842
/-- ColdShod$StrokePlan.addNext(LColdShod$Idea;I)V -/
def kE843 : aE := (83, 3, ([(.ofNat 0, .ofNat 3), (.ofNat 162, .ofNat 341)], [(57, 161, .inl (0, .ofNat 0)), (52, 6, .inl (1, .ofNat 0))], 0, [some (.inr [52]), some (.inr [20, 21, 22, 23, 24, 25, 26, 27]), some (.inl (.inl (.inr (.ofNat 161)))), none, none], []), ([], none), ([], [], none, ([], [])), ([(52, 6), (58, 0), (58, 1), (58, 2), (58, 3), (58, 4), (58, 5), (58, 6)], [54, 55, 56, 57]))
def kC843_0 : aC := (([(.ofNat 0, .ofNat 3), (.ofNat 162, .ofNat 341), (.ofNat 0, .ofNat 4), (.ofNat 162, .ofNat 341)], [(57, 161, .inl (0, .ofNat 0)), (52, 6, .inl (3, .ofNat 0))], 2, [some (.inr [52]), some (.inr [20, 21, 22, 23, 24, 25, 26, 27]), some (.inl (.inl (.inr (.ofNat 161)))), some (.inl (.inl (.inl (2, .ofNat 0)))), none], []), ([], []), (4, [(-1, 2)]))
theorem ks843 : aseg kS krf kB [kE542, kE543] (ksp []) kE843 [kC843_0] 30000 (none) = true := by decide +kernel
theorem ks843_0 : aseg kS krf kB [kE542, kE543] (ksp []) kE843 [kC843_0] 30000 (some kC843_0) = true := by decide +kernel
theorem kok843 : aOK kS krf kB kE843 := aOK_of (kal1 kok542 (kal1 kok543 kal0)) (kcl1 ks843_0 kcl0) ks843
/-- ColdShod$StrokePlan.addNext(LColdShod$Idea;I)V -/
def kE844 : aE := (83, 3, ([(.ofNat 0, .ofNat 3), (.ofNat 161, .ofNat 341)], [(57, 160, .inl (0, .ofNat 0)), (52, 6, .inl (1, .ofNat 0))], 0, [some (.inr [52]), some (.inr [20, 21, 22, 23, 24, 25, 26, 27]), some (.inl (.inl (.inr (.ofNat 160)))), none, none], []), ([], none), ([], [], none, ([], [])), ([(52, 6), (58, 0), (58, 1), (58, 2), (58, 3), (58, 4), (58, 5), (58, 6)], [54, 55, 56, 57]))
def kC844_0 : aC := (([(.ofNat 0, .ofNat 3), (.ofNat 161, .ofNat 341), (.ofNat 0, .ofNat 4), (.ofNat 161, .ofNat 341)], [(57, 160, .inl (0, .ofNat 0)), (52, 6, .inl (3, .ofNat 0))], 2, [some (.inr [52]), some (.inr [20, 21, 22, 23, 24, 25, 26, 27]), some (.inl (.inl (.inr (.ofNat 160)))), some (.inl (.inl (.inl (2, .ofNat 0)))), none], []), ([], []), (4, [(-1, 2)]))
theorem ks844 : aseg kS krf kB [kE542, kE543] (ksp []) kE844 [kC844_0] 30000 (none) = true := by decide +kernel
theorem ks844_0 : aseg kS krf kB [kE542, kE543] (ksp []) kE844 [kC844_0] 30000 (some kC844_0) = true := by decide +kernel
theorem kok844 : aOK kS krf kB kE844 := aOK_of (kal1 kok542 (kal1 kok543 kal0)) (kcl1 ks844_0 kcl0) ks844
/-- ColdShod$StrokePlan.addNext(LColdShod$Idea;I)V -/
def kE845 : aE := (83, 3, ([(.ofNat 0, .ofNat 3), (.ofNat 160, .ofNat 341)], [(57, 159, .inl (0, .ofNat 0)), (52, 6, .inl (1, .ofNat 0))], 0, [some (.inr [52]), some (.inr [20, 21, 22, 23, 24, 25, 26, 27]), some (.inl (.inl (.inr (.ofNat 159)))), none, none], []), ([], none), ([], [], none, ([], [])), ([(52, 6), (58, 0), (58, 1), (58, 2), (58, 3), (58, 4), (58, 5), (58, 6)], [54, 55, 56, 57]))
def kC845_0 : aC := (([(.ofNat 0, .ofNat 3), (.ofNat 160, .ofNat 341), (.ofNat 0, .ofNat 4), (.ofNat 160, .ofNat 341)], [(57, 159, .inl (0, .ofNat 0)), (52, 6, .inl (3, .ofNat 0))], 2, [some (.inr [52]), some (.inr [20, 21, 22, 23, 24, 25, 26, 27]), some (.inl (.inl (.inr (.ofNat 159)))), some (.inl (.inl (.inl (2, .ofNat 0)))), none], []), ([], []), (4, [(-1, 2)]))
theorem ks845 : aseg kS krf kB [kE542, kE543] (ksp []) kE845 [kC845_0] 30000 (none) = true := by decide +kernel
theorem ks845_0 : aseg kS krf kB [kE542, kE543] (ksp []) kE845 [kC845_0] 30000 (some kC845_0) = true := by decide +kernel
theorem kok845 : aOK kS krf kB kE845 := aOK_of (kal1 kok542 (kal1 kok543 kal0)) (kcl1 ks845_0 kcl0) ks845
/-- ColdShod$StrokePlan.addNext(LColdShod$Idea;I)V -/
def kE846 : aE := (83, 3, ([(.ofNat 0, .ofNat 3), (.ofNat 159, .ofNat 341)], [(57, 158, .inl (0, .ofNat 0)), (52, 6, .inl (1, .ofNat 0))], 0, [some (.inr [52]), some (.inr [20, 21, 22, 23, 24, 25, 26, 27]), some (.inl (.inl (.inr (.ofNat 158)))), none, none], []), ([], none), ([], [], none, ([], [])), ([(52, 6), (58, 0), (58, 1), (58, 2), (58, 3), (58, 4), (58, 5), (58, 6)], [54, 55, 56, 57]))
def kC846_0 : aC := (([(.ofNat 0, .ofNat 3), (.ofNat 159, .ofNat 341), (.ofNat 0, .ofNat 4), (.ofNat 159, .ofNat 341)], [(57, 158, .inl (0, .ofNat 0)), (52, 6, .inl (3, .ofNat 0))], 2, [some (.inr [52]), some (.inr [20, 21, 22, 23, 24, 25, 26, 27]), some (.inl (.inl (.inr (.ofNat 158)))), some (.inl (.inl (.inl (2, .ofNat 0)))), none], []), ([], []), (4, [(-1, 2)]))
theorem ks846 : aseg kS krf kB [kE542, kE543] (ksp []) kE846 [kC846_0] 30000 (none) = true := by decide +kernel
theorem ks846_0 : aseg kS krf kB [kE542, kE543] (ksp []) kE846 [kC846_0] 30000 (some kC846_0) = true := by decide +kernel
theorem kok846 : aOK kS krf kB kE846 := aOK_of (kal1 kok542 (kal1 kok543 kal0)) (kcl1 ks846_0 kcl0) ks846
/-- ColdShod$StrokePlan.addNext(LColdShod$Idea;I)V -/
def kE847 : aE := (83, 3, ([(.ofNat 0, .ofNat 3), (.ofNat 158, .ofNat 341)], [(57, 157, .inl (0, .ofNat 0)), (52, 6, .inl (1, .ofNat 0))], 0, [some (.inr [52]), some (.inr [20, 21, 22, 23, 24, 25, 26, 27]), some (.inl (.inl (.inr (.ofNat 157)))), none, none], []), ([], none), ([], [], none, ([], [])), ([(52, 6), (58, 0), (58, 1), (58, 2), (58, 3), (58, 4), (58, 5), (58, 6)], [54, 55, 56, 57]))
def kC847_0 : aC := (([(.ofNat 0, .ofNat 3), (.ofNat 158, .ofNat 341), (.ofNat 0, .ofNat 4), (.ofNat 158, .ofNat 341)], [(57, 157, .inl (0, .ofNat 0)), (52, 6, .inl (3, .ofNat 0))], 2, [some (.inr [52]), some (.inr [20, 21, 22, 23, 24, 25, 26, 27]), some (.inl (.inl (.inr (.ofNat 157)))), some (.inl (.inl (.inl (2, .ofNat 0)))), none], []), ([], []), (4, [(-1, 2)]))
theorem ks847 : aseg kS krf kB [kE542, kE543] (ksp []) kE847 [kC847_0] 30000 (none) = true := by decide +kernel
theorem ks847_0 : aseg kS krf kB [kE542, kE543] (ksp []) kE847 [kC847_0] 30000 (some kC847_0) = true := by decide +kernel
theorem kok847 : aOK kS krf kB kE847 := aOK_of (kal1 kok542 (kal1 kok543 kal0)) (kcl1 ks847_0 kcl0) ks847
/-- ColdShod$StrokePlan.addNext(LColdShod$Idea;I)V -/
def kE848 : aE := (83, 3, ([(.ofNat 0, .ofNat 3), (.ofNat 157, .ofNat 341)], [(57, 156, .inl (0, .ofNat 0)), (52, 6, .inl (1, .ofNat 0))], 0, [some (.inr [52]), some (.inr [20, 21, 22, 23, 24, 25, 26, 27]), some (.inl (.inl (.inr (.ofNat 156)))), none, none], []), ([], none), ([], [], none, ([], [])), ([(52, 6), (58, 0), (58, 1), (58, 2), (58, 3), (58, 4), (58, 5), (58, 6)], [54, 55, 56, 57]))
def kC848_0 : aC := (([(.ofNat 0, .ofNat 3), (.ofNat 157, .ofNat 341), (.ofNat 0, .ofNat 4), (.ofNat 157, .ofNat 341)], [(57, 156, .inl (0, .ofNat 0)), (52, 6, .inl (3, .ofNat 0))], 2, [some (.inr [52]), some (.inr [20, 21, 22, 23, 24, 25, 26, 27]), some (.inl (.inl (.inr (.ofNat 156)))), some (.inl (.inl (.inl (2, .ofNat 0)))), none], []), ([], []), (4, [(-1, 2)]))
theorem ks848 : aseg kS krf kB [kE542, kE543] (ksp []) kE848 [kC848_0] 30000 (none) = true := by decide +kernel
theorem ks848_0 : aseg kS krf kB [kE542, kE543] (ksp []) kE848 [kC848_0] 30000 (some kC848_0) = true := by decide +kernel
theorem kok848 : aOK kS krf kB kE848 := aOK_of (kal1 kok542 (kal1 kok543 kal0)) (kcl1 ks848_0 kcl0) ks848
/-- ColdShod$StrokePlan.addNext(LColdShod$Idea;I)V -/
def kE849 : aE := (83, 3, ([(.ofNat 0, .ofNat 3), (.ofNat 156, .ofNat 341)], [(57, 155, .inl (0, .ofNat 0)), (52, 6, .inl (1, .ofNat 0))], 0, [some (.inr [52]), some (.inr [20, 21, 22, 23, 24, 25, 26, 27]), some (.inl (.inl (.inr (.ofNat 155)))), none, none], []), ([], none), ([], [], none, ([], [])), ([(52, 6), (58, 0), (58, 1), (58, 2), (58, 3), (58, 4), (58, 5), (58, 6)], [54, 55, 56, 57]))
def kC849_0 : aC := (([(.ofNat 0, .ofNat 3), (.ofNat 156, .ofNat 341), (.ofNat 0, .ofNat 4), (.ofNat 156, .ofNat 341)], [(57, 155, .inl (0, .ofNat 0)), (52, 6, .inl (3, .ofNat 0))], 2, [some (.inr [52]), some (.inr [20, 21, 22, 23, 24, 25, 26, 27]), some (.inl (.inl (.inr (.ofNat 155)))), some (.inl (.inl (.inl (2, .ofNat 0)))), none], []), ([], []), (4, [(-1, 2)]))
theorem ks849 : aseg kS krf kB [kE542, kE543] (ksp []) kE849 [kC849_0] 30000 (none) = true := by decide +kernel
theorem ks849_0 : aseg kS krf kB [kE542, kE543] (ksp []) kE849 [kC849_0] 30000 (some kC849_0) = true := by decide +kernel
theorem kok849 : aOK kS krf kB kE849 := aOK_of (kal1 kok542 (kal1 kok543 kal0)) (kcl1 ks849_0 kcl0) ks849
/-- ColdShod$StrokePlan.addNext(LColdShod$Idea;I)V -/
def kE850 : aE := (83, 3, ([(.ofNat 0, .ofNat 3), (.ofNat 155, .ofNat 341)], [(57, 154, .inl (0, .ofNat 0)), (52, 6, .inl (1, .ofNat 0))], 0, [some (.inr [52]), some (.inr [20, 21, 22, 23, 24, 25, 26, 27]), some (.inl (.inl (.inr (.ofNat 154)))), none, none], []), ([], none), ([], [], none, ([], [])), ([(52, 6), (58, 0), (58, 1), (58, 2), (58, 3), (58, 4), (58, 5), (58, 6)], [54, 55, 56, 57]))
def kC850_0 : aC := (([(.ofNat 0, .ofNat 3), (.ofNat 155, .ofNat 341), (.ofNat 0, .ofNat 4), (.ofNat 155, .ofNat 341)], [(57, 154, .inl (0, .ofNat 0)), (52, 6, .inl (3, .ofNat 0))], 2, [some (.inr [52]), some (.inr [20, 21, 22, 23, 24, 25, 26, 27]), some (.inl (.inl (.inr (.ofNat 154)))), some (.inl (.inl (.inl (2, .ofNat 0)))), none], []), ([], []), (4, [(-1, 2)]))
theorem ks850 : aseg kS krf kB [kE542, kE543] (ksp []) kE850 [kC850_0] 30000 (none) = true := by decide +kernel
theorem ks850_0 : aseg kS krf kB [kE542, kE543] (ksp []) kE850 [kC850_0] 30000 (some kC850_0) = true := by decide +kernel
theorem kok850 : aOK kS krf kB kE850 := aOK_of (kal1 kok542 (kal1 kok543 kal0)) (kcl1 ks850_0 kcl0) ks850
/-- ColdShod$StrokePlan.addNext(LColdShod$Idea;I)V -/
def kE851 : aE := (83, 3, ([(.ofNat 0, .ofNat 3), (.ofNat 154, .ofNat 341)], [(57, 153, .inl (0, .ofNat 0)), (52, 6, .inl (1, .ofNat 0))], 0, [some (.inr [52]), some (.inr [20, 21, 22, 23, 24, 25, 26, 27]), some (.inl (.inl (.inr (.ofNat 153)))), none, none], []), ([], none), ([], [], none, ([], [])), ([(52, 6), (58, 0), (58, 1), (58, 2), (58, 3), (58, 4), (58, 5), (58, 6)], [54, 55, 56, 57]))
def kC851_0 : aC := (([(.ofNat 0, .ofNat 3), (.ofNat 154, .ofNat 341), (.ofNat 0, .ofNat 4), (.ofNat 154, .ofNat 341)], [(57, 153, .inl (0, .ofNat 0)), (52, 6, .inl (3, .ofNat 0))], 2, [some (.inr [52]), some (.inr [20, 21, 22, 23, 24, 25, 26, 27]), some (.inl (.inl (.inr (.ofNat 153)))), some (.inl (.inl (.inl (2, .ofNat 0)))), none], []), ([], []), (4, [(-1, 2)]))
theorem ks851 : aseg kS krf kB [kE542, kE543] (ksp []) kE851 [kC851_0] 30000 (none) = true := by decide +kernel
theorem ks851_0 : aseg kS krf kB [kE542, kE543] (ksp []) kE851 [kC851_0] 30000 (some kC851_0) = true := by decide +kernel
theorem kok851 : aOK kS krf kB kE851 := aOK_of (kal1 kok542 (kal1 kok543 kal0)) (kcl1 ks851_0 kcl0) ks851
/-- ColdShod$StrokePlan.addNext(LColdShod$Idea;I)V -/
def kE852 : aE := (83, 3, ([(.ofNat 0, .ofNat 3), (.ofNat 153, .ofNat 341)], [(57, 152, .inl (0, .ofNat 0)), (52, 6, .inl (1, .ofNat 0))], 0, [some (.inr [52]), some (.inr [20, 21, 22, 23, 24, 25, 26, 27]), some (.inl (.inl (.inr (.ofNat 152)))), none, none], []), ([], none), ([], [], none, ([], [])), ([(52, 6), (58, 0), (58, 1), (58, 2), (58, 3), (58, 4), (58, 5), (58, 6)], [54, 55, 56, 57]))
def kC852_0 : aC := (([(.ofNat 0, .ofNat 3), (.ofNat 153, .ofNat 341), (.ofNat 0, .ofNat 4), (.ofNat 153, .ofNat 341)], [(57, 152, .inl (0, .ofNat 0)), (52, 6, .inl (3, .ofNat 0))], 2, [some (.inr [52]), some (.inr [20, 21, 22, 23, 24, 25, 26, 27]), some (.inl (.inl (.inr (.ofNat 152)))), some (.inl (.inl (.inl (2, .ofNat 0)))), none], []), ([], []), (4, [(-1, 2)]))
theorem ks852 : aseg kS krf kB [kE542, kE543] (ksp []) kE852 [kC852_0] 30000 (none) = true := by decide +kernel
theorem ks852_0 : aseg kS krf kB [kE542, kE543] (ksp []) kE852 [kC852_0] 30000 (some kC852_0) = true := by decide +kernel
theorem kok852 : aOK kS krf kB kE852 := aOK_of (kal1 kok542 (kal1 kok543 kal0)) (kcl1 ks852_0 kcl0) ks852
/-- ColdShod$StrokePlan.addNext(LColdShod$Idea;I)V -/
def kE853 : aE := (83, 3, ([(.ofNat 0, .ofNat 3), (.ofNat 152, .ofNat 341)], [(57, 151, .inl (0, .ofNat 0)), (52, 6, .inl (1, .ofNat 0))], 0, [some (.inr [52]), some (.inr [20, 21, 22, 23, 24, 25, 26, 27]), some (.inl (.inl (.inr (.ofNat 151)))), none, none], []), ([], none), ([], [], none, ([], [])), ([(52, 6), (58, 0), (58, 1), (58, 2), (58, 3), (58, 4), (58, 5), (58, 6)], [54, 55, 56, 57]))
def kC853_0 : aC := (([(.ofNat 0, .ofNat 3), (.ofNat 152, .ofNat 341), (.ofNat 0, .ofNat 4), (.ofNat 152, .ofNat 341)], [(57, 151, .inl (0, .ofNat 0)), (52, 6, .inl (3, .ofNat 0))], 2, [some (.inr [52]), some (.inr [20, 21, 22, 23, 24, 25, 26, 27]), some (.inl (.inl (.inr (.ofNat 151)))), some (.inl (.inl (.inl (2, .ofNat 0)))), none], []), ([], []), (4, [(-1, 2)]))
theorem ks853 : aseg kS krf kB [kE542, kE543] (ksp []) kE853 [kC853_0] 30000 (none) = true := by decide +kernel
theorem ks853_0 : aseg kS krf kB [kE542, kE543] (ksp []) kE853 [kC853_0] 30000 (some kC853_0) = true := by decide +kernel
theorem kok853 : aOK kS krf kB kE853 := aOK_of (kal1 kok542 (kal1 kok543 kal0)) (kcl1 ks853_0 kcl0) ks853
/-- ColdShod$StrokePlan.addNext(LColdShod$Idea;I)V -/
def kE854 : aE := (83, 3, ([(.ofNat 0, .ofNat 3), (.ofNat 151, .ofNat 341)], [(57, 150, .inl (0, .ofNat 0)), (52, 6, .inl (1, .ofNat 0))], 0, [some (.inr [52]), some (.inr [20, 21, 22, 23, 24, 25, 26, 27]), some (.inl (.inl (.inr (.ofNat 150)))), none, none], []), ([], none), ([], [], none, ([], [])), ([(52, 6), (58, 0), (58, 1), (58, 2), (58, 3), (58, 4), (58, 5), (58, 6)], [54, 55, 56, 57]))
def kC854_0 : aC := (([(.ofNat 0, .ofNat 3), (.ofNat 151, .ofNat 341), (.ofNat 0, .ofNat 4), (.ofNat 151, .ofNat 341)], [(57, 150, .inl (0, .ofNat 0)), (52, 6, .inl (3, .ofNat 0))], 2, [some (.inr [52]), some (.inr [20, 21, 22, 23, 24, 25, 26, 27]), some (.inl (.inl (.inr (.ofNat 150)))), some (.inl (.inl (.inl (2, .ofNat 0)))), none], []), ([], []), (4, [(-1, 2)]))
theorem ks854 : aseg kS krf kB [kE542, kE543] (ksp []) kE854 [kC854_0] 30000 (none) = true := by decide +kernel
theorem ks854_0 : aseg kS krf kB [kE542, kE543] (ksp []) kE854 [kC854_0] 30000 (some kC854_0) = true := by decide +kernel
theorem kok854 : aOK kS krf kB kE854 := aOK_of (kal1 kok542 (kal1 kok543 kal0)) (kcl1 ks854_0 kcl0) ks854
/-- ColdShod$StrokePlan.addNext(LColdShod$Idea;I)V -/
def kE855 : aE := (83, 3, ([(.ofNat 0, .ofNat 3), (.ofNat 150, .ofNat 341)], [(57, 149, .inl (0, .ofNat 0)), (52, 6, .inl (1, .ofNat 0))], 0, [some (.inr [52]), some (.inr [20, 21, 22, 23, 24, 25, 26, 27]), some (.inl (.inl (.inr (.ofNat 149)))), none, none], []), ([], none), ([], [], none, ([], [])), ([(52, 6), (58, 0), (58, 1), (58, 2), (58, 3), (58, 4), (58, 5), (58, 6)], [54, 55, 56, 57]))
def kC855_0 : aC := (([(.ofNat 0, .ofNat 3), (.ofNat 150, .ofNat 341), (.ofNat 0, .ofNat 4), (.ofNat 150, .ofNat 341)], [(57, 149, .inl (0, .ofNat 0)), (52, 6, .inl (3, .ofNat 0))], 2, [some (.inr [52]), some (.inr [20, 21, 22, 23, 24, 25, 26, 27]), some (.inl (.inl (.inr (.ofNat 149)))), some (.inl (.inl (.inl (2, .ofNat 0)))), none], []), ([], []), (4, [(-1, 2)]))
theorem ks855 : aseg kS krf kB [kE542, kE543] (ksp []) kE855 [kC855_0] 30000 (none) = true := by decide +kernel
theorem ks855_0 : aseg kS krf kB [kE542, kE543] (ksp []) kE855 [kC855_0] 30000 (some kC855_0) = true := by decide +kernel
theorem kok855 : aOK kS krf kB kE855 := aOK_of (kal1 kok542 (kal1 kok543 kal0)) (kcl1 ks855_0 kcl0) ks855
/-- ColdShod$StrokePlan.addNext(LColdShod$Idea;I)V -/
def kE856 : aE := (83, 3, ([(.ofNat 0, .ofNat 3), (.ofNat 149, .ofNat 341)], [(57, 148, .inl (0, .ofNat 0)), (52, 6, .inl (1, .ofNat 0))], 0, [some (.inr [52]), some (.inr [20, 21, 22, 23, 24, 25, 26, 27]), some (.inl (.inl (.inr (.ofNat 148)))), none, none], []), ([], none), ([], [], none, ([], [])), ([(52, 6), (58, 0), (58, 1), (58, 2), (58, 3), (58, 4), (58, 5), (58, 6)], [54, 55, 56, 57]))
def kC856_0 : aC := (([(.ofNat 0, .ofNat 3), (.ofNat 149, .ofNat 341), (.ofNat 0, .ofNat 4), (.ofNat 149, .ofNat 341)], [(57, 148, .inl (0, .ofNat 0)), (52, 6, .inl (3, .ofNat 0))], 2, [some (.inr [52]), some (.inr [20, 21, 22, 23, 24, 25, 26, 27]), some (.inl (.inl (.inr (.ofNat 148)))), some (.inl (.inl (.inl (2, .ofNat 0)))), none], []), ([], []), (4, [(-1, 2)]))
theorem ks856 : aseg kS krf kB [kE542, kE543] (ksp []) kE856 [kC856_0] 30000 (none) = true := by decide +kernel
theorem ks856_0 : aseg kS krf kB [kE542, kE543] (ksp []) kE856 [kC856_0] 30000 (some kC856_0) = true := by decide +kernel
theorem kok856 : aOK kS krf kB kE856 := aOK_of (kal1 kok542 (kal1 kok543 kal0)) (kcl1 ks856_0 kcl0) ks856
/-- ColdShod$StrokePlan.addNext(LColdShod$Idea;I)V -/
def kE857 : aE := (83, 3, ([(.ofNat 0, .ofNat 3), (.ofNat 148, .ofNat 341)], [(57, 147, .inl (0, .ofNat 0)), (52, 6, .inl (1, .ofNat 0))], 0, [some (.inr [52]), some (.inr [20, 21, 22, 23, 24, 25, 26, 27]), some (.inl (.inl (.inr (.ofNat 147)))), none, none], []), ([], none), ([], [], none, ([], [])), ([(52, 6), (58, 0), (58, 1), (58, 2), (58, 3), (58, 4), (58, 5), (58, 6)], [54, 55, 56, 57]))
def kC857_0 : aC := (([(.ofNat 0, .ofNat 3), (.ofNat 148, .ofNat 341), (.ofNat 0, .ofNat 4), (.ofNat 148, .ofNat 341)], [(57, 147, .inl (0, .ofNat 0)), (52, 6, .inl (3, .ofNat 0))], 2, [some (.inr [52]), some (.inr [20, 21, 22, 23, 24, 25, 26, 27]), some (.inl (.inl (.inr (.ofNat 147)))), some (.inl (.inl (.inl (2, .ofNat 0)))), none], []), ([], []), (4, [(-1, 2)]))
theorem ks857 : aseg kS krf kB [kE542, kE543] (ksp []) kE857 [kC857_0] 30000 (none) = true := by decide +kernel
theorem ks857_0 : aseg kS krf kB [kE542, kE543] (ksp []) kE857 [kC857_0] 30000 (some kC857_0) = true := by decide +kernel
theorem kok857 : aOK kS krf kB kE857 := aOK_of (kal1 kok542 (kal1 kok543 kal0)) (kcl1 ks857_0 kcl0) ks857
/-- ColdShod$StrokePlan.addNext(LColdShod$Idea;I)V -/
def kE858 : aE := (83, 3, ([(.ofNat 0, .ofNat 3), (.ofNat 147, .ofNat 341)], [(57, 146, .inl (0, .ofNat 0)), (52, 6, .inl (1, .ofNat 0))], 0, [some (.inr [52]), some (.inr [20, 21, 22, 23, 24, 25, 26, 27]), some (.inl (.inl (.inr (.ofNat 146)))), none, none], []), ([], none), ([], [], none, ([], [])), ([(52, 6), (58, 0), (58, 1), (58, 2), (58, 3), (58, 4), (58, 5), (58, 6)], [54, 55, 56, 57]))
def kC858_0 : aC := (([(.ofNat 0, .ofNat 3), (.ofNat 147, .ofNat 341), (.ofNat 0, .ofNat 4), (.ofNat 147, .ofNat 341)], [(57, 146, .inl (0, .ofNat 0)), (52, 6, .inl (3, .ofNat 0))], 2, [some (.inr [52]), some (.inr [20, 21, 22, 23, 24, 25, 26, 27]), some (.inl (.inl (.inr (.ofNat 146)))), some (.inl (.inl (.inl (2, .ofNat 0)))), none], []), ([], []), (4, [(-1, 2)]))
theorem ks858 : aseg kS krf kB [kE542, kE543] (ksp []) kE858 [kC858_0] 30000 (none) = true := by decide +kernel
theorem ks858_0 : aseg kS krf kB [kE542, kE543] (ksp []) kE858 [kC858_0] 30000 (some kC858_0) = true := by decide +kernel
theorem kok858 : aOK kS krf kB kE858 := aOK_of (kal1 kok542 (kal1 kok543 kal0)) (kcl1 ks858_0 kcl0) ks858
/-- ColdShod$StrokePlan.addNext(LColdShod$Idea;I)V -/
def kE859 : aE := (83, 3, ([(.ofNat 0, .ofNat 3), (.ofNat 146, .ofNat 341)], [(57, 145, .inl (0, .ofNat 0)), (52, 6, .inl (1, .ofNat 0))], 0, [some (.inr [52]), some (.inr [20, 21, 22, 23, 24, 25, 26, 27]), some (.inl (.inl (.inr (.ofNat 145)))), none, none], []), ([], none), ([], [], none, ([], [])), ([(52, 6), (58, 0), (58, 1), (58, 2), (58, 3), (58, 4), (58, 5), (58, 6)], [54, 55, 56, 57]))
def kC859_0 : aC := (([(.ofNat 0, .ofNat 3), (.ofNat 146, .ofNat 341), (.ofNat 0, .ofNat 4), (.ofNat 146, .ofNat 341)], [(57, 145, .inl (0, .ofNat 0)), (52, 6, .inl (3, .ofNat 0))], 2, [some (.inr [52]), some (.inr [20, 21, 22, 23, 24, 25, 26, 27]), some (.inl (.inl (.inr (.ofNat 145)))), some (.inl (.inl (.inl (2, .ofNat 0)))), none], []), ([], []), (4, [(-1, 2)]))
theorem ks859 : aseg kS krf kB [kE542, kE543] (ksp []) kE859 [kC859_0] 30000 (none) = true := by decide +kernel
theorem ks859_0 : aseg kS krf kB [kE542, kE543] (ksp []) kE859 [kC859_0] 30000 (some kC859_0) = true := by decide +kernel
theorem kok859 : aOK kS krf kB kE859 := aOK_of (kal1 kok542 (kal1 kok543 kal0)) (kcl1 ks859_0 kcl0) ks859
/-- ColdShod$StrokePlan.addNext(LColdShod$Idea;I)V -/
def kE860 : aE := (83, 3, ([(.ofNat 0, .ofNat 3), (.ofNat 145, .ofNat 341)], [(57, 144, .inl (0, .ofNat 0)), (52, 6, .inl (1, .ofNat 0))], 0, [some (.inr [52]), some (.inr [20, 21, 22, 23, 24, 25, 26, 27]), some (.inl (.inl (.inr (.ofNat 144)))), none, none], []), ([], none), ([], [], none, ([], [])), ([(52, 6), (58, 0), (58, 1), (58, 2), (58, 3), (58, 4), (58, 5), (58, 6)], [54, 55, 56, 57]))
def kC860_0 : aC := (([(.ofNat 0, .ofNat 3), (.ofNat 145, .ofNat 341), (.ofNat 0, .ofNat 4), (.ofNat 145, .ofNat 341)], [(57, 144, .inl (0, .ofNat 0)), (52, 6, .inl (3, .ofNat 0))], 2, [some (.inr [52]), some (.inr [20, 21, 22, 23, 24, 25, 26, 27]), some (.inl (.inl (.inr (.ofNat 144)))), some (.inl (.inl (.inl (2, .ofNat 0)))), none], []), ([], []), (4, [(-1, 2)]))
theorem ks860 : aseg kS krf kB [kE542, kE543] (ksp []) kE860 [kC860_0] 30000 (none) = true := by decide +kernel
theorem ks860_0 : aseg kS krf kB [kE542, kE543] (ksp []) kE860 [kC860_0] 30000 (some kC860_0) = true := by decide +kernel
theorem kok860 : aOK kS krf kB kE860 := aOK_of (kal1 kok542 (kal1 kok543 kal0)) (kcl1 ks860_0 kcl0) ks860
/-- ColdShod$StrokePlan.addNext(LColdShod$Idea;I)V -/
def kE861 : aE := (83, 3, ([(.ofNat 0, .ofNat 3), (.ofNat 144, .ofNat 341)], [(57, 143, .inl (0, .ofNat 0)), (52, 6, .inl (1, .ofNat 0))], 0, [some (.inr [52]), some (.inr [20, 21, 22, 23, 24, 25, 26, 27]), some (.inl (.inl (.inr (.ofNat 143)))), none, none], []), ([], none), ([], [], none, ([], [])), ([(52, 6), (58, 0), (58, 1), (58, 2), (58, 3), (58, 4), (58, 5), (58, 6)], [54, 55, 56, 57]))
def kC861_0 : aC := (([(.ofNat 0, .ofNat 3), (.ofNat 144, .ofNat 341), (.ofNat 0, .ofNat 4), (.ofNat 144, .ofNat 341)], [(57, 143, .inl (0, .ofNat 0)), (52, 6, .inl (3, .ofNat 0))], 2, [some (.inr [52]), some (.inr [20, 21, 22, 23, 24, 25, 26, 27]), some (.inl (.inl (.inr (.ofNat 143)))), some (.inl (.inl (.inl (2, .ofNat 0)))), none], []), ([], []), (4, [(-1, 2)]))
theorem ks861 : aseg kS krf kB [kE542, kE543] (ksp []) kE861 [kC861_0] 30000 (none) = true := by decide +kernel
theorem ks861_0 : aseg kS krf kB [kE542, kE543] (ksp []) kE861 [kC861_0] 30000 (some kC861_0) = true := by decide +kernel
theorem kok861 : aOK kS krf kB kE861 := aOK_of (kal1 kok542 (kal1 kok543 kal0)) (kcl1 ks861_0 kcl0) ks861
/-- ColdShod$StrokePlan.addNext(LColdShod$Idea;I)V -/
def kE862 : aE := (83, 3, ([(.ofNat 0, .ofNat 3), (.ofNat 143, .ofNat 341)], [(57, 142, .inl (0, .ofNat 0)), (52, 6, .inl (1, .ofNat 0))], 0, [some (.inr [52]), some (.inr [20, 21, 22, 23, 24, 25, 26, 27]), some (.inl (.inl (.inr (.ofNat 142)))), none, none], []), ([], none), ([], [], none, ([], [])), ([(52, 6), (58, 0), (58, 1), (58, 2), (58, 3), (58, 4), (58, 5), (58, 6)], [54, 55, 56, 57]))
def kC862_0 : aC := (([(.ofNat 0, .ofNat 3), (.ofNat 143, .ofNat 341), (.ofNat 0, .ofNat 4), (.ofNat 143, .ofNat 341)], [(57, 142, .inl (0, .ofNat 0)), (52, 6, .inl (3, .ofNat 0))], 2, [some (.inr [52]), some (.inr [20, 21, 22, 23, 24, 25, 26, 27]), some (.inl (.inl (.inr (.ofNat 142)))), some (.inl (.inl (.inl (2, .ofNat 0)))), none], []), ([], []), (4, [(-1, 2)]))
theorem ks862 : aseg kS krf kB [kE542, kE543] (ksp []) kE862 [kC862_0] 30000 (none) = true := by decide +kernel
theorem ks862_0 : aseg kS krf kB [kE542, kE543] (ksp []) kE862 [kC862_0] 30000 (some kC862_0) = true := by decide +kernel
theorem kok862 : aOK kS krf kB kE862 := aOK_of (kal1 kok542 (kal1 kok543 kal0)) (kcl1 ks862_0 kcl0) ks862
/-- ColdShod$StrokePlan.addNext(LColdShod$Idea;I)V -/
def kE863 : aE := (83, 3, ([(.ofNat 0, .ofNat 3), (.ofNat 142, .ofNat 341)], [(57, 141, .inl (0, .ofNat 0)), (52, 6, .inl (1, .ofNat 0))], 0, [some (.inr [52]), some (.inr [20, 21, 22, 23, 24, 25, 26, 27]), some (.inl (.inl (.inr (.ofNat 141)))), none, none], []), ([], none), ([], [], none, ([], [])), ([(52, 6), (58, 0), (58, 1), (58, 2), (58, 3), (58, 4), (58, 5), (58, 6)], [54, 55, 56, 57]))
def kC863_0 : aC := (([(.ofNat 0, .ofNat 3), (.ofNat 142, .ofNat 341), (.ofNat 0, .ofNat 4), (.ofNat 142, .ofNat 341)], [(57, 141, .inl (0, .ofNat 0)), (52, 6, .inl (3, .ofNat 0))], 2, [some (.inr [52]), some (.inr [20, 21, 22, 23, 24, 25, 26, 27]), some (.inl (.inl (.inr (.ofNat 141)))), some (.inl (.inl (.inl (2, .ofNat 0)))), none], []), ([], []), (4, [(-1, 2)]))
theorem ks863 : aseg kS krf kB [kE542, kE543] (ksp []) kE863 [kC863_0] 30000 (none) = true := by decide +kernel
theorem ks863_0 : aseg kS krf kB [kE542, kE543] (ksp []) kE863 [kC863_0] 30000 (some kC863_0) = true := by decide +kernel
theorem kok863 : aOK kS krf kB kE863 := aOK_of (kal1 kok542 (kal1 kok543 kal0)) (kcl1 ks863_0 kcl0) ks863
/-- ColdShod$StrokePlan.addNext(LColdShod$Idea;I)V -/
def kE864 : aE := (83, 3, ([(.ofNat 0, .ofNat 3), (.ofNat 141, .ofNat 341)], [(57, 140, .inl (0, .ofNat 0)), (52, 6, .inl (1, .ofNat 0))], 0, [some (.inr [52]), some (.inr [20, 21, 22, 23, 24, 25, 26, 27]), some (.inl (.inl (.inr (.ofNat 140)))), none, none], []), ([], none), ([], [], none, ([], [])), ([(52, 6), (58, 0), (58, 1), (58, 2), (58, 3), (58, 4), (58, 5), (58, 6)], [54, 55, 56, 57]))
def kC864_0 : aC := (([(.ofNat 0, .ofNat 3), (.ofNat 141, .ofNat 341), (.ofNat 0, .ofNat 4), (.ofNat 141, .ofNat 341)], [(57, 140, .inl (0, .ofNat 0)), (52, 6, .inl (3, .ofNat 0))], 2, [some (.inr [52]), some (.inr [20, 21, 22, 23, 24, 25, 26, 27]), some (.inl (.inl (.inr (.ofNat 140)))), some (.inl (.inl (.inl (2, .ofNat 0)))), none], []), ([], []), (4, [(-1, 2)]))
theorem ks864 : aseg kS krf kB [kE542, kE543] (ksp []) kE864 [kC864_0] 30000 (none) = true := by decide +kernel
theorem ks864_0 : aseg kS krf kB [kE542, kE543] (ksp []) kE864 [kC864_0] 30000 (some kC864_0) = true := by decide +kernel
theorem kok864 : aOK kS krf kB kE864 := aOK_of (kal1 kok542 (kal1 kok543 kal0)) (kcl1 ks864_0 kcl0) ks864
/-- ColdShod$StrokePlan.addNext(LColdShod$Idea;I)V -/
def kE865 : aE := (83, 3, ([(.ofNat 0, .ofNat 3), (.ofNat 140, .ofNat 341)], [(57, 139, .inl (0, .ofNat 0)), (52, 6, .inl (1, .ofNat 0))], 0, [some (.inr [52]), some (.inr [20, 21, 22, 23, 24, 25, 26, 27]), some (.inl (.inl (.inr (.ofNat 139)))), none, none], []), ([], none), ([], [], none, ([], [])), ([(52, 6), (58, 0), (58, 1), (58, 2), (58, 3), (58, 4), (58, 5), (58, 6)], [54, 55, 56, 57]))
def kC865_0 : aC := (([(.ofNat 0, .ofNat 3), (.ofNat 140, .ofNat 341), (.ofNat 0, .ofNat 4), (.ofNat 140, .ofNat 341)], [(57, 139, .inl (0, .ofNat 0)), (52, 6, .inl (3, .ofNat 0))], 2, [some (.inr [52]), some (.inr [20, 21, 22, 23, 24, 25, 26, 27]), some (.inl (.inl (.inr (.ofNat 139)))), some (.inl (.inl (.inl (2, .ofNat 0)))), none], []), ([], []), (4, [(-1, 2)]))
theorem ks865 : aseg kS krf kB [kE542, kE543] (ksp []) kE865 [kC865_0] 30000 (none) = true := by decide +kernel
theorem ks865_0 : aseg kS krf kB [kE542, kE543] (ksp []) kE865 [kC865_0] 30000 (some kC865_0) = true := by decide +kernel
theorem kok865 : aOK kS krf kB kE865 := aOK_of (kal1 kok542 (kal1 kok543 kal0)) (kcl1 ks865_0 kcl0) ks865
/-- ColdShod$StrokePlan.addNext(LColdShod$Idea;I)V -/
def kE866 : aE := (83, 3, ([(.ofNat 0, .ofNat 3), (.ofNat 139, .ofNat 341)], [(57, 138, .inl (0, .ofNat 0)), (52, 6, .inl (1, .ofNat 0))], 0, [some (.inr [52]), some (.inr [20, 21, 22, 23, 24, 25, 26, 27]), some (.inl (.inl (.inr (.ofNat 138)))), none, none], []), ([], none), ([], [], none, ([], [])), ([(52, 6), (58, 0), (58, 1), (58, 2), (58, 3), (58, 4), (58, 5), (58, 6)], [54, 55, 56, 57]))
def kC866_0 : aC := (([(.ofNat 0, .ofNat 3), (.ofNat 139, .ofNat 341), (.ofNat 0, .ofNat 4), (.ofNat 139, .ofNat 341)], [(57, 138, .inl (0, .ofNat 0)), (52, 6, .inl (3, .ofNat 0))], 2, [some (.inr [52]), some (.inr [20, 21, 22, 23, 24, 25, 26, 27]), some (.inl (.inl (.inr (.ofNat 138)))), some (.inl (.inl (.inl (2, .ofNat 0)))), none], []), ([], []), (4, [(-1, 2)]))
theorem ks866 : aseg kS krf kB [kE542, kE543] (ksp []) kE866 [kC866_0] 30000 (none) = true := by decide +kernel
theorem ks866_0 : aseg kS krf kB [kE542, kE543] (ksp []) kE866 [kC866_0] 30000 (some kC866_0) = true := by decide +kernel
theorem kok866 : aOK kS krf kB kE866 := aOK_of (kal1 kok542 (kal1 kok543 kal0)) (kcl1 ks866_0 kcl0) ks866
/-- ColdShod$StrokePlan.addNext(LColdShod$Idea;I)V -/
def kE867 : aE := (83, 3, ([(.ofNat 0, .ofNat 3), (.ofNat 138, .ofNat 341)], [(57, 137, .inl (0, .ofNat 0)), (52, 6, .inl (1, .ofNat 0))], 0, [some (.inr [52]), some (.inr [20, 21, 22, 23, 24, 25, 26, 27]), some (.inl (.inl (.inr (.ofNat 137)))), none, none], []), ([], none), ([], [], none, ([], [])), ([(52, 6), (58, 0), (58, 1), (58, 2), (58, 3), (58, 4), (58, 5), (58, 6)], [54, 55, 56, 57]))
def kC867_0 : aC := (([(.ofNat 0, .ofNat 3), (.ofNat 138, .ofNat 341), (.ofNat 0, .ofNat 4), (.ofNat 138, .ofNat 341)], [(57, 137, .inl (0, .ofNat 0)), (52, 6, .inl (3, .ofNat 0))], 2, [some (.inr [52]), some (.inr [20, 21, 22, 23, 24, 25, 26, 27]), some (.inl (.inl (.inr (.ofNat 137)))), some (.inl (.inl (.inl (2, .ofNat 0)))), none], []), ([], []), (4, [(-1, 2)]))
theorem ks867 : aseg kS krf kB [kE542, kE543] (ksp []) kE867 [kC867_0] 30000 (none) = true := by decide +kernel
theorem ks867_0 : aseg kS krf kB [kE542, kE543] (ksp []) kE867 [kC867_0] 30000 (some kC867_0) = true := by decide +kernel
theorem kok867 : aOK kS krf kB kE867 := aOK_of (kal1 kok542 (kal1 kok543 kal0)) (kcl1 ks867_0 kcl0) ks867
/-- ColdShod$StrokePlan.addNext(LColdShod$Idea;I)V -/
def kE868 : aE := (83, 3, ([(.ofNat 0, .ofNat 3), (.ofNat 137, .ofNat 341)], [(57, 136, .inl (0, .ofNat 0)), (52, 6, .inl (1, .ofNat 0))], 0, [some (.inr [52]), some (.inr [20, 21, 22, 23, 24, 25, 26, 27]), some (.inl (.inl (.inr (.ofNat 136)))), none, none], []), ([], none), ([], [], none, ([], [])), ([(52, 6), (58, 0), (58, 1), (58, 2), (58, 3), (58, 4), (58, 5), (58, 6)], [54, 55, 56, 57]))
def kC868_0 : aC := (([(.ofNat 0, .ofNat 3), (.ofNat 137, .ofNat 341), (.ofNat 0, .ofNat 4), (.ofNat 137, .ofNat 341)], [(57, 136, .inl (0, .ofNat 0)), (52, 6, .inl (3, .ofNat 0))], 2, [some (.inr [52]), some (.inr [20, 21, 22, 23, 24, 25, 26, 27]), some (.inl (.inl (.inr (.ofNat 136)))), some (.inl (.inl (.inl (2, .ofNat 0)))), none], []), ([], []), (4, [(-1, 2)]))
theorem ks868 : aseg kS krf kB [kE542, kE543] (ksp []) kE868 [kC868_0] 30000 (none) = true := by decide +kernel
theorem ks868_0 : aseg kS krf kB [kE542, kE543] (ksp []) kE868 [kC868_0] 30000 (some kC868_0) = true := by decide +kernel
theorem kok868 : aOK kS krf kB kE868 := aOK_of (kal1 kok542 (kal1 kok543 kal0)) (kcl1 ks868_0 kcl0) ks868
/-- ColdShod$StrokePlan.addNext(LColdShod$Idea;I)V -/
def kE869 : aE := (83, 3, ([(.ofNat 0, .ofNat 3), (.ofNat 136, .ofNat 341)], [(57, 135, .inl (0, .ofNat 0)), (52, 6, .inl (1, .ofNat 0))], 0, [some (.inr [52]), some (.inr [20, 21, 22, 23, 24, 25, 26, 27]), some (.inl (.inl (.inr (.ofNat 135)))), none, none], []), ([], none), ([], [], none, ([], [])), ([(52, 6), (58, 0), (58, 1), (58, 2), (58, 3), (58, 4), (58, 5), (58, 6)], [54, 55, 56, 57]))
def kC869_0 : aC := (([(.ofNat 0, .ofNat 3), (.ofNat 136, .ofNat 341), (.ofNat 0, .ofNat 4), (.ofNat 136, .ofNat 341)], [(57, 135, .inl (0, .ofNat 0)), (52, 6, .inl (3, .ofNat 0))], 2, [some (.inr [52]), some (.inr [20, 21, 22, 23, 24, 25, 26, 27]), some (.inl (.inl (.inr (.ofNat 135)))), some (.inl (.inl (.inl (2, .ofNat 0)))), none], []), ([], []), (4, [(-1, 2)]))
theorem ks869 : aseg kS krf kB [kE542, kE543] (ksp []) kE869 [kC869_0] 30000 (none) = true := by decide +kernel
theorem ks869_0 : aseg kS krf kB [kE542, kE543] (ksp []) kE869 [kC869_0] 30000 (some kC869_0) = true := by decide +kernel
theorem kok869 : aOK kS krf kB kE869 := aOK_of (kal1 kok542 (kal1 kok543 kal0)) (kcl1 ks869_0 kcl0) ks869
/-- ColdShod$StrokePlan.addNext(LColdShod$Idea;I)V -/
def kE870 : aE := (83, 3, ([(.ofNat 0, .ofNat 3), (.ofNat 135, .ofNat 341)], [(57, 134, .inl (0, .ofNat 0)), (52, 6, .inl (1, .ofNat 0))], 0, [some (.inr [52]), some (.inr [20, 21, 22, 23, 24, 25, 26, 27]), some (.inl (.inl (.inr (.ofNat 134)))), none, none], []), ([], none), ([], [], none, ([], [])), ([(52, 6), (58, 0), (58, 1), (58, 2), (58, 3), (58, 4), (58, 5), (58, 6)], [54, 55, 56, 57]))
def kC870_0 : aC := (([(.ofNat 0, .ofNat 3), (.ofNat 135, .ofNat 341), (.ofNat 0, .ofNat 4), (.ofNat 135, .ofNat 341)], [(57, 134, .inl (0, .ofNat 0)), (52, 6, .inl (3, .ofNat 0))], 2, [some (.inr [52]), some (.inr [20, 21, 22, 23, 24, 25, 26, 27]), some (.inl (.inl (.inr (.ofNat 134)))), some (.inl (.inl (.inl (2, .ofNat 0)))), none], []), ([], []), (4, [(-1, 2)]))
theorem ks870 : aseg kS krf kB [kE542, kE543] (ksp []) kE870 [kC870_0] 30000 (none) = true := by decide +kernel
theorem ks870_0 : aseg kS krf kB [kE542, kE543] (ksp []) kE870 [kC870_0] 30000 (some kC870_0) = true := by decide +kernel
theorem kok870 : aOK kS krf kB kE870 := aOK_of (kal1 kok542 (kal1 kok543 kal0)) (kcl1 ks870_0 kcl0) ks870
/-- ColdShod$StrokePlan.addNext(LColdShod$Idea;I)V -/
def kE871 : aE := (83, 3, ([(.ofNat 0, .ofNat 3), (.ofNat 134, .ofNat 341)], [(57, 133, .inl (0, .ofNat 0)), (52, 6, .inl (1, .ofNat 0))], 0, [some (.inr [52]), some (.inr [20, 21, 22, 23, 24, 25, 26, 27]), some (.inl (.inl (.inr (.ofNat 133)))), none, none], []), ([], none), ([], [], none, ([], [])), ([(52, 6), (58, 0), (58, 1), (58, 2), (58, 3), (58, 4), (58, 5), (58, 6)], [54, 55, 56, 57]))
def kC871_0 : aC := (([(.ofNat 0, .ofNat 3), (.ofNat 134, .ofNat 341), (.ofNat 0, .ofNat 4), (.ofNat 134, .ofNat 341)], [(57, 133, .inl (0, .ofNat 0)), (52, 6, .inl (3, .ofNat 0))], 2, [some (.inr [52]), some (.inr [20, 21, 22, 23, 24, 25, 26, 27]), some (.inl (.inl (.inr (.ofNat 133)))), some (.inl (.inl (.inl (2, .ofNat 0)))), none], []), ([], []), (4, [(-1, 2)]))
theorem ks871 : aseg kS krf kB [kE542, kE543] (ksp []) kE871 [kC871_0] 30000 (none) = true := by decide +kernel
theorem ks871_0 : aseg kS krf kB [kE542, kE543] (ksp []) kE871 [kC871_0] 30000 (some kC871_0) = true := by decide +kernel
theorem kok871 : aOK kS krf kB kE871 := aOK_of (kal1 kok542 (kal1 kok543 kal0)) (kcl1 ks871_0 kcl0) ks871
/-- ColdShod$StrokePlan.addNext(LColdShod$Idea;I)V -/
def kE872 : aE := (83, 3, ([(.ofNat 0, .ofNat 3), (.ofNat 133, .ofNat 341)], [(57, 132, .inl (0, .ofNat 0)), (52, 6, .inl (1, .ofNat 0))], 0, [some (.inr [52]), some (.inr [20, 21, 22, 23, 24, 25, 26, 27]), some (.inl (.inl (.inr (.ofNat 132)))), none, none], []), ([], none), ([], [], none, ([], [])), ([(52, 6), (58, 0), (58, 1), (58, 2), (58, 3), (58, 4), (58, 5), (58, 6)], [54, 55, 56, 57]))
def kC872_0 : aC := (([(.ofNat 0, .ofNat 3), (.ofNat 133, .ofNat 341), (.ofNat 0, .ofNat 4), (.ofNat 133, .ofNat 341)], [(57, 132, .inl (0, .ofNat 0)), (52, 6, .inl (3, .ofNat 0))], 2, [some (.inr [52]), some (.inr [20, 21, 22, 23, 24, 25, 26, 27]), some (.inl (.inl (.inr (.ofNat 132)))), some (.inl (.inl (.inl (2, .ofNat 0)))), none], []), ([], []), (4, [(-1, 2)]))
theorem ks872 : aseg kS krf kB [kE542, kE543] (ksp []) kE872 [kC872_0] 30000 (none) = true := by decide +kernel
theorem ks872_0 : aseg kS krf kB [kE542, kE543] (ksp []) kE872 [kC872_0] 30000 (some kC872_0) = true := by decide +kernel
theorem kok872 : aOK kS krf kB kE872 := aOK_of (kal1 kok542 (kal1 kok543 kal0)) (kcl1 ks872_0 kcl0) ks872
/-- ColdShod$StrokePlan.addNext(LColdShod$Idea;I)V -/
def kE873 : aE := (83, 3, ([(.ofNat 0, .ofNat 3), (.ofNat 132, .ofNat 341)], [(57, 131, .inl (0, .ofNat 0)), (52, 6, .inl (1, .ofNat 0))], 0, [some (.inr [52]), some (.inr [20, 21, 22, 23, 24, 25, 26, 27]), some (.inl (.inl (.inr (.ofNat 131)))), none, none], []), ([], none), ([], [], none, ([], [])), ([(52, 6), (58, 0), (58, 1), (58, 2), (58, 3), (58, 4), (58, 5), (58, 6)], [54, 55, 56, 57]))
def kC873_0 : aC := (([(.ofNat 0, .ofNat 3), (.ofNat 132, .ofNat 341), (.ofNat 0, .ofNat 4), (.ofNat 132, .ofNat 341)], [(57, 131, .inl (0, .ofNat 0)), (52, 6, .inl (3, .ofNat 0))], 2, [some (.inr [52]), some (.inr [20, 21, 22, 23, 24, 25, 26, 27]), some (.inl (.inl (.inr (.ofNat 131)))), some (.inl (.inl (.inl (2, .ofNat 0)))), none], []), ([], []), (4, [(-1, 2)]))
theorem ks873 : aseg kS krf kB [kE542, kE543] (ksp []) kE873 [kC873_0] 30000 (none) = true := by decide +kernel
theorem ks873_0 : aseg kS krf kB [kE542, kE543] (ksp []) kE873 [kC873_0] 30000 (some kC873_0) = true := by decide +kernel
theorem kok873 : aOK kS krf kB kE873 := aOK_of (kal1 kok542 (kal1 kok543 kal0)) (kcl1 ks873_0 kcl0) ks873
/-- ColdShod$StrokePlan.addNext(LColdShod$Idea;I)V -/
def kE874 : aE := (83, 3, ([(.ofNat 0, .ofNat 3), (.ofNat 131, .ofNat 341)], [(57, 130, .inl (0, .ofNat 0)), (52, 6, .inl (1, .ofNat 0))], 0, [some (.inr [52]), some (.inr [20, 21, 22, 23, 24, 25, 26, 27]), some (.inl (.inl (.inr (.ofNat 130)))), none, none], []), ([], none), ([], [], none, ([], [])), ([(52, 6), (58, 0), (58, 1), (58, 2), (58, 3), (58, 4), (58, 5), (58, 6)], [54, 55, 56, 57]))
def kC874_0 : aC := (([(.ofNat 0, .ofNat 3), (.ofNat 131, .ofNat 341), (.ofNat 0, .ofNat 4), (.ofNat 131, .ofNat 341)], [(57, 130, .inl (0, .ofNat 0)), (52, 6, .inl (3, .ofNat 0))], 2, [some (.inr [52]), some (.inr [20, 21, 22, 23, 24, 25, 26, 27]), some (.inl (.inl (.inr (.ofNat 130)))), some (.inl (.inl (.inl (2, .ofNat 0)))), none], []), ([], []), (4, [(-1, 2)]))
theorem ks874 : aseg kS krf kB [kE542, kE543] (ksp []) kE874 [kC874_0] 30000 (none) = true := by decide +kernel
theorem ks874_0 : aseg kS krf kB [kE542, kE543] (ksp []) kE874 [kC874_0] 30000 (some kC874_0) = true := by decide +kernel
theorem kok874 : aOK kS krf kB kE874 := aOK_of (kal1 kok542 (kal1 kok543 kal0)) (kcl1 ks874_0 kcl0) ks874
/-- ColdShod$StrokePlan.addNext(LColdShod$Idea;I)V -/
def kE875 : aE := (83, 3, ([(.ofNat 0, .ofNat 3), (.ofNat 130, .ofNat 341)], [(57, 129, .inl (0, .ofNat 0)), (52, 6, .inl (1, .ofNat 0))], 0, [some (.inr [52]), some (.inr [20, 21, 22, 23, 24, 25, 26, 27]), some (.inl (.inl (.inr (.ofNat 129)))), none, none], []), ([], none), ([], [], none, ([], [])), ([(52, 6), (58, 0), (58, 1), (58, 2), (58, 3), (58, 4), (58, 5), (58, 6)], [54, 55, 56, 57]))
def kC875_0 : aC := (([(.ofNat 0, .ofNat 3), (.ofNat 130, .ofNat 341), (.ofNat 0, .ofNat 4), (.ofNat 130, .ofNat 341)], [(57, 129, .inl (0, .ofNat 0)), (52, 6, .inl (3, .ofNat 0))], 2, [some (.inr [52]), some (.inr [20, 21, 22, 23, 24, 25, 26, 27]), some (.inl (.inl (.inr (.ofNat 129)))), some (.inl (.inl (.inl (2, .ofNat 0)))), none], []), ([], []), (4, [(-1, 2)]))
theorem ks875 : aseg kS krf kB [kE542, kE543] (ksp []) kE875 [kC875_0] 30000 (none) = true := by decide +kernel
theorem ks875_0 : aseg kS krf kB [kE542, kE543] (ksp []) kE875 [kC875_0] 30000 (some kC875_0) = true := by decide +kernel
theorem kok875 : aOK kS krf kB kE875 := aOK_of (kal1 kok542 (kal1 kok543 kal0)) (kcl1 ks875_0 kcl0) ks875
/-- ColdShod$StrokePlan.addNext(LColdShod$Idea;I)V -/
def kE876 : aE := (83, 3, ([(.ofNat 0, .ofNat 3), (.ofNat 129, .ofNat 341)], [(57, 128, .inl (0, .ofNat 0)), (52, 6, .inl (1, .ofNat 0))], 0, [some (.inr [52]), some (.inr [20, 21, 22, 23, 24, 25, 26, 27]), some (.inl (.inl (.inr (.ofNat 128)))), none, none], []), ([], none), ([], [], none, ([], [])), ([(52, 6), (58, 0), (58, 1), (58, 2), (58, 3), (58, 4), (58, 5), (58, 6)], [54, 55, 56, 57]))
def kC876_0 : aC := (([(.ofNat 0, .ofNat 3), (.ofNat 129, .ofNat 341), (.ofNat 0, .ofNat 4), (.ofNat 129, .ofNat 341)], [(57, 128, .inl (0, .ofNat 0)), (52, 6, .inl (3, .ofNat 0))], 2, [some (.inr [52]), some (.inr [20, 21, 22, 23, 24, 25, 26, 27]), some (.inl (.inl (.inr (.ofNat 128)))), some (.inl (.inl (.inl (2, .ofNat 0)))), none], []), ([], []), (4, [(-1, 2)]))
theorem ks876 : aseg kS krf kB [kE542, kE543] (ksp []) kE876 [kC876_0] 30000 (none) = true := by decide +kernel
theorem ks876_0 : aseg kS krf kB [kE542, kE543] (ksp []) kE876 [kC876_0] 30000 (some kC876_0) = true := by decide +kernel
theorem kok876 : aOK kS krf kB kE876 := aOK_of (kal1 kok542 (kal1 kok543 kal0)) (kcl1 ks876_0 kcl0) ks876
/-- ColdShod$StrokePlan.addNext(LColdShod$Idea;I)V -/
def kE877 : aE := (83, 3, ([(.ofNat 0, .ofNat 3), (.ofNat 128, .ofNat 341)], [(57, 127, .inl (0, .ofNat 0)), (52, 6, .inl (1, .ofNat 0))], 0, [some (.inr [52]), some (.inr [20, 21, 22, 23, 24, 25, 26, 27]), some (.inl (.inl (.inr (.ofNat 127)))), none, none], []), ([], none), ([], [], none, ([], [])), ([(52, 6), (58, 0), (58, 1), (58, 2), (58, 3), (58, 4), (58, 5), (58, 6)], [54, 55, 56, 57]))
def kC877_0 : aC := (([(.ofNat 0, .ofNat 3), (.ofNat 128, .ofNat 341), (.ofNat 0, .ofNat 4), (.ofNat 128, .ofNat 341)], [(57, 127, .inl (0, .ofNat 0)), (52, 6, .inl (3, .ofNat 0))], 2, [some (.inr [52]), some (.inr [20, 21, 22, 23, 24, 25, 26, 27]), some (.inl (.inl (.inr (.ofNat 127)))), some (.inl (.inl (.inl (2, .ofNat 0)))), none], []), ([], []), (4, [(-1, 2)]))
theorem ks877 : aseg kS krf kB [kE542, kE543] (ksp []) kE877 [kC877_0] 30000 (none) = true := by decide +kernel
theorem ks877_0 : aseg kS krf kB [kE542, kE543] (ksp []) kE877 [kC877_0] 30000 (some kC877_0) = true := by decide +kernel
theorem kok877 : aOK kS krf kB kE877 := aOK_of (kal1 kok542 (kal1 kok543 kal0)) (kcl1 ks877_0 kcl0) ks877
/-- ColdShod$StrokePlan.addNext(LColdShod$Idea;I)V -/
def kE878 : aE := (83, 3, ([(.ofNat 0, .ofNat 3), (.ofNat 127, .ofNat 341)], [(57, 126, .inl (0, .ofNat 0)), (52, 6, .inl (1, .ofNat 0))], 0, [some (.inr [52]), some (.inr [20, 21, 22, 23, 24, 25, 26, 27]), some (.inl (.inl (.inr (.ofNat 126)))), none, none], []), ([], none), ([], [], none, ([], [])), ([(52, 6), (58, 0), (58, 1), (58, 2), (58, 3), (58, 4), (58, 5), (58, 6)], [54, 55, 56, 57]))
def kC878_0 : aC := (([(.ofNat 0, .ofNat 3), (.ofNat 127, .ofNat 341), (.ofNat 0, .ofNat 4), (.ofNat 127, .ofNat 341)], [(57, 126, .inl (0, .ofNat 0)), (52, 6, .inl (3, .ofNat 0))], 2, [some (.inr [52]), some (.inr [20, 21, 22, 23, 24, 25, 26, 27]), some (.inl (.inl (.inr (.ofNat 126)))), some (.inl (.inl (.inl (2, .ofNat 0)))), none], []), ([], []), (4, [(-1, 2)]))
theorem ks878 : aseg kS krf kB [kE542, kE543] (ksp []) kE878 [kC878_0] 30000 (none) = true := by decide +kernel
theorem ks878_0 : aseg kS krf kB [kE542, kE543] (ksp []) kE878 [kC878_0] 30000 (some kC878_0) = true := by decide +kernel
theorem kok878 : aOK kS krf kB kE878 := aOK_of (kal1 kok542 (kal1 kok543 kal0)) (kcl1 ks878_0 kcl0) ks878
/-- ColdShod$StrokePlan.addNext(LColdShod$Idea;I)V -/
def kE879 : aE := (83, 3, ([(.ofNat 0, .ofNat 3), (.ofNat 126, .ofNat 341)], [(57, 125, .inl (0, .ofNat 0)), (52, 6, .inl (1, .ofNat 0))], 0, [some (.inr [52]), some (.inr [20, 21, 22, 23, 24, 25, 26, 27]), some (.inl (.inl (.inr (.ofNat 125)))), none, none], []), ([], none), ([], [], none, ([], [])), ([(52, 6), (58, 0), (58, 1), (58, 2), (58, 3), (58, 4), (58, 5), (58, 6)], [54, 55, 56, 57]))
def kC879_0 : aC := (([(.ofNat 0, .ofNat 3), (.ofNat 126, .ofNat 341), (.ofNat 0, .ofNat 4), (.ofNat 126, .ofNat 341)], [(57, 125, .inl (0, .ofNat 0)), (52, 6, .inl (3, .ofNat 0))], 2, [some (.inr [52]), some (.inr [20, 21, 22, 23, 24, 25, 26, 27]), some (.inl (.inl (.inr (.ofNat 125)))), some (.inl (.inl (.inl (2, .ofNat 0)))), none], []), ([], []), (4, [(-1, 2)]))
theorem ks879 : aseg kS krf kB [kE542, kE543] (ksp []) kE879 [kC879_0] 30000 (none) = true := by decide +kernel
theorem ks879_0 : aseg kS krf kB [kE542, kE543] (ksp []) kE879 [kC879_0] 30000 (some kC879_0) = true := by decide +kernel
theorem kok879 : aOK kS krf kB kE879 := aOK_of (kal1 kok542 (kal1 kok543 kal0)) (kcl1 ks879_0 kcl0) ks879
/-- ColdShod$StrokePlan.addNext(LColdShod$Idea;I)V -/
def kE880 : aE := (83, 3, ([(.ofNat 0, .ofNat 3), (.ofNat 125, .ofNat 341)], [(57, 124, .inl (0, .ofNat 0)), (52, 6, .inl (1, .ofNat 0))], 0, [some (.inr [52]), some (.inr [20, 21, 22, 23, 24, 25, 26, 27]), some (.inl (.inl (.inr (.ofNat 124)))), none, none], []), ([], none), ([], [], none, ([], [])), ([(52, 6), (58, 0), (58, 1), (58, 2), (58, 3), (58, 4), (58, 5), (58, 6)], [54, 55, 56, 57]))
def kC880_0 : aC := (([(.ofNat 0, .ofNat 3), (.ofNat 125, .ofNat 341), (.ofNat 0, .ofNat 4), (.ofNat 125, .ofNat 341)], [(57, 124, .inl (0, .ofNat 0)), (52, 6, .inl (3, .ofNat 0))], 2, [some (.inr [52]), some (.inr [20, 21, 22, 23, 24, 25, 26, 27]), some (.inl (.inl (.inr (.ofNat 124)))), some (.inl (.inl (.inl (2, .ofNat 0)))), none], []), ([], []), (4, [(-1, 2)]))
theorem ks880 : aseg kS krf kB [kE542, kE543] (ksp []) kE880 [kC880_0] 30000 (none) = true := by decide +kernel
theorem ks880_0 : aseg kS krf kB [kE542, kE543] (ksp []) kE880 [kC880_0] 30000 (some kC880_0) = true := by decide +kernel
theorem kok880 : aOK kS krf kB kE880 := aOK_of (kal1 kok542 (kal1 kok543 kal0)) (kcl1 ks880_0 kcl0) ks880
/-- ColdShod$StrokePlan.addNext(LColdShod$Idea;I)V -/
def kE881 : aE := (83, 3, ([(.ofNat 0, .ofNat 3), (.ofNat 124, .ofNat 341)], [(57, 123, .inl (0, .ofNat 0)), (52, 6, .inl (1, .ofNat 0))], 0, [some (.inr [52]), some (.inr [20, 21, 22, 23, 24, 25, 26, 27]), some (.inl (.inl (.inr (.ofNat 123)))), none, none], []), ([], none), ([], [], none, ([], [])), ([(52, 6), (58, 0), (58, 1), (58, 2), (58, 3), (58, 4), (58, 5), (58, 6)], [54, 55, 56, 57]))
def kC881_0 : aC := (([(.ofNat 0, .ofNat 3), (.ofNat 124, .ofNat 341), (.ofNat 0, .ofNat 4), (.ofNat 124, .ofNat 341)], [(57, 123, .inl (0, .ofNat 0)), (52, 6, .inl (3, .ofNat 0))], 2, [some (.inr [52]), some (.inr [20, 21, 22, 23, 24, 25, 26, 27]), some (.inl (.inl (.inr (.ofNat 123)))), some (.inl (.inl (.inl (2, .ofNat 0)))), none], []), ([], []), (4, [(-1, 2)]))
theorem ks881 : aseg kS krf kB [kE542, kE543] (ksp []) kE881 [kC881_0] 30000 (none) = true := by decide +kernel
theorem ks881_0 : aseg kS krf kB [kE542, kE543] (ksp []) kE881 [kC881_0] 30000 (some kC881_0) = true := by decide +kernel
theorem kok881 : aOK kS krf kB kE881 := aOK_of (kal1 kok542 (kal1 kok543 kal0)) (kcl1 ks881_0 kcl0) ks881
/-- ColdShod$StrokePlan.addNext(LColdShod$Idea;I)V -/
def kE882 : aE := (83, 3, ([(.ofNat 0, .ofNat 3), (.ofNat 123, .ofNat 341)], [(57, 122, .inl (0, .ofNat 0)), (52, 6, .inl (1, .ofNat 0))], 0, [some (.inr [52]), some (.inr [20, 21, 22, 23, 24, 25, 26, 27]), some (.inl (.inl (.inr (.ofNat 122)))), none, none], []), ([], none), ([], [], none, ([], [])), ([(52, 6), (58, 0), (58, 1), (58, 2), (58, 3), (58, 4), (58, 5), (58, 6)], [54, 55, 56, 57]))
def kC882_0 : aC := (([(.ofNat 0, .ofNat 3), (.ofNat 123, .ofNat 341), (.ofNat 0, .ofNat 4), (.ofNat 123, .ofNat 341)], [(57, 122, .inl (0, .ofNat 0)), (52, 6, .inl (3, .ofNat 0))], 2, [some (.inr [52]), some (.inr [20, 21, 22, 23, 24, 25, 26, 27]), some (.inl (.inl (.inr (.ofNat 122)))), some (.inl (.inl (.inl (2, .ofNat 0)))), none], []), ([], []), (4, [(-1, 2)]))
theorem ks882 : aseg kS krf kB [kE542, kE543] (ksp []) kE882 [kC882_0] 30000 (none) = true := by decide +kernel
theorem ks882_0 : aseg kS krf kB [kE542, kE543] (ksp []) kE882 [kC882_0] 30000 (some kC882_0) = true := by decide +kernel
theorem kok882 : aOK kS krf kB kE882 := aOK_of (kal1 kok542 (kal1 kok543 kal0)) (kcl1 ks882_0 kcl0) ks882
/-- ColdShod$StrokePlan.addNext(LColdShod$Idea;I)V -/
def kE883 : aE := (83, 3, ([(.ofNat 0, .ofNat 3), (.ofNat 122, .ofNat 341)], [(57, 121, .inl (0, .ofNat 0)), (52, 6, .inl (1, .ofNat 0))], 0, [some (.inr [52]), some (.inr [20, 21, 22, 23, 24, 25, 26, 27]), some (.inl (.inl (.inr (.ofNat 121)))), none, none], []), ([], none), ([], [], none, ([], [])), ([(52, 6), (58, 0), (58, 1), (58, 2), (58, 3), (58, 4), (58, 5), (58, 6)], [54, 55, 56, 57]))
def kC883_0 : aC := (([(.ofNat 0, .ofNat 3), (.ofNat 122, .ofNat 341), (.ofNat 0, .ofNat 4), (.ofNat 122, .ofNat 341)], [(57, 121, .inl (0, .ofNat 0)), (52, 6, .inl (3, .ofNat 0))], 2, [some (.inr [52]), some (.inr [20, 21, 22, 23, 24, 25, 26, 27]), some (.inl (.inl (.inr (.ofNat 121)))), some (.inl (.inl (.inl (2, .ofNat 0)))), none], []), ([], []), (4, [(-1, 2)]))
theorem ks883 : aseg kS krf kB [kE542, kE543] (ksp []) kE883 [kC883_0] 30000 (none) = true := by decide +kernel
theorem ks883_0 : aseg kS krf kB [kE542, kE543] (ksp []) kE883 [kC883_0] 30000 (some kC883_0) = true := by decide +kernel
theorem kok883 : aOK kS krf kB kE883 := aOK_of (kal1 kok542 (kal1 kok543 kal0)) (kcl1 ks883_0 kcl0) ks883
/-- ColdShod$StrokePlan.addNext(LColdShod$Idea;I)V -/
def kE884 : aE := (83, 3, ([(.ofNat 0, .ofNat 3), (.ofNat 121, .ofNat 341)], [(57, 120, .inl (0, .ofNat 0)), (52, 6, .inl (1, .ofNat 0))], 0, [some (.inr [52]), some (.inr [20, 21, 22, 23, 24, 25, 26, 27]), some (.inl (.inl (.inr (.ofNat 120)))), none, none], []), ([], none), ([], [], none, ([], [])), ([(52, 6), (58, 0), (58, 1), (58, 2), (58, 3), (58, 4), (58, 5), (58, 6)], [54, 55, 56, 57]))
def kC884_0 : aC := (([(.ofNat 0, .ofNat 3), (.ofNat 121, .ofNat 341), (.ofNat 0, .ofNat 4), (.ofNat 121, .ofNat 341)], [(57, 120, .inl (0, .ofNat 0)), (52, 6, .inl (3, .ofNat 0))], 2, [some (.inr [52]), some (.inr [20, 21, 22, 23, 24, 25, 26, 27]), some (.inl (.inl (.inr (.ofNat 120)))), some (.inl (.inl (.inl (2, .ofNat 0)))), none], []), ([], []), (4, [(-1, 2)]))
theorem ks884 : aseg kS krf kB [kE542, kE543] (ksp []) kE884 [kC884_0] 30000 (none) = true := by decide +kernel
theorem ks884_0 : aseg kS krf kB [kE542, kE543] (ksp []) kE884 [kC884_0] 30000 (some kC884_0) = true := by decide +kernel
theorem kok884 : aOK kS krf kB kE884 := aOK_of (kal1 kok542 (kal1 kok543 kal0)) (kcl1 ks884_0 kcl0) ks884
/-- ColdShod$StrokePlan.fewestFor(LColdShod$Journey;LColdShod$Idea;LColdShod$Country;)I -/
def kE885 : aE := (82, 6, ([], [], 0, [some (.inr [52]), some (.inr [50]), some (.inr [20, 21, 22, 23, 24, 25, 26, 27]), some (.inr [7]), none], []), ([], none), ([(.negSucc 1, .ofNat 4)], [], some (.inl (.inl (.inl (0, .ofNat 0)))), ([], [])), ([(13, 0), (13, 1), (13, 2), (13, 3), (13, 4), (13, 5), (50, 2), (50, 3), (52, 6), (58, 0), (58, 1), (58, 2), (58, 3), (58, 4), (58, 5), (58, 6)], [16, 19, 53, 54, 55, 56, 57]))
def kC885_0 : aC := (([(.ofNat 0, .ofNat 19)], [], 25, [some (.inr [52]), some (.inr [50]), some (.inr [20, 21, 22, 23, 24, 25, 26, 27]), some (.inr [7]), some (.inl (.inl (.inl (0, .ofNat 0))))], []), ([], []), (410, [(-1, 0)]))
def kC885_1 : aC := (([(.ofNat 60, .ofNat 79)], [], 25, [some (.inr [52]), some (.inr [50]), some (.inr [20, 21, 22, 23, 24, 25, 26, 27]), some (.inr [7]), some (.inl (.inl (.inl (0, .ofNat 0))))], []), ([], []), (401, [(-1, 0)]))
def kC885_2 : aC := (([(.ofNat 40, .ofNat 59)], [], 25, [some (.inr [52]), some (.inr [50]), some (.inr [20, 21, 22, 23, 24, 25, 26, 27]), some (.inr [7]), some (.inl (.inl (.inl (0, .ofNat 0))))], []), ([], []), (404, [(-1, 0)]))
def kC885_3 : aC := (([(.ofNat 20, .ofNat 39)], [], 25, [some (.inr [52]), some (.inr [50]), some (.inr [20, 21, 22, 23, 24, 25, 26, 27]), some (.inr [7]), some (.inl (.inl (.inl (0, .ofNat 0))))], []), ([], []), (407, [(-1, 0)]))
def kC885_4 : aC := (([(.ofNat 80, .ofNat 99)], [], 25, [some (.inr [52]), some (.inr [50]), some (.inr [20, 21, 22, 23, 24, 25, 26, 27]), some (.inr [7]), some (.inl (.inl (.inl (0, .ofNat 0))))], []), ([], []), (398, [(-1, 0)]))
def kC885_5 : aC := (([(.ofNat 100, .ofNat 119)], [], 25, [some (.inr [52]), some (.inr [50]), some (.inr [20, 21, 22, 23, 24, 25, 26, 27]), some (.inr [7]), some (.inl (.inl (.inl (0, .ofNat 0))))], []), ([], []), (395, [(-1, 0)]))
def kC885_6 : aC := (([(.ofNat 340, .ofNat 341)], [], 25, [some (.inr [52]), some (.inr [50]), some (.inr [20, 21, 22, 23, 24, 25, 26, 27]), some (.inr [7]), some (.inl (.inl (.inl (0, .ofNat 0))))], []), ([], []), (341, [(-1, 0)]))
def kC885_7 : aC := (([(.ofNat 320, .ofNat 339)], [], 25, [some (.inr [52]), some (.inr [50]), some (.inr [20, 21, 22, 23, 24, 25, 26, 27]), some (.inr [7]), some (.inl (.inl (.inl (0, .ofNat 0))))], []), ([], []), (362, [(-1, 0)]))
def kC885_8 : aC := (([(.ofNat 300, .ofNat 319)], [], 25, [some (.inr [52]), some (.inr [50]), some (.inr [20, 21, 22, 23, 24, 25, 26, 27]), some (.inr [7]), some (.inl (.inl (.inl (0, .ofNat 0))))], []), ([], []), (365, [(-1, 0)]))
def kC885_9 : aC := (([(.ofNat 280, .ofNat 299)], [], 25, [some (.inr [52]), some (.inr [50]), some (.inr [20, 21, 22, 23, 24, 25, 26, 27]), some (.inr [7]), some (.inl (.inl (.inl (0, .ofNat 0))))], []), ([], []), (368, [(-1, 0)]))
def kC885_10 : aC := (([(.ofNat 260, .ofNat 279)], [], 25, [some (.inr [52]), some (.inr [50]), some (.inr [20, 21, 22, 23, 24, 25, 26, 27]), some (.inr [7]), some (.inl (.inl (.inl (0, .ofNat 0))))], []), ([], []), (371, [(-1, 0)]))
def kC885_11 : aC := (([(.ofNat 240, .ofNat 259)], [], 25, [some (.inr [52]), some (.inr [50]), some (.inr [20, 21, 22, 23, 24, 25, 26, 27]), some (.inr [7]), some (.inl (.inl (.inl (0, .ofNat 0))))], []), ([], []), (374, [(-1, 0)]))
def kC885_12 : aC := (([(.ofNat 220, .ofNat 239)], [], 25, [some (.inr [52]), some (.inr [50]), some (.inr [20, 21, 22, 23, 24, 25, 26, 27]), some (.inr [7]), some (.inl (.inl (.inl (0, .ofNat 0))))], []), ([], []), (377, [(-1, 0)]))
def kC885_13 : aC := (([(.ofNat 200, .ofNat 219)], [], 25, [some (.inr [52]), some (.inr [50]), some (.inr [20, 21, 22, 23, 24, 25, 26, 27]), some (.inr [7]), some (.inl (.inl (.inl (0, .ofNat 0))))], []), ([], []), (380, [(-1, 0)]))
def kC885_14 : aC := (([(.ofNat 180, .ofNat 199)], [], 25, [some (.inr [52]), some (.inr [50]), some (.inr [20, 21, 22, 23, 24, 25, 26, 27]), some (.inr [7]), some (.inl (.inl (.inl (0, .ofNat 0))))], []), ([], []), (383, [(-1, 0)]))
def kC885_15 : aC := (([(.ofNat 160, .ofNat 179)], [], 25, [some (.inr [52]), some (.inr [50]), some (.inr [20, 21, 22, 23, 24, 25, 26, 27]), some (.inr [7]), some (.inl (.inl (.inl (0, .ofNat 0))))], []), ([], []), (386, [(-1, 0)]))
def kC885_16 : aC := (([(.ofNat 140, .ofNat 159)], [], 25, [some (.inr [52]), some (.inr [50]), some (.inr [20, 21, 22, 23, 24, 25, 26, 27]), some (.inr [7]), some (.inl (.inl (.inl (0, .ofNat 0))))], []), ([], []), (389, [(-1, 0)]))
def kC885_17 : aC := (([(.ofNat 120, .ofNat 139)], [], 25, [some (.inr [52]), some (.inr [50]), some (.inr [20, 21, 22, 23, 24, 25, 26, 27]), some (.inr [7]), some (.inl (.inl (.inl (0, .ofNat 0))))], []), ([], []), (392, [(-1, 0)]))
theorem ks885 : aseg kS krf kB [] (ksp [(82, 25, 4, 0, 340, 0)]) kE885 [kC885_0, kC885_1, kC885_2, kC885_3, kC885_4, kC885_5, kC885_6, kC885_7, kC885_8, kC885_9, kC885_10, kC885_11, kC885_12, kC885_13, kC885_14, kC885_15, kC885_16, kC885_17] 30000 (none) = true := by decide +kernel
theorem ks885_0 : aseg kS krf kB [kE540, kE541, kE544, kE545, kE546, kE547, kE548, kE549, kE550, kE551, kE552, kE553, kE554, kE555, kE556, kE557, kE558, kE559, kE560, kE561, kE562, kE563] (ksp [(82, 25, 4, 0, 340, 0)]) kE885 [kC885_0, kC885_1, kC885_2, kC885_3, kC885_4, kC885_5, kC885_6, kC885_7, kC885_8, kC885_9, kC885_10, kC885_11, kC885_12, kC885_13, kC885_14, kC885_15, kC885_16, kC885_17] 30000 (some kC885_0) = true := by decide +kernel
theorem ks885_1 : aseg kS krf kB [kE540, kE541, kE564, kE565, kE566, kE567, kE568, kE569, kE570, kE571, kE572, kE573, kE574, kE575, kE576, kE577, kE578, kE579, kE580, kE581, kE582, kE583] (ksp [(82, 25, 4, 0, 340, 0)]) kE885 [kC885_0, kC885_1, kC885_2, kC885_3, kC885_4, kC885_5, kC885_6, kC885_7, kC885_8, kC885_9, kC885_10, kC885_11, kC885_12, kC885_13, kC885_14, kC885_15, kC885_16, kC885_17] 30000 (some kC885_1) = true := by decide +kernel
