/-! ENTRIES and their checks: printed by a program (wip/ai). -/
/-- ColdShod$StrokePlan.addNext(LColdShod$Idea;I)V -/
def kE834 : aE := (83, 3, ([(.ofNat 0, .ofNat 3), (.ofNat 51, .ofNat 341)], [(57, 50, .inl (0, .ofNat 0)), (52, 6, .inl (1, .ofNat 0))], 0, [some (.inr [52]), some (.inr [20, 21, 22, 23, 24, 25, 26, 27]), some (.inl (.inl (.inr (.ofNat 50)))), none, none], []), ([], none), ([], [], none, ([], [])), ([(52, 6), (58, 0), (58, 1), (58, 2), (58, 3), (58, 4), (58, 5), (58, 6)], [54, 55, 56, 57]))
def kC834_0 : aC := (([(.ofNat 0, .ofNat 3), (.ofNat 51, .ofNat 341), (.ofNat 0, .ofNat 4), (.ofNat 51, .ofNat 341)], [(57, 50, .inl (0, .ofNat 0)), (52, 6, .inl (3, .ofNat 0))], 2, [some (.inr [52]), some (.inr [20, 21, 22, 23, 24, 25, 26, 27]), some (.inl (.inl (.inr (.ofNat 50)))), some (.inl (.inl (.inl (2, .ofNat 0)))), none], []), ([], []), (4, [(-1, 2)]))
theorem ks834 : aseg kS krf kB [kE542, kE543] (ksp []) kE834 [kC834_0] 30000 (none) = true := by decide +kernel
theorem ks834_0 : aseg kS krf kB [kE542, kE543] (ksp []) kE834 [kC834_0] 30000 (some kC834_0) = true := by decide +kernel
theorem kok834 : aOK kS krf kB kE834 := aOK_of (kal1 kok542 (kal1 kok543 kal0)) (kcl1 ks834_0 kcl0) ks834
/-- ColdShod$StrokePlan.addNext(LColdShod$Idea;I)V -/
def kE835 : aE := (83, 3, ([(.ofNat 0, .ofNat 3), (.ofNat 50, .ofNat 341)], [(57, 49, .inl (0, .ofNat 0)), (52, 6, .inl (1, .ofNat 0))], 0, [some (.inr [52]), some (.inr [20, 21, 22, 23, 24, 25, 26, 27]), some (.inl (.inl (.inr (.ofNat 49)))), none, none], []), ([], none), ([], [], none, ([], [])), ([(52, 6), (58, 0), (58, 1), (58, 2), (58, 3), (58, 4), (58, 5), (58, 6)], [54, 55, 56, 57]))
def kC835_0 : aC := (([(.ofNat 0, .ofNat 3), (.ofNat 50, .ofNat 341), (.ofNat 0, .ofNat 4), (.ofNat 50, .ofNat 341)], [(57, 49, .inl (0, .ofNat 0)), (52, 6, .inl (3, .ofNat 0))], 2, [some (.inr [52]), some (.inr [20, 21, 22, 23, 24, 25, 26, 27]), some (.inl (.inl (.inr (.ofNat 49)))), some (.inl (.inl (.inl (2, .ofNat 0)))), none], []), ([], []), (4, [(-1, 2)]))
theorem ks835 : aseg kS krf kB [kE542, kE543] (ksp []) kE835 [kC835_0] 30000 (none) = true := by decide +kernel
theorem ks835_0 : aseg kS krf kB [kE542, kE543] (ksp []) kE835 [kC835_0] 30000 (some kC835_0) = true := by decide +kernel
theorem kok835 : aOK kS krf kB kE835 := aOK_of (kal1 kok542 (kal1 kok543 kal0)) (kcl1 ks835_0 kcl0) ks835
/-- ColdShod$StrokePlan.addNext(LColdShod$Idea;I)V -/
def kE836 : aE := (83, 3, ([(.ofNat 0, .ofNat 3), (.ofNat 49, .ofNat 341)], [(57, 48, .inl (0, .ofNat 0)), (52, 6, .inl (1, .ofNat 0))], 0, [some (.inr [52]), some (.inr [20, 21, 22, 23, 24, 25, 26, 27]), some (.inl (.inl (.inr (.ofNat 48)))), none, none], []), ([], none), ([], [], none, ([], [])), ([(52, 6), (58, 0), (58, 1), (58, 2), (58, 3), (58, 4), (58, 5), (58, 6)], [54, 55, 56, 57]))
def kC836_0 : aC := (([(.ofNat 0, .ofNat 3), (.ofNat 49, .ofNat 341), (.ofNat 0, .ofNat 4), (.ofNat 49, .ofNat 341)], [(57, 48, .inl (0, .ofNat 0)), (52, 6, .inl (3, .ofNat 0))], 2, [some (.inr [52]), some (.inr [20, 21, 22, 23, 24, 25, 26, 27]), some (.inl (.inl (.inr (.ofNat 48)))), some (.inl (.inl (.inl (2, .ofNat 0)))), none], []), ([], []), (4, [(-1, 2)]))
theorem ks836 : aseg kS krf kB [kE542, kE543] (ksp []) kE836 [kC836_0] 30000 (none) = true := by decide +kernel
theorem ks836_0 : aseg kS krf kB [kE542, kE543] (ksp []) kE836 [kC836_0] 30000 (some kC836_0) = true := by decide +kernel
theorem kok836 : aOK kS krf kB kE836 := aOK_of (kal1 kok542 (kal1 kok543 kal0)) (kcl1 ks836_0 kcl0) ks836
/-- ColdShod$StrokePlan.addNext(LColdShod$Idea;I)V -/
def kE837 : aE := (83, 3, ([(.ofNat 0, .ofNat 3), (.ofNat 48, .ofNat 341)], [(57, 47, .inl (0, .ofNat 0)), (52, 6, .inl (1, .ofNat 0))], 0, [some (.inr [52]), some (.inr [20, 21, 22, 23, 24, 25, 26, 27]), some (.inl (.inl (.inr (.ofNat 47)))), none, none], []), ([], none), ([], [], none, ([], [])), ([(52, 6), (58, 0), (58, 1), (58, 2), (58, 3), (58, 4), (58, 5), (58, 6)], [54, 55, 56, 57]))
def kC837_0 : aC := (([(.ofNat 0, .ofNat 3), (.ofNat 48, .ofNat 341), (.ofNat 0, .ofNat 4), (.ofNat 48, .ofNat 341)], [(57, 47, .inl (0, .ofNat 0)), (52, 6, .inl (3, .ofNat 0))], 2, [some (.inr [52]), some (.inr [20, 21, 22, 23, 24, 25, 26, 27]), some (.inl (.inl (.inr (.ofNat 47)))), some (.inl (.inl (.inl (2, .ofNat 0)))), none], []), ([], []), (4, [(-1, 2)]))
theorem ks837 : aseg kS krf kB [kE542, kE543] (ksp []) kE837 [kC837_0] 30000 (none) = true := by decide +kernel
theorem ks837_0 : aseg kS krf kB [kE542, kE543] (ksp []) kE837 [kC837_0] 30000 (some kC837_0) = true := by decide +kernel
theorem kok837 : aOK kS krf kB kE837 := aOK_of (kal1 kok542 (kal1 kok543 kal0)) (kcl1 ks837_0 kcl0) ks837
/-- ColdShod$StrokePlan.addNext(LColdShod$Idea;I)V -/
def kE838 : aE := (83, 3, ([(.ofNat 0, .ofNat 3), (.ofNat 47, .ofNat 341)], [(57, 46, .inl (0, .ofNat 0)), (52, 6, .inl (1, .ofNat 0))], 0, [some (.inr [52]), some (.inr [20, 21, 22, 23, 24, 25, 26, 27]), some (.inl (.inl (.inr (.ofNat 46)))), none, none], []), ([], none), ([], [], none, ([], [])), ([(52, 6), (58, 0), (58, 1), (58, 2), (58, 3), (58, 4), (58, 5), (58, 6)], [54, 55, 56, 57]))
def kC838_0 : aC := (([(.ofNat 0, .ofNat 3), (.ofNat 47, .ofNat 341), (.ofNat 0, .ofNat 4), (.ofNat 47, .ofNat 341)], [(57, 46, .inl (0, .ofNat 0)), (52, 6, .inl (3, .ofNat 0))], 2, [some (.inr [52]), some (.inr [20, 21, 22, 23, 24, 25, 26, 27]), some (.inl (.inl (.inr (.ofNat 46)))), some (.inl (.inl (.inl (2, .ofNat 0)))), none], []), ([], []), (4, [(-1, 2)]))
theorem ks838 : aseg kS krf kB [kE542, kE543] (ksp []) kE838 [kC838_0] 30000 (none) = true := by decide +kernel
theorem ks838_0 : aseg kS krf kB [kE542, kE543] (ksp []) kE838 [kC838_0] 30000 (some kC838_0) = true := by decide +kernel
theorem kok838 : aOK kS krf kB kE838 := aOK_of (kal1 kok542 (kal1 kok543 kal0)) (kcl1 ks838_0 kcl0) ks838
/-- ColdShod$StrokePlan.addNext(LColdShod$Idea;I)V -/
def kE839 : aE := (83, 3, ([(.ofNat 0, .ofNat 3), (.ofNat 46, .ofNat 341)], [(57, 45, .inl (0, .ofNat 0)), (52, 6, .inl (1, .ofNat 0))], 0, [some (.inr [52]), some (.inr [20, 21, 22, 23, 24, 25, 26, 27]), some (.inl (.inl (.inr (.ofNat 45)))), none, none], []), ([], none), ([], [], none, ([], [])), ([(52, 6), (58, 0), (58, 1), (58, 2), (58, 3), (58, 4), (58, 5), (58, 6)], [54, 55, 56, 57]))
def kC839_0 : aC := (([(.ofNat 0, .ofNat 3), (.ofNat 46, .ofNat 341), (.ofNat 0, .ofNat 4), (.ofNat 46, .ofNat 341)], [(57, 45, .inl (0, .ofNat 0)), (52, 6, .inl (3, .ofNat 0))], 2, [some (.inr [52]), some (.inr [20, 21, 22, 23, 24, 25, 26, 27]), some (.inl (.inl (.inr (.ofNat 45)))), some (.inl (.inl (.inl (2, .ofNat 0)))), none], []), ([], []), (4, [(-1, 2)]))
theorem ks839 : aseg kS krf kB [kE542, kE543] (ksp []) kE839 [kC839_0] 30000 (none) = true := by decide +kernel
theorem ks839_0 : aseg kS krf kB [kE542, kE543] (ksp []) kE839 [kC839_0] 30000 (some kC839_0) = true := by decide +kernel
theorem kok839 : aOK kS krf kB kE839 := aOK_of (kal1 kok542 (kal1 kok543 kal0)) (kcl1 ks839_0 kcl0) ks839
/-- ColdShod$StrokePlan.addNext(LColdShod$Idea;I)V -/
def kE840 : aE := (83, 3, ([(.ofNat 0, .ofNat 3), (.ofNat 45, .ofNat 341)], [(57, 44, .inl (0, .ofNat 0)), (52, 6, .inl (1, .ofNat 0))], 0, [some (.inr [52]), some (.inr [20, 21, 22, 23, 24, 25, 26, 27]), some (.inl (.inl (.inr (.ofNat 44)))), none, none], []), ([], none), ([], [], none, ([], [])), ([(52, 6), (58, 0), (58, 1), (58, 2), (58, 3), (58, 4), (58, 5), (58, 6)], [54, 55, 56, 57]))
def kC840_0 : aC := (([(.ofNat 0, .ofNat 3), (.ofNat 45, .ofNat 341), (.ofNat 0, .ofNat 4), (.ofNat 45, .ofNat 341)], [(57, 44, .inl (0, .ofNat 0)), (52, 6, .inl (3, .ofNat 0))], 2, [some (.inr [52]), some (.inr [20, 21, 22, 23, 24, 25, 26, 27]), some (.inl (.inl (.inr (.ofNat 44)))), some (.inl (.inl (.inl (2, .ofNat 0)))), none], []), ([], []), (4, [(-1, 2)]))
theorem ks840 : aseg kS krf kB [kE542, kE543] (ksp []) kE840 [kC840_0] 30000 (none) = true := by decide +kernel
theorem ks840_0 : aseg kS krf kB [kE542, kE543] (ksp []) kE840 [kC840_0] 30000 (some kC840_0) = true := by decide +kernel
theorem kok840 : aOK kS krf kB kE840 := aOK_of (kal1 kok542 (kal1 kok543 kal0)) (kcl1 ks840_0 kcl0) ks840
/-- ColdShod$StrokePlan.addNext(LColdShod$Idea;I)V -/
def kE841 : aE := (83, 3, ([(.ofNat 0, .ofNat 3), (.ofNat 44, .ofNat 341)], [(57, 43, .inl (0, .ofNat 0)), (52, 6, .inl (1, .ofNat 0))], 0, [some (.inr [52]), some (.inr [20, 21, 22, 23, 24, 25, 26, 27]), some (.inl (.inl (.inr (.ofNat 43)))), none, none], []), ([], none), ([], [], none, ([], [])), ([(52, 6), (58, 0), (58, 1), (58, 2), (58, 3), (58, 4), (58, 5), (58, 6)], [54, 55, 56, 57]))
def kC841_0 : aC := (([(.ofNat 0, .ofNat 3), (.ofNat 44, .ofNat 341), (.ofNat 0, .ofNat 4), (.ofNat 44, .ofNat 341)], [(57, 43, .inl (0, .ofNat 0)), (52, 6, .inl (3, .ofNat 0))], 2, [some (.inr [52]), some (.inr [20, 21, 22, 23, 24, 25, 26, 27]), some (.inl (.inl (.inr (.ofNat 43)))), some (.inl (.inl (.inl (2, .ofNat 0)))), none], []), ([], []), (4, [(-1, 2)]))
theorem ks841 : aseg kS krf kB [kE542, kE543] (ksp []) kE841 [kC841_0] 30000 (none) = true := by decide +kernel
theorem ks841_0 : aseg kS krf kB [kE542, kE543] (ksp []) kE841 [kC841_0] 30000 (some kC841_0) = true := by decide +kernel
theorem kok841 : aOK kS krf kB kE841 := aOK_of (kal1 kok542 (kal1 kok543 kal0)) (kcl1 ks841_0 kcl0) ks841
/-- ColdShod$StrokePlan.addNext(LColdShod$Idea;I)V -/
def kE842 : aE := (83, 3, ([(.ofNat 0, .ofNat 3), (.ofNat 43, .ofNat 341)], [(57, 42, .inl (0, .ofNat 0)), (52, 6, .inl (1, .ofNat 0))], 0, [some (.inr [52]), some (.inr [20, 21, 22, 23, 24, 25, 26, 27]), some (.inl (.inl (.inr (.ofNat 42)))), none, none], []), ([], none), ([], [], none, ([], [])), ([(52, 6), (58, 0), (58, 1), (58, 2), (58, 3), (58, 4), (58, 5), (58, 6)], [54, 55, 56, 57]))
def kC842_0 : aC := (([(.ofNat 0, .ofNat 3), (.ofNat 43, .ofNat 341), (.ofNat 0, .ofNat 4), (.ofNat 43, .ofNat 341)], [(57, 42, .inl (0, .ofNat 0)), (52, 6, .inl (3, .ofNat 0))], 2, [some (.inr [52]), some (.inr [20, 21, 22, 23, 24, 25, 26, 27]), some (.inl (.inl (.inr (.ofNat 42)))), some (.inl (.inl (.inl (2, .ofNat 0)))), none], []), ([], []), (4, [(-1, 2)]))
theorem ks842 : aseg kS krf kB [kE542, kE543] (ksp []) kE842 [kC842_0] 30000 (none) = true := by decide +kernel
theorem ks842_0 : aseg kS krf kB [kE542, kE543] (ksp []) kE842 [kC842_0] 30000 (some kC842_0) = true := by decide +kernel
theorem kok842 : aOK kS krf kB kE842 := aOK_of (kal1 kok542 (kal1 kok543 kal0)) (kcl1 ks842_0 kcl0) ks842
/-- ColdShod$StrokePlan.addNext(LColdShod$Idea;I)V -/
def kE843 : aE := (83, 3, ([(.ofNat 0, .ofNat 3), (.ofNat 42, .ofNat 341)], [(57, 41, .inl (0, .ofNat 0)), (52, 6, .inl (1, .ofNat 0))], 0, [some (.inr [52]), some (.inr [20, 21, 22, 23, 24, 25, 26, 27]), some (.inl (.inl (.inr (.ofNat 41)))), none, none], []), ([], none), ([], [], none, ([], [])), ([(52, 6), (58, 0), (58, 1), (58, 2), (58, 3), (58, 4), (58, 5), (58, 6)], [54, 55, 56, 57]))
def kC843_0 : aC := (([(.ofNat 0, .ofNat 3), (.ofNat 42, .ofNat 341), (.ofNat 0, .ofNat 4), (.ofNat 42, .ofNat 341)], [(57, 41, .inl (0, .ofNat 0)), (52, 6, .inl (3, .ofNat 0))], 2, [some (.inr [52]), some (.inr [20, 21, 22, 23, 24, 25, 26, 27]), some (.inl (.inl (.inr (.ofNat 41)))), some (.inl (.inl (.inl (2, .ofNat 0)))), none], []), ([], []), (4, [(-1, 2)]))
theorem ks843 : aseg kS krf kB [kE542, kE543] (ksp []) kE843 [kC843_0] 30000 (none) = true := by decide +kernel
theorem ks843_0 : aseg kS krf kB [kE542, kE543] (ksp []) kE843 [kC843_0] 30000 (some kC843_0) = true := by decide +kernel
theorem kok843 : aOK kS krf kB kE843 := aOK_of (kal1 kok542 (kal1 kok543 kal0)) (kcl1 ks843_0 kcl0) ks843
/-- ColdShod$StrokePlan.addNext(LColdShod$Idea;I)V -/
def kE844 : aE := (83, 3, ([(.ofNat 0, .ofNat 3), (.ofNat 41, .ofNat 341)], [(57, 40, .inl (0, .ofNat 0)), (52, 6, .inl (1, .ofNat 0))], 0, [some (.inr [52]), some (.inr [20, 21, 22, 23, 24, 25, 26, 27]), some (.inl (.inl (.inr (.ofNat 40)))), none, none], []), ([], none), ([], [], none, ([], [])), ([(52, 6), (58, 0), (58, 1), (58, 2), (58, 3), (58, 4), (58, 5), (58, 6)], [54, 55, 56, 57]))
def kC844_0 : aC := (([(.ofNat 0, .ofNat 3), (.ofNat 41, .ofNat 341), (.ofNat 0, .ofNat 4), (.ofNat 41, .ofNat 341)], [(57, 40, .inl (0, .ofNat 0)), (52, 6, .inl (3, .ofNat 0))], 2, [some (.inr [52]), some (.inr [20, 21, 22, 23, 24, 25, 26, 27]), some (.inl (.inl (.inr (.ofNat 40)))), some (.inl (.inl (.inl (2, .ofNat 0)))), none], []), ([], []), (4, [(-1, 2)]))
theorem ks844 : aseg kS krf kB [kE542, kE543] (ksp []) kE844 [kC844_0] 30000 (none) = true := by decide +kernel
theorem ks844_0 : aseg kS krf kB [kE542, kE543] (ksp []) kE844 [kC844_0] 30000 (some kC844_0) = true := by decide +kernel
theorem kok844 : aOK kS krf kB kE844 := aOK_of (kal1 kok542 (kal1 kok543 kal0)) (kcl1 ks844_0 kcl0) ks844
/-- ColdShod$StrokePlan.addNext(LColdShod$Idea;I)V -/
def kE845 : aE := (83, 3, ([(.ofNat 0, .ofNat 3), (.ofNat 40, .ofNat 341)], [(57, 39, .inl (0, .ofNat 0)), (52, 6, .inl (1, .ofNat 0))], 0, [some (.inr [52]), some (.inr [20, 21, 22, 23, 24, 25, 26, 27]), some (.inl (.inl (.inr (.ofNat 39)))), none, none], []), ([], none), ([], [], none, ([], [])), ([(52, 6), (58, 0), (58, 1), (58, 2), (58, 3), (58, 4), (58, 5), (58, 6)], [54, 55, 56, 57]))
def kC845_0 : aC := (([(.ofNat 0, .ofNat 3), (.ofNat 40, .ofNat 341), (.ofNat 0, .ofNat 4), (.ofNat 40, .ofNat 341)], [(57, 39, .inl (0, .ofNat 0)), (52, 6, .inl (3, .ofNat 0))], 2, [some (.inr [52]), some (.inr [20, 21, 22, 23, 24, 25, 26, 27]), some (.inl (.inl (.inr (.ofNat 39)))), some (.inl (.inl (.inl (2, .ofNat 0)))), none], []), ([], []), (4, [(-1, 2)]))
theorem ks845 : aseg kS krf kB [kE542, kE543] (ksp []) kE845 [kC845_0] 30000 (none) = true := by decide +kernel
theorem ks845_0 : aseg kS krf kB [kE542, kE543] (ksp []) kE845 [kC845_0] 30000 (some kC845_0) = true := by decide +kernel
theorem kok845 : aOK kS krf kB kE845 := aOK_of (kal1 kok542 (kal1 kok543 kal0)) (kcl1 ks845_0 kcl0) ks845
/-- ColdShod$StrokePlan.addNext(LColdShod$Idea;I)V -/
def kE846 : aE := (83, 3, ([(.ofNat 0, .ofNat 3), (.ofNat 39, .ofNat 341)], [(57, 38, .inl (0, .ofNat 0)), (52, 6, .inl (1, .ofNat 0))], 0, [some (.inr [52]), some (.inr [20, 21, 22, 23, 24, 25, 26, 27]), some (.inl (.inl (.inr (.ofNat 38)))), none, none], []), ([], none), ([], [], none, ([], [])), ([(52, 6), (58, 0), (58, 1), (58, 2), (58, 3), (58, 4), (58, 5), (58, 6)], [54, 55, 56, 57]))
def kC846_0 : aC := (([(.ofNat 0, .ofNat 3), (.ofNat 39, .ofNat 341), (.ofNat 0, .ofNat 4), (.ofNat 39, .ofNat 341)], [(57, 38, .inl (0, .ofNat 0)), (52, 6, .inl (3, .ofNat 0))], 2, [some (.inr [52]), some (.inr [20, 21, 22, 23, 24, 25, 26, 27]), some (.inl (.inl (.inr (.ofNat 38)))), some (.inl (.inl (.inl (2, .ofNat 0)))), none], []), ([], []), (4, [(-1, 2)]))
theorem ks846 : aseg kS krf kB [kE542, kE543] (ksp []) kE846 [kC846_0] 30000 (none) = true := by decide +kernel
theorem ks846_0 : aseg kS krf kB [kE542, kE543] (ksp []) kE846 [kC846_0] 30000 (some kC846_0) = true := by decide +kernel
theorem kok846 : aOK kS krf kB kE846 := aOK_of (kal1 kok542 (kal1 kok543 kal0)) (kcl1 ks846_0 kcl0) ks846
/-- ColdShod$StrokePlan.addNext(LColdShod$Idea;I)V -/
def kE847 : aE := (83, 3, ([(.ofNat 0, .ofNat 3), (.ofNat 38, .ofNat 341)], [(57, 37, .inl (0, .ofNat 0)), (52, 6, .inl (1, .ofNat 0))], 0, [some (.inr [52]), some (.inr [20, 21, 22, 23, 24, 25, 26, 27]), some (.inl (.inl (.inr (.ofNat 37)))), none, none], []), ([], none), ([], [], none, ([], [])), ([(52, 6), (58, 0), (58, 1), (58, 2), (58, 3), (58, 4), (58, 5), (58, 6)], [54, 55, 56, 57]))
def kC847_0 : aC := (([(.ofNat 0, .ofNat 3), (.ofNat 38, .ofNat 341), (.ofNat 0, .ofNat 4), (.ofNat 38, .ofNat 341)], [(57, 37, .inl (0, .ofNat 0)), (52, 6, .inl (3, .ofNat 0))], 2, [some (.inr [52]), some (.inr [20, 21, 22, 23, 24, 25, 26, 27]), some (.inl (.inl (.inr (.ofNat 37)))), some (.inl (.inl (.inl (2, .ofNat 0)))), none], []), ([], []), (4, [(-1, 2)]))
theorem ks847 : aseg kS krf kB [kE542, kE543] (ksp []) kE847 [kC847_0] 30000 (none) = true := by decide +kernel
theorem ks847_0 : aseg kS krf kB [kE542, kE543] (ksp []) kE847 [kC847_0] 30000 (some kC847_0) = true := by decide +kernel
theorem kok847 : aOK kS krf kB kE847 := aOK_of (kal1 kok542 (kal1 kok543 kal0)) (kcl1 ks847_0 kcl0) ks847
/-- ColdShod$StrokePlan.addNext(LColdShod$Idea;I)V -/
def kE848 : aE := (83, 3, ([(.ofNat 0, .ofNat 3), (.ofNat 37, .ofNat 341)], [(57, 36, .inl (0, .ofNat 0)), (52, 6, .inl (1, .ofNat 0))], 0, [some (.inr [52]), some (.inr [20, 21, 22, 23, 24, 25, 26, 27]), some (.inl (.inl (.inr (.ofNat 36)))), none, none], []), ([], none), ([], [], none, ([], [])), ([(52, 6), (58, 0), (58, 1), (58, 2), (58, 3), (58, 4), (58, 5), (58, 6)], [54, 55, 56, 57]))
def kC848_0 : aC := (([(.ofNat 0, .ofNat 3), (.ofNat 37, .ofNat 341), (.ofNat 0, .ofNat 4), (.ofNat 37, .ofNat 341)], [(57, 36, .inl (0, .ofNat 0)), (52, 6, .inl (3, .ofNat 0))], 2, [some (.inr [52]), some (.inr [20, 21, 22, 23, 24, 25, 26, 27]), some (.inl (.inl (.inr (.ofNat 36)))), some (.inl (.inl (.inl (2, .ofNat 0)))), none], []), ([], []), (4, [(-1, 2)]))
theorem ks848 : aseg kS krf kB [kE542, kE543] (ksp []) kE848 [kC848_0] 30000 (none) = true := by decide +kernel
theorem ks848_0 : aseg kS krf kB [kE542, kE543] (ksp []) kE848 [kC848_0] 30000 (some kC848_0) = true := by decide +kernel
theorem kok848 : aOK kS krf kB kE848 := aOK_of (kal1 kok542 (kal1 kok543 kal0)) (kcl1 ks848_0 kcl0) ks848
/-- ColdShod$StrokePlan.addNext(LColdShod$Idea;I)V -/
def kE849 : aE := (83, 3, ([(.ofNat 0, .ofNat 3), (.ofNat 36, .ofNat 341)], [(57, 35, .inl (0, .ofNat 0)), (52, 6, .inl (1, .ofNat 0))], 0, [some (.inr [52]), some (.inr [20, 21, 22, 23, 24, 25, 26, 27]), some (.inl (.inl (.inr (.ofNat 35)))), none, none], []), ([], none), ([], [], none, ([], [])), ([(52, 6), (58, 0), (58, 1), (58, 2), (58, 3), (58, 4), (58, 5), (58, 6)], [54, 55, 56, 57]))
def kC849_0 : aC := (([(.ofNat 0, .ofNat 3), (.ofNat 36, .ofNat 341), (.ofNat 0, .ofNat 4), (.ofNat 36, .ofNat 341)], [(57, 35, .inl (0, .ofNat 0)), (52, 6, .inl (3, .ofNat 0))], 2, [some (.inr [52]), some (.inr [20, 21, 22, 23, 24, 25, 26, 27]), some (.inl (.inl (.inr (.ofNat 35)))), some (.inl (.inl (.inl (2, .ofNat 0)))), none], []), ([], []), (4, [(-1, 2)]))
theorem ks849 : aseg kS krf kB [kE542, kE543] (ksp []) kE849 [kC849_0] 30000 (none) = true := by decide +kernel
theorem ks849_0 : aseg kS krf kB [kE542, kE543] (ksp []) kE849 [kC849_0] 30000 (some kC849_0) = true := by decide +kernel
theorem kok849 : aOK kS krf kB kE849 := aOK_of (kal1 kok542 (kal1 kok543 kal0)) (kcl1 ks849_0 kcl0) ks849
/-- ColdShod$StrokePlan.addNext(LColdShod$Idea;I)V -/
def kE850 : aE := (83, 3, ([(.ofNat 0, .ofNat 3), (.ofNat 35, .ofNat 341)], [(57, 34, .inl (0, .ofNat 0)), (52, 6, .inl (1, .ofNat 0))], 0, [some (.inr [52]), some (.inr [20, 21, 22, 23, 24, 25, 26, 27]), some (.inl (.inl (.inr (.ofNat 34)))), none, none], []), ([], none), ([], [], none, ([], [])), ([(52, 6), (58, 0), (58, 1), (58, 2), (58, 3), (58, 4), (58, 5), (58, 6)], [54, 55, 56, 57]))
def kC850_0 : aC := (([(.ofNat 0, .ofNat 3), (.ofNat 35, .ofNat 341), (.ofNat 0, .ofNat 4), (.ofNat 35, .ofNat 341)], [(57, 34, .inl (0, .ofNat 0)), (52, 6, .inl (3, .ofNat 0))], 2, [some (.inr [52]), some (.inr [20, 21, 22, 23, 24, 25, 26, 27]), some (.inl (.inl (.inr (.ofNat 34)))), some (.inl (.inl (.inl (2, .ofNat 0)))), none], []), ([], []), (4, [(-1, 2)]))
theorem ks850 : aseg kS krf kB [kE542, kE543] (ksp []) kE850 [kC850_0] 30000 (none) = true := by decide +kernel
theorem ks850_0 : aseg kS krf kB [kE542, kE543] (ksp []) kE850 [kC850_0] 30000 (some kC850_0) = true := by decide +kernel
theorem kok850 : aOK kS krf kB kE850 := aOK_of (kal1 kok542 (kal1 kok543 kal0)) (kcl1 ks850_0 kcl0) ks850
/-- ColdShod$StrokePlan.addNext(LColdShod$Idea;I)V -/
def kE851 : aE := (83, 3, ([(.ofNat 0, .ofNat 3), (.ofNat 34, .ofNat 341)], [(57, 33, .inl (0, .ofNat 0)), (52, 6, .inl (1, .ofNat 0))], 0, [some (.inr [52]), some (.inr [20, 21, 22, 23, 24, 25, 26, 27]), some (.inl (.inl (.inr (.ofNat 33)))), none, none], []), ([], none), ([], [], none, ([], [])), ([(52, 6), (58, 0), (58, 1), (58, 2), (58, 3), (58, 4), (58, 5), (58, 6)], [54, 55, 56, 57]))
def kC851_0 : aC := (([(.ofNat 0, .ofNat 3), (.ofNat 34, .ofNat 341), (.ofNat 0, .ofNat 4), (.ofNat 34, .ofNat 341)], [(57, 33, .inl (0, .ofNat 0)), (52, 6, .inl (3, .ofNat 0))], 2, [some (.inr [52]), some (.inr [20, 21, 22, 23, 24, 25, 26, 27]), some (.inl (.inl (.inr (.ofNat 33)))), some (.inl (.inl (.inl (2, .ofNat 0)))), none], []), ([], []), (4, [(-1, 2)]))
theorem ks851 : aseg kS krf kB [kE542, kE543] (ksp []) kE851 [kC851_0] 30000 (none) = true := by decide +kernel
theorem ks851_0 : aseg kS krf kB [kE542, kE543] (ksp []) kE851 [kC851_0] 30000 (some kC851_0) = true := by decide +kernel
theorem kok851 : aOK kS krf kB kE851 := aOK_of (kal1 kok542 (kal1 kok543 kal0)) (kcl1 ks851_0 kcl0) ks851
/-- ColdShod$StrokePlan.addNext(LColdShod$Idea;I)V -/
def kE852 : aE := (83, 3, ([(.ofNat 0, .ofNat 3), (.ofNat 33, .ofNat 341)], [(57, 32, .inl (0, .ofNat 0)), (52, 6, .inl (1, .ofNat 0))], 0, [some (.inr [52]), some (.inr [20, 21, 22, 23, 24, 25, 26, 27]), some (.inl (.inl (.inr (.ofNat 32)))), none, none], []), ([], none), ([], [], none, ([], [])), ([(52, 6), (58, 0), (58, 1), (58, 2), (58, 3), (58, 4), (58, 5), (58, 6)], [54, 55, 56, 57]))
def kC852_0 : aC := (([(.ofNat 0, .ofNat 3), (.ofNat 33, .ofNat 341), (.ofNat 0, .ofNat 4), (.ofNat 33, .ofNat 341)], [(57, 32, .inl (0, .ofNat 0)), (52, 6, .inl (3, .ofNat 0))], 2, [some (.inr [52]), some (.inr [20, 21, 22, 23, 24, 25, 26, 27]), some (.inl (.inl (.inr (.ofNat 32)))), some (.inl (.inl (.inl (2, .ofNat 0)))), none], []), ([], []), (4, [(-1, 2)]))
theorem ks852 : aseg kS krf kB [kE542, kE543] (ksp []) kE852 [kC852_0] 30000 (none) = true := by decide +kernel
theorem ks852_0 : aseg kS krf kB [kE542, kE543] (ksp []) kE852 [kC852_0] 30000 (some kC852_0) = true := by decide +kernel
theorem kok852 : aOK kS krf kB kE852 := aOK_of (kal1 kok542 (kal1 kok543 kal0)) (kcl1 ks852_0 kcl0) ks852
/-- ColdShod$StrokePlan.addNext(LColdShod$Idea;I)V -/
def kE853 : aE := (83, 3, ([(.ofNat 0, .ofNat 3), (.ofNat 32, .ofNat 341)], [(57, 31, .inl (0, .ofNat 0)), (52, 6, .inl (1, .ofNat 0))], 0, [some (.inr [52]), some (.inr [20, 21, 22, 23, 24, 25, 26, 27]), some (.inl (.inl (.inr (.ofNat 31)))), none, none], []), ([], none), ([], [], none, ([], [])), ([(52, 6), (58, 0), (58, 1), (58, 2), (58, 3), (58, 4), (58, 5), (58, 6)], [54, 55, 56, 57]))
def kC853_0 : aC := (([(.ofNat 0, .ofNat 3), (.ofNat 32, .ofNat 341), (.ofNat 0, .ofNat 4), (.ofNat 32, .ofNat 341)], [(57, 31, .inl (0, .ofNat 0)), (52, 6, .inl (3, .ofNat 0))], 2, [some (.inr [52]), some (.inr [20, 21, 22, 23, 24, 25, 26, 27]), some (.inl (.inl (.inr (.ofNat 31)))), some (.inl (.inl (.inl (2, .ofNat 0)))), none], []), ([], []), (4, [(-1, 2)]))
theorem ks853 : aseg kS krf kB [kE542, kE543] (ksp []) kE853 [kC853_0] 30000 (none) = true := by decide +kernel
theorem ks853_0 : aseg kS krf kB [kE542, kE543] (ksp []) kE853 [kC853_0] 30000 (some kC853_0) = true := by decide +kernel
theorem kok853 : aOK kS krf kB kE853 := aOK_of (kal1 kok542 (kal1 kok543 kal0)) (kcl1 ks853_0 kcl0) ks853
/-- ColdShod$StrokePlan.addNext(LColdShod$Idea;I)V -/
def kE854 : aE := (83, 3, ([(.ofNat 0, .ofNat 3), (.ofNat 31, .ofNat 341)], [(57, 30, .inl (0, .ofNat 0)), (52, 6, .inl (1, .ofNat 0))], 0, [some (.inr [52]), some (.inr [20, 21, 22, 23, 24, 25, 26, 27]), some (.inl (.inl (.inr (.ofNat 30)))), none, none], []), ([], none), ([], [], none, ([], [])), ([(52, 6), (58, 0), (58, 1), (58, 2), (58, 3), (58, 4), (58, 5), (58, 6)], [54, 55, 56, 57]))
def kC854_0 : aC := (([(.ofNat 0, .ofNat 3), (.ofNat 31, .ofNat 341), (.ofNat 0, .ofNat 4), (.ofNat 31, .ofNat 341)], [(57, 30, .inl (0, .ofNat 0)), (52, 6, .inl (3, .ofNat 0))], 2, [some (.inr [52]), some (.inr [20, 21, 22, 23, 24, 25, 26, 27]), some (.inl (.inl (.inr (.ofNat 30)))), some (.inl (.inl (.inl (2, .ofNat 0)))), none], []), ([], []), (4, [(-1, 2)]))
theorem ks854 : aseg kS krf kB [kE542, kE543] (ksp []) kE854 [kC854_0] 30000 (none) = true := by decide +kernel
theorem ks854_0 : aseg kS krf kB [kE542, kE543] (ksp []) kE854 [kC854_0] 30000 (some kC854_0) = true := by decide +kernel
theorem kok854 : aOK kS krf kB kE854 := aOK_of (kal1 kok542 (kal1 kok543 kal0)) (kcl1 ks854_0 kcl0) ks854
/-- ColdShod$StrokePlan.addNext(LColdShod$Idea;I)V -/
def kE855 : aE := (83, 3, ([(.ofNat 0, .ofNat 3), (.ofNat 30, .ofNat 341)], [(57, 29, .inl (0, .ofNat 0)), (52, 6, .inl (1, .ofNat 0))], 0, [some (.inr [52]), some (.inr [20, 21, 22, 23, 24, 25, 26, 27]), some (.inl (.inl (.inr (.ofNat 29)))), none, none], []), ([], none), ([], [], none, ([], [])), ([(52, 6), (58, 0), (58, 1), (58, 2), (58, 3), (58, 4), (58, 5), (58, 6)], [54, 55, 56, 57]))
def kC855_0 : aC := (([(.ofNat 0, .ofNat 3), (.ofNat 30, .ofNat 341), (.ofNat 0, .ofNat 4), (.ofNat 30, .ofNat 341)], [(57, 29, .inl (0, .ofNat 0)), (52, 6, .inl (3, .ofNat 0))], 2, [some (.inr [52]), some (.inr [20, 21, 22, 23, 24, 25, 26, 27]), some (.inl (.inl (.inr (.ofNat 29)))), some (.inl (.inl (.inl (2, .ofNat 0)))), none], []), ([], []), (4, [(-1, 2)]))
theorem ks855 : aseg kS krf kB [kE542, kE543] (ksp []) kE855 [kC855_0] 30000 (none) = true := by decide +kernel
theorem ks855_0 : aseg kS krf kB [kE542, kE543] (ksp []) kE855 [kC855_0] 30000 (some kC855_0) = true := by decide +kernel
theorem kok855 : aOK kS krf kB kE855 := aOK_of (kal1 kok542 (kal1 kok543 kal0)) (kcl1 ks855_0 kcl0) ks855
/-- ColdShod$StrokePlan.addNext(LColdShod$Idea;I)V -/
def kE856 : aE := (83, 3, ([(.ofNat 0, .ofNat 3), (.ofNat 29, .ofNat 341)], [(57, 28, .inl (0, .ofNat 0)), (52, 6, .inl (1, .ofNat 0))], 0, [some (.inr [52]), some (.inr [20, 21, 22, 23, 24, 25, 26, 27]), some (.inl (.inl (.inr (.ofNat 28)))), none, none], []), ([], none), ([], [], none, ([], [])), ([(52, 6), (58, 0), (58, 1), (58, 2), (58, 3), (58, 4), (58, 5), (58, 6)], [54, 55, 56, 57]))
def kC856_0 : aC := (([(.ofNat 0, .ofNat 3), (.ofNat 29, .ofNat 341), (.ofNat 0, .ofNat 4), (.ofNat 29, .ofNat 341)], [(57, 28, .inl (0, .ofNat 0)), (52, 6, .inl (3, .ofNat 0))], 2, [some (.inr [52]), some (.inr [20, 21, 22, 23, 24, 25, 26, 27]), some (.inl (.inl (.inr (.ofNat 28)))), some (.inl (.inl (.inl (2, .ofNat 0)))), none], []), ([], []), (4, [(-1, 2)]))
theorem ks856 : aseg kS krf kB [kE542, kE543] (ksp []) kE856 [kC856_0] 30000 (none) = true := by decide +kernel
theorem ks856_0 : aseg kS krf kB [kE542, kE543] (ksp []) kE856 [kC856_0] 30000 (some kC856_0) = true := by decide +kernel
theorem kok856 : aOK kS krf kB kE856 := aOK_of (kal1 kok542 (kal1 kok543 kal0)) (kcl1 ks856_0 kcl0) ks856
/-- ColdShod$StrokePlan.addNext(LColdShod$Idea;I)V -/
def kE857 : aE := (83, 3, ([(.ofNat 0, .ofNat 3), (.ofNat 28, .ofNat 341)], [(57, 27, .inl (0, .ofNat 0)), (52, 6, .inl (1, .ofNat 0))], 0, [some (.inr [52]), some (.inr [20, 21, 22, 23, 24, 25, 26, 27]), some (.inl (.inl (.inr (.ofNat 27)))), none, none], []), ([], none), ([], [], none, ([], [])), ([(52, 6), (58, 0), (58, 1), (58, 2), (58, 3), (58, 4), (58, 5), (58, 6)], [54, 55, 56, 57]))
def kC857_0 : aC := (([(.ofNat 0, .ofNat 3), (.ofNat 28, .ofNat 341), (.ofNat 0, .ofNat 4), (.ofNat 28, .ofNat 341)], [(57, 27, .inl (0, .ofNat 0)), (52, 6, .inl (3, .ofNat 0))], 2, [some (.inr [52]), some (.inr [20, 21, 22, 23, 24, 25, 26, 27]), some (.inl (.inl (.inr (.ofNat 27)))), some (.inl (.inl (.inl (2, .ofNat 0)))), none], []), ([], []), (4, [(-1, 2)]))
theorem ks857 : aseg kS krf kB [kE542, kE543] (ksp []) kE857 [kC857_0] 30000 (none) = true := by decide +kernel
theorem ks857_0 : aseg kS krf kB [kE542, kE543] (ksp []) kE857 [kC857_0] 30000 (some kC857_0) = true := by decide +kernel
theorem kok857 : aOK kS krf kB kE857 := aOK_of (kal1 kok542 (kal1 kok543 kal0)) (kcl1 ks857_0 kcl0) ks857
/-- ColdShod$StrokePlan.addNext(LColdShod$Idea;I)V -/
def kE858 : aE := (83, 3, ([(.ofNat 0, .ofNat 3), (.ofNat 27, .ofNat 341)], [(57, 26, .inl (0, .ofNat 0)), (52, 6, .inl (1, .ofNat 0))], 0, [some (.inr [52]), some (.inr [20, 21, 22, 23, 24, 25, 26, 27]), some (.inl (.inl (.inr (.ofNat 26)))), none, none], []), ([], none), ([], [], none, ([], [])), ([(52, 6), (58, 0), (58, 1), (58, 2), (58, 3), (58, 4), (58, 5), (58, 6)], [54, 55, 56, 57]))
def kC858_0 : aC := (([(.ofNat 0, .ofNat 3), (.ofNat 27, .ofNat 341), (.ofNat 0, .ofNat 4), (.ofNat 27, .ofNat 341)], [(57, 26, .inl (0, .ofNat 0)), (52, 6, .inl (3, .ofNat 0))], 2, [some (.inr [52]), some (.inr [20, 21, 22, 23, 24, 25, 26, 27]), some (.inl (.inl (.inr (.ofNat 26)))), some (.inl (.inl (.inl (2, .ofNat 0)))), none], []), ([], []), (4, [(-1, 2)]))
theorem ks858 : aseg kS krf kB [kE542, kE543] (ksp []) kE858 [kC858_0] 30000 (none) = true := by decide +kernel
theorem ks858_0 : aseg kS krf kB [kE542, kE543] (ksp []) kE858 [kC858_0] 30000 (some kC858_0) = true := by decide +kernel
theorem kok858 : aOK kS krf kB kE858 := aOK_of (kal1 kok542 (kal1 kok543 kal0)) (kcl1 ks858_0 kcl0) ks858
/-- ColdShod$StrokePlan.addNext(LColdShod$Idea;I)V -/
def kE859 : aE := (83, 3, ([(.ofNat 0, .ofNat 3), (.ofNat 26, .ofNat 341)], [(57, 25, .inl (0, .ofNat 0)), (52, 6, .inl (1, .ofNat 0))], 0, [some (.inr [52]), some (.inr [20, 21, 22, 23, 24, 25, 26, 27]), some (.inl (.inl (.inr (.ofNat 25)))), none, none], []), ([], none), ([], [], none, ([], [])), ([(52, 6), (58, 0), (58, 1), (58, 2), (58, 3), (58, 4), (58, 5), (58, 6)], [54, 55, 56, 57]))
def kC859_0 : aC := (([(.ofNat 0, .ofNat 3), (.ofNat 26, .ofNat 341), (.ofNat 0, .ofNat 4), (.ofNat 26, .ofNat 341)], [(57, 25, .inl (0, .ofNat 0)), (52, 6, .inl (3, .ofNat 0))], 2, [some (.inr [52]), some (.inr [20, 21, 22, 23, 24, 25, 26, 27]), some (.inl (.inl (.inr (.ofNat 25)))), some (.inl (.inl (.inl (2, .ofNat 0)))), none], []), ([], []), (4, [(-1, 2)]))
theorem ks859 : aseg kS krf kB [kE542, kE543] (ksp []) kE859 [kC859_0] 30000 (none) = true := by decide +kernel
theorem ks859_0 : aseg kS krf kB [kE542, kE543] (ksp []) kE859 [kC859_0] 30000 (some kC859_0) = true := by decide +kernel
theorem kok859 : aOK kS krf kB kE859 := aOK_of (kal1 kok542 (kal1 kok543 kal0)) (kcl1 ks859_0 kcl0) ks859
/-- ColdShod$StrokePlan.addNext(LColdShod$Idea;I)V -/
def kE860 : aE := (83, 3, ([(.ofNat 0, .ofNat 3), (.ofNat 25, .ofNat 341)], [(57, 24, .inl (0, .ofNat 0)), (52, 6, .inl (1, .ofNat 0))], 0, [some (.inr [52]), some (.inr [20, 21, 22, 23, 24, 25, 26, 27]), some (.inl (.inl (.inr (.ofNat 24)))), none, none], []), ([], none), ([], [], none, ([], [])), ([(52, 6), (58, 0), (58, 1), (58, 2), (58, 3), (58, 4), (58, 5), (58, 6)], [54, 55, 56, 57]))
def kC860_0 : aC := (([(.ofNat 0, .ofNat 3), (.ofNat 25, .ofNat 341), (.ofNat 0, .ofNat 4), (.ofNat 25, .ofNat 341)], [(57, 24, .inl (0, .ofNat 0)), (52, 6, .inl (3, .ofNat 0))], 2, [some (.inr [52]), some (.inr [20, 21, 22, 23, 24, 25, 26, 27]), some (.inl (.inl (.inr (.ofNat 24)))), some (.inl (.inl (.inl (2, .ofNat 0)))), none], []), ([], []), (4, [(-1, 2)]))
theorem ks860 : aseg kS krf kB [kE542, kE543] (ksp []) kE860 [kC860_0] 30000 (none) = true := by decide +kernel
theorem ks860_0 : aseg kS krf kB [kE542, kE543] (ksp []) kE860 [kC860_0] 30000 (some kC860_0) = true := by decide +kernel
theorem kok860 : aOK kS krf kB kE860 := aOK_of (kal1 kok542 (kal1 kok543 kal0)) (kcl1 ks860_0 kcl0) ks860
/-- ColdShod$StrokePlan.addNext(LColdShod$Idea;I)V -/
def kE861 : aE := (83, 3, ([(.ofNat 0, .ofNat 3), (.ofNat 24, .ofNat 341)], [(57, 23, .inl (0, .ofNat 0)), (52, 6, .inl (1, .ofNat 0))], 0, [some (.inr [52]), some (.inr [20, 21, 22, 23, 24, 25, 26, 27]), some (.inl (.inl (.inr (.ofNat 23)))), none, none], []), ([], none), ([], [], none, ([], [])), ([(52, 6), (58, 0), (58, 1), (58, 2), (58, 3), (58, 4), (58, 5), (58, 6)], [54, 55, 56, 57]))
def kC861_0 : aC := (([(.ofNat 0, .ofNat 3), (.ofNat 24, .ofNat 341), (.ofNat 0, .ofNat 4), (.ofNat 24, .ofNat 341)], [(57, 23, .inl (0, .ofNat 0)), (52, 6, .inl (3, .ofNat 0))], 2, [some (.inr [52]), some (.inr [20, 21, 22, 23, 24, 25, 26, 27]), some (.inl (.inl (.inr (.ofNat 23)))), some (.inl (.inl (.inl (2, .ofNat 0)))), none], []), ([], []), (4, [(-1, 2)]))
theorem ks861 : aseg kS krf kB [kE542, kE543] (ksp []) kE861 [kC861_0] 30000 (none) = true := by decide +kernel
theorem ks861_0 : aseg kS krf kB [kE542, kE543] (ksp []) kE861 [kC861_0] 30000 (some kC861_0) = true := by decide +kernel
theorem kok861 : aOK kS krf kB kE861 := aOK_of (kal1 kok542 (kal1 kok543 kal0)) (kcl1 ks861_0 kcl0) ks861
/-- ColdShod$StrokePlan.addNext(LColdShod$Idea;I)V -/
def kE862 : aE := (83, 3, ([(.ofNat 0, .ofNat 3), (.ofNat 23, .ofNat 341)], [(57, 22, .inl (0, .ofNat 0)), (52, 6, .inl (1, .ofNat 0))], 0, [some (.inr [52]), some (.inr [20, 21, 22, 23, 24, 25, 26, 27]), some (.inl (.inl (.inr (.ofNat 22)))), none, none], []), ([], none), ([], [], none, ([], [])), ([(52, 6), (58, 0), (58, 1), (58, 2), (58, 3), (58, 4), (58, 5), (58, 6)], [54, 55, 56, 57]))
def kC862_0 : aC := (([(.ofNat 0, .ofNat 3), (.ofNat 23, .ofNat 341), (.ofNat 0, .ofNat 4), (.ofNat 23, .ofNat 341)], [(57, 22, .inl (0, .ofNat 0)), (52, 6, .inl (3, .ofNat 0))], 2, [some (.inr [52]), some (.inr [20, 21, 22, 23, 24, 25, 26, 27]), some (.inl (.inl (.inr (.ofNat 22)))), some (.inl (.inl (.inl (2, .ofNat 0)))), none], []), ([], []), (4, [(-1, 2)]))
theorem ks862 : aseg kS krf kB [kE542, kE543] (ksp []) kE862 [kC862_0] 30000 (none) = true := by decide +kernel
theorem ks862_0 : aseg kS krf kB [kE542, kE543] (ksp []) kE862 [kC862_0] 30000 (some kC862_0) = true := by decide +kernel
theorem kok862 : aOK kS krf kB kE862 := aOK_of (kal1 kok542 (kal1 kok543 kal0)) (kcl1 ks862_0 kcl0) ks862
/-- ColdShod$StrokePlan.addNext(LColdShod$Idea;I)V -/
def kE863 : aE := (83, 3, ([(.ofNat 0, .ofNat 3), (.ofNat 22, .ofNat 341)], [(57, 21, .inl (0, .ofNat 0)), (52, 6, .inl (1, .ofNat 0))], 0, [some (.inr [52]), some (.inr [20, 21, 22, 23, 24, 25, 26, 27]), some (.inl (.inl (.inr (.ofNat 21)))), none, none], []), ([], none), ([], [], none, ([], [])), ([(52, 6), (58, 0), (58, 1), (58, 2), (58, 3), (58, 4), (58, 5), (58, 6)], [54, 55, 56, 57]))
def kC863_0 : aC := (([(.ofNat 0, .ofNat 3), (.ofNat 22, .ofNat 341), (.ofNat 0, .ofNat 4), (.ofNat 22, .ofNat 341)], [(57, 21, .inl (0, .ofNat 0)), (52, 6, .inl (3, .ofNat 0))], 2, [some (.inr [52]), some (.inr [20, 21, 22, 23, 24, 25, 26, 27]), some (.inl (.inl (.inr (.ofNat 21)))), some (.inl (.inl (.inl (2, .ofNat 0)))), none], []), ([], []), (4, [(-1, 2)]))
theorem ks863 : aseg kS krf kB [kE542, kE543] (ksp []) kE863 [kC863_0] 30000 (none) = true := by decide +kernel
theorem ks863_0 : aseg kS krf kB [kE542, kE543] (ksp []) kE863 [kC863_0] 30000 (some kC863_0) = true := by decide +kernel
theorem kok863 : aOK kS krf kB kE863 := aOK_of (kal1 kok542 (kal1 kok543 kal0)) (kcl1 ks863_0 kcl0) ks863
/-- ColdShod$StrokePlan.addNext(LColdShod$Idea;I)V -/
def kE864 : aE := (83, 3, ([(.ofNat 0, .ofNat 3), (.ofNat 21, .ofNat 341)], [(57, 20, .inl (0, .ofNat 0)), (52, 6, .inl (1, .ofNat 0))], 0, [some (.inr [52]), some (.inr [20, 21, 22, 23, 24, 25, 26, 27]), some (.inl (.inl (.inr (.ofNat 20)))), none, none], []), ([], none), ([], [], none, ([], [])), ([(52, 6), (58, 0), (58, 1), (58, 2), (58, 3), (58, 4), (58, 5), (58, 6)], [54, 55, 56, 57]))
def kC864_0 : aC := (([(.ofNat 0, .ofNat 3), (.ofNat 21, .ofNat 341), (.ofNat 0, .ofNat 4), (.ofNat 21, .ofNat 341)], [(57, 20, .inl (0, .ofNat 0)), (52, 6, .inl (3, .ofNat 0))], 2, [some (.inr [52]), some (.inr [20, 21, 22, 23, 24, 25, 26, 27]), some (.inl (.inl (.inr (.ofNat 20)))), some (.inl (.inl (.inl (2, .ofNat 0)))), none], []), ([], []), (4, [(-1, 2)]))
theorem ks864 : aseg kS krf kB [kE542, kE543] (ksp []) kE864 [kC864_0] 30000 (none) = true := by decide +kernel
theorem ks864_0 : aseg kS krf kB [kE542, kE543] (ksp []) kE864 [kC864_0] 30000 (some kC864_0) = true := by decide +kernel
theorem kok864 : aOK kS krf kB kE864 := aOK_of (kal1 kok542 (kal1 kok543 kal0)) (kcl1 ks864_0 kcl0) ks864
/-- ColdShod$StrokePlan.addNext(LColdShod$Idea;I)V -/
def kE865 : aE := (83, 3, ([(.ofNat 0, .ofNat 3), (.ofNat 20, .ofNat 341)], [(57, 19, .inl (0, .ofNat 0)), (52, 6, .inl (1, .ofNat 0))], 0, [some (.inr [52]), some (.inr [20, 21, 22, 23, 24, 25, 26, 27]), some (.inl (.inl (.inr (.ofNat 19)))), none, none], []), ([], none), ([], [], none, ([], [])), ([(52, 6), (58, 0), (58, 1), (58, 2), (58, 3), (58, 4), (58, 5), (58, 6)], [54, 55, 56, 57]))
def kC865_0 : aC := (([(.ofNat 0, .ofNat 3), (.ofNat 20, .ofNat 341), (.ofNat 0, .ofNat 4), (.ofNat 20, .ofNat 341)], [(57, 19, .inl (0, .ofNat 0)), (52, 6, .inl (3, .ofNat 0))], 2, [some (.inr [52]), some (.inr [20, 21, 22, 23, 24, 25, 26, 27]), some (.inl (.inl (.inr (.ofNat 19)))), some (.inl (.inl (.inl (2, .ofNat 0)))), none], []), ([], []), (4, [(-1, 2)]))
theorem ks865 : aseg kS krf kB [kE542, kE543] (ksp []) kE865 [kC865_0] 30000 (none) = true := by decide +kernel
theorem ks865_0 : aseg kS krf kB [kE542, kE543] (ksp []) kE865 [kC865_0] 30000 (some kC865_0) = true := by decide +kernel
theorem kok865 : aOK kS krf kB kE865 := aOK_of (kal1 kok542 (kal1 kok543 kal0)) (kcl1 ks865_0 kcl0) ks865
/-- ColdShod$StrokePlan.addNext(LColdShod$Idea;I)V -/
def kE866 : aE := (83, 3, ([(.ofNat 0, .ofNat 3), (.ofNat 19, .ofNat 341)], [(57, 18, .inl (0, .ofNat 0)), (52, 6, .inl (1, .ofNat 0))], 0, [some (.inr [52]), some (.inr [20, 21, 22, 23, 24, 25, 26, 27]), some (.inl (.inl (.inr (.ofNat 18)))), none, none], []), ([], none), ([], [], none, ([], [])), ([(52, 6), (58, 0), (58, 1), (58, 2), (58, 3), (58, 4), (58, 5), (58, 6)], [54, 55, 56, 57]))
def kC866_0 : aC := (([(.ofNat 0, .ofNat 3), (.ofNat 19, .ofNat 341), (.ofNat 0, .ofNat 4), (.ofNat 19, .ofNat 341)], [(57, 18, .inl (0, .ofNat 0)), (52, 6, .inl (3, .ofNat 0))], 2, [some (.inr [52]), some (.inr [20, 21, 22, 23, 24, 25, 26, 27]), some (.inl (.inl (.inr (.ofNat 18)))), some (.inl (.inl (.inl (2, .ofNat 0)))), none], []), ([], []), (4, [(-1, 2)]))
theorem ks866 : aseg kS krf kB [kE542, kE543] (ksp []) kE866 [kC866_0] 30000 (none) = true := by decide +kernel
theorem ks866_0 : aseg kS krf kB [kE542, kE543] (ksp []) kE866 [kC866_0] 30000 (some kC866_0) = true := by decide +kernel
theorem kok866 : aOK kS krf kB kE866 := aOK_of (kal1 kok542 (kal1 kok543 kal0)) (kcl1 ks866_0 kcl0) ks866
/-- ColdShod$StrokePlan.addNext(LColdShod$Idea;I)V -/
def kE867 : aE := (83, 3, ([(.ofNat 0, .ofNat 3), (.ofNat 18, .ofNat 341)], [(57, 17, .inl (0, .ofNat 0)), (52, 6, .inl (1, .ofNat 0))], 0, [some (.inr [52]), some (.inr [20, 21, 22, 23, 24, 25, 26, 27]), some (.inl (.inl (.inr (.ofNat 17)))), none, none], []), ([], none), ([], [], none, ([], [])), ([(52, 6), (58, 0), (58, 1), (58, 2), (58, 3), (58, 4), (58, 5), (58, 6)], [54, 55, 56, 57]))
def kC867_0 : aC := (([(.ofNat 0, .ofNat 3), (.ofNat 18, .ofNat 341), (.ofNat 0, .ofNat 4), (.ofNat 18, .ofNat 341)], [(57, 17, .inl (0, .ofNat 0)), (52, 6, .inl (3, .ofNat 0))], 2, [some (.inr [52]), some (.inr [20, 21, 22, 23, 24, 25, 26, 27]), some (.inl (.inl (.inr (.ofNat 17)))), some (.inl (.inl (.inl (2, .ofNat 0)))), none], []), ([], []), (4, [(-1, 2)]))
theorem ks867 : aseg kS krf kB [kE542, kE543] (ksp []) kE867 [kC867_0] 30000 (none) = true := by decide +kernel
theorem ks867_0 : aseg kS krf kB [kE542, kE543] (ksp []) kE867 [kC867_0] 30000 (some kC867_0) = true := by decide +kernel
theorem kok867 : aOK kS krf kB kE867 := aOK_of (kal1 kok542 (kal1 kok543 kal0)) (kcl1 ks867_0 kcl0) ks867
/-- ColdShod$StrokePlan.addNext(LColdShod$Idea;I)V -/
def kE868 : aE := (83, 3, ([(.ofNat 0, .ofNat 3), (.ofNat 17, .ofNat 341)], [(57, 16, .inl (0, .ofNat 0)), (52, 6, .inl (1, .ofNat 0))], 0, [some (.inr [52]), some (.inr [20, 21, 22, 23, 24, 25, 26, 27]), some (.inl (.inl (.inr (.ofNat 16)))), none, none], []), ([], none), ([], [], none, ([], [])), ([(52, 6), (58, 0), (58, 1), (58, 2), (58, 3), (58, 4), (58, 5), (58, 6)], [54, 55, 56, 57]))
def kC868_0 : aC := (([(.ofNat 0, .ofNat 3), (.ofNat 17, .ofNat 341), (.ofNat 0, .ofNat 4), (.ofNat 17, .ofNat 341)], [(57, 16, .inl (0, .ofNat 0)), (52, 6, .inl (3, .ofNat 0))], 2, [some (.inr [52]), some (.inr [20, 21, 22, 23, 24, 25, 26, 27]), some (.inl (.inl (.inr (.ofNat 16)))), some (.inl (.inl (.inl (2, .ofNat 0)))), none], []), ([], []), (4, [(-1, 2)]))
theorem ks868 : aseg kS krf kB [kE542, kE543] (ksp []) kE868 [kC868_0] 30000 (none) = true := by decide +kernel
theorem ks868_0 : aseg kS krf kB [kE542, kE543] (ksp []) kE868 [kC868_0] 30000 (some kC868_0) = true := by decide +kernel
theorem kok868 : aOK kS krf kB kE868 := aOK_of (kal1 kok542 (kal1 kok543 kal0)) (kcl1 ks868_0 kcl0) ks868
/-- ColdShod$StrokePlan.addNext(LColdShod$Idea;I)V -/
def kE869 : aE := (83, 3, ([(.ofNat 0, .ofNat 3), (.ofNat 16, .ofNat 341)], [(57, 15, .inl (0, .ofNat 0)), (52, 6, .inl (1, .ofNat 0))], 0, [some (.inr [52]), some (.inr [20, 21, 22, 23, 24, 25, 26, 27]), some (.inl (.inl (.inr (.ofNat 15)))), none, none], []), ([], none), ([], [], none, ([], [])), ([(52, 6), (58, 0), (58, 1), (58, 2), (58, 3), (58, 4), (58, 5), (58, 6)], [54, 55, 56, 57]))
def kC869_0 : aC := (([(.ofNat 0, .ofNat 3), (.ofNat 16, .ofNat 341), (.ofNat 0, .ofNat 4), (.ofNat 16, .ofNat 341)], [(57, 15, .inl (0, .ofNat 0)), (52, 6, .inl (3, .ofNat 0))], 2, [some (.inr [52]), some (.inr [20, 21, 22, 23, 24, 25, 26, 27]), some (.inl (.inl (.inr (.ofNat 15)))), some (.inl (.inl (.inl (2, .ofNat 0)))), none], []), ([], []), (4, [(-1, 2)]))
theorem ks869 : aseg kS krf kB [kE542, kE543] (ksp []) kE869 [kC869_0] 30000 (none) = true := by decide +kernel
theorem ks869_0 : aseg kS krf kB [kE542, kE543] (ksp []) kE869 [kC869_0] 30000 (some kC869_0) = true := by decide +kernel
theorem kok869 : aOK kS krf kB kE869 := aOK_of (kal1 kok542 (kal1 kok543 kal0)) (kcl1 ks869_0 kcl0) ks869
/-- ColdShod$StrokePlan.addNext(LColdShod$Idea;I)V -/
def kE870 : aE := (83, 3, ([(.ofNat 0, .ofNat 3), (.ofNat 15, .ofNat 341)], [(57, 14, .inl (0, .ofNat 0)), (52, 6, .inl (1, .ofNat 0))], 0, [some (.inr [52]), some (.inr [20, 21, 22, 23, 24, 25, 26, 27]), some (.inl (.inl (.inr (.ofNat 14)))), none, none], []), ([], none), ([], [], none, ([], [])), ([(52, 6), (58, 0), (58, 1), (58, 2), (58, 3), (58, 4), (58, 5), (58, 6)], [54, 55, 56, 57]))
def kC870_0 : aC := (([(.ofNat 0, .ofNat 3), (.ofNat 15, .ofNat 341), (.ofNat 0, .ofNat 4), (.ofNat 15, .ofNat 341)], [(57, 14, .inl (0, .ofNat 0)), (52, 6, .inl (3, .ofNat 0))], 2, [some (.inr [52]), some (.inr [20, 21, 22, 23, 24, 25, 26, 27]), some (.inl (.inl (.inr (.ofNat 14)))), some (.inl (.inl (.inl (2, .ofNat 0)))), none], []), ([], []), (4, [(-1, 2)]))
theorem ks870 : aseg kS krf kB [kE542, kE543] (ksp []) kE870 [kC870_0] 30000 (none) = true := by decide +kernel
theorem ks870_0 : aseg kS krf kB [kE542, kE543] (ksp []) kE870 [kC870_0] 30000 (some kC870_0) = true := by decide +kernel
theorem kok870 : aOK kS krf kB kE870 := aOK_of (kal1 kok542 (kal1 kok543 kal0)) (kcl1 ks870_0 kcl0) ks870
/-- ColdShod$StrokePlan.addNext(LColdShod$Idea;I)V -/
def kE871 : aE := (83, 3, ([(.ofNat 0, .ofNat 3), (.ofNat 14, .ofNat 341)], [(57, 13, .inl (0, .ofNat 0)), (52, 6, .inl (1, .ofNat 0))], 0, [some (.inr [52]), some (.inr [20, 21, 22, 23, 24, 25, 26, 27]), some (.inl (.inl (.inr (.ofNat 13)))), none, none], []), ([], none), ([], [], none, ([], [])), ([(52, 6), (58, 0), (58, 1), (58, 2), (58, 3), (58, 4), (58, 5), (58, 6)], [54, 55, 56, 57]))
def kC871_0 : aC := (([(.ofNat 0, .ofNat 3), (.ofNat 14, .ofNat 341), (.ofNat 0, .ofNat 4), (.ofNat 14, .ofNat 341)], [(57, 13, .inl (0, .ofNat 0)), (52, 6, .inl (3, .ofNat 0))], 2, [some (.inr [52]), some (.inr [20, 21, 22, 23, 24, 25, 26, 27]), some (.inl (.inl (.inr (.ofNat 13)))), some (.inl (.inl (.inl (2, .ofNat 0)))), none], []), ([], []), (4, [(-1, 2)]))
theorem ks871 : aseg kS krf kB [kE542, kE543] (ksp []) kE871 [kC871_0] 30000 (none) = true := by decide +kernel
theorem ks871_0 : aseg kS krf kB [kE542, kE543] (ksp []) kE871 [kC871_0] 30000 (some kC871_0) = true := by decide +kernel
theorem kok871 : aOK kS krf kB kE871 := aOK_of (kal1 kok542 (kal1 kok543 kal0)) (kcl1 ks871_0 kcl0) ks871
/-- ColdShod$StrokePlan.addNext(LColdShod$Idea;I)V -/
def kE872 : aE := (83, 3, ([(.ofNat 0, .ofNat 3), (.ofNat 13, .ofNat 341)], [(57, 12, .inl (0, .ofNat 0)), (52, 6, .inl (1, .ofNat 0))], 0, [some (.inr [52]), some (.inr [20, 21, 22, 23, 24, 25, 26, 27]), some (.inl (.inl (.inr (.ofNat 12)))), none, none], []), ([], none), ([], [], none, ([], [])), ([(52, 6), (58, 0), (58, 1), (58, 2), (58, 3), (58, 4), (58, 5), (58, 6)], [54, 55, 56, 57]))
def kC872_0 : aC := (([(.ofNat 0, .ofNat 3), (.ofNat 13, .ofNat 341), (.ofNat 0, .ofNat 4), (.ofNat 13, .ofNat 341)], [(57, 12, .inl (0, .ofNat 0)), (52, 6, .inl (3, .ofNat 0))], 2, [some (.inr [52]), some (.inr [20, 21, 22, 23, 24, 25, 26, 27]), some (.inl (.inl (.inr (.ofNat 12)))), some (.inl (.inl (.inl (2, .ofNat 0)))), none], []), ([], []), (4, [(-1, 2)]))
theorem ks872 : aseg kS krf kB [kE542, kE543] (ksp []) kE872 [kC872_0] 30000 (none) = true := by decide +kernel
theorem ks872_0 : aseg kS krf kB [kE542, kE543] (ksp []) kE872 [kC872_0] 30000 (some kC872_0) = true := by decide +kernel
theorem kok872 : aOK kS krf kB kE872 := aOK_of (kal1 kok542 (kal1 kok543 kal0)) (kcl1 ks872_0 kcl0) ks872
/-- ColdShod$StrokePlan.addNext(LColdShod$Idea;I)V -/
def kE873 : aE := (83, 3, ([(.ofNat 0, .ofNat 3), (.ofNat 12, .ofNat 341)], [(57, 11, .inl (0, .ofNat 0)), (52, 6, .inl (1, .ofNat 0))], 0, [some (.inr [52]), some (.inr [20, 21, 22, 23, 24, 25, 26, 27]), some (.inl (.inl (.inr (.ofNat 11)))), none, none], []), ([], none), ([], [], none, ([], [])), ([(52, 6), (58, 0), (58, 1), (58, 2), (58, 3), (58, 4), (58, 5), (58, 6)], [54, 55, 56, 57]))
def kC873_0 : aC := (([(.ofNat 0, .ofNat 3), (.ofNat 12, .ofNat 341), (.ofNat 0, .ofNat 4), (.ofNat 12, .ofNat 341)], [(57, 11, .inl (0, .ofNat 0)), (52, 6, .inl (3, .ofNat 0))], 2, [some (.inr [52]), some (.inr [20, 21, 22, 23, 24, 25, 26, 27]), some (.inl (.inl (.inr (.ofNat 11)))), some (.inl (.inl (.inl (2, .ofNat 0)))), none], []), ([], []), (4, [(-1, 2)]))
theorem ks873 : aseg kS krf kB [kE542, kE543] (ksp []) kE873 [kC873_0] 30000 (none) = true := by decide +kernel
theorem ks873_0 : aseg kS krf kB [kE542, kE543] (ksp []) kE873 [kC873_0] 30000 (some kC873_0) = true := by decide +kernel
theorem kok873 : aOK kS krf kB kE873 := aOK_of (kal1 kok542 (kal1 kok543 kal0)) (kcl1 ks873_0 kcl0) ks873
/-- ColdShod$StrokePlan.addNext(LColdShod$Idea;I)V -/
def kE874 : aE := (83, 3, ([(.ofNat 0, .ofNat 3), (.ofNat 11, .ofNat 341)], [(57, 10, .inl (0, .ofNat 0)), (52, 6, .inl (1, .ofNat 0))], 0, [some (.inr [52]), some (.inr [20, 21, 22, 23, 24, 25, 26, 27]), some (.inl (.inl (.inr (.ofNat 10)))), none, none], []), ([], none), ([], [], none, ([], [])), ([(52, 6), (58, 0), (58, 1), (58, 2), (58, 3), (58, 4), (58, 5), (58, 6)], [54, 55, 56, 57]))
def kC874_0 : aC := (([(.ofNat 0, .ofNat 3), (.ofNat 11, .ofNat 341), (.ofNat 0, .ofNat 4), (.ofNat 11, .ofNat 341)], [(57, 10, .inl (0, .ofNat 0)), (52, 6, .inl (3, .ofNat 0))], 2, [some (.inr [52]), some (.inr [20, 21, 22, 23, 24, 25, 26, 27]), some (.inl (.inl (.inr (.ofNat 10)))), some (.inl (.inl (.inl (2, .ofNat 0)))), none], []), ([], []), (4, [(-1, 2)]))
theorem ks874 : aseg kS krf kB [kE542, kE543] (ksp []) kE874 [kC874_0] 30000 (none) = true := by decide +kernel
theorem ks874_0 : aseg kS krf kB [kE542, kE543] (ksp []) kE874 [kC874_0] 30000 (some kC874_0) = true := by decide +kernel
theorem kok874 : aOK kS krf kB kE874 := aOK_of (kal1 kok542 (kal1 kok543 kal0)) (kcl1 ks874_0 kcl0) ks874
/-- ColdShod$StrokePlan.addNext(LColdShod$Idea;I)V -/
def kE875 : aE := (83, 3, ([(.ofNat 0, .ofNat 3), (.ofNat 10, .ofNat 341)], [(57, 9, .inl (0, .ofNat 0)), (52, 6, .inl (1, .ofNat 0))], 0, [some (.inr [52]), some (.inr [20, 21, 22, 23, 24, 25, 26, 27]), some (.inl (.inl (.inr (.ofNat 9)))), none, none], []), ([], none), ([], [], none, ([], [])), ([(52, 6), (58, 0), (58, 1), (58, 2), (58, 3), (58, 4), (58, 5), (58, 6)], [54, 55, 56, 57]))
def kC875_0 : aC := (([(.ofNat 0, .ofNat 3), (.ofNat 10, .ofNat 341), (.ofNat 0, .ofNat 4), (.ofNat 10, .ofNat 341)], [(57, 9, .inl (0, .ofNat 0)), (52, 6, .inl (3, .ofNat 0))], 2, [some (.inr [52]), some (.inr [20, 21, 22, 23, 24, 25, 26, 27]), some (.inl (.inl (.inr (.ofNat 9)))), some (.inl (.inl (.inl (2, .ofNat 0)))), none], []), ([], []), (4, [(-1, 2)]))
theorem ks875 : aseg kS krf kB [kE542, kE543] (ksp []) kE875 [kC875_0] 30000 (none) = true := by decide +kernel
theorem ks875_0 : aseg kS krf kB [kE542, kE543] (ksp []) kE875 [kC875_0] 30000 (some kC875_0) = true := by decide +kernel
theorem kok875 : aOK kS krf kB kE875 := aOK_of (kal1 kok542 (kal1 kok543 kal0)) (kcl1 ks875_0 kcl0) ks875
/-- ColdShod$StrokePlan.addNext(LColdShod$Idea;I)V -/
def kE876 : aE := (83, 3, ([(.ofNat 0, .ofNat 3), (.ofNat 9, .ofNat 341)], [(57, 8, .inl (0, .ofNat 0)), (52, 6, .inl (1, .ofNat 0))], 0, [some (.inr [52]), some (.inr [20, 21, 22, 23, 24, 25, 26, 27]), some (.inl (.inl (.inr (.ofNat 8)))), none, none], []), ([], none), ([], [], none, ([], [])), ([(52, 6), (58, 0), (58, 1), (58, 2), (58, 3), (58, 4), (58, 5), (58, 6)], [54, 55, 56, 57]))
def kC876_0 : aC := (([(.ofNat 0, .ofNat 3), (.ofNat 9, .ofNat 341), (.ofNat 0, .ofNat 4), (.ofNat 9, .ofNat 341)], [(57, 8, .inl (0, .ofNat 0)), (52, 6, .inl (3, .ofNat 0))], 2, [some (.inr [52]), some (.inr [20, 21, 22, 23, 24, 25, 26, 27]), some (.inl (.inl (.inr (.ofNat 8)))), some (.inl (.inl (.inl (2, .ofNat 0)))), none], []), ([], []), (4, [(-1, 2)]))
theorem ks876 : aseg kS krf kB [kE542, kE543] (ksp []) kE876 [kC876_0] 30000 (none) = true := by decide +kernel
theorem ks876_0 : aseg kS krf kB [kE542, kE543] (ksp []) kE876 [kC876_0] 30000 (some kC876_0) = true := by decide +kernel
theorem kok876 : aOK kS krf kB kE876 := aOK_of (kal1 kok542 (kal1 kok543 kal0)) (kcl1 ks876_0 kcl0) ks876
/-- ColdShod$StrokePlan.addNext(LColdShod$Idea;I)V -/
def kE877 : aE := (83, 3, ([(.ofNat 0, .ofNat 3), (.ofNat 8, .ofNat 341)], [(57, 7, .inl (0, .ofNat 0)), (52, 6, .inl (1, .ofNat 0))], 0, [some (.inr [52]), some (.inr [20, 21, 22, 23, 24, 25, 26, 27]), some (.inl (.inl (.inr (.ofNat 7)))), none, none], []), ([], none), ([], [], none, ([], [])), ([(52, 6), (58, 0), (58, 1), (58, 2), (58, 3), (58, 4), (58, 5), (58, 6)], [54, 55, 56, 57]))
def kC877_0 : aC := (([(.ofNat 0, .ofNat 3), (.ofNat 8, .ofNat 341), (.ofNat 0, .ofNat 4), (.ofNat 8, .ofNat 341)], [(57, 7, .inl (0, .ofNat 0)), (52, 6, .inl (3, .ofNat 0))], 2, [some (.inr [52]), some (.inr [20, 21, 22, 23, 24, 25, 26, 27]), some (.inl (.inl (.inr (.ofNat 7)))), some (.inl (.inl (.inl (2, .ofNat 0)))), none], []), ([], []), (4, [(-1, 2)]))
theorem ks877 : aseg kS krf kB [kE542, kE543] (ksp []) kE877 [kC877_0] 30000 (none) = true := by decide +kernel
theorem ks877_0 : aseg kS krf kB [kE542, kE543] (ksp []) kE877 [kC877_0] 30000 (some kC877_0) = true := by decide +kernel
theorem kok877 : aOK kS krf kB kE877 := aOK_of (kal1 kok542 (kal1 kok543 kal0)) (kcl1 ks877_0 kcl0) ks877
/-- ColdShod$StrokePlan.addNext(LColdShod$Idea;I)V -/
def kE878 : aE := (83, 3, ([(.ofNat 0, .ofNat 3), (.ofNat 7, .ofNat 341)], [(57, 6, .inl (0, .ofNat 0)), (52, 6, .inl (1, .ofNat 0))], 0, [some (.inr [52]), some (.inr [20, 21, 22, 23, 24, 25, 26, 27]), some (.inl (.inl (.inr (.ofNat 6)))), none, none], []), ([], none), ([], [], none, ([], [])), ([(52, 6), (58, 0), (58, 1), (58, 2), (58, 3), (58, 4), (58, 5), (58, 6)], [54, 55, 56, 57]))
def kC878_0 : aC := (([(.ofNat 0, .ofNat 3), (.ofNat 7, .ofNat 341), (.ofNat 0, .ofNat 4), (.ofNat 7, .ofNat 341)], [(57, 6, .inl (0, .ofNat 0)), (52, 6, .inl (3, .ofNat 0))], 2, [some (.inr [52]), some (.inr [20, 21, 22, 23, 24, 25, 26, 27]), some (.inl (.inl (.inr (.ofNat 6)))), some (.inl (.inl (.inl (2, .ofNat 0)))), none], []), ([], []), (4, [(-1, 2)]))
theorem ks878 : aseg kS krf kB [kE542, kE543] (ksp []) kE878 [kC878_0] 30000 (none) = true := by decide +kernel
theorem ks878_0 : aseg kS krf kB [kE542, kE543] (ksp []) kE878 [kC878_0] 30000 (some kC878_0) = true := by decide +kernel
theorem kok878 : aOK kS krf kB kE878 := aOK_of (kal1 kok542 (kal1 kok543 kal0)) (kcl1 ks878_0 kcl0) ks878
/-- ColdShod$StrokePlan.addNext(LColdShod$Idea;I)V -/
def kE879 : aE := (83, 3, ([(.ofNat 0, .ofNat 3), (.ofNat 6, .ofNat 341)], [(57, 5, .inl (0, .ofNat 0)), (52, 6, .inl (1, .ofNat 0))], 0, [some (.inr [52]), some (.inr [20, 21, 22, 23, 24, 25, 26, 27]), some (.inl (.inl (.inr (.ofNat 5)))), none, none], []), ([], none), ([], [], none, ([], [])), ([(52, 6), (58, 0), (58, 1), (58, 2), (58, 3), (58, 4), (58, 5), (58, 6)], [54, 55, 56, 57]))
def kC879_0 : aC := (([(.ofNat 0, .ofNat 3), (.ofNat 6, .ofNat 341), (.ofNat 0, .ofNat 4), (.ofNat 6, .ofNat 341)], [(57, 5, .inl (0, .ofNat 0)), (52, 6, .inl (3, .ofNat 0))], 2, [some (.inr [52]), some (.inr [20, 21, 22, 23, 24, 25, 26, 27]), some (.inl (.inl (.inr (.ofNat 5)))), some (.inl (.inl (.inl (2, .ofNat 0)))), none], []), ([], []), (4, [(-1, 2)]))
theorem ks879 : aseg kS krf kB [kE542, kE543] (ksp []) kE879 [kC879_0] 30000 (none) = true := by decide +kernel
theorem ks879_0 : aseg kS krf kB [kE542, kE543] (ksp []) kE879 [kC879_0] 30000 (some kC879_0) = true := by decide +kernel
theorem kok879 : aOK kS krf kB kE879 := aOK_of (kal1 kok542 (kal1 kok543 kal0)) (kcl1 ks879_0 kcl0) ks879
/-- ColdShod$StrokePlan.addNext(LColdShod$Idea;I)V -/
def kE880 : aE := (83, 3, ([(.ofNat 0, .ofNat 3), (.ofNat 5, .ofNat 341)], [(57, 4, .inl (0, .ofNat 0)), (52, 6, .inl (1, .ofNat 0))], 0, [some (.inr [52]), some (.inr [20, 21, 22, 23, 24, 25, 26, 27]), some (.inl (.inl (.inr (.ofNat 4)))), none, none], []), ([], none), ([], [], none, ([], [])), ([(52, 6), (58, 0), (58, 1), (58, 2), (58, 3), (58, 4), (58, 5), (58, 6)], [54, 55, 56, 57]))
def kC880_0 : aC := (([(.ofNat 0, .ofNat 3), (.ofNat 5, .ofNat 341), (.ofNat 0, .ofNat 4), (.ofNat 5, .ofNat 341)], [(57, 4, .inl (0, .ofNat 0)), (52, 6, .inl (3, .ofNat 0))], 2, [some (.inr [52]), some (.inr [20, 21, 22, 23, 24, 25, 26, 27]), some (.inl (.inl (.inr (.ofNat 4)))), some (.inl (.inl (.inl (2, .ofNat 0)))), none], []), ([], []), (4, [(-1, 2)]))
theorem ks880 : aseg kS krf kB [kE542, kE543] (ksp []) kE880 [kC880_0] 30000 (none) = true := by decide +kernel
theorem ks880_0 : aseg kS krf kB [kE542, kE543] (ksp []) kE880 [kC880_0] 30000 (some kC880_0) = true := by decide +kernel
theorem kok880 : aOK kS krf kB kE880 := aOK_of (kal1 kok542 (kal1 kok543 kal0)) (kcl1 ks880_0 kcl0) ks880
/-- ColdShod$StrokePlan.addNext(LColdShod$Idea;I)V -/
def kE881 : aE := (83, 3, ([(.ofNat 0, .ofNat 3), (.ofNat 4, .ofNat 341)], [(57, 3, .inl (0, .ofNat 0)), (52, 6, .inl (1, .ofNat 0))], 0, [some (.inr [52]), some (.inr [20, 21, 22, 23, 24, 25, 26, 27]), some (.inl (.inl (.inr (.ofNat 3)))), none, none], []), ([], none), ([], [], none, ([], [])), ([(52, 6), (58, 0), (58, 1), (58, 2), (58, 3), (58, 4), (58, 5), (58, 6)], [54, 55, 56, 57]))
def kC881_0 : aC := (([(.ofNat 0, .ofNat 3), (.ofNat 4, .ofNat 341), (.ofNat 0, .ofNat 4), (.ofNat 4, .ofNat 341)], [(57, 3, .inl (0, .ofNat 0)), (52, 6, .inl (3, .ofNat 0))], 2, [some (.inr [52]), some (.inr [20, 21, 22, 23, 24, 25, 26, 27]), some (.inl (.inl (.inr (.ofNat 3)))), some (.inl (.inl (.inl (2, .ofNat 0)))), none], []), ([], []), (4, [(-1, 2)]))
theorem ks881 : aseg kS krf kB [kE542, kE543] (ksp []) kE881 [kC881_0] 30000 (none) = true := by decide +kernel
theorem ks881_0 : aseg kS krf kB [kE542, kE543] (ksp []) kE881 [kC881_0] 30000 (some kC881_0) = true := by decide +kernel
theorem kok881 : aOK kS krf kB kE881 := aOK_of (kal1 kok542 (kal1 kok543 kal0)) (kcl1 ks881_0 kcl0) ks881
/-- ColdShod$StrokePlan.addNext(LColdShod$Idea;I)V -/
def kE882 : aE := (83, 3, ([(.ofNat 0, .ofNat 3), (.ofNat 3, .ofNat 341)], [(57, 2, .inl (0, .ofNat 0)), (52, 6, .inl (1, .ofNat 0))], 0, [some (.inr [52]), some (.inr [20, 21, 22, 23, 24, 25, 26, 27]), some (.inl (.inl (.inr (.ofNat 2)))), none, none], []), ([], none), ([], [], none, ([], [])), ([(52, 6), (58, 0), (58, 1), (58, 2), (58, 3), (58, 4), (58, 5), (58, 6)], [54, 55, 56, 57]))
def kC882_0 : aC := (([(.ofNat 0, .ofNat 3), (.ofNat 3, .ofNat 341), (.ofNat 0, .ofNat 4), (.ofNat 3, .ofNat 341)], [(57, 2, .inl (0, .ofNat 0)), (52, 6, .inl (3, .ofNat 0))], 2, [some (.inr [52]), some (.inr [20, 21, 22, 23, 24, 25, 26, 27]), some (.inl (.inl (.inr (.ofNat 2)))), some (.inl (.inl (.inl (2, .ofNat 0)))), none], []), ([], []), (4, [(-1, 2)]))
theorem ks882 : aseg kS krf kB [kE542, kE543] (ksp []) kE882 [kC882_0] 30000 (none) = true := by decide +kernel
theorem ks882_0 : aseg kS krf kB [kE542, kE543] (ksp []) kE882 [kC882_0] 30000 (some kC882_0) = true := by decide +kernel
theorem kok882 : aOK kS krf kB kE882 := aOK_of (kal1 kok542 (kal1 kok543 kal0)) (kcl1 ks882_0 kcl0) ks882
/-- ColdShod$StrokePlan.addNext(LColdShod$Idea;I)V -/
def kE883 : aE := (83, 3, ([(.ofNat 0, .ofNat 3), (.ofNat 2, .ofNat 341)], [(57, 1, .inl (0, .ofNat 0)), (52, 6, .inl (1, .ofNat 0))], 0, [some (.inr [52]), some (.inr [20, 21, 22, 23, 24, 25, 26, 27]), some (.inl (.inl (.inr (.ofNat 1)))), none, none], []), ([], none), ([], [], none, ([], [])), ([(52, 6), (58, 0), (58, 1), (58, 2), (58, 3), (58, 4), (58, 5), (58, 6)], [54, 55, 56, 57]))
def kC883_0 : aC := (([(.ofNat 0, .ofNat 3), (.ofNat 2, .ofNat 341), (.ofNat 0, .ofNat 4), (.ofNat 2, .ofNat 341)], [(57, 1, .inl (0, .ofNat 0)), (52, 6, .inl (3, .ofNat 0))], 2, [some (.inr [52]), some (.inr [20, 21, 22, 23, 24, 25, 26, 27]), some (.inl (.inl (.inr (.ofNat 1)))), some (.inl (.inl (.inl (2, .ofNat 0)))), none], []), ([], []), (4, [(-1, 2)]))
theorem ks883 : aseg kS krf kB [kE542, kE543] (ksp []) kE883 [kC883_0] 30000 (none) = true := by decide +kernel
theorem ks883_0 : aseg kS krf kB [kE542, kE543] (ksp []) kE883 [kC883_0] 30000 (some kC883_0) = true := by decide +kernel
theorem kok883 : aOK kS krf kB kE883 := aOK_of (kal1 kok542 (kal1 kok543 kal0)) (kcl1 ks883_0 kcl0) ks883
/-- ColdShod$StrokePlan.addNext(LColdShod$Idea;I)V -/
def kE884 : aE := (83, 3, ([(.ofNat 0, .ofNat 3), (.ofNat 1, .ofNat 341)], [(57, 0, .inl (0, .ofNat 0)), (52, 6, .inl (1, .ofNat 0))], 0, [some (.inr [52]), some (.inr [20, 21, 22, 23, 24, 25, 26, 27]), some (.inl (.inl (.inr (.ofNat 0)))), none, none], []), ([], none), ([], [], none, ([], [])), ([(52, 6), (58, 0), (58, 1), (58, 2), (58, 3), (58, 4), (58, 5), (58, 6)], [54, 55, 56, 57]))
def kC884_0 : aC := (([(.ofNat 0, .ofNat 3), (.ofNat 1, .ofNat 341), (.ofNat 0, .ofNat 4), (.ofNat 1, .ofNat 341)], [(57, 0, .inl (0, .ofNat 0)), (52, 6, .inl (3, .ofNat 0))], 2, [some (.inr [52]), some (.inr [20, 21, 22, 23, 24, 25, 26, 27]), some (.inl (.inl (.inr (.ofNat 0)))), some (.inl (.inl (.inl (2, .ofNat 0)))), none], []), ([], []), (4, [(-1, 2)]))
theorem ks884 : aseg kS krf kB [kE542, kE543] (ksp []) kE884 [kC884_0] 30000 (none) = true := by decide +kernel
theorem ks884_0 : aseg kS krf kB [kE542, kE543] (ksp []) kE884 [kC884_0] 30000 (some kC884_0) = true := by decide +kernel
theorem kok884 : aOK kS krf kB kE884 := aOK_of (kal1 kok542 (kal1 kok543 kal0)) (kcl1 ks884_0 kcl0) ks884
