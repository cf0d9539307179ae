/-! ENTRIES and their checks: printed by a program (wip/ai). -/
/-- ColdShod$StrokePlan.addNext(LColdShod$Idea;I)V -/
def kE850 : aE := (83, 3, ([kvB 0 3, kvB 169 341], [(57, 168, .inl (0, .ofNat 0)), (52, 6, .inl (1, .ofNat 0))], 0, [kvR 52, some (.inr [20, 21, 22, 23, 24, 25, 26, 27]), kvN 168, none, none], []), ([], none), ([], [], none, ([], [])), kvW71)
def kC850_0 : aC := (([kvB 0 3, kvB 169 341, kvB 0 4, kvB 169 341], [(57, 168, .inl (0, .ofNat 0)), (52, 6, .inl (3, .ofNat 0))], 2, [kvR 52, some (.inr [20, 21, 22, 23, 24, 25, 26, 27]), kvN 168, kvI 2, none], []), ([], []), (4, [(-1, 2)]))
theorem ks850 : aseg kS krf kB [kE550, kE555, kE556, kE557] (ksp []) kE850 [kC850_0] 30000 (none) = true := by decide +kernel
theorem ks850_0 : aseg kS krf kB [kE550, kE555, kE556, kE557] (ksp []) kE850 [kC850_0] 30000 (some kC850_0) = true := by decide +kernel
theorem kok850 : aOK kS krf kB kE850 := aOK_of (kal1 kok550 (kal1 kok555 (kal1 kok556 (kal1 kok557 kal0)))) (kcl1 ks850_0 kcl0) ks850
/-- ColdShod$StrokePlan.addNext(LColdShod$Idea;I)V -/
def kE851 : aE := (83, 3, ([kvB 0 3, kvB 168 341], [(57, 167, .inl (0, .ofNat 0)), (52, 6, .inl (1, .ofNat 0))], 0, [kvR 52, some (.inr [20, 21, 22, 23, 24, 25, 26, 27]), kvN 167, none, none], []), ([], none), ([], [], none, ([], [])), kvW71)
def kC851_0 : aC := (([kvB 0 3, kvB 168 341, kvB 0 4, kvB 168 341], [(57, 167, .inl (0, .ofNat 0)), (52, 6, .inl (3, .ofNat 0))], 2, [kvR 52, some (.inr [20, 21, 22, 23, 24, 25, 26, 27]), kvN 167, kvI 2, none], []), ([], []), (4, [(-1, 2)]))
theorem ks851 : aseg kS krf kB [kE550, kE555, kE556, kE557] (ksp []) kE851 [kC851_0] 30000 (none) = true := by decide +kernel
theorem ks851_0 : aseg kS krf kB [kE550, kE555, kE556, kE557] (ksp []) kE851 [kC851_0] 30000 (some kC851_0) = true := by decide +kernel
theorem kok851 : aOK kS krf kB kE851 := aOK_of (kal1 kok550 (kal1 kok555 (kal1 kok556 (kal1 kok557 kal0)))) (kcl1 ks851_0 kcl0) ks851
/-- ColdShod$StrokePlan.addNext(LColdShod$Idea;I)V -/
def kE852 : aE := (83, 3, ([kvB 0 3, kvB 167 341], [(57, 166, .inl (0, .ofNat 0)), (52, 6, .inl (1, .ofNat 0))], 0, [kvR 52, some (.inr [20, 21, 22, 23, 24, 25, 26, 27]), kvN 166, none, none], []), ([], none), ([], [], none, ([], [])), kvW71)
def kC852_0 : aC := (([kvB 0 3, kvB 167 341, kvB 0 4, kvB 167 341], [(57, 166, .inl (0, .ofNat 0)), (52, 6, .inl (3, .ofNat 0))], 2, [kvR 52, some (.inr [20, 21, 22, 23, 24, 25, 26, 27]), kvN 166, kvI 2, none], []), ([], []), (4, [(-1, 2)]))
theorem ks852 : aseg kS krf kB [kE550, kE555, kE556, kE557] (ksp []) kE852 [kC852_0] 30000 (none) = true := by decide +kernel
theorem ks852_0 : aseg kS krf kB [kE550, kE555, kE556, kE557] (ksp []) kE852 [kC852_0] 30000 (some kC852_0) = true := by decide +kernel
theorem kok852 : aOK kS krf kB kE852 := aOK_of (kal1 kok550 (kal1 kok555 (kal1 kok556 (kal1 kok557 kal0)))) (kcl1 ks852_0 kcl0) ks852
/-- ColdShod$StrokePlan.addNext(LColdShod$Idea;I)V -/
def kE853 : aE := (83, 3, ([kvB 0 3, kvB 166 341], [(57, 165, .inl (0, .ofNat 0)), (52, 6, .inl (1, .ofNat 0))], 0, [kvR 52, some (.inr [20, 21, 22, 23, 24, 25, 26, 27]), kvN 165, none, none], []), ([], none), ([], [], none, ([], [])), kvW71)
def kC853_0 : aC := (([kvB 0 3, kvB 166 341, kvB 0 4, kvB 166 341], [(57, 165, .inl (0, .ofNat 0)), (52, 6, .inl (3, .ofNat 0))], 2, [kvR 52, some (.inr [20, 21, 22, 23, 24, 25, 26, 27]), kvN 165, kvI 2, none], []), ([], []), (4, [(-1, 2)]))
theorem ks853 : aseg kS krf kB [kE550, kE555, kE556, kE557] (ksp []) kE853 [kC853_0] 30000 (none) = true := by decide +kernel
theorem ks853_0 : aseg kS krf kB [kE550, kE555, kE556, kE557] (ksp []) kE853 [kC853_0] 30000 (some kC853_0) = true := by decide +kernel
theorem kok853 : aOK kS krf kB kE853 := aOK_of (kal1 kok550 (kal1 kok555 (kal1 kok556 (kal1 kok557 kal0)))) (kcl1 ks853_0 kcl0) ks853
/-- ColdShod$StrokePlan.addNext(LColdShod$Idea;I)V -/
def kE854 : aE := (83, 3, ([kvB 0 3, kvB 165 341], [(57, 164, .inl (0, .ofNat 0)), (52, 6, .inl (1, .ofNat 0))], 0, [kvR 52, some (.inr [20, 21, 22, 23, 24, 25, 26, 27]), kvN 164, none, none], []), ([], none), ([], [], none, ([], [])), kvW71)
def kC854_0 : aC := (([kvB 0 3, kvB 165 341, kvB 0 4, kvB 165 341], [(57, 164, .inl (0, .ofNat 0)), (52, 6, .inl (3, .ofNat 0))], 2, [kvR 52, some (.inr [20, 21, 22, 23, 24, 25, 26, 27]), kvN 164, kvI 2, none], []), ([], []), (4, [(-1, 2)]))
theorem ks854 : aseg kS krf kB [kE550, kE555, kE556, kE557] (ksp []) kE854 [kC854_0] 30000 (none) = true := by decide +kernel
theorem ks854_0 : aseg kS krf kB [kE550, kE555, kE556, kE557] (ksp []) kE854 [kC854_0] 30000 (some kC854_0) = true := by decide +kernel
theorem kok854 : aOK kS krf kB kE854 := aOK_of (kal1 kok550 (kal1 kok555 (kal1 kok556 (kal1 kok557 kal0)))) (kcl1 ks854_0 kcl0) ks854
/-- ColdShod$StrokePlan.addNext(LColdShod$Idea;I)V -/
def kE855 : aE := (83, 3, ([kvB 0 3, kvB 164 341], [(57, 163, .inl (0, .ofNat 0)), (52, 6, .inl (1, .ofNat 0))], 0, [kvR 52, some (.inr [20, 21, 22, 23, 24, 25, 26, 27]), kvN 163, none, none], []), ([], none), ([], [], none, ([], [])), kvW71)
def kC855_0 : aC := (([kvB 0 3, kvB 164 341, kvB 0 4, kvB 164 341], [(57, 163, .inl (0, .ofNat 0)), (52, 6, .inl (3, .ofNat 0))], 2, [kvR 52, some (.inr [20, 21, 22, 23, 24, 25, 26, 27]), kvN 163, kvI 2, none], []), ([], []), (4, [(-1, 2)]))
theorem ks855 : aseg kS krf kB [kE550, kE555, kE556, kE557] (ksp []) kE855 [kC855_0] 30000 (none) = true := by decide +kernel
theorem ks855_0 : aseg kS krf kB [kE550, kE555, kE556, kE557] (ksp []) kE855 [kC855_0] 30000 (some kC855_0) = true := by decide +kernel
theorem kok855 : aOK kS krf kB kE855 := aOK_of (kal1 kok550 (kal1 kok555 (kal1 kok556 (kal1 kok557 kal0)))) (kcl1 ks855_0 kcl0) ks855
/-- ColdShod$StrokePlan.addNext(LColdShod$Idea;I)V -/
def kE856 : aE := (83, 3, ([kvB 0 3, kvB 163 341], [(57, 162, .inl (0, .ofNat 0)), (52, 6, .inl (1, .ofNat 0))], 0, [kvR 52, some (.inr [20, 21, 22, 23, 24, 25, 26, 27]), kvN 162, none, none], []), ([], none), ([], [], none, ([], [])), kvW71)
def kC856_0 : aC := (([kvB 0 3, kvB 163 341, kvB 0 4, kvB 163 341], [(57, 162, .inl (0, .ofNat 0)), (52, 6, .inl (3, .ofNat 0))], 2, [kvR 52, some (.inr [20, 21, 22, 23, 24, 25, 26, 27]), kvN 162, kvI 2, none], []), ([], []), (4, [(-1, 2)]))
theorem ks856 : aseg kS krf kB [kE550, kE555, kE556, kE557] (ksp []) kE856 [kC856_0] 30000 (none) = true := by decide +kernel
theorem ks856_0 : aseg kS krf kB [kE550, kE555, kE556, kE557] (ksp []) kE856 [kC856_0] 30000 (some kC856_0) = true := by decide +kernel
theorem kok856 : aOK kS krf kB kE856 := aOK_of (kal1 kok550 (kal1 kok555 (kal1 kok556 (kal1 kok557 kal0)))) (kcl1 ks856_0 kcl0) ks856
/-- ColdShod$StrokePlan.addNext(LColdShod$Idea;I)V -/
def kE857 : aE := (83, 3, ([kvB 0 3, kvB 162 341], [(57, 161, .inl (0, .ofNat 0)), (52, 6, .inl (1, .ofNat 0))], 0, [kvR 52, some (.inr [20, 21, 22, 23, 24, 25, 26, 27]), kvN 161, none, none], []), ([], none), ([], [], none, ([], [])), kvW71)
def kC857_0 : aC := (([kvB 0 3, kvB 162 341, kvB 0 4, kvB 162 341], [(57, 161, .inl (0, .ofNat 0)), (52, 6, .inl (3, .ofNat 0))], 2, [kvR 52, some (.inr [20, 21, 22, 23, 24, 25, 26, 27]), kvN 161, kvI 2, none], []), ([], []), (4, [(-1, 2)]))
theorem ks857 : aseg kS krf kB [kE550, kE555, kE556, kE557] (ksp []) kE857 [kC857_0] 30000 (none) = true := by decide +kernel
theorem ks857_0 : aseg kS krf kB [kE550, kE555, kE556, kE557] (ksp []) kE857 [kC857_0] 30000 (some kC857_0) = true := by decide +kernel
theorem kok857 : aOK kS krf kB kE857 := aOK_of (kal1 kok550 (kal1 kok555 (kal1 kok556 (kal1 kok557 kal0)))) (kcl1 ks857_0 kcl0) ks857
/-- ColdShod$StrokePlan.addNext(LColdShod$Idea;I)V -/
def kE858 : aE := (83, 3, ([kvB 0 3, kvB 161 341], [(57, 160, .inl (0, .ofNat 0)), (52, 6, .inl (1, .ofNat 0))], 0, [kvR 52, some (.inr [20, 21, 22, 23, 24, 25, 26, 27]), kvN 160, none, none], []), ([], none), ([], [], none, ([], [])), kvW71)
def kC858_0 : aC := (([kvB 0 3, kvB 161 341, kvB 0 4, kvB 161 341], [(57, 160, .inl (0, .ofNat 0)), (52, 6, .inl (3, .ofNat 0))], 2, [kvR 52, some (.inr [20, 21, 22, 23, 24, 25, 26, 27]), kvN 160, kvI 2, none], []), ([], []), (4, [(-1, 2)]))
theorem ks858 : aseg kS krf kB [kE550, kE555, kE556, kE557] (ksp []) kE858 [kC858_0] 30000 (none) = true := by decide +kernel
theorem ks858_0 : aseg kS krf kB [kE550, kE555, kE556, kE557] (ksp []) kE858 [kC858_0] 30000 (some kC858_0) = true := by decide +kernel
theorem kok858 : aOK kS krf kB kE858 := aOK_of (kal1 kok550 (kal1 kok555 (kal1 kok556 (kal1 kok557 kal0)))) (kcl1 ks858_0 kcl0) ks858
/-- ColdShod$StrokePlan.addNext(LColdShod$Idea;I)V -/
def kE859 : aE := (83, 3, ([kvB 0 3, kvB 160 341], [(57, 159, .inl (0, .ofNat 0)), (52, 6, .inl (1, .ofNat 0))], 0, [kvR 52, some (.inr [20, 21, 22, 23, 24, 25, 26, 27]), kvN 159, none, none], []), ([], none), ([], [], none, ([], [])), kvW71)
def kC859_0 : aC := (([kvB 0 3, kvB 160 341, kvB 0 4, kvB 160 341], [(57, 159, .inl (0, .ofNat 0)), (52, 6, .inl (3, .ofNat 0))], 2, [kvR 52, some (.inr [20, 21, 22, 23, 24, 25, 26, 27]), kvN 159, kvI 2, none], []), ([], []), (4, [(-1, 2)]))
theorem ks859 : aseg kS krf kB [kE550, kE555, kE556, kE557] (ksp []) kE859 [kC859_0] 30000 (none) = true := by decide +kernel
theorem ks859_0 : aseg kS krf kB [kE550, kE555, kE556, kE557] (ksp []) kE859 [kC859_0] 30000 (some kC859_0) = true := by decide +kernel
theorem kok859 : aOK kS krf kB kE859 := aOK_of (kal1 kok550 (kal1 kok555 (kal1 kok556 (kal1 kok557 kal0)))) (kcl1 ks859_0 kcl0) ks859
/-- ColdShod$StrokePlan.addNext(LColdShod$Idea;I)V -/
def kE860 : aE := (83, 3, ([kvB 0 3, kvB 159 341], [(57, 158, .inl (0, .ofNat 0)), (52, 6, .inl (1, .ofNat 0))], 0, [kvR 52, some (.inr [20, 21, 22, 23, 24, 25, 26, 27]), kvN 158, none, none], []), ([], none), ([], [], none, ([], [])), kvW71)
def kC860_0 : aC := (([kvB 0 3, kvB 159 341, kvB 0 4, kvB 159 341], [(57, 158, .inl (0, .ofNat 0)), (52, 6, .inl (3, .ofNat 0))], 2, [kvR 52, some (.inr [20, 21, 22, 23, 24, 25, 26, 27]), kvN 158, kvI 2, none], []), ([], []), (4, [(-1, 2)]))
theorem ks860 : aseg kS krf kB [kE550, kE555, kE556, kE557] (ksp []) kE860 [kC860_0] 30000 (none) = true := by decide +kernel
theorem ks860_0 : aseg kS krf kB [kE550, kE555, kE556, kE557] (ksp []) kE860 [kC860_0] 30000 (some kC860_0) = true := by decide +kernel
theorem kok860 : aOK kS krf kB kE860 := aOK_of (kal1 kok550 (kal1 kok555 (kal1 kok556 (kal1 kok557 kal0)))) (kcl1 ks860_0 kcl0) ks860
/-- ColdShod$StrokePlan.addNext(LColdShod$Idea;I)V -/
def kE861 : aE := (83, 3, ([kvB 0 3, kvB 158 341], [(57, 157, .inl (0, .ofNat 0)), (52, 6, .inl (1, .ofNat 0))], 0, [kvR 52, some (.inr [20, 21, 22, 23, 24, 25, 26, 27]), kvN 157, none, none], []), ([], none), ([], [], none, ([], [])), kvW71)
def kC861_0 : aC := (([kvB 0 3, kvB 158 341, kvB 0 4, kvB 158 341], [(57, 157, .inl (0, .ofNat 0)), (52, 6, .inl (3, .ofNat 0))], 2, [kvR 52, some (.inr [20, 21, 22, 23, 24, 25, 26, 27]), kvN 157, kvI 2, none], []), ([], []), (4, [(-1, 2)]))
theorem ks861 : aseg kS krf kB [kE550, kE555, kE556, kE557] (ksp []) kE861 [kC861_0] 30000 (none) = true := by decide +kernel
theorem ks861_0 : aseg kS krf kB [kE550, kE555, kE556, kE557] (ksp []) kE861 [kC861_0] 30000 (some kC861_0) = true := by decide +kernel
theorem kok861 : aOK kS krf kB kE861 := aOK_of (kal1 kok550 (kal1 kok555 (kal1 kok556 (kal1 kok557 kal0)))) (kcl1 ks861_0 kcl0) ks861
/-- ColdShod$StrokePlan.addNext(LColdShod$Idea;I)V -/
def kE862 : aE := (83, 3, ([kvB 0 3, kvB 157 341], [(57, 156, .inl (0, .ofNat 0)), (52, 6, .inl (1, .ofNat 0))], 0, [kvR 52, some (.inr [20, 21, 22, 23, 24, 25, 26, 27]), kvN 156, none, none], []), ([], none), ([], [], none, ([], [])), kvW71)
def kC862_0 : aC := (([kvB 0 3, kvB 157 341, kvB 0 4, kvB 157 341], [(57, 156, .inl (0, .ofNat 0)), (52, 6, .inl (3, .ofNat 0))], 2, [kvR 52, some (.inr [20, 21, 22, 23, 24, 25, 26, 27]), kvN 156, kvI 2, none], []), ([], []), (4, [(-1, 2)]))
theorem ks862 : aseg kS krf kB [kE550, kE555, kE556, kE557] (ksp []) kE862 [kC862_0] 30000 (none) = true := by decide +kernel
theorem ks862_0 : aseg kS krf kB [kE550, kE555, kE556, kE557] (ksp []) kE862 [kC862_0] 30000 (some kC862_0) = true := by decide +kernel
theorem kok862 : aOK kS krf kB kE862 := aOK_of (kal1 kok550 (kal1 kok555 (kal1 kok556 (kal1 kok557 kal0)))) (kcl1 ks862_0 kcl0) ks862
/-- ColdShod$StrokePlan.addNext(LColdShod$Idea;I)V -/
def kE863 : aE := (83, 3, ([kvB 0 3, kvB 156 341], [(57, 155, .inl (0, .ofNat 0)), (52, 6, .inl (1, .ofNat 0))], 0, [kvR 52, some (.inr [20, 21, 22, 23, 24, 25, 26, 27]), kvN 155, none, none], []), ([], none), ([], [], none, ([], [])), kvW71)
def kC863_0 : aC := (([kvB 0 3, kvB 156 341, kvB 0 4, kvB 156 341], [(57, 155, .inl (0, .ofNat 0)), (52, 6, .inl (3, .ofNat 0))], 2, [kvR 52, some (.inr [20, 21, 22, 23, 24, 25, 26, 27]), kvN 155, kvI 2, none], []), ([], []), (4, [(-1, 2)]))
theorem ks863 : aseg kS krf kB [kE550, kE555, kE556, kE557] (ksp []) kE863 [kC863_0] 30000 (none) = true := by decide +kernel
theorem ks863_0 : aseg kS krf kB [kE550, kE555, kE556, kE557] (ksp []) kE863 [kC863_0] 30000 (some kC863_0) = true := by decide +kernel
theorem kok863 : aOK kS krf kB kE863 := aOK_of (kal1 kok550 (kal1 kok555 (kal1 kok556 (kal1 kok557 kal0)))) (kcl1 ks863_0 kcl0) ks863
/-- ColdShod$StrokePlan.addNext(LColdShod$Idea;I)V -/
def kE864 : aE := (83, 3, ([kvB 0 3, kvB 155 341], [(57, 154, .inl (0, .ofNat 0)), (52, 6, .inl (1, .ofNat 0))], 0, [kvR 52, some (.inr [20, 21, 22, 23, 24, 25, 26, 27]), kvN 154, none, none], []), ([], none), ([], [], none, ([], [])), kvW71)
def kC864_0 : aC := (([kvB 0 3, kvB 155 341, kvB 0 4, kvB 155 341], [(57, 154, .inl (0, .ofNat 0)), (52, 6, .inl (3, .ofNat 0))], 2, [kvR 52, some (.inr [20, 21, 22, 23, 24, 25, 26, 27]), kvN 154, kvI 2, none], []), ([], []), (4, [(-1, 2)]))
theorem ks864 : aseg kS krf kB [kE550, kE555, kE556, kE557] (ksp []) kE864 [kC864_0] 30000 (none) = true := by decide +kernel
theorem ks864_0 : aseg kS krf kB [kE550, kE555, kE556, kE557] (ksp []) kE864 [kC864_0] 30000 (some kC864_0) = true := by decide +kernel
theorem kok864 : aOK kS krf kB kE864 := aOK_of (kal1 kok550 (kal1 kok555 (kal1 kok556 (kal1 kok557 kal0)))) (kcl1 ks864_0 kcl0) ks864
/-- ColdShod$StrokePlan.addNext(LColdShod$Idea;I)V -/
def kE865 : aE := (83, 3, ([kvB 0 3, kvB 154 341], [(57, 153, .inl (0, .ofNat 0)), (52, 6, .inl (1, .ofNat 0))], 0, [kvR 52, some (.inr [20, 21, 22, 23, 24, 25, 26, 27]), kvN 153, none, none], []), ([], none), ([], [], none, ([], [])), kvW71)
def kC865_0 : aC := (([kvB 0 3, kvB 154 341, kvB 0 4, kvB 154 341], [(57, 153, .inl (0, .ofNat 0)), (52, 6, .inl (3, .ofNat 0))], 2, [kvR 52, some (.inr [20, 21, 22, 23, 24, 25, 26, 27]), kvN 153, kvI 2, none], []), ([], []), (4, [(-1, 2)]))
theorem ks865 : aseg kS krf kB [kE550, kE555, kE556, kE557] (ksp []) kE865 [kC865_0] 30000 (none) = true := by decide +kernel
theorem ks865_0 : aseg kS krf kB [kE550, kE555, kE556, kE557] (ksp []) kE865 [kC865_0] 30000 (some kC865_0) = true := by decide +kernel
theorem kok865 : aOK kS krf kB kE865 := aOK_of (kal1 kok550 (kal1 kok555 (kal1 kok556 (kal1 kok557 kal0)))) (kcl1 ks865_0 kcl0) ks865
/-- ColdShod$StrokePlan.addNext(LColdShod$Idea;I)V -/
def kE866 : aE := (83, 3, ([kvB 0 3, kvB 153 341], [(57, 152, .inl (0, .ofNat 0)), (52, 6, .inl (1, .ofNat 0))], 0, [kvR 52, some (.inr [20, 21, 22, 23, 24, 25, 26, 27]), kvN 152, none, none], []), ([], none), ([], [], none, ([], [])), kvW71)
def kC866_0 : aC := (([kvB 0 3, kvB 153 341, kvB 0 4, kvB 153 341], [(57, 152, .inl (0, .ofNat 0)), (52, 6, .inl (3, .ofNat 0))], 2, [kvR 52, some (.inr [20, 21, 22, 23, 24, 25, 26, 27]), kvN 152, kvI 2, none], []), ([], []), (4, [(-1, 2)]))
theorem ks866 : aseg kS krf kB [kE550, kE555, kE556, kE557] (ksp []) kE866 [kC866_0] 30000 (none) = true := by decide +kernel
theorem ks866_0 : aseg kS krf kB [kE550, kE555, kE556, kE557] (ksp []) kE866 [kC866_0] 30000 (some kC866_0) = true := by decide +kernel
theorem kok866 : aOK kS krf kB kE866 := aOK_of (kal1 kok550 (kal1 kok555 (kal1 kok556 (kal1 kok557 kal0)))) (kcl1 ks866_0 kcl0) ks866
/-- ColdShod$StrokePlan.addNext(LColdShod$Idea;I)V -/
def kE867 : aE := (83, 3, ([kvB 0 3, kvB 152 341], [(57, 151, .inl (0, .ofNat 0)), (52, 6, .inl (1, .ofNat 0))], 0, [kvR 52, some (.inr [20, 21, 22, 23, 24, 25, 26, 27]), kvN 151, none, none], []), ([], none), ([], [], none, ([], [])), kvW71)
def kC867_0 : aC := (([kvB 0 3, kvB 152 341, kvB 0 4, kvB 152 341], [(57, 151, .inl (0, .ofNat 0)), (52, 6, .inl (3, .ofNat 0))], 2, [kvR 52, some (.inr [20, 21, 22, 23, 24, 25, 26, 27]), kvN 151, kvI 2, none], []), ([], []), (4, [(-1, 2)]))
theorem ks867 : aseg kS krf kB [kE550, kE555, kE556, kE557] (ksp []) kE867 [kC867_0] 30000 (none) = true := by decide +kernel
theorem ks867_0 : aseg kS krf kB [kE550, kE555, kE556, kE557] (ksp []) kE867 [kC867_0] 30000 (some kC867_0) = true := by decide +kernel
theorem kok867 : aOK kS krf kB kE867 := aOK_of (kal1 kok550 (kal1 kok555 (kal1 kok556 (kal1 kok557 kal0)))) (kcl1 ks867_0 kcl0) ks867
/-- ColdShod$StrokePlan.addNext(LColdShod$Idea;I)V -/
def kE868 : aE := (83, 3, ([kvB 0 3, kvB 151 341], [(57, 150, .inl (0, .ofNat 0)), (52, 6, .inl (1, .ofNat 0))], 0, [kvR 52, some (.inr [20, 21, 22, 23, 24, 25, 26, 27]), kvN 150, none, none], []), ([], none), ([], [], none, ([], [])), kvW71)
def kC868_0 : aC := (([kvB 0 3, kvB 151 341, kvB 0 4, kvB 151 341], [(57, 150, .inl (0, .ofNat 0)), (52, 6, .inl (3, .ofNat 0))], 2, [kvR 52, some (.inr [20, 21, 22, 23, 24, 25, 26, 27]), kvN 150, kvI 2, none], []), ([], []), (4, [(-1, 2)]))
theorem ks868 : aseg kS krf kB [kE550, kE555, kE556, kE557] (ksp []) kE868 [kC868_0] 30000 (none) = true := by decide +kernel
theorem ks868_0 : aseg kS krf kB [kE550, kE555, kE556, kE557] (ksp []) kE868 [kC868_0] 30000 (some kC868_0) = true := by decide +kernel
theorem kok868 : aOK kS krf kB kE868 := aOK_of (kal1 kok550 (kal1 kok555 (kal1 kok556 (kal1 kok557 kal0)))) (kcl1 ks868_0 kcl0) ks868
/-- ColdShod$StrokePlan.addNext(LColdShod$Idea;I)V -/
def kE869 : aE := (83, 3, ([kvB 0 3, kvB 150 341], [(57, 149, .inl (0, .ofNat 0)), (52, 6, .inl (1, .ofNat 0))], 0, [kvR 52, some (.inr [20, 21, 22, 23, 24, 25, 26, 27]), kvN 149, none, none], []), ([], none), ([], [], none, ([], [])), kvW71)
def kC869_0 : aC := (([kvB 0 3, kvB 150 341, kvB 0 4, kvB 150 341], [(57, 149, .inl (0, .ofNat 0)), (52, 6, .inl (3, .ofNat 0))], 2, [kvR 52, some (.inr [20, 21, 22, 23, 24, 25, 26, 27]), kvN 149, kvI 2, none], []), ([], []), (4, [(-1, 2)]))
theorem ks869 : aseg kS krf kB [kE550, kE555, kE556, kE557] (ksp []) kE869 [kC869_0] 30000 (none) = true := by decide +kernel
theorem ks869_0 : aseg kS krf kB [kE550, kE555, kE556, kE557] (ksp []) kE869 [kC869_0] 30000 (some kC869_0) = true := by decide +kernel
theorem kok869 : aOK kS krf kB kE869 := aOK_of (kal1 kok550 (kal1 kok555 (kal1 kok556 (kal1 kok557 kal0)))) (kcl1 ks869_0 kcl0) ks869
/-- ColdShod$StrokePlan.addNext(LColdShod$Idea;I)V -/
def kE870 : aE := (83, 3, ([kvB 0 3, kvB 149 341], [(57, 148, .inl (0, .ofNat 0)), (52, 6, .inl (1, .ofNat 0))], 0, [kvR 52, some (.inr [20, 21, 22, 23, 24, 25, 26, 27]), kvN 148, none, none], []), ([], none), ([], [], none, ([], [])), kvW71)
def kC870_0 : aC := (([kvB 0 3, kvB 149 341, kvB 0 4, kvB 149 341], [(57, 148, .inl (0, .ofNat 0)), (52, 6, .inl (3, .ofNat 0))], 2, [kvR 52, some (.inr [20, 21, 22, 23, 24, 25, 26, 27]), kvN 148, kvI 2, none], []), ([], []), (4, [(-1, 2)]))
theorem ks870 : aseg kS krf kB [kE550, kE555, kE556, kE557] (ksp []) kE870 [kC870_0] 30000 (none) = true := by decide +kernel
theorem ks870_0 : aseg kS krf kB [kE550, kE555, kE556, kE557] (ksp []) kE870 [kC870_0] 30000 (some kC870_0) = true := by decide +kernel
theorem kok870 : aOK kS krf kB kE870 := aOK_of (kal1 kok550 (kal1 kok555 (kal1 kok556 (kal1 kok557 kal0)))) (kcl1 ks870_0 kcl0) ks870
/-- ColdShod$StrokePlan.addNext(LColdShod$Idea;I)V -/
def kE871 : aE := (83, 3, ([kvB 0 3, kvB 148 341], [(57, 147, .inl (0, .ofNat 0)), (52, 6, .inl (1, .ofNat 0))], 0, [kvR 52, some (.inr [20, 21, 22, 23, 24, 25, 26, 27]), kvN 147, none, none], []), ([], none), ([], [], none, ([], [])), kvW71)
def kC871_0 : aC := (([kvB 0 3, kvB 148 341, kvB 0 4, kvB 148 341], [(57, 147, .inl (0, .ofNat 0)), (52, 6, .inl (3, .ofNat 0))], 2, [kvR 52, some (.inr [20, 21, 22, 23, 24, 25, 26, 27]), kvN 147, kvI 2, none], []), ([], []), (4, [(-1, 2)]))
theorem ks871 : aseg kS krf kB [kE550, kE555, kE556, kE557] (ksp []) kE871 [kC871_0] 30000 (none) = true := by decide +kernel
theorem ks871_0 : aseg kS krf kB [kE550, kE555, kE556, kE557] (ksp []) kE871 [kC871_0] 30000 (some kC871_0) = true := by decide +kernel
theorem kok871 : aOK kS krf kB kE871 := aOK_of (kal1 kok550 (kal1 kok555 (kal1 kok556 (kal1 kok557 kal0)))) (kcl1 ks871_0 kcl0) ks871
/-- ColdShod$StrokePlan.addNext(LColdShod$Idea;I)V -/
def kE872 : aE := (83, 3, ([kvB 0 3, kvB 147 341], [(57, 146, .inl (0, .ofNat 0)), (52, 6, .inl (1, .ofNat 0))], 0, [kvR 52, some (.inr [20, 21, 22, 23, 24, 25, 26, 27]), kvN 146, none, none], []), ([], none), ([], [], none, ([], [])), kvW71)
def kC872_0 : aC := (([kvB 0 3, kvB 147 341, kvB 0 4, kvB 147 341], [(57, 146, .inl (0, .ofNat 0)), (52, 6, .inl (3, .ofNat 0))], 2, [kvR 52, some (.inr [20, 21, 22, 23, 24, 25, 26, 27]), kvN 146, kvI 2, none], []), ([], []), (4, [(-1, 2)]))
theorem ks872 : aseg kS krf kB [kE550, kE555, kE556, kE557] (ksp []) kE872 [kC872_0] 30000 (none) = true := by decide +kernel
theorem ks872_0 : aseg kS krf kB [kE550, kE555, kE556, kE557] (ksp []) kE872 [kC872_0] 30000 (some kC872_0) = true := by decide +kernel
theorem kok872 : aOK kS krf kB kE872 := aOK_of (kal1 kok550 (kal1 kok555 (kal1 kok556 (kal1 kok557 kal0)))) (kcl1 ks872_0 kcl0) ks872
/-- ColdShod$StrokePlan.addNext(LColdShod$Idea;I)V -/
def kE873 : aE := (83, 3, ([kvB 0 3, kvB 146 341], [(57, 145, .inl (0, .ofNat 0)), (52, 6, .inl (1, .ofNat 0))], 0, [kvR 52, some (.inr [20, 21, 22, 23, 24, 25, 26, 27]), kvN 145, none, none], []), ([], none), ([], [], none, ([], [])), kvW71)
def kC873_0 : aC := (([kvB 0 3, kvB 146 341, kvB 0 4, kvB 146 341], [(57, 145, .inl (0, .ofNat 0)), (52, 6, .inl (3, .ofNat 0))], 2, [kvR 52, some (.inr [20, 21, 22, 23, 24, 25, 26, 27]), kvN 145, kvI 2, none], []), ([], []), (4, [(-1, 2)]))
theorem ks873 : aseg kS krf kB [kE550, kE555, kE556, kE557] (ksp []) kE873 [kC873_0] 30000 (none) = true := by decide +kernel
theorem ks873_0 : aseg kS krf kB [kE550, kE555, kE556, kE557] (ksp []) kE873 [kC873_0] 30000 (some kC873_0) = true := by decide +kernel
theorem kok873 : aOK kS krf kB kE873 := aOK_of (kal1 kok550 (kal1 kok555 (kal1 kok556 (kal1 kok557 kal0)))) (kcl1 ks873_0 kcl0) ks873
/-- ColdShod$StrokePlan.addNext(LColdShod$Idea;I)V -/
def kE874 : aE := (83, 3, ([kvB 0 3, kvB 145 341], [(57, 144, .inl (0, .ofNat 0)), (52, 6, .inl (1, .ofNat 0))], 0, [kvR 52, some (.inr [20, 21, 22, 23, 24, 25, 26, 27]), kvN 144, none, none], []), ([], none), ([], [], none, ([], [])), kvW71)
def kC874_0 : aC := (([kvB 0 3, kvB 145 341, kvB 0 4, kvB 145 341], [(57, 144, .inl (0, .ofNat 0)), (52, 6, .inl (3, .ofNat 0))], 2, [kvR 52, some (.inr [20, 21, 22, 23, 24, 25, 26, 27]), kvN 144, kvI 2, none], []), ([], []), (4, [(-1, 2)]))
theorem ks874 : aseg kS krf kB [kE550, kE555, kE556, kE557] (ksp []) kE874 [kC874_0] 30000 (none) = true := by decide +kernel
theorem ks874_0 : aseg kS krf kB [kE550, kE555, kE556, kE557] (ksp []) kE874 [kC874_0] 30000 (some kC874_0) = true := by decide +kernel
theorem kok874 : aOK kS krf kB kE874 := aOK_of (kal1 kok550 (kal1 kok555 (kal1 kok556 (kal1 kok557 kal0)))) (kcl1 ks874_0 kcl0) ks874
/-- ColdShod$StrokePlan.addNext(LColdShod$Idea;I)V -/
def kE875 : aE := (83, 3, ([kvB 0 3, kvB 144 341], [(57, 143, .inl (0, .ofNat 0)), (52, 6, .inl (1, .ofNat 0))], 0, [kvR 52, some (.inr [20, 21, 22, 23, 24, 25, 26, 27]), kvN 143, none, none], []), ([], none), ([], [], none, ([], [])), kvW71)
def kC875_0 : aC := (([kvB 0 3, kvB 144 341, kvB 0 4, kvB 144 341], [(57, 143, .inl (0, .ofNat 0)), (52, 6, .inl (3, .ofNat 0))], 2, [kvR 52, some (.inr [20, 21, 22, 23, 24, 25, 26, 27]), kvN 143, kvI 2, none], []), ([], []), (4, [(-1, 2)]))
theorem ks875 : aseg kS krf kB [kE550, kE555, kE556, kE557] (ksp []) kE875 [kC875_0] 30000 (none) = true := by decide +kernel
theorem ks875_0 : aseg kS krf kB [kE550, kE555, kE556, kE557] (ksp []) kE875 [kC875_0] 30000 (some kC875_0) = true := by decide +kernel
theorem kok875 : aOK kS krf kB kE875 := aOK_of (kal1 kok550 (kal1 kok555 (kal1 kok556 (kal1 kok557 kal0)))) (kcl1 ks875_0 kcl0) ks875
/-- ColdShod$StrokePlan.addNext(LColdShod$Idea;I)V -/
def kE876 : aE := (83, 3, ([kvB 0 3, kvB 143 341], [(57, 142, .inl (0, .ofNat 0)), (52, 6, .inl (1, .ofNat 0))], 0, [kvR 52, some (.inr [20, 21, 22, 23, 24, 25, 26, 27]), kvN 142, none, none], []), ([], none), ([], [], none, ([], [])), kvW71)
def kC876_0 : aC := (([kvB 0 3, kvB 143 341, kvB 0 4, kvB 143 341], [(57, 142, .inl (0, .ofNat 0)), (52, 6, .inl (3, .ofNat 0))], 2, [kvR 52, some (.inr [20, 21, 22, 23, 24, 25, 26, 27]), kvN 142, kvI 2, none], []), ([], []), (4, [(-1, 2)]))
theorem ks876 : aseg kS krf kB [kE550, kE555, kE556, kE557] (ksp []) kE876 [kC876_0] 30000 (none) = true := by decide +kernel
theorem ks876_0 : aseg kS krf kB [kE550, kE555, kE556, kE557] (ksp []) kE876 [kC876_0] 30000 (some kC876_0) = true := by decide +kernel
theorem kok876 : aOK kS krf kB kE876 := aOK_of (kal1 kok550 (kal1 kok555 (kal1 kok556 (kal1 kok557 kal0)))) (kcl1 ks876_0 kcl0) ks876
/-- ColdShod$StrokePlan.addNext(LColdShod$Idea;I)V -/
def kE877 : aE := (83, 3, ([kvB 0 3, kvB 142 341], [(57, 141, .inl (0, .ofNat 0)), (52, 6, .inl (1, .ofNat 0))], 0, [kvR 52, some (.inr [20, 21, 22, 23, 24, 25, 26, 27]), kvN 141, none, none], []), ([], none), ([], [], none, ([], [])), kvW71)
def kC877_0 : aC := (([kvB 0 3, kvB 142 341, kvB 0 4, kvB 142 341], [(57, 141, .inl (0, .ofNat 0)), (52, 6, .inl (3, .ofNat 0))], 2, [kvR 52, some (.inr [20, 21, 22, 23, 24, 25, 26, 27]), kvN 141, kvI 2, none], []), ([], []), (4, [(-1, 2)]))
theorem ks877 : aseg kS krf kB [kE550, kE555, kE556, kE557] (ksp []) kE877 [kC877_0] 30000 (none) = true := by decide +kernel
theorem ks877_0 : aseg kS krf kB [kE550, kE555, kE556, kE557] (ksp []) kE877 [kC877_0] 30000 (some kC877_0) = true := by decide +kernel
theorem kok877 : aOK kS krf kB kE877 := aOK_of (kal1 kok550 (kal1 kok555 (kal1 kok556 (kal1 kok557 kal0)))) (kcl1 ks877_0 kcl0) ks877
/-- ColdShod$StrokePlan.addNext(LColdShod$Idea;I)V -/
def kE878 : aE := (83, 3, ([kvB 0 3, kvB 141 341], [(57, 140, .inl (0, .ofNat 0)), (52, 6, .inl (1, .ofNat 0))], 0, [kvR 52, some (.inr [20, 21, 22, 23, 24, 25, 26, 27]), kvN 140, none, none], []), ([], none), ([], [], none, ([], [])), kvW71)
def kC878_0 : aC := (([kvB 0 3, kvB 141 341, kvB 0 4, kvB 141 341], [(57, 140, .inl (0, .ofNat 0)), (52, 6, .inl (3, .ofNat 0))], 2, [kvR 52, some (.inr [20, 21, 22, 23, 24, 25, 26, 27]), kvN 140, kvI 2, none], []), ([], []), (4, [(-1, 2)]))
theorem ks878 : aseg kS krf kB [kE550, kE555, kE556, kE557] (ksp []) kE878 [kC878_0] 30000 (none) = true := by decide +kernel
theorem ks878_0 : aseg kS krf kB [kE550, kE555, kE556, kE557] (ksp []) kE878 [kC878_0] 30000 (some kC878_0) = true := by decide +kernel
theorem kok878 : aOK kS krf kB kE878 := aOK_of (kal1 kok550 (kal1 kok555 (kal1 kok556 (kal1 kok557 kal0)))) (kcl1 ks878_0 kcl0) ks878
/-- ColdShod$StrokePlan.addNext(LColdShod$Idea;I)V -/
def kE879 : aE := (83, 3, ([kvB 0 3, kvB 140 341], [(57, 139, .inl (0, .ofNat 0)), (52, 6, .inl (1, .ofNat 0))], 0, [kvR 52, some (.inr [20, 21, 22, 23, 24, 25, 26, 27]), kvN 139, none, none], []), ([], none), ([], [], none, ([], [])), kvW71)
def kC879_0 : aC := (([kvB 0 3, kvB 140 341, kvB 0 4, kvB 140 341], [(57, 139, .inl (0, .ofNat 0)), (52, 6, .inl (3, .ofNat 0))], 2, [kvR 52, some (.inr [20, 21, 22, 23, 24, 25, 26, 27]), kvN 139, kvI 2, none], []), ([], []), (4, [(-1, 2)]))
theorem ks879 : aseg kS krf kB [kE550, kE555, kE556, kE557] (ksp []) kE879 [kC879_0] 30000 (none) = true := by decide +kernel
theorem ks879_0 : aseg kS krf kB [kE550, kE555, kE556, kE557] (ksp []) kE879 [kC879_0] 30000 (some kC879_0) = true := by decide +kernel
theorem kok879 : aOK kS krf kB kE879 := aOK_of (kal1 kok550 (kal1 kok555 (kal1 kok556 (kal1 kok557 kal0)))) (kcl1 ks879_0 kcl0) ks879
/-- ColdShod$StrokePlan.addNext(LColdShod$Idea;I)V -/
def kE880 : aE := (83, 3, ([kvB 0 3, kvB 139 341], [(57, 138, .inl (0, .ofNat 0)), (52, 6, .inl (1, .ofNat 0))], 0, [kvR 52, some (.inr [20, 21, 22, 23, 24, 25, 26, 27]), kvN 138, none, none], []), ([], none), ([], [], none, ([], [])), kvW71)
def kC880_0 : aC := (([kvB 0 3, kvB 139 341, kvB 0 4, kvB 139 341], [(57, 138, .inl (0, .ofNat 0)), (52, 6, .inl (3, .ofNat 0))], 2, [kvR 52, some (.inr [20, 21, 22, 23, 24, 25, 26, 27]), kvN 138, kvI 2, none], []), ([], []), (4, [(-1, 2)]))
theorem ks880 : aseg kS krf kB [kE550, kE555, kE556, kE557] (ksp []) kE880 [kC880_0] 30000 (none) = true := by decide +kernel
theorem ks880_0 : aseg kS krf kB [kE550, kE555, kE556, kE557] (ksp []) kE880 [kC880_0] 30000 (some kC880_0) = true := by decide +kernel
theorem kok880 : aOK kS krf kB kE880 := aOK_of (kal1 kok550 (kal1 kok555 (kal1 kok556 (kal1 kok557 kal0)))) (kcl1 ks880_0 kcl0) ks880
/-- ColdShod$StrokePlan.addNext(LColdShod$Idea;I)V -/
def kE881 : aE := (83, 3, ([kvB 0 3, kvB 138 341], [(57, 137, .inl (0, .ofNat 0)), (52, 6, .inl (1, .ofNat 0))], 0, [kvR 52, some (.inr [20, 21, 22, 23, 24, 25, 26, 27]), kvN 137, none, none], []), ([], none), ([], [], none, ([], [])), kvW71)
def kC881_0 : aC := (([kvB 0 3, kvB 138 341, kvB 0 4, kvB 138 341], [(57, 137, .inl (0, .ofNat 0)), (52, 6, .inl (3, .ofNat 0))], 2, [kvR 52, some (.inr [20, 21, 22, 23, 24, 25, 26, 27]), kvN 137, kvI 2, none], []), ([], []), (4, [(-1, 2)]))
theorem ks881 : aseg kS krf kB [kE550, kE555, kE556, kE557] (ksp []) kE881 [kC881_0] 30000 (none) = true := by decide +kernel
theorem ks881_0 : aseg kS krf kB [kE550, kE555, kE556, kE557] (ksp []) kE881 [kC881_0] 30000 (some kC881_0) = true := by decide +kernel
theorem kok881 : aOK kS krf kB kE881 := aOK_of (kal1 kok550 (kal1 kok555 (kal1 kok556 (kal1 kok557 kal0)))) (kcl1 ks881_0 kcl0) ks881
/-- ColdShod$StrokePlan.addNext(LColdShod$Idea;I)V -/
def kE882 : aE := (83, 3, ([kvB 0 3, kvB 137 341], [(57, 136, .inl (0, .ofNat 0)), (52, 6, .inl (1, .ofNat 0))], 0, [kvR 52, some (.inr [20, 21, 22, 23, 24, 25, 26, 27]), kvN 136, none, none], []), ([], none), ([], [], none, ([], [])), kvW71)
def kC882_0 : aC := (([kvB 0 3, kvB 137 341, kvB 0 4, kvB 137 341], [(57, 136, .inl (0, .ofNat 0)), (52, 6, .inl (3, .ofNat 0))], 2, [kvR 52, some (.inr [20, 21, 22, 23, 24, 25, 26, 27]), kvN 136, kvI 2, none], []), ([], []), (4, [(-1, 2)]))
theorem ks882 : aseg kS krf kB [kE550, kE555, kE556, kE557] (ksp []) kE882 [kC882_0] 30000 (none) = true := by decide +kernel
theorem ks882_0 : aseg kS krf kB [kE550, kE555, kE556, kE557] (ksp []) kE882 [kC882_0] 30000 (some kC882_0) = true := by decide +kernel
theorem kok882 : aOK kS krf kB kE882 := aOK_of (kal1 kok550 (kal1 kok555 (kal1 kok556 (kal1 kok557 kal0)))) (kcl1 ks882_0 kcl0) ks882
/-- ColdShod$StrokePlan.addNext(LColdShod$Idea;I)V -/
def kE883 : aE := (83, 3, ([kvB 0 3, kvB 136 341], [(57, 135, .inl (0, .ofNat 0)), (52, 6, .inl (1, .ofNat 0))], 0, [kvR 52, some (.inr [20, 21, 22, 23, 24, 25, 26, 27]), kvN 135, none, none], []), ([], none), ([], [], none, ([], [])), kvW71)
def kC883_0 : aC := (([kvB 0 3, kvB 136 341, kvB 0 4, kvB 136 341], [(57, 135, .inl (0, .ofNat 0)), (52, 6, .inl (3, .ofNat 0))], 2, [kvR 52, some (.inr [20, 21, 22, 23, 24, 25, 26, 27]), kvN 135, kvI 2, none], []), ([], []), (4, [(-1, 2)]))
theorem ks883 : aseg kS krf kB [kE550, kE555, kE556, kE557] (ksp []) kE883 [kC883_0] 30000 (none) = true := by decide +kernel
theorem ks883_0 : aseg kS krf kB [kE550, kE555, kE556, kE557] (ksp []) kE883 [kC883_0] 30000 (some kC883_0) = true := by decide +kernel
theorem kok883 : aOK kS krf kB kE883 := aOK_of (kal1 kok550 (kal1 kok555 (kal1 kok556 (kal1 kok557 kal0)))) (kcl1 ks883_0 kcl0) ks883
/-- ColdShod$StrokePlan.addNext(LColdShod$Idea;I)V -/
def kE884 : aE := (83, 3, ([kvB 0 3, kvB 135 341], [(57, 134, .inl (0, .ofNat 0)), (52, 6, .inl (1, .ofNat 0))], 0, [kvR 52, some (.inr [20, 21, 22, 23, 24, 25, 26, 27]), kvN 134, none, none], []), ([], none), ([], [], none, ([], [])), kvW71)
def kC884_0 : aC := (([kvB 0 3, kvB 135 341, kvB 0 4, kvB 135 341], [(57, 134, .inl (0, .ofNat 0)), (52, 6, .inl (3, .ofNat 0))], 2, [kvR 52, some (.inr [20, 21, 22, 23, 24, 25, 26, 27]), kvN 134, kvI 2, none], []), ([], []), (4, [(-1, 2)]))
theorem ks884 : aseg kS krf kB [kE550, kE555, kE556, kE557] (ksp []) kE884 [kC884_0] 30000 (none) = true := by decide +kernel
theorem ks884_0 : aseg kS krf kB [kE550, kE555, kE556, kE557] (ksp []) kE884 [kC884_0] 30000 (some kC884_0) = true := by decide +kernel
theorem kok884 : aOK kS krf kB kE884 := aOK_of (kal1 kok550 (kal1 kok555 (kal1 kok556 (kal1 kok557 kal0)))) (kcl1 ks884_0 kcl0) ks884
/-- ColdShod$StrokePlan.addNext(LColdShod$Idea;I)V -/
def kE885 : aE := (83, 3, ([kvB 0 3, kvB 134 341], [(57, 133, .inl (0, .ofNat 0)), (52, 6, .inl (1, .ofNat 0))], 0, [kvR 52, some (.inr [20, 21, 22, 23, 24, 25, 26, 27]), kvN 133, none, none], []), ([], none), ([], [], none, ([], [])), kvW71)
def kC885_0 : aC := (([kvB 0 3, kvB 134 341, kvB 0 4, kvB 134 341], [(57, 133, .inl (0, .ofNat 0)), (52, 6, .inl (3, .ofNat 0))], 2, [kvR 52, some (.inr [20, 21, 22, 23, 24, 25, 26, 27]), kvN 133, kvI 2, none], []), ([], []), (4, [(-1, 2)]))
theorem ks885 : aseg kS krf kB [kE550, kE555, kE556, kE557] (ksp []) kE885 [kC885_0] 30000 (none) = true := by decide +kernel
theorem ks885_0 : aseg kS krf kB [kE550, kE555, kE556, kE557] (ksp []) kE885 [kC885_0] 30000 (some kC885_0) = true := by decide +kernel
theorem kok885 : aOK kS krf kB kE885 := aOK_of (kal1 kok550 (kal1 kok555 (kal1 kok556 (kal1 kok557 kal0)))) (kcl1 ks885_0 kcl0) ks885
/-- ColdShod$StrokePlan.addNext(LColdShod$Idea;I)V -/
def kE886 : aE := (83, 3, ([kvB 0 3, kvB 133 341], [(57, 132, .inl (0, .ofNat 0)), (52, 6, .inl (1, .ofNat 0))], 0, [kvR 52, some (.inr [20, 21, 22, 23, 24, 25, 26, 27]), kvN 132, none, none], []), ([], none), ([], [], none, ([], [])), kvW71)
def kC886_0 : aC := (([kvB 0 3, kvB 133 341, kvB 0 4, kvB 133 341], [(57, 132, .inl (0, .ofNat 0)), (52, 6, .inl (3, .ofNat 0))], 2, [kvR 52, some (.inr [20, 21, 22, 23, 24, 25, 26, 27]), kvN 132, kvI 2, none], []), ([], []), (4, [(-1, 2)]))
theorem ks886 : aseg kS krf kB [kE550, kE555, kE556, kE557] (ksp []) kE886 [kC886_0] 30000 (none) = true := by decide +kernel
theorem ks886_0 : aseg kS krf kB [kE550, kE555, kE556, kE557] (ksp []) kE886 [kC886_0] 30000 (some kC886_0) = true := by decide +kernel
theorem kok886 : aOK kS krf kB kE886 := aOK_of (kal1 kok550 (kal1 kok555 (kal1 kok556 (kal1 kok557 kal0)))) (kcl1 ks886_0 kcl0) ks886
/-- ColdShod$StrokePlan.addNext(LColdShod$Idea;I)V -/
def kE887 : aE := (83, 3, ([kvB 0 3, kvB 132 341], [(57, 131, .inl (0, .ofNat 0)), (52, 6, .inl (1, .ofNat 0))], 0, [kvR 52, some (.inr [20, 21, 22, 23, 24, 25, 26, 27]), kvN 131, none, none], []), ([], none), ([], [], none, ([], [])), kvW71)
def kC887_0 : aC := (([kvB 0 3, kvB 132 341, kvB 0 4, kvB 132 341], [(57, 131, .inl (0, .ofNat 0)), (52, 6, .inl (3, .ofNat 0))], 2, [kvR 52, some (.inr [20, 21, 22, 23, 24, 25, 26, 27]), kvN 131, kvI 2, none], []), ([], []), (4, [(-1, 2)]))
theorem ks887 : aseg kS krf kB [kE550, kE555, kE556, kE557] (ksp []) kE887 [kC887_0] 30000 (none) = true := by decide +kernel
theorem ks887_0 : aseg kS krf kB [kE550, kE555, kE556, kE557] (ksp []) kE887 [kC887_0] 30000 (some kC887_0) = true := by decide +kernel
theorem kok887 : aOK kS krf kB kE887 := aOK_of (kal1 kok550 (kal1 kok555 (kal1 kok556 (kal1 kok557 kal0)))) (kcl1 ks887_0 kcl0) ks887
/-- ColdShod$StrokePlan.addNext(LColdShod$Idea;I)V -/
def kE888 : aE := (83, 3, ([kvB 0 3, kvB 131 341], [(57, 130, .inl (0, .ofNat 0)), (52, 6, .inl (1, .ofNat 0))], 0, [kvR 52, some (.inr [20, 21, 22, 23, 24, 25, 26, 27]), kvN 130, none, none], []), ([], none), ([], [], none, ([], [])), kvW71)
def kC888_0 : aC := (([kvB 0 3, kvB 131 341, kvB 0 4, kvB 131 341], [(57, 130, .inl (0, .ofNat 0)), (52, 6, .inl (3, .ofNat 0))], 2, [kvR 52, some (.inr [20, 21, 22, 23, 24, 25, 26, 27]), kvN 130, kvI 2, none], []), ([], []), (4, [(-1, 2)]))
theorem ks888 : aseg kS krf kB [kE550, kE555, kE556, kE557] (ksp []) kE888 [kC888_0] 30000 (none) = true := by decide +kernel
theorem ks888_0 : aseg kS krf kB [kE550, kE555, kE556, kE557] (ksp []) kE888 [kC888_0] 30000 (some kC888_0) = true := by decide +kernel
theorem kok888 : aOK kS krf kB kE888 := aOK_of (kal1 kok550 (kal1 kok555 (kal1 kok556 (kal1 kok557 kal0)))) (kcl1 ks888_0 kcl0) ks888
/-- ColdShod$StrokePlan.addNext(LColdShod$Idea;I)V -/
def kE889 : aE := (83, 3, ([kvB 0 3, kvB 130 341], [(57, 129, .inl (0, .ofNat 0)), (52, 6, .inl (1, .ofNat 0))], 0, [kvR 52, some (.inr [20, 21, 22, 23, 24, 25, 26, 27]), kvN 129, none, none], []), ([], none), ([], [], none, ([], [])), kvW71)
def kC889_0 : aC := (([kvB 0 3, kvB 130 341, kvB 0 4, kvB 130 341], [(57, 129, .inl (0, .ofNat 0)), (52, 6, .inl (3, .ofNat 0))], 2, [kvR 52, some (.inr [20, 21, 22, 23, 24, 25, 26, 27]), kvN 129, kvI 2, none], []), ([], []), (4, [(-1, 2)]))
theorem ks889 : aseg kS krf kB [kE550, kE555, kE556, kE557] (ksp []) kE889 [kC889_0] 30000 (none) = true := by decide +kernel
theorem ks889_0 : aseg kS krf kB [kE550, kE555, kE556, kE557] (ksp []) kE889 [kC889_0] 30000 (some kC889_0) = true := by decide +kernel
theorem kok889 : aOK kS krf kB kE889 := aOK_of (kal1 kok550 (kal1 kok555 (kal1 kok556 (kal1 kok557 kal0)))) (kcl1 ks889_0 kcl0) ks889
/-- ColdShod$StrokePlan.addNext(LColdShod$Idea;I)V -/
def kE890 : aE := (83, 3, ([kvB 0 3, kvB 129 341], [(57, 128, .inl (0, .ofNat 0)), (52, 6, .inl (1, .ofNat 0))], 0, [kvR 52, some (.inr [20, 21, 22, 23, 24, 25, 26, 27]), kvN 128, none, none], []), ([], none), ([], [], none, ([], [])), kvW71)
def kC890_0 : aC := (([kvB 0 3, kvB 129 341, kvB 0 4, kvB 129 341], [(57, 128, .inl (0, .ofNat 0)), (52, 6, .inl (3, .ofNat 0))], 2, [kvR 52, some (.inr [20, 21, 22, 23, 24, 25, 26, 27]), kvN 128, kvI 2, none], []), ([], []), (4, [(-1, 2)]))
theorem ks890 : aseg kS krf kB [kE550, kE555, kE556, kE557] (ksp []) kE890 [kC890_0] 30000 (none) = true := by decide +kernel
theorem ks890_0 : aseg kS krf kB [kE550, kE555, kE556, kE557] (ksp []) kE890 [kC890_0] 30000 (some kC890_0) = true := by decide +kernel
theorem kok890 : aOK kS krf kB kE890 := aOK_of (kal1 kok550 (kal1 kok555 (kal1 kok556 (kal1 kok557 kal0)))) (kcl1 ks890_0 kcl0) ks890
/-- ColdShod$StrokePlan.addNext(LColdShod$Idea;I)V -/
def kE891 : aE := (83, 3, ([kvB 0 3, kvB 128 341], [(57, 127, .inl (0, .ofNat 0)), (52, 6, .inl (1, .ofNat 0))], 0, [kvR 52, some (.inr [20, 21, 22, 23, 24, 25, 26, 27]), kvN 127, none, none], []), ([], none), ([], [], none, ([], [])), kvW71)
def kC891_0 : aC := (([kvB 0 3, kvB 128 341, kvB 0 4, kvB 128 341], [(57, 127, .inl (0, .ofNat 0)), (52, 6, .inl (3, .ofNat 0))], 2, [kvR 52, some (.inr [20, 21, 22, 23, 24, 25, 26, 27]), kvN 127, kvI 2, none], []), ([], []), (4, [(-1, 2)]))
theorem ks891 : aseg kS krf kB [kE550, kE555, kE556, kE557] (ksp []) kE891 [kC891_0] 30000 (none) = true := by decide +kernel
theorem ks891_0 : aseg kS krf kB [kE550, kE555, kE556, kE557] (ksp []) kE891 [kC891_0] 30000 (some kC891_0) = true := by decide +kernel
theorem kok891 : aOK kS krf kB kE891 := aOK_of (kal1 kok550 (kal1 kok555 (kal1 kok556 (kal1 kok557 kal0)))) (kcl1 ks891_0 kcl0) ks891
/-- ColdShod$StrokePlan.addNext(LColdShod$Idea;I)V -/
def kE892 : aE := (83, 3, ([kvB 0 3, kvB 127 341], [(57, 126, .inl (0, .ofNat 0)), (52, 6, .inl (1, .ofNat 0))], 0, [kvR 52, some (.inr [20, 21, 22, 23, 24, 25, 26, 27]), kvN 126, none, none], []), ([], none), ([], [], none, ([], [])), kvW71)
def kC892_0 : aC := (([kvB 0 3, kvB 127 341, kvB 0 4, kvB 127 341], [(57, 126, .inl (0, .ofNat 0)), (52, 6, .inl (3, .ofNat 0))], 2, [kvR 52, some (.inr [20, 21, 22, 23, 24, 25, 26, 27]), kvN 126, kvI 2, none], []), ([], []), (4, [(-1, 2)]))
theorem ks892 : aseg kS krf kB [kE550, kE555, kE556, kE557] (ksp []) kE892 [kC892_0] 30000 (none) = true := by decide +kernel
theorem ks892_0 : aseg kS krf kB [kE550, kE555, kE556, kE557] (ksp []) kE892 [kC892_0] 30000 (some kC892_0) = true := by decide +kernel
theorem kok892 : aOK kS krf kB kE892 := aOK_of (kal1 kok550 (kal1 kok555 (kal1 kok556 (kal1 kok557 kal0)))) (kcl1 ks892_0 kcl0) ks892
/-- ColdShod$StrokePlan.addNext(LColdShod$Idea;I)V -/
def kE893 : aE := (83, 3, ([kvB 0 3, kvB 126 341], [(57, 125, .inl (0, .ofNat 0)), (52, 6, .inl (1, .ofNat 0))], 0, [kvR 52, some (.inr [20, 21, 22, 23, 24, 25, 26, 27]), kvN 125, none, none], []), ([], none), ([], [], none, ([], [])), kvW71)
def kC893_0 : aC := (([kvB 0 3, kvB 126 341, kvB 0 4, kvB 126 341], [(57, 125, .inl (0, .ofNat 0)), (52, 6, .inl (3, .ofNat 0))], 2, [kvR 52, some (.inr [20, 21, 22, 23, 24, 25, 26, 27]), kvN 125, kvI 2, none], []), ([], []), (4, [(-1, 2)]))
theorem ks893 : aseg kS krf kB [kE550, kE555, kE556, kE557] (ksp []) kE893 [kC893_0] 30000 (none) = true := by decide +kernel
theorem ks893_0 : aseg kS krf kB [kE550, kE555, kE556, kE557] (ksp []) kE893 [kC893_0] 30000 (some kC893_0) = true := by decide +kernel
theorem kok893 : aOK kS krf kB kE893 := aOK_of (kal1 kok550 (kal1 kok555 (kal1 kok556 (kal1 kok557 kal0)))) (kcl1 ks893_0 kcl0) ks893
/-- ColdShod$StrokePlan.addNext(LColdShod$Idea;I)V -/
def kE894 : aE := (83, 3, ([kvB 0 3, kvB 125 341], [(57, 124, .inl (0, .ofNat 0)), (52, 6, .inl (1, .ofNat 0))], 0, [kvR 52, some (.inr [20, 21, 22, 23, 24, 25, 26, 27]), kvN 124, none, none], []), ([], none), ([], [], none, ([], [])), kvW71)
def kC894_0 : aC := (([kvB 0 3, kvB 125 341, kvB 0 4, kvB 125 341], [(57, 124, .inl (0, .ofNat 0)), (52, 6, .inl (3, .ofNat 0))], 2, [kvR 52, some (.inr [20, 21, 22, 23, 24, 25, 26, 27]), kvN 124, kvI 2, none], []), ([], []), (4, [(-1, 2)]))
theorem ks894 : aseg kS krf kB [kE550, kE555, kE556, kE557] (ksp []) kE894 [kC894_0] 30000 (none) = true := by decide +kernel
theorem ks894_0 : aseg kS krf kB [kE550, kE555, kE556, kE557] (ksp []) kE894 [kC894_0] 30000 (some kC894_0) = true := by decide +kernel
theorem kok894 : aOK kS krf kB kE894 := aOK_of (kal1 kok550 (kal1 kok555 (kal1 kok556 (kal1 kok557 kal0)))) (kcl1 ks894_0 kcl0) ks894
/-- ColdShod$StrokePlan.addNext(LColdShod$Idea;I)V -/
def kE895 : aE := (83, 3, ([kvB 0 3, kvB 124 341], [(57, 123, .inl (0, .ofNat 0)), (52, 6, .inl (1, .ofNat 0))], 0, [kvR 52, some (.inr [20, 21, 22, 23, 24, 25, 26, 27]), kvN 123, none, none], []), ([], none), ([], [], none, ([], [])), kvW71)
def kC895_0 : aC := (([kvB 0 3, kvB 124 341, kvB 0 4, kvB 124 341], [(57, 123, .inl (0, .ofNat 0)), (52, 6, .inl (3, .ofNat 0))], 2, [kvR 52, some (.inr [20, 21, 22, 23, 24, 25, 26, 27]), kvN 123, kvI 2, none], []), ([], []), (4, [(-1, 2)]))
theorem ks895 : aseg kS krf kB [kE550, kE555, kE556, kE557] (ksp []) kE895 [kC895_0] 30000 (none) = true := by decide +kernel
theorem ks895_0 : aseg kS krf kB [kE550, kE555, kE556, kE557] (ksp []) kE895 [kC895_0] 30000 (some kC895_0) = true := by decide +kernel
theorem kok895 : aOK kS krf kB kE895 := aOK_of (kal1 kok550 (kal1 kok555 (kal1 kok556 (kal1 kok557 kal0)))) (kcl1 ks895_0 kcl0) ks895
/-- ColdShod$StrokePlan.addNext(LColdShod$Idea;I)V -/
def kE896 : aE := (83, 3, ([kvB 0 3, kvB 123 341], [(57, 122, .inl (0, .ofNat 0)), (52, 6, .inl (1, .ofNat 0))], 0, [kvR 52, some (.inr [20, 21, 22, 23, 24, 25, 26, 27]), kvN 122, none, none], []), ([], none), ([], [], none, ([], [])), kvW71)
def kC896_0 : aC := (([kvB 0 3, kvB 123 341, kvB 0 4, kvB 123 341], [(57, 122, .inl (0, .ofNat 0)), (52, 6, .inl (3, .ofNat 0))], 2, [kvR 52, some (.inr [20, 21, 22, 23, 24, 25, 26, 27]), kvN 122, kvI 2, none], []), ([], []), (4, [(-1, 2)]))
theorem ks896 : aseg kS krf kB [kE550, kE555, kE556, kE557] (ksp []) kE896 [kC896_0] 30000 (none) = true := by decide +kernel
theorem ks896_0 : aseg kS krf kB [kE550, kE555, kE556, kE557] (ksp []) kE896 [kC896_0] 30000 (some kC896_0) = true := by decide +kernel
theorem kok896 : aOK kS krf kB kE896 := aOK_of (kal1 kok550 (kal1 kok555 (kal1 kok556 (kal1 kok557 kal0)))) (kcl1 ks896_0 kcl0) ks896
/-- ColdShod$StrokePlan.addNext(LColdShod$Idea;I)V -/
def kE897 : aE := (83, 3, ([kvB 0 3, kvB 122 341], [(57, 121, .inl (0, .ofNat 0)), (52, 6, .inl (1, .ofNat 0))], 0, [kvR 52, some (.inr [20, 21, 22, 23, 24, 25, 26, 27]), kvN 121, none, none], []), ([], none), ([], [], none, ([], [])), kvW71)
def kC897_0 : aC := (([kvB 0 3, kvB 122 341, kvB 0 4, kvB 122 341], [(57, 121, .inl (0, .ofNat 0)), (52, 6, .inl (3, .ofNat 0))], 2, [kvR 52, some (.inr [20, 21, 22, 23, 24, 25, 26, 27]), kvN 121, kvI 2, none], []), ([], []), (4, [(-1, 2)]))
theorem ks897 : aseg kS krf kB [kE550, kE555, kE556, kE557] (ksp []) kE897 [kC897_0] 30000 (none) = true := by decide +kernel
theorem ks897_0 : aseg kS krf kB [kE550, kE555, kE556, kE557] (ksp []) kE897 [kC897_0] 30000 (some kC897_0) = true := by decide +kernel
theorem kok897 : aOK kS krf kB kE897 := aOK_of (kal1 kok550 (kal1 kok555 (kal1 kok556 (kal1 kok557 kal0)))) (kcl1 ks897_0 kcl0) ks897
/-- ColdShod$StrokePlan.addNext(LColdShod$Idea;I)V -/
def kE898 : aE := (83, 3, ([kvB 0 3, kvB 121 341], [(57, 120, .inl (0, .ofNat 0)), (52, 6, .inl (1, .ofNat 0))], 0, [kvR 52, some (.inr [20, 21, 22, 23, 24, 25, 26, 27]), kvN 120, none, none], []), ([], none), ([], [], none, ([], [])), kvW71)
def kC898_0 : aC := (([kvB 0 3, kvB 121 341, kvB 0 4, kvB 121 341], [(57, 120, .inl (0, .ofNat 0)), (52, 6, .inl (3, .ofNat 0))], 2, [kvR 52, some (.inr [20, 21, 22, 23, 24, 25, 26, 27]), kvN 120, kvI 2, none], []), ([], []), (4, [(-1, 2)]))
theorem ks898 : aseg kS krf kB [kE550, kE555, kE556, kE557] (ksp []) kE898 [kC898_0] 30000 (none) = true := by decide +kernel
theorem ks898_0 : aseg kS krf kB [kE550, kE555, kE556, kE557] (ksp []) kE898 [kC898_0] 30000 (some kC898_0) = true := by decide +kernel
theorem kok898 : aOK kS krf kB kE898 := aOK_of (kal1 kok550 (kal1 kok555 (kal1 kok556 (kal1 kok557 kal0)))) (kcl1 ks898_0 kcl0) ks898
/-- ColdShod$StrokePlan.fewestFor(LColdShod$Journey;LColdShod$Idea;LColdShod$Country;)I -/
def kE899 : aE := (82, 6, ([], [], 0, [kvR 52, kvR 50, some (.inr [20, 21, 22, 23, 24, 25, 26, 27]), kvR 7, none], []), ([], none), ([(.negSucc 1, .ofNat 4)], [], kvI 0, ([], [])), kvW73)
def kC899_0 : aC := (([kvB 0 19], [], 25, [kvR 52, kvR 50, some (.inr [20, 21, 22, 23, 24, 25, 26, 27]), kvR 7, kvI 0], []), ([], []), (410, [(-1, 0)]))
def kC899_1 : aC := (([kvB 60 79], [], 25, [kvR 52, kvR 50, some (.inr [20, 21, 22, 23, 24, 25, 26, 27]), kvR 7, kvI 0], []), ([], []), (401, [(-1, 0)]))
def kC899_2 : aC := (([kvB 40 59], [], 25, [kvR 52, kvR 50, some (.inr [20, 21, 22, 23, 24, 25, 26, 27]), kvR 7, kvI 0], []), ([], []), (404, [(-1, 0)]))
def kC899_3 : aC := (([kvB 20 39], [], 25, [kvR 52, kvR 50, some (.inr [20, 21, 22, 23, 24, 25, 26, 27]), kvR 7, kvI 0], []), ([], []), (407, [(-1, 0)]))
def kC899_4 : aC := (([kvB 80 99], [], 25, [kvR 52, kvR 50, some (.inr [20, 21, 22, 23, 24, 25, 26, 27]), kvR 7, kvI 0], []), ([], []), (398, [(-1, 0)]))
def kC899_5 : aC := (([kvB 100 119], [], 25, [kvR 52, kvR 50, some (.inr [20, 21, 22, 23, 24, 25, 26, 27]), kvR 7, kvI 0], []), ([], []), (395, [(-1, 0)]))
def kC899_6 : aC := (([kvB 340 341], [], 25, [kvR 52, kvR 50, some (.inr [20, 21, 22, 23, 24, 25, 26, 27]), kvR 7, kvI 0], []), ([], []), (341, [(-1, 0)]))
def kC899_7 : aC := (([kvB 320 339], [], 25, [kvR 52, kvR 50, some (.inr [20, 21, 22, 23, 24, 25, 26, 27]), kvR 7, kvI 0], []), ([], []), (362, [(-1, 0)]))
def kC899_8 : aC := (([kvB 300 319], [], 25, [kvR 52, kvR 50, some (.inr [20, 21, 22, 23, 24, 25, 26, 27]), kvR 7, kvI 0], []), ([], []), (365, [(-1, 0)]))
def kC899_9 : aC := (([kvB 280 299], [], 25, [kvR 52, kvR 50, some (.inr [20, 21, 22, 23, 24, 25, 26, 27]), kvR 7, kvI 0], []), ([], []), (368, [(-1, 0)]))
def kC899_10 : aC := (([kvB 260 279], [], 25, [kvR 52, kvR 50, some (.inr [20, 21, 22, 23, 24, 25, 26, 27]), kvR 7, kvI 0], []), ([], []), (371, [(-1, 0)]))
def kC899_11 : aC := (([kvB 240 259], [], 25, [kvR 52, kvR 50, some (.inr [20, 21, 22, 23, 24, 25, 26, 27]), kvR 7, kvI 0], []), ([], []), (374, [(-1, 0)]))
def kC899_12 : aC := (([kvB 220 239], [], 25, [kvR 52, kvR 50, some (.inr [20, 21, 22, 23, 24, 25, 26, 27]), kvR 7, kvI 0], []), ([], []), (377, [(-1, 0)]))
def kC899_13 : aC := (([kvB 200 219], [], 25, [kvR 52, kvR 50, some (.inr [20, 21, 22, 23, 24, 25, 26, 27]), kvR 7, kvI 0], []), ([], []), (380, [(-1, 0)]))
def kC899_14 : aC := (([kvB 180 199], [], 25, [kvR 52, kvR 50, some (.inr [20, 21, 22, 23, 24, 25, 26, 27]), kvR 7, kvI 0], []), ([], []), (383, [(-1, 0)]))
def kC899_15 : aC := (([kvB 160 179], [], 25, [kvR 52, kvR 50, some (.inr [20, 21, 22, 23, 24, 25, 26, 27]), kvR 7, kvI 0], []), ([], []), (386, [(-1, 0)]))
def kC899_16 : aC := (([kvB 140 159], [], 25, [kvR 52, kvR 50, some (.inr [20, 21, 22, 23, 24, 25, 26, 27]), kvR 7, kvI 0], []), ([], []), (389, [(-1, 0)]))
def kC899_17 : aC := (([kvB 120 139], [], 25, [kvR 52, kvR 50, some (.inr [20, 21, 22, 23, 24, 25, 26, 27]), kvR 7, kvI 0], []), ([], []), (392, [(-1, 0)]))
theorem ks899 : aseg kS krf kB [kE549] (ksp [(82, 25, 4, 0, 340, 0)]) kE899 [kC899_0, kC899_1, kC899_2, kC899_3, kC899_4, kC899_5, kC899_6, kC899_7, kC899_8, kC899_9, kC899_10, kC899_11, kC899_12, kC899_13, kC899_14, kC899_15, kC899_16, kC899_17] 30000 (none) = true := by decide +kernel
theorem ks899_0 : aseg kS krf kB [kE550, kE553, kE554, kE558, kE559, kE560, kE561, kE562, kE563, kE564, kE565, kE566, kE567, kE568, kE569, kE570, kE571, kE572, kE573, kE574, kE575, kE576, kE577] (ksp [(82, 25, 4, 0, 340, 0)]) kE899 [kC899_0, kC899_1, kC899_2, kC899_3, kC899_4, kC899_5, kC899_6, kC899_7, kC899_8, kC899_9, kC899_10, kC899_11, kC899_12, kC899_13, kC899_14, kC899_15, kC899_16, kC899_17] 30000 (some kC899_0) = true := by decide +kernel
theorem ks899_1 : aseg kS krf kB [kE550, kE553, kE554, kE578, kE579, kE580, kE581, kE582, kE583, kE584, kE585, kE586, kE587, kE588, kE589, kE590, kE591, kE592, kE593, kE594, kE595, kE596, kE597] (ksp [(82, 25, 4, 0, 340, 0)]) kE899 [kC899_0, kC899_1, kC899_2, kC899_3, kC899_4, kC899_5, kC899_6, kC899_7, kC899_8, kC899_9, kC899_10, kC899_11, kC899_12, kC899_13, kC899_14, kC899_15, kC899_16, kC899_17] 30000 (some kC899_1) = true := by decide +kernel
theorem ks899_2 : aseg kS krf kB [kE550, kE553, kE554, kE598, kE599, kE600, kE601, kE602, kE603, kE604, kE605, kE606, kE607, kE608, kE609, kE610, kE611, kE612, kE613, kE614, kE615, kE616, kE617] (ksp [(82, 25, 4, 0, 340, 0)]) kE899 [kC899_0, kC899_1, kC899_2, kC899_3, kC899_4, kC899_5, kC899_6, kC899_7, kC899_8, kC899_9, kC899_10, kC899_11, kC899_12, kC899_13, kC899_14, kC899_15, kC899_16, kC899_17] 30000 (some kC899_2) = true := by decide +kernel
theorem ks899_3 : aseg kS krf kB [kE550, kE553, kE554, kE618, kE619, kE620, kE621, kE622, kE623, kE624, kE625, kE626, kE627, kE628, kE629, kE630, kE631, kE632, kE633, kE634, kE635, kE636, kE637] (ksp [(82, 25, 4, 0, 340, 0)]) kE899 [kC899_0, kC899_1, kC899_2, kC899_3, kC899_4, kC899_5, kC899_6, kC899_7, kC899_8, kC899_9, kC899_10, kC899_11, kC899_12, kC899_13, kC899_14, kC899_15, kC899_16, kC899_17] 30000 (some kC899_3) = true := by decide +kernel
theorem ks899_4 : aseg kS krf kB [kE550, kE553, kE554, kE638, kE639, kE640, kE641, kE642, kE643, kE644, kE645, kE646, kE647, kE648, kE649, kE650, kE651, kE652, kE653, kE654, kE655, kE656, kE657] (ksp [(82, 25, 4, 0, 340, 0)]) kE899 [kC899_0, kC899_1, kC899_2, kC899_3, kC899_4, kC899_5, kC899_6, kC899_7, kC899_8, kC899_9, kC899_10, kC899_11, kC899_12, kC899_13, kC899_14, kC899_15, kC899_16, kC899_17] 30000 (some kC899_4) = true := by decide +kernel
theorem ks899_5 : aseg kS krf kB [kE550, kE553, kE554, kE658, kE659, kE660, kE661, kE662, kE663, kE664, kE665, kE666, kE667, kE668, kE669, kE670, kE671, kE672, kE673, kE674, kE675, kE676, kE677] (ksp [(82, 25, 4, 0, 340, 0)]) kE899 [kC899_0, kC899_1, kC899_2, kC899_3, kC899_4, kC899_5, kC899_6, kC899_7, kC899_8, kC899_9, kC899_10, kC899_11, kC899_12, kC899_13, kC899_14, kC899_15, kC899_16, kC899_17] 30000 (some kC899_5) = true := by decide +kernel
theorem ks899_6 : aseg kS krf kB [kE550, kE553, kE554, kE678] (ksp [(82, 25, 4, 0, 340, 0)]) kE899 [kC899_0, kC899_1, kC899_2, kC899_3, kC899_4, kC899_5, kC899_6, kC899_7, kC899_8, kC899_9, kC899_10, kC899_11, kC899_12, kC899_13, kC899_14, kC899_15, kC899_16, kC899_17] 30000 (some kC899_6) = true := by decide +kernel
theorem ks899_7 : aseg kS krf kB [kE550, kE553, kE554, kE679, kE680, kE681, kE682, kE683, kE684, kE685, kE686, kE687, kE688, kE689, kE690, kE691, kE692, kE693, kE694, kE695, kE696, kE697, kE698] (ksp [(82, 25, 4, 0, 340, 0)]) kE899 [kC899_0, kC899_1, kC899_2, kC899_3, kC899_4, kC899_5, kC899_6, kC899_7, kC899_8, kC899_9, kC899_10, kC899_11, kC899_12, kC899_13, kC899_14, kC899_15, kC899_16, kC899_17] 30000 (some kC899_7) = true := by decide +kernel
theorem ks899_8 : aseg kS krf kB [kE550, kE553, kE554, kE699, kE700, kE701, kE702, kE703, kE704, kE705, kE706, kE707, kE708, kE709, kE710, kE711, kE712, kE713, kE714, kE715, kE716, kE717, kE718] (ksp [(82, 25, 4, 0, 340, 0)]) kE899 [kC899_0, kC899_1, kC899_2, kC899_3, kC899_4, kC899_5, kC899_6, kC899_7, kC899_8, kC899_9, kC899_10, kC899_11, kC899_12, kC899_13, kC899_14, kC899_15, kC899_16, kC899_17] 30000 (some kC899_8) = true := by decide +kernel
theorem ks899_9 : aseg kS krf kB [kE550, kE553, kE554, kE719, kE720, kE721, kE722, kE723, kE724, kE725, kE726, kE727, kE728, kE729, kE730, kE731, kE732, kE733, kE734, kE735, kE736, kE737, kE738] (ksp [(82, 25, 4, 0, 340, 0)]) kE899 [kC899_0, kC899_1, kC899_2, kC899_3, kC899_4, kC899_5, kC899_6, kC899_7, kC899_8, kC899_9, kC899_10, kC899_11, kC899_12, kC899_13, kC899_14, kC899_15, kC899_16, kC899_17] 30000 (some kC899_9) = true := by decide +kernel
theorem ks899_10 : aseg kS krf kB [kE550, kE553, kE554, kE739, kE740, kE741, kE742, kE743, kE744, kE745, kE746, kE747, kE748, kE749, kE750, kE751, kE752, kE753, kE754, kE755, kE756, kE757, kE758] (ksp [(82, 25, 4, 0, 340, 0)]) kE899 [kC899_0, kC899_1, kC899_2, kC899_3, kC899_4, kC899_5, kC899_6, kC899_7, kC899_8, kC899_9, kC899_10, kC899_11, kC899_12, kC899_13, kC899_14, kC899_15, kC899_16, kC899_17] 30000 (some kC899_10) = true := by decide +kernel
