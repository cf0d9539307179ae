/-! ENTRIES and their checks: printed by a program (wip/ai). -/
/-- ColdShod$StrokePlan.addNext(LColdShod$Idea;I)V -/
def kE680 : aE := (83, 3, ([kvB 0 3, kvB 110 341], [(57, 109, .inl (0, .ofNat 0)), (52, 6, .inl (1, .ofNat 0))], 0, [kvR 52, some (.inr [20, 21, 22, 23, 24, 25, 26, 27]), kvN 109, none, none], []), ([], none), ([], [], none, ([], [])), kvW74)
def kC680_0 : aC := (([kvB 0 3, kvB 110 341, kvB 0 4, kvB 110 341], [(57, 109, .inl (0, .ofNat 0)), (52, 6, .inl (3, .ofNat 0))], 2, [kvR 52, some (.inr [20, 21, 22, 23, 24, 25, 26, 27]), kvN 109, kvI 2, none], []), ([], []), (4, [(-1, 2)]))
theorem ks680 : aseg kS krf kB [kE562, kE567, kE568, kE569] (ksp []) kE680 [kC680_0] 30000 (none) = true := asgqw (by decide +kernel)
theorem ks680_0 : aseg kS krf kB [kE562, kE567, kE568, kE569] (ksp []) kE680 [kC680_0] 30000 (some kC680_0) = true := asgqw (by decide +kernel)
theorem kok680 : aOK kS krf kB kE680 := aOK_of (kal1 kok562 (kal1 kok567 (kal1 kok568 (kal1 kok569 kal0)))) (kcl1 ks680_0 kcl0) ks680
/-- ColdShod$StrokePlan.addNext(LColdShod$Idea;I)V -/
def kE681 : aE := (83, 3, ([kvB 0 3, kvB 109 341], [(57, 108, .inl (0, .ofNat 0)), (52, 6, .inl (1, .ofNat 0))], 0, [kvR 52, some (.inr [20, 21, 22, 23, 24, 25, 26, 27]), kvN 108, none, none], []), ([], none), ([], [], none, ([], [])), kvW74)
def kC681_0 : aC := (([kvB 0 3, kvB 109 341, kvB 0 4, kvB 109 341], [(57, 108, .inl (0, .ofNat 0)), (52, 6, .inl (3, .ofNat 0))], 2, [kvR 52, some (.inr [20, 21, 22, 23, 24, 25, 26, 27]), kvN 108, kvI 2, none], []), ([], []), (4, [(-1, 2)]))
theorem ks681 : aseg kS krf kB [kE562, kE567, kE568, kE569] (ksp []) kE681 [kC681_0] 30000 (none) = true := asgqw (by decide +kernel)
theorem ks681_0 : aseg kS krf kB [kE562, kE567, kE568, kE569] (ksp []) kE681 [kC681_0] 30000 (some kC681_0) = true := asgqw (by decide +kernel)
theorem kok681 : aOK kS krf kB kE681 := aOK_of (kal1 kok562 (kal1 kok567 (kal1 kok568 (kal1 kok569 kal0)))) (kcl1 ks681_0 kcl0) ks681
/-- ColdShod$StrokePlan.addNext(LColdShod$Idea;I)V -/
def kE682 : aE := (83, 3, ([kvB 0 3, kvB 108 341], [(57, 107, .inl (0, .ofNat 0)), (52, 6, .inl (1, .ofNat 0))], 0, [kvR 52, some (.inr [20, 21, 22, 23, 24, 25, 26, 27]), kvN 107, none, none], []), ([], none), ([], [], none, ([], [])), kvW74)
def kC682_0 : aC := (([kvB 0 3, kvB 108 341, kvB 0 4, kvB 108 341], [(57, 107, .inl (0, .ofNat 0)), (52, 6, .inl (3, .ofNat 0))], 2, [kvR 52, some (.inr [20, 21, 22, 23, 24, 25, 26, 27]), kvN 107, kvI 2, none], []), ([], []), (4, [(-1, 2)]))
theorem ks682 : aseg kS krf kB [kE562, kE567, kE568, kE569] (ksp []) kE682 [kC682_0] 30000 (none) = true := asgqw (by decide +kernel)
theorem ks682_0 : aseg kS krf kB [kE562, kE567, kE568, kE569] (ksp []) kE682 [kC682_0] 30000 (some kC682_0) = true := asgqw (by decide +kernel)
theorem kok682 : aOK kS krf kB kE682 := aOK_of (kal1 kok562 (kal1 kok567 (kal1 kok568 (kal1 kok569 kal0)))) (kcl1 ks682_0 kcl0) ks682
/-- ColdShod$StrokePlan.addNext(LColdShod$Idea;I)V -/
def kE683 : aE := (83, 3, ([kvB 0 3, kvB 107 341], [(57, 106, .inl (0, .ofNat 0)), (52, 6, .inl (1, .ofNat 0))], 0, [kvR 52, some (.inr [20, 21, 22, 23, 24, 25, 26, 27]), kvN 106, none, none], []), ([], none), ([], [], none, ([], [])), kvW74)
def kC683_0 : aC := (([kvB 0 3, kvB 107 341, kvB 0 4, kvB 107 341], [(57, 106, .inl (0, .ofNat 0)), (52, 6, .inl (3, .ofNat 0))], 2, [kvR 52, some (.inr [20, 21, 22, 23, 24, 25, 26, 27]), kvN 106, kvI 2, none], []), ([], []), (4, [(-1, 2)]))
theorem ks683 : aseg kS krf kB [kE562, kE567, kE568, kE569] (ksp []) kE683 [kC683_0] 30000 (none) = true := asgqw (by decide +kernel)
theorem ks683_0 : aseg kS krf kB [kE562, kE567, kE568, kE569] (ksp []) kE683 [kC683_0] 30000 (some kC683_0) = true := asgqw (by decide +kernel)
theorem kok683 : aOK kS krf kB kE683 := aOK_of (kal1 kok562 (kal1 kok567 (kal1 kok568 (kal1 kok569 kal0)))) (kcl1 ks683_0 kcl0) ks683
/-- ColdShod$StrokePlan.addNext(LColdShod$Idea;I)V -/
def kE684 : aE := (83, 3, ([kvB 0 3, kvB 106 341], [(57, 105, .inl (0, .ofNat 0)), (52, 6, .inl (1, .ofNat 0))], 0, [kvR 52, some (.inr [20, 21, 22, 23, 24, 25, 26, 27]), kvN 105, none, none], []), ([], none), ([], [], none, ([], [])), kvW74)
def kC684_0 : aC := (([kvB 0 3, kvB 106 341, kvB 0 4, kvB 106 341], [(57, 105, .inl (0, .ofNat 0)), (52, 6, .inl (3, .ofNat 0))], 2, [kvR 52, some (.inr [20, 21, 22, 23, 24, 25, 26, 27]), kvN 105, kvI 2, none], []), ([], []), (4, [(-1, 2)]))
theorem ks684 : aseg kS krf kB [kE562, kE567, kE568, kE569] (ksp []) kE684 [kC684_0] 30000 (none) = true := asgqw (by decide +kernel)
theorem ks684_0 : aseg kS krf kB [kE562, kE567, kE568, kE569] (ksp []) kE684 [kC684_0] 30000 (some kC684_0) = true := asgqw (by decide +kernel)
theorem kok684 : aOK kS krf kB kE684 := aOK_of (kal1 kok562 (kal1 kok567 (kal1 kok568 (kal1 kok569 kal0)))) (kcl1 ks684_0 kcl0) ks684
/-- ColdShod$StrokePlan.addNext(LColdShod$Idea;I)V -/
def kE685 : aE := (83, 3, ([kvB 0 3, kvB 105 341], [(57, 104, .inl (0, .ofNat 0)), (52, 6, .inl (1, .ofNat 0))], 0, [kvR 52, some (.inr [20, 21, 22, 23, 24, 25, 26, 27]), kvN 104, none, none], []), ([], none), ([], [], none, ([], [])), kvW74)
def kC685_0 : aC := (([kvB 0 3, kvB 105 341, kvB 0 4, kvB 105 341], [(57, 104, .inl (0, .ofNat 0)), (52, 6, .inl (3, .ofNat 0))], 2, [kvR 52, some (.inr [20, 21, 22, 23, 24, 25, 26, 27]), kvN 104, kvI 2, none], []), ([], []), (4, [(-1, 2)]))
theorem ks685 : aseg kS krf kB [kE562, kE567, kE568, kE569] (ksp []) kE685 [kC685_0] 30000 (none) = true := asgqw (by decide +kernel)
theorem ks685_0 : aseg kS krf kB [kE562, kE567, kE568, kE569] (ksp []) kE685 [kC685_0] 30000 (some kC685_0) = true := asgqw (by decide +kernel)
theorem kok685 : aOK kS krf kB kE685 := aOK_of (kal1 kok562 (kal1 kok567 (kal1 kok568 (kal1 kok569 kal0)))) (kcl1 ks685_0 kcl0) ks685
/-- ColdShod$StrokePlan.addNext(LColdShod$Idea;I)V -/
def kE686 : aE := (83, 3, ([kvB 0 3, kvB 104 341], [(57, 103, .inl (0, .ofNat 0)), (52, 6, .inl (1, .ofNat 0))], 0, [kvR 52, some (.inr [20, 21, 22, 23, 24, 25, 26, 27]), kvN 103, none, none], []), ([], none), ([], [], none, ([], [])), kvW74)
def kC686_0 : aC := (([kvB 0 3, kvB 104 341, kvB 0 4, kvB 104 341], [(57, 103, .inl (0, .ofNat 0)), (52, 6, .inl (3, .ofNat 0))], 2, [kvR 52, some (.inr [20, 21, 22, 23, 24, 25, 26, 27]), kvN 103, kvI 2, none], []), ([], []), (4, [(-1, 2)]))
theorem ks686 : aseg kS krf kB [kE562, kE567, kE568, kE569] (ksp []) kE686 [kC686_0] 30000 (none) = true := asgqw (by decide +kernel)
theorem ks686_0 : aseg kS krf kB [kE562, kE567, kE568, kE569] (ksp []) kE686 [kC686_0] 30000 (some kC686_0) = true := asgqw (by decide +kernel)
theorem kok686 : aOK kS krf kB kE686 := aOK_of (kal1 kok562 (kal1 kok567 (kal1 kok568 (kal1 kok569 kal0)))) (kcl1 ks686_0 kcl0) ks686
/-- ColdShod$StrokePlan.addNext(LColdShod$Idea;I)V -/
def kE687 : aE := (83, 3, ([kvB 0 3, kvB 103 341], [(57, 102, .inl (0, .ofNat 0)), (52, 6, .inl (1, .ofNat 0))], 0, [kvR 52, some (.inr [20, 21, 22, 23, 24, 25, 26, 27]), kvN 102, none, none], []), ([], none), ([], [], none, ([], [])), kvW74)
def kC687_0 : aC := (([kvB 0 3, kvB 103 341, kvB 0 4, kvB 103 341], [(57, 102, .inl (0, .ofNat 0)), (52, 6, .inl (3, .ofNat 0))], 2, [kvR 52, some (.inr [20, 21, 22, 23, 24, 25, 26, 27]), kvN 102, kvI 2, none], []), ([], []), (4, [(-1, 2)]))
theorem ks687 : aseg kS krf kB [kE562, kE567, kE568, kE569] (ksp []) kE687 [kC687_0] 30000 (none) = true := asgqw (by decide +kernel)
theorem ks687_0 : aseg kS krf kB [kE562, kE567, kE568, kE569] (ksp []) kE687 [kC687_0] 30000 (some kC687_0) = true := asgqw (by decide +kernel)
theorem kok687 : aOK kS krf kB kE687 := aOK_of (kal1 kok562 (kal1 kok567 (kal1 kok568 (kal1 kok569 kal0)))) (kcl1 ks687_0 kcl0) ks687
/-- ColdShod$StrokePlan.addNext(LColdShod$Idea;I)V -/
def kE688 : aE := (83, 3, ([kvB 0 3, kvB 102 341], [(57, 101, .inl (0, .ofNat 0)), (52, 6, .inl (1, .ofNat 0))], 0, [kvR 52, some (.inr [20, 21, 22, 23, 24, 25, 26, 27]), kvN 101, none, none], []), ([], none), ([], [], none, ([], [])), kvW74)
def kC688_0 : aC := (([kvB 0 3, kvB 102 341, kvB 0 4, kvB 102 341], [(57, 101, .inl (0, .ofNat 0)), (52, 6, .inl (3, .ofNat 0))], 2, [kvR 52, some (.inr [20, 21, 22, 23, 24, 25, 26, 27]), kvN 101, kvI 2, none], []), ([], []), (4, [(-1, 2)]))
theorem ks688 : aseg kS krf kB [kE562, kE567, kE568, kE569] (ksp []) kE688 [kC688_0] 30000 (none) = true := asgqw (by decide +kernel)
theorem ks688_0 : aseg kS krf kB [kE562, kE567, kE568, kE569] (ksp []) kE688 [kC688_0] 30000 (some kC688_0) = true := asgqw (by decide +kernel)
theorem kok688 : aOK kS krf kB kE688 := aOK_of (kal1 kok562 (kal1 kok567 (kal1 kok568 (kal1 kok569 kal0)))) (kcl1 ks688_0 kcl0) ks688
/-- ColdShod$StrokePlan.addNext(LColdShod$Idea;I)V -/
def kE689 : aE := (83, 3, ([kvB 0 3, kvB 101 341], [(57, 100, .inl (0, .ofNat 0)), (52, 6, .inl (1, .ofNat 0))], 0, [kvR 52, some (.inr [20, 21, 22, 23, 24, 25, 26, 27]), kvN 100, none, none], []), ([], none), ([], [], none, ([], [])), kvW74)
def kC689_0 : aC := (([kvB 0 3, kvB 101 341, kvB 0 4, kvB 101 341], [(57, 100, .inl (0, .ofNat 0)), (52, 6, .inl (3, .ofNat 0))], 2, [kvR 52, some (.inr [20, 21, 22, 23, 24, 25, 26, 27]), kvN 100, kvI 2, none], []), ([], []), (4, [(-1, 2)]))
theorem ks689 : aseg kS krf kB [kE562, kE567, kE568, kE569] (ksp []) kE689 [kC689_0] 30000 (none) = true := asgqw (by decide +kernel)
theorem ks689_0 : aseg kS krf kB [kE562, kE567, kE568, kE569] (ksp []) kE689 [kC689_0] 30000 (some kC689_0) = true := asgqw (by decide +kernel)
theorem kok689 : aOK kS krf kB kE689 := aOK_of (kal1 kok562 (kal1 kok567 (kal1 kok568 (kal1 kok569 kal0)))) (kcl1 ks689_0 kcl0) ks689
/-- ColdShod$StrokePlan.addNext(LColdShod$Idea;I)V -/
def kE690 : aE := (83, 3, ([kvB 0 3, kvB 341 341], [(57, 340, .inl (0, .ofNat 0)), (52, 6, .inl (1, .ofNat 0))], 0, [kvR 52, some (.inr [20, 21, 22, 23, 24, 25, 26, 27]), kvN 340, none, none], []), ([], none), ([], [], none, ([], [])), kvW69)
def kC690_0 : aC := (([kvB 0 3, kvB 341 341, kvB 0 4], [(57, 340, .inl (0, .ofNat 0)), (52, 6, .inl (1, .ofNat 0))], 2, [kvR 52, some (.inr [20, 21, 22, 23, 24, 25, 26, 27]), kvN 340, kvI 2, none], []), ([], []), (4, [(-1, 2)]))
theorem ks690 : aseg kS krf kB [kE562, kE567, kE568, kE569] (ksp []) kE690 [kC690_0] 30000 (none) = true := asgqw (by decide +kernel)
theorem ks690_0 : aseg kS krf kB [kE562, kE567, kE568, kE569] (ksp []) kE690 [kC690_0] 30000 (some kC690_0) = true := asgqw (by decide +kernel)
theorem kok690 : aOK kS krf kB kE690 := aOK_of (kal1 kok562 (kal1 kok567 (kal1 kok568 (kal1 kok569 kal0)))) (kcl1 ks690_0 kcl0) ks690
/-- ColdShod$StrokePlan.addNext(LColdShod$Idea;I)V -/
def kE691 : aE := (83, 3, ([kvB 0 3, kvB 340 341], [(57, 339, .inl (0, .ofNat 0)), (52, 6, .inl (1, .ofNat 0))], 0, [kvR 52, some (.inr [20, 21, 22, 23, 24, 25, 26, 27]), kvN 339, none, none], []), ([], none), ([], [], none, ([], [])), kvW75)
def kC691_0 : aC := (([kvB 0 3, kvB 340 341, kvB 0 4, kvB 340 341], [(57, 339, .inl (0, .ofNat 0)), (52, 6, .inl (3, .ofNat 0))], 2, [kvR 52, some (.inr [20, 21, 22, 23, 24, 25, 26, 27]), kvN 339, kvI 2, none], []), ([], []), (4, [(-1, 2)]))
theorem ks691 : aseg kS krf kB [kE562, kE567, kE568, kE569] (ksp []) kE691 [kC691_0] 30000 (none) = true := asgqw (by decide +kernel)
theorem ks691_0 : aseg kS krf kB [kE562, kE567, kE568, kE569] (ksp []) kE691 [kC691_0] 30000 (some kC691_0) = true := asgqw (by decide +kernel)
theorem kok691 : aOK kS krf kB kE691 := aOK_of (kal1 kok562 (kal1 kok567 (kal1 kok568 (kal1 kok569 kal0)))) (kcl1 ks691_0 kcl0) ks691
/-- ColdShod$StrokePlan.addNext(LColdShod$Idea;I)V -/
def kE692 : aE := (83, 3, ([kvB 0 3, kvB 339 341], [(57, 338, .inl (0, .ofNat 0)), (52, 6, .inl (1, .ofNat 0))], 0, [kvR 52, some (.inr [20, 21, 22, 23, 24, 25, 26, 27]), kvN 338, none, none], []), ([], none), ([], [], none, ([], [])), kvW74)
def kC692_0 : aC := (([kvB 0 3, kvB 339 341, kvB 0 4, kvB 339 341], [(57, 338, .inl (0, .ofNat 0)), (52, 6, .inl (3, .ofNat 0))], 2, [kvR 52, some (.inr [20, 21, 22, 23, 24, 25, 26, 27]), kvN 338, kvI 2, none], []), ([], []), (4, [(-1, 2)]))
theorem ks692 : aseg kS krf kB [kE562, kE567, kE568, kE569] (ksp []) kE692 [kC692_0] 30000 (none) = true := asgqw (by decide +kernel)
theorem ks692_0 : aseg kS krf kB [kE562, kE567, kE568, kE569] (ksp []) kE692 [kC692_0] 30000 (some kC692_0) = true := asgqw (by decide +kernel)
theorem kok692 : aOK kS krf kB kE692 := aOK_of (kal1 kok562 (kal1 kok567 (kal1 kok568 (kal1 kok569 kal0)))) (kcl1 ks692_0 kcl0) ks692
/-- ColdShod$StrokePlan.addNext(LColdShod$Idea;I)V -/
def kE693 : aE := (83, 3, ([kvB 0 3, kvB 338 341], [(57, 337, .inl (0, .ofNat 0)), (52, 6, .inl (1, .ofNat 0))], 0, [kvR 52, some (.inr [20, 21, 22, 23, 24, 25, 26, 27]), kvN 337, none, none], []), ([], none), ([], [], none, ([], [])), kvW74)
def kC693_0 : aC := (([kvB 0 3, kvB 338 341, kvB 0 4, kvB 338 341], [(57, 337, .inl (0, .ofNat 0)), (52, 6, .inl (3, .ofNat 0))], 2, [kvR 52, some (.inr [20, 21, 22, 23, 24, 25, 26, 27]), kvN 337, kvI 2, none], []), ([], []), (4, [(-1, 2)]))
theorem ks693 : aseg kS krf kB [kE562, kE567, kE568, kE569] (ksp []) kE693 [kC693_0] 30000 (none) = true := asgqw (by decide +kernel)
theorem ks693_0 : aseg kS krf kB [kE562, kE567, kE568, kE569] (ksp []) kE693 [kC693_0] 30000 (some kC693_0) = true := asgqw (by decide +kernel)
theorem kok693 : aOK kS krf kB kE693 := aOK_of (kal1 kok562 (kal1 kok567 (kal1 kok568 (kal1 kok569 kal0)))) (kcl1 ks693_0 kcl0) ks693
/-- ColdShod$StrokePlan.addNext(LColdShod$Idea;I)V -/
def kE694 : aE := (83, 3, ([kvB 0 3, kvB 337 341], [(57, 336, .inl (0, .ofNat 0)), (52, 6, .inl (1, .ofNat 0))], 0, [kvR 52, some (.inr [20, 21, 22, 23, 24, 25, 26, 27]), kvN 336, none, none], []), ([], none), ([], [], none, ([], [])), kvW74)
def kC694_0 : aC := (([kvB 0 3, kvB 337 341, kvB 0 4, kvB 337 341], [(57, 336, .inl (0, .ofNat 0)), (52, 6, .inl (3, .ofNat 0))], 2, [kvR 52, some (.inr [20, 21, 22, 23, 24, 25, 26, 27]), kvN 336, kvI 2, none], []), ([], []), (4, [(-1, 2)]))
theorem ks694 : aseg kS krf kB [kE562, kE567, kE568, kE569] (ksp []) kE694 [kC694_0] 30000 (none) = true := asgqw (by decide +kernel)
theorem ks694_0 : aseg kS krf kB [kE562, kE567, kE568, kE569] (ksp []) kE694 [kC694_0] 30000 (some kC694_0) = true := asgqw (by decide +kernel)
theorem kok694 : aOK kS krf kB kE694 := aOK_of (kal1 kok562 (kal1 kok567 (kal1 kok568 (kal1 kok569 kal0)))) (kcl1 ks694_0 kcl0) ks694
/-- ColdShod$StrokePlan.addNext(LColdShod$Idea;I)V -/
def kE695 : aE := (83, 3, ([kvB 0 3, kvB 336 341], [(57, 335, .inl (0, .ofNat 0)), (52, 6, .inl (1, .ofNat 0))], 0, [kvR 52, some (.inr [20, 21, 22, 23, 24, 25, 26, 27]), kvN 335, none, none], []), ([], none), ([], [], none, ([], [])), kvW74)
def kC695_0 : aC := (([kvB 0 3, kvB 336 341, kvB 0 4, kvB 336 341], [(57, 335, .inl (0, .ofNat 0)), (52, 6, .inl (3, .ofNat 0))], 2, [kvR 52, some (.inr [20, 21, 22, 23, 24, 25, 26, 27]), kvN 335, kvI 2, none], []), ([], []), (4, [(-1, 2)]))
theorem ks695 : aseg kS krf kB [kE562, kE567, kE568, kE569] (ksp []) kE695 [kC695_0] 30000 (none) = true := asgqw (by decide +kernel)
theorem ks695_0 : aseg kS krf kB [kE562, kE567, kE568, kE569] (ksp []) kE695 [kC695_0] 30000 (some kC695_0) = true := asgqw (by decide +kernel)
theorem kok695 : aOK kS krf kB kE695 := aOK_of (kal1 kok562 (kal1 kok567 (kal1 kok568 (kal1 kok569 kal0)))) (kcl1 ks695_0 kcl0) ks695
/-- ColdShod$StrokePlan.addNext(LColdShod$Idea;I)V -/
def kE696 : aE := (83, 3, ([kvB 0 3, kvB 335 341], [(57, 334, .inl (0, .ofNat 0)), (52, 6, .inl (1, .ofNat 0))], 0, [kvR 52, some (.inr [20, 21, 22, 23, 24, 25, 26, 27]), kvN 334, none, none], []), ([], none), ([], [], none, ([], [])), kvW74)
def kC696_0 : aC := (([kvB 0 3, kvB 335 341, kvB 0 4, kvB 335 341], [(57, 334, .inl (0, .ofNat 0)), (52, 6, .inl (3, .ofNat 0))], 2, [kvR 52, some (.inr [20, 21, 22, 23, 24, 25, 26, 27]), kvN 334, kvI 2, none], []), ([], []), (4, [(-1, 2)]))
theorem ks696 : aseg kS krf kB [kE562, kE567, kE568, kE569] (ksp []) kE696 [kC696_0] 30000 (none) = true := asgqw (by decide +kernel)
theorem ks696_0 : aseg kS krf kB [kE562, kE567, kE568, kE569] (ksp []) kE696 [kC696_0] 30000 (some kC696_0) = true := asgqw (by decide +kernel)
theorem kok696 : aOK kS krf kB kE696 := aOK_of (kal1 kok562 (kal1 kok567 (kal1 kok568 (kal1 kok569 kal0)))) (kcl1 ks696_0 kcl0) ks696
/-- ColdShod$StrokePlan.addNext(LColdShod$Idea;I)V -/
def kE697 : aE := (83, 3, ([kvB 0 3, kvB 334 341], [(57, 333, .inl (0, .ofNat 0)), (52, 6, .inl (1, .ofNat 0))], 0, [kvR 52, some (.inr [20, 21, 22, 23, 24, 25, 26, 27]), kvN 333, none, none], []), ([], none), ([], [], none, ([], [])), kvW74)
def kC697_0 : aC := (([kvB 0 3, kvB 334 341, kvB 0 4, kvB 334 341], [(57, 333, .inl (0, .ofNat 0)), (52, 6, .inl (3, .ofNat 0))], 2, [kvR 52, some (.inr [20, 21, 22, 23, 24, 25, 26, 27]), kvN 333, kvI 2, none], []), ([], []), (4, [(-1, 2)]))
theorem ks697 : aseg kS krf kB [kE562, kE567, kE568, kE569] (ksp []) kE697 [kC697_0] 30000 (none) = true := asgqw (by decide +kernel)
theorem ks697_0 : aseg kS krf kB [kE562, kE567, kE568, kE569] (ksp []) kE697 [kC697_0] 30000 (some kC697_0) = true := asgqw (by decide +kernel)
theorem kok697 : aOK kS krf kB kE697 := aOK_of (kal1 kok562 (kal1 kok567 (kal1 kok568 (kal1 kok569 kal0)))) (kcl1 ks697_0 kcl0) ks697
/-- ColdShod$StrokePlan.addNext(LColdShod$Idea;I)V -/
def kE698 : aE := (83, 3, ([kvB 0 3, kvB 333 341], [(57, 332, .inl (0, .ofNat 0)), (52, 6, .inl (1, .ofNat 0))], 0, [kvR 52, some (.inr [20, 21, 22, 23, 24, 25, 26, 27]), kvN 332, none, none], []), ([], none), ([], [], none, ([], [])), kvW74)
def kC698_0 : aC := (([kvB 0 3, kvB 333 341, kvB 0 4, kvB 333 341], [(57, 332, .inl (0, .ofNat 0)), (52, 6, .inl (3, .ofNat 0))], 2, [kvR 52, some (.inr [20, 21, 22, 23, 24, 25, 26, 27]), kvN 332, kvI 2, none], []), ([], []), (4, [(-1, 2)]))
theorem ks698 : aseg kS krf kB [kE562, kE567, kE568, kE569] (ksp []) kE698 [kC698_0] 30000 (none) = true := asgqw (by decide +kernel)
theorem ks698_0 : aseg kS krf kB [kE562, kE567, kE568, kE569] (ksp []) kE698 [kC698_0] 30000 (some kC698_0) = true := asgqw (by decide +kernel)
theorem kok698 : aOK kS krf kB kE698 := aOK_of (kal1 kok562 (kal1 kok567 (kal1 kok568 (kal1 kok569 kal0)))) (kcl1 ks698_0 kcl0) ks698
/-- ColdShod$StrokePlan.addNext(LColdShod$Idea;I)V -/
def kE699 : aE := (83, 3, ([kvB 0 3, kvB 332 341], [(57, 331, .inl (0, .ofNat 0)), (52, 6, .inl (1, .ofNat 0))], 0, [kvR 52, some (.inr [20, 21, 22, 23, 24, 25, 26, 27]), kvN 331, none, none], []), ([], none), ([], [], none, ([], [])), kvW74)
def kC699_0 : aC := (([kvB 0 3, kvB 332 341, kvB 0 4, kvB 332 341], [(57, 331, .inl (0, .ofNat 0)), (52, 6, .inl (3, .ofNat 0))], 2, [kvR 52, some (.inr [20, 21, 22, 23, 24, 25, 26, 27]), kvN 331, kvI 2, none], []), ([], []), (4, [(-1, 2)]))
theorem ks699 : aseg kS krf kB [kE562, kE567, kE568, kE569] (ksp []) kE699 [kC699_0] 30000 (none) = true := asgqw (by decide +kernel)
theorem ks699_0 : aseg kS krf kB [kE562, kE567, kE568, kE569] (ksp []) kE699 [kC699_0] 30000 (some kC699_0) = true := asgqw (by decide +kernel)
theorem kok699 : aOK kS krf kB kE699 := aOK_of (kal1 kok562 (kal1 kok567 (kal1 kok568 (kal1 kok569 kal0)))) (kcl1 ks699_0 kcl0) ks699
/-- ColdShod$StrokePlan.addNext(LColdShod$Idea;I)V -/
def kE700 : aE := (83, 3, ([kvB 0 3, kvB 331 341], [(57, 330, .inl (0, .ofNat 0)), (52, 6, .inl (1, .ofNat 0))], 0, [kvR 52, some (.inr [20, 21, 22, 23, 24, 25, 26, 27]), kvN 330, none, none], []), ([], none), ([], [], none, ([], [])), kvW74)
def kC700_0 : aC := (([kvB 0 3, kvB 331 341, kvB 0 4, kvB 331 341], [(57, 330, .inl (0, .ofNat 0)), (52, 6, .inl (3, .ofNat 0))], 2, [kvR 52, some (.inr [20, 21, 22, 23, 24, 25, 26, 27]), kvN 330, kvI 2, none], []), ([], []), (4, [(-1, 2)]))
theorem ks700 : aseg kS krf kB [kE562, kE567, kE568, kE569] (ksp []) kE700 [kC700_0] 30000 (none) = true := asgqw (by decide +kernel)
theorem ks700_0 : aseg kS krf kB [kE562, kE567, kE568, kE569] (ksp []) kE700 [kC700_0] 30000 (some kC700_0) = true := asgqw (by decide +kernel)
theorem kok700 : aOK kS krf kB kE700 := aOK_of (kal1 kok562 (kal1 kok567 (kal1 kok568 (kal1 kok569 kal0)))) (kcl1 ks700_0 kcl0) ks700
/-- ColdShod$StrokePlan.addNext(LColdShod$Idea;I)V -/
def kE701 : aE := (83, 3, ([kvB 0 3, kvB 330 341], [(57, 329, .inl (0, .ofNat 0)), (52, 6, .inl (1, .ofNat 0))], 0, [kvR 52, some (.inr [20, 21, 22, 23, 24, 25, 26, 27]), kvN 329, none, none], []), ([], none), ([], [], none, ([], [])), kvW74)
def kC701_0 : aC := (([kvB 0 3, kvB 330 341, kvB 0 4, kvB 330 341], [(57, 329, .inl (0, .ofNat 0)), (52, 6, .inl (3, .ofNat 0))], 2, [kvR 52, some (.inr [20, 21, 22, 23, 24, 25, 26, 27]), kvN 329, kvI 2, none], []), ([], []), (4, [(-1, 2)]))
theorem ks701 : aseg kS krf kB [kE562, kE567, kE568, kE569] (ksp []) kE701 [kC701_0] 30000 (none) = true := asgqw (by decide +kernel)
theorem ks701_0 : aseg kS krf kB [kE562, kE567, kE568, kE569] (ksp []) kE701 [kC701_0] 30000 (some kC701_0) = true := asgqw (by decide +kernel)
theorem kok701 : aOK kS krf kB kE701 := aOK_of (kal1 kok562 (kal1 kok567 (kal1 kok568 (kal1 kok569 kal0)))) (kcl1 ks701_0 kcl0) ks701
/-- ColdShod$StrokePlan.addNext(LColdShod$Idea;I)V -/
def kE702 : aE := (83, 3, ([kvB 0 3, kvB 329 341], [(57, 328, .inl (0, .ofNat 0)), (52, 6, .inl (1, .ofNat 0))], 0, [kvR 52, some (.inr [20, 21, 22, 23, 24, 25, 26, 27]), kvN 328, none, none], []), ([], none), ([], [], none, ([], [])), kvW74)
def kC702_0 : aC := (([kvB 0 3, kvB 329 341, kvB 0 4, kvB 329 341], [(57, 328, .inl (0, .ofNat 0)), (52, 6, .inl (3, .ofNat 0))], 2, [kvR 52, some (.inr [20, 21, 22, 23, 24, 25, 26, 27]), kvN 328, kvI 2, none], []), ([], []), (4, [(-1, 2)]))
theorem ks702 : aseg kS krf kB [kE562, kE567, kE568, kE569] (ksp []) kE702 [kC702_0] 30000 (none) = true := asgqw (by decide +kernel)
theorem ks702_0 : aseg kS krf kB [kE562, kE567, kE568, kE569] (ksp []) kE702 [kC702_0] 30000 (some kC702_0) = true := asgqw (by decide +kernel)
theorem kok702 : aOK kS krf kB kE702 := aOK_of (kal1 kok562 (kal1 kok567 (kal1 kok568 (kal1 kok569 kal0)))) (kcl1 ks702_0 kcl0) ks702
/-- ColdShod$StrokePlan.addNext(LColdShod$Idea;I)V -/
def kE703 : aE := (83, 3, ([kvB 0 3, kvB 328 341], [(57, 327, .inl (0, .ofNat 0)), (52, 6, .inl (1, .ofNat 0))], 0, [kvR 52, some (.inr [20, 21, 22, 23, 24, 25, 26, 27]), kvN 327, none, none], []), ([], none), ([], [], none, ([], [])), kvW74)
def kC703_0 : aC := (([kvB 0 3, kvB 328 341, kvB 0 4, kvB 328 341], [(57, 327, .inl (0, .ofNat 0)), (52, 6, .inl (3, .ofNat 0))], 2, [kvR 52, some (.inr [20, 21, 22, 23, 24, 25, 26, 27]), kvN 327, kvI 2, none], []), ([], []), (4, [(-1, 2)]))
theorem ks703 : aseg kS krf kB [kE562, kE567, kE568, kE569] (ksp []) kE703 [kC703_0] 30000 (none) = true := asgqw (by decide +kernel)
theorem ks703_0 : aseg kS krf kB [kE562, kE567, kE568, kE569] (ksp []) kE703 [kC703_0] 30000 (some kC703_0) = true := asgqw (by decide +kernel)
theorem kok703 : aOK kS krf kB kE703 := aOK_of (kal1 kok562 (kal1 kok567 (kal1 kok568 (kal1 kok569 kal0)))) (kcl1 ks703_0 kcl0) ks703
/-- ColdShod$StrokePlan.addNext(LColdShod$Idea;I)V -/
def kE704 : aE := (83, 3, ([kvB 0 3, kvB 327 341], [(57, 326, .inl (0, .ofNat 0)), (52, 6, .inl (1, .ofNat 0))], 0, [kvR 52, some (.inr [20, 21, 22, 23, 24, 25, 26, 27]), kvN 326, none, none], []), ([], none), ([], [], none, ([], [])), kvW74)
def kC704_0 : aC := (([kvB 0 3, kvB 327 341, kvB 0 4, kvB 327 341], [(57, 326, .inl (0, .ofNat 0)), (52, 6, .inl (3, .ofNat 0))], 2, [kvR 52, some (.inr [20, 21, 22, 23, 24, 25, 26, 27]), kvN 326, kvI 2, none], []), ([], []), (4, [(-1, 2)]))
theorem ks704 : aseg kS krf kB [kE562, kE567, kE568, kE569] (ksp []) kE704 [kC704_0] 30000 (none) = true := asgqw (by decide +kernel)
theorem ks704_0 : aseg kS krf kB [kE562, kE567, kE568, kE569] (ksp []) kE704 [kC704_0] 30000 (some kC704_0) = true := asgqw (by decide +kernel)
theorem kok704 : aOK kS krf kB kE704 := aOK_of (kal1 kok562 (kal1 kok567 (kal1 kok568 (kal1 kok569 kal0)))) (kcl1 ks704_0 kcl0) ks704
/-- ColdShod$StrokePlan.addNext(LColdShod$Idea;I)V -/
def kE705 : aE := (83, 3, ([kvB 0 3, kvB 326 341], [(57, 325, .inl (0, .ofNat 0)), (52, 6, .inl (1, .ofNat 0))], 0, [kvR 52, some (.inr [20, 21, 22, 23, 24, 25, 26, 27]), kvN 325, none, none], []), ([], none), ([], [], none, ([], [])), kvW74)
def kC705_0 : aC := (([kvB 0 3, kvB 326 341, kvB 0 4, kvB 326 341], [(57, 325, .inl (0, .ofNat 0)), (52, 6, .inl (3, .ofNat 0))], 2, [kvR 52, some (.inr [20, 21, 22, 23, 24, 25, 26, 27]), kvN 325, kvI 2, none], []), ([], []), (4, [(-1, 2)]))
theorem ks705 : aseg kS krf kB [kE562, kE567, kE568, kE569] (ksp []) kE705 [kC705_0] 30000 (none) = true := asgqw (by decide +kernel)
theorem ks705_0 : aseg kS krf kB [kE562, kE567, kE568, kE569] (ksp []) kE705 [kC705_0] 30000 (some kC705_0) = true := asgqw (by decide +kernel)
theorem kok705 : aOK kS krf kB kE705 := aOK_of (kal1 kok562 (kal1 kok567 (kal1 kok568 (kal1 kok569 kal0)))) (kcl1 ks705_0 kcl0) ks705
/-- ColdShod$StrokePlan.addNext(LColdShod$Idea;I)V -/
def kE706 : aE := (83, 3, ([kvB 0 3, kvB 325 341], [(57, 324, .inl (0, .ofNat 0)), (52, 6, .inl (1, .ofNat 0))], 0, [kvR 52, some (.inr [20, 21, 22, 23, 24, 25, 26, 27]), kvN 324, none, none], []), ([], none), ([], [], none, ([], [])), kvW74)
def kC706_0 : aC := (([kvB 0 3, kvB 325 341, kvB 0 4, kvB 325 341], [(57, 324, .inl (0, .ofNat 0)), (52, 6, .inl (3, .ofNat 0))], 2, [kvR 52, some (.inr [20, 21, 22, 23, 24, 25, 26, 27]), kvN 324, kvI 2, none], []), ([], []), (4, [(-1, 2)]))
theorem ks706 : aseg kS krf kB [kE562, kE567, kE568, kE569] (ksp []) kE706 [kC706_0] 30000 (none) = true := asgqw (by decide +kernel)
theorem ks706_0 : aseg kS krf kB [kE562, kE567, kE568, kE569] (ksp []) kE706 [kC706_0] 30000 (some kC706_0) = true := asgqw (by decide +kernel)
theorem kok706 : aOK kS krf kB kE706 := aOK_of (kal1 kok562 (kal1 kok567 (kal1 kok568 (kal1 kok569 kal0)))) (kcl1 ks706_0 kcl0) ks706
/-- ColdShod$StrokePlan.addNext(LColdShod$Idea;I)V -/
def kE707 : aE := (83, 3, ([kvB 0 3, kvB 324 341], [(57, 323, .inl (0, .ofNat 0)), (52, 6, .inl (1, .ofNat 0))], 0, [kvR 52, some (.inr [20, 21, 22, 23, 24, 25, 26, 27]), kvN 323, none, none], []), ([], none), ([], [], none, ([], [])), kvW74)
def kC707_0 : aC := (([kvB 0 3, kvB 324 341, kvB 0 4, kvB 324 341], [(57, 323, .inl (0, .ofNat 0)), (52, 6, .inl (3, .ofNat 0))], 2, [kvR 52, some (.inr [20, 21, 22, 23, 24, 25, 26, 27]), kvN 323, kvI 2, none], []), ([], []), (4, [(-1, 2)]))
theorem ks707 : aseg kS krf kB [kE562, kE567, kE568, kE569] (ksp []) kE707 [kC707_0] 30000 (none) = true := asgqw (by decide +kernel)
theorem ks707_0 : aseg kS krf kB [kE562, kE567, kE568, kE569] (ksp []) kE707 [kC707_0] 30000 (some kC707_0) = true := asgqw (by decide +kernel)
theorem kok707 : aOK kS krf kB kE707 := aOK_of (kal1 kok562 (kal1 kok567 (kal1 kok568 (kal1 kok569 kal0)))) (kcl1 ks707_0 kcl0) ks707
/-- ColdShod$StrokePlan.addNext(LColdShod$Idea;I)V -/
def kE708 : aE := (83, 3, ([kvB 0 3, kvB 323 341], [(57, 322, .inl (0, .ofNat 0)), (52, 6, .inl (1, .ofNat 0))], 0, [kvR 52, some (.inr [20, 21, 22, 23, 24, 25, 26, 27]), kvN 322, none, none], []), ([], none), ([], [], none, ([], [])), kvW74)
def kC708_0 : aC := (([kvB 0 3, kvB 323 341, kvB 0 4, kvB 323 341], [(57, 322, .inl (0, .ofNat 0)), (52, 6, .inl (3, .ofNat 0))], 2, [kvR 52, some (.inr [20, 21, 22, 23, 24, 25, 26, 27]), kvN 322, kvI 2, none], []), ([], []), (4, [(-1, 2)]))
theorem ks708 : aseg kS krf kB [kE562, kE567, kE568, kE569] (ksp []) kE708 [kC708_0] 30000 (none) = true := asgqw (by decide +kernel)
theorem ks708_0 : aseg kS krf kB [kE562, kE567, kE568, kE569] (ksp []) kE708 [kC708_0] 30000 (some kC708_0) = true := asgqw (by decide +kernel)
theorem kok708 : aOK kS krf kB kE708 := aOK_of (kal1 kok562 (kal1 kok567 (kal1 kok568 (kal1 kok569 kal0)))) (kcl1 ks708_0 kcl0) ks708
/-- ColdShod$StrokePlan.addNext(LColdShod$Idea;I)V -/
def kE709 : aE := (83, 3, ([kvB 0 3, kvB 322 341], [(57, 321, .inl (0, .ofNat 0)), (52, 6, .inl (1, .ofNat 0))], 0, [kvR 52, some (.inr [20, 21, 22, 23, 24, 25, 26, 27]), kvN 321, none, none], []), ([], none), ([], [], none, ([], [])), kvW74)
def kC709_0 : aC := (([kvB 0 3, kvB 322 341, kvB 0 4, kvB 322 341], [(57, 321, .inl (0, .ofNat 0)), (52, 6, .inl (3, .ofNat 0))], 2, [kvR 52, some (.inr [20, 21, 22, 23, 24, 25, 26, 27]), kvN 321, kvI 2, none], []), ([], []), (4, [(-1, 2)]))
theorem ks709 : aseg kS krf kB [kE562, kE567, kE568, kE569] (ksp []) kE709 [kC709_0] 30000 (none) = true := asgqw (by decide +kernel)
theorem ks709_0 : aseg kS krf kB [kE562, kE567, kE568, kE569] (ksp []) kE709 [kC709_0] 30000 (some kC709_0) = true := asgqw (by decide +kernel)
theorem kok709 : aOK kS krf kB kE709 := aOK_of (kal1 kok562 (kal1 kok567 (kal1 kok568 (kal1 kok569 kal0)))) (kcl1 ks709_0 kcl0) ks709
/-- ColdShod$StrokePlan.addNext(LColdShod$Idea;I)V -/
def kE710 : aE := (83, 3, ([kvB 0 3, kvB 321 341], [(57, 320, .inl (0, .ofNat 0)), (52, 6, .inl (1, .ofNat 0))], 0, [kvR 52, some (.inr [20, 21, 22, 23, 24, 25, 26, 27]), kvN 320, none, none], []), ([], none), ([], [], none, ([], [])), kvW74)
def kC710_0 : aC := (([kvB 0 3, kvB 321 341, kvB 0 4, kvB 321 341], [(57, 320, .inl (0, .ofNat 0)), (52, 6, .inl (3, .ofNat 0))], 2, [kvR 52, some (.inr [20, 21, 22, 23, 24, 25, 26, 27]), kvN 320, kvI 2, none], []), ([], []), (4, [(-1, 2)]))
theorem ks710 : aseg kS krf kB [kE562, kE567, kE568, kE569] (ksp []) kE710 [kC710_0] 30000 (none) = true := asgqw (by decide +kernel)
theorem ks710_0 : aseg kS krf kB [kE562, kE567, kE568, kE569] (ksp []) kE710 [kC710_0] 30000 (some kC710_0) = true := asgqw (by decide +kernel)
theorem kok710 : aOK kS krf kB kE710 := aOK_of (kal1 kok562 (kal1 kok567 (kal1 kok568 (kal1 kok569 kal0)))) (kcl1 ks710_0 kcl0) ks710
/-- ColdShod$StrokePlan.addNext(LColdShod$Idea;I)V -/
def kE711 : aE := (83, 3, ([kvB 0 3, kvB 320 341], [(57, 319, .inl (0, .ofNat 0)), (52, 6, .inl (1, .ofNat 0))], 0, [kvR 52, some (.inr [20, 21, 22, 23, 24, 25, 26, 27]), kvN 319, none, none], []), ([], none), ([], [], none, ([], [])), kvW74)
def kC711_0 : aC := (([kvB 0 3, kvB 320 341, kvB 0 4, kvB 320 341], [(57, 319, .inl (0, .ofNat 0)), (52, 6, .inl (3, .ofNat 0))], 2, [kvR 52, some (.inr [20, 21, 22, 23, 24, 25, 26, 27]), kvN 319, kvI 2, none], []), ([], []), (4, [(-1, 2)]))
theorem ks711 : aseg kS krf kB [kE562, kE567, kE568, kE569] (ksp []) kE711 [kC711_0] 30000 (none) = true := asgqw (by decide +kernel)
theorem ks711_0 : aseg kS krf kB [kE562, kE567, kE568, kE569] (ksp []) kE711 [kC711_0] 30000 (some kC711_0) = true := asgqw (by decide +kernel)
theorem kok711 : aOK kS krf kB kE711 := aOK_of (kal1 kok562 (kal1 kok567 (kal1 kok568 (kal1 kok569 kal0)))) (kcl1 ks711_0 kcl0) ks711
/-- ColdShod$StrokePlan.addNext(LColdShod$Idea;I)V -/
def kE712 : aE := (83, 3, ([kvB 0 3, kvB 319 341], [(57, 318, .inl (0, .ofNat 0)), (52, 6, .inl (1, .ofNat 0))], 0, [kvR 52, some (.inr [20, 21, 22, 23, 24, 25, 26, 27]), kvN 318, none, none], []), ([], none), ([], [], none, ([], [])), kvW74)
def kC712_0 : aC := (([kvB 0 3, kvB 319 341, kvB 0 4, kvB 319 341], [(57, 318, .inl (0, .ofNat 0)), (52, 6, .inl (3, .ofNat 0))], 2, [kvR 52, some (.inr [20, 21, 22, 23, 24, 25, 26, 27]), kvN 318, kvI 2, none], []), ([], []), (4, [(-1, 2)]))
theorem ks712 : aseg kS krf kB [kE562, kE567, kE568, kE569] (ksp []) kE712 [kC712_0] 30000 (none) = true := asgqw (by decide +kernel)
theorem ks712_0 : aseg kS krf kB [kE562, kE567, kE568, kE569] (ksp []) kE712 [kC712_0] 30000 (some kC712_0) = true := asgqw (by decide +kernel)
theorem kok712 : aOK kS krf kB kE712 := aOK_of (kal1 kok562 (kal1 kok567 (kal1 kok568 (kal1 kok569 kal0)))) (kcl1 ks712_0 kcl0) ks712
/-- ColdShod$StrokePlan.addNext(LColdShod$Idea;I)V -/
def kE713 : aE := (83, 3, ([kvB 0 3, kvB 318 341], [(57, 317, .inl (0, .ofNat 0)), (52, 6, .inl (1, .ofNat 0))], 0, [kvR 52, some (.inr [20, 21, 22, 23, 24, 25, 26, 27]), kvN 317, none, none], []), ([], none), ([], [], none, ([], [])), kvW74)
def kC713_0 : aC := (([kvB 0 3, kvB 318 341, kvB 0 4, kvB 318 341], [(57, 317, .inl (0, .ofNat 0)), (52, 6, .inl (3, .ofNat 0))], 2, [kvR 52, some (.inr [20, 21, 22, 23, 24, 25, 26, 27]), kvN 317, kvI 2, none], []), ([], []), (4, [(-1, 2)]))
theorem ks713 : aseg kS krf kB [kE562, kE567, kE568, kE569] (ksp []) kE713 [kC713_0] 30000 (none) = true := asgqw (by decide +kernel)
theorem ks713_0 : aseg kS krf kB [kE562, kE567, kE568, kE569] (ksp []) kE713 [kC713_0] 30000 (some kC713_0) = true := asgqw (by decide +kernel)
theorem kok713 : aOK kS krf kB kE713 := aOK_of (kal1 kok562 (kal1 kok567 (kal1 kok568 (kal1 kok569 kal0)))) (kcl1 ks713_0 kcl0) ks713
/-- ColdShod$StrokePlan.addNext(LColdShod$Idea;I)V -/
def kE714 : aE := (83, 3, ([kvB 0 3, kvB 317 341], [(57, 316, .inl (0, .ofNat 0)), (52, 6, .inl (1, .ofNat 0))], 0, [kvR 52, some (.inr [20, 21, 22, 23, 24, 25, 26, 27]), kvN 316, none, none], []), ([], none), ([], [], none, ([], [])), kvW74)
def kC714_0 : aC := (([kvB 0 3, kvB 317 341, kvB 0 4, kvB 317 341], [(57, 316, .inl (0, .ofNat 0)), (52, 6, .inl (3, .ofNat 0))], 2, [kvR 52, some (.inr [20, 21, 22, 23, 24, 25, 26, 27]), kvN 316, kvI 2, none], []), ([], []), (4, [(-1, 2)]))
theorem ks714 : aseg kS krf kB [kE562, kE567, kE568, kE569] (ksp []) kE714 [kC714_0] 30000 (none) = true := asgqw (by decide +kernel)
theorem ks714_0 : aseg kS krf kB [kE562, kE567, kE568, kE569] (ksp []) kE714 [kC714_0] 30000 (some kC714_0) = true := asgqw (by decide +kernel)
theorem kok714 : aOK kS krf kB kE714 := aOK_of (kal1 kok562 (kal1 kok567 (kal1 kok568 (kal1 kok569 kal0)))) (kcl1 ks714_0 kcl0) ks714
/-- ColdShod$StrokePlan.addNext(LColdShod$Idea;I)V -/
def kE715 : aE := (83, 3, ([kvB 0 3, kvB 316 341], [(57, 315, .inl (0, .ofNat 0)), (52, 6, .inl (1, .ofNat 0))], 0, [kvR 52, some (.inr [20, 21, 22, 23, 24, 25, 26, 27]), kvN 315, none, none], []), ([], none), ([], [], none, ([], [])), kvW74)
def kC715_0 : aC := (([kvB 0 3, kvB 316 341, kvB 0 4, kvB 316 341], [(57, 315, .inl (0, .ofNat 0)), (52, 6, .inl (3, .ofNat 0))], 2, [kvR 52, some (.inr [20, 21, 22, 23, 24, 25, 26, 27]), kvN 315, kvI 2, none], []), ([], []), (4, [(-1, 2)]))
theorem ks715 : aseg kS krf kB [kE562, kE567, kE568, kE569] (ksp []) kE715 [kC715_0] 30000 (none) = true := asgqw (by decide +kernel)
theorem ks715_0 : aseg kS krf kB [kE562, kE567, kE568, kE569] (ksp []) kE715 [kC715_0] 30000 (some kC715_0) = true := asgqw (by decide +kernel)
theorem kok715 : aOK kS krf kB kE715 := aOK_of (kal1 kok562 (kal1 kok567 (kal1 kok568 (kal1 kok569 kal0)))) (kcl1 ks715_0 kcl0) ks715
/-- ColdShod$StrokePlan.addNext(LColdShod$Idea;I)V -/
def kE716 : aE := (83, 3, ([kvB 0 3, kvB 315 341], [(57, 314, .inl (0, .ofNat 0)), (52, 6, .inl (1, .ofNat 0))], 0, [kvR 52, some (.inr [20, 21, 22, 23, 24, 25, 26, 27]), kvN 314, none, none], []), ([], none), ([], [], none, ([], [])), kvW74)
def kC716_0 : aC := (([kvB 0 3, kvB 315 341, kvB 0 4, kvB 315 341], [(57, 314, .inl (0, .ofNat 0)), (52, 6, .inl (3, .ofNat 0))], 2, [kvR 52, some (.inr [20, 21, 22, 23, 24, 25, 26, 27]), kvN 314, kvI 2, none], []), ([], []), (4, [(-1, 2)]))
theorem ks716 : aseg kS krf kB [kE562, kE567, kE568, kE569] (ksp []) kE716 [kC716_0] 30000 (none) = true := asgqw (by decide +kernel)
theorem ks716_0 : aseg kS krf kB [kE562, kE567, kE568, kE569] (ksp []) kE716 [kC716_0] 30000 (some kC716_0) = true := asgqw (by decide +kernel)
theorem kok716 : aOK kS krf kB kE716 := aOK_of (kal1 kok562 (kal1 kok567 (kal1 kok568 (kal1 kok569 kal0)))) (kcl1 ks716_0 kcl0) ks716
/-- ColdShod$StrokePlan.addNext(LColdShod$Idea;I)V -/
def kE717 : aE := (83, 3, ([kvB 0 3, kvB 314 341], [(57, 313, .inl (0, .ofNat 0)), (52, 6, .inl (1, .ofNat 0))], 0, [kvR 52, some (.inr [20, 21, 22, 23, 24, 25, 26, 27]), kvN 313, none, none], []), ([], none), ([], [], none, ([], [])), kvW74)
def kC717_0 : aC := (([kvB 0 3, kvB 314 341, kvB 0 4, kvB 314 341], [(57, 313, .inl (0, .ofNat 0)), (52, 6, .inl (3, .ofNat 0))], 2, [kvR 52, some (.inr [20, 21, 22, 23, 24, 25, 26, 27]), kvN 313, kvI 2, none], []), ([], []), (4, [(-1, 2)]))
theorem ks717 : aseg kS krf kB [kE562, kE567, kE568, kE569] (ksp []) kE717 [kC717_0] 30000 (none) = true := asgqw (by decide +kernel)
theorem ks717_0 : aseg kS krf kB [kE562, kE567, kE568, kE569] (ksp []) kE717 [kC717_0] 30000 (some kC717_0) = true := asgqw (by decide +kernel)
theorem kok717 : aOK kS krf kB kE717 := aOK_of (kal1 kok562 (kal1 kok567 (kal1 kok568 (kal1 kok569 kal0)))) (kcl1 ks717_0 kcl0) ks717
/-- ColdShod$StrokePlan.addNext(LColdShod$Idea;I)V -/
def kE718 : aE := (83, 3, ([kvB 0 3, kvB 313 341], [(57, 312, .inl (0, .ofNat 0)), (52, 6, .inl (1, .ofNat 0))], 0, [kvR 52, some (.inr [20, 21, 22, 23, 24, 25, 26, 27]), kvN 312, none, none], []), ([], none), ([], [], none, ([], [])), kvW74)
def kC718_0 : aC := (([kvB 0 3, kvB 313 341, kvB 0 4, kvB 313 341], [(57, 312, .inl (0, .ofNat 0)), (52, 6, .inl (3, .ofNat 0))], 2, [kvR 52, some (.inr [20, 21, 22, 23, 24, 25, 26, 27]), kvN 312, kvI 2, none], []), ([], []), (4, [(-1, 2)]))
theorem ks718 : aseg kS krf kB [kE562, kE567, kE568, kE569] (ksp []) kE718 [kC718_0] 30000 (none) = true := asgqw (by decide +kernel)
theorem ks718_0 : aseg kS krf kB [kE562, kE567, kE568, kE569] (ksp []) kE718 [kC718_0] 30000 (some kC718_0) = true := asgqw (by decide +kernel)
theorem kok718 : aOK kS krf kB kE718 := aOK_of (kal1 kok562 (kal1 kok567 (kal1 kok568 (kal1 kok569 kal0)))) (kcl1 ks718_0 kcl0) ks718
/-- ColdShod$StrokePlan.addNext(LColdShod$Idea;I)V -/
def kE719 : aE := (83, 3, ([kvB 0 3, kvB 312 341], [(57, 311, .inl (0, .ofNat 0)), (52, 6, .inl (1, .ofNat 0))], 0, [kvR 52, some (.inr [20, 21, 22, 23, 24, 25, 26, 27]), kvN 311, none, none], []), ([], none), ([], [], none, ([], [])), kvW74)
def kC719_0 : aC := (([kvB 0 3, kvB 312 341, kvB 0 4, kvB 312 341], [(57, 311, .inl (0, .ofNat 0)), (52, 6, .inl (3, .ofNat 0))], 2, [kvR 52, some (.inr [20, 21, 22, 23, 24, 25, 26, 27]), kvN 311, kvI 2, none], []), ([], []), (4, [(-1, 2)]))
theorem ks719 : aseg kS krf kB [kE562, kE567, kE568, kE569] (ksp []) kE719 [kC719_0] 30000 (none) = true := asgqw (by decide +kernel)
theorem ks719_0 : aseg kS krf kB [kE562, kE567, kE568, kE569] (ksp []) kE719 [kC719_0] 30000 (some kC719_0) = true := asgqw (by decide +kernel)
theorem kok719 : aOK kS krf kB kE719 := aOK_of (kal1 kok562 (kal1 kok567 (kal1 kok568 (kal1 kok569 kal0)))) (kcl1 ks719_0 kcl0) ks719
/-- ColdShod$StrokePlan.addNext(LColdShod$Idea;I)V -/
def kE720 : aE := (83, 3, ([kvB 0 3, kvB 311 341], [(57, 310, .inl (0, .ofNat 0)), (52, 6, .inl (1, .ofNat 0))], 0, [kvR 52, some (.inr [20, 21, 22, 23, 24, 25, 26, 27]), kvN 310, none, none], []), ([], none), ([], [], none, ([], [])), kvW74)
def kC720_0 : aC := (([kvB 0 3, kvB 311 341, kvB 0 4, kvB 311 341], [(57, 310, .inl (0, .ofNat 0)), (52, 6, .inl (3, .ofNat 0))], 2, [kvR 52, some (.inr [20, 21, 22, 23, 24, 25, 26, 27]), kvN 310, kvI 2, none], []), ([], []), (4, [(-1, 2)]))
theorem ks720 : aseg kS krf kB [kE562, kE567, kE568, kE569] (ksp []) kE720 [kC720_0] 30000 (none) = true := asgqw (by decide +kernel)
theorem ks720_0 : aseg kS krf kB [kE562, kE567, kE568, kE569] (ksp []) kE720 [kC720_0] 30000 (some kC720_0) = true := asgqw (by decide +kernel)
theorem kok720 : aOK kS krf kB kE720 := aOK_of (kal1 kok562 (kal1 kok567 (kal1 kok568 (kal1 kok569 kal0)))) (kcl1 ks720_0 kcl0) ks720
/-- ColdShod$StrokePlan.addNext(LColdShod$Idea;I)V -/
def kE721 : aE := (83, 3, ([kvB 0 3, kvB 310 341], [(57, 309, .inl (0, .ofNat 0)), (52, 6, .inl (1, .ofNat 0))], 0, [kvR 52, some (.inr [20, 21, 22, 23, 24, 25, 26, 27]), kvN 309, none, none], []), ([], none), ([], [], none, ([], [])), kvW74)
def kC721_0 : aC := (([kvB 0 3, kvB 310 341, kvB 0 4, kvB 310 341], [(57, 309, .inl (0, .ofNat 0)), (52, 6, .inl (3, .ofNat 0))], 2, [kvR 52, some (.inr [20, 21, 22, 23, 24, 25, 26, 27]), kvN 309, kvI 2, none], []), ([], []), (4, [(-1, 2)]))
theorem ks721 : aseg kS krf kB [kE562, kE567, kE568, kE569] (ksp []) kE721 [kC721_0] 30000 (none) = true := asgqw (by decide +kernel)
theorem ks721_0 : aseg kS krf kB [kE562, kE567, kE568, kE569] (ksp []) kE721 [kC721_0] 30000 (some kC721_0) = true := asgqw (by decide +kernel)
theorem kok721 : aOK kS krf kB kE721 := aOK_of (kal1 kok562 (kal1 kok567 (kal1 kok568 (kal1 kok569 kal0)))) (kcl1 ks721_0 kcl0) ks721
/-- ColdShod$StrokePlan.addNext(LColdShod$Idea;I)V -/
def kE722 : aE := (83, 3, ([kvB 0 3, kvB 309 341], [(57, 308, .inl (0, .ofNat 0)), (52, 6, .inl (1, .ofNat 0))], 0, [kvR 52, some (.inr [20, 21, 22, 23, 24, 25, 26, 27]), kvN 308, none, none], []), ([], none), ([], [], none, ([], [])), kvW74)
def kC722_0 : aC := (([kvB 0 3, kvB 309 341, kvB 0 4, kvB 309 341], [(57, 308, .inl (0, .ofNat 0)), (52, 6, .inl (3, .ofNat 0))], 2, [kvR 52, some (.inr [20, 21, 22, 23, 24, 25, 26, 27]), kvN 308, kvI 2, none], []), ([], []), (4, [(-1, 2)]))
theorem ks722 : aseg kS krf kB [kE562, kE567, kE568, kE569] (ksp []) kE722 [kC722_0] 30000 (none) = true := asgqw (by decide +kernel)
theorem ks722_0 : aseg kS krf kB [kE562, kE567, kE568, kE569] (ksp []) kE722 [kC722_0] 30000 (some kC722_0) = true := asgqw (by decide +kernel)
theorem kok722 : aOK kS krf kB kE722 := aOK_of (kal1 kok562 (kal1 kok567 (kal1 kok568 (kal1 kok569 kal0)))) (kcl1 ks722_0 kcl0) ks722
/-- ColdShod$StrokePlan.addNext(LColdShod$Idea;I)V -/
def kE723 : aE := (83, 3, ([kvB 0 3, kvB 308 341], [(57, 307, .inl (0, .ofNat 0)), (52, 6, .inl (1, .ofNat 0))], 0, [kvR 52, some (.inr [20, 21, 22, 23, 24, 25, 26, 27]), kvN 307, none, none], []), ([], none), ([], [], none, ([], [])), kvW74)
def kC723_0 : aC := (([kvB 0 3, kvB 308 341, kvB 0 4, kvB 308 341], [(57, 307, .inl (0, .ofNat 0)), (52, 6, .inl (3, .ofNat 0))], 2, [kvR 52, some (.inr [20, 21, 22, 23, 24, 25, 26, 27]), kvN 307, kvI 2, none], []), ([], []), (4, [(-1, 2)]))
theorem ks723 : aseg kS krf kB [kE562, kE567, kE568, kE569] (ksp []) kE723 [kC723_0] 30000 (none) = true := asgqw (by decide +kernel)
theorem ks723_0 : aseg kS krf kB [kE562, kE567, kE568, kE569] (ksp []) kE723 [kC723_0] 30000 (some kC723_0) = true := asgqw (by decide +kernel)
theorem kok723 : aOK kS krf kB kE723 := aOK_of (kal1 kok562 (kal1 kok567 (kal1 kok568 (kal1 kok569 kal0)))) (kcl1 ks723_0 kcl0) ks723
/-- ColdShod$StrokePlan.addNext(LColdShod$Idea;I)V -/
def kE724 : aE := (83, 3, ([kvB 0 3, kvB 307 341], [(57, 306, .inl (0, .ofNat 0)), (52, 6, .inl (1, .ofNat 0))], 0, [kvR 52, some (.inr [20, 21, 22, 23, 24, 25, 26, 27]), kvN 306, none, none], []), ([], none), ([], [], none, ([], [])), kvW74)
def kC724_0 : aC := (([kvB 0 3, kvB 307 341, kvB 0 4, kvB 307 341], [(57, 306, .inl (0, .ofNat 0)), (52, 6, .inl (3, .ofNat 0))], 2, [kvR 52, some (.inr [20, 21, 22, 23, 24, 25, 26, 27]), kvN 306, kvI 2, none], []), ([], []), (4, [(-1, 2)]))
theorem ks724 : aseg kS krf kB [kE562, kE567, kE568, kE569] (ksp []) kE724 [kC724_0] 30000 (none) = true := asgqw (by decide +kernel)
theorem ks724_0 : aseg kS krf kB [kE562, kE567, kE568, kE569] (ksp []) kE724 [kC724_0] 30000 (some kC724_0) = true := asgqw (by decide +kernel)
theorem kok724 : aOK kS krf kB kE724 := aOK_of (kal1 kok562 (kal1 kok567 (kal1 kok568 (kal1 kok569 kal0)))) (kcl1 ks724_0 kcl0) ks724
/-- ColdShod$StrokePlan.addNext(LColdShod$Idea;I)V -/
def kE725 : aE := (83, 3, ([kvB 0 3, kvB 306 341], [(57, 305, .inl (0, .ofNat 0)), (52, 6, .inl (1, .ofNat 0))], 0, [kvR 52, some (.inr [20, 21, 22, 23, 24, 25, 26, 27]), kvN 305, none, none], []), ([], none), ([], [], none, ([], [])), kvW74)
def kC725_0 : aC := (([kvB 0 3, kvB 306 341, kvB 0 4, kvB 306 341], [(57, 305, .inl (0, .ofNat 0)), (52, 6, .inl (3, .ofNat 0))], 2, [kvR 52, some (.inr [20, 21, 22, 23, 24, 25, 26, 27]), kvN 305, kvI 2, none], []), ([], []), (4, [(-1, 2)]))
theorem ks725 : aseg kS krf kB [kE562, kE567, kE568, kE569] (ksp []) kE725 [kC725_0] 30000 (none) = true := asgqw (by decide +kernel)
theorem ks725_0 : aseg kS krf kB [kE562, kE567, kE568, kE569] (ksp []) kE725 [kC725_0] 30000 (some kC725_0) = true := asgqw (by decide +kernel)
theorem kok725 : aOK kS krf kB kE725 := aOK_of (kal1 kok562 (kal1 kok567 (kal1 kok568 (kal1 kok569 kal0)))) (kcl1 ks725_0 kcl0) ks725
/-- ColdShod$StrokePlan.addNext(LColdShod$Idea;I)V -/
def kE726 : aE := (83, 3, ([kvB 0 3, kvB 305 341], [(57, 304, .inl (0, .ofNat 0)), (52, 6, .inl (1, .ofNat 0))], 0, [kvR 52, some (.inr [20, 21, 22, 23, 24, 25, 26, 27]), kvN 304, none, none], []), ([], none), ([], [], none, ([], [])), kvW74)
def kC726_0 : aC := (([kvB 0 3, kvB 305 341, kvB 0 4, kvB 305 341], [(57, 304, .inl (0, .ofNat 0)), (52, 6, .inl (3, .ofNat 0))], 2, [kvR 52, some (.inr [20, 21, 22, 23, 24, 25, 26, 27]), kvN 304, kvI 2, none], []), ([], []), (4, [(-1, 2)]))
theorem ks726 : aseg kS krf kB [kE562, kE567, kE568, kE569] (ksp []) kE726 [kC726_0] 30000 (none) = true := asgqw (by decide +kernel)
theorem ks726_0 : aseg kS krf kB [kE562, kE567, kE568, kE569] (ksp []) kE726 [kC726_0] 30000 (some kC726_0) = true := asgqw (by decide +kernel)
theorem kok726 : aOK kS krf kB kE726 := aOK_of (kal1 kok562 (kal1 kok567 (kal1 kok568 (kal1 kok569 kal0)))) (kcl1 ks726_0 kcl0) ks726
/-- ColdShod$StrokePlan.addNext(LColdShod$Idea;I)V -/
def kE727 : aE := (83, 3, ([kvB 0 3, kvB 304 341], [(57, 303, .inl (0, .ofNat 0)), (52, 6, .inl (1, .ofNat 0))], 0, [kvR 52, some (.inr [20, 21, 22, 23, 24, 25, 26, 27]), kvN 303, none, none], []), ([], none), ([], [], none, ([], [])), kvW74)
def kC727_0 : aC := (([kvB 0 3, kvB 304 341, kvB 0 4, kvB 304 341], [(57, 303, .inl (0, .ofNat 0)), (52, 6, .inl (3, .ofNat 0))], 2, [kvR 52, some (.inr [20, 21, 22, 23, 24, 25, 26, 27]), kvN 303, kvI 2, none], []), ([], []), (4, [(-1, 2)]))
theorem ks727 : aseg kS krf kB [kE562, kE567, kE568, kE569] (ksp []) kE727 [kC727_0] 30000 (none) = true := asgqw (by decide +kernel)
theorem ks727_0 : aseg kS krf kB [kE562, kE567, kE568, kE569] (ksp []) kE727 [kC727_0] 30000 (some kC727_0) = true := asgqw (by decide +kernel)
theorem kok727 : aOK kS krf kB kE727 := aOK_of (kal1 kok562 (kal1 kok567 (kal1 kok568 (kal1 kok569 kal0)))) (kcl1 ks727_0 kcl0) ks727
/-- ColdShod$StrokePlan.addNext(LColdShod$Idea;I)V -/
def kE728 : aE := (83, 3, ([kvB 0 3, kvB 303 341], [(57, 302, .inl (0, .ofNat 0)), (52, 6, .inl (1, .ofNat 0))], 0, [kvR 52, some (.inr [20, 21, 22, 23, 24, 25, 26, 27]), kvN 302, none, none], []), ([], none), ([], [], none, ([], [])), kvW74)
def kC728_0 : aC := (([kvB 0 3, kvB 303 341, kvB 0 4, kvB 303 341], [(57, 302, .inl (0, .ofNat 0)), (52, 6, .inl (3, .ofNat 0))], 2, [kvR 52, some (.inr [20, 21, 22, 23, 24, 25, 26, 27]), kvN 302, kvI 2, none], []), ([], []), (4, [(-1, 2)]))
theorem ks728 : aseg kS krf kB [kE562, kE567, kE568, kE569] (ksp []) kE728 [kC728_0] 30000 (none) = true := asgqw (by decide +kernel)
theorem ks728_0 : aseg kS krf kB [kE562, kE567, kE568, kE569] (ksp []) kE728 [kC728_0] 30000 (some kC728_0) = true := asgqw (by decide +kernel)
theorem kok728 : aOK kS krf kB kE728 := aOK_of (kal1 kok562 (kal1 kok567 (kal1 kok568 (kal1 kok569 kal0)))) (kcl1 ks728_0 kcl0) ks728
/-- ColdShod$StrokePlan.addNext(LColdShod$Idea;I)V -/
def kE729 : aE := (83, 3, ([kvB 0 3, kvB 302 341], [(57, 301, .inl (0, .ofNat 0)), (52, 6, .inl (1, .ofNat 0))], 0, [kvR 52, some (.inr [20, 21, 22, 23, 24, 25, 26, 27]), kvN 301, none, none], []), ([], none), ([], [], none, ([], [])), kvW74)
def kC729_0 : aC := (([kvB 0 3, kvB 302 341, kvB 0 4, kvB 302 341], [(57, 301, .inl (0, .ofNat 0)), (52, 6, .inl (3, .ofNat 0))], 2, [kvR 52, some (.inr [20, 21, 22, 23, 24, 25, 26, 27]), kvN 301, kvI 2, none], []), ([], []), (4, [(-1, 2)]))
theorem ks729 : aseg kS krf kB [kE562, kE567, kE568, kE569] (ksp []) kE729 [kC729_0] 30000 (none) = true := asgqw (by decide +kernel)
theorem ks729_0 : aseg kS krf kB [kE562, kE567, kE568, kE569] (ksp []) kE729 [kC729_0] 30000 (some kC729_0) = true := asgqw (by decide +kernel)
theorem kok729 : aOK kS krf kB kE729 := aOK_of (kal1 kok562 (kal1 kok567 (kal1 kok568 (kal1 kok569 kal0)))) (kcl1 ks729_0 kcl0) ks729
/-- ColdShod$StrokePlan.addNext(LColdShod$Idea;I)V -/
def kE730 : aE := (83, 3, ([kvB 0 3, kvB 301 341], [(57, 300, .inl (0, .ofNat 0)), (52, 6, .inl (1, .ofNat 0))], 0, [kvR 52, some (.inr [20, 21, 22, 23, 24, 25, 26, 27]), kvN 300, none, none], []), ([], none), ([], [], none, ([], [])), kvW74)
def kC730_0 : aC := (([kvB 0 3, kvB 301 341, kvB 0 4, kvB 301 341], [(57, 300, .inl (0, .ofNat 0)), (52, 6, .inl (3, .ofNat 0))], 2, [kvR 52, some (.inr [20, 21, 22, 23, 24, 25, 26, 27]), kvN 300, kvI 2, none], []), ([], []), (4, [(-1, 2)]))
theorem ks730 : aseg kS krf kB [kE562, kE567, kE568, kE569] (ksp []) kE730 [kC730_0] 30000 (none) = true := asgqw (by decide +kernel)
theorem ks730_0 : aseg kS krf kB [kE562, kE567, kE568, kE569] (ksp []) kE730 [kC730_0] 30000 (some kC730_0) = true := asgqw (by decide +kernel)
theorem kok730 : aOK kS krf kB kE730 := aOK_of (kal1 kok562 (kal1 kok567 (kal1 kok568 (kal1 kok569 kal0)))) (kcl1 ks730_0 kcl0) ks730
/-- ColdShod$StrokePlan.addNext(LColdShod$Idea;I)V -/
def kE731 : aE := (83, 3, ([kvB 0 3, kvB 300 341], [(57, 299, .inl (0, .ofNat 0)), (52, 6, .inl (1, .ofNat 0))], 0, [kvR 52, some (.inr [20, 21, 22, 23, 24, 25, 26, 27]), kvN 299, none, none], []), ([], none), ([], [], none, ([], [])), kvW74)
def kC731_0 : aC := (([kvB 0 3, kvB 300 341, kvB 0 4, kvB 300 341], [(57, 299, .inl (0, .ofNat 0)), (52, 6, .inl (3, .ofNat 0))], 2, [kvR 52, some (.inr [20, 21, 22, 23, 24, 25, 26, 27]), kvN 299, kvI 2, none], []), ([], []), (4, [(-1, 2)]))
theorem ks731 : aseg kS krf kB [kE562, kE567, kE568, kE569] (ksp []) kE731 [kC731_0] 30000 (none) = true := asgqw (by decide +kernel)
theorem ks731_0 : aseg kS krf kB [kE562, kE567, kE568, kE569] (ksp []) kE731 [kC731_0] 30000 (some kC731_0) = true := asgqw (by decide +kernel)
theorem kok731 : aOK kS krf kB kE731 := aOK_of (kal1 kok562 (kal1 kok567 (kal1 kok568 (kal1 kok569 kal0)))) (kcl1 ks731_0 kcl0) ks731
/-- ColdShod$StrokePlan.addNext(LColdShod$Idea;I)V -/
def kE732 : aE := (83, 3, ([kvB 0 3, kvB 299 341], [(57, 298, .inl (0, .ofNat 0)), (52, 6, .inl (1, .ofNat 0))], 0, [kvR 52, some (.inr [20, 21, 22, 23, 24, 25, 26, 27]), kvN 298, none, none], []), ([], none), ([], [], none, ([], [])), kvW74)
def kC732_0 : aC := (([kvB 0 3, kvB 299 341, kvB 0 4, kvB 299 341], [(57, 298, .inl (0, .ofNat 0)), (52, 6, .inl (3, .ofNat 0))], 2, [kvR 52, some (.inr [20, 21, 22, 23, 24, 25, 26, 27]), kvN 298, kvI 2, none], []), ([], []), (4, [(-1, 2)]))
theorem ks732 : aseg kS krf kB [kE562, kE567, kE568, kE569] (ksp []) kE732 [kC732_0] 30000 (none) = true := asgqw (by decide +kernel)
theorem ks732_0 : aseg kS krf kB [kE562, kE567, kE568, kE569] (ksp []) kE732 [kC732_0] 30000 (some kC732_0) = true := asgqw (by decide +kernel)
theorem kok732 : aOK kS krf kB kE732 := aOK_of (kal1 kok562 (kal1 kok567 (kal1 kok568 (kal1 kok569 kal0)))) (kcl1 ks732_0 kcl0) ks732
/-- ColdShod$StrokePlan.addNext(LColdShod$Idea;I)V -/
def kE733 : aE := (83, 3, ([kvB 0 3, kvB 298 341], [(57, 297, .inl (0, .ofNat 0)), (52, 6, .inl (1, .ofNat 0))], 0, [kvR 52, some (.inr [20, 21, 22, 23, 24, 25, 26, 27]), kvN 297, none, none], []), ([], none), ([], [], none, ([], [])), kvW74)
def kC733_0 : aC := (([kvB 0 3, kvB 298 341, kvB 0 4, kvB 298 341], [(57, 297, .inl (0, .ofNat 0)), (52, 6, .inl (3, .ofNat 0))], 2, [kvR 52, some (.inr [20, 21, 22, 23, 24, 25, 26, 27]), kvN 297, kvI 2, none], []), ([], []), (4, [(-1, 2)]))
theorem ks733 : aseg kS krf kB [kE562, kE567, kE568, kE569] (ksp []) kE733 [kC733_0] 30000 (none) = true := asgqw (by decide +kernel)
theorem ks733_0 : aseg kS krf kB [kE562, kE567, kE568, kE569] (ksp []) kE733 [kC733_0] 30000 (some kC733_0) = true := asgqw (by decide +kernel)
theorem kok733 : aOK kS krf kB kE733 := aOK_of (kal1 kok562 (kal1 kok567 (kal1 kok568 (kal1 kok569 kal0)))) (kcl1 ks733_0 kcl0) ks733
/-- ColdShod$StrokePlan.addNext(LColdShod$Idea;I)V -/
def kE734 : aE := (83, 3, ([kvB 0 3, kvB 297 341], [(57, 296, .inl (0, .ofNat 0)), (52, 6, .inl (1, .ofNat 0))], 0, [kvR 52, some (.inr [20, 21, 22, 23, 24, 25, 26, 27]), kvN 296, none, none], []), ([], none), ([], [], none, ([], [])), kvW74)
def kC734_0 : aC := (([kvB 0 3, kvB 297 341, kvB 0 4, kvB 297 341], [(57, 296, .inl (0, .ofNat 0)), (52, 6, .inl (3, .ofNat 0))], 2, [kvR 52, some (.inr [20, 21, 22, 23, 24, 25, 26, 27]), kvN 296, kvI 2, none], []), ([], []), (4, [(-1, 2)]))
theorem ks734 : aseg kS krf kB [kE562, kE567, kE568, kE569] (ksp []) kE734 [kC734_0] 30000 (none) = true := asgqw (by decide +kernel)
theorem ks734_0 : aseg kS krf kB [kE562, kE567, kE568, kE569] (ksp []) kE734 [kC734_0] 30000 (some kC734_0) = true := asgqw (by decide +kernel)
theorem kok734 : aOK kS krf kB kE734 := aOK_of (kal1 kok562 (kal1 kok567 (kal1 kok568 (kal1 kok569 kal0)))) (kcl1 ks734_0 kcl0) ks734
/-- ColdShod$StrokePlan.addNext(LColdShod$Idea;I)V -/
def kE735 : aE := (83, 3, ([kvB 0 3, kvB 296 341], [(57, 295, .inl (0, .ofNat 0)), (52, 6, .inl (1, .ofNat 0))], 0, [kvR 52, some (.inr [20, 21, 22, 23, 24, 25, 26, 27]), kvN 295, none, none], []), ([], none), ([], [], none, ([], [])), kvW74)
def kC735_0 : aC := (([kvB 0 3, kvB 296 341, kvB 0 4, kvB 296 341], [(57, 295, .inl (0, .ofNat 0)), (52, 6, .inl (3, .ofNat 0))], 2, [kvR 52, some (.inr [20, 21, 22, 23, 24, 25, 26, 27]), kvN 295, kvI 2, none], []), ([], []), (4, [(-1, 2)]))
theorem ks735 : aseg kS krf kB [kE562, kE567, kE568, kE569] (ksp []) kE735 [kC735_0] 30000 (none) = true := asgqw (by decide +kernel)
theorem ks735_0 : aseg kS krf kB [kE562, kE567, kE568, kE569] (ksp []) kE735 [kC735_0] 30000 (some kC735_0) = true := asgqw (by decide +kernel)
theorem kok735 : aOK kS krf kB kE735 := aOK_of (kal1 kok562 (kal1 kok567 (kal1 kok568 (kal1 kok569 kal0)))) (kcl1 ks735_0 kcl0) ks735
/-- ColdShod$StrokePlan.addNext(LColdShod$Idea;I)V -/
def kE736 : aE := (83, 3, ([kvB 0 3, kvB 295 341], [(57, 294, .inl (0, .ofNat 0)), (52, 6, .inl (1, .ofNat 0))], 0, [kvR 52, some (.inr [20, 21, 22, 23, 24, 25, 26, 27]), kvN 294, none, none], []), ([], none), ([], [], none, ([], [])), kvW74)
def kC736_0 : aC := (([kvB 0 3, kvB 295 341, kvB 0 4, kvB 295 341], [(57, 294, .inl (0, .ofNat 0)), (52, 6, .inl (3, .ofNat 0))], 2, [kvR 52, some (.inr [20, 21, 22, 23, 24, 25, 26, 27]), kvN 294, kvI 2, none], []), ([], []), (4, [(-1, 2)]))
theorem ks736 : aseg kS krf kB [kE562, kE567, kE568, kE569] (ksp []) kE736 [kC736_0] 30000 (none) = true := asgqw (by decide +kernel)
theorem ks736_0 : aseg kS krf kB [kE562, kE567, kE568, kE569] (ksp []) kE736 [kC736_0] 30000 (some kC736_0) = true := asgqw (by decide +kernel)
theorem kok736 : aOK kS krf kB kE736 := aOK_of (kal1 kok562 (kal1 kok567 (kal1 kok568 (kal1 kok569 kal0)))) (kcl1 ks736_0 kcl0) ks736
/-- ColdShod$StrokePlan.addNext(LColdShod$Idea;I)V -/
def kE737 : aE := (83, 3, ([kvB 0 3, kvB 294 341], [(57, 293, .inl (0, .ofNat 0)), (52, 6, .inl (1, .ofNat 0))], 0, [kvR 52, some (.inr [20, 21, 22, 23, 24, 25, 26, 27]), kvN 293, none, none], []), ([], none), ([], [], none, ([], [])), kvW74)
def kC737_0 : aC := (([kvB 0 3, kvB 294 341, kvB 0 4, kvB 294 341], [(57, 293, .inl (0, .ofNat 0)), (52, 6, .inl (3, .ofNat 0))], 2, [kvR 52, some (.inr [20, 21, 22, 23, 24, 25, 26, 27]), kvN 293, kvI 2, none], []), ([], []), (4, [(-1, 2)]))
theorem ks737 : aseg kS krf kB [kE562, kE567, kE568, kE569] (ksp []) kE737 [kC737_0] 30000 (none) = true := asgqw (by decide +kernel)
theorem ks737_0 : aseg kS krf kB [kE562, kE567, kE568, kE569] (ksp []) kE737 [kC737_0] 30000 (some kC737_0) = true := asgqw (by decide +kernel)
theorem kok737 : aOK kS krf kB kE737 := aOK_of (kal1 kok562 (kal1 kok567 (kal1 kok568 (kal1 kok569 kal0)))) (kcl1 ks737_0 kcl0) ks737
/-- ColdShod$StrokePlan.addNext(LColdShod$Idea;I)V -/
def kE738 : aE := (83, 3, ([kvB 0 3, kvB 293 341], [(57, 292, .inl (0, .ofNat 0)), (52, 6, .inl (1, .ofNat 0))], 0, [kvR 52, some (.inr [20, 21, 22, 23, 24, 25, 26, 27]), kvN 292, none, none], []), ([], none), ([], [], none, ([], [])), kvW74)
def kC738_0 : aC := (([kvB 0 3, kvB 293 341, kvB 0 4, kvB 293 341], [(57, 292, .inl (0, .ofNat 0)), (52, 6, .inl (3, .ofNat 0))], 2, [kvR 52, some (.inr [20, 21, 22, 23, 24, 25, 26, 27]), kvN 292, kvI 2, none], []), ([], []), (4, [(-1, 2)]))
theorem ks738 : aseg kS krf kB [kE562, kE567, kE568, kE569] (ksp []) kE738 [kC738_0] 30000 (none) = true := asgqw (by decide +kernel)
theorem ks738_0 : aseg kS krf kB [kE562, kE567, kE568, kE569] (ksp []) kE738 [kC738_0] 30000 (some kC738_0) = true := asgqw (by decide +kernel)
theorem kok738 : aOK kS krf kB kE738 := aOK_of (kal1 kok562 (kal1 kok567 (kal1 kok568 (kal1 kok569 kal0)))) (kcl1 ks738_0 kcl0) ks738
/-- ColdShod$StrokePlan.addNext(LColdShod$Idea;I)V -/
def kE739 : aE := (83, 3, ([kvB 0 3, kvB 292 341], [(57, 291, .inl (0, .ofNat 0)), (52, 6, .inl (1, .ofNat 0))], 0, [kvR 52, some (.inr [20, 21, 22, 23, 24, 25, 26, 27]), kvN 291, none, none], []), ([], none), ([], [], none, ([], [])), kvW74)
def kC739_0 : aC := (([kvB 0 3, kvB 292 341, kvB 0 4, kvB 292 341], [(57, 291, .inl (0, .ofNat 0)), (52, 6, .inl (3, .ofNat 0))], 2, [kvR 52, some (.inr [20, 21, 22, 23, 24, 25, 26, 27]), kvN 291, kvI 2, none], []), ([], []), (4, [(-1, 2)]))
theorem ks739 : aseg kS krf kB [kE562, kE567, kE568, kE569] (ksp []) kE739 [kC739_0] 30000 (none) = true := asgqw (by decide +kernel)
theorem ks739_0 : aseg kS krf kB [kE562, kE567, kE568, kE569] (ksp []) kE739 [kC739_0] 30000 (some kC739_0) = true := asgqw (by decide +kernel)
theorem kok739 : aOK kS krf kB kE739 := aOK_of (kal1 kok562 (kal1 kok567 (kal1 kok568 (kal1 kok569 kal0)))) (kcl1 ks739_0 kcl0) ks739
/-- ColdShod$StrokePlan.addNext(LColdShod$Idea;I)V -/
def kE740 : aE := (83, 3, ([kvB 0 3, kvB 291 341], [(57, 290, .inl (0, .ofNat 0)), (52, 6, .inl (1, .ofNat 0))], 0, [kvR 52, some (.inr [20, 21, 22, 23, 24, 25, 26, 27]), kvN 290, none, none], []), ([], none), ([], [], none, ([], [])), kvW74)
def kC740_0 : aC := (([kvB 0 3, kvB 291 341, kvB 0 4, kvB 291 341], [(57, 290, .inl (0, .ofNat 0)), (52, 6, .inl (3, .ofNat 0))], 2, [kvR 52, some (.inr [20, 21, 22, 23, 24, 25, 26, 27]), kvN 290, kvI 2, none], []), ([], []), (4, [(-1, 2)]))
theorem ks740 : aseg kS krf kB [kE562, kE567, kE568, kE569] (ksp []) kE740 [kC740_0] 30000 (none) = true := asgqw (by decide +kernel)
theorem ks740_0 : aseg kS krf kB [kE562, kE567, kE568, kE569] (ksp []) kE740 [kC740_0] 30000 (some kC740_0) = true := asgqw (by decide +kernel)
theorem kok740 : aOK kS krf kB kE740 := aOK_of (kal1 kok562 (kal1 kok567 (kal1 kok568 (kal1 kok569 kal0)))) (kcl1 ks740_0 kcl0) ks740
/-- ColdShod$StrokePlan.addNext(LColdShod$Idea;I)V -/
def kE741 : aE := (83, 3, ([kvB 0 3, kvB 290 341], [(57, 289, .inl (0, .ofNat 0)), (52, 6, .inl (1, .ofNat 0))], 0, [kvR 52, some (.inr [20, 21, 22, 23, 24, 25, 26, 27]), kvN 289, none, none], []), ([], none), ([], [], none, ([], [])), kvW74)
def kC741_0 : aC := (([kvB 0 3, kvB 290 341, kvB 0 4, kvB 290 341], [(57, 289, .inl (0, .ofNat 0)), (52, 6, .inl (3, .ofNat 0))], 2, [kvR 52, some (.inr [20, 21, 22, 23, 24, 25, 26, 27]), kvN 289, kvI 2, none], []), ([], []), (4, [(-1, 2)]))
theorem ks741 : aseg kS krf kB [kE562, kE567, kE568, kE569] (ksp []) kE741 [kC741_0] 30000 (none) = true := asgqw (by decide +kernel)
theorem ks741_0 : aseg kS krf kB [kE562, kE567, kE568, kE569] (ksp []) kE741 [kC741_0] 30000 (some kC741_0) = true := asgqw (by decide +kernel)
theorem kok741 : aOK kS krf kB kE741 := aOK_of (kal1 kok562 (kal1 kok567 (kal1 kok568 (kal1 kok569 kal0)))) (kcl1 ks741_0 kcl0) ks741
/-- ColdShod$StrokePlan.addNext(LColdShod$Idea;I)V -/
def kE742 : aE := (83, 3, ([kvB 0 3, kvB 289 341], [(57, 288, .inl (0, .ofNat 0)), (52, 6, .inl (1, .ofNat 0))], 0, [kvR 52, some (.inr [20, 21, 22, 23, 24, 25, 26, 27]), kvN 288, none, none], []), ([], none), ([], [], none, ([], [])), kvW74)
def kC742_0 : aC := (([kvB 0 3, kvB 289 341, kvB 0 4, kvB 289 341], [(57, 288, .inl (0, .ofNat 0)), (52, 6, .inl (3, .ofNat 0))], 2, [kvR 52, some (.inr [20, 21, 22, 23, 24, 25, 26, 27]), kvN 288, kvI 2, none], []), ([], []), (4, [(-1, 2)]))
theorem ks742 : aseg kS krf kB [kE562, kE567, kE568, kE569] (ksp []) kE742 [kC742_0] 30000 (none) = true := asgqw (by decide +kernel)
theorem ks742_0 : aseg kS krf kB [kE562, kE567, kE568, kE569] (ksp []) kE742 [kC742_0] 30000 (some kC742_0) = true := asgqw (by decide +kernel)
theorem kok742 : aOK kS krf kB kE742 := aOK_of (kal1 kok562 (kal1 kok567 (kal1 kok568 (kal1 kok569 kal0)))) (kcl1 ks742_0 kcl0) ks742
/-- ColdShod$StrokePlan.addNext(LColdShod$Idea;I)V -/
def kE743 : aE := (83, 3, ([kvB 0 3, kvB 288 341], [(57, 287, .inl (0, .ofNat 0)), (52, 6, .inl (1, .ofNat 0))], 0, [kvR 52, some (.inr [20, 21, 22, 23, 24, 25, 26, 27]), kvN 287, none, none], []), ([], none), ([], [], none, ([], [])), kvW74)
def kC743_0 : aC := (([kvB 0 3, kvB 288 341, kvB 0 4, kvB 288 341], [(57, 287, .inl (0, .ofNat 0)), (52, 6, .inl (3, .ofNat 0))], 2, [kvR 52, some (.inr [20, 21, 22, 23, 24, 25, 26, 27]), kvN 287, kvI 2, none], []), ([], []), (4, [(-1, 2)]))
theorem ks743 : aseg kS krf kB [kE562, kE567, kE568, kE569] (ksp []) kE743 [kC743_0] 30000 (none) = true := asgqw (by decide +kernel)
theorem ks743_0 : aseg kS krf kB [kE562, kE567, kE568, kE569] (ksp []) kE743 [kC743_0] 30000 (some kC743_0) = true := asgqw (by decide +kernel)
theorem kok743 : aOK kS krf kB kE743 := aOK_of (kal1 kok562 (kal1 kok567 (kal1 kok568 (kal1 kok569 kal0)))) (kcl1 ks743_0 kcl0) ks743
/-- ColdShod$StrokePlan.addNext(LColdShod$Idea;I)V -/
def kE744 : aE := (83, 3, ([kvB 0 3, kvB 287 341], [(57, 286, .inl (0, .ofNat 0)), (52, 6, .inl (1, .ofNat 0))], 0, [kvR 52, some (.inr [20, 21, 22, 23, 24, 25, 26, 27]), kvN 286, none, none], []), ([], none), ([], [], none, ([], [])), kvW74)
def kC744_0 : aC := (([kvB 0 3, kvB 287 341, kvB 0 4, kvB 287 341], [(57, 286, .inl (0, .ofNat 0)), (52, 6, .inl (3, .ofNat 0))], 2, [kvR 52, some (.inr [20, 21, 22, 23, 24, 25, 26, 27]), kvN 286, kvI 2, none], []), ([], []), (4, [(-1, 2)]))
theorem ks744 : aseg kS krf kB [kE562, kE567, kE568, kE569] (ksp []) kE744 [kC744_0] 30000 (none) = true := asgqw (by decide +kernel)
theorem ks744_0 : aseg kS krf kB [kE562, kE567, kE568, kE569] (ksp []) kE744 [kC744_0] 30000 (some kC744_0) = true := asgqw (by decide +kernel)
theorem kok744 : aOK kS krf kB kE744 := aOK_of (kal1 kok562 (kal1 kok567 (kal1 kok568 (kal1 kok569 kal0)))) (kcl1 ks744_0 kcl0) ks744
/-- ColdShod$StrokePlan.addNext(LColdShod$Idea;I)V -/
def kE745 : aE := (83, 3, ([kvB 0 3, kvB 286 341], [(57, 285, .inl (0, .ofNat 0)), (52, 6, .inl (1, .ofNat 0))], 0, [kvR 52, some (.inr [20, 21, 22, 23, 24, 25, 26, 27]), kvN 285, none, none], []), ([], none), ([], [], none, ([], [])), kvW74)
def kC745_0 : aC := (([kvB 0 3, kvB 286 341, kvB 0 4, kvB 286 341], [(57, 285, .inl (0, .ofNat 0)), (52, 6, .inl (3, .ofNat 0))], 2, [kvR 52, some (.inr [20, 21, 22, 23, 24, 25, 26, 27]), kvN 285, kvI 2, none], []), ([], []), (4, [(-1, 2)]))
theorem ks745 : aseg kS krf kB [kE562, kE567, kE568, kE569] (ksp []) kE745 [kC745_0] 30000 (none) = true := asgqw (by decide +kernel)
theorem ks745_0 : aseg kS krf kB [kE562, kE567, kE568, kE569] (ksp []) kE745 [kC745_0] 30000 (some kC745_0) = true := asgqw (by decide +kernel)
theorem kok745 : aOK kS krf kB kE745 := aOK_of (kal1 kok562 (kal1 kok567 (kal1 kok568 (kal1 kok569 kal0)))) (kcl1 ks745_0 kcl0) ks745
/-- ColdShod$StrokePlan.addNext(LColdShod$Idea;I)V -/
def kE746 : aE := (83, 3, ([kvB 0 3, kvB 285 341], [(57, 284, .inl (0, .ofNat 0)), (52, 6, .inl (1, .ofNat 0))], 0, [kvR 52, some (.inr [20, 21, 22, 23, 24, 25, 26, 27]), kvN 284, none, none], []), ([], none), ([], [], none, ([], [])), kvW74)
def kC746_0 : aC := (([kvB 0 3, kvB 285 341, kvB 0 4, kvB 285 341], [(57, 284, .inl (0, .ofNat 0)), (52, 6, .inl (3, .ofNat 0))], 2, [kvR 52, some (.inr [20, 21, 22, 23, 24, 25, 26, 27]), kvN 284, kvI 2, none], []), ([], []), (4, [(-1, 2)]))
theorem ks746 : aseg kS krf kB [kE562, kE567, kE568, kE569] (ksp []) kE746 [kC746_0] 30000 (none) = true := asgqw (by decide +kernel)
theorem ks746_0 : aseg kS krf kB [kE562, kE567, kE568, kE569] (ksp []) kE746 [kC746_0] 30000 (some kC746_0) = true := asgqw (by decide +kernel)
theorem kok746 : aOK kS krf kB kE746 := aOK_of (kal1 kok562 (kal1 kok567 (kal1 kok568 (kal1 kok569 kal0)))) (kcl1 ks746_0 kcl0) ks746
/-- ColdShod$StrokePlan.addNext(LColdShod$Idea;I)V -/
def kE747 : aE := (83, 3, ([kvB 0 3, kvB 284 341], [(57, 283, .inl (0, .ofNat 0)), (52, 6, .inl (1, .ofNat 0))], 0, [kvR 52, some (.inr [20, 21, 22, 23, 24, 25, 26, 27]), kvN 283, none, none], []), ([], none), ([], [], none, ([], [])), kvW74)
def kC747_0 : aC := (([kvB 0 3, kvB 284 341, kvB 0 4, kvB 284 341], [(57, 283, .inl (0, .ofNat 0)), (52, 6, .inl (3, .ofNat 0))], 2, [kvR 52, some (.inr [20, 21, 22, 23, 24, 25, 26, 27]), kvN 283, kvI 2, none], []), ([], []), (4, [(-1, 2)]))
theorem ks747 : aseg kS krf kB [kE562, kE567, kE568, kE569] (ksp []) kE747 [kC747_0] 30000 (none) = true := asgqw (by decide +kernel)
theorem ks747_0 : aseg kS krf kB [kE562, kE567, kE568, kE569] (ksp []) kE747 [kC747_0] 30000 (some kC747_0) = true := asgqw (by decide +kernel)
theorem kok747 : aOK kS krf kB kE747 := aOK_of (kal1 kok562 (kal1 kok567 (kal1 kok568 (kal1 kok569 kal0)))) (kcl1 ks747_0 kcl0) ks747
/-- ColdShod$StrokePlan.addNext(LColdShod$Idea;I)V -/
def kE748 : aE := (83, 3, ([kvB 0 3, kvB 283 341], [(57, 282, .inl (0, .ofNat 0)), (52, 6, .inl (1, .ofNat 0))], 0, [kvR 52, some (.inr [20, 21, 22, 23, 24, 25, 26, 27]), kvN 282, none, none], []), ([], none), ([], [], none, ([], [])), kvW74)
def kC748_0 : aC := (([kvB 0 3, kvB 283 341, kvB 0 4, kvB 283 341], [(57, 282, .inl (0, .ofNat 0)), (52, 6, .inl (3, .ofNat 0))], 2, [kvR 52, some (.inr [20, 21, 22, 23, 24, 25, 26, 27]), kvN 282, kvI 2, none], []), ([], []), (4, [(-1, 2)]))
theorem ks748 : aseg kS krf kB [kE562, kE567, kE568, kE569] (ksp []) kE748 [kC748_0] 30000 (none) = true := asgqw (by decide +kernel)
theorem ks748_0 : aseg kS krf kB [kE562, kE567, kE568, kE569] (ksp []) kE748 [kC748_0] 30000 (some kC748_0) = true := asgqw (by decide +kernel)
theorem kok748 : aOK kS krf kB kE748 := aOK_of (kal1 kok562 (kal1 kok567 (kal1 kok568 (kal1 kok569 kal0)))) (kcl1 ks748_0 kcl0) ks748
/-- ColdShod$StrokePlan.addNext(LColdShod$Idea;I)V -/
def kE749 : aE := (83, 3, ([kvB 0 3, kvB 282 341], [(57, 281, .inl (0, .ofNat 0)), (52, 6, .inl (1, .ofNat 0))], 0, [kvR 52, some (.inr [20, 21, 22, 23, 24, 25, 26, 27]), kvN 281, none, none], []), ([], none), ([], [], none, ([], [])), kvW74)
def kC749_0 : aC := (([kvB 0 3, kvB 282 341, kvB 0 4, kvB 282 341], [(57, 281, .inl (0, .ofNat 0)), (52, 6, .inl (3, .ofNat 0))], 2, [kvR 52, some (.inr [20, 21, 22, 23, 24, 25, 26, 27]), kvN 281, kvI 2, none], []), ([], []), (4, [(-1, 2)]))
theorem ks749 : aseg kS krf kB [kE562, kE567, kE568, kE569] (ksp []) kE749 [kC749_0] 30000 (none) = true := asgqw (by decide +kernel)
theorem ks749_0 : aseg kS krf kB [kE562, kE567, kE568, kE569] (ksp []) kE749 [kC749_0] 30000 (some kC749_0) = true := asgqw (by decide +kernel)
theorem kok749 : aOK kS krf kB kE749 := aOK_of (kal1 kok562 (kal1 kok567 (kal1 kok568 (kal1 kok569 kal0)))) (kcl1 ks749_0 kcl0) ks749
/-- ColdShod$StrokePlan.addNext(LColdShod$Idea;I)V -/
def kE750 : aE := (83, 3, ([kvB 0 3, kvB 281 341], [(57, 280, .inl (0, .ofNat 0)), (52, 6, .inl (1, .ofNat 0))], 0, [kvR 52, some (.inr [20, 21, 22, 23, 24, 25, 26, 27]), kvN 280, none, none], []), ([], none), ([], [], none, ([], [])), kvW74)
def kC750_0 : aC := (([kvB 0 3, kvB 281 341, kvB 0 4, kvB 281 341], [(57, 280, .inl (0, .ofNat 0)), (52, 6, .inl (3, .ofNat 0))], 2, [kvR 52, some (.inr [20, 21, 22, 23, 24, 25, 26, 27]), kvN 280, kvI 2, none], []), ([], []), (4, [(-1, 2)]))
theorem ks750 : aseg kS krf kB [kE562, kE567, kE568, kE569] (ksp []) kE750 [kC750_0] 30000 (none) = true := asgqw (by decide +kernel)
theorem ks750_0 : aseg kS krf kB [kE562, kE567, kE568, kE569] (ksp []) kE750 [kC750_0] 30000 (some kC750_0) = true := asgqw (by decide +kernel)
theorem kok750 : aOK kS krf kB kE750 := aOK_of (kal1 kok562 (kal1 kok567 (kal1 kok568 (kal1 kok569 kal0)))) (kcl1 ks750_0 kcl0) ks750
/-- ColdShod$StrokePlan.addNext(LColdShod$Idea;I)V -/
def kE751 : aE := (83, 3, ([kvB 0 3, kvB 280 341], [(57, 279, .inl (0, .ofNat 0)), (52, 6, .inl (1, .ofNat 0))], 0, [kvR 52, some (.inr [20, 21, 22, 23, 24, 25, 26, 27]), kvN 279, none, none], []), ([], none), ([], [], none, ([], [])), kvW74)
def kC751_0 : aC := (([kvB 0 3, kvB 280 341, kvB 0 4, kvB 280 341], [(57, 279, .inl (0, .ofNat 0)), (52, 6, .inl (3, .ofNat 0))], 2, [kvR 52, some (.inr [20, 21, 22, 23, 24, 25, 26, 27]), kvN 279, kvI 2, none], []), ([], []), (4, [(-1, 2)]))
theorem ks751 : aseg kS krf kB [kE562, kE567, kE568, kE569] (ksp []) kE751 [kC751_0] 30000 (none) = true := asgqw (by decide +kernel)
theorem ks751_0 : aseg kS krf kB [kE562, kE567, kE568, kE569] (ksp []) kE751 [kC751_0] 30000 (some kC751_0) = true := asgqw (by decide +kernel)
theorem kok751 : aOK kS krf kB kE751 := aOK_of (kal1 kok562 (kal1 kok567 (kal1 kok568 (kal1 kok569 kal0)))) (kcl1 ks751_0 kcl0) ks751
/-- ColdShod$StrokePlan.addNext(LColdShod$Idea;I)V -/
def kE752 : aE := (83, 3, ([kvB 0 3, kvB 279 341], [(57, 278, .inl (0, .ofNat 0)), (52, 6, .inl (1, .ofNat 0))], 0, [kvR 52, some (.inr [20, 21, 22, 23, 24, 25, 26, 27]), kvN 278, none, none], []), ([], none), ([], [], none, ([], [])), kvW74)
def kC752_0 : aC := (([kvB 0 3, kvB 279 341, kvB 0 4, kvB 279 341], [(57, 278, .inl (0, .ofNat 0)), (52, 6, .inl (3, .ofNat 0))], 2, [kvR 52, some (.inr [20, 21, 22, 23, 24, 25, 26, 27]), kvN 278, kvI 2, none], []), ([], []), (4, [(-1, 2)]))
theorem ks752 : aseg kS krf kB [kE562, kE567, kE568, kE569] (ksp []) kE752 [kC752_0] 30000 (none) = true := asgqw (by decide +kernel)
theorem ks752_0 : aseg kS krf kB [kE562, kE567, kE568, kE569] (ksp []) kE752 [kC752_0] 30000 (some kC752_0) = true := asgqw (by decide +kernel)
theorem kok752 : aOK kS krf kB kE752 := aOK_of (kal1 kok562 (kal1 kok567 (kal1 kok568 (kal1 kok569 kal0)))) (kcl1 ks752_0 kcl0) ks752
/-- ColdShod$StrokePlan.addNext(LColdShod$Idea;I)V -/
def kE753 : aE := (83, 3, ([kvB 0 3, kvB 278 341], [(57, 277, .inl (0, .ofNat 0)), (52, 6, .inl (1, .ofNat 0))], 0, [kvR 52, some (.inr [20, 21, 22, 23, 24, 25, 26, 27]), kvN 277, none, none], []), ([], none), ([], [], none, ([], [])), kvW74)
def kC753_0 : aC := (([kvB 0 3, kvB 278 341, kvB 0 4, kvB 278 341], [(57, 277, .inl (0, .ofNat 0)), (52, 6, .inl (3, .ofNat 0))], 2, [kvR 52, some (.inr [20, 21, 22, 23, 24, 25, 26, 27]), kvN 277, kvI 2, none], []), ([], []), (4, [(-1, 2)]))
theorem ks753 : aseg kS krf kB [kE562, kE567, kE568, kE569] (ksp []) kE753 [kC753_0] 30000 (none) = true := asgqw (by decide +kernel)
theorem ks753_0 : aseg kS krf kB [kE562, kE567, kE568, kE569] (ksp []) kE753 [kC753_0] 30000 (some kC753_0) = true := asgqw (by decide +kernel)
theorem kok753 : aOK kS krf kB kE753 := aOK_of (kal1 kok562 (kal1 kok567 (kal1 kok568 (kal1 kok569 kal0)))) (kcl1 ks753_0 kcl0) ks753
/-- ColdShod$StrokePlan.addNext(LColdShod$Idea;I)V -/
def kE754 : aE := (83, 3, ([kvB 0 3, kvB 277 341], [(57, 276, .inl (0, .ofNat 0)), (52, 6, .inl (1, .ofNat 0))], 0, [kvR 52, some (.inr [20, 21, 22, 23, 24, 25, 26, 27]), kvN 276, none, none], []), ([], none), ([], [], none, ([], [])), kvW74)
def kC754_0 : aC := (([kvB 0 3, kvB 277 341, kvB 0 4, kvB 277 341], [(57, 276, .inl (0, .ofNat 0)), (52, 6, .inl (3, .ofNat 0))], 2, [kvR 52, some (.inr [20, 21, 22, 23, 24, 25, 26, 27]), kvN 276, kvI 2, none], []), ([], []), (4, [(-1, 2)]))
theorem ks754 : aseg kS krf kB [kE562, kE567, kE568, kE569] (ksp []) kE754 [kC754_0] 30000 (none) = true := asgqw (by decide +kernel)
theorem ks754_0 : aseg kS krf kB [kE562, kE567, kE568, kE569] (ksp []) kE754 [kC754_0] 30000 (some kC754_0) = true := asgqw (by decide +kernel)
theorem kok754 : aOK kS krf kB kE754 := aOK_of (kal1 kok562 (kal1 kok567 (kal1 kok568 (kal1 kok569 kal0)))) (kcl1 ks754_0 kcl0) ks754
/-- ColdShod$StrokePlan.addNext(LColdShod$Idea;I)V -/
def kE755 : aE := (83, 3, ([kvB 0 3, kvB 276 341], [(57, 275, .inl (0, .ofNat 0)), (52, 6, .inl (1, .ofNat 0))], 0, [kvR 52, some (.inr [20, 21, 22, 23, 24, 25, 26, 27]), kvN 275, none, none], []), ([], none), ([], [], none, ([], [])), kvW74)
def kC755_0 : aC := (([kvB 0 3, kvB 276 341, kvB 0 4, kvB 276 341], [(57, 275, .inl (0, .ofNat 0)), (52, 6, .inl (3, .ofNat 0))], 2, [kvR 52, some (.inr [20, 21, 22, 23, 24, 25, 26, 27]), kvN 275, kvI 2, none], []), ([], []), (4, [(-1, 2)]))
theorem ks755 : aseg kS krf kB [kE562, kE567, kE568, kE569] (ksp []) kE755 [kC755_0] 30000 (none) = true := asgqw (by decide +kernel)
theorem ks755_0 : aseg kS krf kB [kE562, kE567, kE568, kE569] (ksp []) kE755 [kC755_0] 30000 (some kC755_0) = true := asgqw (by decide +kernel)
theorem kok755 : aOK kS krf kB kE755 := aOK_of (kal1 kok562 (kal1 kok567 (kal1 kok568 (kal1 kok569 kal0)))) (kcl1 ks755_0 kcl0) ks755
/-- ColdShod$StrokePlan.addNext(LColdShod$Idea;I)V -/
def kE756 : aE := (83, 3, ([kvB 0 3, kvB 275 341], [(57, 274, .inl (0, .ofNat 0)), (52, 6, .inl (1, .ofNat 0))], 0, [kvR 52, some (.inr [20, 21, 22, 23, 24, 25, 26, 27]), kvN 274, none, none], []), ([], none), ([], [], none, ([], [])), kvW74)
def kC756_0 : aC := (([kvB 0 3, kvB 275 341, kvB 0 4, kvB 275 341], [(57, 274, .inl (0, .ofNat 0)), (52, 6, .inl (3, .ofNat 0))], 2, [kvR 52, some (.inr [20, 21, 22, 23, 24, 25, 26, 27]), kvN 274, kvI 2, none], []), ([], []), (4, [(-1, 2)]))
theorem ks756 : aseg kS krf kB [kE562, kE567, kE568, kE569] (ksp []) kE756 [kC756_0] 30000 (none) = true := asgqw (by decide +kernel)
theorem ks756_0 : aseg kS krf kB [kE562, kE567, kE568, kE569] (ksp []) kE756 [kC756_0] 30000 (some kC756_0) = true := asgqw (by decide +kernel)
theorem kok756 : aOK kS krf kB kE756 := aOK_of (kal1 kok562 (kal1 kok567 (kal1 kok568 (kal1 kok569 kal0)))) (kcl1 ks756_0 kcl0) ks756
/-- ColdShod$StrokePlan.addNext(LColdShod$Idea;I)V -/
def kE757 : aE := (83, 3, ([kvB 0 3, kvB 274 341], [(57, 273, .inl (0, .ofNat 0)), (52, 6, .inl (1, .ofNat 0))], 0, [kvR 52, some (.inr [20, 21, 22, 23, 24, 25, 26, 27]), kvN 273, none, none], []), ([], none), ([], [], none, ([], [])), kvW74)
def kC757_0 : aC := (([kvB 0 3, kvB 274 341, kvB 0 4, kvB 274 341], [(57, 273, .inl (0, .ofNat 0)), (52, 6, .inl (3, .ofNat 0))], 2, [kvR 52, some (.inr [20, 21, 22, 23, 24, 25, 26, 27]), kvN 273, kvI 2, none], []), ([], []), (4, [(-1, 2)]))
theorem ks757 : aseg kS krf kB [kE562, kE567, kE568, kE569] (ksp []) kE757 [kC757_0] 30000 (none) = true := asgqw (by decide +kernel)
theorem ks757_0 : aseg kS krf kB [kE562, kE567, kE568, kE569] (ksp []) kE757 [kC757_0] 30000 (some kC757_0) = true := asgqw (by decide +kernel)
theorem kok757 : aOK kS krf kB kE757 := aOK_of (kal1 kok562 (kal1 kok567 (kal1 kok568 (kal1 kok569 kal0)))) (kcl1 ks757_0 kcl0) ks757
/-- ColdShod$StrokePlan.addNext(LColdShod$Idea;I)V -/
def kE758 : aE := (83, 3, ([kvB 0 3, kvB 273 341], [(57, 272, .inl (0, .ofNat 0)), (52, 6, .inl (1, .ofNat 0))], 0, [kvR 52, some (.inr [20, 21, 22, 23, 24, 25, 26, 27]), kvN 272, none, none], []), ([], none), ([], [], none, ([], [])), kvW74)
def kC758_0 : aC := (([kvB 0 3, kvB 273 341, kvB 0 4, kvB 273 341], [(57, 272, .inl (0, .ofNat 0)), (52, 6, .inl (3, .ofNat 0))], 2, [kvR 52, some (.inr [20, 21, 22, 23, 24, 25, 26, 27]), kvN 272, kvI 2, none], []), ([], []), (4, [(-1, 2)]))
theorem ks758 : aseg kS krf kB [kE562, kE567, kE568, kE569] (ksp []) kE758 [kC758_0] 30000 (none) = true := asgqw (by decide +kernel)
theorem ks758_0 : aseg kS krf kB [kE562, kE567, kE568, kE569] (ksp []) kE758 [kC758_0] 30000 (some kC758_0) = true := asgqw (by decide +kernel)
theorem kok758 : aOK kS krf kB kE758 := aOK_of (kal1 kok562 (kal1 kok567 (kal1 kok568 (kal1 kok569 kal0)))) (kcl1 ks758_0 kcl0) ks758
/-- ColdShod$StrokePlan.addNext(LColdShod$Idea;I)V -/
def kE759 : aE := (83, 3, ([kvB 0 3, kvB 272 341], [(57, 271, .inl (0, .ofNat 0)), (52, 6, .inl (1, .ofNat 0))], 0, [kvR 52, some (.inr [20, 21, 22, 23, 24, 25, 26, 27]), kvN 271, none, none], []), ([], none), ([], [], none, ([], [])), kvW74)
def kC759_0 : aC := (([kvB 0 3, kvB 272 341, kvB 0 4, kvB 272 341], [(57, 271, .inl (0, .ofNat 0)), (52, 6, .inl (3, .ofNat 0))], 2, [kvR 52, some (.inr [20, 21, 22, 23, 24, 25, 26, 27]), kvN 271, kvI 2, none], []), ([], []), (4, [(-1, 2)]))
theorem ks759 : aseg kS krf kB [kE562, kE567, kE568, kE569] (ksp []) kE759 [kC759_0] 30000 (none) = true := asgqw (by decide +kernel)
theorem ks759_0 : aseg kS krf kB [kE562, kE567, kE568, kE569] (ksp []) kE759 [kC759_0] 30000 (some kC759_0) = true := asgqw (by decide +kernel)
theorem kok759 : aOK kS krf kB kE759 := aOK_of (kal1 kok562 (kal1 kok567 (kal1 kok568 (kal1 kok569 kal0)))) (kcl1 ks759_0 kcl0) ks759
/-- ColdShod$StrokePlan.addNext(LColdShod$Idea;I)V -/
def kE760 : aE := (83, 3, ([kvB 0 3, kvB 271 341], [(57, 270, .inl (0, .ofNat 0)), (52, 6, .inl (1, .ofNat 0))], 0, [kvR 52, some (.inr [20, 21, 22, 23, 24, 25, 26, 27]), kvN 270, none, none], []), ([], none), ([], [], none, ([], [])), kvW74)
def kC760_0 : aC := (([kvB 0 3, kvB 271 341, kvB 0 4, kvB 271 341], [(57, 270, .inl (0, .ofNat 0)), (52, 6, .inl (3, .ofNat 0))], 2, [kvR 52, some (.inr [20, 21, 22, 23, 24, 25, 26, 27]), kvN 270, kvI 2, none], []), ([], []), (4, [(-1, 2)]))
theorem ks760 : aseg kS krf kB [kE562, kE567, kE568, kE569] (ksp []) kE760 [kC760_0] 30000 (none) = true := asgqw (by decide +kernel)
theorem ks760_0 : aseg kS krf kB [kE562, kE567, kE568, kE569] (ksp []) kE760 [kC760_0] 30000 (some kC760_0) = true := asgqw (by decide +kernel)
theorem kok760 : aOK kS krf kB kE760 := aOK_of (kal1 kok562 (kal1 kok567 (kal1 kok568 (kal1 kok569 kal0)))) (kcl1 ks760_0 kcl0) ks760
/-- ColdShod$StrokePlan.addNext(LColdShod$Idea;I)V -/
def kE761 : aE := (83, 3, ([kvB 0 3, kvB 270 341], [(57, 269, .inl (0, .ofNat 0)), (52, 6, .inl (1, .ofNat 0))], 0, [kvR 52, some (.inr [20, 21, 22, 23, 24, 25, 26, 27]), kvN 269, none, none], []), ([], none), ([], [], none, ([], [])), kvW74)
def kC761_0 : aC := (([kvB 0 3, kvB 270 341, kvB 0 4, kvB 270 341], [(57, 269, .inl (0, .ofNat 0)), (52, 6, .inl (3, .ofNat 0))], 2, [kvR 52, some (.inr [20, 21, 22, 23, 24, 25, 26, 27]), kvN 269, kvI 2, none], []), ([], []), (4, [(-1, 2)]))
theorem ks761 : aseg kS krf kB [kE562, kE567, kE568, kE569] (ksp []) kE761 [kC761_0] 30000 (none) = true := asgqw (by decide +kernel)
theorem ks761_0 : aseg kS krf kB [kE562, kE567, kE568, kE569] (ksp []) kE761 [kC761_0] 30000 (some kC761_0) = true := asgqw (by decide +kernel)
theorem kok761 : aOK kS krf kB kE761 := aOK_of (kal1 kok562 (kal1 kok567 (kal1 kok568 (kal1 kok569 kal0)))) (kcl1 ks761_0 kcl0) ks761
/-- ColdShod$StrokePlan.addNext(LColdShod$Idea;I)V -/
def kE762 : aE := (83, 3, ([kvB 0 3, kvB 269 341], [(57, 268, .inl (0, .ofNat 0)), (52, 6, .inl (1, .ofNat 0))], 0, [kvR 52, some (.inr [20, 21, 22, 23, 24, 25, 26, 27]), kvN 268, none, none], []), ([], none), ([], [], none, ([], [])), kvW74)
def kC762_0 : aC := (([kvB 0 3, kvB 269 341, kvB 0 4, kvB 269 341], [(57, 268, .inl (0, .ofNat 0)), (52, 6, .inl (3, .ofNat 0))], 2, [kvR 52, some (.inr [20, 21, 22, 23, 24, 25, 26, 27]), kvN 268, kvI 2, none], []), ([], []), (4, [(-1, 2)]))
theorem ks762 : aseg kS krf kB [kE562, kE567, kE568, kE569] (ksp []) kE762 [kC762_0] 30000 (none) = true := asgqw (by decide +kernel)
theorem ks762_0 : aseg kS krf kB [kE562, kE567, kE568, kE569] (ksp []) kE762 [kC762_0] 30000 (some kC762_0) = true := asgqw (by decide +kernel)
theorem kok762 : aOK kS krf kB kE762 := aOK_of (kal1 kok562 (kal1 kok567 (kal1 kok568 (kal1 kok569 kal0)))) (kcl1 ks762_0 kcl0) ks762
/-- ColdShod$StrokePlan.addNext(LColdShod$Idea;I)V -/
def kE763 : aE := (83, 3, ([kvB 0 3, kvB 268 341], [(57, 267, .inl (0, .ofNat 0)), (52, 6, .inl (1, .ofNat 0))], 0, [kvR 52, some (.inr [20, 21, 22, 23, 24, 25, 26, 27]), kvN 267, none, none], []), ([], none), ([], [], none, ([], [])), kvW74)
def kC763_0 : aC := (([kvB 0 3, kvB 268 341, kvB 0 4, kvB 268 341], [(57, 267, .inl (0, .ofNat 0)), (52, 6, .inl (3, .ofNat 0))], 2, [kvR 52, some (.inr [20, 21, 22, 23, 24, 25, 26, 27]), kvN 267, kvI 2, none], []), ([], []), (4, [(-1, 2)]))
theorem ks763 : aseg kS krf kB [kE562, kE567, kE568, kE569] (ksp []) kE763 [kC763_0] 30000 (none) = true := asgqw (by decide +kernel)
theorem ks763_0 : aseg kS krf kB [kE562, kE567, kE568, kE569] (ksp []) kE763 [kC763_0] 30000 (some kC763_0) = true := asgqw (by decide +kernel)
theorem kok763 : aOK kS krf kB kE763 := aOK_of (kal1 kok562 (kal1 kok567 (kal1 kok568 (kal1 kok569 kal0)))) (kcl1 ks763_0 kcl0) ks763
/-- ColdShod$StrokePlan.addNext(LColdShod$Idea;I)V -/
def kE764 : aE := (83, 3, ([kvB 0 3, kvB 267 341], [(57, 266, .inl (0, .ofNat 0)), (52, 6, .inl (1, .ofNat 0))], 0, [kvR 52, some (.inr [20, 21, 22, 23, 24, 25, 26, 27]), kvN 266, none, none], []), ([], none), ([], [], none, ([], [])), kvW74)
def kC764_0 : aC := (([kvB 0 3, kvB 267 341, kvB 0 4, kvB 267 341], [(57, 266, .inl (0, .ofNat 0)), (52, 6, .inl (3, .ofNat 0))], 2, [kvR 52, some (.inr [20, 21, 22, 23, 24, 25, 26, 27]), kvN 266, kvI 2, none], []), ([], []), (4, [(-1, 2)]))
theorem ks764 : aseg kS krf kB [kE562, kE567, kE568, kE569] (ksp []) kE764 [kC764_0] 30000 (none) = true := asgqw (by decide +kernel)
theorem ks764_0 : aseg kS krf kB [kE562, kE567, kE568, kE569] (ksp []) kE764 [kC764_0] 30000 (some kC764_0) = true := asgqw (by decide +kernel)
theorem kok764 : aOK kS krf kB kE764 := aOK_of (kal1 kok562 (kal1 kok567 (kal1 kok568 (kal1 kok569 kal0)))) (kcl1 ks764_0 kcl0) ks764
/-- ColdShod$StrokePlan.addNext(LColdShod$Idea;I)V -/
def kE765 : aE := (83, 3, ([kvB 0 3, kvB 266 341], [(57, 265, .inl (0, .ofNat 0)), (52, 6, .inl (1, .ofNat 0))], 0, [kvR 52, some (.inr [20, 21, 22, 23, 24, 25, 26, 27]), kvN 265, none, none], []), ([], none), ([], [], none, ([], [])), kvW74)
def kC765_0 : aC := (([kvB 0 3, kvB 266 341, kvB 0 4, kvB 266 341], [(57, 265, .inl (0, .ofNat 0)), (52, 6, .inl (3, .ofNat 0))], 2, [kvR 52, some (.inr [20, 21, 22, 23, 24, 25, 26, 27]), kvN 265, kvI 2, none], []), ([], []), (4, [(-1, 2)]))
theorem ks765 : aseg kS krf kB [kE562, kE567, kE568, kE569] (ksp []) kE765 [kC765_0] 30000 (none) = true := asgqw (by decide +kernel)
theorem ks765_0 : aseg kS krf kB [kE562, kE567, kE568, kE569] (ksp []) kE765 [kC765_0] 30000 (some kC765_0) = true := asgqw (by decide +kernel)
theorem kok765 : aOK kS krf kB kE765 := aOK_of (kal1 kok562 (kal1 kok567 (kal1 kok568 (kal1 kok569 kal0)))) (kcl1 ks765_0 kcl0) ks765
/-- ColdShod$StrokePlan.addNext(LColdShod$Idea;I)V -/
def kE766 : aE := (83, 3, ([kvB 0 3, kvB 265 341], [(57, 264, .inl (0, .ofNat 0)), (52, 6, .inl (1, .ofNat 0))], 0, [kvR 52, some (.inr [20, 21, 22, 23, 24, 25, 26, 27]), kvN 264, none, none], []), ([], none), ([], [], none, ([], [])), kvW74)
def kC766_0 : aC := (([kvB 0 3, kvB 265 341, kvB 0 4, kvB 265 341], [(57, 264, .inl (0, .ofNat 0)), (52, 6, .inl (3, .ofNat 0))], 2, [kvR 52, some (.inr [20, 21, 22, 23, 24, 25, 26, 27]), kvN 264, kvI 2, none], []), ([], []), (4, [(-1, 2)]))
theorem ks766 : aseg kS krf kB [kE562, kE567, kE568, kE569] (ksp []) kE766 [kC766_0] 30000 (none) = true := asgqw (by decide +kernel)
theorem ks766_0 : aseg kS krf kB [kE562, kE567, kE568, kE569] (ksp []) kE766 [kC766_0] 30000 (some kC766_0) = true := asgqw (by decide +kernel)
theorem kok766 : aOK kS krf kB kE766 := aOK_of (kal1 kok562 (kal1 kok567 (kal1 kok568 (kal1 kok569 kal0)))) (kcl1 ks766_0 kcl0) ks766
/-- ColdShod$StrokePlan.addNext(LColdShod$Idea;I)V -/
def kE767 : aE := (83, 3, ([kvB 0 3, kvB 264 341], [(57, 263, .inl (0, .ofNat 0)), (52, 6, .inl (1, .ofNat 0))], 0, [kvR 52, some (.inr [20, 21, 22, 23, 24, 25, 26, 27]), kvN 263, none, none], []), ([], none), ([], [], none, ([], [])), kvW74)
def kC767_0 : aC := (([kvB 0 3, kvB 264 341, kvB 0 4, kvB 264 341], [(57, 263, .inl (0, .ofNat 0)), (52, 6, .inl (3, .ofNat 0))], 2, [kvR 52, some (.inr [20, 21, 22, 23, 24, 25, 26, 27]), kvN 263, kvI 2, none], []), ([], []), (4, [(-1, 2)]))
theorem ks767 : aseg kS krf kB [kE562, kE567, kE568, kE569] (ksp []) kE767 [kC767_0] 30000 (none) = true := asgqw (by decide +kernel)
theorem ks767_0 : aseg kS krf kB [kE562, kE567, kE568, kE569] (ksp []) kE767 [kC767_0] 30000 (some kC767_0) = true := asgqw (by decide +kernel)
theorem kok767 : aOK kS krf kB kE767 := aOK_of (kal1 kok562 (kal1 kok567 (kal1 kok568 (kal1 kok569 kal0)))) (kcl1 ks767_0 kcl0) ks767
/-- ColdShod$StrokePlan.addNext(LColdShod$Idea;I)V -/
def kE768 : aE := (83, 3, ([kvB 0 3, kvB 263 341], [(57, 262, .inl (0, .ofNat 0)), (52, 6, .inl (1, .ofNat 0))], 0, [kvR 52, some (.inr [20, 21, 22, 23, 24, 25, 26, 27]), kvN 262, none, none], []), ([], none), ([], [], none, ([], [])), kvW74)
def kC768_0 : aC := (([kvB 0 3, kvB 263 341, kvB 0 4, kvB 263 341], [(57, 262, .inl (0, .ofNat 0)), (52, 6, .inl (3, .ofNat 0))], 2, [kvR 52, some (.inr [20, 21, 22, 23, 24, 25, 26, 27]), kvN 262, kvI 2, none], []), ([], []), (4, [(-1, 2)]))
theorem ks768 : aseg kS krf kB [kE562, kE567, kE568, kE569] (ksp []) kE768 [kC768_0] 30000 (none) = true := asgqw (by decide +kernel)
theorem ks768_0 : aseg kS krf kB [kE562, kE567, kE568, kE569] (ksp []) kE768 [kC768_0] 30000 (some kC768_0) = true := asgqw (by decide +kernel)
theorem kok768 : aOK kS krf kB kE768 := aOK_of (kal1 kok562 (kal1 kok567 (kal1 kok568 (kal1 kok569 kal0)))) (kcl1 ks768_0 kcl0) ks768
/-- ColdShod$StrokePlan.addNext(LColdShod$Idea;I)V -/
def kE769 : aE := (83, 3, ([kvB 0 3, kvB 262 341], [(57, 261, .inl (0, .ofNat 0)), (52, 6, .inl (1, .ofNat 0))], 0, [kvR 52, some (.inr [20, 21, 22, 23, 24, 25, 26, 27]), kvN 261, none, none], []), ([], none), ([], [], none, ([], [])), kvW74)
def kC769_0 : aC := (([kvB 0 3, kvB 262 341, kvB 0 4, kvB 262 341], [(57, 261, .inl (0, .ofNat 0)), (52, 6, .inl (3, .ofNat 0))], 2, [kvR 52, some (.inr [20, 21, 22, 23, 24, 25, 26, 27]), kvN 261, kvI 2, none], []), ([], []), (4, [(-1, 2)]))
theorem ks769 : aseg kS krf kB [kE562, kE567, kE568, kE569] (ksp []) kE769 [kC769_0] 30000 (none) = true := asgqw (by decide +kernel)
theorem ks769_0 : aseg kS krf kB [kE562, kE567, kE568, kE569] (ksp []) kE769 [kC769_0] 30000 (some kC769_0) = true := asgqw (by decide +kernel)
theorem kok769 : aOK kS krf kB kE769 := aOK_of (kal1 kok562 (kal1 kok567 (kal1 kok568 (kal1 kok569 kal0)))) (kcl1 ks769_0 kcl0) ks769
/-- ColdShod$StrokePlan.addNext(LColdShod$Idea;I)V -/
def kE770 : aE := (83, 3, ([kvB 0 3, kvB 261 341], [(57, 260, .inl (0, .ofNat 0)), (52, 6, .inl (1, .ofNat 0))], 0, [kvR 52, some (.inr [20, 21, 22, 23, 24, 25, 26, 27]), kvN 260, none, none], []), ([], none), ([], [], none, ([], [])), kvW74)
def kC770_0 : aC := (([kvB 0 3, kvB 261 341, kvB 0 4, kvB 261 341], [(57, 260, .inl (0, .ofNat 0)), (52, 6, .inl (3, .ofNat 0))], 2, [kvR 52, some (.inr [20, 21, 22, 23, 24, 25, 26, 27]), kvN 260, kvI 2, none], []), ([], []), (4, [(-1, 2)]))
theorem ks770 : aseg kS krf kB [kE562, kE567, kE568, kE569] (ksp []) kE770 [kC770_0] 30000 (none) = true := asgqw (by decide +kernel)
theorem ks770_0 : aseg kS krf kB [kE562, kE567, kE568, kE569] (ksp []) kE770 [kC770_0] 30000 (some kC770_0) = true := asgqw (by decide +kernel)
theorem kok770 : aOK kS krf kB kE770 := aOK_of (kal1 kok562 (kal1 kok567 (kal1 kok568 (kal1 kok569 kal0)))) (kcl1 ks770_0 kcl0) ks770
/-- ColdShod$StrokePlan.addNext(LColdShod$Idea;I)V -/
def kE771 : aE := (83, 3, ([kvB 0 3, kvB 260 341], [(57, 259, .inl (0, .ofNat 0)), (52, 6, .inl (1, .ofNat 0))], 0, [kvR 52, some (.inr [20, 21, 22, 23, 24, 25, 26, 27]), kvN 259, none, none], []), ([], none), ([], [], none, ([], [])), kvW74)
def kC771_0 : aC := (([kvB 0 3, kvB 260 341, kvB 0 4, kvB 260 341], [(57, 259, .inl (0, .ofNat 0)), (52, 6, .inl (3, .ofNat 0))], 2, [kvR 52, some (.inr [20, 21, 22, 23, 24, 25, 26, 27]), kvN 259, kvI 2, none], []), ([], []), (4, [(-1, 2)]))
theorem ks771 : aseg kS krf kB [kE562, kE567, kE568, kE569] (ksp []) kE771 [kC771_0] 30000 (none) = true := asgqw (by decide +kernel)
theorem ks771_0 : aseg kS krf kB [kE562, kE567, kE568, kE569] (ksp []) kE771 [kC771_0] 30000 (some kC771_0) = true := asgqw (by decide +kernel)
theorem kok771 : aOK kS krf kB kE771 := aOK_of (kal1 kok562 (kal1 kok567 (kal1 kok568 (kal1 kok569 kal0)))) (kcl1 ks771_0 kcl0) ks771
/-- ColdShod$StrokePlan.addNext(LColdShod$Idea;I)V -/
def kE772 : aE := (83, 3, ([kvB 0 3, kvB 259 341], [(57, 258, .inl (0, .ofNat 0)), (52, 6, .inl (1, .ofNat 0))], 0, [kvR 52, some (.inr [20, 21, 22, 23, 24, 25, 26, 27]), kvN 258, none, none], []), ([], none), ([], [], none, ([], [])), kvW74)
def kC772_0 : aC := (([kvB 0 3, kvB 259 341, kvB 0 4, kvB 259 341], [(57, 258, .inl (0, .ofNat 0)), (52, 6, .inl (3, .ofNat 0))], 2, [kvR 52, some (.inr [20, 21, 22, 23, 24, 25, 26, 27]), kvN 258, kvI 2, none], []), ([], []), (4, [(-1, 2)]))
theorem ks772 : aseg kS krf kB [kE562, kE567, kE568, kE569] (ksp []) kE772 [kC772_0] 30000 (none) = true := asgqw (by decide +kernel)
theorem ks772_0 : aseg kS krf kB [kE562, kE567, kE568, kE569] (ksp []) kE772 [kC772_0] 30000 (some kC772_0) = true := asgqw (by decide +kernel)
theorem kok772 : aOK kS krf kB kE772 := aOK_of (kal1 kok562 (kal1 kok567 (kal1 kok568 (kal1 kok569 kal0)))) (kcl1 ks772_0 kcl0) ks772
/-- ColdShod$StrokePlan.addNext(LColdShod$Idea;I)V -/
def kE773 : aE := (83, 3, ([kvB 0 3, kvB 258 341], [(57, 257, .inl (0, .ofNat 0)), (52, 6, .inl (1, .ofNat 0))], 0, [kvR 52, some (.inr [20, 21, 22, 23, 24, 25, 26, 27]), kvN 257, none, none], []), ([], none), ([], [], none, ([], [])), kvW74)
def kC773_0 : aC := (([kvB 0 3, kvB 258 341, kvB 0 4, kvB 258 341], [(57, 257, .inl (0, .ofNat 0)), (52, 6, .inl (3, .ofNat 0))], 2, [kvR 52, some (.inr [20, 21, 22, 23, 24, 25, 26, 27]), kvN 257, kvI 2, none], []), ([], []), (4, [(-1, 2)]))
theorem ks773 : aseg kS krf kB [kE562, kE567, kE568, kE569] (ksp []) kE773 [kC773_0] 30000 (none) = true := asgqw (by decide +kernel)
theorem ks773_0 : aseg kS krf kB [kE562, kE567, kE568, kE569] (ksp []) kE773 [kC773_0] 30000 (some kC773_0) = true := asgqw (by decide +kernel)
theorem kok773 : aOK kS krf kB kE773 := aOK_of (kal1 kok562 (kal1 kok567 (kal1 kok568 (kal1 kok569 kal0)))) (kcl1 ks773_0 kcl0) ks773
/-- ColdShod$StrokePlan.addNext(LColdShod$Idea;I)V -/
def kE774 : aE := (83, 3, ([kvB 0 3, kvB 257 341], [(57, 256, .inl (0, .ofNat 0)), (52, 6, .inl (1, .ofNat 0))], 0, [kvR 52, some (.inr [20, 21, 22, 23, 24, 25, 26, 27]), kvN 256, none, none], []), ([], none), ([], [], none, ([], [])), kvW74)
def kC774_0 : aC := (([kvB 0 3, kvB 257 341, kvB 0 4, kvB 257 341], [(57, 256, .inl (0, .ofNat 0)), (52, 6, .inl (3, .ofNat 0))], 2, [kvR 52, some (.inr [20, 21, 22, 23, 24, 25, 26, 27]), kvN 256, kvI 2, none], []), ([], []), (4, [(-1, 2)]))
theorem ks774 : aseg kS krf kB [kE562, kE567, kE568, kE569] (ksp []) kE774 [kC774_0] 30000 (none) = true := asgqw (by decide +kernel)
theorem ks774_0 : aseg kS krf kB [kE562, kE567, kE568, kE569] (ksp []) kE774 [kC774_0] 30000 (some kC774_0) = true := asgqw (by decide +kernel)
theorem kok774 : aOK kS krf kB kE774 := aOK_of (kal1 kok562 (kal1 kok567 (kal1 kok568 (kal1 kok569 kal0)))) (kcl1 ks774_0 kcl0) ks774
/-- ColdShod$StrokePlan.addNext(LColdShod$Idea;I)V -/
def kE775 : aE := (83, 3, ([kvB 0 3, kvB 256 341], [(57, 255, .inl (0, .ofNat 0)), (52, 6, .inl (1, .ofNat 0))], 0, [kvR 52, some (.inr [20, 21, 22, 23, 24, 25, 26, 27]), kvN 255, none, none], []), ([], none), ([], [], none, ([], [])), kvW74)
def kC775_0 : aC := (([kvB 0 3, kvB 256 341, kvB 0 4, kvB 256 341], [(57, 255, .inl (0, .ofNat 0)), (52, 6, .inl (3, .ofNat 0))], 2, [kvR 52, some (.inr [20, 21, 22, 23, 24, 25, 26, 27]), kvN 255, kvI 2, none], []), ([], []), (4, [(-1, 2)]))
theorem ks775 : aseg kS krf kB [kE562, kE567, kE568, kE569] (ksp []) kE775 [kC775_0] 30000 (none) = true := asgqw (by decide +kernel)
theorem ks775_0 : aseg kS krf kB [kE562, kE567, kE568, kE569] (ksp []) kE775 [kC775_0] 30000 (some kC775_0) = true := asgqw (by decide +kernel)
theorem kok775 : aOK kS krf kB kE775 := aOK_of (kal1 kok562 (kal1 kok567 (kal1 kok568 (kal1 kok569 kal0)))) (kcl1 ks775_0 kcl0) ks775
/-- ColdShod$StrokePlan.addNext(LColdShod$Idea;I)V -/
def kE776 : aE := (83, 3, ([kvB 0 3, kvB 255 341], [(57, 254, .inl (0, .ofNat 0)), (52, 6, .inl (1, .ofNat 0))], 0, [kvR 52, some (.inr [20, 21, 22, 23, 24, 25, 26, 27]), kvN 254, none, none], []), ([], none), ([], [], none, ([], [])), kvW74)
def kC776_0 : aC := (([kvB 0 3, kvB 255 341, kvB 0 4, kvB 255 341], [(57, 254, .inl (0, .ofNat 0)), (52, 6, .inl (3, .ofNat 0))], 2, [kvR 52, some (.inr [20, 21, 22, 23, 24, 25, 26, 27]), kvN 254, kvI 2, none], []), ([], []), (4, [(-1, 2)]))
theorem ks776 : aseg kS krf kB [kE562, kE567, kE568, kE569] (ksp []) kE776 [kC776_0] 30000 (none) = true := asgqw (by decide +kernel)
theorem ks776_0 : aseg kS krf kB [kE562, kE567, kE568, kE569] (ksp []) kE776 [kC776_0] 30000 (some kC776_0) = true := asgqw (by decide +kernel)
theorem kok776 : aOK kS krf kB kE776 := aOK_of (kal1 kok562 (kal1 kok567 (kal1 kok568 (kal1 kok569 kal0)))) (kcl1 ks776_0 kcl0) ks776
/-- ColdShod$StrokePlan.addNext(LColdShod$Idea;I)V -/
def kE777 : aE := (83, 3, ([kvB 0 3, kvB 254 341], [(57, 253, .inl (0, .ofNat 0)), (52, 6, .inl (1, .ofNat 0))], 0, [kvR 52, some (.inr [20, 21, 22, 23, 24, 25, 26, 27]), kvN 253, none, none], []), ([], none), ([], [], none, ([], [])), kvW74)
def kC777_0 : aC := (([kvB 0 3, kvB 254 341, kvB 0 4, kvB 254 341], [(57, 253, .inl (0, .ofNat 0)), (52, 6, .inl (3, .ofNat 0))], 2, [kvR 52, some (.inr [20, 21, 22, 23, 24, 25, 26, 27]), kvN 253, kvI 2, none], []), ([], []), (4, [(-1, 2)]))
theorem ks777 : aseg kS krf kB [kE562, kE567, kE568, kE569] (ksp []) kE777 [kC777_0] 30000 (none) = true := asgqw (by decide +kernel)
theorem ks777_0 : aseg kS krf kB [kE562, kE567, kE568, kE569] (ksp []) kE777 [kC777_0] 30000 (some kC777_0) = true := asgqw (by decide +kernel)
theorem kok777 : aOK kS krf kB kE777 := aOK_of (kal1 kok562 (kal1 kok567 (kal1 kok568 (kal1 kok569 kal0)))) (kcl1 ks777_0 kcl0) ks777
/-- ColdShod$StrokePlan.addNext(LColdShod$Idea;I)V -/
def kE778 : aE := (83, 3, ([kvB 0 3, kvB 253 341], [(57, 252, .inl (0, .ofNat 0)), (52, 6, .inl (1, .ofNat 0))], 0, [kvR 52, some (.inr [20, 21, 22, 23, 24, 25, 26, 27]), kvN 252, none, none], []), ([], none), ([], [], none, ([], [])), kvW74)
def kC778_0 : aC := (([kvB 0 3, kvB 253 341, kvB 0 4, kvB 253 341], [(57, 252, .inl (0, .ofNat 0)), (52, 6, .inl (3, .ofNat 0))], 2, [kvR 52, some (.inr [20, 21, 22, 23, 24, 25, 26, 27]), kvN 252, kvI 2, none], []), ([], []), (4, [(-1, 2)]))
theorem ks778 : aseg kS krf kB [kE562, kE567, kE568, kE569] (ksp []) kE778 [kC778_0] 30000 (none) = true := asgqw (by decide +kernel)
theorem ks778_0 : aseg kS krf kB [kE562, kE567, kE568, kE569] (ksp []) kE778 [kC778_0] 30000 (some kC778_0) = true := asgqw (by decide +kernel)
theorem kok778 : aOK kS krf kB kE778 := aOK_of (kal1 kok562 (kal1 kok567 (kal1 kok568 (kal1 kok569 kal0)))) (kcl1 ks778_0 kcl0) ks778
/-- ColdShod$StrokePlan.addNext(LColdShod$Idea;I)V -/
def kE779 : aE := (83, 3, ([kvB 0 3, kvB 252 341], [(57, 251, .inl (0, .ofNat 0)), (52, 6, .inl (1, .ofNat 0))], 0, [kvR 52, some (.inr [20, 21, 22, 23, 24, 25, 26, 27]), kvN 251, none, none], []), ([], none), ([], [], none, ([], [])), kvW74)
def kC779_0 : aC := (([kvB 0 3, kvB 252 341, kvB 0 4, kvB 252 341], [(57, 251, .inl (0, .ofNat 0)), (52, 6, .inl (3, .ofNat 0))], 2, [kvR 52, some (.inr [20, 21, 22, 23, 24, 25, 26, 27]), kvN 251, kvI 2, none], []), ([], []), (4, [(-1, 2)]))
theorem ks779 : aseg kS krf kB [kE562, kE567, kE568, kE569] (ksp []) kE779 [kC779_0] 30000 (none) = true := asgqw (by decide +kernel)
theorem ks779_0 : aseg kS krf kB [kE562, kE567, kE568, kE569] (ksp []) kE779 [kC779_0] 30000 (some kC779_0) = true := asgqw (by decide +kernel)
theorem kok779 : aOK kS krf kB kE779 := aOK_of (kal1 kok562 (kal1 kok567 (kal1 kok568 (kal1 kok569 kal0)))) (kcl1 ks779_0 kcl0) ks779
/-- ColdShod$StrokePlan.addNext(LColdShod$Idea;I)V -/
def kE780 : aE := (83, 3, ([kvB 0 3, kvB 251 341], [(57, 250, .inl (0, .ofNat 0)), (52, 6, .inl (1, .ofNat 0))], 0, [kvR 52, some (.inr [20, 21, 22, 23, 24, 25, 26, 27]), kvN 250, none, none], []), ([], none), ([], [], none, ([], [])), kvW74)
def kC780_0 : aC := (([kvB 0 3, kvB 251 341, kvB 0 4, kvB 251 341], [(57, 250, .inl (0, .ofNat 0)), (52, 6, .inl (3, .ofNat 0))], 2, [kvR 52, some (.inr [20, 21, 22, 23, 24, 25, 26, 27]), kvN 250, kvI 2, none], []), ([], []), (4, [(-1, 2)]))
theorem ks780 : aseg kS krf kB [kE562, kE567, kE568, kE569] (ksp []) kE780 [kC780_0] 30000 (none) = true := asgqw (by decide +kernel)
theorem ks780_0 : aseg kS krf kB [kE562, kE567, kE568, kE569] (ksp []) kE780 [kC780_0] 30000 (some kC780_0) = true := asgqw (by decide +kernel)
theorem kok780 : aOK kS krf kB kE780 := aOK_of (kal1 kok562 (kal1 kok567 (kal1 kok568 (kal1 kok569 kal0)))) (kcl1 ks780_0 kcl0) ks780
/-- ColdShod$StrokePlan.addNext(LColdShod$Idea;I)V -/
def kE781 : aE := (83, 3, ([kvB 0 3, kvB 250 341], [(57, 249, .inl (0, .ofNat 0)), (52, 6, .inl (1, .ofNat 0))], 0, [kvR 52, some (.inr [20, 21, 22, 23, 24, 25, 26, 27]), kvN 249, none, none], []), ([], none), ([], [], none, ([], [])), kvW74)
def kC781_0 : aC := (([kvB 0 3, kvB 250 341, kvB 0 4, kvB 250 341], [(57, 249, .inl (0, .ofNat 0)), (52, 6, .inl (3, .ofNat 0))], 2, [kvR 52, some (.inr [20, 21, 22, 23, 24, 25, 26, 27]), kvN 249, kvI 2, none], []), ([], []), (4, [(-1, 2)]))
theorem ks781 : aseg kS krf kB [kE562, kE567, kE568, kE569] (ksp []) kE781 [kC781_0] 30000 (none) = true := asgqw (by decide +kernel)
theorem ks781_0 : aseg kS krf kB [kE562, kE567, kE568, kE569] (ksp []) kE781 [kC781_0] 30000 (some kC781_0) = true := asgqw (by decide +kernel)
theorem kok781 : aOK kS krf kB kE781 := aOK_of (kal1 kok562 (kal1 kok567 (kal1 kok568 (kal1 kok569 kal0)))) (kcl1 ks781_0 kcl0) ks781
/-- ColdShod$StrokePlan.addNext(LColdShod$Idea;I)V -/
def kE782 : aE := (83, 3, ([kvB 0 3, kvB 249 341], [(57, 248, .inl (0, .ofNat 0)), (52, 6, .inl (1, .ofNat 0))], 0, [kvR 52, some (.inr [20, 21, 22, 23, 24, 25, 26, 27]), kvN 248, none, none], []), ([], none), ([], [], none, ([], [])), kvW74)
def kC782_0 : aC := (([kvB 0 3, kvB 249 341, kvB 0 4, kvB 249 341], [(57, 248, .inl (0, .ofNat 0)), (52, 6, .inl (3, .ofNat 0))], 2, [kvR 52, some (.inr [20, 21, 22, 23, 24, 25, 26, 27]), kvN 248, kvI 2, none], []), ([], []), (4, [(-1, 2)]))
theorem ks782 : aseg kS krf kB [kE562, kE567, kE568, kE569] (ksp []) kE782 [kC782_0] 30000 (none) = true := asgqw (by decide +kernel)
theorem ks782_0 : aseg kS krf kB [kE562, kE567, kE568, kE569] (ksp []) kE782 [kC782_0] 30000 (some kC782_0) = true := asgqw (by decide +kernel)
theorem kok782 : aOK kS krf kB kE782 := aOK_of (kal1 kok562 (kal1 kok567 (kal1 kok568 (kal1 kok569 kal0)))) (kcl1 ks782_0 kcl0) ks782
/-- ColdShod$StrokePlan.addNext(LColdShod$Idea;I)V -/
def kE783 : aE := (83, 3, ([kvB 0 3, kvB 248 341], [(57, 247, .inl (0, .ofNat 0)), (52, 6, .inl (1, .ofNat 0))], 0, [kvR 52, some (.inr [20, 21, 22, 23, 24, 25, 26, 27]), kvN 247, none, none], []), ([], none), ([], [], none, ([], [])), kvW74)
def kC783_0 : aC := (([kvB 0 3, kvB 248 341, kvB 0 4, kvB 248 341], [(57, 247, .inl (0, .ofNat 0)), (52, 6, .inl (3, .ofNat 0))], 2, [kvR 52, some (.inr [20, 21, 22, 23, 24, 25, 26, 27]), kvN 247, kvI 2, none], []), ([], []), (4, [(-1, 2)]))
theorem ks783 : aseg kS krf kB [kE562, kE567, kE568, kE569] (ksp []) kE783 [kC783_0] 30000 (none) = true := asgqw (by decide +kernel)
theorem ks783_0 : aseg kS krf kB [kE562, kE567, kE568, kE569] (ksp []) kE783 [kC783_0] 30000 (some kC783_0) = true := asgqw (by decide +kernel)
theorem kok783 : aOK kS krf kB kE783 := aOK_of (kal1 kok562 (kal1 kok567 (kal1 kok568 (kal1 kok569 kal0)))) (kcl1 ks783_0 kcl0) ks783
/-- ColdShod$StrokePlan.addNext(LColdShod$Idea;I)V -/
def kE784 : aE := (83, 3, ([kvB 0 3, kvB 247 341], [(57, 246, .inl (0, .ofNat 0)), (52, 6, .inl (1, .ofNat 0))], 0, [kvR 52, some (.inr [20, 21, 22, 23, 24, 25, 26, 27]), kvN 246, none, none], []), ([], none), ([], [], none, ([], [])), kvW74)
def kC784_0 : aC := (([kvB 0 3, kvB 247 341, kvB 0 4, kvB 247 341], [(57, 246, .inl (0, .ofNat 0)), (52, 6, .inl (3, .ofNat 0))], 2, [kvR 52, some (.inr [20, 21, 22, 23, 24, 25, 26, 27]), kvN 246, kvI 2, none], []), ([], []), (4, [(-1, 2)]))
theorem ks784 : aseg kS krf kB [kE562, kE567, kE568, kE569] (ksp []) kE784 [kC784_0] 30000 (none) = true := asgqw (by decide +kernel)
theorem ks784_0 : aseg kS krf kB [kE562, kE567, kE568, kE569] (ksp []) kE784 [kC784_0] 30000 (some kC784_0) = true := asgqw (by decide +kernel)
theorem kok784 : aOK kS krf kB kE784 := aOK_of (kal1 kok562 (kal1 kok567 (kal1 kok568 (kal1 kok569 kal0)))) (kcl1 ks784_0 kcl0) ks784
/-- ColdShod$StrokePlan.addNext(LColdShod$Idea;I)V -/
def kE785 : aE := (83, 3, ([kvB 0 3, kvB 246 341], [(57, 245, .inl (0, .ofNat 0)), (52, 6, .inl (1, .ofNat 0))], 0, [kvR 52, some (.inr [20, 21, 22, 23, 24, 25, 26, 27]), kvN 245, none, none], []), ([], none), ([], [], none, ([], [])), kvW74)
def kC785_0 : aC := (([kvB 0 3, kvB 246 341, kvB 0 4, kvB 246 341], [(57, 245, .inl (0, .ofNat 0)), (52, 6, .inl (3, .ofNat 0))], 2, [kvR 52, some (.inr [20, 21, 22, 23, 24, 25, 26, 27]), kvN 245, kvI 2, none], []), ([], []), (4, [(-1, 2)]))
theorem ks785 : aseg kS krf kB [kE562, kE567, kE568, kE569] (ksp []) kE785 [kC785_0] 30000 (none) = true := asgqw (by decide +kernel)
theorem ks785_0 : aseg kS krf kB [kE562, kE567, kE568, kE569] (ksp []) kE785 [kC785_0] 30000 (some kC785_0) = true := asgqw (by decide +kernel)
theorem kok785 : aOK kS krf kB kE785 := aOK_of (kal1 kok562 (kal1 kok567 (kal1 kok568 (kal1 kok569 kal0)))) (kcl1 ks785_0 kcl0) ks785
/-- ColdShod$StrokePlan.addNext(LColdShod$Idea;I)V -/
def kE786 : aE := (83, 3, ([kvB 0 3, kvB 245 341], [(57, 244, .inl (0, .ofNat 0)), (52, 6, .inl (1, .ofNat 0))], 0, [kvR 52, some (.inr [20, 21, 22, 23, 24, 25, 26, 27]), kvN 244, none, none], []), ([], none), ([], [], none, ([], [])), kvW74)
def kC786_0 : aC := (([kvB 0 3, kvB 245 341, kvB 0 4, kvB 245 341], [(57, 244, .inl (0, .ofNat 0)), (52, 6, .inl (3, .ofNat 0))], 2, [kvR 52, some (.inr [20, 21, 22, 23, 24, 25, 26, 27]), kvN 244, kvI 2, none], []), ([], []), (4, [(-1, 2)]))
theorem ks786 : aseg kS krf kB [kE562, kE567, kE568, kE569] (ksp []) kE786 [kC786_0] 30000 (none) = true := asgqw (by decide +kernel)
theorem ks786_0 : aseg kS krf kB [kE562, kE567, kE568, kE569] (ksp []) kE786 [kC786_0] 30000 (some kC786_0) = true := asgqw (by decide +kernel)
theorem kok786 : aOK kS krf kB kE786 := aOK_of (kal1 kok562 (kal1 kok567 (kal1 kok568 (kal1 kok569 kal0)))) (kcl1 ks786_0 kcl0) ks786
/-- ColdShod$StrokePlan.addNext(LColdShod$Idea;I)V -/
def kE787 : aE := (83, 3, ([kvB 0 3, kvB 244 341], [(57, 243, .inl (0, .ofNat 0)), (52, 6, .inl (1, .ofNat 0))], 0, [kvR 52, some (.inr [20, 21, 22, 23, 24, 25, 26, 27]), kvN 243, none, none], []), ([], none), ([], [], none, ([], [])), kvW74)
def kC787_0 : aC := (([kvB 0 3, kvB 244 341, kvB 0 4, kvB 244 341], [(57, 243, .inl (0, .ofNat 0)), (52, 6, .inl (3, .ofNat 0))], 2, [kvR 52, some (.inr [20, 21, 22, 23, 24, 25, 26, 27]), kvN 243, kvI 2, none], []), ([], []), (4, [(-1, 2)]))
theorem ks787 : aseg kS krf kB [kE562, kE567, kE568, kE569] (ksp []) kE787 [kC787_0] 30000 (none) = true := asgqw (by decide +kernel)
theorem ks787_0 : aseg kS krf kB [kE562, kE567, kE568, kE569] (ksp []) kE787 [kC787_0] 30000 (some kC787_0) = true := asgqw (by decide +kernel)
theorem kok787 : aOK kS krf kB kE787 := aOK_of (kal1 kok562 (kal1 kok567 (kal1 kok568 (kal1 kok569 kal0)))) (kcl1 ks787_0 kcl0) ks787
/-- ColdShod$StrokePlan.addNext(LColdShod$Idea;I)V -/
def kE788 : aE := (83, 3, ([kvB 0 3, kvB 243 341], [(57, 242, .inl (0, .ofNat 0)), (52, 6, .inl (1, .ofNat 0))], 0, [kvR 52, some (.inr [20, 21, 22, 23, 24, 25, 26, 27]), kvN 242, none, none], []), ([], none), ([], [], none, ([], [])), kvW74)
def kC788_0 : aC := (([kvB 0 3, kvB 243 341, kvB 0 4, kvB 243 341], [(57, 242, .inl (0, .ofNat 0)), (52, 6, .inl (3, .ofNat 0))], 2, [kvR 52, some (.inr [20, 21, 22, 23, 24, 25, 26, 27]), kvN 242, kvI 2, none], []), ([], []), (4, [(-1, 2)]))
theorem ks788 : aseg kS krf kB [kE562, kE567, kE568, kE569] (ksp []) kE788 [kC788_0] 30000 (none) = true := asgqw (by decide +kernel)
theorem ks788_0 : aseg kS krf kB [kE562, kE567, kE568, kE569] (ksp []) kE788 [kC788_0] 30000 (some kC788_0) = true := asgqw (by decide +kernel)
theorem kok788 : aOK kS krf kB kE788 := aOK_of (kal1 kok562 (kal1 kok567 (kal1 kok568 (kal1 kok569 kal0)))) (kcl1 ks788_0 kcl0) ks788
/-- ColdShod$StrokePlan.addNext(LColdShod$Idea;I)V -/
def kE789 : aE := (83, 3, ([kvB 0 3, kvB 242 341], [(57, 241, .inl (0, .ofNat 0)), (52, 6, .inl (1, .ofNat 0))], 0, [kvR 52, some (.inr [20, 21, 22, 23, 24, 25, 26, 27]), kvN 241, none, none], []), ([], none), ([], [], none, ([], [])), kvW74)
def kC789_0 : aC := (([kvB 0 3, kvB 242 341, kvB 0 4, kvB 242 341], [(57, 241, .inl (0, .ofNat 0)), (52, 6, .inl (3, .ofNat 0))], 2, [kvR 52, some (.inr [20, 21, 22, 23, 24, 25, 26, 27]), kvN 241, kvI 2, none], []), ([], []), (4, [(-1, 2)]))
theorem ks789 : aseg kS krf kB [kE562, kE567, kE568, kE569] (ksp []) kE789 [kC789_0] 30000 (none) = true := asgqw (by decide +kernel)
theorem ks789_0 : aseg kS krf kB [kE562, kE567, kE568, kE569] (ksp []) kE789 [kC789_0] 30000 (some kC789_0) = true := asgqw (by decide +kernel)
theorem kok789 : aOK kS krf kB kE789 := aOK_of (kal1 kok562 (kal1 kok567 (kal1 kok568 (kal1 kok569 kal0)))) (kcl1 ks789_0 kcl0) ks789
/-- ColdShod$StrokePlan.addNext(LColdShod$Idea;I)V -/
def kE790 : aE := (83, 3, ([kvB 0 3, kvB 241 341], [(57, 240, .inl (0, .ofNat 0)), (52, 6, .inl (1, .ofNat 0))], 0, [kvR 52, some (.inr [20, 21, 22, 23, 24, 25, 26, 27]), kvN 240, none, none], []), ([], none), ([], [], none, ([], [])), kvW74)
def kC790_0 : aC := (([kvB 0 3, kvB 241 341, kvB 0 4, kvB 241 341], [(57, 240, .inl (0, .ofNat 0)), (52, 6, .inl (3, .ofNat 0))], 2, [kvR 52, some (.inr [20, 21, 22, 23, 24, 25, 26, 27]), kvN 240, kvI 2, none], []), ([], []), (4, [(-1, 2)]))
theorem ks790 : aseg kS krf kB [kE562, kE567, kE568, kE569] (ksp []) kE790 [kC790_0] 30000 (none) = true := asgqw (by decide +kernel)
theorem ks790_0 : aseg kS krf kB [kE562, kE567, kE568, kE569] (ksp []) kE790 [kC790_0] 30000 (some kC790_0) = true := asgqw (by decide +kernel)
theorem kok790 : aOK kS krf kB kE790 := aOK_of (kal1 kok562 (kal1 kok567 (kal1 kok568 (kal1 kok569 kal0)))) (kcl1 ks790_0 kcl0) ks790
/-- ColdShod$StrokePlan.addNext(LColdShod$Idea;I)V -/
def kE791 : aE := (83, 3, ([kvB 0 3, kvB 240 341], [(57, 239, .inl (0, .ofNat 0)), (52, 6, .inl (1, .ofNat 0))], 0, [kvR 52, some (.inr [20, 21, 22, 23, 24, 25, 26, 27]), kvN 239, none, none], []), ([], none), ([], [], none, ([], [])), kvW74)
def kC791_0 : aC := (([kvB 0 3, kvB 240 341, kvB 0 4, kvB 240 341], [(57, 239, .inl (0, .ofNat 0)), (52, 6, .inl (3, .ofNat 0))], 2, [kvR 52, some (.inr [20, 21, 22, 23, 24, 25, 26, 27]), kvN 239, kvI 2, none], []), ([], []), (4, [(-1, 2)]))
theorem ks791 : aseg kS krf kB [kE562, kE567, kE568, kE569] (ksp []) kE791 [kC791_0] 30000 (none) = true := asgqw (by decide +kernel)
theorem ks791_0 : aseg kS krf kB [kE562, kE567, kE568, kE569] (ksp []) kE791 [kC791_0] 30000 (some kC791_0) = true := asgqw (by decide +kernel)
theorem kok791 : aOK kS krf kB kE791 := aOK_of (kal1 kok562 (kal1 kok567 (kal1 kok568 (kal1 kok569 kal0)))) (kcl1 ks791_0 kcl0) ks791
/-- ColdShod$StrokePlan.addNext(LColdShod$Idea;I)V -/
def kE792 : aE := (83, 3, ([kvB 0 3, kvB 239 341], [(57, 238, .inl (0, .ofNat 0)), (52, 6, .inl (1, .ofNat 0))], 0, [kvR 52, some (.inr [20, 21, 22, 23, 24, 25, 26, 27]), kvN 238, none, none], []), ([], none), ([], [], none, ([], [])), kvW74)
def kC792_0 : aC := (([kvB 0 3, kvB 239 341, kvB 0 4, kvB 239 341], [(57, 238, .inl (0, .ofNat 0)), (52, 6, .inl (3, .ofNat 0))], 2, [kvR 52, some (.inr [20, 21, 22, 23, 24, 25, 26, 27]), kvN 238, kvI 2, none], []), ([], []), (4, [(-1, 2)]))
theorem ks792 : aseg kS krf kB [kE562, kE567, kE568, kE569] (ksp []) kE792 [kC792_0] 30000 (none) = true := asgqw (by decide +kernel)
theorem ks792_0 : aseg kS krf kB [kE562, kE567, kE568, kE569] (ksp []) kE792 [kC792_0] 30000 (some kC792_0) = true := asgqw (by decide +kernel)
theorem kok792 : aOK kS krf kB kE792 := aOK_of (kal1 kok562 (kal1 kok567 (kal1 kok568 (kal1 kok569 kal0)))) (kcl1 ks792_0 kcl0) ks792
/-- ColdShod$StrokePlan.addNext(LColdShod$Idea;I)V -/
def kE793 : aE := (83, 3, ([kvB 0 3, kvB 238 341], [(57, 237, .inl (0, .ofNat 0)), (52, 6, .inl (1, .ofNat 0))], 0, [kvR 52, some (.inr [20, 21, 22, 23, 24, 25, 26, 27]), kvN 237, none, none], []), ([], none), ([], [], none, ([], [])), kvW74)
def kC793_0 : aC := (([kvB 0 3, kvB 238 341, kvB 0 4, kvB 238 341], [(57, 237, .inl (0, .ofNat 0)), (52, 6, .inl (3, .ofNat 0))], 2, [kvR 52, some (.inr [20, 21, 22, 23, 24, 25, 26, 27]), kvN 237, kvI 2, none], []), ([], []), (4, [(-1, 2)]))
theorem ks793 : aseg kS krf kB [kE562, kE567, kE568, kE569] (ksp []) kE793 [kC793_0] 30000 (none) = true := asgqw (by decide +kernel)
theorem ks793_0 : aseg kS krf kB [kE562, kE567, kE568, kE569] (ksp []) kE793 [kC793_0] 30000 (some kC793_0) = true := asgqw (by decide +kernel)
theorem kok793 : aOK kS krf kB kE793 := aOK_of (kal1 kok562 (kal1 kok567 (kal1 kok568 (kal1 kok569 kal0)))) (kcl1 ks793_0 kcl0) ks793
/-- ColdShod$StrokePlan.addNext(LColdShod$Idea;I)V -/
def kE794 : aE := (83, 3, ([kvB 0 3, kvB 237 341], [(57, 236, .inl (0, .ofNat 0)), (52, 6, .inl (1, .ofNat 0))], 0, [kvR 52, some (.inr [20, 21, 22, 23, 24, 25, 26, 27]), kvN 236, none, none], []), ([], none), ([], [], none, ([], [])), kvW74)
def kC794_0 : aC := (([kvB 0 3, kvB 237 341, kvB 0 4, kvB 237 341], [(57, 236, .inl (0, .ofNat 0)), (52, 6, .inl (3, .ofNat 0))], 2, [kvR 52, some (.inr [20, 21, 22, 23, 24, 25, 26, 27]), kvN 236, kvI 2, none], []), ([], []), (4, [(-1, 2)]))
theorem ks794 : aseg kS krf kB [kE562, kE567, kE568, kE569] (ksp []) kE794 [kC794_0] 30000 (none) = true := asgqw (by decide +kernel)
theorem ks794_0 : aseg kS krf kB [kE562, kE567, kE568, kE569] (ksp []) kE794 [kC794_0] 30000 (some kC794_0) = true := asgqw (by decide +kernel)
theorem kok794 : aOK kS krf kB kE794 := aOK_of (kal1 kok562 (kal1 kok567 (kal1 kok568 (kal1 kok569 kal0)))) (kcl1 ks794_0 kcl0) ks794
/-- ColdShod$StrokePlan.addNext(LColdShod$Idea;I)V -/
def kE795 : aE := (83, 3, ([kvB 0 3, kvB 236 341], [(57, 235, .inl (0, .ofNat 0)), (52, 6, .inl (1, .ofNat 0))], 0, [kvR 52, some (.inr [20, 21, 22, 23, 24, 25, 26, 27]), kvN 235, none, none], []), ([], none), ([], [], none, ([], [])), kvW74)
def kC795_0 : aC := (([kvB 0 3, kvB 236 341, kvB 0 4, kvB 236 341], [(57, 235, .inl (0, .ofNat 0)), (52, 6, .inl (3, .ofNat 0))], 2, [kvR 52, some (.inr [20, 21, 22, 23, 24, 25, 26, 27]), kvN 235, kvI 2, none], []), ([], []), (4, [(-1, 2)]))
theorem ks795 : aseg kS krf kB [kE562, kE567, kE568, kE569] (ksp []) kE795 [kC795_0] 30000 (none) = true := asgqw (by decide +kernel)
theorem ks795_0 : aseg kS krf kB [kE562, kE567, kE568, kE569] (ksp []) kE795 [kC795_0] 30000 (some kC795_0) = true := asgqw (by decide +kernel)
theorem kok795 : aOK kS krf kB kE795 := aOK_of (kal1 kok562 (kal1 kok567 (kal1 kok568 (kal1 kok569 kal0)))) (kcl1 ks795_0 kcl0) ks795
/-- ColdShod$StrokePlan.addNext(LColdShod$Idea;I)V -/
def kE796 : aE := (83, 3, ([kvB 0 3, kvB 235 341], [(57, 234, .inl (0, .ofNat 0)), (52, 6, .inl (1, .ofNat 0))], 0, [kvR 52, some (.inr [20, 21, 22, 23, 24, 25, 26, 27]), kvN 234, none, none], []), ([], none), ([], [], none, ([], [])), kvW74)
def kC796_0 : aC := (([kvB 0 3, kvB 235 341, kvB 0 4, kvB 235 341], [(57, 234, .inl (0, .ofNat 0)), (52, 6, .inl (3, .ofNat 0))], 2, [kvR 52, some (.inr [20, 21, 22, 23, 24, 25, 26, 27]), kvN 234, kvI 2, none], []), ([], []), (4, [(-1, 2)]))
theorem ks796 : aseg kS krf kB [kE562, kE567, kE568, kE569] (ksp []) kE796 [kC796_0] 30000 (none) = true := asgqw (by decide +kernel)
theorem ks796_0 : aseg kS krf kB [kE562, kE567, kE568, kE569] (ksp []) kE796 [kC796_0] 30000 (some kC796_0) = true := asgqw (by decide +kernel)
theorem kok796 : aOK kS krf kB kE796 := aOK_of (kal1 kok562 (kal1 kok567 (kal1 kok568 (kal1 kok569 kal0)))) (kcl1 ks796_0 kcl0) ks796
/-- ColdShod$StrokePlan.addNext(LColdShod$Idea;I)V -/
def kE797 : aE := (83, 3, ([kvB 0 3, kvB 234 341], [(57, 233, .inl (0, .ofNat 0)), (52, 6, .inl (1, .ofNat 0))], 0, [kvR 52, some (.inr [20, 21, 22, 23, 24, 25, 26, 27]), kvN 233, none, none], []), ([], none), ([], [], none, ([], [])), kvW74)
def kC797_0 : aC := (([kvB 0 3, kvB 234 341, kvB 0 4, kvB 234 341], [(57, 233, .inl (0, .ofNat 0)), (52, 6, .inl (3, .ofNat 0))], 2, [kvR 52, some (.inr [20, 21, 22, 23, 24, 25, 26, 27]), kvN 233, kvI 2, none], []), ([], []), (4, [(-1, 2)]))
theorem ks797 : aseg kS krf kB [kE562, kE567, kE568, kE569] (ksp []) kE797 [kC797_0] 30000 (none) = true := asgqw (by decide +kernel)
theorem ks797_0 : aseg kS krf kB [kE562, kE567, kE568, kE569] (ksp []) kE797 [kC797_0] 30000 (some kC797_0) = true := asgqw (by decide +kernel)
theorem kok797 : aOK kS krf kB kE797 := aOK_of (kal1 kok562 (kal1 kok567 (kal1 kok568 (kal1 kok569 kal0)))) (kcl1 ks797_0 kcl0) ks797
/-- ColdShod$StrokePlan.addNext(LColdShod$Idea;I)V -/
def kE798 : aE := (83, 3, ([kvB 0 3, kvB 233 341], [(57, 232, .inl (0, .ofNat 0)), (52, 6, .inl (1, .ofNat 0))], 0, [kvR 52, some (.inr [20, 21, 22, 23, 24, 25, 26, 27]), kvN 232, none, none], []), ([], none), ([], [], none, ([], [])), kvW74)
def kC798_0 : aC := (([kvB 0 3, kvB 233 341, kvB 0 4, kvB 233 341], [(57, 232, .inl (0, .ofNat 0)), (52, 6, .inl (3, .ofNat 0))], 2, [kvR 52, some (.inr [20, 21, 22, 23, 24, 25, 26, 27]), kvN 232, kvI 2, none], []), ([], []), (4, [(-1, 2)]))
theorem ks798 : aseg kS krf kB [kE562, kE567, kE568, kE569] (ksp []) kE798 [kC798_0] 30000 (none) = true := asgqw (by decide +kernel)
theorem ks798_0 : aseg kS krf kB [kE562, kE567, kE568, kE569] (ksp []) kE798 [kC798_0] 30000 (some kC798_0) = true := asgqw (by decide +kernel)
theorem kok798 : aOK kS krf kB kE798 := aOK_of (kal1 kok562 (kal1 kok567 (kal1 kok568 (kal1 kok569 kal0)))) (kcl1 ks798_0 kcl0) ks798
/-- ColdShod$StrokePlan.addNext(LColdShod$Idea;I)V -/
def kE799 : aE := (83, 3, ([kvB 0 3, kvB 232 341], [(57, 231, .inl (0, .ofNat 0)), (52, 6, .inl (1, .ofNat 0))], 0, [kvR 52, some (.inr [20, 21, 22, 23, 24, 25, 26, 27]), kvN 231, none, none], []), ([], none), ([], [], none, ([], [])), kvW74)
def kC799_0 : aC := (([kvB 0 3, kvB 232 341, kvB 0 4, kvB 232 341], [(57, 231, .inl (0, .ofNat 0)), (52, 6, .inl (3, .ofNat 0))], 2, [kvR 52, some (.inr [20, 21, 22, 23, 24, 25, 26, 27]), kvN 231, kvI 2, none], []), ([], []), (4, [(-1, 2)]))
theorem ks799 : aseg kS krf kB [kE562, kE567, kE568, kE569] (ksp []) kE799 [kC799_0] 30000 (none) = true := asgqw (by decide +kernel)
theorem ks799_0 : aseg kS krf kB [kE562, kE567, kE568, kE569] (ksp []) kE799 [kC799_0] 30000 (some kC799_0) = true := asgqw (by decide +kernel)
theorem kok799 : aOK kS krf kB kE799 := aOK_of (kal1 kok562 (kal1 kok567 (kal1 kok568 (kal1 kok569 kal0)))) (kcl1 ks799_0 kcl0) ks799
/-- ColdShod$StrokePlan.addNext(LColdShod$Idea;I)V -/
def kE800 : aE := (83, 3, ([kvB 0 3, kvB 231 341], [(57, 230, .inl (0, .ofNat 0)), (52, 6, .inl (1, .ofNat 0))], 0, [kvR 52, some (.inr [20, 21, 22, 23, 24, 25, 26, 27]), kvN 230, none, none], []), ([], none), ([], [], none, ([], [])), kvW74)
def kC800_0 : aC := (([kvB 0 3, kvB 231 341, kvB 0 4, kvB 231 341], [(57, 230, .inl (0, .ofNat 0)), (52, 6, .inl (3, .ofNat 0))], 2, [kvR 52, some (.inr [20, 21, 22, 23, 24, 25, 26, 27]), kvN 230, kvI 2, none], []), ([], []), (4, [(-1, 2)]))
theorem ks800 : aseg kS krf kB [kE562, kE567, kE568, kE569] (ksp []) kE800 [kC800_0] 30000 (none) = true := asgqw (by decide +kernel)
theorem ks800_0 : aseg kS krf kB [kE562, kE567, kE568, kE569] (ksp []) kE800 [kC800_0] 30000 (some kC800_0) = true := asgqw (by decide +kernel)
theorem kok800 : aOK kS krf kB kE800 := aOK_of (kal1 kok562 (kal1 kok567 (kal1 kok568 (kal1 kok569 kal0)))) (kcl1 ks800_0 kcl0) ks800
/-- ColdShod$StrokePlan.addNext(LColdShod$Idea;I)V -/
def kE801 : aE := (83, 3, ([kvB 0 3, kvB 230 341], [(57, 229, .inl (0, .ofNat 0)), (52, 6, .inl (1, .ofNat 0))], 0, [kvR 52, some (.inr [20, 21, 22, 23, 24, 25, 26, 27]), kvN 229, none, none], []), ([], none), ([], [], none, ([], [])), kvW74)
def kC801_0 : aC := (([kvB 0 3, kvB 230 341, kvB 0 4, kvB 230 341], [(57, 229, .inl (0, .ofNat 0)), (52, 6, .inl (3, .ofNat 0))], 2, [kvR 52, some (.inr [20, 21, 22, 23, 24, 25, 26, 27]), kvN 229, kvI 2, none], []), ([], []), (4, [(-1, 2)]))
theorem ks801 : aseg kS krf kB [kE562, kE567, kE568, kE569] (ksp []) kE801 [kC801_0] 30000 (none) = true := asgqw (by decide +kernel)
theorem ks801_0 : aseg kS krf kB [kE562, kE567, kE568, kE569] (ksp []) kE801 [kC801_0] 30000 (some kC801_0) = true := asgqw (by decide +kernel)
theorem kok801 : aOK kS krf kB kE801 := aOK_of (kal1 kok562 (kal1 kok567 (kal1 kok568 (kal1 kok569 kal0)))) (kcl1 ks801_0 kcl0) ks801
/-- ColdShod$StrokePlan.addNext(LColdShod$Idea;I)V -/
def kE802 : aE := (83, 3, ([kvB 0 3, kvB 229 341], [(57, 228, .inl (0, .ofNat 0)), (52, 6, .inl (1, .ofNat 0))], 0, [kvR 52, some (.inr [20, 21, 22, 23, 24, 25, 26, 27]), kvN 228, none, none], []), ([], none), ([], [], none, ([], [])), kvW74)
def kC802_0 : aC := (([kvB 0 3, kvB 229 341, kvB 0 4, kvB 229 341], [(57, 228, .inl (0, .ofNat 0)), (52, 6, .inl (3, .ofNat 0))], 2, [kvR 52, some (.inr [20, 21, 22, 23, 24, 25, 26, 27]), kvN 228, kvI 2, none], []), ([], []), (4, [(-1, 2)]))
theorem ks802 : aseg kS krf kB [kE562, kE567, kE568, kE569] (ksp []) kE802 [kC802_0] 30000 (none) = true := asgqw (by decide +kernel)
theorem ks802_0 : aseg kS krf kB [kE562, kE567, kE568, kE569] (ksp []) kE802 [kC802_0] 30000 (some kC802_0) = true := asgqw (by decide +kernel)
theorem kok802 : aOK kS krf kB kE802 := aOK_of (kal1 kok562 (kal1 kok567 (kal1 kok568 (kal1 kok569 kal0)))) (kcl1 ks802_0 kcl0) ks802
/-- ColdShod$StrokePlan.addNext(LColdShod$Idea;I)V -/
def kE803 : aE := (83, 3, ([kvB 0 3, kvB 228 341], [(57, 227, .inl (0, .ofNat 0)), (52, 6, .inl (1, .ofNat 0))], 0, [kvR 52, some (.inr [20, 21, 22, 23, 24, 25, 26, 27]), kvN 227, none, none], []), ([], none), ([], [], none, ([], [])), kvW74)
def kC803_0 : aC := (([kvB 0 3, kvB 228 341, kvB 0 4, kvB 228 341], [(57, 227, .inl (0, .ofNat 0)), (52, 6, .inl (3, .ofNat 0))], 2, [kvR 52, some (.inr [20, 21, 22, 23, 24, 25, 26, 27]), kvN 227, kvI 2, none], []), ([], []), (4, [(-1, 2)]))
theorem ks803 : aseg kS krf kB [kE562, kE567, kE568, kE569] (ksp []) kE803 [kC803_0] 30000 (none) = true := asgqw (by decide +kernel)
theorem ks803_0 : aseg kS krf kB [kE562, kE567, kE568, kE569] (ksp []) kE803 [kC803_0] 30000 (some kC803_0) = true := asgqw (by decide +kernel)
theorem kok803 : aOK kS krf kB kE803 := aOK_of (kal1 kok562 (kal1 kok567 (kal1 kok568 (kal1 kok569 kal0)))) (kcl1 ks803_0 kcl0) ks803
/-- ColdShod$StrokePlan.addNext(LColdShod$Idea;I)V -/
def kE804 : aE := (83, 3, ([kvB 0 3, kvB 227 341], [(57, 226, .inl (0, .ofNat 0)), (52, 6, .inl (1, .ofNat 0))], 0, [kvR 52, some (.inr [20, 21, 22, 23, 24, 25, 26, 27]), kvN 226, none, none], []), ([], none), ([], [], none, ([], [])), kvW74)
def kC804_0 : aC := (([kvB 0 3, kvB 227 341, kvB 0 4, kvB 227 341], [(57, 226, .inl (0, .ofNat 0)), (52, 6, .inl (3, .ofNat 0))], 2, [kvR 52, some (.inr [20, 21, 22, 23, 24, 25, 26, 27]), kvN 226, kvI 2, none], []), ([], []), (4, [(-1, 2)]))
theorem ks804 : aseg kS krf kB [kE562, kE567, kE568, kE569] (ksp []) kE804 [kC804_0] 30000 (none) = true := asgqw (by decide +kernel)
theorem ks804_0 : aseg kS krf kB [kE562, kE567, kE568, kE569] (ksp []) kE804 [kC804_0] 30000 (some kC804_0) = true := asgqw (by decide +kernel)
theorem kok804 : aOK kS krf kB kE804 := aOK_of (kal1 kok562 (kal1 kok567 (kal1 kok568 (kal1 kok569 kal0)))) (kcl1 ks804_0 kcl0) ks804
/-- ColdShod$StrokePlan.addNext(LColdShod$Idea;I)V -/
def kE805 : aE := (83, 3, ([kvB 0 3, kvB 226 341], [(57, 225, .inl (0, .ofNat 0)), (52, 6, .inl (1, .ofNat 0))], 0, [kvR 52, some (.inr [20, 21, 22, 23, 24, 25, 26, 27]), kvN 225, none, none], []), ([], none), ([], [], none, ([], [])), kvW74)
def kC805_0 : aC := (([kvB 0 3, kvB 226 341, kvB 0 4, kvB 226 341], [(57, 225, .inl (0, .ofNat 0)), (52, 6, .inl (3, .ofNat 0))], 2, [kvR 52, some (.inr [20, 21, 22, 23, 24, 25, 26, 27]), kvN 225, kvI 2, none], []), ([], []), (4, [(-1, 2)]))
theorem ks805 : aseg kS krf kB [kE562, kE567, kE568, kE569] (ksp []) kE805 [kC805_0] 30000 (none) = true := asgqw (by decide +kernel)
theorem ks805_0 : aseg kS krf kB [kE562, kE567, kE568, kE569] (ksp []) kE805 [kC805_0] 30000 (some kC805_0) = true := asgqw (by decide +kernel)
theorem kok805 : aOK kS krf kB kE805 := aOK_of (kal1 kok562 (kal1 kok567 (kal1 kok568 (kal1 kok569 kal0)))) (kcl1 ks805_0 kcl0) ks805
/-- ColdShod$StrokePlan.addNext(LColdShod$Idea;I)V -/
def kE806 : aE := (83, 3, ([kvB 0 3, kvB 225 341], [(57, 224, .inl (0, .ofNat 0)), (52, 6, .inl (1, .ofNat 0))], 0, [kvR 52, some (.inr [20, 21, 22, 23, 24, 25, 26, 27]), kvN 224, none, none], []), ([], none), ([], [], none, ([], [])), kvW74)
def kC806_0 : aC := (([kvB 0 3, kvB 225 341, kvB 0 4, kvB 225 341], [(57, 224, .inl (0, .ofNat 0)), (52, 6, .inl (3, .ofNat 0))], 2, [kvR 52, some (.inr [20, 21, 22, 23, 24, 25, 26, 27]), kvN 224, kvI 2, none], []), ([], []), (4, [(-1, 2)]))
theorem ks806 : aseg kS krf kB [kE562, kE567, kE568, kE569] (ksp []) kE806 [kC806_0] 30000 (none) = true := asgqw (by decide +kernel)
theorem ks806_0 : aseg kS krf kB [kE562, kE567, kE568, kE569] (ksp []) kE806 [kC806_0] 30000 (some kC806_0) = true := asgqw (by decide +kernel)
theorem kok806 : aOK kS krf kB kE806 := aOK_of (kal1 kok562 (kal1 kok567 (kal1 kok568 (kal1 kok569 kal0)))) (kcl1 ks806_0 kcl0) ks806
/-- ColdShod$StrokePlan.addNext(LColdShod$Idea;I)V -/
def kE807 : aE := (83, 3, ([kvB 0 3, kvB 224 341], [(57, 223, .inl (0, .ofNat 0)), (52, 6, .inl (1, .ofNat 0))], 0, [kvR 52, some (.inr [20, 21, 22, 23, 24, 25, 26, 27]), kvN 223, none, none], []), ([], none), ([], [], none, ([], [])), kvW74)
def kC807_0 : aC := (([kvB 0 3, kvB 224 341, kvB 0 4, kvB 224 341], [(57, 223, .inl (0, .ofNat 0)), (52, 6, .inl (3, .ofNat 0))], 2, [kvR 52, some (.inr [20, 21, 22, 23, 24, 25, 26, 27]), kvN 223, kvI 2, none], []), ([], []), (4, [(-1, 2)]))
theorem ks807 : aseg kS krf kB [kE562, kE567, kE568, kE569] (ksp []) kE807 [kC807_0] 30000 (none) = true := asgqw (by decide +kernel)
theorem ks807_0 : aseg kS krf kB [kE562, kE567, kE568, kE569] (ksp []) kE807 [kC807_0] 30000 (some kC807_0) = true := asgqw (by decide +kernel)
theorem kok807 : aOK kS krf kB kE807 := aOK_of (kal1 kok562 (kal1 kok567 (kal1 kok568 (kal1 kok569 kal0)))) (kcl1 ks807_0 kcl0) ks807
/-- ColdShod$StrokePlan.addNext(LColdShod$Idea;I)V -/
def kE808 : aE := (83, 3, ([kvB 0 3, kvB 223 341], [(57, 222, .inl (0, .ofNat 0)), (52, 6, .inl (1, .ofNat 0))], 0, [kvR 52, some (.inr [20, 21, 22, 23, 24, 25, 26, 27]), kvN 222, none, none], []), ([], none), ([], [], none, ([], [])), kvW74)
def kC808_0 : aC := (([kvB 0 3, kvB 223 341, kvB 0 4, kvB 223 341], [(57, 222, .inl (0, .ofNat 0)), (52, 6, .inl (3, .ofNat 0))], 2, [kvR 52, some (.inr [20, 21, 22, 23, 24, 25, 26, 27]), kvN 222, kvI 2, none], []), ([], []), (4, [(-1, 2)]))
theorem ks808 : aseg kS krf kB [kE562, kE567, kE568, kE569] (ksp []) kE808 [kC808_0] 30000 (none) = true := asgqw (by decide +kernel)
theorem ks808_0 : aseg kS krf kB [kE562, kE567, kE568, kE569] (ksp []) kE808 [kC808_0] 30000 (some kC808_0) = true := asgqw (by decide +kernel)
theorem kok808 : aOK kS krf kB kE808 := aOK_of (kal1 kok562 (kal1 kok567 (kal1 kok568 (kal1 kok569 kal0)))) (kcl1 ks808_0 kcl0) ks808
/-- ColdShod$StrokePlan.addNext(LColdShod$Idea;I)V -/
def kE809 : aE := (83, 3, ([kvB 0 3, kvB 222 341], [(57, 221, .inl (0, .ofNat 0)), (52, 6, .inl (1, .ofNat 0))], 0, [kvR 52, some (.inr [20, 21, 22, 23, 24, 25, 26, 27]), kvN 221, none, none], []), ([], none), ([], [], none, ([], [])), kvW74)
def kC809_0 : aC := (([kvB 0 3, kvB 222 341, kvB 0 4, kvB 222 341], [(57, 221, .inl (0, .ofNat 0)), (52, 6, .inl (3, .ofNat 0))], 2, [kvR 52, some (.inr [20, 21, 22, 23, 24, 25, 26, 27]), kvN 221, kvI 2, none], []), ([], []), (4, [(-1, 2)]))
theorem ks809 : aseg kS krf kB [kE562, kE567, kE568, kE569] (ksp []) kE809 [kC809_0] 30000 (none) = true := asgqw (by decide +kernel)
theorem ks809_0 : aseg kS krf kB [kE562, kE567, kE568, kE569] (ksp []) kE809 [kC809_0] 30000 (some kC809_0) = true := asgqw (by decide +kernel)
theorem kok809 : aOK kS krf kB kE809 := aOK_of (kal1 kok562 (kal1 kok567 (kal1 kok568 (kal1 kok569 kal0)))) (kcl1 ks809_0 kcl0) ks809
/-- ColdShod$StrokePlan.addNext(LColdShod$Idea;I)V -/
def kE810 : aE := (83, 3, ([kvB 0 3, kvB 221 341], [(57, 220, .inl (0, .ofNat 0)), (52, 6, .inl (1, .ofNat 0))], 0, [kvR 52, some (.inr [20, 21, 22, 23, 24, 25, 26, 27]), kvN 220, none, none], []), ([], none), ([], [], none, ([], [])), kvW74)
def kC810_0 : aC := (([kvB 0 3, kvB 221 341, kvB 0 4, kvB 221 341], [(57, 220, .inl (0, .ofNat 0)), (52, 6, .inl (3, .ofNat 0))], 2, [kvR 52, some (.inr [20, 21, 22, 23, 24, 25, 26, 27]), kvN 220, kvI 2, none], []), ([], []), (4, [(-1, 2)]))
theorem ks810 : aseg kS krf kB [kE562, kE567, kE568, kE569] (ksp []) kE810 [kC810_0] 30000 (none) = true := asgqw (by decide +kernel)
theorem ks810_0 : aseg kS krf kB [kE562, kE567, kE568, kE569] (ksp []) kE810 [kC810_0] 30000 (some kC810_0) = true := asgqw (by decide +kernel)
theorem kok810 : aOK kS krf kB kE810 := aOK_of (kal1 kok562 (kal1 kok567 (kal1 kok568 (kal1 kok569 kal0)))) (kcl1 ks810_0 kcl0) ks810
/-- ColdShod$StrokePlan.addNext(LColdShod$Idea;I)V -/
def kE811 : aE := (83, 3, ([kvB 0 3, kvB 220 341], [(57, 219, .inl (0, .ofNat 0)), (52, 6, .inl (1, .ofNat 0))], 0, [kvR 52, some (.inr [20, 21, 22, 23, 24, 25, 26, 27]), kvN 219, none, none], []), ([], none), ([], [], none, ([], [])), kvW74)
def kC811_0 : aC := (([kvB 0 3, kvB 220 341, kvB 0 4, kvB 220 341], [(57, 219, .inl (0, .ofNat 0)), (52, 6, .inl (3, .ofNat 0))], 2, [kvR 52, some (.inr [20, 21, 22, 23, 24, 25, 26, 27]), kvN 219, kvI 2, none], []), ([], []), (4, [(-1, 2)]))
theorem ks811 : aseg kS krf kB [kE562, kE567, kE568, kE569] (ksp []) kE811 [kC811_0] 30000 (none) = true := asgqw (by decide +kernel)
theorem ks811_0 : aseg kS krf kB [kE562, kE567, kE568, kE569] (ksp []) kE811 [kC811_0] 30000 (some kC811_0) = true := asgqw (by decide +kernel)
theorem kok811 : aOK kS krf kB kE811 := aOK_of (kal1 kok562 (kal1 kok567 (kal1 kok568 (kal1 kok569 kal0)))) (kcl1 ks811_0 kcl0) ks811
/-- ColdShod$StrokePlan.addNext(LColdShod$Idea;I)V -/
def kE812 : aE := (83, 3, ([kvB 0 3, kvB 219 341], [(57, 218, .inl (0, .ofNat 0)), (52, 6, .inl (1, .ofNat 0))], 0, [kvR 52, some (.inr [20, 21, 22, 23, 24, 25, 26, 27]), kvN 218, none, none], []), ([], none), ([], [], none, ([], [])), kvW74)
def kC812_0 : aC := (([kvB 0 3, kvB 219 341, kvB 0 4, kvB 219 341], [(57, 218, .inl (0, .ofNat 0)), (52, 6, .inl (3, .ofNat 0))], 2, [kvR 52, some (.inr [20, 21, 22, 23, 24, 25, 26, 27]), kvN 218, kvI 2, none], []), ([], []), (4, [(-1, 2)]))
theorem ks812 : aseg kS krf kB [kE562, kE567, kE568, kE569] (ksp []) kE812 [kC812_0] 30000 (none) = true := asgqw (by decide +kernel)
theorem ks812_0 : aseg kS krf kB [kE562, kE567, kE568, kE569] (ksp []) kE812 [kC812_0] 30000 (some kC812_0) = true := asgqw (by decide +kernel)
theorem kok812 : aOK kS krf kB kE812 := aOK_of (kal1 kok562 (kal1 kok567 (kal1 kok568 (kal1 kok569 kal0)))) (kcl1 ks812_0 kcl0) ks812
/-- ColdShod$StrokePlan.addNext(LColdShod$Idea;I)V -/
def kE813 : aE := (83, 3, ([kvB 0 3, kvB 218 341], [(57, 217, .inl (0, .ofNat 0)), (52, 6, .inl (1, .ofNat 0))], 0, [kvR 52, some (.inr [20, 21, 22, 23, 24, 25, 26, 27]), kvN 217, none, none], []), ([], none), ([], [], none, ([], [])), kvW74)
def kC813_0 : aC := (([kvB 0 3, kvB 218 341, kvB 0 4, kvB 218 341], [(57, 217, .inl (0, .ofNat 0)), (52, 6, .inl (3, .ofNat 0))], 2, [kvR 52, some (.inr [20, 21, 22, 23, 24, 25, 26, 27]), kvN 217, kvI 2, none], []), ([], []), (4, [(-1, 2)]))
theorem ks813 : aseg kS krf kB [kE562, kE567, kE568, kE569] (ksp []) kE813 [kC813_0] 30000 (none) = true := asgqw (by decide +kernel)
theorem ks813_0 : aseg kS krf kB [kE562, kE567, kE568, kE569] (ksp []) kE813 [kC813_0] 30000 (some kC813_0) = true := asgqw (by decide +kernel)
theorem kok813 : aOK kS krf kB kE813 := aOK_of (kal1 kok562 (kal1 kok567 (kal1 kok568 (kal1 kok569 kal0)))) (kcl1 ks813_0 kcl0) ks813
/-- ColdShod$StrokePlan.addNext(LColdShod$Idea;I)V -/
def kE814 : aE := (83, 3, ([kvB 0 3, kvB 217 341], [(57, 216, .inl (0, .ofNat 0)), (52, 6, .inl (1, .ofNat 0))], 0, [kvR 52, some (.inr [20, 21, 22, 23, 24, 25, 26, 27]), kvN 216, none, none], []), ([], none), ([], [], none, ([], [])), kvW74)
def kC814_0 : aC := (([kvB 0 3, kvB 217 341, kvB 0 4, kvB 217 341], [(57, 216, .inl (0, .ofNat 0)), (52, 6, .inl (3, .ofNat 0))], 2, [kvR 52, some (.inr [20, 21, 22, 23, 24, 25, 26, 27]), kvN 216, kvI 2, none], []), ([], []), (4, [(-1, 2)]))
theorem ks814 : aseg kS krf kB [kE562, kE567, kE568, kE569] (ksp []) kE814 [kC814_0] 30000 (none) = true := asgqw (by decide +kernel)
theorem ks814_0 : aseg kS krf kB [kE562, kE567, kE568, kE569] (ksp []) kE814 [kC814_0] 30000 (some kC814_0) = true := asgqw (by decide +kernel)
theorem kok814 : aOK kS krf kB kE814 := aOK_of (kal1 kok562 (kal1 kok567 (kal1 kok568 (kal1 kok569 kal0)))) (kcl1 ks814_0 kcl0) ks814
/-- ColdShod$StrokePlan.addNext(LColdShod$Idea;I)V -/
def kE815 : aE := (83, 3, ([kvB 0 3, kvB 216 341], [(57, 215, .inl (0, .ofNat 0)), (52, 6, .inl (1, .ofNat 0))], 0, [kvR 52, some (.inr [20, 21, 22, 23, 24, 25, 26, 27]), kvN 215, none, none], []), ([], none), ([], [], none, ([], [])), kvW74)
def kC815_0 : aC := (([kvB 0 3, kvB 216 341, kvB 0 4, kvB 216 341], [(57, 215, .inl (0, .ofNat 0)), (52, 6, .inl (3, .ofNat 0))], 2, [kvR 52, some (.inr [20, 21, 22, 23, 24, 25, 26, 27]), kvN 215, kvI 2, none], []), ([], []), (4, [(-1, 2)]))
theorem ks815 : aseg kS krf kB [kE562, kE567, kE568, kE569] (ksp []) kE815 [kC815_0] 30000 (none) = true := asgqw (by decide +kernel)
theorem ks815_0 : aseg kS krf kB [kE562, kE567, kE568, kE569] (ksp []) kE815 [kC815_0] 30000 (some kC815_0) = true := asgqw (by decide +kernel)
theorem kok815 : aOK kS krf kB kE815 := aOK_of (kal1 kok562 (kal1 kok567 (kal1 kok568 (kal1 kok569 kal0)))) (kcl1 ks815_0 kcl0) ks815
/-- ColdShod$StrokePlan.addNext(LColdShod$Idea;I)V -/
def kE816 : aE := (83, 3, ([kvB 0 3, kvB 215 341], [(57, 214, .inl (0, .ofNat 0)), (52, 6, .inl (1, .ofNat 0))], 0, [kvR 52, some (.inr [20, 21, 22, 23, 24, 25, 26, 27]), kvN 214, none, none], []), ([], none), ([], [], none, ([], [])), kvW74)
def kC816_0 : aC := (([kvB 0 3, kvB 215 341, kvB 0 4, kvB 215 341], [(57, 214, .inl (0, .ofNat 0)), (52, 6, .inl (3, .ofNat 0))], 2, [kvR 52, some (.inr [20, 21, 22, 23, 24, 25, 26, 27]), kvN 214, kvI 2, none], []), ([], []), (4, [(-1, 2)]))
theorem ks816 : aseg kS krf kB [kE562, kE567, kE568, kE569] (ksp []) kE816 [kC816_0] 30000 (none) = true := asgqw (by decide +kernel)
theorem ks816_0 : aseg kS krf kB [kE562, kE567, kE568, kE569] (ksp []) kE816 [kC816_0] 30000 (some kC816_0) = true := asgqw (by decide +kernel)
theorem kok816 : aOK kS krf kB kE816 := aOK_of (kal1 kok562 (kal1 kok567 (kal1 kok568 (kal1 kok569 kal0)))) (kcl1 ks816_0 kcl0) ks816
/-- ColdShod$StrokePlan.addNext(LColdShod$Idea;I)V -/
def kE817 : aE := (83, 3, ([kvB 0 3, kvB 214 341], [(57, 213, .inl (0, .ofNat 0)), (52, 6, .inl (1, .ofNat 0))], 0, [kvR 52, some (.inr [20, 21, 22, 23, 24, 25, 26, 27]), kvN 213, none, none], []), ([], none), ([], [], none, ([], [])), kvW74)
def kC817_0 : aC := (([kvB 0 3, kvB 214 341, kvB 0 4, kvB 214 341], [(57, 213, .inl (0, .ofNat 0)), (52, 6, .inl (3, .ofNat 0))], 2, [kvR 52, some (.inr [20, 21, 22, 23, 24, 25, 26, 27]), kvN 213, kvI 2, none], []), ([], []), (4, [(-1, 2)]))
theorem ks817 : aseg kS krf kB [kE562, kE567, kE568, kE569] (ksp []) kE817 [kC817_0] 30000 (none) = true := asgqw (by decide +kernel)
theorem ks817_0 : aseg kS krf kB [kE562, kE567, kE568, kE569] (ksp []) kE817 [kC817_0] 30000 (some kC817_0) = true := asgqw (by decide +kernel)
theorem kok817 : aOK kS krf kB kE817 := aOK_of (kal1 kok562 (kal1 kok567 (kal1 kok568 (kal1 kok569 kal0)))) (kcl1 ks817_0 kcl0) ks817
/-- ColdShod$StrokePlan.addNext(LColdShod$Idea;I)V -/
def kE818 : aE := (83, 3, ([kvB 0 3, kvB 213 341], [(57, 212, .inl (0, .ofNat 0)), (52, 6, .inl (1, .ofNat 0))], 0, [kvR 52, some (.inr [20, 21, 22, 23, 24, 25, 26, 27]), kvN 212, none, none], []), ([], none), ([], [], none, ([], [])), kvW74)
def kC818_0 : aC := (([kvB 0 3, kvB 213 341, kvB 0 4, kvB 213 341], [(57, 212, .inl (0, .ofNat 0)), (52, 6, .inl (3, .ofNat 0))], 2, [kvR 52, some (.inr [20, 21, 22, 23, 24, 25, 26, 27]), kvN 212, kvI 2, none], []), ([], []), (4, [(-1, 2)]))
theorem ks818 : aseg kS krf kB [kE562, kE567, kE568, kE569] (ksp []) kE818 [kC818_0] 30000 (none) = true := asgqw (by decide +kernel)
theorem ks818_0 : aseg kS krf kB [kE562, kE567, kE568, kE569] (ksp []) kE818 [kC818_0] 30000 (some kC818_0) = true := asgqw (by decide +kernel)
theorem kok818 : aOK kS krf kB kE818 := aOK_of (kal1 kok562 (kal1 kok567 (kal1 kok568 (kal1 kok569 kal0)))) (kcl1 ks818_0 kcl0) ks818
/-- ColdShod$StrokePlan.addNext(LColdShod$Idea;I)V -/
def kE819 : aE := (83, 3, ([kvB 0 3, kvB 212 341], [(57, 211, .inl (0, .ofNat 0)), (52, 6, .inl (1, .ofNat 0))], 0, [kvR 52, some (.inr [20, 21, 22, 23, 24, 25, 26, 27]), kvN 211, none, none], []), ([], none), ([], [], none, ([], [])), kvW74)
def kC819_0 : aC := (([kvB 0 3, kvB 212 341, kvB 0 4, kvB 212 341], [(57, 211, .inl (0, .ofNat 0)), (52, 6, .inl (3, .ofNat 0))], 2, [kvR 52, some (.inr [20, 21, 22, 23, 24, 25, 26, 27]), kvN 211, kvI 2, none], []), ([], []), (4, [(-1, 2)]))
theorem ks819 : aseg kS krf kB [kE562, kE567, kE568, kE569] (ksp []) kE819 [kC819_0] 30000 (none) = true := asgqw (by decide +kernel)
theorem ks819_0 : aseg kS krf kB [kE562, kE567, kE568, kE569] (ksp []) kE819 [kC819_0] 30000 (some kC819_0) = true := asgqw (by decide +kernel)
theorem kok819 : aOK kS krf kB kE819 := aOK_of (kal1 kok562 (kal1 kok567 (kal1 kok568 (kal1 kok569 kal0)))) (kcl1 ks819_0 kcl0) ks819
/-- ColdShod$StrokePlan.addNext(LColdShod$Idea;I)V -/
def kE820 : aE := (83, 3, ([kvB 0 3, kvB 211 341], [(57, 210, .inl (0, .ofNat 0)), (52, 6, .inl (1, .ofNat 0))], 0, [kvR 52, some (.inr [20, 21, 22, 23, 24, 25, 26, 27]), kvN 210, none, none], []), ([], none), ([], [], none, ([], [])), kvW74)
def kC820_0 : aC := (([kvB 0 3, kvB 211 341, kvB 0 4, kvB 211 341], [(57, 210, .inl (0, .ofNat 0)), (52, 6, .inl (3, .ofNat 0))], 2, [kvR 52, some (.inr [20, 21, 22, 23, 24, 25, 26, 27]), kvN 210, kvI 2, none], []), ([], []), (4, [(-1, 2)]))
theorem ks820 : aseg kS krf kB [kE562, kE567, kE568, kE569] (ksp []) kE820 [kC820_0] 30000 (none) = true := asgqw (by decide +kernel)
theorem ks820_0 : aseg kS krf kB [kE562, kE567, kE568, kE569] (ksp []) kE820 [kC820_0] 30000 (some kC820_0) = true := asgqw (by decide +kernel)
theorem kok820 : aOK kS krf kB kE820 := aOK_of (kal1 kok562 (kal1 kok567 (kal1 kok568 (kal1 kok569 kal0)))) (kcl1 ks820_0 kcl0) ks820
/-- ColdShod$StrokePlan.addNext(LColdShod$Idea;I)V -/
def kE821 : aE := (83, 3, ([kvB 0 3, kvB 210 341], [(57, 209, .inl (0, .ofNat 0)), (52, 6, .inl (1, .ofNat 0))], 0, [kvR 52, some (.inr [20, 21, 22, 23, 24, 25, 26, 27]), kvN 209, none, none], []), ([], none), ([], [], none, ([], [])), kvW74)
def kC821_0 : aC := (([kvB 0 3, kvB 210 341, kvB 0 4, kvB 210 341], [(57, 209, .inl (0, .ofNat 0)), (52, 6, .inl (3, .ofNat 0))], 2, [kvR 52, some (.inr [20, 21, 22, 23, 24, 25, 26, 27]), kvN 209, kvI 2, none], []), ([], []), (4, [(-1, 2)]))
theorem ks821 : aseg kS krf kB [kE562, kE567, kE568, kE569] (ksp []) kE821 [kC821_0] 30000 (none) = true := asgqw (by decide +kernel)
theorem ks821_0 : aseg kS krf kB [kE562, kE567, kE568, kE569] (ksp []) kE821 [kC821_0] 30000 (some kC821_0) = true := asgqw (by decide +kernel)
theorem kok821 : aOK kS krf kB kE821 := aOK_of (kal1 kok562 (kal1 kok567 (kal1 kok568 (kal1 kok569 kal0)))) (kcl1 ks821_0 kcl0) ks821
/-- ColdShod$StrokePlan.addNext(LColdShod$Idea;I)V -/
def kE822 : aE := (83, 3, ([kvB 0 3, kvB 209 341], [(57, 208, .inl (0, .ofNat 0)), (52, 6, .inl (1, .ofNat 0))], 0, [kvR 52, some (.inr [20, 21, 22, 23, 24, 25, 26, 27]), kvN 208, none, none], []), ([], none), ([], [], none, ([], [])), kvW74)
def kC822_0 : aC := (([kvB 0 3, kvB 209 341, kvB 0 4, kvB 209 341], [(57, 208, .inl (0, .ofNat 0)), (52, 6, .inl (3, .ofNat 0))], 2, [kvR 52, some (.inr [20, 21, 22, 23, 24, 25, 26, 27]), kvN 208, kvI 2, none], []), ([], []), (4, [(-1, 2)]))
theorem ks822 : aseg kS krf kB [kE562, kE567, kE568, kE569] (ksp []) kE822 [kC822_0] 30000 (none) = true := asgqw (by decide +kernel)
theorem ks822_0 : aseg kS krf kB [kE562, kE567, kE568, kE569] (ksp []) kE822 [kC822_0] 30000 (some kC822_0) = true := asgqw (by decide +kernel)
theorem kok822 : aOK kS krf kB kE822 := aOK_of (kal1 kok562 (kal1 kok567 (kal1 kok568 (kal1 kok569 kal0)))) (kcl1 ks822_0 kcl0) ks822
/-- ColdShod$StrokePlan.addNext(LColdShod$Idea;I)V -/
def kE823 : aE := (83, 3, ([kvB 0 3, kvB 208 341], [(57, 207, .inl (0, .ofNat 0)), (52, 6, .inl (1, .ofNat 0))], 0, [kvR 52, some (.inr [20, 21, 22, 23, 24, 25, 26, 27]), kvN 207, none, none], []), ([], none), ([], [], none, ([], [])), kvW74)
def kC823_0 : aC := (([kvB 0 3, kvB 208 341, kvB 0 4, kvB 208 341], [(57, 207, .inl (0, .ofNat 0)), (52, 6, .inl (3, .ofNat 0))], 2, [kvR 52, some (.inr [20, 21, 22, 23, 24, 25, 26, 27]), kvN 207, kvI 2, none], []), ([], []), (4, [(-1, 2)]))
theorem ks823 : aseg kS krf kB [kE562, kE567, kE568, kE569] (ksp []) kE823 [kC823_0] 30000 (none) = true := asgqw (by decide +kernel)
theorem ks823_0 : aseg kS krf kB [kE562, kE567, kE568, kE569] (ksp []) kE823 [kC823_0] 30000 (some kC823_0) = true := asgqw (by decide +kernel)
theorem kok823 : aOK kS krf kB kE823 := aOK_of (kal1 kok562 (kal1 kok567 (kal1 kok568 (kal1 kok569 kal0)))) (kcl1 ks823_0 kcl0) ks823
/-- ColdShod$StrokePlan.addNext(LColdShod$Idea;I)V -/
def kE824 : aE := (83, 3, ([kvB 0 3, kvB 207 341], [(57, 206, .inl (0, .ofNat 0)), (52, 6, .inl (1, .ofNat 0))], 0, [kvR 52, some (.inr [20, 21, 22, 23, 24, 25, 26, 27]), kvN 206, none, none], []), ([], none), ([], [], none, ([], [])), kvW74)
def kC824_0 : aC := (([kvB 0 3, kvB 207 341, kvB 0 4, kvB 207 341], [(57, 206, .inl (0, .ofNat 0)), (52, 6, .inl (3, .ofNat 0))], 2, [kvR 52, some (.inr [20, 21, 22, 23, 24, 25, 26, 27]), kvN 206, kvI 2, none], []), ([], []), (4, [(-1, 2)]))
theorem ks824 : aseg kS krf kB [kE562, kE567, kE568, kE569] (ksp []) kE824 [kC824_0] 30000 (none) = true := asgqw (by decide +kernel)
theorem ks824_0 : aseg kS krf kB [kE562, kE567, kE568, kE569] (ksp []) kE824 [kC824_0] 30000 (some kC824_0) = true := asgqw (by decide +kernel)
theorem kok824 : aOK kS krf kB kE824 := aOK_of (kal1 kok562 (kal1 kok567 (kal1 kok568 (kal1 kok569 kal0)))) (kcl1 ks824_0 kcl0) ks824
/-- ColdShod$StrokePlan.addNext(LColdShod$Idea;I)V -/
def kE825 : aE := (83, 3, ([kvB 0 3, kvB 206 341], [(57, 205, .inl (0, .ofNat 0)), (52, 6, .inl (1, .ofNat 0))], 0, [kvR 52, some (.inr [20, 21, 22, 23, 24, 25, 26, 27]), kvN 205, none, none], []), ([], none), ([], [], none, ([], [])), kvW74)
def kC825_0 : aC := (([kvB 0 3, kvB 206 341, kvB 0 4, kvB 206 341], [(57, 205, .inl (0, .ofNat 0)), (52, 6, .inl (3, .ofNat 0))], 2, [kvR 52, some (.inr [20, 21, 22, 23, 24, 25, 26, 27]), kvN 205, kvI 2, none], []), ([], []), (4, [(-1, 2)]))
theorem ks825 : aseg kS krf kB [kE562, kE567, kE568, kE569] (ksp []) kE825 [kC825_0] 30000 (none) = true := asgqw (by decide +kernel)
theorem ks825_0 : aseg kS krf kB [kE562, kE567, kE568, kE569] (ksp []) kE825 [kC825_0] 30000 (some kC825_0) = true := asgqw (by decide +kernel)
theorem kok825 : aOK kS krf kB kE825 := aOK_of (kal1 kok562 (kal1 kok567 (kal1 kok568 (kal1 kok569 kal0)))) (kcl1 ks825_0 kcl0) ks825
/-- ColdShod$StrokePlan.addNext(LColdShod$Idea;I)V -/
def kE826 : aE := (83, 3, ([kvB 0 3, kvB 205 341], [(57, 204, .inl (0, .ofNat 0)), (52, 6, .inl (1, .ofNat 0))], 0, [kvR 52, some (.inr [20, 21, 22, 23, 24, 25, 26, 27]), kvN 204, none, none], []), ([], none), ([], [], none, ([], [])), kvW74)
def kC826_0 : aC := (([kvB 0 3, kvB 205 341, kvB 0 4, kvB 205 341], [(57, 204, .inl (0, .ofNat 0)), (52, 6, .inl (3, .ofNat 0))], 2, [kvR 52, some (.inr [20, 21, 22, 23, 24, 25, 26, 27]), kvN 204, kvI 2, none], []), ([], []), (4, [(-1, 2)]))
theorem ks826 : aseg kS krf kB [kE562, kE567, kE568, kE569] (ksp []) kE826 [kC826_0] 30000 (none) = true := asgqw (by decide +kernel)
theorem ks826_0 : aseg kS krf kB [kE562, kE567, kE568, kE569] (ksp []) kE826 [kC826_0] 30000 (some kC826_0) = true := asgqw (by decide +kernel)
theorem kok826 : aOK kS krf kB kE826 := aOK_of (kal1 kok562 (kal1 kok567 (kal1 kok568 (kal1 kok569 kal0)))) (kcl1 ks826_0 kcl0) ks826
/-- ColdShod$StrokePlan.addNext(LColdShod$Idea;I)V -/
def kE827 : aE := (83, 3, ([kvB 0 3, kvB 204 341], [(57, 203, .inl (0, .ofNat 0)), (52, 6, .inl (1, .ofNat 0))], 0, [kvR 52, some (.inr [20, 21, 22, 23, 24, 25, 26, 27]), kvN 203, none, none], []), ([], none), ([], [], none, ([], [])), kvW74)
def kC827_0 : aC := (([kvB 0 3, kvB 204 341, kvB 0 4, kvB 204 341], [(57, 203, .inl (0, .ofNat 0)), (52, 6, .inl (3, .ofNat 0))], 2, [kvR 52, some (.inr [20, 21, 22, 23, 24, 25, 26, 27]), kvN 203, kvI 2, none], []), ([], []), (4, [(-1, 2)]))
theorem ks827 : aseg kS krf kB [kE562, kE567, kE568, kE569] (ksp []) kE827 [kC827_0] 30000 (none) = true := asgqw (by decide +kernel)
theorem ks827_0 : aseg kS krf kB [kE562, kE567, kE568, kE569] (ksp []) kE827 [kC827_0] 30000 (some kC827_0) = true := asgqw (by decide +kernel)
theorem kok827 : aOK kS krf kB kE827 := aOK_of (kal1 kok562 (kal1 kok567 (kal1 kok568 (kal1 kok569 kal0)))) (kcl1 ks827_0 kcl0) ks827
/-- ColdShod$StrokePlan.addNext(LColdShod$Idea;I)V -/
def kE828 : aE := (83, 3, ([kvB 0 3, kvB 203 341], [(57, 202, .inl (0, .ofNat 0)), (52, 6, .inl (1, .ofNat 0))], 0, [kvR 52, some (.inr [20, 21, 22, 23, 24, 25, 26, 27]), kvN 202, none, none], []), ([], none), ([], [], none, ([], [])), kvW74)
def kC828_0 : aC := (([kvB 0 3, kvB 203 341, kvB 0 4, kvB 203 341], [(57, 202, .inl (0, .ofNat 0)), (52, 6, .inl (3, .ofNat 0))], 2, [kvR 52, some (.inr [20, 21, 22, 23, 24, 25, 26, 27]), kvN 202, kvI 2, none], []), ([], []), (4, [(-1, 2)]))
theorem ks828 : aseg kS krf kB [kE562, kE567, kE568, kE569] (ksp []) kE828 [kC828_0] 30000 (none) = true := asgqw (by decide +kernel)
theorem ks828_0 : aseg kS krf kB [kE562, kE567, kE568, kE569] (ksp []) kE828 [kC828_0] 30000 (some kC828_0) = true := asgqw (by decide +kernel)
theorem kok828 : aOK kS krf kB kE828 := aOK_of (kal1 kok562 (kal1 kok567 (kal1 kok568 (kal1 kok569 kal0)))) (kcl1 ks828_0 kcl0) ks828
/-- ColdShod$StrokePlan.addNext(LColdShod$Idea;I)V -/
def kE829 : aE := (83, 3, ([kvB 0 3, kvB 202 341], [(57, 201, .inl (0, .ofNat 0)), (52, 6, .inl (1, .ofNat 0))], 0, [kvR 52, some (.inr [20, 21, 22, 23, 24, 25, 26, 27]), kvN 201, none, none], []), ([], none), ([], [], none, ([], [])), kvW74)
def kC829_0 : aC := (([kvB 0 3, kvB 202 341, kvB 0 4, kvB 202 341], [(57, 201, .inl (0, .ofNat 0)), (52, 6, .inl (3, .ofNat 0))], 2, [kvR 52, some (.inr [20, 21, 22, 23, 24, 25, 26, 27]), kvN 201, kvI 2, none], []), ([], []), (4, [(-1, 2)]))
theorem ks829 : aseg kS krf kB [kE562, kE567, kE568, kE569] (ksp []) kE829 [kC829_0] 30000 (none) = true := asgqw (by decide +kernel)
theorem ks829_0 : aseg kS krf kB [kE562, kE567, kE568, kE569] (ksp []) kE829 [kC829_0] 30000 (some kC829_0) = true := asgqw (by decide +kernel)
theorem kok829 : aOK kS krf kB kE829 := aOK_of (kal1 kok562 (kal1 kok567 (kal1 kok568 (kal1 kok569 kal0)))) (kcl1 ks829_0 kcl0) ks829
/-- ColdShod$StrokePlan.addNext(LColdShod$Idea;I)V -/
def kE830 : aE := (83, 3, ([kvB 0 3, kvB 201 341], [(57, 200, .inl (0, .ofNat 0)), (52, 6, .inl (1, .ofNat 0))], 0, [kvR 52, some (.inr [20, 21, 22, 23, 24, 25, 26, 27]), kvN 200, none, none], []), ([], none), ([], [], none, ([], [])), kvW74)
def kC830_0 : aC := (([kvB 0 3, kvB 201 341, kvB 0 4, kvB 201 341], [(57, 200, .inl (0, .ofNat 0)), (52, 6, .inl (3, .ofNat 0))], 2, [kvR 52, some (.inr [20, 21, 22, 23, 24, 25, 26, 27]), kvN 200, kvI 2, none], []), ([], []), (4, [(-1, 2)]))
theorem ks830 : aseg kS krf kB [kE562, kE567, kE568, kE569] (ksp []) kE830 [kC830_0] 30000 (none) = true := asgqw (by decide +kernel)
theorem ks830_0 : aseg kS krf kB [kE562, kE567, kE568, kE569] (ksp []) kE830 [kC830_0] 30000 (some kC830_0) = true := asgqw (by decide +kernel)
theorem kok830 : aOK kS krf kB kE830 := aOK_of (kal1 kok562 (kal1 kok567 (kal1 kok568 (kal1 kok569 kal0)))) (kcl1 ks830_0 kcl0) ks830
