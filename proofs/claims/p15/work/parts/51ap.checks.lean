/-! ENTRIES and their checks: printed by a program (wip/ai). -/
/-- ColdShod$StrokePlan.addNext(LColdShod$Idea;I)V -/
def kE831 : aE := (83, 3, ([kvB 0 3, kvB 200 341], [(57, 199, .inl (0, .ofNat 0)), (52, 6, .inl (1, .ofNat 0))], 0, [kvR 52, some (.inr [20, 21, 22, 23, 24, 25, 26, 27]), kvN 199, none, none], []), ([], none), ([], [], none, ([], [])), kvW74)
def kC831_0 : aC := (([kvB 0 3, kvB 200 341, kvB 0 4, kvB 200 341], [(57, 199, .inl (0, .ofNat 0)), (52, 6, .inl (3, .ofNat 0))], 2, [kvR 52, some (.inr [20, 21, 22, 23, 24, 25, 26, 27]), kvN 199, kvI 2, none], []), ([], []), (4, [(-1, 2)]))
theorem ks831 : aseg kS krf kB [kE562, kE567, kE568, kE569] (ksp []) kE831 [kC831_0] 30000 (none) = true := asgqw (by decide +kernel)
theorem ks831_0 : aseg kS krf kB [kE562, kE567, kE568, kE569] (ksp []) kE831 [kC831_0] 30000 (some kC831_0) = true := asgqw (by decide +kernel)
theorem kok831 : aOK kS krf kB kE831 := aOK_of (kal1 kok562 (kal1 kok567 (kal1 kok568 (kal1 kok569 kal0)))) (kcl1 ks831_0 kcl0) ks831
/-- ColdShod$StrokePlan.addNext(LColdShod$Idea;I)V -/
def kE832 : aE := (83, 3, ([kvB 0 3, kvB 199 341], [(57, 198, .inl (0, .ofNat 0)), (52, 6, .inl (1, .ofNat 0))], 0, [kvR 52, some (.inr [20, 21, 22, 23, 24, 25, 26, 27]), kvN 198, none, none], []), ([], none), ([], [], none, ([], [])), kvW74)
def kC832_0 : aC := (([kvB 0 3, kvB 199 341, kvB 0 4, kvB 199 341], [(57, 198, .inl (0, .ofNat 0)), (52, 6, .inl (3, .ofNat 0))], 2, [kvR 52, some (.inr [20, 21, 22, 23, 24, 25, 26, 27]), kvN 198, kvI 2, none], []), ([], []), (4, [(-1, 2)]))
theorem ks832 : aseg kS krf kB [kE562, kE567, kE568, kE569] (ksp []) kE832 [kC832_0] 30000 (none) = true := asgqw (by decide +kernel)
theorem ks832_0 : aseg kS krf kB [kE562, kE567, kE568, kE569] (ksp []) kE832 [kC832_0] 30000 (some kC832_0) = true := asgqw (by decide +kernel)
theorem kok832 : aOK kS krf kB kE832 := aOK_of (kal1 kok562 (kal1 kok567 (kal1 kok568 (kal1 kok569 kal0)))) (kcl1 ks832_0 kcl0) ks832
/-- ColdShod$StrokePlan.addNext(LColdShod$Idea;I)V -/
def kE833 : aE := (83, 3, ([kvB 0 3, kvB 198 341], [(57, 197, .inl (0, .ofNat 0)), (52, 6, .inl (1, .ofNat 0))], 0, [kvR 52, some (.inr [20, 21, 22, 23, 24, 25, 26, 27]), kvN 197, none, none], []), ([], none), ([], [], none, ([], [])), kvW74)
def kC833_0 : aC := (([kvB 0 3, kvB 198 341, kvB 0 4, kvB 198 341], [(57, 197, .inl (0, .ofNat 0)), (52, 6, .inl (3, .ofNat 0))], 2, [kvR 52, some (.inr [20, 21, 22, 23, 24, 25, 26, 27]), kvN 197, kvI 2, none], []), ([], []), (4, [(-1, 2)]))
theorem ks833 : aseg kS krf kB [kE562, kE567, kE568, kE569] (ksp []) kE833 [kC833_0] 30000 (none) = true := asgqw (by decide +kernel)
theorem ks833_0 : aseg kS krf kB [kE562, kE567, kE568, kE569] (ksp []) kE833 [kC833_0] 30000 (some kC833_0) = true := asgqw (by decide +kernel)
theorem kok833 : aOK kS krf kB kE833 := aOK_of (kal1 kok562 (kal1 kok567 (kal1 kok568 (kal1 kok569 kal0)))) (kcl1 ks833_0 kcl0) ks833
/-- ColdShod$StrokePlan.addNext(LColdShod$Idea;I)V -/
def kE834 : aE := (83, 3, ([kvB 0 3, kvB 197 341], [(57, 196, .inl (0, .ofNat 0)), (52, 6, .inl (1, .ofNat 0))], 0, [kvR 52, some (.inr [20, 21, 22, 23, 24, 25, 26, 27]), kvN 196, none, none], []), ([], none), ([], [], none, ([], [])), kvW74)
def kC834_0 : aC := (([kvB 0 3, kvB 197 341, kvB 0 4, kvB 197 341], [(57, 196, .inl (0, .ofNat 0)), (52, 6, .inl (3, .ofNat 0))], 2, [kvR 52, some (.inr [20, 21, 22, 23, 24, 25, 26, 27]), kvN 196, kvI 2, none], []), ([], []), (4, [(-1, 2)]))
theorem ks834 : aseg kS krf kB [kE562, kE567, kE568, kE569] (ksp []) kE834 [kC834_0] 30000 (none) = true := asgqw (by decide +kernel)
theorem ks834_0 : aseg kS krf kB [kE562, kE567, kE568, kE569] (ksp []) kE834 [kC834_0] 30000 (some kC834_0) = true := asgqw (by decide +kernel)
theorem kok834 : aOK kS krf kB kE834 := aOK_of (kal1 kok562 (kal1 kok567 (kal1 kok568 (kal1 kok569 kal0)))) (kcl1 ks834_0 kcl0) ks834
/-- ColdShod$StrokePlan.addNext(LColdShod$Idea;I)V -/
def kE835 : aE := (83, 3, ([kvB 0 3, kvB 196 341], [(57, 195, .inl (0, .ofNat 0)), (52, 6, .inl (1, .ofNat 0))], 0, [kvR 52, some (.inr [20, 21, 22, 23, 24, 25, 26, 27]), kvN 195, none, none], []), ([], none), ([], [], none, ([], [])), kvW74)
def kC835_0 : aC := (([kvB 0 3, kvB 196 341, kvB 0 4, kvB 196 341], [(57, 195, .inl (0, .ofNat 0)), (52, 6, .inl (3, .ofNat 0))], 2, [kvR 52, some (.inr [20, 21, 22, 23, 24, 25, 26, 27]), kvN 195, kvI 2, none], []), ([], []), (4, [(-1, 2)]))
theorem ks835 : aseg kS krf kB [kE562, kE567, kE568, kE569] (ksp []) kE835 [kC835_0] 30000 (none) = true := asgqw (by decide +kernel)
theorem ks835_0 : aseg kS krf kB [kE562, kE567, kE568, kE569] (ksp []) kE835 [kC835_0] 30000 (some kC835_0) = true := asgqw (by decide +kernel)
theorem kok835 : aOK kS krf kB kE835 := aOK_of (kal1 kok562 (kal1 kok567 (kal1 kok568 (kal1 kok569 kal0)))) (kcl1 ks835_0 kcl0) ks835
/-- ColdShod$StrokePlan.addNext(LColdShod$Idea;I)V -/
def kE836 : aE := (83, 3, ([kvB 0 3, kvB 195 341], [(57, 194, .inl (0, .ofNat 0)), (52, 6, .inl (1, .ofNat 0))], 0, [kvR 52, some (.inr [20, 21, 22, 23, 24, 25, 26, 27]), kvN 194, none, none], []), ([], none), ([], [], none, ([], [])), kvW74)
def kC836_0 : aC := (([kvB 0 3, kvB 195 341, kvB 0 4, kvB 195 341], [(57, 194, .inl (0, .ofNat 0)), (52, 6, .inl (3, .ofNat 0))], 2, [kvR 52, some (.inr [20, 21, 22, 23, 24, 25, 26, 27]), kvN 194, kvI 2, none], []), ([], []), (4, [(-1, 2)]))
theorem ks836 : aseg kS krf kB [kE562, kE567, kE568, kE569] (ksp []) kE836 [kC836_0] 30000 (none) = true := asgqw (by decide +kernel)
theorem ks836_0 : aseg kS krf kB [kE562, kE567, kE568, kE569] (ksp []) kE836 [kC836_0] 30000 (some kC836_0) = true := asgqw (by decide +kernel)
theorem kok836 : aOK kS krf kB kE836 := aOK_of (kal1 kok562 (kal1 kok567 (kal1 kok568 (kal1 kok569 kal0)))) (kcl1 ks836_0 kcl0) ks836
/-- ColdShod$StrokePlan.addNext(LColdShod$Idea;I)V -/
def kE837 : aE := (83, 3, ([kvB 0 3, kvB 194 341], [(57, 193, .inl (0, .ofNat 0)), (52, 6, .inl (1, .ofNat 0))], 0, [kvR 52, some (.inr [20, 21, 22, 23, 24, 25, 26, 27]), kvN 193, none, none], []), ([], none), ([], [], none, ([], [])), kvW74)
def kC837_0 : aC := (([kvB 0 3, kvB 194 341, kvB 0 4, kvB 194 341], [(57, 193, .inl (0, .ofNat 0)), (52, 6, .inl (3, .ofNat 0))], 2, [kvR 52, some (.inr [20, 21, 22, 23, 24, 25, 26, 27]), kvN 193, kvI 2, none], []), ([], []), (4, [(-1, 2)]))
theorem ks837 : aseg kS krf kB [kE562, kE567, kE568, kE569] (ksp []) kE837 [kC837_0] 30000 (none) = true := asgqw (by decide +kernel)
theorem ks837_0 : aseg kS krf kB [kE562, kE567, kE568, kE569] (ksp []) kE837 [kC837_0] 30000 (some kC837_0) = true := asgqw (by decide +kernel)
theorem kok837 : aOK kS krf kB kE837 := aOK_of (kal1 kok562 (kal1 kok567 (kal1 kok568 (kal1 kok569 kal0)))) (kcl1 ks837_0 kcl0) ks837
/-- ColdShod$StrokePlan.addNext(LColdShod$Idea;I)V -/
def kE838 : aE := (83, 3, ([kvB 0 3, kvB 193 341], [(57, 192, .inl (0, .ofNat 0)), (52, 6, .inl (1, .ofNat 0))], 0, [kvR 52, some (.inr [20, 21, 22, 23, 24, 25, 26, 27]), kvN 192, none, none], []), ([], none), ([], [], none, ([], [])), kvW74)
def kC838_0 : aC := (([kvB 0 3, kvB 193 341, kvB 0 4, kvB 193 341], [(57, 192, .inl (0, .ofNat 0)), (52, 6, .inl (3, .ofNat 0))], 2, [kvR 52, some (.inr [20, 21, 22, 23, 24, 25, 26, 27]), kvN 192, kvI 2, none], []), ([], []), (4, [(-1, 2)]))
theorem ks838 : aseg kS krf kB [kE562, kE567, kE568, kE569] (ksp []) kE838 [kC838_0] 30000 (none) = true := asgqw (by decide +kernel)
theorem ks838_0 : aseg kS krf kB [kE562, kE567, kE568, kE569] (ksp []) kE838 [kC838_0] 30000 (some kC838_0) = true := asgqw (by decide +kernel)
theorem kok838 : aOK kS krf kB kE838 := aOK_of (kal1 kok562 (kal1 kok567 (kal1 kok568 (kal1 kok569 kal0)))) (kcl1 ks838_0 kcl0) ks838
/-- ColdShod$StrokePlan.addNext(LColdShod$Idea;I)V -/
def kE839 : aE := (83, 3, ([kvB 0 3, kvB 192 341], [(57, 191, .inl (0, .ofNat 0)), (52, 6, .inl (1, .ofNat 0))], 0, [kvR 52, some (.inr [20, 21, 22, 23, 24, 25, 26, 27]), kvN 191, none, none], []), ([], none), ([], [], none, ([], [])), kvW74)
def kC839_0 : aC := (([kvB 0 3, kvB 192 341, kvB 0 4, kvB 192 341], [(57, 191, .inl (0, .ofNat 0)), (52, 6, .inl (3, .ofNat 0))], 2, [kvR 52, some (.inr [20, 21, 22, 23, 24, 25, 26, 27]), kvN 191, kvI 2, none], []), ([], []), (4, [(-1, 2)]))
theorem ks839 : aseg kS krf kB [kE562, kE567, kE568, kE569] (ksp []) kE839 [kC839_0] 30000 (none) = true := asgqw (by decide +kernel)
theorem ks839_0 : aseg kS krf kB [kE562, kE567, kE568, kE569] (ksp []) kE839 [kC839_0] 30000 (some kC839_0) = true := asgqw (by decide +kernel)
theorem kok839 : aOK kS krf kB kE839 := aOK_of (kal1 kok562 (kal1 kok567 (kal1 kok568 (kal1 kok569 kal0)))) (kcl1 ks839_0 kcl0) ks839
/-- ColdShod$StrokePlan.addNext(LColdShod$Idea;I)V -/
def kE840 : aE := (83, 3, ([kvB 0 3, kvB 191 341], [(57, 190, .inl (0, .ofNat 0)), (52, 6, .inl (1, .ofNat 0))], 0, [kvR 52, some (.inr [20, 21, 22, 23, 24, 25, 26, 27]), kvN 190, none, none], []), ([], none), ([], [], none, ([], [])), kvW74)
def kC840_0 : aC := (([kvB 0 3, kvB 191 341, kvB 0 4, kvB 191 341], [(57, 190, .inl (0, .ofNat 0)), (52, 6, .inl (3, .ofNat 0))], 2, [kvR 52, some (.inr [20, 21, 22, 23, 24, 25, 26, 27]), kvN 190, kvI 2, none], []), ([], []), (4, [(-1, 2)]))
theorem ks840 : aseg kS krf kB [kE562, kE567, kE568, kE569] (ksp []) kE840 [kC840_0] 30000 (none) = true := asgqw (by decide +kernel)
theorem ks840_0 : aseg kS krf kB [kE562, kE567, kE568, kE569] (ksp []) kE840 [kC840_0] 30000 (some kC840_0) = true := asgqw (by decide +kernel)
theorem kok840 : aOK kS krf kB kE840 := aOK_of (kal1 kok562 (kal1 kok567 (kal1 kok568 (kal1 kok569 kal0)))) (kcl1 ks840_0 kcl0) ks840
/-- ColdShod$StrokePlan.addNext(LColdShod$Idea;I)V -/
def kE841 : aE := (83, 3, ([kvB 0 3, kvB 190 341], [(57, 189, .inl (0, .ofNat 0)), (52, 6, .inl (1, .ofNat 0))], 0, [kvR 52, some (.inr [20, 21, 22, 23, 24, 25, 26, 27]), kvN 189, none, none], []), ([], none), ([], [], none, ([], [])), kvW74)
def kC841_0 : aC := (([kvB 0 3, kvB 190 341, kvB 0 4, kvB 190 341], [(57, 189, .inl (0, .ofNat 0)), (52, 6, .inl (3, .ofNat 0))], 2, [kvR 52, some (.inr [20, 21, 22, 23, 24, 25, 26, 27]), kvN 189, kvI 2, none], []), ([], []), (4, [(-1, 2)]))
theorem ks841 : aseg kS krf kB [kE562, kE567, kE568, kE569] (ksp []) kE841 [kC841_0] 30000 (none) = true := asgqw (by decide +kernel)
theorem ks841_0 : aseg kS krf kB [kE562, kE567, kE568, kE569] (ksp []) kE841 [kC841_0] 30000 (some kC841_0) = true := asgqw (by decide +kernel)
theorem kok841 : aOK kS krf kB kE841 := aOK_of (kal1 kok562 (kal1 kok567 (kal1 kok568 (kal1 kok569 kal0)))) (kcl1 ks841_0 kcl0) ks841
/-- ColdShod$StrokePlan.addNext(LColdShod$Idea;I)V -/
def kE842 : aE := (83, 3, ([kvB 0 3, kvB 189 341], [(57, 188, .inl (0, .ofNat 0)), (52, 6, .inl (1, .ofNat 0))], 0, [kvR 52, some (.inr [20, 21, 22, 23, 24, 25, 26, 27]), kvN 188, none, none], []), ([], none), ([], [], none, ([], [])), kvW74)
def kC842_0 : aC := (([kvB 0 3, kvB 189 341, kvB 0 4, kvB 189 341], [(57, 188, .inl (0, .ofNat 0)), (52, 6, .inl (3, .ofNat 0))], 2, [kvR 52, some (.inr [20, 21, 22, 23, 24, 25, 26, 27]), kvN 188, kvI 2, none], []), ([], []), (4, [(-1, 2)]))
theorem ks842 : aseg kS krf kB [kE562, kE567, kE568, kE569] (ksp []) kE842 [kC842_0] 30000 (none) = true := asgqw (by decide +kernel)
theorem ks842_0 : aseg kS krf kB [kE562, kE567, kE568, kE569] (ksp []) kE842 [kC842_0] 30000 (some kC842_0) = true := asgqw (by decide +kernel)
theorem kok842 : aOK kS krf kB kE842 := aOK_of (kal1 kok562 (kal1 kok567 (kal1 kok568 (kal1 kok569 kal0)))) (kcl1 ks842_0 kcl0) ks842
/-- ColdShod$StrokePlan.addNext(LColdShod$Idea;I)V -/
def kE843 : aE := (83, 3, ([kvB 0 3, kvB 188 341], [(57, 187, .inl (0, .ofNat 0)), (52, 6, .inl (1, .ofNat 0))], 0, [kvR 52, some (.inr [20, 21, 22, 23, 24, 25, 26, 27]), kvN 187, none, none], []), ([], none), ([], [], none, ([], [])), kvW74)
def kC843_0 : aC := (([kvB 0 3, kvB 188 341, kvB 0 4, kvB 188 341], [(57, 187, .inl (0, .ofNat 0)), (52, 6, .inl (3, .ofNat 0))], 2, [kvR 52, some (.inr [20, 21, 22, 23, 24, 25, 26, 27]), kvN 187, kvI 2, none], []), ([], []), (4, [(-1, 2)]))
theorem ks843 : aseg kS krf kB [kE562, kE567, kE568, kE569] (ksp []) kE843 [kC843_0] 30000 (none) = true := asgqw (by decide +kernel)
theorem ks843_0 : aseg kS krf kB [kE562, kE567, kE568, kE569] (ksp []) kE843 [kC843_0] 30000 (some kC843_0) = true := asgqw (by decide +kernel)
theorem kok843 : aOK kS krf kB kE843 := aOK_of (kal1 kok562 (kal1 kok567 (kal1 kok568 (kal1 kok569 kal0)))) (kcl1 ks843_0 kcl0) ks843
/-- ColdShod$StrokePlan.addNext(LColdShod$Idea;I)V -/
def kE844 : aE := (83, 3, ([kvB 0 3, kvB 187 341], [(57, 186, .inl (0, .ofNat 0)), (52, 6, .inl (1, .ofNat 0))], 0, [kvR 52, some (.inr [20, 21, 22, 23, 24, 25, 26, 27]), kvN 186, none, none], []), ([], none), ([], [], none, ([], [])), kvW74)
def kC844_0 : aC := (([kvB 0 3, kvB 187 341, kvB 0 4, kvB 187 341], [(57, 186, .inl (0, .ofNat 0)), (52, 6, .inl (3, .ofNat 0))], 2, [kvR 52, some (.inr [20, 21, 22, 23, 24, 25, 26, 27]), kvN 186, kvI 2, none], []), ([], []), (4, [(-1, 2)]))
theorem ks844 : aseg kS krf kB [kE562, kE567, kE568, kE569] (ksp []) kE844 [kC844_0] 30000 (none) = true := asgqw (by decide +kernel)
theorem ks844_0 : aseg kS krf kB [kE562, kE567, kE568, kE569] (ksp []) kE844 [kC844_0] 30000 (some kC844_0) = true := asgqw (by decide +kernel)
theorem kok844 : aOK kS krf kB kE844 := aOK_of (kal1 kok562 (kal1 kok567 (kal1 kok568 (kal1 kok569 kal0)))) (kcl1 ks844_0 kcl0) ks844
/-- ColdShod$StrokePlan.addNext(LColdShod$Idea;I)V -/
def kE845 : aE := (83, 3, ([kvB 0 3, kvB 186 341], [(57, 185, .inl (0, .ofNat 0)), (52, 6, .inl (1, .ofNat 0))], 0, [kvR 52, some (.inr [20, 21, 22, 23, 24, 25, 26, 27]), kvN 185, none, none], []), ([], none), ([], [], none, ([], [])), kvW74)
def kC845_0 : aC := (([kvB 0 3, kvB 186 341, kvB 0 4, kvB 186 341], [(57, 185, .inl (0, .ofNat 0)), (52, 6, .inl (3, .ofNat 0))], 2, [kvR 52, some (.inr [20, 21, 22, 23, 24, 25, 26, 27]), kvN 185, kvI 2, none], []), ([], []), (4, [(-1, 2)]))
theorem ks845 : aseg kS krf kB [kE562, kE567, kE568, kE569] (ksp []) kE845 [kC845_0] 30000 (none) = true := asgqw (by decide +kernel)
theorem ks845_0 : aseg kS krf kB [kE562, kE567, kE568, kE569] (ksp []) kE845 [kC845_0] 30000 (some kC845_0) = true := asgqw (by decide +kernel)
theorem kok845 : aOK kS krf kB kE845 := aOK_of (kal1 kok562 (kal1 kok567 (kal1 kok568 (kal1 kok569 kal0)))) (kcl1 ks845_0 kcl0) ks845
/-- ColdShod$StrokePlan.addNext(LColdShod$Idea;I)V -/
def kE846 : aE := (83, 3, ([kvB 0 3, kvB 185 341], [(57, 184, .inl (0, .ofNat 0)), (52, 6, .inl (1, .ofNat 0))], 0, [kvR 52, some (.inr [20, 21, 22, 23, 24, 25, 26, 27]), kvN 184, none, none], []), ([], none), ([], [], none, ([], [])), kvW74)
def kC846_0 : aC := (([kvB 0 3, kvB 185 341, kvB 0 4, kvB 185 341], [(57, 184, .inl (0, .ofNat 0)), (52, 6, .inl (3, .ofNat 0))], 2, [kvR 52, some (.inr [20, 21, 22, 23, 24, 25, 26, 27]), kvN 184, kvI 2, none], []), ([], []), (4, [(-1, 2)]))
theorem ks846 : aseg kS krf kB [kE562, kE567, kE568, kE569] (ksp []) kE846 [kC846_0] 30000 (none) = true := asgqw (by decide +kernel)
theorem ks846_0 : aseg kS krf kB [kE562, kE567, kE568, kE569] (ksp []) kE846 [kC846_0] 30000 (some kC846_0) = true := asgqw (by decide +kernel)
theorem kok846 : aOK kS krf kB kE846 := aOK_of (kal1 kok562 (kal1 kok567 (kal1 kok568 (kal1 kok569 kal0)))) (kcl1 ks846_0 kcl0) ks846
/-- ColdShod$StrokePlan.addNext(LColdShod$Idea;I)V -/
def kE847 : aE := (83, 3, ([kvB 0 3, kvB 184 341], [(57, 183, .inl (0, .ofNat 0)), (52, 6, .inl (1, .ofNat 0))], 0, [kvR 52, some (.inr [20, 21, 22, 23, 24, 25, 26, 27]), kvN 183, none, none], []), ([], none), ([], [], none, ([], [])), kvW74)
def kC847_0 : aC := (([kvB 0 3, kvB 184 341, kvB 0 4, kvB 184 341], [(57, 183, .inl (0, .ofNat 0)), (52, 6, .inl (3, .ofNat 0))], 2, [kvR 52, some (.inr [20, 21, 22, 23, 24, 25, 26, 27]), kvN 183, kvI 2, none], []), ([], []), (4, [(-1, 2)]))
theorem ks847 : aseg kS krf kB [kE562, kE567, kE568, kE569] (ksp []) kE847 [kC847_0] 30000 (none) = true := asgqw (by decide +kernel)
theorem ks847_0 : aseg kS krf kB [kE562, kE567, kE568, kE569] (ksp []) kE847 [kC847_0] 30000 (some kC847_0) = true := asgqw (by decide +kernel)
theorem kok847 : aOK kS krf kB kE847 := aOK_of (kal1 kok562 (kal1 kok567 (kal1 kok568 (kal1 kok569 kal0)))) (kcl1 ks847_0 kcl0) ks847
/-- ColdShod$StrokePlan.addNext(LColdShod$Idea;I)V -/
def kE848 : aE := (83, 3, ([kvB 0 3, kvB 183 341], [(57, 182, .inl (0, .ofNat 0)), (52, 6, .inl (1, .ofNat 0))], 0, [kvR 52, some (.inr [20, 21, 22, 23, 24, 25, 26, 27]), kvN 182, none, none], []), ([], none), ([], [], none, ([], [])), kvW74)
def kC848_0 : aC := (([kvB 0 3, kvB 183 341, kvB 0 4, kvB 183 341], [(57, 182, .inl (0, .ofNat 0)), (52, 6, .inl (3, .ofNat 0))], 2, [kvR 52, some (.inr [20, 21, 22, 23, 24, 25, 26, 27]), kvN 182, kvI 2, none], []), ([], []), (4, [(-1, 2)]))
theorem ks848 : aseg kS krf kB [kE562, kE567, kE568, kE569] (ksp []) kE848 [kC848_0] 30000 (none) = true := asgqw (by decide +kernel)
theorem ks848_0 : aseg kS krf kB [kE562, kE567, kE568, kE569] (ksp []) kE848 [kC848_0] 30000 (some kC848_0) = true := asgqw (by decide +kernel)
theorem kok848 : aOK kS krf kB kE848 := aOK_of (kal1 kok562 (kal1 kok567 (kal1 kok568 (kal1 kok569 kal0)))) (kcl1 ks848_0 kcl0) ks848
/-- ColdShod$StrokePlan.addNext(LColdShod$Idea;I)V -/
def kE849 : aE := (83, 3, ([kvB 0 3, kvB 182 341], [(57, 181, .inl (0, .ofNat 0)), (52, 6, .inl (1, .ofNat 0))], 0, [kvR 52, some (.inr [20, 21, 22, 23, 24, 25, 26, 27]), kvN 181, none, none], []), ([], none), ([], [], none, ([], [])), kvW74)
def kC849_0 : aC := (([kvB 0 3, kvB 182 341, kvB 0 4, kvB 182 341], [(57, 181, .inl (0, .ofNat 0)), (52, 6, .inl (3, .ofNat 0))], 2, [kvR 52, some (.inr [20, 21, 22, 23, 24, 25, 26, 27]), kvN 181, kvI 2, none], []), ([], []), (4, [(-1, 2)]))
theorem ks849 : aseg kS krf kB [kE562, kE567, kE568, kE569] (ksp []) kE849 [kC849_0] 30000 (none) = true := asgqw (by decide +kernel)
theorem ks849_0 : aseg kS krf kB [kE562, kE567, kE568, kE569] (ksp []) kE849 [kC849_0] 30000 (some kC849_0) = true := asgqw (by decide +kernel)
theorem kok849 : aOK kS krf kB kE849 := aOK_of (kal1 kok562 (kal1 kok567 (kal1 kok568 (kal1 kok569 kal0)))) (kcl1 ks849_0 kcl0) ks849
/-- ColdShod$StrokePlan.addNext(LColdShod$Idea;I)V -/
def kE850 : aE := (83, 3, ([kvB 0 3, kvB 181 341], [(57, 180, .inl (0, .ofNat 0)), (52, 6, .inl (1, .ofNat 0))], 0, [kvR 52, some (.inr [20, 21, 22, 23, 24, 25, 26, 27]), kvN 180, none, none], []), ([], none), ([], [], none, ([], [])), kvW74)
def kC850_0 : aC := (([kvB 0 3, kvB 181 341, kvB 0 4, kvB 181 341], [(57, 180, .inl (0, .ofNat 0)), (52, 6, .inl (3, .ofNat 0))], 2, [kvR 52, some (.inr [20, 21, 22, 23, 24, 25, 26, 27]), kvN 180, kvI 2, none], []), ([], []), (4, [(-1, 2)]))
theorem ks850 : aseg kS krf kB [kE562, kE567, kE568, kE569] (ksp []) kE850 [kC850_0] 30000 (none) = true := asgqw (by decide +kernel)
theorem ks850_0 : aseg kS krf kB [kE562, kE567, kE568, kE569] (ksp []) kE850 [kC850_0] 30000 (some kC850_0) = true := asgqw (by decide +kernel)
theorem kok850 : aOK kS krf kB kE850 := aOK_of (kal1 kok562 (kal1 kok567 (kal1 kok568 (kal1 kok569 kal0)))) (kcl1 ks850_0 kcl0) ks850
/-- ColdShod$StrokePlan.addNext(LColdShod$Idea;I)V -/
def kE851 : aE := (83, 3, ([kvB 0 3, kvB 180 341], [(57, 179, .inl (0, .ofNat 0)), (52, 6, .inl (1, .ofNat 0))], 0, [kvR 52, some (.inr [20, 21, 22, 23, 24, 25, 26, 27]), kvN 179, none, none], []), ([], none), ([], [], none, ([], [])), kvW74)
def kC851_0 : aC := (([kvB 0 3, kvB 180 341, kvB 0 4, kvB 180 341], [(57, 179, .inl (0, .ofNat 0)), (52, 6, .inl (3, .ofNat 0))], 2, [kvR 52, some (.inr [20, 21, 22, 23, 24, 25, 26, 27]), kvN 179, kvI 2, none], []), ([], []), (4, [(-1, 2)]))
theorem ks851 : aseg kS krf kB [kE562, kE567, kE568, kE569] (ksp []) kE851 [kC851_0] 30000 (none) = true := asgqw (by decide +kernel)
theorem ks851_0 : aseg kS krf kB [kE562, kE567, kE568, kE569] (ksp []) kE851 [kC851_0] 30000 (some kC851_0) = true := asgqw (by decide +kernel)
theorem kok851 : aOK kS krf kB kE851 := aOK_of (kal1 kok562 (kal1 kok567 (kal1 kok568 (kal1 kok569 kal0)))) (kcl1 ks851_0 kcl0) ks851
/-- ColdShod$StrokePlan.addNext(LColdShod$Idea;I)V -/
def kE852 : aE := (83, 3, ([kvB 0 3, kvB 179 341], [(57, 178, .inl (0, .ofNat 0)), (52, 6, .inl (1, .ofNat 0))], 0, [kvR 52, some (.inr [20, 21, 22, 23, 24, 25, 26, 27]), kvN 178, none, none], []), ([], none), ([], [], none, ([], [])), kvW74)
def kC852_0 : aC := (([kvB 0 3, kvB 179 341, kvB 0 4, kvB 179 341], [(57, 178, .inl (0, .ofNat 0)), (52, 6, .inl (3, .ofNat 0))], 2, [kvR 52, some (.inr [20, 21, 22, 23, 24, 25, 26, 27]), kvN 178, kvI 2, none], []), ([], []), (4, [(-1, 2)]))
theorem ks852 : aseg kS krf kB [kE562, kE567, kE568, kE569] (ksp []) kE852 [kC852_0] 30000 (none) = true := asgqw (by decide +kernel)
theorem ks852_0 : aseg kS krf kB [kE562, kE567, kE568, kE569] (ksp []) kE852 [kC852_0] 30000 (some kC852_0) = true := asgqw (by decide +kernel)
theorem kok852 : aOK kS krf kB kE852 := aOK_of (kal1 kok562 (kal1 kok567 (kal1 kok568 (kal1 kok569 kal0)))) (kcl1 ks852_0 kcl0) ks852
/-- ColdShod$StrokePlan.addNext(LColdShod$Idea;I)V -/
def kE853 : aE := (83, 3, ([kvB 0 3, kvB 178 341], [(57, 177, .inl (0, .ofNat 0)), (52, 6, .inl (1, .ofNat 0))], 0, [kvR 52, some (.inr [20, 21, 22, 23, 24, 25, 26, 27]), kvN 177, none, none], []), ([], none), ([], [], none, ([], [])), kvW74)
def kC853_0 : aC := (([kvB 0 3, kvB 178 341, kvB 0 4, kvB 178 341], [(57, 177, .inl (0, .ofNat 0)), (52, 6, .inl (3, .ofNat 0))], 2, [kvR 52, some (.inr [20, 21, 22, 23, 24, 25, 26, 27]), kvN 177, kvI 2, none], []), ([], []), (4, [(-1, 2)]))
theorem ks853 : aseg kS krf kB [kE562, kE567, kE568, kE569] (ksp []) kE853 [kC853_0] 30000 (none) = true := asgqw (by decide +kernel)
theorem ks853_0 : aseg kS krf kB [kE562, kE567, kE568, kE569] (ksp []) kE853 [kC853_0] 30000 (some kC853_0) = true := asgqw (by decide +kernel)
theorem kok853 : aOK kS krf kB kE853 := aOK_of (kal1 kok562 (kal1 kok567 (kal1 kok568 (kal1 kok569 kal0)))) (kcl1 ks853_0 kcl0) ks853
/-- ColdShod$StrokePlan.addNext(LColdShod$Idea;I)V -/
def kE854 : aE := (83, 3, ([kvB 0 3, kvB 177 341], [(57, 176, .inl (0, .ofNat 0)), (52, 6, .inl (1, .ofNat 0))], 0, [kvR 52, some (.inr [20, 21, 22, 23, 24, 25, 26, 27]), kvN 176, none, none], []), ([], none), ([], [], none, ([], [])), kvW74)
def kC854_0 : aC := (([kvB 0 3, kvB 177 341, kvB 0 4, kvB 177 341], [(57, 176, .inl (0, .ofNat 0)), (52, 6, .inl (3, .ofNat 0))], 2, [kvR 52, some (.inr [20, 21, 22, 23, 24, 25, 26, 27]), kvN 176, kvI 2, none], []), ([], []), (4, [(-1, 2)]))
theorem ks854 : aseg kS krf kB [kE562, kE567, kE568, kE569] (ksp []) kE854 [kC854_0] 30000 (none) = true := asgqw (by decide +kernel)
theorem ks854_0 : aseg kS krf kB [kE562, kE567, kE568, kE569] (ksp []) kE854 [kC854_0] 30000 (some kC854_0) = true := asgqw (by decide +kernel)
theorem kok854 : aOK kS krf kB kE854 := aOK_of (kal1 kok562 (kal1 kok567 (kal1 kok568 (kal1 kok569 kal0)))) (kcl1 ks854_0 kcl0) ks854
/-- ColdShod$StrokePlan.addNext(LColdShod$Idea;I)V -/
def kE855 : aE := (83, 3, ([kvB 0 3, kvB 176 341], [(57, 175, .inl (0, .ofNat 0)), (52, 6, .inl (1, .ofNat 0))], 0, [kvR 52, some (.inr [20, 21, 22, 23, 24, 25, 26, 27]), kvN 175, none, none], []), ([], none), ([], [], none, ([], [])), kvW74)
def kC855_0 : aC := (([kvB 0 3, kvB 176 341, kvB 0 4, kvB 176 341], [(57, 175, .inl (0, .ofNat 0)), (52, 6, .inl (3, .ofNat 0))], 2, [kvR 52, some (.inr [20, 21, 22, 23, 24, 25, 26, 27]), kvN 175, kvI 2, none], []), ([], []), (4, [(-1, 2)]))
theorem ks855 : aseg kS krf kB [kE562, kE567, kE568, kE569] (ksp []) kE855 [kC855_0] 30000 (none) = true := asgqw (by decide +kernel)
theorem ks855_0 : aseg kS krf kB [kE562, kE567, kE568, kE569] (ksp []) kE855 [kC855_0] 30000 (some kC855_0) = true := asgqw (by decide +kernel)
theorem kok855 : aOK kS krf kB kE855 := aOK_of (kal1 kok562 (kal1 kok567 (kal1 kok568 (kal1 kok569 kal0)))) (kcl1 ks855_0 kcl0) ks855
/-- ColdShod$StrokePlan.addNext(LColdShod$Idea;I)V -/
def kE856 : aE := (83, 3, ([kvB 0 3, kvB 175 341], [(57, 174, .inl (0, .ofNat 0)), (52, 6, .inl (1, .ofNat 0))], 0, [kvR 52, some (.inr [20, 21, 22, 23, 24, 25, 26, 27]), kvN 174, none, none], []), ([], none), ([], [], none, ([], [])), kvW74)
def kC856_0 : aC := (([kvB 0 3, kvB 175 341, kvB 0 4, kvB 175 341], [(57, 174, .inl (0, .ofNat 0)), (52, 6, .inl (3, .ofNat 0))], 2, [kvR 52, some (.inr [20, 21, 22, 23, 24, 25, 26, 27]), kvN 174, kvI 2, none], []), ([], []), (4, [(-1, 2)]))
theorem ks856 : aseg kS krf kB [kE562, kE567, kE568, kE569] (ksp []) kE856 [kC856_0] 30000 (none) = true := asgqw (by decide +kernel)
theorem ks856_0 : aseg kS krf kB [kE562, kE567, kE568, kE569] (ksp []) kE856 [kC856_0] 30000 (some kC856_0) = true := asgqw (by decide +kernel)
theorem kok856 : aOK kS krf kB kE856 := aOK_of (kal1 kok562 (kal1 kok567 (kal1 kok568 (kal1 kok569 kal0)))) (kcl1 ks856_0 kcl0) ks856
/-- ColdShod$StrokePlan.addNext(LColdShod$Idea;I)V -/
def kE857 : aE := (83, 3, ([kvB 0 3, kvB 174 341], [(57, 173, .inl (0, .ofNat 0)), (52, 6, .inl (1, .ofNat 0))], 0, [kvR 52, some (.inr [20, 21, 22, 23, 24, 25, 26, 27]), kvN 173, none, none], []), ([], none), ([], [], none, ([], [])), kvW74)
def kC857_0 : aC := (([kvB 0 3, kvB 174 341, kvB 0 4, kvB 174 341], [(57, 173, .inl (0, .ofNat 0)), (52, 6, .inl (3, .ofNat 0))], 2, [kvR 52, some (.inr [20, 21, 22, 23, 24, 25, 26, 27]), kvN 173, kvI 2, none], []), ([], []), (4, [(-1, 2)]))
theorem ks857 : aseg kS krf kB [kE562, kE567, kE568, kE569] (ksp []) kE857 [kC857_0] 30000 (none) = true := asgqw (by decide +kernel)
theorem ks857_0 : aseg kS krf kB [kE562, kE567, kE568, kE569] (ksp []) kE857 [kC857_0] 30000 (some kC857_0) = true := asgqw (by decide +kernel)
theorem kok857 : aOK kS krf kB kE857 := aOK_of (kal1 kok562 (kal1 kok567 (kal1 kok568 (kal1 kok569 kal0)))) (kcl1 ks857_0 kcl0) ks857
/-- ColdShod$StrokePlan.addNext(LColdShod$Idea;I)V -/
def kE858 : aE := (83, 3, ([kvB 0 3, kvB 173 341], [(57, 172, .inl (0, .ofNat 0)), (52, 6, .inl (1, .ofNat 0))], 0, [kvR 52, some (.inr [20, 21, 22, 23, 24, 25, 26, 27]), kvN 172, none, none], []), ([], none), ([], [], none, ([], [])), kvW74)
def kC858_0 : aC := (([kvB 0 3, kvB 173 341, kvB 0 4, kvB 173 341], [(57, 172, .inl (0, .ofNat 0)), (52, 6, .inl (3, .ofNat 0))], 2, [kvR 52, some (.inr [20, 21, 22, 23, 24, 25, 26, 27]), kvN 172, kvI 2, none], []), ([], []), (4, [(-1, 2)]))
theorem ks858 : aseg kS krf kB [kE562, kE567, kE568, kE569] (ksp []) kE858 [kC858_0] 30000 (none) = true := asgqw (by decide +kernel)
theorem ks858_0 : aseg kS krf kB [kE562, kE567, kE568, kE569] (ksp []) kE858 [kC858_0] 30000 (some kC858_0) = true := asgqw (by decide +kernel)
theorem kok858 : aOK kS krf kB kE858 := aOK_of (kal1 kok562 (kal1 kok567 (kal1 kok568 (kal1 kok569 kal0)))) (kcl1 ks858_0 kcl0) ks858
/-- ColdShod$StrokePlan.addNext(LColdShod$Idea;I)V -/
def kE859 : aE := (83, 3, ([kvB 0 3, kvB 172 341], [(57, 171, .inl (0, .ofNat 0)), (52, 6, .inl (1, .ofNat 0))], 0, [kvR 52, some (.inr [20, 21, 22, 23, 24, 25, 26, 27]), kvN 171, none, none], []), ([], none), ([], [], none, ([], [])), kvW74)
def kC859_0 : aC := (([kvB 0 3, kvB 172 341, kvB 0 4, kvB 172 341], [(57, 171, .inl (0, .ofNat 0)), (52, 6, .inl (3, .ofNat 0))], 2, [kvR 52, some (.inr [20, 21, 22, 23, 24, 25, 26, 27]), kvN 171, kvI 2, none], []), ([], []), (4, [(-1, 2)]))
theorem ks859 : aseg kS krf kB [kE562, kE567, kE568, kE569] (ksp []) kE859 [kC859_0] 30000 (none) = true := asgqw (by decide +kernel)
theorem ks859_0 : aseg kS krf kB [kE562, kE567, kE568, kE569] (ksp []) kE859 [kC859_0] 30000 (some kC859_0) = true := asgqw (by decide +kernel)
theorem kok859 : aOK kS krf kB kE859 := aOK_of (kal1 kok562 (kal1 kok567 (kal1 kok568 (kal1 kok569 kal0)))) (kcl1 ks859_0 kcl0) ks859
/-- ColdShod$StrokePlan.addNext(LColdShod$Idea;I)V -/
def kE860 : aE := (83, 3, ([kvB 0 3, kvB 171 341], [(57, 170, .inl (0, .ofNat 0)), (52, 6, .inl (1, .ofNat 0))], 0, [kvR 52, some (.inr [20, 21, 22, 23, 24, 25, 26, 27]), kvN 170, none, none], []), ([], none), ([], [], none, ([], [])), kvW74)
def kC860_0 : aC := (([kvB 0 3, kvB 171 341, kvB 0 4, kvB 171 341], [(57, 170, .inl (0, .ofNat 0)), (52, 6, .inl (3, .ofNat 0))], 2, [kvR 52, some (.inr [20, 21, 22, 23, 24, 25, 26, 27]), kvN 170, kvI 2, none], []), ([], []), (4, [(-1, 2)]))
theorem ks860 : aseg kS krf kB [kE562, kE567, kE568, kE569] (ksp []) kE860 [kC860_0] 30000 (none) = true := asgqw (by decide +kernel)
theorem ks860_0 : aseg kS krf kB [kE562, kE567, kE568, kE569] (ksp []) kE860 [kC860_0] 30000 (some kC860_0) = true := asgqw (by decide +kernel)
theorem kok860 : aOK kS krf kB kE860 := aOK_of (kal1 kok562 (kal1 kok567 (kal1 kok568 (kal1 kok569 kal0)))) (kcl1 ks860_0 kcl0) ks860
/-- ColdShod$StrokePlan.addNext(LColdShod$Idea;I)V -/
def kE861 : aE := (83, 3, ([kvB 0 3, kvB 170 341], [(57, 169, .inl (0, .ofNat 0)), (52, 6, .inl (1, .ofNat 0))], 0, [kvR 52, some (.inr [20, 21, 22, 23, 24, 25, 26, 27]), kvN 169, none, none], []), ([], none), ([], [], none, ([], [])), kvW74)
def kC861_0 : aC := (([kvB 0 3, kvB 170 341, kvB 0 4, kvB 170 341], [(57, 169, .inl (0, .ofNat 0)), (52, 6, .inl (3, .ofNat 0))], 2, [kvR 52, some (.inr [20, 21, 22, 23, 24, 25, 26, 27]), kvN 169, kvI 2, none], []), ([], []), (4, [(-1, 2)]))
theorem ks861 : aseg kS krf kB [kE562, kE567, kE568, kE569] (ksp []) kE861 [kC861_0] 30000 (none) = true := asgqw (by decide +kernel)
theorem ks861_0 : aseg kS krf kB [kE562, kE567, kE568, kE569] (ksp []) kE861 [kC861_0] 30000 (some kC861_0) = true := asgqw (by decide +kernel)
theorem kok861 : aOK kS krf kB kE861 := aOK_of (kal1 kok562 (kal1 kok567 (kal1 kok568 (kal1 kok569 kal0)))) (kcl1 ks861_0 kcl0) ks861
/-- ColdShod$StrokePlan.addNext(LColdShod$Idea;I)V -/
def kE862 : aE := (83, 3, ([kvB 0 3, kvB 169 341], [(57, 168, .inl (0, .ofNat 0)), (52, 6, .inl (1, .ofNat 0))], 0, [kvR 52, some (.inr [20, 21, 22, 23, 24, 25, 26, 27]), kvN 168, none, none], []), ([], none), ([], [], none, ([], [])), kvW74)
def kC862_0 : aC := (([kvB 0 3, kvB 169 341, kvB 0 4, kvB 169 341], [(57, 168, .inl (0, .ofNat 0)), (52, 6, .inl (3, .ofNat 0))], 2, [kvR 52, some (.inr [20, 21, 22, 23, 24, 25, 26, 27]), kvN 168, kvI 2, none], []), ([], []), (4, [(-1, 2)]))
theorem ks862 : aseg kS krf kB [kE562, kE567, kE568, kE569] (ksp []) kE862 [kC862_0] 30000 (none) = true := asgqw (by decide +kernel)
theorem ks862_0 : aseg kS krf kB [kE562, kE567, kE568, kE569] (ksp []) kE862 [kC862_0] 30000 (some kC862_0) = true := asgqw (by decide +kernel)
theorem kok862 : aOK kS krf kB kE862 := aOK_of (kal1 kok562 (kal1 kok567 (kal1 kok568 (kal1 kok569 kal0)))) (kcl1 ks862_0 kcl0) ks862
/-- ColdShod$StrokePlan.addNext(LColdShod$Idea;I)V -/
def kE863 : aE := (83, 3, ([kvB 0 3, kvB 168 341], [(57, 167, .inl (0, .ofNat 0)), (52, 6, .inl (1, .ofNat 0))], 0, [kvR 52, some (.inr [20, 21, 22, 23, 24, 25, 26, 27]), kvN 167, none, none], []), ([], none), ([], [], none, ([], [])), kvW74)
def kC863_0 : aC := (([kvB 0 3, kvB 168 341, kvB 0 4, kvB 168 341], [(57, 167, .inl (0, .ofNat 0)), (52, 6, .inl (3, .ofNat 0))], 2, [kvR 52, some (.inr [20, 21, 22, 23, 24, 25, 26, 27]), kvN 167, kvI 2, none], []), ([], []), (4, [(-1, 2)]))
theorem ks863 : aseg kS krf kB [kE562, kE567, kE568, kE569] (ksp []) kE863 [kC863_0] 30000 (none) = true := asgqw (by decide +kernel)
theorem ks863_0 : aseg kS krf kB [kE562, kE567, kE568, kE569] (ksp []) kE863 [kC863_0] 30000 (some kC863_0) = true := asgqw (by decide +kernel)
theorem kok863 : aOK kS krf kB kE863 := aOK_of (kal1 kok562 (kal1 kok567 (kal1 kok568 (kal1 kok569 kal0)))) (kcl1 ks863_0 kcl0) ks863
/-- ColdShod$StrokePlan.addNext(LColdShod$Idea;I)V -/
def kE864 : aE := (83, 3, ([kvB 0 3, kvB 167 341], [(57, 166, .inl (0, .ofNat 0)), (52, 6, .inl (1, .ofNat 0))], 0, [kvR 52, some (.inr [20, 21, 22, 23, 24, 25, 26, 27]), kvN 166, none, none], []), ([], none), ([], [], none, ([], [])), kvW74)
def kC864_0 : aC := (([kvB 0 3, kvB 167 341, kvB 0 4, kvB 167 341], [(57, 166, .inl (0, .ofNat 0)), (52, 6, .inl (3, .ofNat 0))], 2, [kvR 52, some (.inr [20, 21, 22, 23, 24, 25, 26, 27]), kvN 166, kvI 2, none], []), ([], []), (4, [(-1, 2)]))
theorem ks864 : aseg kS krf kB [kE562, kE567, kE568, kE569] (ksp []) kE864 [kC864_0] 30000 (none) = true := asgqw (by decide +kernel)
theorem ks864_0 : aseg kS krf kB [kE562, kE567, kE568, kE569] (ksp []) kE864 [kC864_0] 30000 (some kC864_0) = true := asgqw (by decide +kernel)
theorem kok864 : aOK kS krf kB kE864 := aOK_of (kal1 kok562 (kal1 kok567 (kal1 kok568 (kal1 kok569 kal0)))) (kcl1 ks864_0 kcl0) ks864
/-- ColdShod$StrokePlan.addNext(LColdShod$Idea;I)V -/
def kE865 : aE := (83, 3, ([kvB 0 3, kvB 166 341], [(57, 165, .inl (0, .ofNat 0)), (52, 6, .inl (1, .ofNat 0))], 0, [kvR 52, some (.inr [20, 21, 22, 23, 24, 25, 26, 27]), kvN 165, none, none], []), ([], none), ([], [], none, ([], [])), kvW74)
def kC865_0 : aC := (([kvB 0 3, kvB 166 341, kvB 0 4, kvB 166 341], [(57, 165, .inl (0, .ofNat 0)), (52, 6, .inl (3, .ofNat 0))], 2, [kvR 52, some (.inr [20, 21, 22, 23, 24, 25, 26, 27]), kvN 165, kvI 2, none], []), ([], []), (4, [(-1, 2)]))
theorem ks865 : aseg kS krf kB [kE562, kE567, kE568, kE569] (ksp []) kE865 [kC865_0] 30000 (none) = true := asgqw (by decide +kernel)
theorem ks865_0 : aseg kS krf kB [kE562, kE567, kE568, kE569] (ksp []) kE865 [kC865_0] 30000 (some kC865_0) = true := asgqw (by decide +kernel)
theorem kok865 : aOK kS krf kB kE865 := aOK_of (kal1 kok562 (kal1 kok567 (kal1 kok568 (kal1 kok569 kal0)))) (kcl1 ks865_0 kcl0) ks865
/-- ColdShod$StrokePlan.addNext(LColdShod$Idea;I)V -/
def kE866 : aE := (83, 3, ([kvB 0 3, kvB 165 341], [(57, 164, .inl (0, .ofNat 0)), (52, 6, .inl (1, .ofNat 0))], 0, [kvR 52, some (.inr [20, 21, 22, 23, 24, 25, 26, 27]), kvN 164, none, none], []), ([], none), ([], [], none, ([], [])), kvW74)
def kC866_0 : aC := (([kvB 0 3, kvB 165 341, kvB 0 4, kvB 165 341], [(57, 164, .inl (0, .ofNat 0)), (52, 6, .inl (3, .ofNat 0))], 2, [kvR 52, some (.inr [20, 21, 22, 23, 24, 25, 26, 27]), kvN 164, kvI 2, none], []), ([], []), (4, [(-1, 2)]))
theorem ks866 : aseg kS krf kB [kE562, kE567, kE568, kE569] (ksp []) kE866 [kC866_0] 30000 (none) = true := asgqw (by decide +kernel)
theorem ks866_0 : aseg kS krf kB [kE562, kE567, kE568, kE569] (ksp []) kE866 [kC866_0] 30000 (some kC866_0) = true := asgqw (by decide +kernel)
theorem kok866 : aOK kS krf kB kE866 := aOK_of (kal1 kok562 (kal1 kok567 (kal1 kok568 (kal1 kok569 kal0)))) (kcl1 ks866_0 kcl0) ks866
/-- ColdShod$StrokePlan.addNext(LColdShod$Idea;I)V -/
def kE867 : aE := (83, 3, ([kvB 0 3, kvB 164 341], [(57, 163, .inl (0, .ofNat 0)), (52, 6, .inl (1, .ofNat 0))], 0, [kvR 52, some (.inr [20, 21, 22, 23, 24, 25, 26, 27]), kvN 163, none, none], []), ([], none), ([], [], none, ([], [])), kvW74)
def kC867_0 : aC := (([kvB 0 3, kvB 164 341, kvB 0 4, kvB 164 341], [(57, 163, .inl (0, .ofNat 0)), (52, 6, .inl (3, .ofNat 0))], 2, [kvR 52, some (.inr [20, 21, 22, 23, 24, 25, 26, 27]), kvN 163, kvI 2, none], []), ([], []), (4, [(-1, 2)]))
theorem ks867 : aseg kS krf kB [kE562, kE567, kE568, kE569] (ksp []) kE867 [kC867_0] 30000 (none) = true := asgqw (by decide +kernel)
theorem ks867_0 : aseg kS krf kB [kE562, kE567, kE568, kE569] (ksp []) kE867 [kC867_0] 30000 (some kC867_0) = true := asgqw (by decide +kernel)
theorem kok867 : aOK kS krf kB kE867 := aOK_of (kal1 kok562 (kal1 kok567 (kal1 kok568 (kal1 kok569 kal0)))) (kcl1 ks867_0 kcl0) ks867
/-- ColdShod$StrokePlan.addNext(LColdShod$Idea;I)V -/
def kE868 : aE := (83, 3, ([kvB 0 3, kvB 163 341], [(57, 162, .inl (0, .ofNat 0)), (52, 6, .inl (1, .ofNat 0))], 0, [kvR 52, some (.inr [20, 21, 22, 23, 24, 25, 26, 27]), kvN 162, none, none], []), ([], none), ([], [], none, ([], [])), kvW74)
def kC868_0 : aC := (([kvB 0 3, kvB 163 341, kvB 0 4, kvB 163 341], [(57, 162, .inl (0, .ofNat 0)), (52, 6, .inl (3, .ofNat 0))], 2, [kvR 52, some (.inr [20, 21, 22, 23, 24, 25, 26, 27]), kvN 162, kvI 2, none], []), ([], []), (4, [(-1, 2)]))
theorem ks868 : aseg kS krf kB [kE562, kE567, kE568, kE569] (ksp []) kE868 [kC868_0] 30000 (none) = true := asgqw (by decide +kernel)
theorem ks868_0 : aseg kS krf kB [kE562, kE567, kE568, kE569] (ksp []) kE868 [kC868_0] 30000 (some kC868_0) = true := asgqw (by decide +kernel)
theorem kok868 : aOK kS krf kB kE868 := aOK_of (kal1 kok562 (kal1 kok567 (kal1 kok568 (kal1 kok569 kal0)))) (kcl1 ks868_0 kcl0) ks868
/-- ColdShod$StrokePlan.addNext(LColdShod$Idea;I)V -/
def kE869 : aE := (83, 3, ([kvB 0 3, kvB 162 341], [(57, 161, .inl (0, .ofNat 0)), (52, 6, .inl (1, .ofNat 0))], 0, [kvR 52, some (.inr [20, 21, 22, 23, 24, 25, 26, 27]), kvN 161, none, none], []), ([], none), ([], [], none, ([], [])), kvW74)
def kC869_0 : aC := (([kvB 0 3, kvB 162 341, kvB 0 4, kvB 162 341], [(57, 161, .inl (0, .ofNat 0)), (52, 6, .inl (3, .ofNat 0))], 2, [kvR 52, some (.inr [20, 21, 22, 23, 24, 25, 26, 27]), kvN 161, kvI 2, none], []), ([], []), (4, [(-1, 2)]))
theorem ks869 : aseg kS krf kB [kE562, kE567, kE568, kE569] (ksp []) kE869 [kC869_0] 30000 (none) = true := asgqw (by decide +kernel)
theorem ks869_0 : aseg kS krf kB [kE562, kE567, kE568, kE569] (ksp []) kE869 [kC869_0] 30000 (some kC869_0) = true := asgqw (by decide +kernel)
theorem kok869 : aOK kS krf kB kE869 := aOK_of (kal1 kok562 (kal1 kok567 (kal1 kok568 (kal1 kok569 kal0)))) (kcl1 ks869_0 kcl0) ks869
/-- ColdShod$StrokePlan.addNext(LColdShod$Idea;I)V -/
def kE870 : aE := (83, 3, ([kvB 0 3, kvB 161 341], [(57, 160, .inl (0, .ofNat 0)), (52, 6, .inl (1, .ofNat 0))], 0, [kvR 52, some (.inr [20, 21, 22, 23, 24, 25, 26, 27]), kvN 160, none, none], []), ([], none), ([], [], none, ([], [])), kvW74)
def kC870_0 : aC := (([kvB 0 3, kvB 161 341, kvB 0 4, kvB 161 341], [(57, 160, .inl (0, .ofNat 0)), (52, 6, .inl (3, .ofNat 0))], 2, [kvR 52, some (.inr [20, 21, 22, 23, 24, 25, 26, 27]), kvN 160, kvI 2, none], []), ([], []), (4, [(-1, 2)]))
theorem ks870 : aseg kS krf kB [kE562, kE567, kE568, kE569] (ksp []) kE870 [kC870_0] 30000 (none) = true := asgqw (by decide +kernel)
theorem ks870_0 : aseg kS krf kB [kE562, kE567, kE568, kE569] (ksp []) kE870 [kC870_0] 30000 (some kC870_0) = true := asgqw (by decide +kernel)
theorem kok870 : aOK kS krf kB kE870 := aOK_of (kal1 kok562 (kal1 kok567 (kal1 kok568 (kal1 kok569 kal0)))) (kcl1 ks870_0 kcl0) ks870
/-- ColdShod$StrokePlan.addNext(LColdShod$Idea;I)V -/
def kE871 : aE := (83, 3, ([kvB 0 3, kvB 160 341], [(57, 159, .inl (0, .ofNat 0)), (52, 6, .inl (1, .ofNat 0))], 0, [kvR 52, some (.inr [20, 21, 22, 23, 24, 25, 26, 27]), kvN 159, none, none], []), ([], none), ([], [], none, ([], [])), kvW74)
def kC871_0 : aC := (([kvB 0 3, kvB 160 341, kvB 0 4, kvB 160 341], [(57, 159, .inl (0, .ofNat 0)), (52, 6, .inl (3, .ofNat 0))], 2, [kvR 52, some (.inr [20, 21, 22, 23, 24, 25, 26, 27]), kvN 159, kvI 2, none], []), ([], []), (4, [(-1, 2)]))
theorem ks871 : aseg kS krf kB [kE562, kE567, kE568, kE569] (ksp []) kE871 [kC871_0] 30000 (none) = true := asgqw (by decide +kernel)
theorem ks871_0 : aseg kS krf kB [kE562, kE567, kE568, kE569] (ksp []) kE871 [kC871_0] 30000 (some kC871_0) = true := asgqw (by decide +kernel)
theorem kok871 : aOK kS krf kB kE871 := aOK_of (kal1 kok562 (kal1 kok567 (kal1 kok568 (kal1 kok569 kal0)))) (kcl1 ks871_0 kcl0) ks871
/-- ColdShod$StrokePlan.addNext(LColdShod$Idea;I)V -/
def kE872 : aE := (83, 3, ([kvB 0 3, kvB 159 341], [(57, 158, .inl (0, .ofNat 0)), (52, 6, .inl (1, .ofNat 0))], 0, [kvR 52, some (.inr [20, 21, 22, 23, 24, 25, 26, 27]), kvN 158, none, none], []), ([], none), ([], [], none, ([], [])), kvW74)
def kC872_0 : aC := (([kvB 0 3, kvB 159 341, kvB 0 4, kvB 159 341], [(57, 158, .inl (0, .ofNat 0)), (52, 6, .inl (3, .ofNat 0))], 2, [kvR 52, some (.inr [20, 21, 22, 23, 24, 25, 26, 27]), kvN 158, kvI 2, none], []), ([], []), (4, [(-1, 2)]))
theorem ks872 : aseg kS krf kB [kE562, kE567, kE568, kE569] (ksp []) kE872 [kC872_0] 30000 (none) = true := asgqw (by decide +kernel)
theorem ks872_0 : aseg kS krf kB [kE562, kE567, kE568, kE569] (ksp []) kE872 [kC872_0] 30000 (some kC872_0) = true := asgqw (by decide +kernel)
theorem kok872 : aOK kS krf kB kE872 := aOK_of (kal1 kok562 (kal1 kok567 (kal1 kok568 (kal1 kok569 kal0)))) (kcl1 ks872_0 kcl0) ks872
/-- ColdShod$StrokePlan.addNext(LColdShod$Idea;I)V -/
def kE873 : aE := (83, 3, ([kvB 0 3, kvB 158 341], [(57, 157, .inl (0, .ofNat 0)), (52, 6, .inl (1, .ofNat 0))], 0, [kvR 52, some (.inr [20, 21, 22, 23, 24, 25, 26, 27]), kvN 157, none, none], []), ([], none), ([], [], none, ([], [])), kvW74)
def kC873_0 : aC := (([kvB 0 3, kvB 158 341, kvB 0 4, kvB 158 341], [(57, 157, .inl (0, .ofNat 0)), (52, 6, .inl (3, .ofNat 0))], 2, [kvR 52, some (.inr [20, 21, 22, 23, 24, 25, 26, 27]), kvN 157, kvI 2, none], []), ([], []), (4, [(-1, 2)]))
theorem ks873 : aseg kS krf kB [kE562, kE567, kE568, kE569] (ksp []) kE873 [kC873_0] 30000 (none) = true := asgqw (by decide +kernel)
theorem ks873_0 : aseg kS krf kB [kE562, kE567, kE568, kE569] (ksp []) kE873 [kC873_0] 30000 (some kC873_0) = true := asgqw (by decide +kernel)
theorem kok873 : aOK kS krf kB kE873 := aOK_of (kal1 kok562 (kal1 kok567 (kal1 kok568 (kal1 kok569 kal0)))) (kcl1 ks873_0 kcl0) ks873
/-- ColdShod$StrokePlan.addNext(LColdShod$Idea;I)V -/
def kE874 : aE := (83, 3, ([kvB 0 3, kvB 157 341], [(57, 156, .inl (0, .ofNat 0)), (52, 6, .inl (1, .ofNat 0))], 0, [kvR 52, some (.inr [20, 21, 22, 23, 24, 25, 26, 27]), kvN 156, none, none], []), ([], none), ([], [], none, ([], [])), kvW74)
def kC874_0 : aC := (([kvB 0 3, kvB 157 341, kvB 0 4, kvB 157 341], [(57, 156, .inl (0, .ofNat 0)), (52, 6, .inl (3, .ofNat 0))], 2, [kvR 52, some (.inr [20, 21, 22, 23, 24, 25, 26, 27]), kvN 156, kvI 2, none], []), ([], []), (4, [(-1, 2)]))
theorem ks874 : aseg kS krf kB [kE562, kE567, kE568, kE569] (ksp []) kE874 [kC874_0] 30000 (none) = true := asgqw (by decide +kernel)
theorem ks874_0 : aseg kS krf kB [kE562, kE567, kE568, kE569] (ksp []) kE874 [kC874_0] 30000 (some kC874_0) = true := asgqw (by decide +kernel)
theorem kok874 : aOK kS krf kB kE874 := aOK_of (kal1 kok562 (kal1 kok567 (kal1 kok568 (kal1 kok569 kal0)))) (kcl1 ks874_0 kcl0) ks874
/-- ColdShod$StrokePlan.addNext(LColdShod$Idea;I)V -/
def kE875 : aE := (83, 3, ([kvB 0 3, kvB 156 341], [(57, 155, .inl (0, .ofNat 0)), (52, 6, .inl (1, .ofNat 0))], 0, [kvR 52, some (.inr [20, 21, 22, 23, 24, 25, 26, 27]), kvN 155, none, none], []), ([], none), ([], [], none, ([], [])), kvW74)
def kC875_0 : aC := (([kvB 0 3, kvB 156 341, kvB 0 4, kvB 156 341], [(57, 155, .inl (0, .ofNat 0)), (52, 6, .inl (3, .ofNat 0))], 2, [kvR 52, some (.inr [20, 21, 22, 23, 24, 25, 26, 27]), kvN 155, kvI 2, none], []), ([], []), (4, [(-1, 2)]))
theorem ks875 : aseg kS krf kB [kE562, kE567, kE568, kE569] (ksp []) kE875 [kC875_0] 30000 (none) = true := asgqw (by decide +kernel)
theorem ks875_0 : aseg kS krf kB [kE562, kE567, kE568, kE569] (ksp []) kE875 [kC875_0] 30000 (some kC875_0) = true := asgqw (by decide +kernel)
theorem kok875 : aOK kS krf kB kE875 := aOK_of (kal1 kok562 (kal1 kok567 (kal1 kok568 (kal1 kok569 kal0)))) (kcl1 ks875_0 kcl0) ks875
/-- ColdShod$StrokePlan.addNext(LColdShod$Idea;I)V -/
def kE876 : aE := (83, 3, ([kvB 0 3, kvB 155 341], [(57, 154, .inl (0, .ofNat 0)), (52, 6, .inl (1, .ofNat 0))], 0, [kvR 52, some (.inr [20, 21, 22, 23, 24, 25, 26, 27]), kvN 154, none, none], []), ([], none), ([], [], none, ([], [])), kvW74)
def kC876_0 : aC := (([kvB 0 3, kvB 155 341, kvB 0 4, kvB 155 341], [(57, 154, .inl (0, .ofNat 0)), (52, 6, .inl (3, .ofNat 0))], 2, [kvR 52, some (.inr [20, 21, 22, 23, 24, 25, 26, 27]), kvN 154, kvI 2, none], []), ([], []), (4, [(-1, 2)]))
theorem ks876 : aseg kS krf kB [kE562, kE567, kE568, kE569] (ksp []) kE876 [kC876_0] 30000 (none) = true := asgqw (by decide +kernel)
theorem ks876_0 : aseg kS krf kB [kE562, kE567, kE568, kE569] (ksp []) kE876 [kC876_0] 30000 (some kC876_0) = true := asgqw (by decide +kernel)
theorem kok876 : aOK kS krf kB kE876 := aOK_of (kal1 kok562 (kal1 kok567 (kal1 kok568 (kal1 kok569 kal0)))) (kcl1 ks876_0 kcl0) ks876
/-- ColdShod$StrokePlan.addNext(LColdShod$Idea;I)V -/
def kE877 : aE := (83, 3, ([kvB 0 3, kvB 154 341], [(57, 153, .inl (0, .ofNat 0)), (52, 6, .inl (1, .ofNat 0))], 0, [kvR 52, some (.inr [20, 21, 22, 23, 24, 25, 26, 27]), kvN 153, none, none], []), ([], none), ([], [], none, ([], [])), kvW74)
def kC877_0 : aC := (([kvB 0 3, kvB 154 341, kvB 0 4, kvB 154 341], [(57, 153, .inl (0, .ofNat 0)), (52, 6, .inl (3, .ofNat 0))], 2, [kvR 52, some (.inr [20, 21, 22, 23, 24, 25, 26, 27]), kvN 153, kvI 2, none], []), ([], []), (4, [(-1, 2)]))
theorem ks877 : aseg kS krf kB [kE562, kE567, kE568, kE569] (ksp []) kE877 [kC877_0] 30000 (none) = true := asgqw (by decide +kernel)
theorem ks877_0 : aseg kS krf kB [kE562, kE567, kE568, kE569] (ksp []) kE877 [kC877_0] 30000 (some kC877_0) = true := asgqw (by decide +kernel)
theorem kok877 : aOK kS krf kB kE877 := aOK_of (kal1 kok562 (kal1 kok567 (kal1 kok568 (kal1 kok569 kal0)))) (kcl1 ks877_0 kcl0) ks877
/-- ColdShod$StrokePlan.addNext(LColdShod$Idea;I)V -/
def kE878 : aE := (83, 3, ([kvB 0 3, kvB 153 341], [(57, 152, .inl (0, .ofNat 0)), (52, 6, .inl (1, .ofNat 0))], 0, [kvR 52, some (.inr [20, 21, 22, 23, 24, 25, 26, 27]), kvN 152, none, none], []), ([], none), ([], [], none, ([], [])), kvW74)
def kC878_0 : aC := (([kvB 0 3, kvB 153 341, kvB 0 4, kvB 153 341], [(57, 152, .inl (0, .ofNat 0)), (52, 6, .inl (3, .ofNat 0))], 2, [kvR 52, some (.inr [20, 21, 22, 23, 24, 25, 26, 27]), kvN 152, kvI 2, none], []), ([], []), (4, [(-1, 2)]))
theorem ks878 : aseg kS krf kB [kE562, kE567, kE568, kE569] (ksp []) kE878 [kC878_0] 30000 (none) = true := asgqw (by decide +kernel)
theorem ks878_0 : aseg kS krf kB [kE562, kE567, kE568, kE569] (ksp []) kE878 [kC878_0] 30000 (some kC878_0) = true := asgqw (by decide +kernel)
theorem kok878 : aOK kS krf kB kE878 := aOK_of (kal1 kok562 (kal1 kok567 (kal1 kok568 (kal1 kok569 kal0)))) (kcl1 ks878_0 kcl0) ks878
/-- ColdShod$StrokePlan.addNext(LColdShod$Idea;I)V -/
def kE879 : aE := (83, 3, ([kvB 0 3, kvB 152 341], [(57, 151, .inl (0, .ofNat 0)), (52, 6, .inl (1, .ofNat 0))], 0, [kvR 52, some (.inr [20, 21, 22, 23, 24, 25, 26, 27]), kvN 151, none, none], []), ([], none), ([], [], none, ([], [])), kvW74)
def kC879_0 : aC := (([kvB 0 3, kvB 152 341, kvB 0 4, kvB 152 341], [(57, 151, .inl (0, .ofNat 0)), (52, 6, .inl (3, .ofNat 0))], 2, [kvR 52, some (.inr [20, 21, 22, 23, 24, 25, 26, 27]), kvN 151, kvI 2, none], []), ([], []), (4, [(-1, 2)]))
theorem ks879 : aseg kS krf kB [kE562, kE567, kE568, kE569] (ksp []) kE879 [kC879_0] 30000 (none) = true := asgqw (by decide +kernel)
theorem ks879_0 : aseg kS krf kB [kE562, kE567, kE568, kE569] (ksp []) kE879 [kC879_0] 30000 (some kC879_0) = true := asgqw (by decide +kernel)
theorem kok879 : aOK kS krf kB kE879 := aOK_of (kal1 kok562 (kal1 kok567 (kal1 kok568 (kal1 kok569 kal0)))) (kcl1 ks879_0 kcl0) ks879
/-- ColdShod$StrokePlan.addNext(LColdShod$Idea;I)V -/
def kE880 : aE := (83, 3, ([kvB 0 3, kvB 151 341], [(57, 150, .inl (0, .ofNat 0)), (52, 6, .inl (1, .ofNat 0))], 0, [kvR 52, some (.inr [20, 21, 22, 23, 24, 25, 26, 27]), kvN 150, none, none], []), ([], none), ([], [], none, ([], [])), kvW74)
def kC880_0 : aC := (([kvB 0 3, kvB 151 341, kvB 0 4, kvB 151 341], [(57, 150, .inl (0, .ofNat 0)), (52, 6, .inl (3, .ofNat 0))], 2, [kvR 52, some (.inr [20, 21, 22, 23, 24, 25, 26, 27]), kvN 150, kvI 2, none], []), ([], []), (4, [(-1, 2)]))
theorem ks880 : aseg kS krf kB [kE562, kE567, kE568, kE569] (ksp []) kE880 [kC880_0] 30000 (none) = true := asgqw (by decide +kernel)
theorem ks880_0 : aseg kS krf kB [kE562, kE567, kE568, kE569] (ksp []) kE880 [kC880_0] 30000 (some kC880_0) = true := asgqw (by decide +kernel)
theorem kok880 : aOK kS krf kB kE880 := aOK_of (kal1 kok562 (kal1 kok567 (kal1 kok568 (kal1 kok569 kal0)))) (kcl1 ks880_0 kcl0) ks880
/-- ColdShod$StrokePlan.addNext(LColdShod$Idea;I)V -/
def kE881 : aE := (83, 3, ([kvB 0 3, kvB 150 341], [(57, 149, .inl (0, .ofNat 0)), (52, 6, .inl (1, .ofNat 0))], 0, [kvR 52, some (.inr [20, 21, 22, 23, 24, 25, 26, 27]), kvN 149, none, none], []), ([], none), ([], [], none, ([], [])), kvW74)
def kC881_0 : aC := (([kvB 0 3, kvB 150 341, kvB 0 4, kvB 150 341], [(57, 149, .inl (0, .ofNat 0)), (52, 6, .inl (3, .ofNat 0))], 2, [kvR 52, some (.inr [20, 21, 22, 23, 24, 25, 26, 27]), kvN 149, kvI 2, none], []), ([], []), (4, [(-1, 2)]))
theorem ks881 : aseg kS krf kB [kE562, kE567, kE568, kE569] (ksp []) kE881 [kC881_0] 30000 (none) = true := asgqw (by decide +kernel)
theorem ks881_0 : aseg kS krf kB [kE562, kE567, kE568, kE569] (ksp []) kE881 [kC881_0] 30000 (some kC881_0) = true := asgqw (by decide +kernel)
theorem kok881 : aOK kS krf kB kE881 := aOK_of (kal1 kok562 (kal1 kok567 (kal1 kok568 (kal1 kok569 kal0)))) (kcl1 ks881_0 kcl0) ks881
/-- ColdShod$StrokePlan.addNext(LColdShod$Idea;I)V -/
def kE882 : aE := (83, 3, ([kvB 0 3, kvB 149 341], [(57, 148, .inl (0, .ofNat 0)), (52, 6, .inl (1, .ofNat 0))], 0, [kvR 52, some (.inr [20, 21, 22, 23, 24, 25, 26, 27]), kvN 148, none, none], []), ([], none), ([], [], none, ([], [])), kvW74)
def kC882_0 : aC := (([kvB 0 3, kvB 149 341, kvB 0 4, kvB 149 341], [(57, 148, .inl (0, .ofNat 0)), (52, 6, .inl (3, .ofNat 0))], 2, [kvR 52, some (.inr [20, 21, 22, 23, 24, 25, 26, 27]), kvN 148, kvI 2, none], []), ([], []), (4, [(-1, 2)]))
theorem ks882 : aseg kS krf kB [kE562, kE567, kE568, kE569] (ksp []) kE882 [kC882_0] 30000 (none) = true := asgqw (by decide +kernel)
theorem ks882_0 : aseg kS krf kB [kE562, kE567, kE568, kE569] (ksp []) kE882 [kC882_0] 30000 (some kC882_0) = true := asgqw (by decide +kernel)
theorem kok882 : aOK kS krf kB kE882 := aOK_of (kal1 kok562 (kal1 kok567 (kal1 kok568 (kal1 kok569 kal0)))) (kcl1 ks882_0 kcl0) ks882
/-- ColdShod$StrokePlan.addNext(LColdShod$Idea;I)V -/
def kE883 : aE := (83, 3, ([kvB 0 3, kvB 148 341], [(57, 147, .inl (0, .ofNat 0)), (52, 6, .inl (1, .ofNat 0))], 0, [kvR 52, some (.inr [20, 21, 22, 23, 24, 25, 26, 27]), kvN 147, none, none], []), ([], none), ([], [], none, ([], [])), kvW74)
def kC883_0 : aC := (([kvB 0 3, kvB 148 341, kvB 0 4, kvB 148 341], [(57, 147, .inl (0, .ofNat 0)), (52, 6, .inl (3, .ofNat 0))], 2, [kvR 52, some (.inr [20, 21, 22, 23, 24, 25, 26, 27]), kvN 147, kvI 2, none], []), ([], []), (4, [(-1, 2)]))
theorem ks883 : aseg kS krf kB [kE562, kE567, kE568, kE569] (ksp []) kE883 [kC883_0] 30000 (none) = true := asgqw (by decide +kernel)
theorem ks883_0 : aseg kS krf kB [kE562, kE567, kE568, kE569] (ksp []) kE883 [kC883_0] 30000 (some kC883_0) = true := asgqw (by decide +kernel)
theorem kok883 : aOK kS krf kB kE883 := aOK_of (kal1 kok562 (kal1 kok567 (kal1 kok568 (kal1 kok569 kal0)))) (kcl1 ks883_0 kcl0) ks883
/-- ColdShod$StrokePlan.addNext(LColdShod$Idea;I)V -/
def kE884 : aE := (83, 3, ([kvB 0 3, kvB 147 341], [(57, 146, .inl (0, .ofNat 0)), (52, 6, .inl (1, .ofNat 0))], 0, [kvR 52, some (.inr [20, 21, 22, 23, 24, 25, 26, 27]), kvN 146, none, none], []), ([], none), ([], [], none, ([], [])), kvW74)
def kC884_0 : aC := (([kvB 0 3, kvB 147 341, kvB 0 4, kvB 147 341], [(57, 146, .inl (0, .ofNat 0)), (52, 6, .inl (3, .ofNat 0))], 2, [kvR 52, some (.inr [20, 21, 22, 23, 24, 25, 26, 27]), kvN 146, kvI 2, none], []), ([], []), (4, [(-1, 2)]))
theorem ks884 : aseg kS krf kB [kE562, kE567, kE568, kE569] (ksp []) kE884 [kC884_0] 30000 (none) = true := asgqw (by decide +kernel)
theorem ks884_0 : aseg kS krf kB [kE562, kE567, kE568, kE569] (ksp []) kE884 [kC884_0] 30000 (some kC884_0) = true := asgqw (by decide +kernel)
theorem kok884 : aOK kS krf kB kE884 := aOK_of (kal1 kok562 (kal1 kok567 (kal1 kok568 (kal1 kok569 kal0)))) (kcl1 ks884_0 kcl0) ks884
/-- ColdShod$StrokePlan.addNext(LColdShod$Idea;I)V -/
def kE885 : aE := (83, 3, ([kvB 0 3, kvB 146 341], [(57, 145, .inl (0, .ofNat 0)), (52, 6, .inl (1, .ofNat 0))], 0, [kvR 52, some (.inr [20, 21, 22, 23, 24, 25, 26, 27]), kvN 145, none, none], []), ([], none), ([], [], none, ([], [])), kvW74)
def kC885_0 : aC := (([kvB 0 3, kvB 146 341, kvB 0 4, kvB 146 341], [(57, 145, .inl (0, .ofNat 0)), (52, 6, .inl (3, .ofNat 0))], 2, [kvR 52, some (.inr [20, 21, 22, 23, 24, 25, 26, 27]), kvN 145, kvI 2, none], []), ([], []), (4, [(-1, 2)]))
theorem ks885 : aseg kS krf kB [kE562, kE567, kE568, kE569] (ksp []) kE885 [kC885_0] 30000 (none) = true := asgqw (by decide +kernel)
theorem ks885_0 : aseg kS krf kB [kE562, kE567, kE568, kE569] (ksp []) kE885 [kC885_0] 30000 (some kC885_0) = true := asgqw (by decide +kernel)
theorem kok885 : aOK kS krf kB kE885 := aOK_of (kal1 kok562 (kal1 kok567 (kal1 kok568 (kal1 kok569 kal0)))) (kcl1 ks885_0 kcl0) ks885
/-- ColdShod$StrokePlan.addNext(LColdShod$Idea;I)V -/
def kE886 : aE := (83, 3, ([kvB 0 3, kvB 145 341], [(57, 144, .inl (0, .ofNat 0)), (52, 6, .inl (1, .ofNat 0))], 0, [kvR 52, some (.inr [20, 21, 22, 23, 24, 25, 26, 27]), kvN 144, none, none], []), ([], none), ([], [], none, ([], [])), kvW74)
def kC886_0 : aC := (([kvB 0 3, kvB 145 341, kvB 0 4, kvB 145 341], [(57, 144, .inl (0, .ofNat 0)), (52, 6, .inl (3, .ofNat 0))], 2, [kvR 52, some (.inr [20, 21, 22, 23, 24, 25, 26, 27]), kvN 144, kvI 2, none], []), ([], []), (4, [(-1, 2)]))
theorem ks886 : aseg kS krf kB [kE562, kE567, kE568, kE569] (ksp []) kE886 [kC886_0] 30000 (none) = true := asgqw (by decide +kernel)
theorem ks886_0 : aseg kS krf kB [kE562, kE567, kE568, kE569] (ksp []) kE886 [kC886_0] 30000 (some kC886_0) = true := asgqw (by decide +kernel)
theorem kok886 : aOK kS krf kB kE886 := aOK_of (kal1 kok562 (kal1 kok567 (kal1 kok568 (kal1 kok569 kal0)))) (kcl1 ks886_0 kcl0) ks886
/-- ColdShod$StrokePlan.addNext(LColdShod$Idea;I)V -/
def kE887 : aE := (83, 3, ([kvB 0 3, kvB 144 341], [(57, 143, .inl (0, .ofNat 0)), (52, 6, .inl (1, .ofNat 0))], 0, [kvR 52, some (.inr [20, 21, 22, 23, 24, 25, 26, 27]), kvN 143, none, none], []), ([], none), ([], [], none, ([], [])), kvW74)
def kC887_0 : aC := (([kvB 0 3, kvB 144 341, kvB 0 4, kvB 144 341], [(57, 143, .inl (0, .ofNat 0)), (52, 6, .inl (3, .ofNat 0))], 2, [kvR 52, some (.inr [20, 21, 22, 23, 24, 25, 26, 27]), kvN 143, kvI 2, none], []), ([], []), (4, [(-1, 2)]))
theorem ks887 : aseg kS krf kB [kE562, kE567, kE568, kE569] (ksp []) kE887 [kC887_0] 30000 (none) = true := asgqw (by decide +kernel)
theorem ks887_0 : aseg kS krf kB [kE562, kE567, kE568, kE569] (ksp []) kE887 [kC887_0] 30000 (some kC887_0) = true := asgqw (by decide +kernel)
theorem kok887 : aOK kS krf kB kE887 := aOK_of (kal1 kok562 (kal1 kok567 (kal1 kok568 (kal1 kok569 kal0)))) (kcl1 ks887_0 kcl0) ks887
/-- ColdShod$StrokePlan.addNext(LColdShod$Idea;I)V -/
def kE888 : aE := (83, 3, ([kvB 0 3, kvB 143 341], [(57, 142, .inl (0, .ofNat 0)), (52, 6, .inl (1, .ofNat 0))], 0, [kvR 52, some (.inr [20, 21, 22, 23, 24, 25, 26, 27]), kvN 142, none, none], []), ([], none), ([], [], none, ([], [])), kvW74)
def kC888_0 : aC := (([kvB 0 3, kvB 143 341, kvB 0 4, kvB 143 341], [(57, 142, .inl (0, .ofNat 0)), (52, 6, .inl (3, .ofNat 0))], 2, [kvR 52, some (.inr [20, 21, 22, 23, 24, 25, 26, 27]), kvN 142, kvI 2, none], []), ([], []), (4, [(-1, 2)]))
theorem ks888 : aseg kS krf kB [kE562, kE567, kE568, kE569] (ksp []) kE888 [kC888_0] 30000 (none) = true := asgqw (by decide +kernel)
theorem ks888_0 : aseg kS krf kB [kE562, kE567, kE568, kE569] (ksp []) kE888 [kC888_0] 30000 (some kC888_0) = true := asgqw (by decide +kernel)
theorem kok888 : aOK kS krf kB kE888 := aOK_of (kal1 kok562 (kal1 kok567 (kal1 kok568 (kal1 kok569 kal0)))) (kcl1 ks888_0 kcl0) ks888
/-- ColdShod$StrokePlan.addNext(LColdShod$Idea;I)V -/
def kE889 : aE := (83, 3, ([kvB 0 3, kvB 142 341], [(57, 141, .inl (0, .ofNat 0)), (52, 6, .inl (1, .ofNat 0))], 0, [kvR 52, some (.inr [20, 21, 22, 23, 24, 25, 26, 27]), kvN 141, none, none], []), ([], none), ([], [], none, ([], [])), kvW74)
def kC889_0 : aC := (([kvB 0 3, kvB 142 341, kvB 0 4, kvB 142 341], [(57, 141, .inl (0, .ofNat 0)), (52, 6, .inl (3, .ofNat 0))], 2, [kvR 52, some (.inr [20, 21, 22, 23, 24, 25, 26, 27]), kvN 141, kvI 2, none], []), ([], []), (4, [(-1, 2)]))
theorem ks889 : aseg kS krf kB [kE562, kE567, kE568, kE569] (ksp []) kE889 [kC889_0] 30000 (none) = true := asgqw (by decide +kernel)
theorem ks889_0 : aseg kS krf kB [kE562, kE567, kE568, kE569] (ksp []) kE889 [kC889_0] 30000 (some kC889_0) = true := asgqw (by decide +kernel)
theorem kok889 : aOK kS krf kB kE889 := aOK_of (kal1 kok562 (kal1 kok567 (kal1 kok568 (kal1 kok569 kal0)))) (kcl1 ks889_0 kcl0) ks889
/-- ColdShod$StrokePlan.addNext(LColdShod$Idea;I)V -/
def kE890 : aE := (83, 3, ([kvB 0 3, kvB 141 341], [(57, 140, .inl (0, .ofNat 0)), (52, 6, .inl (1, .ofNat 0))], 0, [kvR 52, some (.inr [20, 21, 22, 23, 24, 25, 26, 27]), kvN 140, none, none], []), ([], none), ([], [], none, ([], [])), kvW74)
def kC890_0 : aC := (([kvB 0 3, kvB 141 341, kvB 0 4, kvB 141 341], [(57, 140, .inl (0, .ofNat 0)), (52, 6, .inl (3, .ofNat 0))], 2, [kvR 52, some (.inr [20, 21, 22, 23, 24, 25, 26, 27]), kvN 140, kvI 2, none], []), ([], []), (4, [(-1, 2)]))
theorem ks890 : aseg kS krf kB [kE562, kE567, kE568, kE569] (ksp []) kE890 [kC890_0] 30000 (none) = true := asgqw (by decide +kernel)
theorem ks890_0 : aseg kS krf kB [kE562, kE567, kE568, kE569] (ksp []) kE890 [kC890_0] 30000 (some kC890_0) = true := asgqw (by decide +kernel)
theorem kok890 : aOK kS krf kB kE890 := aOK_of (kal1 kok562 (kal1 kok567 (kal1 kok568 (kal1 kok569 kal0)))) (kcl1 ks890_0 kcl0) ks890
/-- ColdShod$StrokePlan.addNext(LColdShod$Idea;I)V -/
def kE891 : aE := (83, 3, ([kvB 0 3, kvB 140 341], [(57, 139, .inl (0, .ofNat 0)), (52, 6, .inl (1, .ofNat 0))], 0, [kvR 52, some (.inr [20, 21, 22, 23, 24, 25, 26, 27]), kvN 139, none, none], []), ([], none), ([], [], none, ([], [])), kvW74)
def kC891_0 : aC := (([kvB 0 3, kvB 140 341, kvB 0 4, kvB 140 341], [(57, 139, .inl (0, .ofNat 0)), (52, 6, .inl (3, .ofNat 0))], 2, [kvR 52, some (.inr [20, 21, 22, 23, 24, 25, 26, 27]), kvN 139, kvI 2, none], []), ([], []), (4, [(-1, 2)]))
theorem ks891 : aseg kS krf kB [kE562, kE567, kE568, kE569] (ksp []) kE891 [kC891_0] 30000 (none) = true := asgqw (by decide +kernel)
theorem ks891_0 : aseg kS krf kB [kE562, kE567, kE568, kE569] (ksp []) kE891 [kC891_0] 30000 (some kC891_0) = true := asgqw (by decide +kernel)
theorem kok891 : aOK kS krf kB kE891 := aOK_of (kal1 kok562 (kal1 kok567 (kal1 kok568 (kal1 kok569 kal0)))) (kcl1 ks891_0 kcl0) ks891
/-- ColdShod$StrokePlan.addNext(LColdShod$Idea;I)V -/
def kE892 : aE := (83, 3, ([kvB 0 3, kvB 139 341], [(57, 138, .inl (0, .ofNat 0)), (52, 6, .inl (1, .ofNat 0))], 0, [kvR 52, some (.inr [20, 21, 22, 23, 24, 25, 26, 27]), kvN 138, none, none], []), ([], none), ([], [], none, ([], [])), kvW74)
def kC892_0 : aC := (([kvB 0 3, kvB 139 341, kvB 0 4, kvB 139 341], [(57, 138, .inl (0, .ofNat 0)), (52, 6, .inl (3, .ofNat 0))], 2, [kvR 52, some (.inr [20, 21, 22, 23, 24, 25, 26, 27]), kvN 138, kvI 2, none], []), ([], []), (4, [(-1, 2)]))
theorem ks892 : aseg kS krf kB [kE562, kE567, kE568, kE569] (ksp []) kE892 [kC892_0] 30000 (none) = true := asgqw (by decide +kernel)
theorem ks892_0 : aseg kS krf kB [kE562, kE567, kE568, kE569] (ksp []) kE892 [kC892_0] 30000 (some kC892_0) = true := asgqw (by decide +kernel)
theorem kok892 : aOK kS krf kB kE892 := aOK_of (kal1 kok562 (kal1 kok567 (kal1 kok568 (kal1 kok569 kal0)))) (kcl1 ks892_0 kcl0) ks892
/-- ColdShod$StrokePlan.addNext(LColdShod$Idea;I)V -/
def kE893 : aE := (83, 3, ([kvB 0 3, kvB 138 341], [(57, 137, .inl (0, .ofNat 0)), (52, 6, .inl (1, .ofNat 0))], 0, [kvR 52, some (.inr [20, 21, 22, 23, 24, 25, 26, 27]), kvN 137, none, none], []), ([], none), ([], [], none, ([], [])), kvW74)
def kC893_0 : aC := (([kvB 0 3, kvB 138 341, kvB 0 4, kvB 138 341], [(57, 137, .inl (0, .ofNat 0)), (52, 6, .inl (3, .ofNat 0))], 2, [kvR 52, some (.inr [20, 21, 22, 23, 24, 25, 26, 27]), kvN 137, kvI 2, none], []), ([], []), (4, [(-1, 2)]))
theorem ks893 : aseg kS krf kB [kE562, kE567, kE568, kE569] (ksp []) kE893 [kC893_0] 30000 (none) = true := asgqw (by decide +kernel)
theorem ks893_0 : aseg kS krf kB [kE562, kE567, kE568, kE569] (ksp []) kE893 [kC893_0] 30000 (some kC893_0) = true := asgqw (by decide +kernel)
theorem kok893 : aOK kS krf kB kE893 := aOK_of (kal1 kok562 (kal1 kok567 (kal1 kok568 (kal1 kok569 kal0)))) (kcl1 ks893_0 kcl0) ks893
/-- ColdShod$StrokePlan.addNext(LColdShod$Idea;I)V -/
def kE894 : aE := (83, 3, ([kvB 0 3, kvB 137 341], [(57, 136, .inl (0, .ofNat 0)), (52, 6, .inl (1, .ofNat 0))], 0, [kvR 52, some (.inr [20, 21, 22, 23, 24, 25, 26, 27]), kvN 136, none, none], []), ([], none), ([], [], none, ([], [])), kvW74)
def kC894_0 : aC := (([kvB 0 3, kvB 137 341, kvB 0 4, kvB 137 341], [(57, 136, .inl (0, .ofNat 0)), (52, 6, .inl (3, .ofNat 0))], 2, [kvR 52, some (.inr [20, 21, 22, 23, 24, 25, 26, 27]), kvN 136, kvI 2, none], []), ([], []), (4, [(-1, 2)]))
theorem ks894 : aseg kS krf kB [kE562, kE567, kE568, kE569] (ksp []) kE894 [kC894_0] 30000 (none) = true := asgqw (by decide +kernel)
theorem ks894_0 : aseg kS krf kB [kE562, kE567, kE568, kE569] (ksp []) kE894 [kC894_0] 30000 (some kC894_0) = true := asgqw (by decide +kernel)
theorem kok894 : aOK kS krf kB kE894 := aOK_of (kal1 kok562 (kal1 kok567 (kal1 kok568 (kal1 kok569 kal0)))) (kcl1 ks894_0 kcl0) ks894
/-- ColdShod$StrokePlan.addNext(LColdShod$Idea;I)V -/
def kE895 : aE := (83, 3, ([kvB 0 3, kvB 136 341], [(57, 135, .inl (0, .ofNat 0)), (52, 6, .inl (1, .ofNat 0))], 0, [kvR 52, some (.inr [20, 21, 22, 23, 24, 25, 26, 27]), kvN 135, none, none], []), ([], none), ([], [], none, ([], [])), kvW74)
def kC895_0 : aC := (([kvB 0 3, kvB 136 341, kvB 0 4, kvB 136 341], [(57, 135, .inl (0, .ofNat 0)), (52, 6, .inl (3, .ofNat 0))], 2, [kvR 52, some (.inr [20, 21, 22, 23, 24, 25, 26, 27]), kvN 135, kvI 2, none], []), ([], []), (4, [(-1, 2)]))
theorem ks895 : aseg kS krf kB [kE562, kE567, kE568, kE569] (ksp []) kE895 [kC895_0] 30000 (none) = true := asgqw (by decide +kernel)
theorem ks895_0 : aseg kS krf kB [kE562, kE567, kE568, kE569] (ksp []) kE895 [kC895_0] 30000 (some kC895_0) = true := asgqw (by decide +kernel)
theorem kok895 : aOK kS krf kB kE895 := aOK_of (kal1 kok562 (kal1 kok567 (kal1 kok568 (kal1 kok569 kal0)))) (kcl1 ks895_0 kcl0) ks895
/-- ColdShod$StrokePlan.addNext(LColdShod$Idea;I)V -/
def kE896 : aE := (83, 3, ([kvB 0 3, kvB 135 341], [(57, 134, .inl (0, .ofNat 0)), (52, 6, .inl (1, .ofNat 0))], 0, [kvR 52, some (.inr [20, 21, 22, 23, 24, 25, 26, 27]), kvN 134, none, none], []), ([], none), ([], [], none, ([], [])), kvW74)
def kC896_0 : aC := (([kvB 0 3, kvB 135 341, kvB 0 4, kvB 135 341], [(57, 134, .inl (0, .ofNat 0)), (52, 6, .inl (3, .ofNat 0))], 2, [kvR 52, some (.inr [20, 21, 22, 23, 24, 25, 26, 27]), kvN 134, kvI 2, none], []), ([], []), (4, [(-1, 2)]))
theorem ks896 : aseg kS krf kB [kE562, kE567, kE568, kE569] (ksp []) kE896 [kC896_0] 30000 (none) = true := asgqw (by decide +kernel)
theorem ks896_0 : aseg kS krf kB [kE562, kE567, kE568, kE569] (ksp []) kE896 [kC896_0] 30000 (some kC896_0) = true := asgqw (by decide +kernel)
theorem kok896 : aOK kS krf kB kE896 := aOK_of (kal1 kok562 (kal1 kok567 (kal1 kok568 (kal1 kok569 kal0)))) (kcl1 ks896_0 kcl0) ks896
/-- ColdShod$StrokePlan.addNext(LColdShod$Idea;I)V -/
def kE897 : aE := (83, 3, ([kvB 0 3, kvB 134 341], [(57, 133, .inl (0, .ofNat 0)), (52, 6, .inl (1, .ofNat 0))], 0, [kvR 52, some (.inr [20, 21, 22, 23, 24, 25, 26, 27]), kvN 133, none, none], []), ([], none), ([], [], none, ([], [])), kvW74)
def kC897_0 : aC := (([kvB 0 3, kvB 134 341, kvB 0 4, kvB 134 341], [(57, 133, .inl (0, .ofNat 0)), (52, 6, .inl (3, .ofNat 0))], 2, [kvR 52, some (.inr [20, 21, 22, 23, 24, 25, 26, 27]), kvN 133, kvI 2, none], []), ([], []), (4, [(-1, 2)]))
theorem ks897 : aseg kS krf kB [kE562, kE567, kE568, kE569] (ksp []) kE897 [kC897_0] 30000 (none) = true := asgqw (by decide +kernel)
theorem ks897_0 : aseg kS krf kB [kE562, kE567, kE568, kE569] (ksp []) kE897 [kC897_0] 30000 (some kC897_0) = true := asgqw (by decide +kernel)
theorem kok897 : aOK kS krf kB kE897 := aOK_of (kal1 kok562 (kal1 kok567 (kal1 kok568 (kal1 kok569 kal0)))) (kcl1 ks897_0 kcl0) ks897
/-- ColdShod$StrokePlan.addNext(LColdShod$Idea;I)V -/
def kE898 : aE := (83, 3, ([kvB 0 3, kvB 133 341], [(57, 132, .inl (0, .ofNat 0)), (52, 6, .inl (1, .ofNat 0))], 0, [kvR 52, some (.inr [20, 21, 22, 23, 24, 25, 26, 27]), kvN 132, none, none], []), ([], none), ([], [], none, ([], [])), kvW74)
def kC898_0 : aC := (([kvB 0 3, kvB 133 341, kvB 0 4, kvB 133 341], [(57, 132, .inl (0, .ofNat 0)), (52, 6, .inl (3, .ofNat 0))], 2, [kvR 52, some (.inr [20, 21, 22, 23, 24, 25, 26, 27]), kvN 132, kvI 2, none], []), ([], []), (4, [(-1, 2)]))
theorem ks898 : aseg kS krf kB [kE562, kE567, kE568, kE569] (ksp []) kE898 [kC898_0] 30000 (none) = true := asgqw (by decide +kernel)
theorem ks898_0 : aseg kS krf kB [kE562, kE567, kE568, kE569] (ksp []) kE898 [kC898_0] 30000 (some kC898_0) = true := asgqw (by decide +kernel)
theorem kok898 : aOK kS krf kB kE898 := aOK_of (kal1 kok562 (kal1 kok567 (kal1 kok568 (kal1 kok569 kal0)))) (kcl1 ks898_0 kcl0) ks898
/-- ColdShod$StrokePlan.addNext(LColdShod$Idea;I)V -/
def kE899 : aE := (83, 3, ([kvB 0 3, kvB 132 341], [(57, 131, .inl (0, .ofNat 0)), (52, 6, .inl (1, .ofNat 0))], 0, [kvR 52, some (.inr [20, 21, 22, 23, 24, 25, 26, 27]), kvN 131, none, none], []), ([], none), ([], [], none, ([], [])), kvW74)
def kC899_0 : aC := (([kvB 0 3, kvB 132 341, kvB 0 4, kvB 132 341], [(57, 131, .inl (0, .ofNat 0)), (52, 6, .inl (3, .ofNat 0))], 2, [kvR 52, some (.inr [20, 21, 22, 23, 24, 25, 26, 27]), kvN 131, kvI 2, none], []), ([], []), (4, [(-1, 2)]))
theorem ks899 : aseg kS krf kB [kE562, kE567, kE568, kE569] (ksp []) kE899 [kC899_0] 30000 (none) = true := asgqw (by decide +kernel)
theorem ks899_0 : aseg kS krf kB [kE562, kE567, kE568, kE569] (ksp []) kE899 [kC899_0] 30000 (some kC899_0) = true := asgqw (by decide +kernel)
theorem kok899 : aOK kS krf kB kE899 := aOK_of (kal1 kok562 (kal1 kok567 (kal1 kok568 (kal1 kok569 kal0)))) (kcl1 ks899_0 kcl0) ks899
/-- ColdShod$StrokePlan.addNext(LColdShod$Idea;I)V -/
def kE900 : aE := (83, 3, ([kvB 0 3, kvB 131 341], [(57, 130, .inl (0, .ofNat 0)), (52, 6, .inl (1, .ofNat 0))], 0, [kvR 52, some (.inr [20, 21, 22, 23, 24, 25, 26, 27]), kvN 130, none, none], []), ([], none), ([], [], none, ([], [])), kvW74)
def kC900_0 : aC := (([kvB 0 3, kvB 131 341, kvB 0 4, kvB 131 341], [(57, 130, .inl (0, .ofNat 0)), (52, 6, .inl (3, .ofNat 0))], 2, [kvR 52, some (.inr [20, 21, 22, 23, 24, 25, 26, 27]), kvN 130, kvI 2, none], []), ([], []), (4, [(-1, 2)]))
theorem ks900 : aseg kS krf kB [kE562, kE567, kE568, kE569] (ksp []) kE900 [kC900_0] 30000 (none) = true := asgqw (by decide +kernel)
theorem ks900_0 : aseg kS krf kB [kE562, kE567, kE568, kE569] (ksp []) kE900 [kC900_0] 30000 (some kC900_0) = true := asgqw (by decide +kernel)
theorem kok900 : aOK kS krf kB kE900 := aOK_of (kal1 kok562 (kal1 kok567 (kal1 kok568 (kal1 kok569 kal0)))) (kcl1 ks900_0 kcl0) ks900
/-- ColdShod$StrokePlan.addNext(LColdShod$Idea;I)V -/
def kE901 : aE := (83, 3, ([kvB 0 3, kvB 130 341], [(57, 129, .inl (0, .ofNat 0)), (52, 6, .inl (1, .ofNat 0))], 0, [kvR 52, some (.inr [20, 21, 22, 23, 24, 25, 26, 27]), kvN 129, none, none], []), ([], none), ([], [], none, ([], [])), kvW74)
def kC901_0 : aC := (([kvB 0 3, kvB 130 341, kvB 0 4, kvB 130 341], [(57, 129, .inl (0, .ofNat 0)), (52, 6, .inl (3, .ofNat 0))], 2, [kvR 52, some (.inr [20, 21, 22, 23, 24, 25, 26, 27]), kvN 129, kvI 2, none], []), ([], []), (4, [(-1, 2)]))
theorem ks901 : aseg kS krf kB [kE562, kE567, kE568, kE569] (ksp []) kE901 [kC901_0] 30000 (none) = true := asgqw (by decide +kernel)
theorem ks901_0 : aseg kS krf kB [kE562, kE567, kE568, kE569] (ksp []) kE901 [kC901_0] 30000 (some kC901_0) = true := asgqw (by decide +kernel)
theorem kok901 : aOK kS krf kB kE901 := aOK_of (kal1 kok562 (kal1 kok567 (kal1 kok568 (kal1 kok569 kal0)))) (kcl1 ks901_0 kcl0) ks901
/-- ColdShod$StrokePlan.addNext(LColdShod$Idea;I)V -/
def kE902 : aE := (83, 3, ([kvB 0 3, kvB 129 341], [(57, 128, .inl (0, .ofNat 0)), (52, 6, .inl (1, .ofNat 0))], 0, [kvR 52, some (.inr [20, 21, 22, 23, 24, 25, 26, 27]), kvN 128, none, none], []), ([], none), ([], [], none, ([], [])), kvW74)
def kC902_0 : aC := (([kvB 0 3, kvB 129 341, kvB 0 4, kvB 129 341], [(57, 128, .inl (0, .ofNat 0)), (52, 6, .inl (3, .ofNat 0))], 2, [kvR 52, some (.inr [20, 21, 22, 23, 24, 25, 26, 27]), kvN 128, kvI 2, none], []), ([], []), (4, [(-1, 2)]))
theorem ks902 : aseg kS krf kB [kE562, kE567, kE568, kE569] (ksp []) kE902 [kC902_0] 30000 (none) = true := asgqw (by decide +kernel)
theorem ks902_0 : aseg kS krf kB [kE562, kE567, kE568, kE569] (ksp []) kE902 [kC902_0] 30000 (some kC902_0) = true := asgqw (by decide +kernel)
theorem kok902 : aOK kS krf kB kE902 := aOK_of (kal1 kok562 (kal1 kok567 (kal1 kok568 (kal1 kok569 kal0)))) (kcl1 ks902_0 kcl0) ks902
/-- ColdShod$StrokePlan.addNext(LColdShod$Idea;I)V -/
def kE903 : aE := (83, 3, ([kvB 0 3, kvB 128 341], [(57, 127, .inl (0, .ofNat 0)), (52, 6, .inl (1, .ofNat 0))], 0, [kvR 52, some (.inr [20, 21, 22, 23, 24, 25, 26, 27]), kvN 127, none, none], []), ([], none), ([], [], none, ([], [])), kvW74)
def kC903_0 : aC := (([kvB 0 3, kvB 128 341, kvB 0 4, kvB 128 341], [(57, 127, .inl (0, .ofNat 0)), (52, 6, .inl (3, .ofNat 0))], 2, [kvR 52, some (.inr [20, 21, 22, 23, 24, 25, 26, 27]), kvN 127, kvI 2, none], []), ([], []), (4, [(-1, 2)]))
theorem ks903 : aseg kS krf kB [kE562, kE567, kE568, kE569] (ksp []) kE903 [kC903_0] 30000 (none) = true := asgqw (by decide +kernel)
theorem ks903_0 : aseg kS krf kB [kE562, kE567, kE568, kE569] (ksp []) kE903 [kC903_0] 30000 (some kC903_0) = true := asgqw (by decide +kernel)
theorem kok903 : aOK kS krf kB kE903 := aOK_of (kal1 kok562 (kal1 kok567 (kal1 kok568 (kal1 kok569 kal0)))) (kcl1 ks903_0 kcl0) ks903
/-- ColdShod$StrokePlan.addNext(LColdShod$Idea;I)V -/
def kE904 : aE := (83, 3, ([kvB 0 3, kvB 127 341], [(57, 126, .inl (0, .ofNat 0)), (52, 6, .inl (1, .ofNat 0))], 0, [kvR 52, some (.inr [20, 21, 22, 23, 24, 25, 26, 27]), kvN 126, none, none], []), ([], none), ([], [], none, ([], [])), kvW74)
def kC904_0 : aC := (([kvB 0 3, kvB 127 341, kvB 0 4, kvB 127 341], [(57, 126, .inl (0, .ofNat 0)), (52, 6, .inl (3, .ofNat 0))], 2, [kvR 52, some (.inr [20, 21, 22, 23, 24, 25, 26, 27]), kvN 126, kvI 2, none], []), ([], []), (4, [(-1, 2)]))
theorem ks904 : aseg kS krf kB [kE562, kE567, kE568, kE569] (ksp []) kE904 [kC904_0] 30000 (none) = true := asgqw (by decide +kernel)
theorem ks904_0 : aseg kS krf kB [kE562, kE567, kE568, kE569] (ksp []) kE904 [kC904_0] 30000 (some kC904_0) = true := asgqw (by decide +kernel)
theorem kok904 : aOK kS krf kB kE904 := aOK_of (kal1 kok562 (kal1 kok567 (kal1 kok568 (kal1 kok569 kal0)))) (kcl1 ks904_0 kcl0) ks904
/-- ColdShod$StrokePlan.addNext(LColdShod$Idea;I)V -/
def kE905 : aE := (83, 3, ([kvB 0 3, kvB 126 341], [(57, 125, .inl (0, .ofNat 0)), (52, 6, .inl (1, .ofNat 0))], 0, [kvR 52, some (.inr [20, 21, 22, 23, 24, 25, 26, 27]), kvN 125, none, none], []), ([], none), ([], [], none, ([], [])), kvW74)
def kC905_0 : aC := (([kvB 0 3, kvB 126 341, kvB 0 4, kvB 126 341], [(57, 125, .inl (0, .ofNat 0)), (52, 6, .inl (3, .ofNat 0))], 2, [kvR 52, some (.inr [20, 21, 22, 23, 24, 25, 26, 27]), kvN 125, kvI 2, none], []), ([], []), (4, [(-1, 2)]))
theorem ks905 : aseg kS krf kB [kE562, kE567, kE568, kE569] (ksp []) kE905 [kC905_0] 30000 (none) = true := asgqw (by decide +kernel)
theorem ks905_0 : aseg kS krf kB [kE562, kE567, kE568, kE569] (ksp []) kE905 [kC905_0] 30000 (some kC905_0) = true := asgqw (by decide +kernel)
theorem kok905 : aOK kS krf kB kE905 := aOK_of (kal1 kok562 (kal1 kok567 (kal1 kok568 (kal1 kok569 kal0)))) (kcl1 ks905_0 kcl0) ks905
/-- ColdShod$StrokePlan.addNext(LColdShod$Idea;I)V -/
def kE906 : aE := (83, 3, ([kvB 0 3, kvB 125 341], [(57, 124, .inl (0, .ofNat 0)), (52, 6, .inl (1, .ofNat 0))], 0, [kvR 52, some (.inr [20, 21, 22, 23, 24, 25, 26, 27]), kvN 124, none, none], []), ([], none), ([], [], none, ([], [])), kvW74)
def kC906_0 : aC := (([kvB 0 3, kvB 125 341, kvB 0 4, kvB 125 341], [(57, 124, .inl (0, .ofNat 0)), (52, 6, .inl (3, .ofNat 0))], 2, [kvR 52, some (.inr [20, 21, 22, 23, 24, 25, 26, 27]), kvN 124, kvI 2, none], []), ([], []), (4, [(-1, 2)]))
theorem ks906 : aseg kS krf kB [kE562, kE567, kE568, kE569] (ksp []) kE906 [kC906_0] 30000 (none) = true := asgqw (by decide +kernel)
theorem ks906_0 : aseg kS krf kB [kE562, kE567, kE568, kE569] (ksp []) kE906 [kC906_0] 30000 (some kC906_0) = true := asgqw (by decide +kernel)
theorem kok906 : aOK kS krf kB kE906 := aOK_of (kal1 kok562 (kal1 kok567 (kal1 kok568 (kal1 kok569 kal0)))) (kcl1 ks906_0 kcl0) ks906
/-- ColdShod$StrokePlan.addNext(LColdShod$Idea;I)V -/
def kE907 : aE := (83, 3, ([kvB 0 3, kvB 124 341], [(57, 123, .inl (0, .ofNat 0)), (52, 6, .inl (1, .ofNat 0))], 0, [kvR 52, some (.inr [20, 21, 22, 23, 24, 25, 26, 27]), kvN 123, none, none], []), ([], none), ([], [], none, ([], [])), kvW74)
def kC907_0 : aC := (([kvB 0 3, kvB 124 341, kvB 0 4, kvB 124 341], [(57, 123, .inl (0, .ofNat 0)), (52, 6, .inl (3, .ofNat 0))], 2, [kvR 52, some (.inr [20, 21, 22, 23, 24, 25, 26, 27]), kvN 123, kvI 2, none], []), ([], []), (4, [(-1, 2)]))
theorem ks907 : aseg kS krf kB [kE562, kE567, kE568, kE569] (ksp []) kE907 [kC907_0] 30000 (none) = true := asgqw (by decide +kernel)
theorem ks907_0 : aseg kS krf kB [kE562, kE567, kE568, kE569] (ksp []) kE907 [kC907_0] 30000 (some kC907_0) = true := asgqw (by decide +kernel)
theorem kok907 : aOK kS krf kB kE907 := aOK_of (kal1 kok562 (kal1 kok567 (kal1 kok568 (kal1 kok569 kal0)))) (kcl1 ks907_0 kcl0) ks907
/-- ColdShod$StrokePlan.addNext(LColdShod$Idea;I)V -/
def kE908 : aE := (83, 3, ([kvB 0 3, kvB 123 341], [(57, 122, .inl (0, .ofNat 0)), (52, 6, .inl (1, .ofNat 0))], 0, [kvR 52, some (.inr [20, 21, 22, 23, 24, 25, 26, 27]), kvN 122, none, none], []), ([], none), ([], [], none, ([], [])), kvW74)
def kC908_0 : aC := (([kvB 0 3, kvB 123 341, kvB 0 4, kvB 123 341], [(57, 122, .inl (0, .ofNat 0)), (52, 6, .inl (3, .ofNat 0))], 2, [kvR 52, some (.inr [20, 21, 22, 23, 24, 25, 26, 27]), kvN 122, kvI 2, none], []), ([], []), (4, [(-1, 2)]))
theorem ks908 : aseg kS krf kB [kE562, kE567, kE568, kE569] (ksp []) kE908 [kC908_0] 30000 (none) = true := asgqw (by decide +kernel)
theorem ks908_0 : aseg kS krf kB [kE562, kE567, kE568, kE569] (ksp []) kE908 [kC908_0] 30000 (some kC908_0) = true := asgqw (by decide +kernel)
theorem kok908 : aOK kS krf kB kE908 := aOK_of (kal1 kok562 (kal1 kok567 (kal1 kok568 (kal1 kok569 kal0)))) (kcl1 ks908_0 kcl0) ks908
/-- ColdShod$StrokePlan.addNext(LColdShod$Idea;I)V -/
def kE909 : aE := (83, 3, ([kvB 0 3, kvB 122 341], [(57, 121, .inl (0, .ofNat 0)), (52, 6, .inl (1, .ofNat 0))], 0, [kvR 52, some (.inr [20, 21, 22, 23, 24, 25, 26, 27]), kvN 121, none, none], []), ([], none), ([], [], none, ([], [])), kvW74)
def kC909_0 : aC := (([kvB 0 3, kvB 122 341, kvB 0 4, kvB 122 341], [(57, 121, .inl (0, .ofNat 0)), (52, 6, .inl (3, .ofNat 0))], 2, [kvR 52, some (.inr [20, 21, 22, 23, 24, 25, 26, 27]), kvN 121, kvI 2, none], []), ([], []), (4, [(-1, 2)]))
theorem ks909 : aseg kS krf kB [kE562, kE567, kE568, kE569] (ksp []) kE909 [kC909_0] 30000 (none) = true := asgqw (by decide +kernel)
theorem ks909_0 : aseg kS krf kB [kE562, kE567, kE568, kE569] (ksp []) kE909 [kC909_0] 30000 (some kC909_0) = true := asgqw (by decide +kernel)
theorem kok909 : aOK kS krf kB kE909 := aOK_of (kal1 kok562 (kal1 kok567 (kal1 kok568 (kal1 kok569 kal0)))) (kcl1 ks909_0 kcl0) ks909
/-- ColdShod$StrokePlan.addNext(LColdShod$Idea;I)V -/
def kE910 : aE := (83, 3, ([kvB 0 3, kvB 121 341], [(57, 120, .inl (0, .ofNat 0)), (52, 6, .inl (1, .ofNat 0))], 0, [kvR 52, some (.inr [20, 21, 22, 23, 24, 25, 26, 27]), kvN 120, none, none], []), ([], none), ([], [], none, ([], [])), kvW74)
def kC910_0 : aC := (([kvB 0 3, kvB 121 341, kvB 0 4, kvB 121 341], [(57, 120, .inl (0, .ofNat 0)), (52, 6, .inl (3, .ofNat 0))], 2, [kvR 52, some (.inr [20, 21, 22, 23, 24, 25, 26, 27]), kvN 120, kvI 2, none], []), ([], []), (4, [(-1, 2)]))
theorem ks910 : aseg kS krf kB [kE562, kE567, kE568, kE569] (ksp []) kE910 [kC910_0] 30000 (none) = true := asgqw (by decide +kernel)
theorem ks910_0 : aseg kS krf kB [kE562, kE567, kE568, kE569] (ksp []) kE910 [kC910_0] 30000 (some kC910_0) = true := asgqw (by decide +kernel)
theorem kok910 : aOK kS krf kB kE910 := aOK_of (kal1 kok562 (kal1 kok567 (kal1 kok568 (kal1 kok569 kal0)))) (kcl1 ks910_0 kcl0) ks910
/-- ColdShod$StrokePlan.fewestFor(LColdShod$Journey;LColdShod$Idea;LColdShod$Country;)I -/
def kE911 : aE := (82, 6, ([], [], 0, [kvR 52, kvR 50, some (.inr [20, 21, 22, 23, 24, 25, 26, 27]), kvR 7, none], []), ([], none), ([(.negSucc 1, .ofNat 4)], [], kvI 0, ([], [])), kvW76)
def kC911_0 : aC := (([kvB 0 19], [], 25, [kvR 52, kvR 50, some (.inr [20, 21, 22, 23, 24, 25, 26, 27]), kvR 7, kvI 0], []), ([], []), (410, [(-1, 0)]))
def kC911_1 : aC := (([kvB 60 79], [], 25, [kvR 52, kvR 50, some (.inr [20, 21, 22, 23, 24, 25, 26, 27]), kvR 7, kvI 0], []), ([], []), (401, [(-1, 0)]))
def kC911_2 : aC := (([kvB 40 59], [], 25, [kvR 52, kvR 50, some (.inr [20, 21, 22, 23, 24, 25, 26, 27]), kvR 7, kvI 0], []), ([], []), (404, [(-1, 0)]))
def kC911_3 : aC := (([kvB 20 39], [], 25, [kvR 52, kvR 50, some (.inr [20, 21, 22, 23, 24, 25, 26, 27]), kvR 7, kvI 0], []), ([], []), (407, [(-1, 0)]))
def kC911_4 : aC := (([kvB 80 99], [], 25, [kvR 52, kvR 50, some (.inr [20, 21, 22, 23, 24, 25, 26, 27]), kvR 7, kvI 0], []), ([], []), (398, [(-1, 0)]))
def kC911_5 : aC := (([kvB 100 119], [], 25, [kvR 52, kvR 50, some (.inr [20, 21, 22, 23, 24, 25, 26, 27]), kvR 7, kvI 0], []), ([], []), (395, [(-1, 0)]))
def kC911_6 : aC := (([kvB 340 341], [], 25, [kvR 52, kvR 50, some (.inr [20, 21, 22, 23, 24, 25, 26, 27]), kvR 7, kvI 0], []), ([], []), (341, [(-1, 0)]))
def kC911_7 : aC := (([kvB 320 339], [], 25, [kvR 52, kvR 50, some (.inr [20, 21, 22, 23, 24, 25, 26, 27]), kvR 7, kvI 0], []), ([], []), (362, [(-1, 0)]))
def kC911_8 : aC := (([kvB 300 319], [], 25, [kvR 52, kvR 50, some (.inr [20, 21, 22, 23, 24, 25, 26, 27]), kvR 7, kvI 0], []), ([], []), (365, [(-1, 0)]))
def kC911_9 : aC := (([kvB 280 299], [], 25, [kvR 52, kvR 50, some (.inr [20, 21, 22, 23, 24, 25, 26, 27]), kvR 7, kvI 0], []), ([], []), (368, [(-1, 0)]))
def kC911_10 : aC := (([kvB 260 279], [], 25, [kvR 52, kvR 50, some (.inr [20, 21, 22, 23, 24, 25, 26, 27]), kvR 7, kvI 0], []), ([], []), (371, [(-1, 0)]))
def kC911_11 : aC := (([kvB 240 259], [], 25, [kvR 52, kvR 50, some (.inr [20, 21, 22, 23, 24, 25, 26, 27]), kvR 7, kvI 0], []), ([], []), (374, [(-1, 0)]))
def kC911_12 : aC := (([kvB 220 239], [], 25, [kvR 52, kvR 50, some (.inr [20, 21, 22, 23, 24, 25, 26, 27]), kvR 7, kvI 0], []), ([], []), (377, [(-1, 0)]))
def kC911_13 : aC := (([kvB 200 219], [], 25, [kvR 52, kvR 50, some (.inr [20, 21, 22, 23, 24, 25, 26, 27]), kvR 7, kvI 0], []), ([], []), (380, [(-1, 0)]))
def kC911_14 : aC := (([kvB 180 199], [], 25, [kvR 52, kvR 50, some (.inr [20, 21, 22, 23, 24, 25, 26, 27]), kvR 7, kvI 0], []), ([], []), (383, [(-1, 0)]))
def kC911_15 : aC := (([kvB 160 179], [], 25, [kvR 52, kvR 50, some (.inr [20, 21, 22, 23, 24, 25, 26, 27]), kvR 7, kvI 0], []), ([], []), (386, [(-1, 0)]))
def kC911_16 : aC := (([kvB 140 159], [], 25, [kvR 52, kvR 50, some (.inr [20, 21, 22, 23, 24, 25, 26, 27]), kvR 7, kvI 0], []), ([], []), (389, [(-1, 0)]))
def kC911_17 : aC := (([kvB 120 139], [], 25, [kvR 52, kvR 50, some (.inr [20, 21, 22, 23, 24, 25, 26, 27]), kvR 7, kvI 0], []), ([], []), (392, [(-1, 0)]))
theorem ks911 : aseg kS krf kB [kE561] (ksp [(82, 25, 4, 0, 340, 0)]) kE911 [kC911_0, kC911_1, kC911_2, kC911_3, kC911_4, kC911_5, kC911_6, kC911_7, kC911_8, kC911_9, kC911_10, kC911_11, kC911_12, kC911_13, kC911_14, kC911_15, kC911_16, kC911_17] 30000 (none) = true := asgqw (by decide +kernel)
theorem ks911_0 : aseg kS krf kB [kE562, kE565, kE566, kE570, kE571, kE572, kE573, kE574, kE575, kE576, kE577, kE578, kE579, kE580, kE581, kE582, kE583, kE584, kE585, kE586, kE587, kE588, kE589] (ksp [(82, 25, 4, 0, 340, 0)]) kE911 [kC911_0, kC911_1, kC911_2, kC911_3, kC911_4, kC911_5, kC911_6, kC911_7, kC911_8, kC911_9, kC911_10, kC911_11, kC911_12, kC911_13, kC911_14, kC911_15, kC911_16, kC911_17] 30000 (some kC911_0) = true := asgqw (by decide +kernel)
theorem ks911_1 : aseg kS krf kB [kE562, kE565, kE566, kE590, kE591, kE592, kE593, kE594, kE595, kE596, kE597, kE598, kE599, kE600, kE601, kE602, kE603, kE604, kE605, kE606, kE607, kE608, kE609] (ksp [(82, 25, 4, 0, 340, 0)]) kE911 [kC911_0, kC911_1, kC911_2, kC911_3, kC911_4, kC911_5, kC911_6, kC911_7, kC911_8, kC911_9, kC911_10, kC911_11, kC911_12, kC911_13, kC911_14, kC911_15, kC911_16, kC911_17] 30000 (some kC911_1) = true := asgqw (by decide +kernel)
theorem ks911_2 : aseg kS krf kB [kE562, kE565, kE566, kE610, kE611, kE612, kE613, kE614, kE615, kE616, kE617, kE618, kE619, kE620, kE621, kE622, kE623, kE624, kE625, kE626, kE627, kE628, kE629] (ksp [(82, 25, 4, 0, 340, 0)]) kE911 [kC911_0, kC911_1, kC911_2, kC911_3, kC911_4, kC911_5, kC911_6, kC911_7, kC911_8, kC911_9, kC911_10, kC911_11, kC911_12, kC911_13, kC911_14, kC911_15, kC911_16, kC911_17] 30000 (some kC911_2) = true := asgqw (by decide +kernel)
theorem ks911_3 : aseg kS krf kB [kE562, kE565, kE566, kE630, kE631, kE632, kE633, kE634, kE635, kE636, kE637, kE638, kE639, kE640, kE641, kE642, kE643, kE644, kE645, kE646, kE647, kE648, kE649] (ksp [(82, 25, 4, 0, 340, 0)]) kE911 [kC911_0, kC911_1, kC911_2, kC911_3, kC911_4, kC911_5, kC911_6, kC911_7, kC911_8, kC911_9, kC911_10, kC911_11, kC911_12, kC911_13, kC911_14, kC911_15, kC911_16, kC911_17] 30000 (some kC911_3) = true := asgqw (by decide +kernel)
theorem ks911_4 : aseg kS krf kB [kE562, kE565, kE566, kE650, kE651, kE652, kE653, kE654, kE655, kE656, kE657, kE658, kE659, kE660, kE661, kE662, kE663, kE664, kE665, kE666, kE667, kE668, kE669] (ksp [(82, 25, 4, 0, 340, 0)]) kE911 [kC911_0, kC911_1, kC911_2, kC911_3, kC911_4, kC911_5, kC911_6, kC911_7, kC911_8, kC911_9, kC911_10, kC911_11, kC911_12, kC911_13, kC911_14, kC911_15, kC911_16, kC911_17] 30000 (some kC911_4) = true := asgqw (by decide +kernel)
theorem ks911_5 : aseg kS krf kB [kE562, kE565, kE566, kE670, kE671, kE672, kE673, kE674, kE675, kE676, kE677, kE678, kE679, kE680, kE681, kE682, kE683, kE684, kE685, kE686, kE687, kE688, kE689] (ksp [(82, 25, 4, 0, 340, 0)]) kE911 [kC911_0, kC911_1, kC911_2, kC911_3, kC911_4, kC911_5, kC911_6, kC911_7, kC911_8, kC911_9, kC911_10, kC911_11, kC911_12, kC911_13, kC911_14, kC911_15, kC911_16, kC911_17] 30000 (some kC911_5) = true := asgqw (by decide +kernel)
theorem ks911_6 : aseg kS krf kB [kE562, kE565, kE566, kE690] (ksp [(82, 25, 4, 0, 340, 0)]) kE911 [kC911_0, kC911_1, kC911_2, kC911_3, kC911_4, kC911_5, kC911_6, kC911_7, kC911_8, kC911_9, kC911_10, kC911_11, kC911_12, kC911_13, kC911_14, kC911_15, kC911_16, kC911_17] 30000 (some kC911_6) = true := asgqw (by decide +kernel)
theorem ks911_7 : aseg kS krf kB [kE562, kE565, kE566, kE691, kE692, kE693, kE694, kE695, kE696, kE697, kE698, kE699, kE700, kE701, kE702, kE703, kE704, kE705, kE706, kE707, kE708, kE709, kE710] (ksp [(82, 25, 4, 0, 340, 0)]) kE911 [kC911_0, kC911_1, kC911_2, kC911_3, kC911_4, kC911_5, kC911_6, kC911_7, kC911_8, kC911_9, kC911_10, kC911_11, kC911_12, kC911_13, kC911_14, kC911_15, kC911_16, kC911_17] 30000 (some kC911_7) = true := asgqw (by decide +kernel)
