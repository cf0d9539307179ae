/-! ENTRIES and their checks: printed by a program (wip/ai). -/
/-- ColdShodModel.triesWay(IIIII)V -/
def kE333 : aE := (192, 49, ([kvB 0 7, kvB 0 7, kvB 0 7], [], 0, [kvR 102, kvI 0, kvI 1, kvI 2, kvN 227, kvN 4, none, none], []), ([], none), ([], [], none, ([], [])), kvW64)
def kC333_0 : aC := (([kvB 0 7, kvB 0 7, kvB 0 7, kvB 0 1, kvB 0 4], [], 16, [kvR 102, kvI 0, kvI 1, kvI 2, kvN 227, kvN 4, kvI 3, kvI 4], []), ([], []), (336, [(-1, 4)]))
def kC333_1 : aC := (([kvB 0 7, kvB 0 7, kvB 0 7, kvB 0 12], [], 141, [kvR 102, kvI 0, kvI 1, kvI 2, kvN 227, kvN 4, kvI 3, none], []), ([], []), (141, [(-11, 3)]))
def kC333_2 : aC := (([kvB 0 7, kvB 0 7, kvB 0 7, kvB 0 11, (.negSucc 0, .ofNat 7), kvB 1 12], [(102, 8, .inl (5, .ofNat 0))], 195, [kvR 102, kvI 0, kvI 1, kvI 2, kvN 227, kvN 4, kvI 3, kvI 4], []), ([], []), (139, [(-11, 3), (-1, 4)]))
def kC333_3 : aC := (([kvB 0 7, kvB 0 7, kvB 0 7, (.negSucc 0, .ofNat 2147483647)], [(102, 29, .inl (3, .ofNat 0))], 91, [kvR 102, kvI 0, kvI 1, kvI 2, kvN 227, kvN 4, kvN 1, kvN 4], []), ([], []), (166, []))
def kC333_4 : aC := (([kvB 0 7, kvB 0 7, kvB 0 7, kvB 0 4, (.negSucc 0, .ofNat 99)], [(102, 29, .inl (4, .ofNat 0)), (102, 30, .inr (.ofNat 4))], 110, [kvR 102, kvI 0, kvI 1, kvI 2, kvN 227, kvN 4, kvN 1, kvI 3], []), ([], []), (4, [(-1, 3)]))
theorem ks333 : aseg kS krf kB [kE43, kE89, kE317, kE325, kE329] (ksp [(192, 200, 7, 0, 7, 0)]) kE333 [kC333_0, kC333_1, kC333_2, kC333_3, kC333_4] 30000 (none) = true := by decide +kernel
theorem ks333_0 : aseg kS krf kB [kE43, kE89, kE317, kE325, kE329] (ksp [(192, 200, 7, 0, 7, 0)]) kE333 [kC333_0, kC333_1, kC333_2, kC333_3, kC333_4] 30000 (some kC333_0) = true := by decide +kernel
theorem ks333_1 : aseg kS krf kB [kE43, kE89, kE317, kE325, kE329] (ksp [(192, 200, 7, 0, 7, 0)]) kE333 [kC333_0, kC333_1, kC333_2, kC333_3, kC333_4] 30000 (some kC333_1) = true := by decide +kernel
theorem ks333_2 : aseg kS krf kB [kE43, kE89, kE317, kE325, kE329] (ksp [(192, 200, 7, 0, 7, 0)]) kE333 [kC333_0, kC333_1, kC333_2, kC333_3, kC333_4] 30000 (some kC333_2) = true := by decide +kernel
theorem ks333_3 : aseg kS krf kB [kE43, kE89, kE317, kE325, kE329] (ksp [(192, 200, 7, 0, 7, 0)]) kE333 [kC333_0, kC333_1, kC333_2, kC333_3, kC333_4] 30000 (some kC333_3) = true := by decide +kernel
theorem ks333_4 : aseg kS krf kB [kE43, kE89, kE317, kE325, kE329] (ksp [(192, 200, 7, 0, 7, 0)]) kE333 [kC333_0, kC333_1, kC333_2, kC333_3, kC333_4] 30000 (some kC333_4) = true := by decide +kernel
theorem kok333 : aOK kS krf kB kE333 := aOK_of (kal1 kok43 (kal1 kok89 (kal1 kok317 (kal1 kok325 (kal1 kok329 kal0))))) (kcl1 ks333_0 (kcl1 ks333_1 (kcl1 ks333_2 (kcl1 ks333_3 (kcl1 ks333_4 kcl0))))) ks333
/-- ColdShodModel.triesWay(IIIII)V -/
def kE334 : aE := (192, 50, ([kvB 0 7, kvB 0 7, kvB 0 7], [], 0, [kvR 102, kvI 0, kvI 1, kvI 2, kvN 226, kvN 3, none, none], []), ([], none), ([], [], none, ([], [])), kvW65)
def kC334_0 : aC := (([kvB 0 7, kvB 0 7, kvB 0 7, kvB 0 1, kvB 0 3], [], 16, [kvR 102, kvI 0, kvI 1, kvI 2, kvN 226, kvN 3, kvI 3, kvI 4], []), ([], []), (335, [(-1, 4)]))
def kC334_1 : aC := (([kvB 0 7, kvB 0 7, kvB 0 7, kvB 0 12], [], 141, [kvR 102, kvI 0, kvI 1, kvI 2, kvN 226, kvN 3, kvI 3, none], []), ([], []), (141, [(-11, 3)]))
def kC334_2 : aC := (([kvB 0 7, kvB 0 7, kvB 0 7, kvB 0 11, (.negSucc 0, .ofNat 7), kvB 1 12], [(102, 8, .inl (5, .ofNat 0))], 195, [kvR 102, kvI 0, kvI 1, kvI 2, kvN 226, kvN 3, kvI 3, kvI 4], []), ([], []), (139, [(-11, 3), (-1, 4)]))
def kC334_3 : aC := (([kvB 0 7, kvB 0 7, kvB 0 7, (.negSucc 0, .ofNat 2147483647)], [(102, 29, .inl (3, .ofNat 0))], 91, [kvR 102, kvI 0, kvI 1, kvI 2, kvN 226, kvN 3, kvN 1, kvN 3], []), ([], []), (166, []))
def kC334_4 : aC := (([kvB 0 7, kvB 0 7, kvB 0 7, kvB 0 3, (.negSucc 0, .ofNat 99)], [(102, 29, .inl (4, .ofNat 0)), (102, 30, .inr (.ofNat 3))], 110, [kvR 102, kvI 0, kvI 1, kvI 2, kvN 226, kvN 3, kvN 1, kvI 3], []), ([], []), (3, [(-1, 3)]))
theorem ks334 : aseg kS krf kB [kE43, kE89, kE318, kE326, kE330, kE333] (ksp [(192, 200, 7, 0, 7, 0)]) kE334 [kC334_0, kC334_1, kC334_2, kC334_3, kC334_4] 30000 (none) = true := by decide +kernel
theorem ks334_0 : aseg kS krf kB [kE43, kE89, kE318, kE326, kE330, kE333] (ksp [(192, 200, 7, 0, 7, 0)]) kE334 [kC334_0, kC334_1, kC334_2, kC334_3, kC334_4] 30000 (some kC334_0) = true := by decide +kernel
theorem ks334_1 : aseg kS krf kB [kE43, kE89, kE318, kE326, kE330, kE333] (ksp [(192, 200, 7, 0, 7, 0)]) kE334 [kC334_0, kC334_1, kC334_2, kC334_3, kC334_4] 30000 (some kC334_1) = true := by decide +kernel
theorem ks334_2 : aseg kS krf kB [kE43, kE89, kE318, kE326, kE330, kE333] (ksp [(192, 200, 7, 0, 7, 0)]) kE334 [kC334_0, kC334_1, kC334_2, kC334_3, kC334_4] 30000 (some kC334_2) = true := by decide +kernel
theorem ks334_3 : aseg kS krf kB [kE43, kE89, kE318, kE326, kE330, kE333] (ksp [(192, 200, 7, 0, 7, 0)]) kE334 [kC334_0, kC334_1, kC334_2, kC334_3, kC334_4] 30000 (some kC334_3) = true := by decide +kernel
theorem ks334_4 : aseg kS krf kB [kE43, kE89, kE318, kE326, kE330, kE333] (ksp [(192, 200, 7, 0, 7, 0)]) kE334 [kC334_0, kC334_1, kC334_2, kC334_3, kC334_4] 30000 (some kC334_4) = true := by decide +kernel
theorem kok334 : aOK kS krf kB kE334 := aOK_of (kal1 kok43 (kal1 kok89 (kal1 kok318 (kal1 kok326 (kal1 kok330 (kal1 kok333 kal0)))))) (kcl1 ks334_0 (kcl1 ks334_1 (kcl1 ks334_2 (kcl1 ks334_3 (kcl1 ks334_4 kcl0))))) ks334
/-- ColdShodModel.triesWay(IIIII)V -/
def kE335 : aE := (192, 50, ([kvB 0 7, kvB 0 7, kvB 0 7], [], 0, [kvR 102, kvI 0, kvI 1, kvI 2, kvN 225, kvN 3, none, none], []), ([], none), ([], [], none, ([], [])), kvW65)
def kC335_0 : aC := (([kvB 0 7, kvB 0 7, kvB 0 7, kvB 0 1, kvB 0 3], [], 16, [kvR 102, kvI 0, kvI 1, kvI 2, kvN 225, kvN 3, kvI 3, kvI 4], []), ([], []), (335, [(-1, 4)]))
def kC335_1 : aC := (([kvB 0 7, kvB 0 7, kvB 0 7, kvB 0 12], [], 141, [kvR 102, kvI 0, kvI 1, kvI 2, kvN 225, kvN 3, kvI 3, none], []), ([], []), (141, [(-11, 3)]))
def kC335_2 : aC := (([kvB 0 7, kvB 0 7, kvB 0 7, kvB 0 11, (.negSucc 0, .ofNat 7), kvB 1 12], [(102, 8, .inl (5, .ofNat 0))], 195, [kvR 102, kvI 0, kvI 1, kvI 2, kvN 225, kvN 3, kvI 3, kvI 4], []), ([], []), (139, [(-11, 3), (-1, 4)]))
def kC335_3 : aC := (([kvB 0 7, kvB 0 7, kvB 0 7, (.negSucc 0, .ofNat 2147483647)], [(102, 29, .inl (3, .ofNat 0))], 91, [kvR 102, kvI 0, kvI 1, kvI 2, kvN 225, kvN 3, kvN 1, kvN 3], []), ([], []), (166, []))
def kC335_4 : aC := (([kvB 0 7, kvB 0 7, kvB 0 7, kvB 0 3, (.negSucc 0, .ofNat 99)], [(102, 29, .inl (4, .ofNat 0)), (102, 30, .inr (.ofNat 3))], 110, [kvR 102, kvI 0, kvI 1, kvI 2, kvN 225, kvN 3, kvN 1, kvI 3], []), ([], []), (3, [(-1, 3)]))
theorem ks335 : aseg kS krf kB [kE43, kE89, kE319, kE327, kE331, kE333] (ksp [(192, 200, 7, 0, 7, 0)]) kE335 [kC335_0, kC335_1, kC335_2, kC335_3, kC335_4] 30000 (none) = true := by decide +kernel
theorem ks335_0 : aseg kS krf kB [kE43, kE89, kE319, kE327, kE331, kE333] (ksp [(192, 200, 7, 0, 7, 0)]) kE335 [kC335_0, kC335_1, kC335_2, kC335_3, kC335_4] 30000 (some kC335_0) = true := by decide +kernel
theorem ks335_1 : aseg kS krf kB [kE43, kE89, kE319, kE327, kE331, kE333] (ksp [(192, 200, 7, 0, 7, 0)]) kE335 [kC335_0, kC335_1, kC335_2, kC335_3, kC335_4] 30000 (some kC335_1) = true := by decide +kernel
theorem ks335_2 : aseg kS krf kB [kE43, kE89, kE319, kE327, kE331, kE333] (ksp [(192, 200, 7, 0, 7, 0)]) kE335 [kC335_0, kC335_1, kC335_2, kC335_3, kC335_4] 30000 (some kC335_2) = true := by decide +kernel
theorem ks335_3 : aseg kS krf kB [kE43, kE89, kE319, kE327, kE331, kE333] (ksp [(192, 200, 7, 0, 7, 0)]) kE335 [kC335_0, kC335_1, kC335_2, kC335_3, kC335_4] 30000 (some kC335_3) = true := by decide +kernel
theorem ks335_4 : aseg kS krf kB [kE43, kE89, kE319, kE327, kE331, kE333] (ksp [(192, 200, 7, 0, 7, 0)]) kE335 [kC335_0, kC335_1, kC335_2, kC335_3, kC335_4] 30000 (some kC335_4) = true := by decide +kernel
theorem kok335 : aOK kS krf kB kE335 := aOK_of (kal1 kok43 (kal1 kok89 (kal1 kok319 (kal1 kok327 (kal1 kok331 (kal1 kok333 kal0)))))) (kcl1 ks335_0 (kcl1 ks335_1 (kcl1 ks335_2 (kcl1 ks335_3 (kcl1 ks335_4 kcl0))))) ks335
/-- ColdShodModel.triesWay(IIIII)V -/
def kE336 : aE := (192, 51, ([kvB 0 7, kvB 0 7, kvB 0 7], [], 0, [kvR 102, kvI 0, kvI 1, kvI 2, kvN 224, kvN 2, none, none], []), ([], none), ([], [], none, ([], [])), kvW66)
def kC336_0 : aC := (([kvB 0 7, kvB 0 7, kvB 0 7, kvB 0 1, kvB 0 2], [], 16, [kvR 102, kvI 0, kvI 1, kvI 2, kvN 224, kvN 2, kvI 3, kvI 4], []), ([], []), (334, [(-1, 4)]))
def kC336_1 : aC := (([kvB 0 7, kvB 0 7, kvB 0 7, kvB 0 12], [], 141, [kvR 102, kvI 0, kvI 1, kvI 2, kvN 224, kvN 2, kvI 3, none], []), ([], []), (141, [(-11, 3)]))
def kC336_2 : aC := (([kvB 0 7, kvB 0 7, kvB 0 7, kvB 0 11, (.negSucc 0, .ofNat 7), kvB 1 12], [(102, 8, .inl (5, .ofNat 0))], 195, [kvR 102, kvI 0, kvI 1, kvI 2, kvN 224, kvN 2, kvI 3, kvI 4], []), ([], []), (139, [(-11, 3), (-1, 4)]))
def kC336_3 : aC := (([kvB 0 7, kvB 0 7, kvB 0 7, (.negSucc 0, .ofNat 2147483647)], [(102, 29, .inl (3, .ofNat 0))], 91, [kvR 102, kvI 0, kvI 1, kvI 2, kvN 224, kvN 2, kvN 1, kvN 2], []), ([], []), (166, []))
def kC336_4 : aC := (([kvB 0 7, kvB 0 7, kvB 0 7, kvB 0 2, (.negSucc 0, .ofNat 99)], [(102, 29, .inl (4, .ofNat 0)), (102, 30, .inr (.ofNat 2))], 110, [kvR 102, kvI 0, kvI 1, kvI 2, kvN 224, kvN 2, kvN 1, kvI 3], []), ([], []), (2, [(-1, 3)]))
theorem ks336 : aseg kS krf kB [kE43, kE89, kE320, kE328, kE332, kE334, kE335] (ksp [(192, 200, 7, 0, 7, 0)]) kE336 [kC336_0, kC336_1, kC336_2, kC336_3, kC336_4] 30000 (none) = true := by decide +kernel
theorem ks336_0 : aseg kS krf kB [kE43, kE89, kE320, kE328, kE332, kE334, kE335] (ksp [(192, 200, 7, 0, 7, 0)]) kE336 [kC336_0, kC336_1, kC336_2, kC336_3, kC336_4] 30000 (some kC336_0) = true := by decide +kernel
theorem ks336_1 : aseg kS krf kB [kE43, kE89, kE320, kE328, kE332, kE334, kE335] (ksp [(192, 200, 7, 0, 7, 0)]) kE336 [kC336_0, kC336_1, kC336_2, kC336_3, kC336_4] 30000 (some kC336_1) = true := by decide +kernel
theorem ks336_2 : aseg kS krf kB [kE43, kE89, kE320, kE328, kE332, kE334, kE335] (ksp [(192, 200, 7, 0, 7, 0)]) kE336 [kC336_0, kC336_1, kC336_2, kC336_3, kC336_4] 30000 (some kC336_2) = true := by decide +kernel
theorem ks336_3 : aseg kS krf kB [kE43, kE89, kE320, kE328, kE332, kE334, kE335] (ksp [(192, 200, 7, 0, 7, 0)]) kE336 [kC336_0, kC336_1, kC336_2, kC336_3, kC336_4] 30000 (some kC336_3) = true := by decide +kernel
theorem ks336_4 : aseg kS krf kB [kE43, kE89, kE320, kE328, kE332, kE334, kE335] (ksp [(192, 200, 7, 0, 7, 0)]) kE336 [kC336_0, kC336_1, kC336_2, kC336_3, kC336_4] 30000 (some kC336_4) = true := by decide +kernel
theorem kok336 : aOK kS krf kB kE336 := aOK_of (kal1 kok43 (kal1 kok89 (kal1 kok320 (kal1 kok328 (kal1 kok332 (kal1 kok334 (kal1 kok335 kal0))))))) (kcl1 ks336_0 (kcl1 ks336_1 (kcl1 ks336_2 (kcl1 ks336_3 (kcl1 ks336_4 kcl0))))) ks336
/-- ColdShodModel.triesWay(IIIII)V -/
def kE337 : aE := (192, 47, ([kvB 0 7, kvB 0 7, kvB 0 7], [], 0, [kvR 102, kvI 0, kvI 1, kvI 2, kvN 223, kvN 6, none, none], []), ([], none), ([], [], none, ([], [])), kvW62)
def kC337_0 : aC := (([kvB 0 7, kvB 0 7, kvB 0 7, kvB 0 1, kvB 0 6], [], 16, [kvR 102, kvI 0, kvI 1, kvI 2, kvN 223, kvN 6, kvI 3, kvI 4], []), ([], []), (338, [(-1, 4)]))
def kC337_1 : aC := (([kvB 0 7, kvB 0 7, kvB 0 7, kvB 0 12], [], 141, [kvR 102, kvI 0, kvI 1, kvI 2, kvN 223, kvN 6, kvI 3, none], []), ([], []), (141, [(-11, 3)]))
def kC337_2 : aC := (([kvB 0 7, kvB 0 7, kvB 0 7, kvB 0 11, (.negSucc 0, .ofNat 7), kvB 1 12], [(102, 8, .inl (5, .ofNat 0))], 195, [kvR 102, kvI 0, kvI 1, kvI 2, kvN 223, kvN 6, kvI 3, kvI 4], []), ([], []), (139, [(-11, 3), (-1, 4)]))
def kC337_3 : aC := (([kvB 0 7, kvB 0 7, kvB 0 7, (.negSucc 0, .ofNat 2147483647)], [(102, 29, .inl (3, .ofNat 0))], 91, [kvR 102, kvI 0, kvI 1, kvI 2, kvN 223, kvN 6, kvN 1, kvN 6], []), ([], []), (166, []))
def kC337_4 : aC := (([kvB 0 7, kvB 0 7, kvB 0 7, kvB 0 6, (.negSucc 0, .ofNat 99)], [(102, 29, .inl (4, .ofNat 0)), (102, 30, .inr (.ofNat 6))], 110, [kvR 102, kvI 0, kvI 1, kvI 2, kvN 223, kvN 6, kvN 1, kvI 3], []), ([], []), (6, [(-1, 3)]))
theorem ks337 : aseg kS krf kB [kE43, kE89, kE305] (ksp [(192, 200, 7, 0, 7, 0)]) kE337 [kC337_0, kC337_1, kC337_2, kC337_3, kC337_4] 30000 (none) = true := by decide +kernel
theorem ks337_0 : aseg kS krf kB [kE43, kE89, kE305] (ksp [(192, 200, 7, 0, 7, 0)]) kE337 [kC337_0, kC337_1, kC337_2, kC337_3, kC337_4] 30000 (some kC337_0) = true := by decide +kernel
theorem ks337_1 : aseg kS krf kB [kE43, kE89, kE305] (ksp [(192, 200, 7, 0, 7, 0)]) kE337 [kC337_0, kC337_1, kC337_2, kC337_3, kC337_4] 30000 (some kC337_1) = true := by decide +kernel
theorem ks337_2 : aseg kS krf kB [kE43, kE89, kE305] (ksp [(192, 200, 7, 0, 7, 0)]) kE337 [kC337_0, kC337_1, kC337_2, kC337_3, kC337_4] 30000 (some kC337_2) = true := by decide +kernel
theorem ks337_3 : aseg kS krf kB [kE43, kE89, kE305] (ksp [(192, 200, 7, 0, 7, 0)]) kE337 [kC337_0, kC337_1, kC337_2, kC337_3, kC337_4] 30000 (some kC337_3) = true := by decide +kernel
theorem ks337_4 : aseg kS krf kB [kE43, kE89, kE305] (ksp [(192, 200, 7, 0, 7, 0)]) kE337 [kC337_0, kC337_1, kC337_2, kC337_3, kC337_4] 30000 (some kC337_4) = true := by decide +kernel
theorem kok337 : aOK kS krf kB kE337 := aOK_of (kal1 kok43 (kal1 kok89 (kal1 kok305 kal0))) (kcl1 ks337_0 (kcl1 ks337_1 (kcl1 ks337_2 (kcl1 ks337_3 (kcl1 ks337_4 kcl0))))) ks337
/-- ColdShodModel.triesWay(IIIII)V -/
def kE338 : aE := (192, 48, ([kvB 0 7, kvB 0 7, kvB 0 7], [], 0, [kvR 102, kvI 0, kvI 1, kvI 2, kvN 222, kvN 5, none, none], []), ([], none), ([], [], none, ([], [])), kvW63)
def kC338_0 : aC := (([kvB 0 7, kvB 0 7, kvB 0 7, kvB 0 1, kvB 0 5], [], 16, [kvR 102, kvI 0, kvI 1, kvI 2, kvN 222, kvN 5, kvI 3, kvI 4], []), ([], []), (337, [(-1, 4)]))
def kC338_1 : aC := (([kvB 0 7, kvB 0 7, kvB 0 7, kvB 0 12], [], 141, [kvR 102, kvI 0, kvI 1, kvI 2, kvN 222, kvN 5, kvI 3, none], []), ([], []), (141, [(-11, 3)]))
def kC338_2 : aC := (([kvB 0 7, kvB 0 7, kvB 0 7, kvB 0 11, (.negSucc 0, .ofNat 7), kvB 1 12], [(102, 8, .inl (5, .ofNat 0))], 195, [kvR 102, kvI 0, kvI 1, kvI 2, kvN 222, kvN 5, kvI 3, kvI 4], []), ([], []), (139, [(-11, 3), (-1, 4)]))
def kC338_3 : aC := (([kvB 0 7, kvB 0 7, kvB 0 7, (.negSucc 0, .ofNat 2147483647)], [(102, 29, .inl (3, .ofNat 0))], 91, [kvR 102, kvI 0, kvI 1, kvI 2, kvN 222, kvN 5, kvN 1, kvN 5], []), ([], []), (166, []))
def kC338_4 : aC := (([kvB 0 7, kvB 0 7, kvB 0 7, kvB 0 5, (.negSucc 0, .ofNat 99)], [(102, 29, .inl (4, .ofNat 0)), (102, 30, .inr (.ofNat 5))], 110, [kvR 102, kvI 0, kvI 1, kvI 2, kvN 222, kvN 5, kvN 1, kvI 3], []), ([], []), (5, [(-1, 3)]))
theorem ks338 : aseg kS krf kB [kE43, kE89, kE306, kE337] (ksp [(192, 200, 7, 0, 7, 0)]) kE338 [kC338_0, kC338_1, kC338_2, kC338_3, kC338_4] 30000 (none) = true := by decide +kernel
theorem ks338_0 : aseg kS krf kB [kE43, kE89, kE306, kE337] (ksp [(192, 200, 7, 0, 7, 0)]) kE338 [kC338_0, kC338_1, kC338_2, kC338_3, kC338_4] 30000 (some kC338_0) = true := by decide +kernel
theorem ks338_1 : aseg kS krf kB [kE43, kE89, kE306, kE337] (ksp [(192, 200, 7, 0, 7, 0)]) kE338 [kC338_0, kC338_1, kC338_2, kC338_3, kC338_4] 30000 (some kC338_1) = true := by decide +kernel
theorem ks338_2 : aseg kS krf kB [kE43, kE89, kE306, kE337] (ksp [(192, 200, 7, 0, 7, 0)]) kE338 [kC338_0, kC338_1, kC338_2, kC338_3, kC338_4] 30000 (some kC338_2) = true := by decide +kernel
theorem ks338_3 : aseg kS krf kB [kE43, kE89, kE306, kE337] (ksp [(192, 200, 7, 0, 7, 0)]) kE338 [kC338_0, kC338_1, kC338_2, kC338_3, kC338_4] 30000 (some kC338_3) = true := by decide +kernel
theorem ks338_4 : aseg kS krf kB [kE43, kE89, kE306, kE337] (ksp [(192, 200, 7, 0, 7, 0)]) kE338 [kC338_0, kC338_1, kC338_2, kC338_3, kC338_4] 30000 (some kC338_4) = true := by decide +kernel
theorem kok338 : aOK kS krf kB kE338 := aOK_of (kal1 kok43 (kal1 kok89 (kal1 kok306 (kal1 kok337 kal0)))) (kcl1 ks338_0 (kcl1 ks338_1 (kcl1 ks338_2 (kcl1 ks338_3 (kcl1 ks338_4 kcl0))))) ks338
/-- ColdShodModel.triesWay(IIIII)V -/
def kE339 : aE := (192, 48, ([kvB 0 7, kvB 0 7, kvB 0 7], [], 0, [kvR 102, kvI 0, kvI 1, kvI 2, kvN 221, kvN 5, none, none], []), ([], none), ([], [], none, ([], [])), kvW63)
def kC339_0 : aC := (([kvB 0 7, kvB 0 7, kvB 0 7, kvB 0 1, kvB 0 5], [], 16, [kvR 102, kvI 0, kvI 1, kvI 2, kvN 221, kvN 5, kvI 3, kvI 4], []), ([], []), (337, [(-1, 4)]))
def kC339_1 : aC := (([kvB 0 7, kvB 0 7, kvB 0 7, kvB 0 12], [], 141, [kvR 102, kvI 0, kvI 1, kvI 2, kvN 221, kvN 5, kvI 3, none], []), ([], []), (141, [(-11, 3)]))
def kC339_2 : aC := (([kvB 0 7, kvB 0 7, kvB 0 7, kvB 0 11, (.negSucc 0, .ofNat 7), kvB 1 12], [(102, 8, .inl (5, .ofNat 0))], 195, [kvR 102, kvI 0, kvI 1, kvI 2, kvN 221, kvN 5, kvI 3, kvI 4], []), ([], []), (139, [(-11, 3), (-1, 4)]))
def kC339_3 : aC := (([kvB 0 7, kvB 0 7, kvB 0 7, (.negSucc 0, .ofNat 2147483647)], [(102, 29, .inl (3, .ofNat 0))], 91, [kvR 102, kvI 0, kvI 1, kvI 2, kvN 221, kvN 5, kvN 1, kvN 5], []), ([], []), (166, []))
def kC339_4 : aC := (([kvB 0 7, kvB 0 7, kvB 0 7, kvB 0 5, (.negSucc 0, .ofNat 99)], [(102, 29, .inl (4, .ofNat 0)), (102, 30, .inr (.ofNat 5))], 110, [kvR 102, kvI 0, kvI 1, kvI 2, kvN 221, kvN 5, kvN 1, kvI 3], []), ([], []), (5, [(-1, 3)]))
theorem ks339 : aseg kS krf kB [kE43, kE89, kE307, kE337] (ksp [(192, 200, 7, 0, 7, 0)]) kE339 [kC339_0, kC339_1, kC339_2, kC339_3, kC339_4] 30000 (none) = true := by decide +kernel
theorem ks339_0 : aseg kS krf kB [kE43, kE89, kE307, kE337] (ksp [(192, 200, 7, 0, 7, 0)]) kE339 [kC339_0, kC339_1, kC339_2, kC339_3, kC339_4] 30000 (some kC339_0) = true := by decide +kernel
theorem ks339_1 : aseg kS krf kB [kE43, kE89, kE307, kE337] (ksp [(192, 200, 7, 0, 7, 0)]) kE339 [kC339_0, kC339_1, kC339_2, kC339_3, kC339_4] 30000 (some kC339_1) = true := by decide +kernel
theorem ks339_2 : aseg kS krf kB [kE43, kE89, kE307, kE337] (ksp [(192, 200, 7, 0, 7, 0)]) kE339 [kC339_0, kC339_1, kC339_2, kC339_3, kC339_4] 30000 (some kC339_2) = true := by decide +kernel
theorem ks339_3 : aseg kS krf kB [kE43, kE89, kE307, kE337] (ksp [(192, 200, 7, 0, 7, 0)]) kE339 [kC339_0, kC339_1, kC339_2, kC339_3, kC339_4] 30000 (some kC339_3) = true := by decide +kernel
theorem ks339_4 : aseg kS krf kB [kE43, kE89, kE307, kE337] (ksp [(192, 200, 7, 0, 7, 0)]) kE339 [kC339_0, kC339_1, kC339_2, kC339_3, kC339_4] 30000 (some kC339_4) = true := by decide +kernel
theorem kok339 : aOK kS krf kB kE339 := aOK_of (kal1 kok43 (kal1 kok89 (kal1 kok307 (kal1 kok337 kal0)))) (kcl1 ks339_0 (kcl1 ks339_1 (kcl1 ks339_2 (kcl1 ks339_3 (kcl1 ks339_4 kcl0))))) ks339
/-- ColdShodModel.triesWay(IIIII)V -/
def kE340 : aE := (192, 49, ([kvB 0 7, kvB 0 7, kvB 0 7], [], 0, [kvR 102, kvI 0, kvI 1, kvI 2, kvN 220, kvN 4, none, none], []), ([], none), ([], [], none, ([], [])), kvW64)
def kC340_0 : aC := (([kvB 0 7, kvB 0 7, kvB 0 7, kvB 0 1, kvB 0 4], [], 16, [kvR 102, kvI 0, kvI 1, kvI 2, kvN 220, kvN 4, kvI 3, kvI 4], []), ([], []), (336, [(-1, 4)]))
def kC340_1 : aC := (([kvB 0 7, kvB 0 7, kvB 0 7, kvB 0 12], [], 141, [kvR 102, kvI 0, kvI 1, kvI 2, kvN 220, kvN 4, kvI 3, none], []), ([], []), (141, [(-11, 3)]))
def kC340_2 : aC := (([kvB 0 7, kvB 0 7, kvB 0 7, kvB 0 11, (.negSucc 0, .ofNat 7), kvB 1 12], [(102, 8, .inl (5, .ofNat 0))], 195, [kvR 102, kvI 0, kvI 1, kvI 2, kvN 220, kvN 4, kvI 3, kvI 4], []), ([], []), (139, [(-11, 3), (-1, 4)]))
def kC340_3 : aC := (([kvB 0 7, kvB 0 7, kvB 0 7, (.negSucc 0, .ofNat 2147483647)], [(102, 29, .inl (3, .ofNat 0))], 91, [kvR 102, kvI 0, kvI 1, kvI 2, kvN 220, kvN 4, kvN 1, kvN 4], []), ([], []), (166, []))
def kC340_4 : aC := (([kvB 0 7, kvB 0 7, kvB 0 7, kvB 0 4, (.negSucc 0, .ofNat 99)], [(102, 29, .inl (4, .ofNat 0)), (102, 30, .inr (.ofNat 4))], 110, [kvR 102, kvI 0, kvI 1, kvI 2, kvN 220, kvN 4, kvN 1, kvI 3], []), ([], []), (4, [(-1, 3)]))
theorem ks340 : aseg kS krf kB [kE43, kE89, kE308, kE338, kE339] (ksp [(192, 200, 7, 0, 7, 0)]) kE340 [kC340_0, kC340_1, kC340_2, kC340_3, kC340_4] 30000 (none) = true := by decide +kernel
theorem ks340_0 : aseg kS krf kB [kE43, kE89, kE308, kE338, kE339] (ksp [(192, 200, 7, 0, 7, 0)]) kE340 [kC340_0, kC340_1, kC340_2, kC340_3, kC340_4] 30000 (some kC340_0) = true := by decide +kernel
theorem ks340_1 : aseg kS krf kB [kE43, kE89, kE308, kE338, kE339] (ksp [(192, 200, 7, 0, 7, 0)]) kE340 [kC340_0, kC340_1, kC340_2, kC340_3, kC340_4] 30000 (some kC340_1) = true := by decide +kernel
theorem ks340_2 : aseg kS krf kB [kE43, kE89, kE308, kE338, kE339] (ksp [(192, 200, 7, 0, 7, 0)]) kE340 [kC340_0, kC340_1, kC340_2, kC340_3, kC340_4] 30000 (some kC340_2) = true := by decide +kernel
theorem ks340_3 : aseg kS krf kB [kE43, kE89, kE308, kE338, kE339] (ksp [(192, 200, 7, 0, 7, 0)]) kE340 [kC340_0, kC340_1, kC340_2, kC340_3, kC340_4] 30000 (some kC340_3) = true := by decide +kernel
theorem ks340_4 : aseg kS krf kB [kE43, kE89, kE308, kE338, kE339] (ksp [(192, 200, 7, 0, 7, 0)]) kE340 [kC340_0, kC340_1, kC340_2, kC340_3, kC340_4] 30000 (some kC340_4) = true := by decide +kernel
theorem kok340 : aOK kS krf kB kE340 := aOK_of (kal1 kok43 (kal1 kok89 (kal1 kok308 (kal1 kok338 (kal1 kok339 kal0))))) (kcl1 ks340_0 (kcl1 ks340_1 (kcl1 ks340_2 (kcl1 ks340_3 (kcl1 ks340_4 kcl0))))) ks340
/-- ColdShodModel.triesWay(IIIII)V -/
def kE341 : aE := (192, 48, ([kvB 0 7, kvB 0 7, kvB 0 7], [], 0, [kvR 102, kvI 0, kvI 1, kvI 2, kvN 219, kvN 5, none, none], []), ([], none), ([], [], none, ([], [])), kvW63)
def kC341_0 : aC := (([kvB 0 7, kvB 0 7, kvB 0 7, kvB 0 1, kvB 0 5], [], 16, [kvR 102, kvI 0, kvI 1, kvI 2, kvN 219, kvN 5, kvI 3, kvI 4], []), ([], []), (337, [(-1, 4)]))
def kC341_1 : aC := (([kvB 0 7, kvB 0 7, kvB 0 7, kvB 0 12], [], 141, [kvR 102, kvI 0, kvI 1, kvI 2, kvN 219, kvN 5, kvI 3, none], []), ([], []), (141, [(-11, 3)]))
def kC341_2 : aC := (([kvB 0 7, kvB 0 7, kvB 0 7, kvB 0 11, (.negSucc 0, .ofNat 7), kvB 1 12], [(102, 8, .inl (5, .ofNat 0))], 195, [kvR 102, kvI 0, kvI 1, kvI 2, kvN 219, kvN 5, kvI 3, kvI 4], []), ([], []), (139, [(-11, 3), (-1, 4)]))
def kC341_3 : aC := (([kvB 0 7, kvB 0 7, kvB 0 7, (.negSucc 0, .ofNat 2147483647)], [(102, 29, .inl (3, .ofNat 0))], 91, [kvR 102, kvI 0, kvI 1, kvI 2, kvN 219, kvN 5, kvN 1, kvN 5], []), ([], []), (166, []))
def kC341_4 : aC := (([kvB 0 7, kvB 0 7, kvB 0 7, kvB 0 5, (.negSucc 0, .ofNat 99)], [(102, 29, .inl (4, .ofNat 0)), (102, 30, .inr (.ofNat 5))], 110, [kvR 102, kvI 0, kvI 1, kvI 2, kvN 219, kvN 5, kvN 1, kvI 3], []), ([], []), (5, [(-1, 3)]))
theorem ks341 : aseg kS krf kB [kE43, kE89, kE309, kE337] (ksp [(192, 200, 7, 0, 7, 0)]) kE341 [kC341_0, kC341_1, kC341_2, kC341_3, kC341_4] 30000 (none) = true := by decide +kernel
theorem ks341_0 : aseg kS krf kB [kE43, kE89, kE309, kE337] (ksp [(192, 200, 7, 0, 7, 0)]) kE341 [kC341_0, kC341_1, kC341_2, kC341_3, kC341_4] 30000 (some kC341_0) = true := by decide +kernel
theorem ks341_1 : aseg kS krf kB [kE43, kE89, kE309, kE337] (ksp [(192, 200, 7, 0, 7, 0)]) kE341 [kC341_0, kC341_1, kC341_2, kC341_3, kC341_4] 30000 (some kC341_1) = true := by decide +kernel
theorem ks341_2 : aseg kS krf kB [kE43, kE89, kE309, kE337] (ksp [(192, 200, 7, 0, 7, 0)]) kE341 [kC341_0, kC341_1, kC341_2, kC341_3, kC341_4] 30000 (some kC341_2) = true := by decide +kernel
theorem ks341_3 : aseg kS krf kB [kE43, kE89, kE309, kE337] (ksp [(192, 200, 7, 0, 7, 0)]) kE341 [kC341_0, kC341_1, kC341_2, kC341_3, kC341_4] 30000 (some kC341_3) = true := by decide +kernel
theorem ks341_4 : aseg kS krf kB [kE43, kE89, kE309, kE337] (ksp [(192, 200, 7, 0, 7, 0)]) kE341 [kC341_0, kC341_1, kC341_2, kC341_3, kC341_4] 30000 (some kC341_4) = true := by decide +kernel
theorem kok341 : aOK kS krf kB kE341 := aOK_of (kal1 kok43 (kal1 kok89 (kal1 kok309 (kal1 kok337 kal0)))) (kcl1 ks341_0 (kcl1 ks341_1 (kcl1 ks341_2 (kcl1 ks341_3 (kcl1 ks341_4 kcl0))))) ks341
/-- ColdShodModel.triesWay(IIIII)V -/
def kE342 : aE := (192, 49, ([kvB 0 7, kvB 0 7, kvB 0 7], [], 0, [kvR 102, kvI 0, kvI 1, kvI 2, kvN 218, kvN 4, none, none], []), ([], none), ([], [], none, ([], [])), kvW64)
def kC342_0 : aC := (([kvB 0 7, kvB 0 7, kvB 0 7, kvB 0 1, kvB 0 4], [], 16, [kvR 102, kvI 0, kvI 1, kvI 2, kvN 218, kvN 4, kvI 3, kvI 4], []), ([], []), (336, [(-1, 4)]))
def kC342_1 : aC := (([kvB 0 7, kvB 0 7, kvB 0 7, kvB 0 12], [], 141, [kvR 102, kvI 0, kvI 1, kvI 2, kvN 218, kvN 4, kvI 3, none], []), ([], []), (141, [(-11, 3)]))
def kC342_2 : aC := (([kvB 0 7, kvB 0 7, kvB 0 7, kvB 0 11, (.negSucc 0, .ofNat 7), kvB 1 12], [(102, 8, .inl (5, .ofNat 0))], 195, [kvR 102, kvI 0, kvI 1, kvI 2, kvN 218, kvN 4, kvI 3, kvI 4], []), ([], []), (139, [(-11, 3), (-1, 4)]))
def kC342_3 : aC := (([kvB 0 7, kvB 0 7, kvB 0 7, (.negSucc 0, .ofNat 2147483647)], [(102, 29, .inl (3, .ofNat 0))], 91, [kvR 102, kvI 0, kvI 1, kvI 2, kvN 218, kvN 4, kvN 1, kvN 4], []), ([], []), (166, []))
def kC342_4 : aC := (([kvB 0 7, kvB 0 7, kvB 0 7, kvB 0 4, (.negSucc 0, .ofNat 99)], [(102, 29, .inl (4, .ofNat 0)), (102, 30, .inr (.ofNat 4))], 110, [kvR 102, kvI 0, kvI 1, kvI 2, kvN 218, kvN 4, kvN 1, kvI 3], []), ([], []), (4, [(-1, 3)]))
theorem ks342 : aseg kS krf kB [kE43, kE89, kE310, kE338, kE341] (ksp [(192, 200, 7, 0, 7, 0)]) kE342 [kC342_0, kC342_1, kC342_2, kC342_3, kC342_4] 30000 (none) = true := by decide +kernel
theorem ks342_0 : aseg kS krf kB [kE43, kE89, kE310, kE338, kE341] (ksp [(192, 200, 7, 0, 7, 0)]) kE342 [kC342_0, kC342_1, kC342_2, kC342_3, kC342_4] 30000 (some kC342_0) = true := by decide +kernel
theorem ks342_1 : aseg kS krf kB [kE43, kE89, kE310, kE338, kE341] (ksp [(192, 200, 7, 0, 7, 0)]) kE342 [kC342_0, kC342_1, kC342_2, kC342_3, kC342_4] 30000 (some kC342_1) = true := by decide +kernel
theorem ks342_2 : aseg kS krf kB [kE43, kE89, kE310, kE338, kE341] (ksp [(192, 200, 7, 0, 7, 0)]) kE342 [kC342_0, kC342_1, kC342_2, kC342_3, kC342_4] 30000 (some kC342_2) = true := by decide +kernel
theorem ks342_3 : aseg kS krf kB [kE43, kE89, kE310, kE338, kE341] (ksp [(192, 200, 7, 0, 7, 0)]) kE342 [kC342_0, kC342_1, kC342_2, kC342_3, kC342_4] 30000 (some kC342_3) = true := by decide +kernel
theorem ks342_4 : aseg kS krf kB [kE43, kE89, kE310, kE338, kE341] (ksp [(192, 200, 7, 0, 7, 0)]) kE342 [kC342_0, kC342_1, kC342_2, kC342_3, kC342_4] 30000 (some kC342_4) = true := by decide +kernel
theorem kok342 : aOK kS krf kB kE342 := aOK_of (kal1 kok43 (kal1 kok89 (kal1 kok310 (kal1 kok338 (kal1 kok341 kal0))))) (kcl1 ks342_0 (kcl1 ks342_1 (kcl1 ks342_2 (kcl1 ks342_3 (kcl1 ks342_4 kcl0))))) ks342
/-- ColdShodModel.triesWay(IIIII)V -/
def kE343 : aE := (192, 49, ([kvB 0 7, kvB 0 7, kvB 0 7], [], 0, [kvR 102, kvI 0, kvI 1, kvI 2, kvN 217, kvN 4, none, none], []), ([], none), ([], [], none, ([], [])), kvW64)
def kC343_0 : aC := (([kvB 0 7, kvB 0 7, kvB 0 7, kvB 0 1, kvB 0 4], [], 16, [kvR 102, kvI 0, kvI 1, kvI 2, kvN 217, kvN 4, kvI 3, kvI 4], []), ([], []), (336, [(-1, 4)]))
def kC343_1 : aC := (([kvB 0 7, kvB 0 7, kvB 0 7, kvB 0 12], [], 141, [kvR 102, kvI 0, kvI 1, kvI 2, kvN 217, kvN 4, kvI 3, none], []), ([], []), (141, [(-11, 3)]))
def kC343_2 : aC := (([kvB 0 7, kvB 0 7, kvB 0 7, kvB 0 11, (.negSucc 0, .ofNat 7), kvB 1 12], [(102, 8, .inl (5, .ofNat 0))], 195, [kvR 102, kvI 0, kvI 1, kvI 2, kvN 217, kvN 4, kvI 3, kvI 4], []), ([], []), (139, [(-11, 3), (-1, 4)]))
def kC343_3 : aC := (([kvB 0 7, kvB 0 7, kvB 0 7, (.negSucc 0, .ofNat 2147483647)], [(102, 29, .inl (3, .ofNat 0))], 91, [kvR 102, kvI 0, kvI 1, kvI 2, kvN 217, kvN 4, kvN 1, kvN 4], []), ([], []), (166, []))
def kC343_4 : aC := (([kvB 0 7, kvB 0 7, kvB 0 7, kvB 0 4, (.negSucc 0, .ofNat 99)], [(102, 29, .inl (4, .ofNat 0)), (102, 30, .inr (.ofNat 4))], 110, [kvR 102, kvI 0, kvI 1, kvI 2, kvN 217, kvN 4, kvN 1, kvI 3], []), ([], []), (4, [(-1, 3)]))
theorem ks343 : aseg kS krf kB [kE43, kE89, kE311, kE339, kE341] (ksp [(192, 200, 7, 0, 7, 0)]) kE343 [kC343_0, kC343_1, kC343_2, kC343_3, kC343_4] 30000 (none) = true := by decide +kernel
theorem ks343_0 : aseg kS krf kB [kE43, kE89, kE311, kE339, kE341] (ksp [(192, 200, 7, 0, 7, 0)]) kE343 [kC343_0, kC343_1, kC343_2, kC343_3, kC343_4] 30000 (some kC343_0) = true := by decide +kernel
theorem ks343_1 : aseg kS krf kB [kE43, kE89, kE311, kE339, kE341] (ksp [(192, 200, 7, 0, 7, 0)]) kE343 [kC343_0, kC343_1, kC343_2, kC343_3, kC343_4] 30000 (some kC343_1) = true := by decide +kernel
theorem ks343_2 : aseg kS krf kB [kE43, kE89, kE311, kE339, kE341] (ksp [(192, 200, 7, 0, 7, 0)]) kE343 [kC343_0, kC343_1, kC343_2, kC343_3, kC343_4] 30000 (some kC343_2) = true := by decide +kernel
theorem ks343_3 : aseg kS krf kB [kE43, kE89, kE311, kE339, kE341] (ksp [(192, 200, 7, 0, 7, 0)]) kE343 [kC343_0, kC343_1, kC343_2, kC343_3, kC343_4] 30000 (some kC343_3) = true := by decide +kernel
theorem ks343_4 : aseg kS krf kB [kE43, kE89, kE311, kE339, kE341] (ksp [(192, 200, 7, 0, 7, 0)]) kE343 [kC343_0, kC343_1, kC343_2, kC343_3, kC343_4] 30000 (some kC343_4) = true := by decide +kernel
theorem kok343 : aOK kS krf kB kE343 := aOK_of (kal1 kok43 (kal1 kok89 (kal1 kok311 (kal1 kok339 (kal1 kok341 kal0))))) (kcl1 ks343_0 (kcl1 ks343_1 (kcl1 ks343_2 (kcl1 ks343_3 (kcl1 ks343_4 kcl0))))) ks343
/-- ColdShodModel.triesWay(IIIII)V -/
def kE344 : aE := (192, 50, ([kvB 0 7, kvB 0 7, kvB 0 7], [], 0, [kvR 102, kvI 0, kvI 1, kvI 2, kvN 216, kvN 3, none, none], []), ([], none), ([], [], none, ([], [])), kvW65)
def kC344_0 : aC := (([kvB 0 7, kvB 0 7, kvB 0 7, kvB 0 1, kvB 0 3], [], 16, [kvR 102, kvI 0, kvI 1, kvI 2, kvN 216, kvN 3, kvI 3, kvI 4], []), ([], []), (335, [(-1, 4)]))
def kC344_1 : aC := (([kvB 0 7, kvB 0 7, kvB 0 7, kvB 0 12], [], 141, [kvR 102, kvI 0, kvI 1, kvI 2, kvN 216, kvN 3, kvI 3, none], []), ([], []), (141, [(-11, 3)]))
def kC344_2 : aC := (([kvB 0 7, kvB 0 7, kvB 0 7, kvB 0 11, (.negSucc 0, .ofNat 7), kvB 1 12], [(102, 8, .inl (5, .ofNat 0))], 195, [kvR 102, kvI 0, kvI 1, kvI 2, kvN 216, kvN 3, kvI 3, kvI 4], []), ([], []), (139, [(-11, 3), (-1, 4)]))
def kC344_3 : aC := (([kvB 0 7, kvB 0 7, kvB 0 7, (.negSucc 0, .ofNat 2147483647)], [(102, 29, .inl (3, .ofNat 0))], 91, [kvR 102, kvI 0, kvI 1, kvI 2, kvN 216, kvN 3, kvN 1, kvN 3], []), ([], []), (166, []))
def kC344_4 : aC := (([kvB 0 7, kvB 0 7, kvB 0 7, kvB 0 3, (.negSucc 0, .ofNat 99)], [(102, 29, .inl (4, .ofNat 0)), (102, 30, .inr (.ofNat 3))], 110, [kvR 102, kvI 0, kvI 1, kvI 2, kvN 216, kvN 3, kvN 1, kvI 3], []), ([], []), (3, [(-1, 3)]))
theorem ks344 : aseg kS krf kB [kE43, kE89, kE312, kE340, kE342, kE343] (ksp [(192, 200, 7, 0, 7, 0)]) kE344 [kC344_0, kC344_1, kC344_2, kC344_3, kC344_4] 30000 (none) = true := by decide +kernel
theorem ks344_0 : aseg kS krf kB [kE43, kE89, kE312, kE340, kE342, kE343] (ksp [(192, 200, 7, 0, 7, 0)]) kE344 [kC344_0, kC344_1, kC344_2, kC344_3, kC344_4] 30000 (some kC344_0) = true := by decide +kernel
theorem ks344_1 : aseg kS krf kB [kE43, kE89, kE312, kE340, kE342, kE343] (ksp [(192, 200, 7, 0, 7, 0)]) kE344 [kC344_0, kC344_1, kC344_2, kC344_3, kC344_4] 30000 (some kC344_1) = true := by decide +kernel
theorem ks344_2 : aseg kS krf kB [kE43, kE89, kE312, kE340, kE342, kE343] (ksp [(192, 200, 7, 0, 7, 0)]) kE344 [kC344_0, kC344_1, kC344_2, kC344_3, kC344_4] 30000 (some kC344_2) = true := by decide +kernel
theorem ks344_3 : aseg kS krf kB [kE43, kE89, kE312, kE340, kE342, kE343] (ksp [(192, 200, 7, 0, 7, 0)]) kE344 [kC344_0, kC344_1, kC344_2, kC344_3, kC344_4] 30000 (some kC344_3) = true := by decide +kernel
theorem ks344_4 : aseg kS krf kB [kE43, kE89, kE312, kE340, kE342, kE343] (ksp [(192, 200, 7, 0, 7, 0)]) kE344 [kC344_0, kC344_1, kC344_2, kC344_3, kC344_4] 30000 (some kC344_4) = true := by decide +kernel
theorem kok344 : aOK kS krf kB kE344 := aOK_of (kal1 kok43 (kal1 kok89 (kal1 kok312 (kal1 kok340 (kal1 kok342 (kal1 kok343 kal0)))))) (kcl1 ks344_0 (kcl1 ks344_1 (kcl1 ks344_2 (kcl1 ks344_3 (kcl1 ks344_4 kcl0))))) ks344
/-- ColdShodModel.triesWay(IIIII)V -/
def kE345 : aE := (192, 48, ([kvB 0 7, kvB 0 7, kvB 0 7], [], 0, [kvR 102, kvI 0, kvI 1, kvI 2, kvN 215, kvN 5, none, none], []), ([], none), ([], [], none, ([], [])), kvW63)
def kC345_0 : aC := (([kvB 0 7, kvB 0 7, kvB 0 7, kvB 0 1, kvB 0 5], [], 16, [kvR 102, kvI 0, kvI 1, kvI 2, kvN 215, kvN 5, kvI 3, kvI 4], []), ([], []), (337, [(-1, 4)]))
def kC345_1 : aC := (([kvB 0 7, kvB 0 7, kvB 0 7, kvB 0 12], [], 141, [kvR 102, kvI 0, kvI 1, kvI 2, kvN 215, kvN 5, kvI 3, none], []), ([], []), (141, [(-11, 3)]))
def kC345_2 : aC := (([kvB 0 7, kvB 0 7, kvB 0 7, kvB 0 11, (.negSucc 0, .ofNat 7), kvB 1 12], [(102, 8, .inl (5, .ofNat 0))], 195, [kvR 102, kvI 0, kvI 1, kvI 2, kvN 215, kvN 5, kvI 3, kvI 4], []), ([], []), (139, [(-11, 3), (-1, 4)]))
def kC345_3 : aC := (([kvB 0 7, kvB 0 7, kvB 0 7, (.negSucc 0, .ofNat 2147483647)], [(102, 29, .inl (3, .ofNat 0))], 91, [kvR 102, kvI 0, kvI 1, kvI 2, kvN 215, kvN 5, kvN 1, kvN 5], []), ([], []), (166, []))
def kC345_4 : aC := (([kvB 0 7, kvB 0 7, kvB 0 7, kvB 0 5, (.negSucc 0, .ofNat 99)], [(102, 29, .inl (4, .ofNat 0)), (102, 30, .inr (.ofNat 5))], 110, [kvR 102, kvI 0, kvI 1, kvI 2, kvN 215, kvN 5, kvN 1, kvI 3], []), ([], []), (5, [(-1, 3)]))
theorem ks345 : aseg kS krf kB [kE43, kE89, kE313, kE337] (ksp [(192, 200, 7, 0, 7, 0)]) kE345 [kC345_0, kC345_1, kC345_2, kC345_3, kC345_4] 30000 (none) = true := by decide +kernel
theorem ks345_0 : aseg kS krf kB [kE43, kE89, kE313, kE337] (ksp [(192, 200, 7, 0, 7, 0)]) kE345 [kC345_0, kC345_1, kC345_2, kC345_3, kC345_4] 30000 (some kC345_0) = true := by decide +kernel
theorem ks345_1 : aseg kS krf kB [kE43, kE89, kE313, kE337] (ksp [(192, 200, 7, 0, 7, 0)]) kE345 [kC345_0, kC345_1, kC345_2, kC345_3, kC345_4] 30000 (some kC345_1) = true := by decide +kernel
theorem ks345_2 : aseg kS krf kB [kE43, kE89, kE313, kE337] (ksp [(192, 200, 7, 0, 7, 0)]) kE345 [kC345_0, kC345_1, kC345_2, kC345_3, kC345_4] 30000 (some kC345_2) = true := by decide +kernel
theorem ks345_3 : aseg kS krf kB [kE43, kE89, kE313, kE337] (ksp [(192, 200, 7, 0, 7, 0)]) kE345 [kC345_0, kC345_1, kC345_2, kC345_3, kC345_4] 30000 (some kC345_3) = true := by decide +kernel
theorem ks345_4 : aseg kS krf kB [kE43, kE89, kE313, kE337] (ksp [(192, 200, 7, 0, 7, 0)]) kE345 [kC345_0, kC345_1, kC345_2, kC345_3, kC345_4] 30000 (some kC345_4) = true := by decide +kernel
theorem kok345 : aOK kS krf kB kE345 := aOK_of (kal1 kok43 (kal1 kok89 (kal1 kok313 (kal1 kok337 kal0)))) (kcl1 ks345_0 (kcl1 ks345_1 (kcl1 ks345_2 (kcl1 ks345_3 (kcl1 ks345_4 kcl0))))) ks345
/-- ColdShodModel.triesWay(IIIII)V -/
def kE346 : aE := (192, 49, ([kvB 0 7, kvB 0 7, kvB 0 7], [], 0, [kvR 102, kvI 0, kvI 1, kvI 2, kvN 214, kvN 4, none, none], []), ([], none), ([], [], none, ([], [])), kvW64)
def kC346_0 : aC := (([kvB 0 7, kvB 0 7, kvB 0 7, kvB 0 1, kvB 0 4], [], 16, [kvR 102, kvI 0, kvI 1, kvI 2, kvN 214, kvN 4, kvI 3, kvI 4], []), ([], []), (336, [(-1, 4)]))
def kC346_1 : aC := (([kvB 0 7, kvB 0 7, kvB 0 7, kvB 0 12], [], 141, [kvR 102, kvI 0, kvI 1, kvI 2, kvN 214, kvN 4, kvI 3, none], []), ([], []), (141, [(-11, 3)]))
def kC346_2 : aC := (([kvB 0 7, kvB 0 7, kvB 0 7, kvB 0 11, (.negSucc 0, .ofNat 7), kvB 1 12], [(102, 8, .inl (5, .ofNat 0))], 195, [kvR 102, kvI 0, kvI 1, kvI 2, kvN 214, kvN 4, kvI 3, kvI 4], []), ([], []), (139, [(-11, 3), (-1, 4)]))
def kC346_3 : aC := (([kvB 0 7, kvB 0 7, kvB 0 7, (.negSucc 0, .ofNat 2147483647)], [(102, 29, .inl (3, .ofNat 0))], 91, [kvR 102, kvI 0, kvI 1, kvI 2, kvN 214, kvN 4, kvN 1, kvN 4], []), ([], []), (166, []))
def kC346_4 : aC := (([kvB 0 7, kvB 0 7, kvB 0 7, kvB 0 4, (.negSucc 0, .ofNat 99)], [(102, 29, .inl (4, .ofNat 0)), (102, 30, .inr (.ofNat 4))], 110, [kvR 102, kvI 0, kvI 1, kvI 2, kvN 214, kvN 4, kvN 1, kvI 3], []), ([], []), (4, [(-1, 3)]))
theorem ks346 : aseg kS krf kB [kE43, kE89, kE314, kE338, kE345] (ksp [(192, 200, 7, 0, 7, 0)]) kE346 [kC346_0, kC346_1, kC346_2, kC346_3, kC346_4] 30000 (none) = true := by decide +kernel
theorem ks346_0 : aseg kS krf kB [kE43, kE89, kE314, kE338, kE345] (ksp [(192, 200, 7, 0, 7, 0)]) kE346 [kC346_0, kC346_1, kC346_2, kC346_3, kC346_4] 30000 (some kC346_0) = true := by decide +kernel
theorem ks346_1 : aseg kS krf kB [kE43, kE89, kE314, kE338, kE345] (ksp [(192, 200, 7, 0, 7, 0)]) kE346 [kC346_0, kC346_1, kC346_2, kC346_3, kC346_4] 30000 (some kC346_1) = true := by decide +kernel
theorem ks346_2 : aseg kS krf kB [kE43, kE89, kE314, kE338, kE345] (ksp [(192, 200, 7, 0, 7, 0)]) kE346 [kC346_0, kC346_1, kC346_2, kC346_3, kC346_4] 30000 (some kC346_2) = true := by decide +kernel
theorem ks346_3 : aseg kS krf kB [kE43, kE89, kE314, kE338, kE345] (ksp [(192, 200, 7, 0, 7, 0)]) kE346 [kC346_0, kC346_1, kC346_2, kC346_3, kC346_4] 30000 (some kC346_3) = true := by decide +kernel
theorem ks346_4 : aseg kS krf kB [kE43, kE89, kE314, kE338, kE345] (ksp [(192, 200, 7, 0, 7, 0)]) kE346 [kC346_0, kC346_1, kC346_2, kC346_3, kC346_4] 30000 (some kC346_4) = true := by decide +kernel
theorem kok346 : aOK kS krf kB kE346 := aOK_of (kal1 kok43 (kal1 kok89 (kal1 kok314 (kal1 kok338 (kal1 kok345 kal0))))) (kcl1 ks346_0 (kcl1 ks346_1 (kcl1 ks346_2 (kcl1 ks346_3 (kcl1 ks346_4 kcl0))))) ks346
/-- ColdShodModel.triesWay(IIIII)V -/
def kE347 : aE := (192, 49, ([kvB 0 7, kvB 0 7, kvB 0 7], [], 0, [kvR 102, kvI 0, kvI 1, kvI 2, kvN 213, kvN 4, none, none], []), ([], none), ([], [], none, ([], [])), kvW64)
def kC347_0 : aC := (([kvB 0 7, kvB 0 7, kvB 0 7, kvB 0 1, kvB 0 4], [], 16, [kvR 102, kvI 0, kvI 1, kvI 2, kvN 213, kvN 4, kvI 3, kvI 4], []), ([], []), (336, [(-1, 4)]))
def kC347_1 : aC := (([kvB 0 7, kvB 0 7, kvB 0 7, kvB 0 12], [], 141, [kvR 102, kvI 0, kvI 1, kvI 2, kvN 213, kvN 4, kvI 3, none], []), ([], []), (141, [(-11, 3)]))
def kC347_2 : aC := (([kvB 0 7, kvB 0 7, kvB 0 7, kvB 0 11, (.negSucc 0, .ofNat 7), kvB 1 12], [(102, 8, .inl (5, .ofNat 0))], 195, [kvR 102, kvI 0, kvI 1, kvI 2, kvN 213, kvN 4, kvI 3, kvI 4], []), ([], []), (139, [(-11, 3), (-1, 4)]))
def kC347_3 : aC := (([kvB 0 7, kvB 0 7, kvB 0 7, (.negSucc 0, .ofNat 2147483647)], [(102, 29, .inl (3, .ofNat 0))], 91, [kvR 102, kvI 0, kvI 1, kvI 2, kvN 213, kvN 4, kvN 1, kvN 4], []), ([], []), (166, []))
def kC347_4 : aC := (([kvB 0 7, kvB 0 7, kvB 0 7, kvB 0 4, (.negSucc 0, .ofNat 99)], [(102, 29, .inl (4, .ofNat 0)), (102, 30, .inr (.ofNat 4))], 110, [kvR 102, kvI 0, kvI 1, kvI 2, kvN 213, kvN 4, kvN 1, kvI 3], []), ([], []), (4, [(-1, 3)]))
theorem ks347 : aseg kS krf kB [kE43, kE89, kE315, kE339, kE345] (ksp [(192, 200, 7, 0, 7, 0)]) kE347 [kC347_0, kC347_1, kC347_2, kC347_3, kC347_4] 30000 (none) = true := by decide +kernel
theorem ks347_0 : aseg kS krf kB [kE43, kE89, kE315, kE339, kE345] (ksp [(192, 200, 7, 0, 7, 0)]) kE347 [kC347_0, kC347_1, kC347_2, kC347_3, kC347_4] 30000 (some kC347_0) = true := by decide +kernel
theorem ks347_1 : aseg kS krf kB [kE43, kE89, kE315, kE339, kE345] (ksp [(192, 200, 7, 0, 7, 0)]) kE347 [kC347_0, kC347_1, kC347_2, kC347_3, kC347_4] 30000 (some kC347_1) = true := by decide +kernel
theorem ks347_2 : aseg kS krf kB [kE43, kE89, kE315, kE339, kE345] (ksp [(192, 200, 7, 0, 7, 0)]) kE347 [kC347_0, kC347_1, kC347_2, kC347_3, kC347_4] 30000 (some kC347_2) = true := by decide +kernel
theorem ks347_3 : aseg kS krf kB [kE43, kE89, kE315, kE339, kE345] (ksp [(192, 200, 7, 0, 7, 0)]) kE347 [kC347_0, kC347_1, kC347_2, kC347_3, kC347_4] 30000 (some kC347_3) = true := by decide +kernel
theorem ks347_4 : aseg kS krf kB [kE43, kE89, kE315, kE339, kE345] (ksp [(192, 200, 7, 0, 7, 0)]) kE347 [kC347_0, kC347_1, kC347_2, kC347_3, kC347_4] 30000 (some kC347_4) = true := by decide +kernel
theorem kok347 : aOK kS krf kB kE347 := aOK_of (kal1 kok43 (kal1 kok89 (kal1 kok315 (kal1 kok339 (kal1 kok345 kal0))))) (kcl1 ks347_0 (kcl1 ks347_1 (kcl1 ks347_2 (kcl1 ks347_3 (kcl1 ks347_4 kcl0))))) ks347
/-- ColdShodModel.triesWay(IIIII)V -/
def kE348 : aE := (192, 50, ([kvB 0 7, kvB 0 7, kvB 0 7], [], 0, [kvR 102, kvI 0, kvI 1, kvI 2, kvN 212, kvN 3, none, none], []), ([], none), ([], [], none, ([], [])), kvW65)
def kC348_0 : aC := (([kvB 0 7, kvB 0 7, kvB 0 7, kvB 0 1, kvB 0 3], [], 16, [kvR 102, kvI 0, kvI 1, kvI 2, kvN 212, kvN 3, kvI 3, kvI 4], []), ([], []), (335, [(-1, 4)]))
def kC348_1 : aC := (([kvB 0 7, kvB 0 7, kvB 0 7, kvB 0 12], [], 141, [kvR 102, kvI 0, kvI 1, kvI 2, kvN 212, kvN 3, kvI 3, none], []), ([], []), (141, [(-11, 3)]))
def kC348_2 : aC := (([kvB 0 7, kvB 0 7, kvB 0 7, kvB 0 11, (.negSucc 0, .ofNat 7), kvB 1 12], [(102, 8, .inl (5, .ofNat 0))], 195, [kvR 102, kvI 0, kvI 1, kvI 2, kvN 212, kvN 3, kvI 3, kvI 4], []), ([], []), (139, [(-11, 3), (-1, 4)]))
def kC348_3 : aC := (([kvB 0 7, kvB 0 7, kvB 0 7, (.negSucc 0, .ofNat 2147483647)], [(102, 29, .inl (3, .ofNat 0))], 91, [kvR 102, kvI 0, kvI 1, kvI 2, kvN 212, kvN 3, kvN 1, kvN 3], []), ([], []), (166, []))
def kC348_4 : aC := (([kvB 0 7, kvB 0 7, kvB 0 7, kvB 0 3, (.negSucc 0, .ofNat 99)], [(102, 29, .inl (4, .ofNat 0)), (102, 30, .inr (.ofNat 3))], 110, [kvR 102, kvI 0, kvI 1, kvI 2, kvN 212, kvN 3, kvN 1, kvI 3], []), ([], []), (3, [(-1, 3)]))
theorem ks348 : aseg kS krf kB [kE43, kE89, kE316, kE340, kE346, kE347] (ksp [(192, 200, 7, 0, 7, 0)]) kE348 [kC348_0, kC348_1, kC348_2, kC348_3, kC348_4] 30000 (none) = true := by decide +kernel
theorem ks348_0 : aseg kS krf kB [kE43, kE89, kE316, kE340, kE346, kE347] (ksp [(192, 200, 7, 0, 7, 0)]) kE348 [kC348_0, kC348_1, kC348_2, kC348_3, kC348_4] 30000 (some kC348_0) = true := by decide +kernel
theorem ks348_1 : aseg kS krf kB [kE43, kE89, kE316, kE340, kE346, kE347] (ksp [(192, 200, 7, 0, 7, 0)]) kE348 [kC348_0, kC348_1, kC348_2, kC348_3, kC348_4] 30000 (some kC348_1) = true := by decide +kernel
theorem ks348_2 : aseg kS krf kB [kE43, kE89, kE316, kE340, kE346, kE347] (ksp [(192, 200, 7, 0, 7, 0)]) kE348 [kC348_0, kC348_1, kC348_2, kC348_3, kC348_4] 30000 (some kC348_2) = true := by decide +kernel
theorem ks348_3 : aseg kS krf kB [kE43, kE89, kE316, kE340, kE346, kE347] (ksp [(192, 200, 7, 0, 7, 0)]) kE348 [kC348_0, kC348_1, kC348_2, kC348_3, kC348_4] 30000 (some kC348_3) = true := by decide +kernel
theorem ks348_4 : aseg kS krf kB [kE43, kE89, kE316, kE340, kE346, kE347] (ksp [(192, 200, 7, 0, 7, 0)]) kE348 [kC348_0, kC348_1, kC348_2, kC348_3, kC348_4] 30000 (some kC348_4) = true := by decide +kernel
theorem kok348 : aOK kS krf kB kE348 := aOK_of (kal1 kok43 (kal1 kok89 (kal1 kok316 (kal1 kok340 (kal1 kok346 (kal1 kok347 kal0)))))) (kcl1 ks348_0 (kcl1 ks348_1 (kcl1 ks348_2 (kcl1 ks348_3 (kcl1 ks348_4 kcl0))))) ks348
/-- ColdShodModel.triesWay(IIIII)V -/
def kE349 : aE := (192, 49, ([kvB 0 7, kvB 0 7, kvB 0 7], [], 0, [kvR 102, kvI 0, kvI 1, kvI 2, kvN 211, kvN 4, none, none], []), ([], none), ([], [], none, ([], [])), kvW64)
def kC349_0 : aC := (([kvB 0 7, kvB 0 7, kvB 0 7, kvB 0 1, kvB 0 4], [], 16, [kvR 102, kvI 0, kvI 1, kvI 2, kvN 211, kvN 4, kvI 3, kvI 4], []), ([], []), (336, [(-1, 4)]))
def kC349_1 : aC := (([kvB 0 7, kvB 0 7, kvB 0 7, kvB 0 12], [], 141, [kvR 102, kvI 0, kvI 1, kvI 2, kvN 211, kvN 4, kvI 3, none], []), ([], []), (141, [(-11, 3)]))
def kC349_2 : aC := (([kvB 0 7, kvB 0 7, kvB 0 7, kvB 0 11, (.negSucc 0, .ofNat 7), kvB 1 12], [(102, 8, .inl (5, .ofNat 0))], 195, [kvR 102, kvI 0, kvI 1, kvI 2, kvN 211, kvN 4, kvI 3, kvI 4], []), ([], []), (139, [(-11, 3), (-1, 4)]))
def kC349_3 : aC := (([kvB 0 7, kvB 0 7, kvB 0 7, (.negSucc 0, .ofNat 2147483647)], [(102, 29, .inl (3, .ofNat 0))], 91, [kvR 102, kvI 0, kvI 1, kvI 2, kvN 211, kvN 4, kvN 1, kvN 4], []), ([], []), (166, []))
def kC349_4 : aC := (([kvB 0 7, kvB 0 7, kvB 0 7, kvB 0 4, (.negSucc 0, .ofNat 99)], [(102, 29, .inl (4, .ofNat 0)), (102, 30, .inr (.ofNat 4))], 110, [kvR 102, kvI 0, kvI 1, kvI 2, kvN 211, kvN 4, kvN 1, kvI 3], []), ([], []), (4, [(-1, 3)]))
theorem ks349 : aseg kS krf kB [kE43, kE89, kE317, kE341, kE345] (ksp [(192, 200, 7, 0, 7, 0)]) kE349 [kC349_0, kC349_1, kC349_2, kC349_3, kC349_4] 30000 (none) = true := by decide +kernel
theorem ks349_0 : aseg kS krf kB [kE43, kE89, kE317, kE341, kE345] (ksp [(192, 200, 7, 0, 7, 0)]) kE349 [kC349_0, kC349_1, kC349_2, kC349_3, kC349_4] 30000 (some kC349_0) = true := by decide +kernel
theorem ks349_1 : aseg kS krf kB [kE43, kE89, kE317, kE341, kE345] (ksp [(192, 200, 7, 0, 7, 0)]) kE349 [kC349_0, kC349_1, kC349_2, kC349_3, kC349_4] 30000 (some kC349_1) = true := by decide +kernel
theorem ks349_2 : aseg kS krf kB [kE43, kE89, kE317, kE341, kE345] (ksp [(192, 200, 7, 0, 7, 0)]) kE349 [kC349_0, kC349_1, kC349_2, kC349_3, kC349_4] 30000 (some kC349_2) = true := by decide +kernel
theorem ks349_3 : aseg kS krf kB [kE43, kE89, kE317, kE341, kE345] (ksp [(192, 200, 7, 0, 7, 0)]) kE349 [kC349_0, kC349_1, kC349_2, kC349_3, kC349_4] 30000 (some kC349_3) = true := by decide +kernel
theorem ks349_4 : aseg kS krf kB [kE43, kE89, kE317, kE341, kE345] (ksp [(192, 200, 7, 0, 7, 0)]) kE349 [kC349_0, kC349_1, kC349_2, kC349_3, kC349_4] 30000 (some kC349_4) = true := by decide +kernel
theorem kok349 : aOK kS krf kB kE349 := aOK_of (kal1 kok43 (kal1 kok89 (kal1 kok317 (kal1 kok341 (kal1 kok345 kal0))))) (kcl1 ks349_0 (kcl1 ks349_1 (kcl1 ks349_2 (kcl1 ks349_3 (kcl1 ks349_4 kcl0))))) ks349
/-- ColdShodModel.triesWay(IIIII)V -/
def kE350 : aE := (192, 50, ([kvB 0 7, kvB 0 7, kvB 0 7], [], 0, [kvR 102, kvI 0, kvI 1, kvI 2, kvN 210, kvN 3, none, none], []), ([], none), ([], [], none, ([], [])), kvW65)
def kC350_0 : aC := (([kvB 0 7, kvB 0 7, kvB 0 7, kvB 0 1, kvB 0 3], [], 16, [kvR 102, kvI 0, kvI 1, kvI 2, kvN 210, kvN 3, kvI 3, kvI 4], []), ([], []), (335, [(-1, 4)]))
def kC350_1 : aC := (([kvB 0 7, kvB 0 7, kvB 0 7, kvB 0 12], [], 141, [kvR 102, kvI 0, kvI 1, kvI 2, kvN 210, kvN 3, kvI 3, none], []), ([], []), (141, [(-11, 3)]))
def kC350_2 : aC := (([kvB 0 7, kvB 0 7, kvB 0 7, kvB 0 11, (.negSucc 0, .ofNat 7), kvB 1 12], [(102, 8, .inl (5, .ofNat 0))], 195, [kvR 102, kvI 0, kvI 1, kvI 2, kvN 210, kvN 3, kvI 3, kvI 4], []), ([], []), (139, [(-11, 3), (-1, 4)]))
def kC350_3 : aC := (([kvB 0 7, kvB 0 7, kvB 0 7, (.negSucc 0, .ofNat 2147483647)], [(102, 29, .inl (3, .ofNat 0))], 91, [kvR 102, kvI 0, kvI 1, kvI 2, kvN 210, kvN 3, kvN 1, kvN 3], []), ([], []), (166, []))
def kC350_4 : aC := (([kvB 0 7, kvB 0 7, kvB 0 7, kvB 0 3, (.negSucc 0, .ofNat 99)], [(102, 29, .inl (4, .ofNat 0)), (102, 30, .inr (.ofNat 3))], 110, [kvR 102, kvI 0, kvI 1, kvI 2, kvN 210, kvN 3, kvN 1, kvI 3], []), ([], []), (3, [(-1, 3)]))
theorem ks350 : aseg kS krf kB [kE43, kE89, kE318, kE342, kE346, kE349] (ksp [(192, 200, 7, 0, 7, 0)]) kE350 [kC350_0, kC350_1, kC350_2, kC350_3, kC350_4] 30000 (none) = true := by decide +kernel
theorem ks350_0 : aseg kS krf kB [kE43, kE89, kE318, kE342, kE346, kE349] (ksp [(192, 200, 7, 0, 7, 0)]) kE350 [kC350_0, kC350_1, kC350_2, kC350_3, kC350_4] 30000 (some kC350_0) = true := by decide +kernel
theorem ks350_1 : aseg kS krf kB [kE43, kE89, kE318, kE342, kE346, kE349] (ksp [(192, 200, 7, 0, 7, 0)]) kE350 [kC350_0, kC350_1, kC350_2, kC350_3, kC350_4] 30000 (some kC350_1) = true := by decide +kernel
theorem ks350_2 : aseg kS krf kB [kE43, kE89, kE318, kE342, kE346, kE349] (ksp [(192, 200, 7, 0, 7, 0)]) kE350 [kC350_0, kC350_1, kC350_2, kC350_3, kC350_4] 30000 (some kC350_2) = true := by decide +kernel
theorem ks350_3 : aseg kS krf kB [kE43, kE89, kE318, kE342, kE346, kE349] (ksp [(192, 200, 7, 0, 7, 0)]) kE350 [kC350_0, kC350_1, kC350_2, kC350_3, kC350_4] 30000 (some kC350_3) = true := by decide +kernel
theorem ks350_4 : aseg kS krf kB [kE43, kE89, kE318, kE342, kE346, kE349] (ksp [(192, 200, 7, 0, 7, 0)]) kE350 [kC350_0, kC350_1, kC350_2, kC350_3, kC350_4] 30000 (some kC350_4) = true := by decide +kernel
theorem kok350 : aOK kS krf kB kE350 := aOK_of (kal1 kok43 (kal1 kok89 (kal1 kok318 (kal1 kok342 (kal1 kok346 (kal1 kok349 kal0)))))) (kcl1 ks350_0 (kcl1 ks350_1 (kcl1 ks350_2 (kcl1 ks350_3 (kcl1 ks350_4 kcl0))))) ks350
/-- ColdShodModel.triesWay(IIIII)V -/
def kE351 : aE := (192, 50, ([kvB 0 7, kvB 0 7, kvB 0 7], [], 0, [kvR 102, kvI 0, kvI 1, kvI 2, kvN 209, kvN 3, none, none], []), ([], none), ([], [], none, ([], [])), kvW65)
def kC351_0 : aC := (([kvB 0 7, kvB 0 7, kvB 0 7, kvB 0 1, kvB 0 3], [], 16, [kvR 102, kvI 0, kvI 1, kvI 2, kvN 209, kvN 3, kvI 3, kvI 4], []), ([], []), (335, [(-1, 4)]))
def kC351_1 : aC := (([kvB 0 7, kvB 0 7, kvB 0 7, kvB 0 12], [], 141, [kvR 102, kvI 0, kvI 1, kvI 2, kvN 209, kvN 3, kvI 3, none], []), ([], []), (141, [(-11, 3)]))
def kC351_2 : aC := (([kvB 0 7, kvB 0 7, kvB 0 7, kvB 0 11, (.negSucc 0, .ofNat 7), kvB 1 12], [(102, 8, .inl (5, .ofNat 0))], 195, [kvR 102, kvI 0, kvI 1, kvI 2, kvN 209, kvN 3, kvI 3, kvI 4], []), ([], []), (139, [(-11, 3), (-1, 4)]))
def kC351_3 : aC := (([kvB 0 7, kvB 0 7, kvB 0 7, (.negSucc 0, .ofNat 2147483647)], [(102, 29, .inl (3, .ofNat 0))], 91, [kvR 102, kvI 0, kvI 1, kvI 2, kvN 209, kvN 3, kvN 1, kvN 3], []), ([], []), (166, []))
def kC351_4 : aC := (([kvB 0 7, kvB 0 7, kvB 0 7, kvB 0 3, (.negSucc 0, .ofNat 99)], [(102, 29, .inl (4, .ofNat 0)), (102, 30, .inr (.ofNat 3))], 110, [kvR 102, kvI 0, kvI 1, kvI 2, kvN 209, kvN 3, kvN 1, kvI 3], []), ([], []), (3, [(-1, 3)]))
theorem ks351 : aseg kS krf kB [kE43, kE89, kE319, kE343, kE347, kE349] (ksp [(192, 200, 7, 0, 7, 0)]) kE351 [kC351_0, kC351_1, kC351_2, kC351_3, kC351_4] 30000 (none) = true := by decide +kernel
theorem ks351_0 : aseg kS krf kB [kE43, kE89, kE319, kE343, kE347, kE349] (ksp [(192, 200, 7, 0, 7, 0)]) kE351 [kC351_0, kC351_1, kC351_2, kC351_3, kC351_4] 30000 (some kC351_0) = true := by decide +kernel
theorem ks351_1 : aseg kS krf kB [kE43, kE89, kE319, kE343, kE347, kE349] (ksp [(192, 200, 7, 0, 7, 0)]) kE351 [kC351_0, kC351_1, kC351_2, kC351_3, kC351_4] 30000 (some kC351_1) = true := by decide +kernel
theorem ks351_2 : aseg kS krf kB [kE43, kE89, kE319, kE343, kE347, kE349] (ksp [(192, 200, 7, 0, 7, 0)]) kE351 [kC351_0, kC351_1, kC351_2, kC351_3, kC351_4] 30000 (some kC351_2) = true := by decide +kernel
theorem ks351_3 : aseg kS krf kB [kE43, kE89, kE319, kE343, kE347, kE349] (ksp [(192, 200, 7, 0, 7, 0)]) kE351 [kC351_0, kC351_1, kC351_2, kC351_3, kC351_4] 30000 (some kC351_3) = true := by decide +kernel
theorem ks351_4 : aseg kS krf kB [kE43, kE89, kE319, kE343, kE347, kE349] (ksp [(192, 200, 7, 0, 7, 0)]) kE351 [kC351_0, kC351_1, kC351_2, kC351_3, kC351_4] 30000 (some kC351_4) = true := by decide +kernel
theorem kok351 : aOK kS krf kB kE351 := aOK_of (kal1 kok43 (kal1 kok89 (kal1 kok319 (kal1 kok343 (kal1 kok347 (kal1 kok349 kal0)))))) (kcl1 ks351_0 (kcl1 ks351_1 (kcl1 ks351_2 (kcl1 ks351_3 (kcl1 ks351_4 kcl0))))) ks351
/-- ColdShodModel.triesWay(IIIII)V -/
def kE352 : aE := (192, 51, ([kvB 0 7, kvB 0 7, kvB 0 7], [], 0, [kvR 102, kvI 0, kvI 1, kvI 2, kvN 208, kvN 2, none, none], []), ([], none), ([], [], none, ([], [])), kvW66)
def kC352_0 : aC := (([kvB 0 7, kvB 0 7, kvB 0 7, kvB 0 1, kvB 0 2], [], 16, [kvR 102, kvI 0, kvI 1, kvI 2, kvN 208, kvN 2, kvI 3, kvI 4], []), ([], []), (334, [(-1, 4)]))
def kC352_1 : aC := (([kvB 0 7, kvB 0 7, kvB 0 7, kvB 0 12], [], 141, [kvR 102, kvI 0, kvI 1, kvI 2, kvN 208, kvN 2, kvI 3, none], []), ([], []), (141, [(-11, 3)]))
def kC352_2 : aC := (([kvB 0 7, kvB 0 7, kvB 0 7, kvB 0 11, (.negSucc 0, .ofNat 7), kvB 1 12], [(102, 8, .inl (5, .ofNat 0))], 195, [kvR 102, kvI 0, kvI 1, kvI 2, kvN 208, kvN 2, kvI 3, kvI 4], []), ([], []), (139, [(-11, 3), (-1, 4)]))
def kC352_3 : aC := (([kvB 0 7, kvB 0 7, kvB 0 7, (.negSucc 0, .ofNat 2147483647)], [(102, 29, .inl (3, .ofNat 0))], 91, [kvR 102, kvI 0, kvI 1, kvI 2, kvN 208, kvN 2, kvN 1, kvN 2], []), ([], []), (166, []))
def kC352_4 : aC := (([kvB 0 7, kvB 0 7, kvB 0 7, kvB 0 2, (.negSucc 0, .ofNat 99)], [(102, 29, .inl (4, .ofNat 0)), (102, 30, .inr (.ofNat 2))], 110, [kvR 102, kvI 0, kvI 1, kvI 2, kvN 208, kvN 2, kvN 1, kvI 3], []), ([], []), (2, [(-1, 3)]))
theorem ks352 : aseg kS krf kB [kE43, kE89, kE320, kE344, kE348, kE350, kE351] (ksp [(192, 200, 7, 0, 7, 0)]) kE352 [kC352_0, kC352_1, kC352_2, kC352_3, kC352_4] 30000 (none) = true := by decide +kernel
theorem ks352_0 : aseg kS krf kB [kE43, kE89, kE320, kE344, kE348, kE350, kE351] (ksp [(192, 200, 7, 0, 7, 0)]) kE352 [kC352_0, kC352_1, kC352_2, kC352_3, kC352_4] 30000 (some kC352_0) = true := by decide +kernel
theorem ks352_1 : aseg kS krf kB [kE43, kE89, kE320, kE344, kE348, kE350, kE351] (ksp [(192, 200, 7, 0, 7, 0)]) kE352 [kC352_0, kC352_1, kC352_2, kC352_3, kC352_4] 30000 (some kC352_1) = true := by decide +kernel
theorem ks352_2 : aseg kS krf kB [kE43, kE89, kE320, kE344, kE348, kE350, kE351] (ksp [(192, 200, 7, 0, 7, 0)]) kE352 [kC352_0, kC352_1, kC352_2, kC352_3, kC352_4] 30000 (some kC352_2) = true := by decide +kernel
theorem ks352_3 : aseg kS krf kB [kE43, kE89, kE320, kE344, kE348, kE350, kE351] (ksp [(192, 200, 7, 0, 7, 0)]) kE352 [kC352_0, kC352_1, kC352_2, kC352_3, kC352_4] 30000 (some kC352_3) = true := by decide +kernel
theorem ks352_4 : aseg kS krf kB [kE43, kE89, kE320, kE344, kE348, kE350, kE351] (ksp [(192, 200, 7, 0, 7, 0)]) kE352 [kC352_0, kC352_1, kC352_2, kC352_3, kC352_4] 30000 (some kC352_4) = true := by decide +kernel
theorem kok352 : aOK kS krf kB kE352 := aOK_of (kal1 kok43 (kal1 kok89 (kal1 kok320 (kal1 kok344 (kal1 kok348 (kal1 kok350 (kal1 kok351 kal0))))))) (kcl1 ks352_0 (kcl1 ks352_1 (kcl1 ks352_2 (kcl1 ks352_3 (kcl1 ks352_4 kcl0))))) ks352
/-- ColdShodModel.triesWay(IIIII)V -/
def kE353 : aE := (192, 48, ([kvB 0 7, kvB 0 7, kvB 0 7], [], 0, [kvR 102, kvI 0, kvI 1, kvI 2, kvN 207, kvN 5, none, none], []), ([], none), ([], [], none, ([], [])), kvW63)
def kC353_0 : aC := (([kvB 0 7, kvB 0 7, kvB 0 7, kvB 0 1, kvB 0 5], [], 16, [kvR 102, kvI 0, kvI 1, kvI 2, kvN 207, kvN 5, kvI 3, kvI 4], []), ([], []), (337, [(-1, 4)]))
def kC353_1 : aC := (([kvB 0 7, kvB 0 7, kvB 0 7, kvB 0 12], [], 141, [kvR 102, kvI 0, kvI 1, kvI 2, kvN 207, kvN 5, kvI 3, none], []), ([], []), (141, [(-11, 3)]))
def kC353_2 : aC := (([kvB 0 7, kvB 0 7, kvB 0 7, kvB 0 11, (.negSucc 0, .ofNat 7), kvB 1 12], [(102, 8, .inl (5, .ofNat 0))], 195, [kvR 102, kvI 0, kvI 1, kvI 2, kvN 207, kvN 5, kvI 3, kvI 4], []), ([], []), (139, [(-11, 3), (-1, 4)]))
def kC353_3 : aC := (([kvB 0 7, kvB 0 7, kvB 0 7, (.negSucc 0, .ofNat 2147483647)], [(102, 29, .inl (3, .ofNat 0))], 91, [kvR 102, kvI 0, kvI 1, kvI 2, kvN 207, kvN 5, kvN 1, kvN 5], []), ([], []), (166, []))
def kC353_4 : aC := (([kvB 0 7, kvB 0 7, kvB 0 7, kvB 0 5, (.negSucc 0, .ofNat 99)], [(102, 29, .inl (4, .ofNat 0)), (102, 30, .inr (.ofNat 5))], 110, [kvR 102, kvI 0, kvI 1, kvI 2, kvN 207, kvN 5, kvN 1, kvI 3], []), ([], []), (5, [(-1, 3)]))
theorem ks353 : aseg kS krf kB [kE43, kE89, kE321, kE337] (ksp [(192, 200, 7, 0, 7, 0)]) kE353 [kC353_0, kC353_1, kC353_2, kC353_3, kC353_4] 30000 (none) = true := by decide +kernel
theorem ks353_0 : aseg kS krf kB [kE43, kE89, kE321, kE337] (ksp [(192, 200, 7, 0, 7, 0)]) kE353 [kC353_0, kC353_1, kC353_2, kC353_3, kC353_4] 30000 (some kC353_0) = true := by decide +kernel
theorem ks353_1 : aseg kS krf kB [kE43, kE89, kE321, kE337] (ksp [(192, 200, 7, 0, 7, 0)]) kE353 [kC353_0, kC353_1, kC353_2, kC353_3, kC353_4] 30000 (some kC353_1) = true := by decide +kernel
theorem ks353_2 : aseg kS krf kB [kE43, kE89, kE321, kE337] (ksp [(192, 200, 7, 0, 7, 0)]) kE353 [kC353_0, kC353_1, kC353_2, kC353_3, kC353_4] 30000 (some kC353_2) = true := by decide +kernel
theorem ks353_3 : aseg kS krf kB [kE43, kE89, kE321, kE337] (ksp [(192, 200, 7, 0, 7, 0)]) kE353 [kC353_0, kC353_1, kC353_2, kC353_3, kC353_4] 30000 (some kC353_3) = true := by decide +kernel
theorem ks353_4 : aseg kS krf kB [kE43, kE89, kE321, kE337] (ksp [(192, 200, 7, 0, 7, 0)]) kE353 [kC353_0, kC353_1, kC353_2, kC353_3, kC353_4] 30000 (some kC353_4) = true := by decide +kernel
theorem kok353 : aOK kS krf kB kE353 := aOK_of (kal1 kok43 (kal1 kok89 (kal1 kok321 (kal1 kok337 kal0)))) (kcl1 ks353_0 (kcl1 ks353_1 (kcl1 ks353_2 (kcl1 ks353_3 (kcl1 ks353_4 kcl0))))) ks353
/-- ColdShodModel.triesWay(IIIII)V -/
def kE354 : aE := (192, 49, ([kvB 0 7, kvB 0 7, kvB 0 7], [], 0, [kvR 102, kvI 0, kvI 1, kvI 2, kvN 206, kvN 4, none, none], []), ([], none), ([], [], none, ([], [])), kvW64)
def kC354_0 : aC := (([kvB 0 7, kvB 0 7, kvB 0 7, kvB 0 1, kvB 0 4], [], 16, [kvR 102, kvI 0, kvI 1, kvI 2, kvN 206, kvN 4, kvI 3, kvI 4], []), ([], []), (336, [(-1, 4)]))
def kC354_1 : aC := (([kvB 0 7, kvB 0 7, kvB 0 7, kvB 0 12], [], 141, [kvR 102, kvI 0, kvI 1, kvI 2, kvN 206, kvN 4, kvI 3, none], []), ([], []), (141, [(-11, 3)]))
def kC354_2 : aC := (([kvB 0 7, kvB 0 7, kvB 0 7, kvB 0 11, (.negSucc 0, .ofNat 7), kvB 1 12], [(102, 8, .inl (5, .ofNat 0))], 195, [kvR 102, kvI 0, kvI 1, kvI 2, kvN 206, kvN 4, kvI 3, kvI 4], []), ([], []), (139, [(-11, 3), (-1, 4)]))
def kC354_3 : aC := (([kvB 0 7, kvB 0 7, kvB 0 7, (.negSucc 0, .ofNat 2147483647)], [(102, 29, .inl (3, .ofNat 0))], 91, [kvR 102, kvI 0, kvI 1, kvI 2, kvN 206, kvN 4, kvN 1, kvN 4], []), ([], []), (166, []))
def kC354_4 : aC := (([kvB 0 7, kvB 0 7, kvB 0 7, kvB 0 4, (.negSucc 0, .ofNat 99)], [(102, 29, .inl (4, .ofNat 0)), (102, 30, .inr (.ofNat 4))], 110, [kvR 102, kvI 0, kvI 1, kvI 2, kvN 206, kvN 4, kvN 1, kvI 3], []), ([], []), (4, [(-1, 3)]))
theorem ks354 : aseg kS krf kB [kE43, kE89, kE322, kE338, kE353] (ksp [(192, 200, 7, 0, 7, 0)]) kE354 [kC354_0, kC354_1, kC354_2, kC354_3, kC354_4] 30000 (none) = true := by decide +kernel
theorem ks354_0 : aseg kS krf kB [kE43, kE89, kE322, kE338, kE353] (ksp [(192, 200, 7, 0, 7, 0)]) kE354 [kC354_0, kC354_1, kC354_2, kC354_3, kC354_4] 30000 (some kC354_0) = true := by decide +kernel
theorem ks354_1 : aseg kS krf kB [kE43, kE89, kE322, kE338, kE353] (ksp [(192, 200, 7, 0, 7, 0)]) kE354 [kC354_0, kC354_1, kC354_2, kC354_3, kC354_4] 30000 (some kC354_1) = true := by decide +kernel
theorem ks354_2 : aseg kS krf kB [kE43, kE89, kE322, kE338, kE353] (ksp [(192, 200, 7, 0, 7, 0)]) kE354 [kC354_0, kC354_1, kC354_2, kC354_3, kC354_4] 30000 (some kC354_2) = true := by decide +kernel
theorem ks354_3 : aseg kS krf kB [kE43, kE89, kE322, kE338, kE353] (ksp [(192, 200, 7, 0, 7, 0)]) kE354 [kC354_0, kC354_1, kC354_2, kC354_3, kC354_4] 30000 (some kC354_3) = true := by decide +kernel
theorem ks354_4 : aseg kS krf kB [kE43, kE89, kE322, kE338, kE353] (ksp [(192, 200, 7, 0, 7, 0)]) kE354 [kC354_0, kC354_1, kC354_2, kC354_3, kC354_4] 30000 (some kC354_4) = true := by decide +kernel
theorem kok354 : aOK kS krf kB kE354 := aOK_of (kal1 kok43 (kal1 kok89 (kal1 kok322 (kal1 kok338 (kal1 kok353 kal0))))) (kcl1 ks354_0 (kcl1 ks354_1 (kcl1 ks354_2 (kcl1 ks354_3 (kcl1 ks354_4 kcl0))))) ks354
/-- ColdShodModel.triesWay(IIIII)V -/
def kE355 : aE := (192, 49, ([kvB 0 7, kvB 0 7, kvB 0 7], [], 0, [kvR 102, kvI 0, kvI 1, kvI 2, kvN 205, kvN 4, none, none], []), ([], none), ([], [], none, ([], [])), kvW64)
def kC355_0 : aC := (([kvB 0 7, kvB 0 7, kvB 0 7, kvB 0 1, kvB 0 4], [], 16, [kvR 102, kvI 0, kvI 1, kvI 2, kvN 205, kvN 4, kvI 3, kvI 4], []), ([], []), (336, [(-1, 4)]))
def kC355_1 : aC := (([kvB 0 7, kvB 0 7, kvB 0 7, kvB 0 12], [], 141, [kvR 102, kvI 0, kvI 1, kvI 2, kvN 205, kvN 4, kvI 3, none], []), ([], []), (141, [(-11, 3)]))
def kC355_2 : aC := (([kvB 0 7, kvB 0 7, kvB 0 7, kvB 0 11, (.negSucc 0, .ofNat 7), kvB 1 12], [(102, 8, .inl (5, .ofNat 0))], 195, [kvR 102, kvI 0, kvI 1, kvI 2, kvN 205, kvN 4, kvI 3, kvI 4], []), ([], []), (139, [(-11, 3), (-1, 4)]))
def kC355_3 : aC := (([kvB 0 7, kvB 0 7, kvB 0 7, (.negSucc 0, .ofNat 2147483647)], [(102, 29, .inl (3, .ofNat 0))], 91, [kvR 102, kvI 0, kvI 1, kvI 2, kvN 205, kvN 4, kvN 1, kvN 4], []), ([], []), (166, []))
def kC355_4 : aC := (([kvB 0 7, kvB 0 7, kvB 0 7, kvB 0 4, (.negSucc 0, .ofNat 99)], [(102, 29, .inl (4, .ofNat 0)), (102, 30, .inr (.ofNat 4))], 110, [kvR 102, kvI 0, kvI 1, kvI 2, kvN 205, kvN 4, kvN 1, kvI 3], []), ([], []), (4, [(-1, 3)]))
theorem ks355 : aseg kS krf kB [kE43, kE89, kE323, kE339, kE353] (ksp [(192, 200, 7, 0, 7, 0)]) kE355 [kC355_0, kC355_1, kC355_2, kC355_3, kC355_4] 30000 (none) = true := by decide +kernel
theorem ks355_0 : aseg kS krf kB [kE43, kE89, kE323, kE339, kE353] (ksp [(192, 200, 7, 0, 7, 0)]) kE355 [kC355_0, kC355_1, kC355_2, kC355_3, kC355_4] 30000 (some kC355_0) = true := by decide +kernel
theorem ks355_1 : aseg kS krf kB [kE43, kE89, kE323, kE339, kE353] (ksp [(192, 200, 7, 0, 7, 0)]) kE355 [kC355_0, kC355_1, kC355_2, kC355_3, kC355_4] 30000 (some kC355_1) = true := by decide +kernel
theorem ks355_2 : aseg kS krf kB [kE43, kE89, kE323, kE339, kE353] (ksp [(192, 200, 7, 0, 7, 0)]) kE355 [kC355_0, kC355_1, kC355_2, kC355_3, kC355_4] 30000 (some kC355_2) = true := by decide +kernel
theorem ks355_3 : aseg kS krf kB [kE43, kE89, kE323, kE339, kE353] (ksp [(192, 200, 7, 0, 7, 0)]) kE355 [kC355_0, kC355_1, kC355_2, kC355_3, kC355_4] 30000 (some kC355_3) = true := by decide +kernel
theorem ks355_4 : aseg kS krf kB [kE43, kE89, kE323, kE339, kE353] (ksp [(192, 200, 7, 0, 7, 0)]) kE355 [kC355_0, kC355_1, kC355_2, kC355_3, kC355_4] 30000 (some kC355_4) = true := by decide +kernel
theorem kok355 : aOK kS krf kB kE355 := aOK_of (kal1 kok43 (kal1 kok89 (kal1 kok323 (kal1 kok339 (kal1 kok353 kal0))))) (kcl1 ks355_0 (kcl1 ks355_1 (kcl1 ks355_2 (kcl1 ks355_3 (kcl1 ks355_4 kcl0))))) ks355
/-- ColdShodModel.triesWay(IIIII)V -/
def kE356 : aE := (192, 50, ([kvB 0 7, kvB 0 7, kvB 0 7], [], 0, [kvR 102, kvI 0, kvI 1, kvI 2, kvN 204, kvN 3, none, none], []), ([], none), ([], [], none, ([], [])), kvW65)
def kC356_0 : aC := (([kvB 0 7, kvB 0 7, kvB 0 7, kvB 0 1, kvB 0 3], [], 16, [kvR 102, kvI 0, kvI 1, kvI 2, kvN 204, kvN 3, kvI 3, kvI 4], []), ([], []), (335, [(-1, 4)]))
def kC356_1 : aC := (([kvB 0 7, kvB 0 7, kvB 0 7, kvB 0 12], [], 141, [kvR 102, kvI 0, kvI 1, kvI 2, kvN 204, kvN 3, kvI 3, none], []), ([], []), (141, [(-11, 3)]))
def kC356_2 : aC := (([kvB 0 7, kvB 0 7, kvB 0 7, kvB 0 11, (.negSucc 0, .ofNat 7), kvB 1 12], [(102, 8, .inl (5, .ofNat 0))], 195, [kvR 102, kvI 0, kvI 1, kvI 2, kvN 204, kvN 3, kvI 3, kvI 4], []), ([], []), (139, [(-11, 3), (-1, 4)]))
def kC356_3 : aC := (([kvB 0 7, kvB 0 7, kvB 0 7, (.negSucc 0, .ofNat 2147483647)], [(102, 29, .inl (3, .ofNat 0))], 91, [kvR 102, kvI 0, kvI 1, kvI 2, kvN 204, kvN 3, kvN 1, kvN 3], []), ([], []), (166, []))
def kC356_4 : aC := (([kvB 0 7, kvB 0 7, kvB 0 7, kvB 0 3, (.negSucc 0, .ofNat 99)], [(102, 29, .inl (4, .ofNat 0)), (102, 30, .inr (.ofNat 3))], 110, [kvR 102, kvI 0, kvI 1, kvI 2, kvN 204, kvN 3, kvN 1, kvI 3], []), ([], []), (3, [(-1, 3)]))
theorem ks356 : aseg kS krf kB [kE43, kE89, kE324, kE340, kE354, kE355] (ksp [(192, 200, 7, 0, 7, 0)]) kE356 [kC356_0, kC356_1, kC356_2, kC356_3, kC356_4] 30000 (none) = true := by decide +kernel
theorem ks356_0 : aseg kS krf kB [kE43, kE89, kE324, kE340, kE354, kE355] (ksp [(192, 200, 7, 0, 7, 0)]) kE356 [kC356_0, kC356_1, kC356_2, kC356_3, kC356_4] 30000 (some kC356_0) = true := by decide +kernel
theorem ks356_1 : aseg kS krf kB [kE43, kE89, kE324, kE340, kE354, kE355] (ksp [(192, 200, 7, 0, 7, 0)]) kE356 [kC356_0, kC356_1, kC356_2, kC356_3, kC356_4] 30000 (some kC356_1) = true := by decide +kernel
theorem ks356_2 : aseg kS krf kB [kE43, kE89, kE324, kE340, kE354, kE355] (ksp [(192, 200, 7, 0, 7, 0)]) kE356 [kC356_0, kC356_1, kC356_2, kC356_3, kC356_4] 30000 (some kC356_2) = true := by decide +kernel
theorem ks356_3 : aseg kS krf kB [kE43, kE89, kE324, kE340, kE354, kE355] (ksp [(192, 200, 7, 0, 7, 0)]) kE356 [kC356_0, kC356_1, kC356_2, kC356_3, kC356_4] 30000 (some kC356_3) = true := by decide +kernel
theorem ks356_4 : aseg kS krf kB [kE43, kE89, kE324, kE340, kE354, kE355] (ksp [(192, 200, 7, 0, 7, 0)]) kE356 [kC356_0, kC356_1, kC356_2, kC356_3, kC356_4] 30000 (some kC356_4) = true := by decide +kernel
theorem kok356 : aOK kS krf kB kE356 := aOK_of (kal1 kok43 (kal1 kok89 (kal1 kok324 (kal1 kok340 (kal1 kok354 (kal1 kok355 kal0)))))) (kcl1 ks356_0 (kcl1 ks356_1 (kcl1 ks356_2 (kcl1 ks356_3 (kcl1 ks356_4 kcl0))))) ks356
/-- ColdShodModel.triesWay(IIIII)V -/
def kE357 : aE := (192, 49, ([kvB 0 7, kvB 0 7, kvB 0 7], [], 0, [kvR 102, kvI 0, kvI 1, kvI 2, kvN 203, kvN 4, none, none], []), ([], none), ([], [], none, ([], [])), kvW64)
def kC357_0 : aC := (([kvB 0 7, kvB 0 7, kvB 0 7, kvB 0 1, kvB 0 4], [], 16, [kvR 102, kvI 0, kvI 1, kvI 2, kvN 203, kvN 4, kvI 3, kvI 4], []), ([], []), (336, [(-1, 4)]))
def kC357_1 : aC := (([kvB 0 7, kvB 0 7, kvB 0 7, kvB 0 12], [], 141, [kvR 102, kvI 0, kvI 1, kvI 2, kvN 203, kvN 4, kvI 3, none], []), ([], []), (141, [(-11, 3)]))
def kC357_2 : aC := (([kvB 0 7, kvB 0 7, kvB 0 7, kvB 0 11, (.negSucc 0, .ofNat 7), kvB 1 12], [(102, 8, .inl (5, .ofNat 0))], 195, [kvR 102, kvI 0, kvI 1, kvI 2, kvN 203, kvN 4, kvI 3, kvI 4], []), ([], []), (139, [(-11, 3), (-1, 4)]))
def kC357_3 : aC := (([kvB 0 7, kvB 0 7, kvB 0 7, (.negSucc 0, .ofNat 2147483647)], [(102, 29, .inl (3, .ofNat 0))], 91, [kvR 102, kvI 0, kvI 1, kvI 2, kvN 203, kvN 4, kvN 1, kvN 4], []), ([], []), (166, []))
def kC357_4 : aC := (([kvB 0 7, kvB 0 7, kvB 0 7, kvB 0 4, (.negSucc 0, .ofNat 99)], [(102, 29, .inl (4, .ofNat 0)), (102, 30, .inr (.ofNat 4))], 110, [kvR 102, kvI 0, kvI 1, kvI 2, kvN 203, kvN 4, kvN 1, kvI 3], []), ([], []), (4, [(-1, 3)]))
theorem ks357 : aseg kS krf kB [kE43, kE89, kE325, kE341, kE353] (ksp [(192, 200, 7, 0, 7, 0)]) kE357 [kC357_0, kC357_1, kC357_2, kC357_3, kC357_4] 30000 (none) = true := by decide +kernel
theorem ks357_0 : aseg kS krf kB [kE43, kE89, kE325, kE341, kE353] (ksp [(192, 200, 7, 0, 7, 0)]) kE357 [kC357_0, kC357_1, kC357_2, kC357_3, kC357_4] 30000 (some kC357_0) = true := by decide +kernel
theorem ks357_1 : aseg kS krf kB [kE43, kE89, kE325, kE341, kE353] (ksp [(192, 200, 7, 0, 7, 0)]) kE357 [kC357_0, kC357_1, kC357_2, kC357_3, kC357_4] 30000 (some kC357_1) = true := by decide +kernel
theorem ks357_2 : aseg kS krf kB [kE43, kE89, kE325, kE341, kE353] (ksp [(192, 200, 7, 0, 7, 0)]) kE357 [kC357_0, kC357_1, kC357_2, kC357_3, kC357_4] 30000 (some kC357_2) = true := by decide +kernel
theorem ks357_3 : aseg kS krf kB [kE43, kE89, kE325, kE341, kE353] (ksp [(192, 200, 7, 0, 7, 0)]) kE357 [kC357_0, kC357_1, kC357_2, kC357_3, kC357_4] 30000 (some kC357_3) = true := by decide +kernel
theorem ks357_4 : aseg kS krf kB [kE43, kE89, kE325, kE341, kE353] (ksp [(192, 200, 7, 0, 7, 0)]) kE357 [kC357_0, kC357_1, kC357_2, kC357_3, kC357_4] 30000 (some kC357_4) = true := by decide +kernel
theorem kok357 : aOK kS krf kB kE357 := aOK_of (kal1 kok43 (kal1 kok89 (kal1 kok325 (kal1 kok341 (kal1 kok353 kal0))))) (kcl1 ks357_0 (kcl1 ks357_1 (kcl1 ks357_2 (kcl1 ks357_3 (kcl1 ks357_4 kcl0))))) ks357
/-- ColdShodModel.triesWay(IIIII)V -/
def kE358 : aE := (192, 50, ([kvB 0 7, kvB 0 7, kvB 0 7], [], 0, [kvR 102, kvI 0, kvI 1, kvI 2, kvN 202, kvN 3, none, none], []), ([], none), ([], [], none, ([], [])), kvW65)
def kC358_0 : aC := (([kvB 0 7, kvB 0 7, kvB 0 7, kvB 0 1, kvB 0 3], [], 16, [kvR 102, kvI 0, kvI 1, kvI 2, kvN 202, kvN 3, kvI 3, kvI 4], []), ([], []), (335, [(-1, 4)]))
def kC358_1 : aC := (([kvB 0 7, kvB 0 7, kvB 0 7, kvB 0 12], [], 141, [kvR 102, kvI 0, kvI 1, kvI 2, kvN 202, kvN 3, kvI 3, none], []), ([], []), (141, [(-11, 3)]))
def kC358_2 : aC := (([kvB 0 7, kvB 0 7, kvB 0 7, kvB 0 11, (.negSucc 0, .ofNat 7), kvB 1 12], [(102, 8, .inl (5, .ofNat 0))], 195, [kvR 102, kvI 0, kvI 1, kvI 2, kvN 202, kvN 3, kvI 3, kvI 4], []), ([], []), (139, [(-11, 3), (-1, 4)]))
def kC358_3 : aC := (([kvB 0 7, kvB 0 7, kvB 0 7, (.negSucc 0, .ofNat 2147483647)], [(102, 29, .inl (3, .ofNat 0))], 91, [kvR 102, kvI 0, kvI 1, kvI 2, kvN 202, kvN 3, kvN 1, kvN 3], []), ([], []), (166, []))
def kC358_4 : aC := (([kvB 0 7, kvB 0 7, kvB 0 7, kvB 0 3, (.negSucc 0, .ofNat 99)], [(102, 29, .inl (4, .ofNat 0)), (102, 30, .inr (.ofNat 3))], 110, [kvR 102, kvI 0, kvI 1, kvI 2, kvN 202, kvN 3, kvN 1, kvI 3], []), ([], []), (3, [(-1, 3)]))
theorem ks358 : aseg kS krf kB [kE43, kE89, kE326, kE342, kE354, kE357] (ksp [(192, 200, 7, 0, 7, 0)]) kE358 [kC358_0, kC358_1, kC358_2, kC358_3, kC358_4] 30000 (none) = true := by decide +kernel
theorem ks358_0 : aseg kS krf kB [kE43, kE89, kE326, kE342, kE354, kE357] (ksp [(192, 200, 7, 0, 7, 0)]) kE358 [kC358_0, kC358_1, kC358_2, kC358_3, kC358_4] 30000 (some kC358_0) = true := by decide +kernel
theorem ks358_1 : aseg kS krf kB [kE43, kE89, kE326, kE342, kE354, kE357] (ksp [(192, 200, 7, 0, 7, 0)]) kE358 [kC358_0, kC358_1, kC358_2, kC358_3, kC358_4] 30000 (some kC358_1) = true := by decide +kernel
theorem ks358_2 : aseg kS krf kB [kE43, kE89, kE326, kE342, kE354, kE357] (ksp [(192, 200, 7, 0, 7, 0)]) kE358 [kC358_0, kC358_1, kC358_2, kC358_3, kC358_4] 30000 (some kC358_2) = true := by decide +kernel
theorem ks358_3 : aseg kS krf kB [kE43, kE89, kE326, kE342, kE354, kE357] (ksp [(192, 200, 7, 0, 7, 0)]) kE358 [kC358_0, kC358_1, kC358_2, kC358_3, kC358_4] 30000 (some kC358_3) = true := by decide +kernel
theorem ks358_4 : aseg kS krf kB [kE43, kE89, kE326, kE342, kE354, kE357] (ksp [(192, 200, 7, 0, 7, 0)]) kE358 [kC358_0, kC358_1, kC358_2, kC358_3, kC358_4] 30000 (some kC358_4) = true := by decide +kernel
theorem kok358 : aOK kS krf kB kE358 := aOK_of (kal1 kok43 (kal1 kok89 (kal1 kok326 (kal1 kok342 (kal1 kok354 (kal1 kok357 kal0)))))) (kcl1 ks358_0 (kcl1 ks358_1 (kcl1 ks358_2 (kcl1 ks358_3 (kcl1 ks358_4 kcl0))))) ks358
/-- ColdShodModel.triesWay(IIIII)V -/
def kE359 : aE := (192, 50, ([kvB 0 7, kvB 0 7, kvB 0 7], [], 0, [kvR 102, kvI 0, kvI 1, kvI 2, kvN 201, kvN 3, none, none], []), ([], none), ([], [], none, ([], [])), kvW65)
def kC359_0 : aC := (([kvB 0 7, kvB 0 7, kvB 0 7, kvB 0 1, kvB 0 3], [], 16, [kvR 102, kvI 0, kvI 1, kvI 2, kvN 201, kvN 3, kvI 3, kvI 4], []), ([], []), (335, [(-1, 4)]))
def kC359_1 : aC := (([kvB 0 7, kvB 0 7, kvB 0 7, kvB 0 12], [], 141, [kvR 102, kvI 0, kvI 1, kvI 2, kvN 201, kvN 3, kvI 3, none], []), ([], []), (141, [(-11, 3)]))
def kC359_2 : aC := (([kvB 0 7, kvB 0 7, kvB 0 7, kvB 0 11, (.negSucc 0, .ofNat 7), kvB 1 12], [(102, 8, .inl (5, .ofNat 0))], 195, [kvR 102, kvI 0, kvI 1, kvI 2, kvN 201, kvN 3, kvI 3, kvI 4], []), ([], []), (139, [(-11, 3), (-1, 4)]))
def kC359_3 : aC := (([kvB 0 7, kvB 0 7, kvB 0 7, (.negSucc 0, .ofNat 2147483647)], [(102, 29, .inl (3, .ofNat 0))], 91, [kvR 102, kvI 0, kvI 1, kvI 2, kvN 201, kvN 3, kvN 1, kvN 3], []), ([], []), (166, []))
def kC359_4 : aC := (([kvB 0 7, kvB 0 7, kvB 0 7, kvB 0 3, (.negSucc 0, .ofNat 99)], [(102, 29, .inl (4, .ofNat 0)), (102, 30, .inr (.ofNat 3))], 110, [kvR 102, kvI 0, kvI 1, kvI 2, kvN 201, kvN 3, kvN 1, kvI 3], []), ([], []), (3, [(-1, 3)]))
theorem ks359 : aseg kS krf kB [kE43, kE89, kE327, kE343, kE355, kE357] (ksp [(192, 200, 7, 0, 7, 0)]) kE359 [kC359_0, kC359_1, kC359_2, kC359_3, kC359_4] 30000 (none) = true := by decide +kernel
theorem ks359_0 : aseg kS krf kB [kE43, kE89, kE327, kE343, kE355, kE357] (ksp [(192, 200, 7, 0, 7, 0)]) kE359 [kC359_0, kC359_1, kC359_2, kC359_3, kC359_4] 30000 (some kC359_0) = true := by decide +kernel
theorem ks359_1 : aseg kS krf kB [kE43, kE89, kE327, kE343, kE355, kE357] (ksp [(192, 200, 7, 0, 7, 0)]) kE359 [kC359_0, kC359_1, kC359_2, kC359_3, kC359_4] 30000 (some kC359_1) = true := by decide +kernel
theorem ks359_2 : aseg kS krf kB [kE43, kE89, kE327, kE343, kE355, kE357] (ksp [(192, 200, 7, 0, 7, 0)]) kE359 [kC359_0, kC359_1, kC359_2, kC359_3, kC359_4] 30000 (some kC359_2) = true := by decide +kernel
theorem ks359_3 : aseg kS krf kB [kE43, kE89, kE327, kE343, kE355, kE357] (ksp [(192, 200, 7, 0, 7, 0)]) kE359 [kC359_0, kC359_1, kC359_2, kC359_3, kC359_4] 30000 (some kC359_3) = true := by decide +kernel
theorem ks359_4 : aseg kS krf kB [kE43, kE89, kE327, kE343, kE355, kE357] (ksp [(192, 200, 7, 0, 7, 0)]) kE359 [kC359_0, kC359_1, kC359_2, kC359_3, kC359_4] 30000 (some kC359_4) = true := by decide +kernel
theorem kok359 : aOK kS krf kB kE359 := aOK_of (kal1 kok43 (kal1 kok89 (kal1 kok327 (kal1 kok343 (kal1 kok355 (kal1 kok357 kal0)))))) (kcl1 ks359_0 (kcl1 ks359_1 (kcl1 ks359_2 (kcl1 ks359_3 (kcl1 ks359_4 kcl0))))) ks359
/-- ColdShodModel.triesWay(IIIII)V -/
def kE360 : aE := (192, 51, ([kvB 0 7, kvB 0 7, kvB 0 7], [], 0, [kvR 102, kvI 0, kvI 1, kvI 2, kvN 200, kvN 2, none, none], []), ([], none), ([], [], none, ([], [])), kvW66)
def kC360_0 : aC := (([kvB 0 7, kvB 0 7, kvB 0 7, kvB 0 1, kvB 0 2], [], 16, [kvR 102, kvI 0, kvI 1, kvI 2, kvN 200, kvN 2, kvI 3, kvI 4], []), ([], []), (334, [(-1, 4)]))
def kC360_1 : aC := (([kvB 0 7, kvB 0 7, kvB 0 7, kvB 0 12], [], 141, [kvR 102, kvI 0, kvI 1, kvI 2, kvN 200, kvN 2, kvI 3, none], []), ([], []), (141, [(-11, 3)]))
def kC360_2 : aC := (([kvB 0 7, kvB 0 7, kvB 0 7, kvB 0 11, (.negSucc 0, .ofNat 7), kvB 1 12], [(102, 8, .inl (5, .ofNat 0))], 195, [kvR 102, kvI 0, kvI 1, kvI 2, kvN 200, kvN 2, kvI 3, kvI 4], []), ([], []), (139, [(-11, 3), (-1, 4)]))
def kC360_3 : aC := (([kvB 0 7, kvB 0 7, kvB 0 7, (.negSucc 0, .ofNat 2147483647)], [(102, 29, .inl (3, .ofNat 0))], 91, [kvR 102, kvI 0, kvI 1, kvI 2, kvN 200, kvN 2, kvN 1, kvN 2], []), ([], []), (166, []))
def kC360_4 : aC := (([kvB 0 7, kvB 0 7, kvB 0 7, kvB 0 2, (.negSucc 0, .ofNat 99)], [(102, 29, .inl (4, .ofNat 0)), (102, 30, .inr (.ofNat 2))], 110, [kvR 102, kvI 0, kvI 1, kvI 2, kvN 200, kvN 2, kvN 1, kvI 3], []), ([], []), (2, [(-1, 3)]))
theorem ks360 : aseg kS krf kB [kE43, kE89, kE328, kE344, kE356, kE358, kE359] (ksp [(192, 200, 7, 0, 7, 0)]) kE360 [kC360_0, kC360_1, kC360_2, kC360_3, kC360_4] 30000 (none) = true := by decide +kernel
theorem ks360_0 : aseg kS krf kB [kE43, kE89, kE328, kE344, kE356, kE358, kE359] (ksp [(192, 200, 7, 0, 7, 0)]) kE360 [kC360_0, kC360_1, kC360_2, kC360_3, kC360_4] 30000 (some kC360_0) = true := by decide +kernel
theorem ks360_1 : aseg kS krf kB [kE43, kE89, kE328, kE344, kE356, kE358, kE359] (ksp [(192, 200, 7, 0, 7, 0)]) kE360 [kC360_0, kC360_1, kC360_2, kC360_3, kC360_4] 30000 (some kC360_1) = true := by decide +kernel
theorem ks360_2 : aseg kS krf kB [kE43, kE89, kE328, kE344, kE356, kE358, kE359] (ksp [(192, 200, 7, 0, 7, 0)]) kE360 [kC360_0, kC360_1, kC360_2, kC360_3, kC360_4] 30000 (some kC360_2) = true := by decide +kernel
theorem ks360_3 : aseg kS krf kB [kE43, kE89, kE328, kE344, kE356, kE358, kE359] (ksp [(192, 200, 7, 0, 7, 0)]) kE360 [kC360_0, kC360_1, kC360_2, kC360_3, kC360_4] 30000 (some kC360_3) = true := by decide +kernel
theorem ks360_4 : aseg kS krf kB [kE43, kE89, kE328, kE344, kE356, kE358, kE359] (ksp [(192, 200, 7, 0, 7, 0)]) kE360 [kC360_0, kC360_1, kC360_2, kC360_3, kC360_4] 30000 (some kC360_4) = true := by decide +kernel
theorem kok360 : aOK kS krf kB kE360 := aOK_of (kal1 kok43 (kal1 kok89 (kal1 kok328 (kal1 kok344 (kal1 kok356 (kal1 kok358 (kal1 kok359 kal0))))))) (kcl1 ks360_0 (kcl1 ks360_1 (kcl1 ks360_2 (kcl1 ks360_3 (kcl1 ks360_4 kcl0))))) ks360
/-- ColdShodModel.triesWay(IIIII)V -/
def kE361 : aE := (192, 49, ([kvB 0 7, kvB 0 7, kvB 0 7], [], 0, [kvR 102, kvI 0, kvI 1, kvI 2, kvN 199, kvN 4, none, none], []), ([], none), ([], [], none, ([], [])), kvW64)
def kC361_0 : aC := (([kvB 0 7, kvB 0 7, kvB 0 7, kvB 0 1, kvB 0 4], [], 16, [kvR 102, kvI 0, kvI 1, kvI 2, kvN 199, kvN 4, kvI 3, kvI 4], []), ([], []), (336, [(-1, 4)]))
def kC361_1 : aC := (([kvB 0 7, kvB 0 7, kvB 0 7, kvB 0 12], [], 141, [kvR 102, kvI 0, kvI 1, kvI 2, kvN 199, kvN 4, kvI 3, none], []), ([], []), (141, [(-11, 3)]))
def kC361_2 : aC := (([kvB 0 7, kvB 0 7, kvB 0 7, kvB 0 11, (.negSucc 0, .ofNat 7), kvB 1 12], [(102, 8, .inl (5, .ofNat 0))], 195, [kvR 102, kvI 0, kvI 1, kvI 2, kvN 199, kvN 4, kvI 3, kvI 4], []), ([], []), (139, [(-11, 3), (-1, 4)]))
def kC361_3 : aC := (([kvB 0 7, kvB 0 7, kvB 0 7, (.negSucc 0, .ofNat 2147483647)], [(102, 29, .inl (3, .ofNat 0))], 91, [kvR 102, kvI 0, kvI 1, kvI 2, kvN 199, kvN 4, kvN 1, kvN 4], []), ([], []), (166, []))
def kC361_4 : aC := (([kvB 0 7, kvB 0 7, kvB 0 7, kvB 0 4, (.negSucc 0, .ofNat 99)], [(102, 29, .inl (4, .ofNat 0)), (102, 30, .inr (.ofNat 4))], 110, [kvR 102, kvI 0, kvI 1, kvI 2, kvN 199, kvN 4, kvN 1, kvI 3], []), ([], []), (4, [(-1, 3)]))
theorem ks361 : aseg kS krf kB [kE43, kE89, kE329, kE345, kE353] (ksp [(192, 200, 7, 0, 7, 0)]) kE361 [kC361_0, kC361_1, kC361_2, kC361_3, kC361_4] 30000 (none) = true := by decide +kernel
theorem ks361_0 : aseg kS krf kB [kE43, kE89, kE329, kE345, kE353] (ksp [(192, 200, 7, 0, 7, 0)]) kE361 [kC361_0, kC361_1, kC361_2, kC361_3, kC361_4] 30000 (some kC361_0) = true := by decide +kernel
theorem ks361_1 : aseg kS krf kB [kE43, kE89, kE329, kE345, kE353] (ksp [(192, 200, 7, 0, 7, 0)]) kE361 [kC361_0, kC361_1, kC361_2, kC361_3, kC361_4] 30000 (some kC361_1) = true := by decide +kernel
theorem ks361_2 : aseg kS krf kB [kE43, kE89, kE329, kE345, kE353] (ksp [(192, 200, 7, 0, 7, 0)]) kE361 [kC361_0, kC361_1, kC361_2, kC361_3, kC361_4] 30000 (some kC361_2) = true := by decide +kernel
theorem ks361_3 : aseg kS krf kB [kE43, kE89, kE329, kE345, kE353] (ksp [(192, 200, 7, 0, 7, 0)]) kE361 [kC361_0, kC361_1, kC361_2, kC361_3, kC361_4] 30000 (some kC361_3) = true := by decide +kernel
theorem ks361_4 : aseg kS krf kB [kE43, kE89, kE329, kE345, kE353] (ksp [(192, 200, 7, 0, 7, 0)]) kE361 [kC361_0, kC361_1, kC361_2, kC361_3, kC361_4] 30000 (some kC361_4) = true := by decide +kernel
theorem kok361 : aOK kS krf kB kE361 := aOK_of (kal1 kok43 (kal1 kok89 (kal1 kok329 (kal1 kok345 (kal1 kok353 kal0))))) (kcl1 ks361_0 (kcl1 ks361_1 (kcl1 ks361_2 (kcl1 ks361_3 (kcl1 ks361_4 kcl0))))) ks361
/-- ColdShodModel.triesWay(IIIII)V -/
def kE362 : aE := (192, 50, ([kvB 0 7, kvB 0 7, kvB 0 7], [], 0, [kvR 102, kvI 0, kvI 1, kvI 2, kvN 198, kvN 3, none, none], []), ([], none), ([], [], none, ([], [])), kvW65)
def kC362_0 : aC := (([kvB 0 7, kvB 0 7, kvB 0 7, kvB 0 1, kvB 0 3], [], 16, [kvR 102, kvI 0, kvI 1, kvI 2, kvN 198, kvN 3, kvI 3, kvI 4], []), ([], []), (335, [(-1, 4)]))
def kC362_1 : aC := (([kvB 0 7, kvB 0 7, kvB 0 7, kvB 0 12], [], 141, [kvR 102, kvI 0, kvI 1, kvI 2, kvN 198, kvN 3, kvI 3, none], []), ([], []), (141, [(-11, 3)]))
def kC362_2 : aC := (([kvB 0 7, kvB 0 7, kvB 0 7, kvB 0 11, (.negSucc 0, .ofNat 7), kvB 1 12], [(102, 8, .inl (5, .ofNat 0))], 195, [kvR 102, kvI 0, kvI 1, kvI 2, kvN 198, kvN 3, kvI 3, kvI 4], []), ([], []), (139, [(-11, 3), (-1, 4)]))
def kC362_3 : aC := (([kvB 0 7, kvB 0 7, kvB 0 7, (.negSucc 0, .ofNat 2147483647)], [(102, 29, .inl (3, .ofNat 0))], 91, [kvR 102, kvI 0, kvI 1, kvI 2, kvN 198, kvN 3, kvN 1, kvN 3], []), ([], []), (166, []))
def kC362_4 : aC := (([kvB 0 7, kvB 0 7, kvB 0 7, kvB 0 3, (.negSucc 0, .ofNat 99)], [(102, 29, .inl (4, .ofNat 0)), (102, 30, .inr (.ofNat 3))], 110, [kvR 102, kvI 0, kvI 1, kvI 2, kvN 198, kvN 3, kvN 1, kvI 3], []), ([], []), (3, [(-1, 3)]))
theorem ks362 : aseg kS krf kB [kE43, kE89, kE330, kE346, kE354, kE361] (ksp [(192, 200, 7, 0, 7, 0)]) kE362 [kC362_0, kC362_1, kC362_2, kC362_3, kC362_4] 30000 (none) = true := by decide +kernel
theorem ks362_0 : aseg kS krf kB [kE43, kE89, kE330, kE346, kE354, kE361] (ksp [(192, 200, 7, 0, 7, 0)]) kE362 [kC362_0, kC362_1, kC362_2, kC362_3, kC362_4] 30000 (some kC362_0) = true := by decide +kernel
theorem ks362_1 : aseg kS krf kB [kE43, kE89, kE330, kE346, kE354, kE361] (ksp [(192, 200, 7, 0, 7, 0)]) kE362 [kC362_0, kC362_1, kC362_2, kC362_3, kC362_4] 30000 (some kC362_1) = true := by decide +kernel
theorem ks362_2 : aseg kS krf kB [kE43, kE89, kE330, kE346, kE354, kE361] (ksp [(192, 200, 7, 0, 7, 0)]) kE362 [kC362_0, kC362_1, kC362_2, kC362_3, kC362_4] 30000 (some kC362_2) = true := by decide +kernel
theorem ks362_3 : aseg kS krf kB [kE43, kE89, kE330, kE346, kE354, kE361] (ksp [(192, 200, 7, 0, 7, 0)]) kE362 [kC362_0, kC362_1, kC362_2, kC362_3, kC362_4] 30000 (some kC362_3) = true := by decide +kernel
theorem ks362_4 : aseg kS krf kB [kE43, kE89, kE330, kE346, kE354, kE361] (ksp [(192, 200, 7, 0, 7, 0)]) kE362 [kC362_0, kC362_1, kC362_2, kC362_3, kC362_4] 30000 (some kC362_4) = true := by decide +kernel
theorem kok362 : aOK kS krf kB kE362 := aOK_of (kal1 kok43 (kal1 kok89 (kal1 kok330 (kal1 kok346 (kal1 kok354 (kal1 kok361 kal0)))))) (kcl1 ks362_0 (kcl1 ks362_1 (kcl1 ks362_2 (kcl1 ks362_3 (kcl1 ks362_4 kcl0))))) ks362
/-- ColdShodModel.triesWay(IIIII)V -/
def kE363 : aE := (192, 50, ([kvB 0 7, kvB 0 7, kvB 0 7], [], 0, [kvR 102, kvI 0, kvI 1, kvI 2, kvN 197, kvN 3, none, none], []), ([], none), ([], [], none, ([], [])), kvW65)
def kC363_0 : aC := (([kvB 0 7, kvB 0 7, kvB 0 7, kvB 0 1, kvB 0 3], [], 16, [kvR 102, kvI 0, kvI 1, kvI 2, kvN 197, kvN 3, kvI 3, kvI 4], []), ([], []), (335, [(-1, 4)]))
def kC363_1 : aC := (([kvB 0 7, kvB 0 7, kvB 0 7, kvB 0 12], [], 141, [kvR 102, kvI 0, kvI 1, kvI 2, kvN 197, kvN 3, kvI 3, none], []), ([], []), (141, [(-11, 3)]))
def kC363_2 : aC := (([kvB 0 7, kvB 0 7, kvB 0 7, kvB 0 11, (.negSucc 0, .ofNat 7), kvB 1 12], [(102, 8, .inl (5, .ofNat 0))], 195, [kvR 102, kvI 0, kvI 1, kvI 2, kvN 197, kvN 3, kvI 3, kvI 4], []), ([], []), (139, [(-11, 3), (-1, 4)]))
def kC363_3 : aC := (([kvB 0 7, kvB 0 7, kvB 0 7, (.negSucc 0, .ofNat 2147483647)], [(102, 29, .inl (3, .ofNat 0))], 91, [kvR 102, kvI 0, kvI 1, kvI 2, kvN 197, kvN 3, kvN 1, kvN 3], []), ([], []), (166, []))
def kC363_4 : aC := (([kvB 0 7, kvB 0 7, kvB 0 7, kvB 0 3, (.negSucc 0, .ofNat 99)], [(102, 29, .inl (4, .ofNat 0)), (102, 30, .inr (.ofNat 3))], 110, [kvR 102, kvI 0, kvI 1, kvI 2, kvN 197, kvN 3, kvN 1, kvI 3], []), ([], []), (3, [(-1, 3)]))
theorem ks363 : aseg kS krf kB [kE43, kE89, kE331, kE347, kE355, kE361] (ksp [(192, 200, 7, 0, 7, 0)]) kE363 [kC363_0, kC363_1, kC363_2, kC363_3, kC363_4] 30000 (none) = true := by decide +kernel
theorem ks363_0 : aseg kS krf kB [kE43, kE89, kE331, kE347, kE355, kE361] (ksp [(192, 200, 7, 0, 7, 0)]) kE363 [kC363_0, kC363_1, kC363_2, kC363_3, kC363_4] 30000 (some kC363_0) = true := by decide +kernel
theorem ks363_1 : aseg kS krf kB [kE43, kE89, kE331, kE347, kE355, kE361] (ksp [(192, 200, 7, 0, 7, 0)]) kE363 [kC363_0, kC363_1, kC363_2, kC363_3, kC363_4] 30000 (some kC363_1) = true := by decide +kernel
theorem ks363_2 : aseg kS krf kB [kE43, kE89, kE331, kE347, kE355, kE361] (ksp [(192, 200, 7, 0, 7, 0)]) kE363 [kC363_0, kC363_1, kC363_2, kC363_3, kC363_4] 30000 (some kC363_2) = true := by decide +kernel
theorem ks363_3 : aseg kS krf kB [kE43, kE89, kE331, kE347, kE355, kE361] (ksp [(192, 200, 7, 0, 7, 0)]) kE363 [kC363_0, kC363_1, kC363_2, kC363_3, kC363_4] 30000 (some kC363_3) = true := by decide +kernel
theorem ks363_4 : aseg kS krf kB [kE43, kE89, kE331, kE347, kE355, kE361] (ksp [(192, 200, 7, 0, 7, 0)]) kE363 [kC363_0, kC363_1, kC363_2, kC363_3, kC363_4] 30000 (some kC363_4) = true := by decide +kernel
theorem kok363 : aOK kS krf kB kE363 := aOK_of (kal1 kok43 (kal1 kok89 (kal1 kok331 (kal1 kok347 (kal1 kok355 (kal1 kok361 kal0)))))) (kcl1 ks363_0 (kcl1 ks363_1 (kcl1 ks363_2 (kcl1 ks363_3 (kcl1 ks363_4 kcl0))))) ks363
/-- ColdShodModel.triesWay(IIIII)V -/
def kE364 : aE := (192, 51, ([kvB 0 7, kvB 0 7, kvB 0 7], [], 0, [kvR 102, kvI 0, kvI 1, kvI 2, kvN 196, kvN 2, none, none], []), ([], none), ([], [], none, ([], [])), kvW66)
def kC364_0 : aC := (([kvB 0 7, kvB 0 7, kvB 0 7, kvB 0 1, kvB 0 2], [], 16, [kvR 102, kvI 0, kvI 1, kvI 2, kvN 196, kvN 2, kvI 3, kvI 4], []), ([], []), (334, [(-1, 4)]))
def kC364_1 : aC := (([kvB 0 7, kvB 0 7, kvB 0 7, kvB 0 12], [], 141, [kvR 102, kvI 0, kvI 1, kvI 2, kvN 196, kvN 2, kvI 3, none], []), ([], []), (141, [(-11, 3)]))
def kC364_2 : aC := (([kvB 0 7, kvB 0 7, kvB 0 7, kvB 0 11, (.negSucc 0, .ofNat 7), kvB 1 12], [(102, 8, .inl (5, .ofNat 0))], 195, [kvR 102, kvI 0, kvI 1, kvI 2, kvN 196, kvN 2, kvI 3, kvI 4], []), ([], []), (139, [(-11, 3), (-1, 4)]))
def kC364_3 : aC := (([kvB 0 7, kvB 0 7, kvB 0 7, (.negSucc 0, .ofNat 2147483647)], [(102, 29, .inl (3, .ofNat 0))], 91, [kvR 102, kvI 0, kvI 1, kvI 2, kvN 196, kvN 2, kvN 1, kvN 2], []), ([], []), (166, []))
def kC364_4 : aC := (([kvB 0 7, kvB 0 7, kvB 0 7, kvB 0 2, (.negSucc 0, .ofNat 99)], [(102, 29, .inl (4, .ofNat 0)), (102, 30, .inr (.ofNat 2))], 110, [kvR 102, kvI 0, kvI 1, kvI 2, kvN 196, kvN 2, kvN 1, kvI 3], []), ([], []), (2, [(-1, 3)]))
theorem ks364 : aseg kS krf kB [kE43, kE89, kE332, kE348, kE356, kE362, kE363] (ksp [(192, 200, 7, 0, 7, 0)]) kE364 [kC364_0, kC364_1, kC364_2, kC364_3, kC364_4] 30000 (none) = true := by decide +kernel
theorem ks364_0 : aseg kS krf kB [kE43, kE89, kE332, kE348, kE356, kE362, kE363] (ksp [(192, 200, 7, 0, 7, 0)]) kE364 [kC364_0, kC364_1, kC364_2, kC364_3, kC364_4] 30000 (some kC364_0) = true := by decide +kernel
theorem ks364_1 : aseg kS krf kB [kE43, kE89, kE332, kE348, kE356, kE362, kE363] (ksp [(192, 200, 7, 0, 7, 0)]) kE364 [kC364_0, kC364_1, kC364_2, kC364_3, kC364_4] 30000 (some kC364_1) = true := by decide +kernel
theorem ks364_2 : aseg kS krf kB [kE43, kE89, kE332, kE348, kE356, kE362, kE363] (ksp [(192, 200, 7, 0, 7, 0)]) kE364 [kC364_0, kC364_1, kC364_2, kC364_3, kC364_4] 30000 (some kC364_2) = true := by decide +kernel
theorem ks364_3 : aseg kS krf kB [kE43, kE89, kE332, kE348, kE356, kE362, kE363] (ksp [(192, 200, 7, 0, 7, 0)]) kE364 [kC364_0, kC364_1, kC364_2, kC364_3, kC364_4] 30000 (some kC364_3) = true := by decide +kernel
theorem ks364_4 : aseg kS krf kB [kE43, kE89, kE332, kE348, kE356, kE362, kE363] (ksp [(192, 200, 7, 0, 7, 0)]) kE364 [kC364_0, kC364_1, kC364_2, kC364_3, kC364_4] 30000 (some kC364_4) = true := by decide +kernel
theorem kok364 : aOK kS krf kB kE364 := aOK_of (kal1 kok43 (kal1 kok89 (kal1 kok332 (kal1 kok348 (kal1 kok356 (kal1 kok362 (kal1 kok363 kal0))))))) (kcl1 ks364_0 (kcl1 ks364_1 (kcl1 ks364_2 (kcl1 ks364_3 (kcl1 ks364_4 kcl0))))) ks364
/-- ColdShodModel.triesWay(IIIII)V -/
def kE365 : aE := (192, 50, ([kvB 0 7, kvB 0 7, kvB 0 7], [], 0, [kvR 102, kvI 0, kvI 1, kvI 2, kvN 195, kvN 3, none, none], []), ([], none), ([], [], none, ([], [])), kvW65)
def kC365_0 : aC := (([kvB 0 7, kvB 0 7, kvB 0 7, kvB 0 1, kvB 0 3], [], 16, [kvR 102, kvI 0, kvI 1, kvI 2, kvN 195, kvN 3, kvI 3, kvI 4], []), ([], []), (335, [(-1, 4)]))
def kC365_1 : aC := (([kvB 0 7, kvB 0 7, kvB 0 7, kvB 0 12], [], 141, [kvR 102, kvI 0, kvI 1, kvI 2, kvN 195, kvN 3, kvI 3, none], []), ([], []), (141, [(-11, 3)]))
def kC365_2 : aC := (([kvB 0 7, kvB 0 7, kvB 0 7, kvB 0 11, (.negSucc 0, .ofNat 7), kvB 1 12], [(102, 8, .inl (5, .ofNat 0))], 195, [kvR 102, kvI 0, kvI 1, kvI 2, kvN 195, kvN 3, kvI 3, kvI 4], []), ([], []), (139, [(-11, 3), (-1, 4)]))
def kC365_3 : aC := (([kvB 0 7, kvB 0 7, kvB 0 7, (.negSucc 0, .ofNat 2147483647)], [(102, 29, .inl (3, .ofNat 0))], 91, [kvR 102, kvI 0, kvI 1, kvI 2, kvN 195, kvN 3, kvN 1, kvN 3], []), ([], []), (166, []))
def kC365_4 : aC := (([kvB 0 7, kvB 0 7, kvB 0 7, kvB 0 3, (.negSucc 0, .ofNat 99)], [(102, 29, .inl (4, .ofNat 0)), (102, 30, .inr (.ofNat 3))], 110, [kvR 102, kvI 0, kvI 1, kvI 2, kvN 195, kvN 3, kvN 1, kvI 3], []), ([], []), (3, [(-1, 3)]))
theorem ks365 : aseg kS krf kB [kE43, kE89, kE333, kE349, kE357, kE361] (ksp [(192, 200, 7, 0, 7, 0)]) kE365 [kC365_0, kC365_1, kC365_2, kC365_3, kC365_4] 30000 (none) = true := by decide +kernel
theorem ks365_0 : aseg kS krf kB [kE43, kE89, kE333, kE349, kE357, kE361] (ksp [(192, 200, 7, 0, 7, 0)]) kE365 [kC365_0, kC365_1, kC365_2, kC365_3, kC365_4] 30000 (some kC365_0) = true := by decide +kernel
theorem ks365_1 : aseg kS krf kB [kE43, kE89, kE333, kE349, kE357, kE361] (ksp [(192, 200, 7, 0, 7, 0)]) kE365 [kC365_0, kC365_1, kC365_2, kC365_3, kC365_4] 30000 (some kC365_1) = true := by decide +kernel
theorem ks365_2 : aseg kS krf kB [kE43, kE89, kE333, kE349, kE357, kE361] (ksp [(192, 200, 7, 0, 7, 0)]) kE365 [kC365_0, kC365_1, kC365_2, kC365_3, kC365_4] 30000 (some kC365_2) = true := by decide +kernel
theorem ks365_3 : aseg kS krf kB [kE43, kE89, kE333, kE349, kE357, kE361] (ksp [(192, 200, 7, 0, 7, 0)]) kE365 [kC365_0, kC365_1, kC365_2, kC365_3, kC365_4] 30000 (some kC365_3) = true := by decide +kernel
theorem ks365_4 : aseg kS krf kB [kE43, kE89, kE333, kE349, kE357, kE361] (ksp [(192, 200, 7, 0, 7, 0)]) kE365 [kC365_0, kC365_1, kC365_2, kC365_3, kC365_4] 30000 (some kC365_4) = true := by decide +kernel
theorem kok365 : aOK kS krf kB kE365 := aOK_of (kal1 kok43 (kal1 kok89 (kal1 kok333 (kal1 kok349 (kal1 kok357 (kal1 kok361 kal0)))))) (kcl1 ks365_0 (kcl1 ks365_1 (kcl1 ks365_2 (kcl1 ks365_3 (kcl1 ks365_4 kcl0))))) ks365
/-- ColdShodModel.triesWay(IIIII)V -/
def kE366 : aE := (192, 51, ([kvB 0 7, kvB 0 7, kvB 0 7], [], 0, [kvR 102, kvI 0, kvI 1, kvI 2, kvN 194, kvN 2, none, none], []), ([], none), ([], [], none, ([], [])), kvW66)
def kC366_0 : aC := (([kvB 0 7, kvB 0 7, kvB 0 7, kvB 0 1, kvB 0 2], [], 16, [kvR 102, kvI 0, kvI 1, kvI 2, kvN 194, kvN 2, kvI 3, kvI 4], []), ([], []), (334, [(-1, 4)]))
def kC366_1 : aC := (([kvB 0 7, kvB 0 7, kvB 0 7, kvB 0 12], [], 141, [kvR 102, kvI 0, kvI 1, kvI 2, kvN 194, kvN 2, kvI 3, none], []), ([], []), (141, [(-11, 3)]))
def kC366_2 : aC := (([kvB 0 7, kvB 0 7, kvB 0 7, kvB 0 11, (.negSucc 0, .ofNat 7), kvB 1 12], [(102, 8, .inl (5, .ofNat 0))], 195, [kvR 102, kvI 0, kvI 1, kvI 2, kvN 194, kvN 2, kvI 3, kvI 4], []), ([], []), (139, [(-11, 3), (-1, 4)]))
def kC366_3 : aC := (([kvB 0 7, kvB 0 7, kvB 0 7, (.negSucc 0, .ofNat 2147483647)], [(102, 29, .inl (3, .ofNat 0))], 91, [kvR 102, kvI 0, kvI 1, kvI 2, kvN 194, kvN 2, kvN 1, kvN 2], []), ([], []), (166, []))
def kC366_4 : aC := (([kvB 0 7, kvB 0 7, kvB 0 7, kvB 0 2, (.negSucc 0, .ofNat 99)], [(102, 29, .inl (4, .ofNat 0)), (102, 30, .inr (.ofNat 2))], 110, [kvR 102, kvI 0, kvI 1, kvI 2, kvN 194, kvN 2, kvN 1, kvI 3], []), ([], []), (2, [(-1, 3)]))
theorem ks366 : aseg kS krf kB [kE43, kE89, kE334, kE350, kE358, kE362, kE365] (ksp [(192, 200, 7, 0, 7, 0)]) kE366 [kC366_0, kC366_1, kC366_2, kC366_3, kC366_4] 30000 (none) = true := by decide +kernel
theorem ks366_0 : aseg kS krf kB [kE43, kE89, kE334, kE350, kE358, kE362, kE365] (ksp [(192, 200, 7, 0, 7, 0)]) kE366 [kC366_0, kC366_1, kC366_2, kC366_3, kC366_4] 30000 (some kC366_0) = true := by decide +kernel
theorem ks366_1 : aseg kS krf kB [kE43, kE89, kE334, kE350, kE358, kE362, kE365] (ksp [(192, 200, 7, 0, 7, 0)]) kE366 [kC366_0, kC366_1, kC366_2, kC366_3, kC366_4] 30000 (some kC366_1) = true := by decide +kernel
theorem ks366_2 : aseg kS krf kB [kE43, kE89, kE334, kE350, kE358, kE362, kE365] (ksp [(192, 200, 7, 0, 7, 0)]) kE366 [kC366_0, kC366_1, kC366_2, kC366_3, kC366_4] 30000 (some kC366_2) = true := by decide +kernel
theorem ks366_3 : aseg kS krf kB [kE43, kE89, kE334, kE350, kE358, kE362, kE365] (ksp [(192, 200, 7, 0, 7, 0)]) kE366 [kC366_0, kC366_1, kC366_2, kC366_3, kC366_4] 30000 (some kC366_3) = true := by decide +kernel
theorem ks366_4 : aseg kS krf kB [kE43, kE89, kE334, kE350, kE358, kE362, kE365] (ksp [(192, 200, 7, 0, 7, 0)]) kE366 [kC366_0, kC366_1, kC366_2, kC366_3, kC366_4] 30000 (some kC366_4) = true := by decide +kernel
theorem kok366 : aOK kS krf kB kE366 := aOK_of (kal1 kok43 (kal1 kok89 (kal1 kok334 (kal1 kok350 (kal1 kok358 (kal1 kok362 (kal1 kok365 kal0))))))) (kcl1 ks366_0 (kcl1 ks366_1 (kcl1 ks366_2 (kcl1 ks366_3 (kcl1 ks366_4 kcl0))))) ks366
/-- ColdShodModel.triesWay(IIIII)V -/
def kE367 : aE := (192, 51, ([kvB 0 7, kvB 0 7, kvB 0 7], [], 0, [kvR 102, kvI 0, kvI 1, kvI 2, kvN 193, kvN 2, none, none], []), ([], none), ([], [], none, ([], [])), kvW66)
def kC367_0 : aC := (([kvB 0 7, kvB 0 7, kvB 0 7, kvB 0 1, kvB 0 2], [], 16, [kvR 102, kvI 0, kvI 1, kvI 2, kvN 193, kvN 2, kvI 3, kvI 4], []), ([], []), (334, [(-1, 4)]))
def kC367_1 : aC := (([kvB 0 7, kvB 0 7, kvB 0 7, kvB 0 12], [], 141, [kvR 102, kvI 0, kvI 1, kvI 2, kvN 193, kvN 2, kvI 3, none], []), ([], []), (141, [(-11, 3)]))
def kC367_2 : aC := (([kvB 0 7, kvB 0 7, kvB 0 7, kvB 0 11, (.negSucc 0, .ofNat 7), kvB 1 12], [(102, 8, .inl (5, .ofNat 0))], 195, [kvR 102, kvI 0, kvI 1, kvI 2, kvN 193, kvN 2, kvI 3, kvI 4], []), ([], []), (139, [(-11, 3), (-1, 4)]))
def kC367_3 : aC := (([kvB 0 7, kvB 0 7, kvB 0 7, (.negSucc 0, .ofNat 2147483647)], [(102, 29, .inl (3, .ofNat 0))], 91, [kvR 102, kvI 0, kvI 1, kvI 2, kvN 193, kvN 2, kvN 1, kvN 2], []), ([], []), (166, []))
def kC367_4 : aC := (([kvB 0 7, kvB 0 7, kvB 0 7, kvB 0 2, (.negSucc 0, .ofNat 99)], [(102, 29, .inl (4, .ofNat 0)), (102, 30, .inr (.ofNat 2))], 110, [kvR 102, kvI 0, kvI 1, kvI 2, kvN 193, kvN 2, kvN 1, kvI 3], []), ([], []), (2, [(-1, 3)]))
theorem ks367 : aseg kS krf kB [kE43, kE89, kE335, kE351, kE359, kE363, kE365] (ksp [(192, 200, 7, 0, 7, 0)]) kE367 [kC367_0, kC367_1, kC367_2, kC367_3, kC367_4] 30000 (none) = true := by decide +kernel
theorem ks367_0 : aseg kS krf kB [kE43, kE89, kE335, kE351, kE359, kE363, kE365] (ksp [(192, 200, 7, 0, 7, 0)]) kE367 [kC367_0, kC367_1, kC367_2, kC367_3, kC367_4] 30000 (some kC367_0) = true := by decide +kernel
theorem ks367_1 : aseg kS krf kB [kE43, kE89, kE335, kE351, kE359, kE363, kE365] (ksp [(192, 200, 7, 0, 7, 0)]) kE367 [kC367_0, kC367_1, kC367_2, kC367_3, kC367_4] 30000 (some kC367_1) = true := by decide +kernel
theorem ks367_2 : aseg kS krf kB [kE43, kE89, kE335, kE351, kE359, kE363, kE365] (ksp [(192, 200, 7, 0, 7, 0)]) kE367 [kC367_0, kC367_1, kC367_2, kC367_3, kC367_4] 30000 (some kC367_2) = true := by decide +kernel
theorem ks367_3 : aseg kS krf kB [kE43, kE89, kE335, kE351, kE359, kE363, kE365] (ksp [(192, 200, 7, 0, 7, 0)]) kE367 [kC367_0, kC367_1, kC367_2, kC367_3, kC367_4] 30000 (some kC367_3) = true := by decide +kernel
theorem ks367_4 : aseg kS krf kB [kE43, kE89, kE335, kE351, kE359, kE363, kE365] (ksp [(192, 200, 7, 0, 7, 0)]) kE367 [kC367_0, kC367_1, kC367_2, kC367_3, kC367_4] 30000 (some kC367_4) = true := by decide +kernel
theorem kok367 : aOK kS krf kB kE367 := aOK_of (kal1 kok43 (kal1 kok89 (kal1 kok335 (kal1 kok351 (kal1 kok359 (kal1 kok363 (kal1 kok365 kal0))))))) (kcl1 ks367_0 (kcl1 ks367_1 (kcl1 ks367_2 (kcl1 ks367_3 (kcl1 ks367_4 kcl0))))) ks367
/-- ColdShodModel.triesWay(IIIII)V -/
def kE368 : aE := (192, 52, ([kvB 0 7, kvB 0 7, kvB 0 7], [], 0, [kvR 102, kvI 0, kvI 1, kvI 2, kvN 192, kvN 1, none, none], []), ([], none), ([], [], none, ([], [])), kvW67)
def kC368_0 : aC := (([kvB 0 7, kvB 0 7, kvB 0 7, kvB 0 1, kvB 0 1], [], 16, [kvR 102, kvI 0, kvI 1, kvI 2, kvN 192, kvN 1, kvI 3, kvI 4], []), ([], []), (333, [(-1, 4)]))
def kC368_1 : aC := (([kvB 0 7, kvB 0 7, kvB 0 7, kvB 0 12], [], 141, [kvR 102, kvI 0, kvI 1, kvI 2, kvN 192, kvN 1, kvI 3, none], []), ([], []), (141, [(-11, 3)]))
def kC368_2 : aC := (([kvB 0 7, kvB 0 7, kvB 0 7, kvB 0 11, (.negSucc 0, .ofNat 7), kvB 1 12], [(102, 8, .inl (5, .ofNat 0))], 195, [kvR 102, kvI 0, kvI 1, kvI 2, kvN 192, kvN 1, kvI 3, kvI 4], []), ([], []), (139, [(-11, 3), (-1, 4)]))
def kC368_3 : aC := (([kvB 0 7, kvB 0 7, kvB 0 7, (.negSucc 0, .ofNat 2147483647)], [(102, 29, .inl (3, .ofNat 0))], 91, [kvR 102, kvI 0, kvI 1, kvI 2, kvN 192, kvN 1, kvN 1, kvN 1], []), ([], []), (166, []))
def kC368_4 : aC := (([kvB 0 7, kvB 0 7, kvB 0 7, kvB 0 1, (.negSucc 0, .ofNat 99)], [(102, 29, .inl (4, .ofNat 0)), (102, 30, .inr (.ofNat 1))], 110, [kvR 102, kvI 0, kvI 1, kvI 2, kvN 192, kvN 1, kvN 1, kvI 3], []), ([], []), (1, [(-1, 3)]))
theorem ks368 : aseg kS krf kB [kE43, kE89, kE336, kE352, kE360, kE364, kE366, kE367] (ksp [(192, 200, 7, 0, 7, 0)]) kE368 [kC368_0, kC368_1, kC368_2, kC368_3, kC368_4] 30000 (none) = true := by decide +kernel
theorem ks368_0 : aseg kS krf kB [kE43, kE89, kE336, kE352, kE360, kE364, kE366, kE367] (ksp [(192, 200, 7, 0, 7, 0)]) kE368 [kC368_0, kC368_1, kC368_2, kC368_3, kC368_4] 30000 (some kC368_0) = true := by decide +kernel
theorem ks368_1 : aseg kS krf kB [kE43, kE89, kE336, kE352, kE360, kE364, kE366, kE367] (ksp [(192, 200, 7, 0, 7, 0)]) kE368 [kC368_0, kC368_1, kC368_2, kC368_3, kC368_4] 30000 (some kC368_1) = true := by decide +kernel
theorem ks368_2 : aseg kS krf kB [kE43, kE89, kE336, kE352, kE360, kE364, kE366, kE367] (ksp [(192, 200, 7, 0, 7, 0)]) kE368 [kC368_0, kC368_1, kC368_2, kC368_3, kC368_4] 30000 (some kC368_2) = true := by decide +kernel
theorem ks368_3 : aseg kS krf kB [kE43, kE89, kE336, kE352, kE360, kE364, kE366, kE367] (ksp [(192, 200, 7, 0, 7, 0)]) kE368 [kC368_0, kC368_1, kC368_2, kC368_3, kC368_4] 30000 (some kC368_3) = true := by decide +kernel
theorem ks368_4 : aseg kS krf kB [kE43, kE89, kE336, kE352, kE360, kE364, kE366, kE367] (ksp [(192, 200, 7, 0, 7, 0)]) kE368 [kC368_0, kC368_1, kC368_2, kC368_3, kC368_4] 30000 (some kC368_4) = true := by decide +kernel
theorem kok368 : aOK kS krf kB kE368 := aOK_of (kal1 kok43 (kal1 kok89 (kal1 kok336 (kal1 kok352 (kal1 kok360 (kal1 kok364 (kal1 kok366 (kal1 kok367 kal0)))))))) (kcl1 ks368_0 (kcl1 ks368_1 (kcl1 ks368_2 (kcl1 ks368_3 (kcl1 ks368_4 kcl0))))) ks368
/-- ColdShodModel.triesWay(IIIII)V -/
def kE369 : aE := (192, 47, ([kvB 0 7, kvB 0 7, kvB 0 7], [], 0, [kvR 102, kvI 0, kvI 1, kvI 2, kvN 191, kvN 6, none, none], []), ([], none), ([], [], none, ([], [])), kvW62)
def kC369_0 : aC := (([kvB 0 7, kvB 0 7, kvB 0 7, kvB 0 1, kvB 0 6], [], 16, [kvR 102, kvI 0, kvI 1, kvI 2, kvN 191, kvN 6, kvI 3, kvI 4], []), ([], []), (338, [(-1, 4)]))
def kC369_1 : aC := (([kvB 0 7, kvB 0 7, kvB 0 7, kvB 0 12], [], 141, [kvR 102, kvI 0, kvI 1, kvI 2, kvN 191, kvN 6, kvI 3, none], []), ([], []), (141, [(-11, 3)]))
def kC369_2 : aC := (([kvB 0 7, kvB 0 7, kvB 0 7, kvB 0 11, (.negSucc 0, .ofNat 7), kvB 1 12], [(102, 8, .inl (5, .ofNat 0))], 195, [kvR 102, kvI 0, kvI 1, kvI 2, kvN 191, kvN 6, kvI 3, kvI 4], []), ([], []), (139, [(-11, 3), (-1, 4)]))
def kC369_3 : aC := (([kvB 0 7, kvB 0 7, kvB 0 7, (.negSucc 0, .ofNat 2147483647)], [(102, 29, .inl (3, .ofNat 0))], 91, [kvR 102, kvI 0, kvI 1, kvI 2, kvN 191, kvN 6, kvN 1, kvN 6], []), ([], []), (166, []))
def kC369_4 : aC := (([kvB 0 7, kvB 0 7, kvB 0 7, kvB 0 6, (.negSucc 0, .ofNat 99)], [(102, 29, .inl (4, .ofNat 0)), (102, 30, .inr (.ofNat 6))], 110, [kvR 102, kvI 0, kvI 1, kvI 2, kvN 191, kvN 6, kvN 1, kvI 3], []), ([], []), (6, [(-1, 3)]))
theorem ks369 : aseg kS krf kB [kE43, kE89, kE305] (ksp [(192, 200, 7, 0, 7, 0)]) kE369 [kC369_0, kC369_1, kC369_2, kC369_3, kC369_4] 30000 (none) = true := by decide +kernel
theorem ks369_0 : aseg kS krf kB [kE43, kE89, kE305] (ksp [(192, 200, 7, 0, 7, 0)]) kE369 [kC369_0, kC369_1, kC369_2, kC369_3, kC369_4] 30000 (some kC369_0) = true := by decide +kernel
theorem ks369_1 : aseg kS krf kB [kE43, kE89, kE305] (ksp [(192, 200, 7, 0, 7, 0)]) kE369 [kC369_0, kC369_1, kC369_2, kC369_3, kC369_4] 30000 (some kC369_1) = true := by decide +kernel
theorem ks369_2 : aseg kS krf kB [kE43, kE89, kE305] (ksp [(192, 200, 7, 0, 7, 0)]) kE369 [kC369_0, kC369_1, kC369_2, kC369_3, kC369_4] 30000 (some kC369_2) = true := by decide +kernel
theorem ks369_3 : aseg kS krf kB [kE43, kE89, kE305] (ksp [(192, 200, 7, 0, 7, 0)]) kE369 [kC369_0, kC369_1, kC369_2, kC369_3, kC369_4] 30000 (some kC369_3) = true := by decide +kernel
theorem ks369_4 : aseg kS krf kB [kE43, kE89, kE305] (ksp [(192, 200, 7, 0, 7, 0)]) kE369 [kC369_0, kC369_1, kC369_2, kC369_3, kC369_4] 30000 (some kC369_4) = true := by decide +kernel
theorem kok369 : aOK kS krf kB kE369 := aOK_of (kal1 kok43 (kal1 kok89 (kal1 kok305 kal0))) (kcl1 ks369_0 (kcl1 ks369_1 (kcl1 ks369_2 (kcl1 ks369_3 (kcl1 ks369_4 kcl0))))) ks369
/-- ColdShodModel.triesWay(IIIII)V -/
def kE370 : aE := (192, 48, ([kvB 0 7, kvB 0 7, kvB 0 7], [], 0, [kvR 102, kvI 0, kvI 1, kvI 2, kvN 190, kvN 5, none, none], []), ([], none), ([], [], none, ([], [])), kvW63)
def kC370_0 : aC := (([kvB 0 7, kvB 0 7, kvB 0 7, kvB 0 1, kvB 0 5], [], 16, [kvR 102, kvI 0, kvI 1, kvI 2, kvN 190, kvN 5, kvI 3, kvI 4], []), ([], []), (337, [(-1, 4)]))
def kC370_1 : aC := (([kvB 0 7, kvB 0 7, kvB 0 7, kvB 0 12], [], 141, [kvR 102, kvI 0, kvI 1, kvI 2, kvN 190, kvN 5, kvI 3, none], []), ([], []), (141, [(-11, 3)]))
def kC370_2 : aC := (([kvB 0 7, kvB 0 7, kvB 0 7, kvB 0 11, (.negSucc 0, .ofNat 7), kvB 1 12], [(102, 8, .inl (5, .ofNat 0))], 195, [kvR 102, kvI 0, kvI 1, kvI 2, kvN 190, kvN 5, kvI 3, kvI 4], []), ([], []), (139, [(-11, 3), (-1, 4)]))
def kC370_3 : aC := (([kvB 0 7, kvB 0 7, kvB 0 7, (.negSucc 0, .ofNat 2147483647)], [(102, 29, .inl (3, .ofNat 0))], 91, [kvR 102, kvI 0, kvI 1, kvI 2, kvN 190, kvN 5, kvN 1, kvN 5], []), ([], []), (166, []))
def kC370_4 : aC := (([kvB 0 7, kvB 0 7, kvB 0 7, kvB 0 5, (.negSucc 0, .ofNat 99)], [(102, 29, .inl (4, .ofNat 0)), (102, 30, .inr (.ofNat 5))], 110, [kvR 102, kvI 0, kvI 1, kvI 2, kvN 190, kvN 5, kvN 1, kvI 3], []), ([], []), (5, [(-1, 3)]))
theorem ks370 : aseg kS krf kB [kE43, kE89, kE306, kE369] (ksp [(192, 200, 7, 0, 7, 0)]) kE370 [kC370_0, kC370_1, kC370_2, kC370_3, kC370_4] 30000 (none) = true := by decide +kernel
theorem ks370_0 : aseg kS krf kB [kE43, kE89, kE306, kE369] (ksp [(192, 200, 7, 0, 7, 0)]) kE370 [kC370_0, kC370_1, kC370_2, kC370_3, kC370_4] 30000 (some kC370_0) = true := by decide +kernel
theorem ks370_1 : aseg kS krf kB [kE43, kE89, kE306, kE369] (ksp [(192, 200, 7, 0, 7, 0)]) kE370 [kC370_0, kC370_1, kC370_2, kC370_3, kC370_4] 30000 (some kC370_1) = true := by decide +kernel
theorem ks370_2 : aseg kS krf kB [kE43, kE89, kE306, kE369] (ksp [(192, 200, 7, 0, 7, 0)]) kE370 [kC370_0, kC370_1, kC370_2, kC370_3, kC370_4] 30000 (some kC370_2) = true := by decide +kernel
theorem ks370_3 : aseg kS krf kB [kE43, kE89, kE306, kE369] (ksp [(192, 200, 7, 0, 7, 0)]) kE370 [kC370_0, kC370_1, kC370_2, kC370_3, kC370_4] 30000 (some kC370_3) = true := by decide +kernel
theorem ks370_4 : aseg kS krf kB [kE43, kE89, kE306, kE369] (ksp [(192, 200, 7, 0, 7, 0)]) kE370 [kC370_0, kC370_1, kC370_2, kC370_3, kC370_4] 30000 (some kC370_4) = true := by decide +kernel
theorem kok370 : aOK kS krf kB kE370 := aOK_of (kal1 kok43 (kal1 kok89 (kal1 kok306 (kal1 kok369 kal0)))) (kcl1 ks370_0 (kcl1 ks370_1 (kcl1 ks370_2 (kcl1 ks370_3 (kcl1 ks370_4 kcl0))))) ks370
/-- ColdShodModel.triesWay(IIIII)V -/
def kE371 : aE := (192, 48, ([kvB 0 7, kvB 0 7, kvB 0 7], [], 0, [kvR 102, kvI 0, kvI 1, kvI 2, kvN 189, kvN 5, none, none], []), ([], none), ([], [], none, ([], [])), kvW63)
def kC371_0 : aC := (([kvB 0 7, kvB 0 7, kvB 0 7, kvB 0 1, kvB 0 5], [], 16, [kvR 102, kvI 0, kvI 1, kvI 2, kvN 189, kvN 5, kvI 3, kvI 4], []), ([], []), (337, [(-1, 4)]))
def kC371_1 : aC := (([kvB 0 7, kvB 0 7, kvB 0 7, kvB 0 12], [], 141, [kvR 102, kvI 0, kvI 1, kvI 2, kvN 189, kvN 5, kvI 3, none], []), ([], []), (141, [(-11, 3)]))
def kC371_2 : aC := (([kvB 0 7, kvB 0 7, kvB 0 7, kvB 0 11, (.negSucc 0, .ofNat 7), kvB 1 12], [(102, 8, .inl (5, .ofNat 0))], 195, [kvR 102, kvI 0, kvI 1, kvI 2, kvN 189, kvN 5, kvI 3, kvI 4], []), ([], []), (139, [(-11, 3), (-1, 4)]))
def kC371_3 : aC := (([kvB 0 7, kvB 0 7, kvB 0 7, (.negSucc 0, .ofNat 2147483647)], [(102, 29, .inl (3, .ofNat 0))], 91, [kvR 102, kvI 0, kvI 1, kvI 2, kvN 189, kvN 5, kvN 1, kvN 5], []), ([], []), (166, []))
def kC371_4 : aC := (([kvB 0 7, kvB 0 7, kvB 0 7, kvB 0 5, (.negSucc 0, .ofNat 99)], [(102, 29, .inl (4, .ofNat 0)), (102, 30, .inr (.ofNat 5))], 110, [kvR 102, kvI 0, kvI 1, kvI 2, kvN 189, kvN 5, kvN 1, kvI 3], []), ([], []), (5, [(-1, 3)]))
theorem ks371 : aseg kS krf kB [kE43, kE89, kE307, kE369] (ksp [(192, 200, 7, 0, 7, 0)]) kE371 [kC371_0, kC371_1, kC371_2, kC371_3, kC371_4] 30000 (none) = true := by decide +kernel
theorem ks371_0 : aseg kS krf kB [kE43, kE89, kE307, kE369] (ksp [(192, 200, 7, 0, 7, 0)]) kE371 [kC371_0, kC371_1, kC371_2, kC371_3, kC371_4] 30000 (some kC371_0) = true := by decide +kernel
theorem ks371_1 : aseg kS krf kB [kE43, kE89, kE307, kE369] (ksp [(192, 200, 7, 0, 7, 0)]) kE371 [kC371_0, kC371_1, kC371_2, kC371_3, kC371_4] 30000 (some kC371_1) = true := by decide +kernel
theorem ks371_2 : aseg kS krf kB [kE43, kE89, kE307, kE369] (ksp [(192, 200, 7, 0, 7, 0)]) kE371 [kC371_0, kC371_1, kC371_2, kC371_3, kC371_4] 30000 (some kC371_2) = true := by decide +kernel
theorem ks371_3 : aseg kS krf kB [kE43, kE89, kE307, kE369] (ksp [(192, 200, 7, 0, 7, 0)]) kE371 [kC371_0, kC371_1, kC371_2, kC371_3, kC371_4] 30000 (some kC371_3) = true := by decide +kernel
theorem ks371_4 : aseg kS krf kB [kE43, kE89, kE307, kE369] (ksp [(192, 200, 7, 0, 7, 0)]) kE371 [kC371_0, kC371_1, kC371_2, kC371_3, kC371_4] 30000 (some kC371_4) = true := by decide +kernel
theorem kok371 : aOK kS krf kB kE371 := aOK_of (kal1 kok43 (kal1 kok89 (kal1 kok307 (kal1 kok369 kal0)))) (kcl1 ks371_0 (kcl1 ks371_1 (kcl1 ks371_2 (kcl1 ks371_3 (kcl1 ks371_4 kcl0))))) ks371
