/-! ENTRIES and their checks: printed by a program (wip/ai). -/
/-- ColdShodModel.triesWay(IIIII)V -/
def kE515 : aE := (192, 53, ([kvB 0 7, kvB 0 7, kvB 0 7], [], 0, [kvR 102, kvI 0, kvI 1, kvI 2, kvN 32, kvN 0, none, none], []), ([], none), ([], [], none, ([], [])), kvW65)
def kC515_0 : aC := (([kvB 0 7, kvB 0 7, kvB 0 7], [], 16, [kvR 102, kvI 0, kvI 1, kvI 2, kvN 32, kvN 0, kvN 1, kvN 0], []), ([], []), (166, []))
def kC515_1 : aC := (([kvB 0 7, kvB 0 7, kvB 0 7, kvB 0 12], [], 141, [kvR 102, kvI 0, kvI 1, kvI 2, kvN 32, kvN 0, kvI 3, none], []), ([], []), (141, [(-11, 3)]))
def kC515_2 : aC := (([kvB 0 7, kvB 0 7, kvB 0 7, (.negSucc 0, .ofNat 99)], [(102, 29, .inl (3, .ofNat 0)), (102, 30, .inr (.ofNat 0))], 110, [kvR 102, kvI 0, kvI 1, kvI 2, kvN 32, kvN 0, kvN 1, kvN 0], []), ([], []), (0, []))
def kC515_3 : aC := (([kvB 0 7, kvB 0 7, kvB 0 7, kvB 0 11, (.negSucc 0, .ofNat 7), kvB 1 12], [(102, 8, .inl (5, .ofNat 0))], 195, [kvR 102, kvI 0, kvI 1, kvI 2, kvN 32, kvN 0, kvI 3, kvI 4], []), ([], []), (139, [(-11, 3), (-1, 4)]))
theorem ks515 : aseg kS krf kB [kE43, kE387, kE451, kE499, kE507, kE511, kE513, kE514] (ksp [(192, 200, 7, 0, 7, 0)]) kE515 [kC515_0, kC515_1, kC515_2, kC515_3] 30000 (none) = true := by decide +kernel
theorem ks515_0 : aseg kS krf kB [kE43, kE387, kE451, kE499, kE507, kE511, kE513, kE514] (ksp [(192, 200, 7, 0, 7, 0)]) kE515 [kC515_0, kC515_1, kC515_2, kC515_3] 30000 (some kC515_0) = true := by decide +kernel
theorem ks515_1 : aseg kS krf kB [kE43, kE387, kE451, kE499, kE507, kE511, kE513, kE514] (ksp [(192, 200, 7, 0, 7, 0)]) kE515 [kC515_0, kC515_1, kC515_2, kC515_3] 30000 (some kC515_1) = true := by decide +kernel
theorem ks515_2 : aseg kS krf kB [kE43, kE387, kE451, kE499, kE507, kE511, kE513, kE514] (ksp [(192, 200, 7, 0, 7, 0)]) kE515 [kC515_0, kC515_1, kC515_2, kC515_3] 30000 (some kC515_2) = true := by decide +kernel
theorem ks515_3 : aseg kS krf kB [kE43, kE387, kE451, kE499, kE507, kE511, kE513, kE514] (ksp [(192, 200, 7, 0, 7, 0)]) kE515 [kC515_0, kC515_1, kC515_2, kC515_3] 30000 (some kC515_3) = true := by decide +kernel
theorem kok515 : aOK kS krf kB kE515 := aOK_of (kal1 kok43 (kal1 kok387 (kal1 kok451 (kal1 kok499 (kal1 kok507 (kal1 kok511 (kal1 kok513 (kal1 kok514 kal0)))))))) (kcl1 ks515_0 (kcl1 ks515_1 (kcl1 ks515_2 (kcl1 ks515_3 kcl0)))) ks515
/-- ColdShodModel.triesWay(IIIII)V -/
def kE516 : aE := (192, 49, ([kvB 0 7, kvB 0 7, kvB 0 7], [], 0, [kvR 102, kvI 0, kvI 1, kvI 2, kvN 31, kvN 4, none, none], []), ([], none), ([], [], none, ([], [])), kvW61)
def kC516_0 : aC := (([kvB 0 7, kvB 0 7, kvB 0 7, kvB 0 1, kvB 0 4], [], 16, [kvR 102, kvI 0, kvI 1, kvI 2, kvN 31, kvN 4, kvI 3, kvI 4], []), ([], []), (170, [(-1, 4)]))
def kC516_1 : aC := (([kvB 0 7, kvB 0 7, kvB 0 7, kvB 0 12], [], 141, [kvR 102, kvI 0, kvI 1, kvI 2, kvN 31, kvN 4, kvI 3, none], []), ([], []), (141, [(-11, 3)]))
def kC516_2 : aC := (([kvB 0 7, kvB 0 7, kvB 0 7, kvB 0 11, (.negSucc 0, .ofNat 7), kvB 1 12], [(102, 8, .inl (5, .ofNat 0))], 195, [kvR 102, kvI 0, kvI 1, kvI 2, kvN 31, kvN 4, kvI 3, kvI 4], []), ([], []), (139, [(-11, 3), (-1, 4)]))
def kC516_3 : aC := (([kvB 0 7, kvB 0 7, kvB 0 7, kvB 0 4, (.negSucc 0, .ofNat 99)], [(102, 29, .inl (4, .ofNat 0)), (102, 30, .inr (.ofNat 4))], 110, [kvR 102, kvI 0, kvI 1, kvI 2, kvN 31, kvN 4, kvN 1, kvI 3], []), ([], []), (4, [(-1, 3)]))
theorem ks516 : aseg kS krf kB [kE43, kE87, kE388, kE452, kE484] (ksp [(192, 200, 7, 0, 7, 0)]) kE516 [kC516_0, kC516_1, kC516_2, kC516_3] 30000 (none) = true := by decide +kernel
theorem ks516_0 : aseg kS krf kB [kE43, kE87, kE388, kE452, kE484] (ksp [(192, 200, 7, 0, 7, 0)]) kE516 [kC516_0, kC516_1, kC516_2, kC516_3] 30000 (some kC516_0) = true := by decide +kernel
theorem ks516_1 : aseg kS krf kB [kE43, kE87, kE388, kE452, kE484] (ksp [(192, 200, 7, 0, 7, 0)]) kE516 [kC516_0, kC516_1, kC516_2, kC516_3] 30000 (some kC516_1) = true := by decide +kernel
theorem ks516_2 : aseg kS krf kB [kE43, kE87, kE388, kE452, kE484] (ksp [(192, 200, 7, 0, 7, 0)]) kE516 [kC516_0, kC516_1, kC516_2, kC516_3] 30000 (some kC516_2) = true := by decide +kernel
theorem ks516_3 : aseg kS krf kB [kE43, kE87, kE388, kE452, kE484] (ksp [(192, 200, 7, 0, 7, 0)]) kE516 [kC516_0, kC516_1, kC516_2, kC516_3] 30000 (some kC516_3) = true := by decide +kernel
theorem kok516 : aOK kS krf kB kE516 := aOK_of (kal1 kok43 (kal1 kok87 (kal1 kok388 (kal1 kok452 (kal1 kok484 kal0))))) (kcl1 ks516_0 (kcl1 ks516_1 (kcl1 ks516_2 (kcl1 ks516_3 kcl0)))) ks516
/-- ColdShodModel.triesWay(IIIII)V -/
def kE517 : aE := (192, 50, ([kvB 0 7, kvB 0 7, kvB 0 7], [], 0, [kvR 102, kvI 0, kvI 1, kvI 2, kvN 30, kvN 3, none, none], []), ([], none), ([], [], none, ([], [])), kvW62)
def kC517_0 : aC := (([kvB 0 7, kvB 0 7, kvB 0 7, kvB 0 1, kvB 0 3], [], 16, [kvR 102, kvI 0, kvI 1, kvI 2, kvN 30, kvN 3, kvI 3, kvI 4], []), ([], []), (169, [(-1, 4)]))
def kC517_1 : aC := (([kvB 0 7, kvB 0 7, kvB 0 7, kvB 0 12], [], 141, [kvR 102, kvI 0, kvI 1, kvI 2, kvN 30, kvN 3, kvI 3, none], []), ([], []), (141, [(-11, 3)]))
def kC517_2 : aC := (([kvB 0 7, kvB 0 7, kvB 0 7, kvB 0 11, (.negSucc 0, .ofNat 7), kvB 1 12], [(102, 8, .inl (5, .ofNat 0))], 195, [kvR 102, kvI 0, kvI 1, kvI 2, kvN 30, kvN 3, kvI 3, kvI 4], []), ([], []), (139, [(-11, 3), (-1, 4)]))
def kC517_3 : aC := (([kvB 0 7, kvB 0 7, kvB 0 7, kvB 0 3, (.negSucc 0, .ofNat 99)], [(102, 29, .inl (4, .ofNat 0)), (102, 30, .inr (.ofNat 3))], 110, [kvR 102, kvI 0, kvI 1, kvI 2, kvN 30, kvN 3, kvN 1, kvI 3], []), ([], []), (3, [(-1, 3)]))
theorem ks517 : aseg kS krf kB [kE43, kE87, kE389, kE453, kE485, kE516] (ksp [(192, 200, 7, 0, 7, 0)]) kE517 [kC517_0, kC517_1, kC517_2, kC517_3] 30000 (none) = true := by decide +kernel
theorem ks517_0 : aseg kS krf kB [kE43, kE87, kE389, kE453, kE485, kE516] (ksp [(192, 200, 7, 0, 7, 0)]) kE517 [kC517_0, kC517_1, kC517_2, kC517_3] 30000 (some kC517_0) = true := by decide +kernel
theorem ks517_1 : aseg kS krf kB [kE43, kE87, kE389, kE453, kE485, kE516] (ksp [(192, 200, 7, 0, 7, 0)]) kE517 [kC517_0, kC517_1, kC517_2, kC517_3] 30000 (some kC517_1) = true := by decide +kernel
theorem ks517_2 : aseg kS krf kB [kE43, kE87, kE389, kE453, kE485, kE516] (ksp [(192, 200, 7, 0, 7, 0)]) kE517 [kC517_0, kC517_1, kC517_2, kC517_3] 30000 (some kC517_2) = true := by decide +kernel
theorem ks517_3 : aseg kS krf kB [kE43, kE87, kE389, kE453, kE485, kE516] (ksp [(192, 200, 7, 0, 7, 0)]) kE517 [kC517_0, kC517_1, kC517_2, kC517_3] 30000 (some kC517_3) = true := by decide +kernel
theorem kok517 : aOK kS krf kB kE517 := aOK_of (kal1 kok43 (kal1 kok87 (kal1 kok389 (kal1 kok453 (kal1 kok485 (kal1 kok516 kal0)))))) (kcl1 ks517_0 (kcl1 ks517_1 (kcl1 ks517_2 (kcl1 ks517_3 kcl0)))) ks517
/-- ColdShodModel.triesWay(IIIII)V -/
def kE518 : aE := (192, 50, ([kvB 0 7, kvB 0 7, kvB 0 7], [], 0, [kvR 102, kvI 0, kvI 1, kvI 2, kvN 29, kvN 3, none, none], []), ([], none), ([], [], none, ([], [])), kvW62)
def kC518_0 : aC := (([kvB 0 7, kvB 0 7, kvB 0 7, kvB 0 1, kvB 0 3], [], 16, [kvR 102, kvI 0, kvI 1, kvI 2, kvN 29, kvN 3, kvI 3, kvI 4], []), ([], []), (169, [(-1, 4)]))
def kC518_1 : aC := (([kvB 0 7, kvB 0 7, kvB 0 7, kvB 0 12], [], 141, [kvR 102, kvI 0, kvI 1, kvI 2, kvN 29, kvN 3, kvI 3, none], []), ([], []), (141, [(-11, 3)]))
def kC518_2 : aC := (([kvB 0 7, kvB 0 7, kvB 0 7, kvB 0 11, (.negSucc 0, .ofNat 7), kvB 1 12], [(102, 8, .inl (5, .ofNat 0))], 195, [kvR 102, kvI 0, kvI 1, kvI 2, kvN 29, kvN 3, kvI 3, kvI 4], []), ([], []), (139, [(-11, 3), (-1, 4)]))
def kC518_3 : aC := (([kvB 0 7, kvB 0 7, kvB 0 7, kvB 0 3, (.negSucc 0, .ofNat 99)], [(102, 29, .inl (4, .ofNat 0)), (102, 30, .inr (.ofNat 3))], 110, [kvR 102, kvI 0, kvI 1, kvI 2, kvN 29, kvN 3, kvN 1, kvI 3], []), ([], []), (3, [(-1, 3)]))
theorem ks518 : aseg kS krf kB [kE43, kE87, kE390, kE454, kE486, kE516] (ksp [(192, 200, 7, 0, 7, 0)]) kE518 [kC518_0, kC518_1, kC518_2, kC518_3] 30000 (none) = true := by decide +kernel
theorem ks518_0 : aseg kS krf kB [kE43, kE87, kE390, kE454, kE486, kE516] (ksp [(192, 200, 7, 0, 7, 0)]) kE518 [kC518_0, kC518_1, kC518_2, kC518_3] 30000 (some kC518_0) = true := by decide +kernel
theorem ks518_1 : aseg kS krf kB [kE43, kE87, kE390, kE454, kE486, kE516] (ksp [(192, 200, 7, 0, 7, 0)]) kE518 [kC518_0, kC518_1, kC518_2, kC518_3] 30000 (some kC518_1) = true := by decide +kernel
theorem ks518_2 : aseg kS krf kB [kE43, kE87, kE390, kE454, kE486, kE516] (ksp [(192, 200, 7, 0, 7, 0)]) kE518 [kC518_0, kC518_1, kC518_2, kC518_3] 30000 (some kC518_2) = true := by decide +kernel
theorem ks518_3 : aseg kS krf kB [kE43, kE87, kE390, kE454, kE486, kE516] (ksp [(192, 200, 7, 0, 7, 0)]) kE518 [kC518_0, kC518_1, kC518_2, kC518_3] 30000 (some kC518_3) = true := by decide +kernel
theorem kok518 : aOK kS krf kB kE518 := aOK_of (kal1 kok43 (kal1 kok87 (kal1 kok390 (kal1 kok454 (kal1 kok486 (kal1 kok516 kal0)))))) (kcl1 ks518_0 (kcl1 ks518_1 (kcl1 ks518_2 (kcl1 ks518_3 kcl0)))) ks518
/-- ColdShodModel.triesWay(IIIII)V -/
def kE519 : aE := (192, 51, ([kvB 0 7, kvB 0 7, kvB 0 7], [], 0, [kvR 102, kvI 0, kvI 1, kvI 2, kvN 28, kvN 2, none, none], []), ([], none), ([], [], none, ([], [])), kvW63)
def kC519_0 : aC := (([kvB 0 7, kvB 0 7, kvB 0 7, kvB 0 1, kvB 0 2], [], 16, [kvR 102, kvI 0, kvI 1, kvI 2, kvN 28, kvN 2, kvI 3, kvI 4], []), ([], []), (168, [(-1, 4)]))
def kC519_1 : aC := (([kvB 0 7, kvB 0 7, kvB 0 7, kvB 0 12], [], 141, [kvR 102, kvI 0, kvI 1, kvI 2, kvN 28, kvN 2, kvI 3, none], []), ([], []), (141, [(-11, 3)]))
def kC519_2 : aC := (([kvB 0 7, kvB 0 7, kvB 0 7, kvB 0 11, (.negSucc 0, .ofNat 7), kvB 1 12], [(102, 8, .inl (5, .ofNat 0))], 195, [kvR 102, kvI 0, kvI 1, kvI 2, kvN 28, kvN 2, kvI 3, kvI 4], []), ([], []), (139, [(-11, 3), (-1, 4)]))
def kC519_3 : aC := (([kvB 0 7, kvB 0 7, kvB 0 7, kvB 0 2, (.negSucc 0, .ofNat 99)], [(102, 29, .inl (4, .ofNat 0)), (102, 30, .inr (.ofNat 2))], 110, [kvR 102, kvI 0, kvI 1, kvI 2, kvN 28, kvN 2, kvN 1, kvI 3], []), ([], []), (2, [(-1, 3)]))
theorem ks519 : aseg kS krf kB [kE43, kE87, kE391, kE455, kE487, kE517, kE518] (ksp [(192, 200, 7, 0, 7, 0)]) kE519 [kC519_0, kC519_1, kC519_2, kC519_3] 30000 (none) = true := by decide +kernel
theorem ks519_0 : aseg kS krf kB [kE43, kE87, kE391, kE455, kE487, kE517, kE518] (ksp [(192, 200, 7, 0, 7, 0)]) kE519 [kC519_0, kC519_1, kC519_2, kC519_3] 30000 (some kC519_0) = true := by decide +kernel
theorem ks519_1 : aseg kS krf kB [kE43, kE87, kE391, kE455, kE487, kE517, kE518] (ksp [(192, 200, 7, 0, 7, 0)]) kE519 [kC519_0, kC519_1, kC519_2, kC519_3] 30000 (some kC519_1) = true := by decide +kernel
theorem ks519_2 : aseg kS krf kB [kE43, kE87, kE391, kE455, kE487, kE517, kE518] (ksp [(192, 200, 7, 0, 7, 0)]) kE519 [kC519_0, kC519_1, kC519_2, kC519_3] 30000 (some kC519_2) = true := by decide +kernel
theorem ks519_3 : aseg kS krf kB [kE43, kE87, kE391, kE455, kE487, kE517, kE518] (ksp [(192, 200, 7, 0, 7, 0)]) kE519 [kC519_0, kC519_1, kC519_2, kC519_3] 30000 (some kC519_3) = true := by decide +kernel
theorem kok519 : aOK kS krf kB kE519 := aOK_of (kal1 kok43 (kal1 kok87 (kal1 kok391 (kal1 kok455 (kal1 kok487 (kal1 kok517 (kal1 kok518 kal0))))))) (kcl1 ks519_0 (kcl1 ks519_1 (kcl1 ks519_2 (kcl1 ks519_3 kcl0)))) ks519
/-- ColdShodModel.triesWay(IIIII)V -/
def kE520 : aE := (192, 50, ([kvB 0 7, kvB 0 7, kvB 0 7], [], 0, [kvR 102, kvI 0, kvI 1, kvI 2, kvN 27, kvN 3, none, none], []), ([], none), ([], [], none, ([], [])), kvW62)
def kC520_0 : aC := (([kvB 0 7, kvB 0 7, kvB 0 7, kvB 0 1, kvB 0 3], [], 16, [kvR 102, kvI 0, kvI 1, kvI 2, kvN 27, kvN 3, kvI 3, kvI 4], []), ([], []), (169, [(-1, 4)]))
def kC520_1 : aC := (([kvB 0 7, kvB 0 7, kvB 0 7, kvB 0 12], [], 141, [kvR 102, kvI 0, kvI 1, kvI 2, kvN 27, kvN 3, kvI 3, none], []), ([], []), (141, [(-11, 3)]))
def kC520_2 : aC := (([kvB 0 7, kvB 0 7, kvB 0 7, kvB 0 11, (.negSucc 0, .ofNat 7), kvB 1 12], [(102, 8, .inl (5, .ofNat 0))], 195, [kvR 102, kvI 0, kvI 1, kvI 2, kvN 27, kvN 3, kvI 3, kvI 4], []), ([], []), (139, [(-11, 3), (-1, 4)]))
def kC520_3 : aC := (([kvB 0 7, kvB 0 7, kvB 0 7, kvB 0 3, (.negSucc 0, .ofNat 99)], [(102, 29, .inl (4, .ofNat 0)), (102, 30, .inr (.ofNat 3))], 110, [kvR 102, kvI 0, kvI 1, kvI 2, kvN 27, kvN 3, kvN 1, kvI 3], []), ([], []), (3, [(-1, 3)]))
theorem ks520 : aseg kS krf kB [kE43, kE87, kE392, kE456, kE488, kE516] (ksp [(192, 200, 7, 0, 7, 0)]) kE520 [kC520_0, kC520_1, kC520_2, kC520_3] 30000 (none) = true := by decide +kernel
theorem ks520_0 : aseg kS krf kB [kE43, kE87, kE392, kE456, kE488, kE516] (ksp [(192, 200, 7, 0, 7, 0)]) kE520 [kC520_0, kC520_1, kC520_2, kC520_3] 30000 (some kC520_0) = true := by decide +kernel
theorem ks520_1 : aseg kS krf kB [kE43, kE87, kE392, kE456, kE488, kE516] (ksp [(192, 200, 7, 0, 7, 0)]) kE520 [kC520_0, kC520_1, kC520_2, kC520_3] 30000 (some kC520_1) = true := by decide +kernel
theorem ks520_2 : aseg kS krf kB [kE43, kE87, kE392, kE456, kE488, kE516] (ksp [(192, 200, 7, 0, 7, 0)]) kE520 [kC520_0, kC520_1, kC520_2, kC520_3] 30000 (some kC520_2) = true := by decide +kernel
theorem ks520_3 : aseg kS krf kB [kE43, kE87, kE392, kE456, kE488, kE516] (ksp [(192, 200, 7, 0, 7, 0)]) kE520 [kC520_0, kC520_1, kC520_2, kC520_3] 30000 (some kC520_3) = true := by decide +kernel
theorem kok520 : aOK kS krf kB kE520 := aOK_of (kal1 kok43 (kal1 kok87 (kal1 kok392 (kal1 kok456 (kal1 kok488 (kal1 kok516 kal0)))))) (kcl1 ks520_0 (kcl1 ks520_1 (kcl1 ks520_2 (kcl1 ks520_3 kcl0)))) ks520
/-- ColdShodModel.triesWay(IIIII)V -/
def kE521 : aE := (192, 51, ([kvB 0 7, kvB 0 7, kvB 0 7], [], 0, [kvR 102, kvI 0, kvI 1, kvI 2, kvN 26, kvN 2, none, none], []), ([], none), ([], [], none, ([], [])), kvW63)
def kC521_0 : aC := (([kvB 0 7, kvB 0 7, kvB 0 7, kvB 0 1, kvB 0 2], [], 16, [kvR 102, kvI 0, kvI 1, kvI 2, kvN 26, kvN 2, kvI 3, kvI 4], []), ([], []), (168, [(-1, 4)]))
def kC521_1 : aC := (([kvB 0 7, kvB 0 7, kvB 0 7, kvB 0 12], [], 141, [kvR 102, kvI 0, kvI 1, kvI 2, kvN 26, kvN 2, kvI 3, none], []), ([], []), (141, [(-11, 3)]))
def kC521_2 : aC := (([kvB 0 7, kvB 0 7, kvB 0 7, kvB 0 11, (.negSucc 0, .ofNat 7), kvB 1 12], [(102, 8, .inl (5, .ofNat 0))], 195, [kvR 102, kvI 0, kvI 1, kvI 2, kvN 26, kvN 2, kvI 3, kvI 4], []), ([], []), (139, [(-11, 3), (-1, 4)]))
def kC521_3 : aC := (([kvB 0 7, kvB 0 7, kvB 0 7, kvB 0 2, (.negSucc 0, .ofNat 99)], [(102, 29, .inl (4, .ofNat 0)), (102, 30, .inr (.ofNat 2))], 110, [kvR 102, kvI 0, kvI 1, kvI 2, kvN 26, kvN 2, kvN 1, kvI 3], []), ([], []), (2, [(-1, 3)]))
theorem ks521 : aseg kS krf kB [kE43, kE87, kE393, kE457, kE489, kE517, kE520] (ksp [(192, 200, 7, 0, 7, 0)]) kE521 [kC521_0, kC521_1, kC521_2, kC521_3] 30000 (none) = true := by decide +kernel
theorem ks521_0 : aseg kS krf kB [kE43, kE87, kE393, kE457, kE489, kE517, kE520] (ksp [(192, 200, 7, 0, 7, 0)]) kE521 [kC521_0, kC521_1, kC521_2, kC521_3] 30000 (some kC521_0) = true := by decide +kernel
theorem ks521_1 : aseg kS krf kB [kE43, kE87, kE393, kE457, kE489, kE517, kE520] (ksp [(192, 200, 7, 0, 7, 0)]) kE521 [kC521_0, kC521_1, kC521_2, kC521_3] 30000 (some kC521_1) = true := by decide +kernel
theorem ks521_2 : aseg kS krf kB [kE43, kE87, kE393, kE457, kE489, kE517, kE520] (ksp [(192, 200, 7, 0, 7, 0)]) kE521 [kC521_0, kC521_1, kC521_2, kC521_3] 30000 (some kC521_2) = true := by decide +kernel
theorem ks521_3 : aseg kS krf kB [kE43, kE87, kE393, kE457, kE489, kE517, kE520] (ksp [(192, 200, 7, 0, 7, 0)]) kE521 [kC521_0, kC521_1, kC521_2, kC521_3] 30000 (some kC521_3) = true := by decide +kernel
theorem kok521 : aOK kS krf kB kE521 := aOK_of (kal1 kok43 (kal1 kok87 (kal1 kok393 (kal1 kok457 (kal1 kok489 (kal1 kok517 (kal1 kok520 kal0))))))) (kcl1 ks521_0 (kcl1 ks521_1 (kcl1 ks521_2 (kcl1 ks521_3 kcl0)))) ks521
/-- ColdShodModel.triesWay(IIIII)V -/
def kE522 : aE := (192, 51, ([kvB 0 7, kvB 0 7, kvB 0 7], [], 0, [kvR 102, kvI 0, kvI 1, kvI 2, kvN 25, kvN 2, none, none], []), ([], none), ([], [], none, ([], [])), kvW63)
def kC522_0 : aC := (([kvB 0 7, kvB 0 7, kvB 0 7, kvB 0 1, kvB 0 2], [], 16, [kvR 102, kvI 0, kvI 1, kvI 2, kvN 25, kvN 2, kvI 3, kvI 4], []), ([], []), (168, [(-1, 4)]))
def kC522_1 : aC := (([kvB 0 7, kvB 0 7, kvB 0 7, kvB 0 12], [], 141, [kvR 102, kvI 0, kvI 1, kvI 2, kvN 25, kvN 2, kvI 3, none], []), ([], []), (141, [(-11, 3)]))
def kC522_2 : aC := (([kvB 0 7, kvB 0 7, kvB 0 7, kvB 0 11, (.negSucc 0, .ofNat 7), kvB 1 12], [(102, 8, .inl (5, .ofNat 0))], 195, [kvR 102, kvI 0, kvI 1, kvI 2, kvN 25, kvN 2, kvI 3, kvI 4], []), ([], []), (139, [(-11, 3), (-1, 4)]))
def kC522_3 : aC := (([kvB 0 7, kvB 0 7, kvB 0 7, kvB 0 2, (.negSucc 0, .ofNat 99)], [(102, 29, .inl (4, .ofNat 0)), (102, 30, .inr (.ofNat 2))], 110, [kvR 102, kvI 0, kvI 1, kvI 2, kvN 25, kvN 2, kvN 1, kvI 3], []), ([], []), (2, [(-1, 3)]))
theorem ks522 : aseg kS krf kB [kE43, kE87, kE394, kE458, kE490, kE518, kE520] (ksp [(192, 200, 7, 0, 7, 0)]) kE522 [kC522_0, kC522_1, kC522_2, kC522_3] 30000 (none) = true := by decide +kernel
theorem ks522_0 : aseg kS krf kB [kE43, kE87, kE394, kE458, kE490, kE518, kE520] (ksp [(192, 200, 7, 0, 7, 0)]) kE522 [kC522_0, kC522_1, kC522_2, kC522_3] 30000 (some kC522_0) = true := by decide +kernel
theorem ks522_1 : aseg kS krf kB [kE43, kE87, kE394, kE458, kE490, kE518, kE520] (ksp [(192, 200, 7, 0, 7, 0)]) kE522 [kC522_0, kC522_1, kC522_2, kC522_3] 30000 (some kC522_1) = true := by decide +kernel
theorem ks522_2 : aseg kS krf kB [kE43, kE87, kE394, kE458, kE490, kE518, kE520] (ksp [(192, 200, 7, 0, 7, 0)]) kE522 [kC522_0, kC522_1, kC522_2, kC522_3] 30000 (some kC522_2) = true := by decide +kernel
theorem ks522_3 : aseg kS krf kB [kE43, kE87, kE394, kE458, kE490, kE518, kE520] (ksp [(192, 200, 7, 0, 7, 0)]) kE522 [kC522_0, kC522_1, kC522_2, kC522_3] 30000 (some kC522_3) = true := by decide +kernel
theorem kok522 : aOK kS krf kB kE522 := aOK_of (kal1 kok43 (kal1 kok87 (kal1 kok394 (kal1 kok458 (kal1 kok490 (kal1 kok518 (kal1 kok520 kal0))))))) (kcl1 ks522_0 (kcl1 ks522_1 (kcl1 ks522_2 (kcl1 ks522_3 kcl0)))) ks522
/-- ColdShodModel.triesWay(IIIII)V -/
def kE523 : aE := (192, 52, ([kvB 0 7, kvB 0 7, kvB 0 7], [], 0, [kvR 102, kvI 0, kvI 1, kvI 2, kvN 24, kvN 1, none, none], []), ([], none), ([], [], none, ([], [])), kvW64)
def kC523_0 : aC := (([kvB 0 7, kvB 0 7, kvB 0 7, kvB 0 1, kvB 0 1], [], 16, [kvR 102, kvI 0, kvI 1, kvI 2, kvN 24, kvN 1, kvI 3, kvI 4], []), ([], []), (167, [(-1, 4)]))
def kC523_1 : aC := (([kvB 0 7, kvB 0 7, kvB 0 7, kvB 0 12], [], 141, [kvR 102, kvI 0, kvI 1, kvI 2, kvN 24, kvN 1, kvI 3, none], []), ([], []), (141, [(-11, 3)]))
def kC523_2 : aC := (([kvB 0 7, kvB 0 7, kvB 0 7, kvB 0 11, (.negSucc 0, .ofNat 7), kvB 1 12], [(102, 8, .inl (5, .ofNat 0))], 195, [kvR 102, kvI 0, kvI 1, kvI 2, kvN 24, kvN 1, kvI 3, kvI 4], []), ([], []), (139, [(-11, 3), (-1, 4)]))
def kC523_3 : aC := (([kvB 0 7, kvB 0 7, kvB 0 7, kvB 0 1, (.negSucc 0, .ofNat 99)], [(102, 29, .inl (4, .ofNat 0)), (102, 30, .inr (.ofNat 1))], 110, [kvR 102, kvI 0, kvI 1, kvI 2, kvN 24, kvN 1, kvN 1, kvI 3], []), ([], []), (1, [(-1, 3)]))
theorem ks523 : aseg kS krf kB [kE43, kE87, kE395, kE459, kE491, kE519, kE521, kE522] (ksp [(192, 200, 7, 0, 7, 0)]) kE523 [kC523_0, kC523_1, kC523_2, kC523_3] 30000 (none) = true := by decide +kernel
theorem ks523_0 : aseg kS krf kB [kE43, kE87, kE395, kE459, kE491, kE519, kE521, kE522] (ksp [(192, 200, 7, 0, 7, 0)]) kE523 [kC523_0, kC523_1, kC523_2, kC523_3] 30000 (some kC523_0) = true := by decide +kernel
theorem ks523_1 : aseg kS krf kB [kE43, kE87, kE395, kE459, kE491, kE519, kE521, kE522] (ksp [(192, 200, 7, 0, 7, 0)]) kE523 [kC523_0, kC523_1, kC523_2, kC523_3] 30000 (some kC523_1) = true := by decide +kernel
theorem ks523_2 : aseg kS krf kB [kE43, kE87, kE395, kE459, kE491, kE519, kE521, kE522] (ksp [(192, 200, 7, 0, 7, 0)]) kE523 [kC523_0, kC523_1, kC523_2, kC523_3] 30000 (some kC523_2) = true := by decide +kernel
theorem ks523_3 : aseg kS krf kB [kE43, kE87, kE395, kE459, kE491, kE519, kE521, kE522] (ksp [(192, 200, 7, 0, 7, 0)]) kE523 [kC523_0, kC523_1, kC523_2, kC523_3] 30000 (some kC523_3) = true := by decide +kernel
theorem kok523 : aOK kS krf kB kE523 := aOK_of (kal1 kok43 (kal1 kok87 (kal1 kok395 (kal1 kok459 (kal1 kok491 (kal1 kok519 (kal1 kok521 (kal1 kok522 kal0)))))))) (kcl1 ks523_0 (kcl1 ks523_1 (kcl1 ks523_2 (kcl1 ks523_3 kcl0)))) ks523
/-- ColdShodModel.triesWay(IIIII)V -/
def kE524 : aE := (192, 50, ([kvB 0 7, kvB 0 7, kvB 0 7], [], 0, [kvR 102, kvI 0, kvI 1, kvI 2, kvN 23, kvN 3, none, none], []), ([], none), ([], [], none, ([], [])), kvW62)
def kC524_0 : aC := (([kvB 0 7, kvB 0 7, kvB 0 7, kvB 0 1, kvB 0 3], [], 16, [kvR 102, kvI 0, kvI 1, kvI 2, kvN 23, kvN 3, kvI 3, kvI 4], []), ([], []), (169, [(-1, 4)]))
def kC524_1 : aC := (([kvB 0 7, kvB 0 7, kvB 0 7, kvB 0 12], [], 141, [kvR 102, kvI 0, kvI 1, kvI 2, kvN 23, kvN 3, kvI 3, none], []), ([], []), (141, [(-11, 3)]))
def kC524_2 : aC := (([kvB 0 7, kvB 0 7, kvB 0 7, kvB 0 11, (.negSucc 0, .ofNat 7), kvB 1 12], [(102, 8, .inl (5, .ofNat 0))], 195, [kvR 102, kvI 0, kvI 1, kvI 2, kvN 23, kvN 3, kvI 3, kvI 4], []), ([], []), (139, [(-11, 3), (-1, 4)]))
def kC524_3 : aC := (([kvB 0 7, kvB 0 7, kvB 0 7, kvB 0 3, (.negSucc 0, .ofNat 99)], [(102, 29, .inl (4, .ofNat 0)), (102, 30, .inr (.ofNat 3))], 110, [kvR 102, kvI 0, kvI 1, kvI 2, kvN 23, kvN 3, kvN 1, kvI 3], []), ([], []), (3, [(-1, 3)]))
theorem ks524 : aseg kS krf kB [kE43, kE87, kE396, kE460, kE492, kE516] (ksp [(192, 200, 7, 0, 7, 0)]) kE524 [kC524_0, kC524_1, kC524_2, kC524_3] 30000 (none) = true := by decide +kernel
theorem ks524_0 : aseg kS krf kB [kE43, kE87, kE396, kE460, kE492, kE516] (ksp [(192, 200, 7, 0, 7, 0)]) kE524 [kC524_0, kC524_1, kC524_2, kC524_3] 30000 (some kC524_0) = true := by decide +kernel
theorem ks524_1 : aseg kS krf kB [kE43, kE87, kE396, kE460, kE492, kE516] (ksp [(192, 200, 7, 0, 7, 0)]) kE524 [kC524_0, kC524_1, kC524_2, kC524_3] 30000 (some kC524_1) = true := by decide +kernel
theorem ks524_2 : aseg kS krf kB [kE43, kE87, kE396, kE460, kE492, kE516] (ksp [(192, 200, 7, 0, 7, 0)]) kE524 [kC524_0, kC524_1, kC524_2, kC524_3] 30000 (some kC524_2) = true := by decide +kernel
theorem ks524_3 : aseg kS krf kB [kE43, kE87, kE396, kE460, kE492, kE516] (ksp [(192, 200, 7, 0, 7, 0)]) kE524 [kC524_0, kC524_1, kC524_2, kC524_3] 30000 (some kC524_3) = true := by decide +kernel
theorem kok524 : aOK kS krf kB kE524 := aOK_of (kal1 kok43 (kal1 kok87 (kal1 kok396 (kal1 kok460 (kal1 kok492 (kal1 kok516 kal0)))))) (kcl1 ks524_0 (kcl1 ks524_1 (kcl1 ks524_2 (kcl1 ks524_3 kcl0)))) ks524
/-- ColdShodModel.triesWay(IIIII)V -/
def kE525 : aE := (192, 51, ([kvB 0 7, kvB 0 7, kvB 0 7], [], 0, [kvR 102, kvI 0, kvI 1, kvI 2, kvN 22, kvN 2, none, none], []), ([], none), ([], [], none, ([], [])), kvW63)
def kC525_0 : aC := (([kvB 0 7, kvB 0 7, kvB 0 7, kvB 0 1, kvB 0 2], [], 16, [kvR 102, kvI 0, kvI 1, kvI 2, kvN 22, kvN 2, kvI 3, kvI 4], []), ([], []), (168, [(-1, 4)]))
def kC525_1 : aC := (([kvB 0 7, kvB 0 7, kvB 0 7, kvB 0 12], [], 141, [kvR 102, kvI 0, kvI 1, kvI 2, kvN 22, kvN 2, kvI 3, none], []), ([], []), (141, [(-11, 3)]))
def kC525_2 : aC := (([kvB 0 7, kvB 0 7, kvB 0 7, kvB 0 11, (.negSucc 0, .ofNat 7), kvB 1 12], [(102, 8, .inl (5, .ofNat 0))], 195, [kvR 102, kvI 0, kvI 1, kvI 2, kvN 22, kvN 2, kvI 3, kvI 4], []), ([], []), (139, [(-11, 3), (-1, 4)]))
def kC525_3 : aC := (([kvB 0 7, kvB 0 7, kvB 0 7, kvB 0 2, (.negSucc 0, .ofNat 99)], [(102, 29, .inl (4, .ofNat 0)), (102, 30, .inr (.ofNat 2))], 110, [kvR 102, kvI 0, kvI 1, kvI 2, kvN 22, kvN 2, kvN 1, kvI 3], []), ([], []), (2, [(-1, 3)]))
theorem ks525 : aseg kS krf kB [kE43, kE87, kE397, kE461, kE493, kE517, kE524] (ksp [(192, 200, 7, 0, 7, 0)]) kE525 [kC525_0, kC525_1, kC525_2, kC525_3] 30000 (none) = true := by decide +kernel
theorem ks525_0 : aseg kS krf kB [kE43, kE87, kE397, kE461, kE493, kE517, kE524] (ksp [(192, 200, 7, 0, 7, 0)]) kE525 [kC525_0, kC525_1, kC525_2, kC525_3] 30000 (some kC525_0) = true := by decide +kernel
theorem ks525_1 : aseg kS krf kB [kE43, kE87, kE397, kE461, kE493, kE517, kE524] (ksp [(192, 200, 7, 0, 7, 0)]) kE525 [kC525_0, kC525_1, kC525_2, kC525_3] 30000 (some kC525_1) = true := by decide +kernel
theorem ks525_2 : aseg kS krf kB [kE43, kE87, kE397, kE461, kE493, kE517, kE524] (ksp [(192, 200, 7, 0, 7, 0)]) kE525 [kC525_0, kC525_1, kC525_2, kC525_3] 30000 (some kC525_2) = true := by decide +kernel
theorem ks525_3 : aseg kS krf kB [kE43, kE87, kE397, kE461, kE493, kE517, kE524] (ksp [(192, 200, 7, 0, 7, 0)]) kE525 [kC525_0, kC525_1, kC525_2, kC525_3] 30000 (some kC525_3) = true := by decide +kernel
theorem kok525 : aOK kS krf kB kE525 := aOK_of (kal1 kok43 (kal1 kok87 (kal1 kok397 (kal1 kok461 (kal1 kok493 (kal1 kok517 (kal1 kok524 kal0))))))) (kcl1 ks525_0 (kcl1 ks525_1 (kcl1 ks525_2 (kcl1 ks525_3 kcl0)))) ks525
/-- ColdShodModel.triesWay(IIIII)V -/
def kE526 : aE := (192, 51, ([kvB 0 7, kvB 0 7, kvB 0 7], [], 0, [kvR 102, kvI 0, kvI 1, kvI 2, kvN 21, kvN 2, none, none], []), ([], none), ([], [], none, ([], [])), kvW63)
def kC526_0 : aC := (([kvB 0 7, kvB 0 7, kvB 0 7, kvB 0 1, kvB 0 2], [], 16, [kvR 102, kvI 0, kvI 1, kvI 2, kvN 21, kvN 2, kvI 3, kvI 4], []), ([], []), (168, [(-1, 4)]))
def kC526_1 : aC := (([kvB 0 7, kvB 0 7, kvB 0 7, kvB 0 12], [], 141, [kvR 102, kvI 0, kvI 1, kvI 2, kvN 21, kvN 2, kvI 3, none], []), ([], []), (141, [(-11, 3)]))
def kC526_2 : aC := (([kvB 0 7, kvB 0 7, kvB 0 7, kvB 0 11, (.negSucc 0, .ofNat 7), kvB 1 12], [(102, 8, .inl (5, .ofNat 0))], 195, [kvR 102, kvI 0, kvI 1, kvI 2, kvN 21, kvN 2, kvI 3, kvI 4], []), ([], []), (139, [(-11, 3), (-1, 4)]))
def kC526_3 : aC := (([kvB 0 7, kvB 0 7, kvB 0 7, kvB 0 2, (.negSucc 0, .ofNat 99)], [(102, 29, .inl (4, .ofNat 0)), (102, 30, .inr (.ofNat 2))], 110, [kvR 102, kvI 0, kvI 1, kvI 2, kvN 21, kvN 2, kvN 1, kvI 3], []), ([], []), (2, [(-1, 3)]))
theorem ks526 : aseg kS krf kB [kE43, kE87, kE398, kE462, kE494, kE518, kE524] (ksp [(192, 200, 7, 0, 7, 0)]) kE526 [kC526_0, kC526_1, kC526_2, kC526_3] 30000 (none) = true := by decide +kernel
theorem ks526_0 : aseg kS krf kB [kE43, kE87, kE398, kE462, kE494, kE518, kE524] (ksp [(192, 200, 7, 0, 7, 0)]) kE526 [kC526_0, kC526_1, kC526_2, kC526_3] 30000 (some kC526_0) = true := by decide +kernel
theorem ks526_1 : aseg kS krf kB [kE43, kE87, kE398, kE462, kE494, kE518, kE524] (ksp [(192, 200, 7, 0, 7, 0)]) kE526 [kC526_0, kC526_1, kC526_2, kC526_3] 30000 (some kC526_1) = true := by decide +kernel
theorem ks526_2 : aseg kS krf kB [kE43, kE87, kE398, kE462, kE494, kE518, kE524] (ksp [(192, 200, 7, 0, 7, 0)]) kE526 [kC526_0, kC526_1, kC526_2, kC526_3] 30000 (some kC526_2) = true := by decide +kernel
theorem ks526_3 : aseg kS krf kB [kE43, kE87, kE398, kE462, kE494, kE518, kE524] (ksp [(192, 200, 7, 0, 7, 0)]) kE526 [kC526_0, kC526_1, kC526_2, kC526_3] 30000 (some kC526_3) = true := by decide +kernel
theorem kok526 : aOK kS krf kB kE526 := aOK_of (kal1 kok43 (kal1 kok87 (kal1 kok398 (kal1 kok462 (kal1 kok494 (kal1 kok518 (kal1 kok524 kal0))))))) (kcl1 ks526_0 (kcl1 ks526_1 (kcl1 ks526_2 (kcl1 ks526_3 kcl0)))) ks526
/-- ColdShodModel.triesWay(IIIII)V -/
def kE527 : aE := (192, 52, ([kvB 0 7, kvB 0 7, kvB 0 7], [], 0, [kvR 102, kvI 0, kvI 1, kvI 2, kvN 20, kvN 1, none, none], []), ([], none), ([], [], none, ([], [])), kvW64)
def kC527_0 : aC := (([kvB 0 7, kvB 0 7, kvB 0 7, kvB 0 1, kvB 0 1], [], 16, [kvR 102, kvI 0, kvI 1, kvI 2, kvN 20, kvN 1, kvI 3, kvI 4], []), ([], []), (167, [(-1, 4)]))
def kC527_1 : aC := (([kvB 0 7, kvB 0 7, kvB 0 7, kvB 0 12], [], 141, [kvR 102, kvI 0, kvI 1, kvI 2, kvN 20, kvN 1, kvI 3, none], []), ([], []), (141, [(-11, 3)]))
def kC527_2 : aC := (([kvB 0 7, kvB 0 7, kvB 0 7, kvB 0 11, (.negSucc 0, .ofNat 7), kvB 1 12], [(102, 8, .inl (5, .ofNat 0))], 195, [kvR 102, kvI 0, kvI 1, kvI 2, kvN 20, kvN 1, kvI 3, kvI 4], []), ([], []), (139, [(-11, 3), (-1, 4)]))
def kC527_3 : aC := (([kvB 0 7, kvB 0 7, kvB 0 7, kvB 0 1, (.negSucc 0, .ofNat 99)], [(102, 29, .inl (4, .ofNat 0)), (102, 30, .inr (.ofNat 1))], 110, [kvR 102, kvI 0, kvI 1, kvI 2, kvN 20, kvN 1, kvN 1, kvI 3], []), ([], []), (1, [(-1, 3)]))
theorem ks527 : aseg kS krf kB [kE43, kE87, kE399, kE463, kE495, kE519, kE525, kE526] (ksp [(192, 200, 7, 0, 7, 0)]) kE527 [kC527_0, kC527_1, kC527_2, kC527_3] 30000 (none) = true := by decide +kernel
theorem ks527_0 : aseg kS krf kB [kE43, kE87, kE399, kE463, kE495, kE519, kE525, kE526] (ksp [(192, 200, 7, 0, 7, 0)]) kE527 [kC527_0, kC527_1, kC527_2, kC527_3] 30000 (some kC527_0) = true := by decide +kernel
theorem ks527_1 : aseg kS krf kB [kE43, kE87, kE399, kE463, kE495, kE519, kE525, kE526] (ksp [(192, 200, 7, 0, 7, 0)]) kE527 [kC527_0, kC527_1, kC527_2, kC527_3] 30000 (some kC527_1) = true := by decide +kernel
theorem ks527_2 : aseg kS krf kB [kE43, kE87, kE399, kE463, kE495, kE519, kE525, kE526] (ksp [(192, 200, 7, 0, 7, 0)]) kE527 [kC527_0, kC527_1, kC527_2, kC527_3] 30000 (some kC527_2) = true := by decide +kernel
theorem ks527_3 : aseg kS krf kB [kE43, kE87, kE399, kE463, kE495, kE519, kE525, kE526] (ksp [(192, 200, 7, 0, 7, 0)]) kE527 [kC527_0, kC527_1, kC527_2, kC527_3] 30000 (some kC527_3) = true := by decide +kernel
theorem kok527 : aOK kS krf kB kE527 := aOK_of (kal1 kok43 (kal1 kok87 (kal1 kok399 (kal1 kok463 (kal1 kok495 (kal1 kok519 (kal1 kok525 (kal1 kok526 kal0)))))))) (kcl1 ks527_0 (kcl1 ks527_1 (kcl1 ks527_2 (kcl1 ks527_3 kcl0)))) ks527
/-- ColdShodModel.triesWay(IIIII)V -/
def kE528 : aE := (192, 51, ([kvB 0 7, kvB 0 7, kvB 0 7], [], 0, [kvR 102, kvI 0, kvI 1, kvI 2, kvN 19, kvN 2, none, none], []), ([], none), ([], [], none, ([], [])), kvW63)
def kC528_0 : aC := (([kvB 0 7, kvB 0 7, kvB 0 7, kvB 0 1, kvB 0 2], [], 16, [kvR 102, kvI 0, kvI 1, kvI 2, kvN 19, kvN 2, kvI 3, kvI 4], []), ([], []), (168, [(-1, 4)]))
def kC528_1 : aC := (([kvB 0 7, kvB 0 7, kvB 0 7, kvB 0 12], [], 141, [kvR 102, kvI 0, kvI 1, kvI 2, kvN 19, kvN 2, kvI 3, none], []), ([], []), (141, [(-11, 3)]))
def kC528_2 : aC := (([kvB 0 7, kvB 0 7, kvB 0 7, kvB 0 11, (.negSucc 0, .ofNat 7), kvB 1 12], [(102, 8, .inl (5, .ofNat 0))], 195, [kvR 102, kvI 0, kvI 1, kvI 2, kvN 19, kvN 2, kvI 3, kvI 4], []), ([], []), (139, [(-11, 3), (-1, 4)]))
def kC528_3 : aC := (([kvB 0 7, kvB 0 7, kvB 0 7, kvB 0 2, (.negSucc 0, .ofNat 99)], [(102, 29, .inl (4, .ofNat 0)), (102, 30, .inr (.ofNat 2))], 110, [kvR 102, kvI 0, kvI 1, kvI 2, kvN 19, kvN 2, kvN 1, kvI 3], []), ([], []), (2, [(-1, 3)]))
theorem ks528 : aseg kS krf kB [kE43, kE87, kE400, kE464, kE496, kE520, kE524] (ksp [(192, 200, 7, 0, 7, 0)]) kE528 [kC528_0, kC528_1, kC528_2, kC528_3] 30000 (none) = true := by decide +kernel
theorem ks528_0 : aseg kS krf kB [kE43, kE87, kE400, kE464, kE496, kE520, kE524] (ksp [(192, 200, 7, 0, 7, 0)]) kE528 [kC528_0, kC528_1, kC528_2, kC528_3] 30000 (some kC528_0) = true := by decide +kernel
theorem ks528_1 : aseg kS krf kB [kE43, kE87, kE400, kE464, kE496, kE520, kE524] (ksp [(192, 200, 7, 0, 7, 0)]) kE528 [kC528_0, kC528_1, kC528_2, kC528_3] 30000 (some kC528_1) = true := by decide +kernel
theorem ks528_2 : aseg kS krf kB [kE43, kE87, kE400, kE464, kE496, kE520, kE524] (ksp [(192, 200, 7, 0, 7, 0)]) kE528 [kC528_0, kC528_1, kC528_2, kC528_3] 30000 (some kC528_2) = true := by decide +kernel
theorem ks528_3 : aseg kS krf kB [kE43, kE87, kE400, kE464, kE496, kE520, kE524] (ksp [(192, 200, 7, 0, 7, 0)]) kE528 [kC528_0, kC528_1, kC528_2, kC528_3] 30000 (some kC528_3) = true := by decide +kernel
theorem kok528 : aOK kS krf kB kE528 := aOK_of (kal1 kok43 (kal1 kok87 (kal1 kok400 (kal1 kok464 (kal1 kok496 (kal1 kok520 (kal1 kok524 kal0))))))) (kcl1 ks528_0 (kcl1 ks528_1 (kcl1 ks528_2 (kcl1 ks528_3 kcl0)))) ks528
/-- ColdShodModel.triesWay(IIIII)V -/
def kE529 : aE := (192, 52, ([kvB 0 7, kvB 0 7, kvB 0 7], [], 0, [kvR 102, kvI 0, kvI 1, kvI 2, kvN 18, kvN 1, none, none], []), ([], none), ([], [], none, ([], [])), kvW64)
def kC529_0 : aC := (([kvB 0 7, kvB 0 7, kvB 0 7, kvB 0 1, kvB 0 1], [], 16, [kvR 102, kvI 0, kvI 1, kvI 2, kvN 18, kvN 1, kvI 3, kvI 4], []), ([], []), (167, [(-1, 4)]))
def kC529_1 : aC := (([kvB 0 7, kvB 0 7, kvB 0 7, kvB 0 12], [], 141, [kvR 102, kvI 0, kvI 1, kvI 2, kvN 18, kvN 1, kvI 3, none], []), ([], []), (141, [(-11, 3)]))
def kC529_2 : aC := (([kvB 0 7, kvB 0 7, kvB 0 7, kvB 0 11, (.negSucc 0, .ofNat 7), kvB 1 12], [(102, 8, .inl (5, .ofNat 0))], 195, [kvR 102, kvI 0, kvI 1, kvI 2, kvN 18, kvN 1, kvI 3, kvI 4], []), ([], []), (139, [(-11, 3), (-1, 4)]))
def kC529_3 : aC := (([kvB 0 7, kvB 0 7, kvB 0 7, kvB 0 1, (.negSucc 0, .ofNat 99)], [(102, 29, .inl (4, .ofNat 0)), (102, 30, .inr (.ofNat 1))], 110, [kvR 102, kvI 0, kvI 1, kvI 2, kvN 18, kvN 1, kvN 1, kvI 3], []), ([], []), (1, [(-1, 3)]))
theorem ks529 : aseg kS krf kB [kE43, kE87, kE401, kE465, kE497, kE521, kE525, kE528] (ksp [(192, 200, 7, 0, 7, 0)]) kE529 [kC529_0, kC529_1, kC529_2, kC529_3] 30000 (none) = true := by decide +kernel
theorem ks529_0 : aseg kS krf kB [kE43, kE87, kE401, kE465, kE497, kE521, kE525, kE528] (ksp [(192, 200, 7, 0, 7, 0)]) kE529 [kC529_0, kC529_1, kC529_2, kC529_3] 30000 (some kC529_0) = true := by decide +kernel
theorem ks529_1 : aseg kS krf kB [kE43, kE87, kE401, kE465, kE497, kE521, kE525, kE528] (ksp [(192, 200, 7, 0, 7, 0)]) kE529 [kC529_0, kC529_1, kC529_2, kC529_3] 30000 (some kC529_1) = true := by decide +kernel
theorem ks529_2 : aseg kS krf kB [kE43, kE87, kE401, kE465, kE497, kE521, kE525, kE528] (ksp [(192, 200, 7, 0, 7, 0)]) kE529 [kC529_0, kC529_1, kC529_2, kC529_3] 30000 (some kC529_2) = true := by decide +kernel
theorem ks529_3 : aseg kS krf kB [kE43, kE87, kE401, kE465, kE497, kE521, kE525, kE528] (ksp [(192, 200, 7, 0, 7, 0)]) kE529 [kC529_0, kC529_1, kC529_2, kC529_3] 30000 (some kC529_3) = true := by decide +kernel
theorem kok529 : aOK kS krf kB kE529 := aOK_of (kal1 kok43 (kal1 kok87 (kal1 kok401 (kal1 kok465 (kal1 kok497 (kal1 kok521 (kal1 kok525 (kal1 kok528 kal0)))))))) (kcl1 ks529_0 (kcl1 ks529_1 (kcl1 ks529_2 (kcl1 ks529_3 kcl0)))) ks529
/-- ColdShodModel.triesWay(IIIII)V -/
def kE530 : aE := (192, 52, ([kvB 0 7, kvB 0 7, kvB 0 7], [], 0, [kvR 102, kvI 0, kvI 1, kvI 2, kvN 17, kvN 1, none, none], []), ([], none), ([], [], none, ([], [])), kvW64)
def kC530_0 : aC := (([kvB 0 7, kvB 0 7, kvB 0 7, kvB 0 1, kvB 0 1], [], 16, [kvR 102, kvI 0, kvI 1, kvI 2, kvN 17, kvN 1, kvI 3, kvI 4], []), ([], []), (167, [(-1, 4)]))
def kC530_1 : aC := (([kvB 0 7, kvB 0 7, kvB 0 7, kvB 0 12], [], 141, [kvR 102, kvI 0, kvI 1, kvI 2, kvN 17, kvN 1, kvI 3, none], []), ([], []), (141, [(-11, 3)]))
def kC530_2 : aC := (([kvB 0 7, kvB 0 7, kvB 0 7, kvB 0 11, (.negSucc 0, .ofNat 7), kvB 1 12], [(102, 8, .inl (5, .ofNat 0))], 195, [kvR 102, kvI 0, kvI 1, kvI 2, kvN 17, kvN 1, kvI 3, kvI 4], []), ([], []), (139, [(-11, 3), (-1, 4)]))
def kC530_3 : aC := (([kvB 0 7, kvB 0 7, kvB 0 7, kvB 0 1, (.negSucc 0, .ofNat 99)], [(102, 29, .inl (4, .ofNat 0)), (102, 30, .inr (.ofNat 1))], 110, [kvR 102, kvI 0, kvI 1, kvI 2, kvN 17, kvN 1, kvN 1, kvI 3], []), ([], []), (1, [(-1, 3)]))
theorem ks530 : aseg kS krf kB [kE43, kE87, kE402, kE466, kE498, kE522, kE526, kE528] (ksp [(192, 200, 7, 0, 7, 0)]) kE530 [kC530_0, kC530_1, kC530_2, kC530_3] 30000 (none) = true := by decide +kernel
theorem ks530_0 : aseg kS krf kB [kE43, kE87, kE402, kE466, kE498, kE522, kE526, kE528] (ksp [(192, 200, 7, 0, 7, 0)]) kE530 [kC530_0, kC530_1, kC530_2, kC530_3] 30000 (some kC530_0) = true := by decide +kernel
theorem ks530_1 : aseg kS krf kB [kE43, kE87, kE402, kE466, kE498, kE522, kE526, kE528] (ksp [(192, 200, 7, 0, 7, 0)]) kE530 [kC530_0, kC530_1, kC530_2, kC530_3] 30000 (some kC530_1) = true := by decide +kernel
theorem ks530_2 : aseg kS krf kB [kE43, kE87, kE402, kE466, kE498, kE522, kE526, kE528] (ksp [(192, 200, 7, 0, 7, 0)]) kE530 [kC530_0, kC530_1, kC530_2, kC530_3] 30000 (some kC530_2) = true := by decide +kernel
theorem ks530_3 : aseg kS krf kB [kE43, kE87, kE402, kE466, kE498, kE522, kE526, kE528] (ksp [(192, 200, 7, 0, 7, 0)]) kE530 [kC530_0, kC530_1, kC530_2, kC530_3] 30000 (some kC530_3) = true := by decide +kernel
theorem kok530 : aOK kS krf kB kE530 := aOK_of (kal1 kok43 (kal1 kok87 (kal1 kok402 (kal1 kok466 (kal1 kok498 (kal1 kok522 (kal1 kok526 (kal1 kok528 kal0)))))))) (kcl1 ks530_0 (kcl1 ks530_1 (kcl1 ks530_2 (kcl1 ks530_3 kcl0)))) ks530
/-- ColdShodModel.triesWay(IIIII)V -/
def kE531 : aE := (192, 53, ([kvB 0 7, kvB 0 7, kvB 0 7], [], 0, [kvR 102, kvI 0, kvI 1, kvI 2, kvN 16, kvN 0, none, none], []), ([], none), ([], [], none, ([], [])), kvW65)
def kC531_0 : aC := (([kvB 0 7, kvB 0 7, kvB 0 7], [], 16, [kvR 102, kvI 0, kvI 1, kvI 2, kvN 16, kvN 0, kvN 1, kvN 0], []), ([], []), (166, []))
def kC531_1 : aC := (([kvB 0 7, kvB 0 7, kvB 0 7, kvB 0 12], [], 141, [kvR 102, kvI 0, kvI 1, kvI 2, kvN 16, kvN 0, kvI 3, none], []), ([], []), (141, [(-11, 3)]))
def kC531_2 : aC := (([kvB 0 7, kvB 0 7, kvB 0 7, (.negSucc 0, .ofNat 99)], [(102, 29, .inl (3, .ofNat 0)), (102, 30, .inr (.ofNat 0))], 110, [kvR 102, kvI 0, kvI 1, kvI 2, kvN 16, kvN 0, kvN 1, kvN 0], []), ([], []), (0, []))
def kC531_3 : aC := (([kvB 0 7, kvB 0 7, kvB 0 7, kvB 0 11, (.negSucc 0, .ofNat 7), kvB 1 12], [(102, 8, .inl (5, .ofNat 0))], 195, [kvR 102, kvI 0, kvI 1, kvI 2, kvN 16, kvN 0, kvI 3, kvI 4], []), ([], []), (139, [(-11, 3), (-1, 4)]))
theorem ks531 : aseg kS krf kB [kE43, kE403, kE467, kE499, kE523, kE527, kE529, kE530] (ksp [(192, 200, 7, 0, 7, 0)]) kE531 [kC531_0, kC531_1, kC531_2, kC531_3] 30000 (none) = true := by decide +kernel
theorem ks531_0 : aseg kS krf kB [kE43, kE403, kE467, kE499, kE523, kE527, kE529, kE530] (ksp [(192, 200, 7, 0, 7, 0)]) kE531 [kC531_0, kC531_1, kC531_2, kC531_3] 30000 (some kC531_0) = true := by decide +kernel
theorem ks531_1 : aseg kS krf kB [kE43, kE403, kE467, kE499, kE523, kE527, kE529, kE530] (ksp [(192, 200, 7, 0, 7, 0)]) kE531 [kC531_0, kC531_1, kC531_2, kC531_3] 30000 (some kC531_1) = true := by decide +kernel
theorem ks531_2 : aseg kS krf kB [kE43, kE403, kE467, kE499, kE523, kE527, kE529, kE530] (ksp [(192, 200, 7, 0, 7, 0)]) kE531 [kC531_0, kC531_1, kC531_2, kC531_3] 30000 (some kC531_2) = true := by decide +kernel
theorem ks531_3 : aseg kS krf kB [kE43, kE403, kE467, kE499, kE523, kE527, kE529, kE530] (ksp [(192, 200, 7, 0, 7, 0)]) kE531 [kC531_0, kC531_1, kC531_2, kC531_3] 30000 (some kC531_3) = true := by decide +kernel
theorem kok531 : aOK kS krf kB kE531 := aOK_of (kal1 kok43 (kal1 kok403 (kal1 kok467 (kal1 kok499 (kal1 kok523 (kal1 kok527 (kal1 kok529 (kal1 kok530 kal0)))))))) (kcl1 ks531_0 (kcl1 ks531_1 (kcl1 ks531_2 (kcl1 ks531_3 kcl0)))) ks531
/-- ColdShodModel.triesWay(IIIII)V -/
def kE532 : aE := (192, 50, ([kvB 0 7, kvB 0 7, kvB 0 7], [], 0, [kvR 102, kvI 0, kvI 1, kvI 2, kvN 15, kvN 3, none, none], []), ([], none), ([], [], none, ([], [])), kvW62)
def kC532_0 : aC := (([kvB 0 7, kvB 0 7, kvB 0 7, kvB 0 1, kvB 0 3], [], 16, [kvR 102, kvI 0, kvI 1, kvI 2, kvN 15, kvN 3, kvI 3, kvI 4], []), ([], []), (169, [(-1, 4)]))
def kC532_1 : aC := (([kvB 0 7, kvB 0 7, kvB 0 7, kvB 0 12], [], 141, [kvR 102, kvI 0, kvI 1, kvI 2, kvN 15, kvN 3, kvI 3, none], []), ([], []), (141, [(-11, 3)]))
def kC532_2 : aC := (([kvB 0 7, kvB 0 7, kvB 0 7, kvB 0 11, (.negSucc 0, .ofNat 7), kvB 1 12], [(102, 8, .inl (5, .ofNat 0))], 195, [kvR 102, kvI 0, kvI 1, kvI 2, kvN 15, kvN 3, kvI 3, kvI 4], []), ([], []), (139, [(-11, 3), (-1, 4)]))
def kC532_3 : aC := (([kvB 0 7, kvB 0 7, kvB 0 7, kvB 0 3, (.negSucc 0, .ofNat 99)], [(102, 29, .inl (4, .ofNat 0)), (102, 30, .inr (.ofNat 3))], 110, [kvR 102, kvI 0, kvI 1, kvI 2, kvN 15, kvN 3, kvN 1, kvI 3], []), ([], []), (3, [(-1, 3)]))
theorem ks532 : aseg kS krf kB [kE43, kE87, kE404, kE468, kE500, kE516] (ksp [(192, 200, 7, 0, 7, 0)]) kE532 [kC532_0, kC532_1, kC532_2, kC532_3] 30000 (none) = true := by decide +kernel
theorem ks532_0 : aseg kS krf kB [kE43, kE87, kE404, kE468, kE500, kE516] (ksp [(192, 200, 7, 0, 7, 0)]) kE532 [kC532_0, kC532_1, kC532_2, kC532_3] 30000 (some kC532_0) = true := by decide +kernel
theorem ks532_1 : aseg kS krf kB [kE43, kE87, kE404, kE468, kE500, kE516] (ksp [(192, 200, 7, 0, 7, 0)]) kE532 [kC532_0, kC532_1, kC532_2, kC532_3] 30000 (some kC532_1) = true := by decide +kernel
theorem ks532_2 : aseg kS krf kB [kE43, kE87, kE404, kE468, kE500, kE516] (ksp [(192, 200, 7, 0, 7, 0)]) kE532 [kC532_0, kC532_1, kC532_2, kC532_3] 30000 (some kC532_2) = true := by decide +kernel
theorem ks532_3 : aseg kS krf kB [kE43, kE87, kE404, kE468, kE500, kE516] (ksp [(192, 200, 7, 0, 7, 0)]) kE532 [kC532_0, kC532_1, kC532_2, kC532_3] 30000 (some kC532_3) = true := by decide +kernel
theorem kok532 : aOK kS krf kB kE532 := aOK_of (kal1 kok43 (kal1 kok87 (kal1 kok404 (kal1 kok468 (kal1 kok500 (kal1 kok516 kal0)))))) (kcl1 ks532_0 (kcl1 ks532_1 (kcl1 ks532_2 (kcl1 ks532_3 kcl0)))) ks532
/-- ColdShodModel.triesWay(IIIII)V -/
def kE533 : aE := (192, 51, ([kvB 0 7, kvB 0 7, kvB 0 7], [], 0, [kvR 102, kvI 0, kvI 1, kvI 2, kvN 14, kvN 2, none, none], []), ([], none), ([], [], none, ([], [])), kvW63)
def kC533_0 : aC := (([kvB 0 7, kvB 0 7, kvB 0 7, kvB 0 1, kvB 0 2], [], 16, [kvR 102, kvI 0, kvI 1, kvI 2, kvN 14, kvN 2, kvI 3, kvI 4], []), ([], []), (168, [(-1, 4)]))
def kC533_1 : aC := (([kvB 0 7, kvB 0 7, kvB 0 7, kvB 0 12], [], 141, [kvR 102, kvI 0, kvI 1, kvI 2, kvN 14, kvN 2, kvI 3, none], []), ([], []), (141, [(-11, 3)]))
def kC533_2 : aC := (([kvB 0 7, kvB 0 7, kvB 0 7, kvB 0 11, (.negSucc 0, .ofNat 7), kvB 1 12], [(102, 8, .inl (5, .ofNat 0))], 195, [kvR 102, kvI 0, kvI 1, kvI 2, kvN 14, kvN 2, kvI 3, kvI 4], []), ([], []), (139, [(-11, 3), (-1, 4)]))
def kC533_3 : aC := (([kvB 0 7, kvB 0 7, kvB 0 7, kvB 0 2, (.negSucc 0, .ofNat 99)], [(102, 29, .inl (4, .ofNat 0)), (102, 30, .inr (.ofNat 2))], 110, [kvR 102, kvI 0, kvI 1, kvI 2, kvN 14, kvN 2, kvN 1, kvI 3], []), ([], []), (2, [(-1, 3)]))
theorem ks533 : aseg kS krf kB [kE43, kE87, kE405, kE469, kE501, kE517, kE532] (ksp [(192, 200, 7, 0, 7, 0)]) kE533 [kC533_0, kC533_1, kC533_2, kC533_3] 30000 (none) = true := by decide +kernel
theorem ks533_0 : aseg kS krf kB [kE43, kE87, kE405, kE469, kE501, kE517, kE532] (ksp [(192, 200, 7, 0, 7, 0)]) kE533 [kC533_0, kC533_1, kC533_2, kC533_3] 30000 (some kC533_0) = true := by decide +kernel
theorem ks533_1 : aseg kS krf kB [kE43, kE87, kE405, kE469, kE501, kE517, kE532] (ksp [(192, 200, 7, 0, 7, 0)]) kE533 [kC533_0, kC533_1, kC533_2, kC533_3] 30000 (some kC533_1) = true := by decide +kernel
theorem ks533_2 : aseg kS krf kB [kE43, kE87, kE405, kE469, kE501, kE517, kE532] (ksp [(192, 200, 7, 0, 7, 0)]) kE533 [kC533_0, kC533_1, kC533_2, kC533_3] 30000 (some kC533_2) = true := by decide +kernel
theorem ks533_3 : aseg kS krf kB [kE43, kE87, kE405, kE469, kE501, kE517, kE532] (ksp [(192, 200, 7, 0, 7, 0)]) kE533 [kC533_0, kC533_1, kC533_2, kC533_3] 30000 (some kC533_3) = true := by decide +kernel
theorem kok533 : aOK kS krf kB kE533 := aOK_of (kal1 kok43 (kal1 kok87 (kal1 kok405 (kal1 kok469 (kal1 kok501 (kal1 kok517 (kal1 kok532 kal0))))))) (kcl1 ks533_0 (kcl1 ks533_1 (kcl1 ks533_2 (kcl1 ks533_3 kcl0)))) ks533
/-- ColdShodModel.triesWay(IIIII)V -/
def kE534 : aE := (192, 51, ([kvB 0 7, kvB 0 7, kvB 0 7], [], 0, [kvR 102, kvI 0, kvI 1, kvI 2, kvN 13, kvN 2, none, none], []), ([], none), ([], [], none, ([], [])), kvW63)
def kC534_0 : aC := (([kvB 0 7, kvB 0 7, kvB 0 7, kvB 0 1, kvB 0 2], [], 16, [kvR 102, kvI 0, kvI 1, kvI 2, kvN 13, kvN 2, kvI 3, kvI 4], []), ([], []), (168, [(-1, 4)]))
def kC534_1 : aC := (([kvB 0 7, kvB 0 7, kvB 0 7, kvB 0 12], [], 141, [kvR 102, kvI 0, kvI 1, kvI 2, kvN 13, kvN 2, kvI 3, none], []), ([], []), (141, [(-11, 3)]))
def kC534_2 : aC := (([kvB 0 7, kvB 0 7, kvB 0 7, kvB 0 11, (.negSucc 0, .ofNat 7), kvB 1 12], [(102, 8, .inl (5, .ofNat 0))], 195, [kvR 102, kvI 0, kvI 1, kvI 2, kvN 13, kvN 2, kvI 3, kvI 4], []), ([], []), (139, [(-11, 3), (-1, 4)]))
def kC534_3 : aC := (([kvB 0 7, kvB 0 7, kvB 0 7, kvB 0 2, (.negSucc 0, .ofNat 99)], [(102, 29, .inl (4, .ofNat 0)), (102, 30, .inr (.ofNat 2))], 110, [kvR 102, kvI 0, kvI 1, kvI 2, kvN 13, kvN 2, kvN 1, kvI 3], []), ([], []), (2, [(-1, 3)]))
theorem ks534 : aseg kS krf kB [kE43, kE87, kE406, kE470, kE502, kE518, kE532] (ksp [(192, 200, 7, 0, 7, 0)]) kE534 [kC534_0, kC534_1, kC534_2, kC534_3] 30000 (none) = true := by decide +kernel
theorem ks534_0 : aseg kS krf kB [kE43, kE87, kE406, kE470, kE502, kE518, kE532] (ksp [(192, 200, 7, 0, 7, 0)]) kE534 [kC534_0, kC534_1, kC534_2, kC534_3] 30000 (some kC534_0) = true := by decide +kernel
theorem ks534_1 : aseg kS krf kB [kE43, kE87, kE406, kE470, kE502, kE518, kE532] (ksp [(192, 200, 7, 0, 7, 0)]) kE534 [kC534_0, kC534_1, kC534_2, kC534_3] 30000 (some kC534_1) = true := by decide +kernel
theorem ks534_2 : aseg kS krf kB [kE43, kE87, kE406, kE470, kE502, kE518, kE532] (ksp [(192, 200, 7, 0, 7, 0)]) kE534 [kC534_0, kC534_1, kC534_2, kC534_3] 30000 (some kC534_2) = true := by decide +kernel
theorem ks534_3 : aseg kS krf kB [kE43, kE87, kE406, kE470, kE502, kE518, kE532] (ksp [(192, 200, 7, 0, 7, 0)]) kE534 [kC534_0, kC534_1, kC534_2, kC534_3] 30000 (some kC534_3) = true := by decide +kernel
theorem kok534 : aOK kS krf kB kE534 := aOK_of (kal1 kok43 (kal1 kok87 (kal1 kok406 (kal1 kok470 (kal1 kok502 (kal1 kok518 (kal1 kok532 kal0))))))) (kcl1 ks534_0 (kcl1 ks534_1 (kcl1 ks534_2 (kcl1 ks534_3 kcl0)))) ks534
/-- ColdShodModel.triesWay(IIIII)V -/
def kE535 : aE := (192, 52, ([kvB 0 7, kvB 0 7, kvB 0 7], [], 0, [kvR 102, kvI 0, kvI 1, kvI 2, kvN 12, kvN 1, none, none], []), ([], none), ([], [], none, ([], [])), kvW64)
def kC535_0 : aC := (([kvB 0 7, kvB 0 7, kvB 0 7, kvB 0 1, kvB 0 1], [], 16, [kvR 102, kvI 0, kvI 1, kvI 2, kvN 12, kvN 1, kvI 3, kvI 4], []), ([], []), (167, [(-1, 4)]))
def kC535_1 : aC := (([kvB 0 7, kvB 0 7, kvB 0 7, kvB 0 12], [], 141, [kvR 102, kvI 0, kvI 1, kvI 2, kvN 12, kvN 1, kvI 3, none], []), ([], []), (141, [(-11, 3)]))
def kC535_2 : aC := (([kvB 0 7, kvB 0 7, kvB 0 7, kvB 0 11, (.negSucc 0, .ofNat 7), kvB 1 12], [(102, 8, .inl (5, .ofNat 0))], 195, [kvR 102, kvI 0, kvI 1, kvI 2, kvN 12, kvN 1, kvI 3, kvI 4], []), ([], []), (139, [(-11, 3), (-1, 4)]))
def kC535_3 : aC := (([kvB 0 7, kvB 0 7, kvB 0 7, kvB 0 1, (.negSucc 0, .ofNat 99)], [(102, 29, .inl (4, .ofNat 0)), (102, 30, .inr (.ofNat 1))], 110, [kvR 102, kvI 0, kvI 1, kvI 2, kvN 12, kvN 1, kvN 1, kvI 3], []), ([], []), (1, [(-1, 3)]))
theorem ks535 : aseg kS krf kB [kE43, kE87, kE407, kE471, kE503, kE519, kE533, kE534] (ksp [(192, 200, 7, 0, 7, 0)]) kE535 [kC535_0, kC535_1, kC535_2, kC535_3] 30000 (none) = true := by decide +kernel
theorem ks535_0 : aseg kS krf kB [kE43, kE87, kE407, kE471, kE503, kE519, kE533, kE534] (ksp [(192, 200, 7, 0, 7, 0)]) kE535 [kC535_0, kC535_1, kC535_2, kC535_3] 30000 (some kC535_0) = true := by decide +kernel
theorem ks535_1 : aseg kS krf kB [kE43, kE87, kE407, kE471, kE503, kE519, kE533, kE534] (ksp [(192, 200, 7, 0, 7, 0)]) kE535 [kC535_0, kC535_1, kC535_2, kC535_3] 30000 (some kC535_1) = true := by decide +kernel
theorem ks535_2 : aseg kS krf kB [kE43, kE87, kE407, kE471, kE503, kE519, kE533, kE534] (ksp [(192, 200, 7, 0, 7, 0)]) kE535 [kC535_0, kC535_1, kC535_2, kC535_3] 30000 (some kC535_2) = true := by decide +kernel
theorem ks535_3 : aseg kS krf kB [kE43, kE87, kE407, kE471, kE503, kE519, kE533, kE534] (ksp [(192, 200, 7, 0, 7, 0)]) kE535 [kC535_0, kC535_1, kC535_2, kC535_3] 30000 (some kC535_3) = true := by decide +kernel
theorem kok535 : aOK kS krf kB kE535 := aOK_of (kal1 kok43 (kal1 kok87 (kal1 kok407 (kal1 kok471 (kal1 kok503 (kal1 kok519 (kal1 kok533 (kal1 kok534 kal0)))))))) (kcl1 ks535_0 (kcl1 ks535_1 (kcl1 ks535_2 (kcl1 ks535_3 kcl0)))) ks535
/-- ColdShodModel.triesWay(IIIII)V -/
def kE536 : aE := (192, 51, ([kvB 0 7, kvB 0 7, kvB 0 7], [], 0, [kvR 102, kvI 0, kvI 1, kvI 2, kvN 11, kvN 2, none, none], []), ([], none), ([], [], none, ([], [])), kvW63)
def kC536_0 : aC := (([kvB 0 7, kvB 0 7, kvB 0 7, kvB 0 1, kvB 0 2], [], 16, [kvR 102, kvI 0, kvI 1, kvI 2, kvN 11, kvN 2, kvI 3, kvI 4], []), ([], []), (168, [(-1, 4)]))
def kC536_1 : aC := (([kvB 0 7, kvB 0 7, kvB 0 7, kvB 0 12], [], 141, [kvR 102, kvI 0, kvI 1, kvI 2, kvN 11, kvN 2, kvI 3, none], []), ([], []), (141, [(-11, 3)]))
def kC536_2 : aC := (([kvB 0 7, kvB 0 7, kvB 0 7, kvB 0 11, (.negSucc 0, .ofNat 7), kvB 1 12], [(102, 8, .inl (5, .ofNat 0))], 195, [kvR 102, kvI 0, kvI 1, kvI 2, kvN 11, kvN 2, kvI 3, kvI 4], []), ([], []), (139, [(-11, 3), (-1, 4)]))
def kC536_3 : aC := (([kvB 0 7, kvB 0 7, kvB 0 7, kvB 0 2, (.negSucc 0, .ofNat 99)], [(102, 29, .inl (4, .ofNat 0)), (102, 30, .inr (.ofNat 2))], 110, [kvR 102, kvI 0, kvI 1, kvI 2, kvN 11, kvN 2, kvN 1, kvI 3], []), ([], []), (2, [(-1, 3)]))
theorem ks536 : aseg kS krf kB [kE43, kE87, kE408, kE472, kE504, kE520, kE532] (ksp [(192, 200, 7, 0, 7, 0)]) kE536 [kC536_0, kC536_1, kC536_2, kC536_3] 30000 (none) = true := by decide +kernel
theorem ks536_0 : aseg kS krf kB [kE43, kE87, kE408, kE472, kE504, kE520, kE532] (ksp [(192, 200, 7, 0, 7, 0)]) kE536 [kC536_0, kC536_1, kC536_2, kC536_3] 30000 (some kC536_0) = true := by decide +kernel
theorem ks536_1 : aseg kS krf kB [kE43, kE87, kE408, kE472, kE504, kE520, kE532] (ksp [(192, 200, 7, 0, 7, 0)]) kE536 [kC536_0, kC536_1, kC536_2, kC536_3] 30000 (some kC536_1) = true := by decide +kernel
theorem ks536_2 : aseg kS krf kB [kE43, kE87, kE408, kE472, kE504, kE520, kE532] (ksp [(192, 200, 7, 0, 7, 0)]) kE536 [kC536_0, kC536_1, kC536_2, kC536_3] 30000 (some kC536_2) = true := by decide +kernel
theorem ks536_3 : aseg kS krf kB [kE43, kE87, kE408, kE472, kE504, kE520, kE532] (ksp [(192, 200, 7, 0, 7, 0)]) kE536 [kC536_0, kC536_1, kC536_2, kC536_3] 30000 (some kC536_3) = true := by decide +kernel
theorem kok536 : aOK kS krf kB kE536 := aOK_of (kal1 kok43 (kal1 kok87 (kal1 kok408 (kal1 kok472 (kal1 kok504 (kal1 kok520 (kal1 kok532 kal0))))))) (kcl1 ks536_0 (kcl1 ks536_1 (kcl1 ks536_2 (kcl1 ks536_3 kcl0)))) ks536
/-- ColdShodModel.triesWay(IIIII)V -/
def kE537 : aE := (192, 52, ([kvB 0 7, kvB 0 7, kvB 0 7], [], 0, [kvR 102, kvI 0, kvI 1, kvI 2, kvN 10, kvN 1, none, none], []), ([], none), ([], [], none, ([], [])), kvW64)
def kC537_0 : aC := (([kvB 0 7, kvB 0 7, kvB 0 7, kvB 0 1, kvB 0 1], [], 16, [kvR 102, kvI 0, kvI 1, kvI 2, kvN 10, kvN 1, kvI 3, kvI 4], []), ([], []), (167, [(-1, 4)]))
def kC537_1 : aC := (([kvB 0 7, kvB 0 7, kvB 0 7, kvB 0 12], [], 141, [kvR 102, kvI 0, kvI 1, kvI 2, kvN 10, kvN 1, kvI 3, none], []), ([], []), (141, [(-11, 3)]))
def kC537_2 : aC := (([kvB 0 7, kvB 0 7, kvB 0 7, kvB 0 11, (.negSucc 0, .ofNat 7), kvB 1 12], [(102, 8, .inl (5, .ofNat 0))], 195, [kvR 102, kvI 0, kvI 1, kvI 2, kvN 10, kvN 1, kvI 3, kvI 4], []), ([], []), (139, [(-11, 3), (-1, 4)]))
def kC537_3 : aC := (([kvB 0 7, kvB 0 7, kvB 0 7, kvB 0 1, (.negSucc 0, .ofNat 99)], [(102, 29, .inl (4, .ofNat 0)), (102, 30, .inr (.ofNat 1))], 110, [kvR 102, kvI 0, kvI 1, kvI 2, kvN 10, kvN 1, kvN 1, kvI 3], []), ([], []), (1, [(-1, 3)]))
theorem ks537 : aseg kS krf kB [kE43, kE87, kE409, kE473, kE505, kE521, kE533, kE536] (ksp [(192, 200, 7, 0, 7, 0)]) kE537 [kC537_0, kC537_1, kC537_2, kC537_3] 30000 (none) = true := by decide +kernel
theorem ks537_0 : aseg kS krf kB [kE43, kE87, kE409, kE473, kE505, kE521, kE533, kE536] (ksp [(192, 200, 7, 0, 7, 0)]) kE537 [kC537_0, kC537_1, kC537_2, kC537_3] 30000 (some kC537_0) = true := by decide +kernel
theorem ks537_1 : aseg kS krf kB [kE43, kE87, kE409, kE473, kE505, kE521, kE533, kE536] (ksp [(192, 200, 7, 0, 7, 0)]) kE537 [kC537_0, kC537_1, kC537_2, kC537_3] 30000 (some kC537_1) = true := by decide +kernel
theorem ks537_2 : aseg kS krf kB [kE43, kE87, kE409, kE473, kE505, kE521, kE533, kE536] (ksp [(192, 200, 7, 0, 7, 0)]) kE537 [kC537_0, kC537_1, kC537_2, kC537_3] 30000 (some kC537_2) = true := by decide +kernel
theorem ks537_3 : aseg kS krf kB [kE43, kE87, kE409, kE473, kE505, kE521, kE533, kE536] (ksp [(192, 200, 7, 0, 7, 0)]) kE537 [kC537_0, kC537_1, kC537_2, kC537_3] 30000 (some kC537_3) = true := by decide +kernel
theorem kok537 : aOK kS krf kB kE537 := aOK_of (kal1 kok43 (kal1 kok87 (kal1 kok409 (kal1 kok473 (kal1 kok505 (kal1 kok521 (kal1 kok533 (kal1 kok536 kal0)))))))) (kcl1 ks537_0 (kcl1 ks537_1 (kcl1 ks537_2 (kcl1 ks537_3 kcl0)))) ks537
/-- ColdShodModel.triesWay(IIIII)V -/
def kE538 : aE := (192, 52, ([kvB 0 7, kvB 0 7, kvB 0 7], [], 0, [kvR 102, kvI 0, kvI 1, kvI 2, kvN 9, kvN 1, none, none], []), ([], none), ([], [], none, ([], [])), kvW64)
def kC538_0 : aC := (([kvB 0 7, kvB 0 7, kvB 0 7, kvB 0 1, kvB 0 1], [], 16, [kvR 102, kvI 0, kvI 1, kvI 2, kvN 9, kvN 1, kvI 3, kvI 4], []), ([], []), (167, [(-1, 4)]))
def kC538_1 : aC := (([kvB 0 7, kvB 0 7, kvB 0 7, kvB 0 12], [], 141, [kvR 102, kvI 0, kvI 1, kvI 2, kvN 9, kvN 1, kvI 3, none], []), ([], []), (141, [(-11, 3)]))
def kC538_2 : aC := (([kvB 0 7, kvB 0 7, kvB 0 7, kvB 0 11, (.negSucc 0, .ofNat 7), kvB 1 12], [(102, 8, .inl (5, .ofNat 0))], 195, [kvR 102, kvI 0, kvI 1, kvI 2, kvN 9, kvN 1, kvI 3, kvI 4], []), ([], []), (139, [(-11, 3), (-1, 4)]))
def kC538_3 : aC := (([kvB 0 7, kvB 0 7, kvB 0 7, kvB 0 1, (.negSucc 0, .ofNat 99)], [(102, 29, .inl (4, .ofNat 0)), (102, 30, .inr (.ofNat 1))], 110, [kvR 102, kvI 0, kvI 1, kvI 2, kvN 9, kvN 1, kvN 1, kvI 3], []), ([], []), (1, [(-1, 3)]))
theorem ks538 : aseg kS krf kB [kE43, kE87, kE410, kE474, kE506, kE522, kE534, kE536] (ksp [(192, 200, 7, 0, 7, 0)]) kE538 [kC538_0, kC538_1, kC538_2, kC538_3] 30000 (none) = true := by decide +kernel
theorem ks538_0 : aseg kS krf kB [kE43, kE87, kE410, kE474, kE506, kE522, kE534, kE536] (ksp [(192, 200, 7, 0, 7, 0)]) kE538 [kC538_0, kC538_1, kC538_2, kC538_3] 30000 (some kC538_0) = true := by decide +kernel
theorem ks538_1 : aseg kS krf kB [kE43, kE87, kE410, kE474, kE506, kE522, kE534, kE536] (ksp [(192, 200, 7, 0, 7, 0)]) kE538 [kC538_0, kC538_1, kC538_2, kC538_3] 30000 (some kC538_1) = true := by decide +kernel
theorem ks538_2 : aseg kS krf kB [kE43, kE87, kE410, kE474, kE506, kE522, kE534, kE536] (ksp [(192, 200, 7, 0, 7, 0)]) kE538 [kC538_0, kC538_1, kC538_2, kC538_3] 30000 (some kC538_2) = true := by decide +kernel
theorem ks538_3 : aseg kS krf kB [kE43, kE87, kE410, kE474, kE506, kE522, kE534, kE536] (ksp [(192, 200, 7, 0, 7, 0)]) kE538 [kC538_0, kC538_1, kC538_2, kC538_3] 30000 (some kC538_3) = true := by decide +kernel
theorem kok538 : aOK kS krf kB kE538 := aOK_of (kal1 kok43 (kal1 kok87 (kal1 kok410 (kal1 kok474 (kal1 kok506 (kal1 kok522 (kal1 kok534 (kal1 kok536 kal0)))))))) (kcl1 ks538_0 (kcl1 ks538_1 (kcl1 ks538_2 (kcl1 ks538_3 kcl0)))) ks538
/-- ColdShodModel.triesWay(IIIII)V -/
def kE539 : aE := (192, 53, ([kvB 0 7, kvB 0 7, kvB 0 7], [], 0, [kvR 102, kvI 0, kvI 1, kvI 2, kvN 8, kvN 0, none, none], []), ([], none), ([], [], none, ([], [])), kvW65)
def kC539_0 : aC := (([kvB 0 7, kvB 0 7, kvB 0 7], [], 16, [kvR 102, kvI 0, kvI 1, kvI 2, kvN 8, kvN 0, kvN 1, kvN 0], []), ([], []), (166, []))
def kC539_1 : aC := (([kvB 0 7, kvB 0 7, kvB 0 7, kvB 0 12], [], 141, [kvR 102, kvI 0, kvI 1, kvI 2, kvN 8, kvN 0, kvI 3, none], []), ([], []), (141, [(-11, 3)]))
def kC539_2 : aC := (([kvB 0 7, kvB 0 7, kvB 0 7, (.negSucc 0, .ofNat 99)], [(102, 29, .inl (3, .ofNat 0)), (102, 30, .inr (.ofNat 0))], 110, [kvR 102, kvI 0, kvI 1, kvI 2, kvN 8, kvN 0, kvN 1, kvN 0], []), ([], []), (0, []))
def kC539_3 : aC := (([kvB 0 7, kvB 0 7, kvB 0 7, kvB 0 11, (.negSucc 0, .ofNat 7), kvB 1 12], [(102, 8, .inl (5, .ofNat 0))], 195, [kvR 102, kvI 0, kvI 1, kvI 2, kvN 8, kvN 0, kvI 3, kvI 4], []), ([], []), (139, [(-11, 3), (-1, 4)]))
theorem ks539 : aseg kS krf kB [kE43, kE411, kE475, kE507, kE523, kE535, kE537, kE538] (ksp [(192, 200, 7, 0, 7, 0)]) kE539 [kC539_0, kC539_1, kC539_2, kC539_3] 30000 (none) = true := by decide +kernel
theorem ks539_0 : aseg kS krf kB [kE43, kE411, kE475, kE507, kE523, kE535, kE537, kE538] (ksp [(192, 200, 7, 0, 7, 0)]) kE539 [kC539_0, kC539_1, kC539_2, kC539_3] 30000 (some kC539_0) = true := by decide +kernel
theorem ks539_1 : aseg kS krf kB [kE43, kE411, kE475, kE507, kE523, kE535, kE537, kE538] (ksp [(192, 200, 7, 0, 7, 0)]) kE539 [kC539_0, kC539_1, kC539_2, kC539_3] 30000 (some kC539_1) = true := by decide +kernel
theorem ks539_2 : aseg kS krf kB [kE43, kE411, kE475, kE507, kE523, kE535, kE537, kE538] (ksp [(192, 200, 7, 0, 7, 0)]) kE539 [kC539_0, kC539_1, kC539_2, kC539_3] 30000 (some kC539_2) = true := by decide +kernel
theorem ks539_3 : aseg kS krf kB [kE43, kE411, kE475, kE507, kE523, kE535, kE537, kE538] (ksp [(192, 200, 7, 0, 7, 0)]) kE539 [kC539_0, kC539_1, kC539_2, kC539_3] 30000 (some kC539_3) = true := by decide +kernel
theorem kok539 : aOK kS krf kB kE539 := aOK_of (kal1 kok43 (kal1 kok411 (kal1 kok475 (kal1 kok507 (kal1 kok523 (kal1 kok535 (kal1 kok537 (kal1 kok538 kal0)))))))) (kcl1 ks539_0 (kcl1 ks539_1 (kcl1 ks539_2 (kcl1 ks539_3 kcl0)))) ks539
/-- ColdShodModel.triesWay(IIIII)V -/
def kE540 : aE := (192, 51, ([kvB 0 7, kvB 0 7, kvB 0 7], [], 0, [kvR 102, kvI 0, kvI 1, kvI 2, kvN 7, kvN 2, none, none], []), ([], none), ([], [], none, ([], [])), kvW63)
def kC540_0 : aC := (([kvB 0 7, kvB 0 7, kvB 0 7, kvB 0 1, kvB 0 2], [], 16, [kvR 102, kvI 0, kvI 1, kvI 2, kvN 7, kvN 2, kvI 3, kvI 4], []), ([], []), (168, [(-1, 4)]))
def kC540_1 : aC := (([kvB 0 7, kvB 0 7, kvB 0 7, kvB 0 12], [], 141, [kvR 102, kvI 0, kvI 1, kvI 2, kvN 7, kvN 2, kvI 3, none], []), ([], []), (141, [(-11, 3)]))
def kC540_2 : aC := (([kvB 0 7, kvB 0 7, kvB 0 7, kvB 0 11, (.negSucc 0, .ofNat 7), kvB 1 12], [(102, 8, .inl (5, .ofNat 0))], 195, [kvR 102, kvI 0, kvI 1, kvI 2, kvN 7, kvN 2, kvI 3, kvI 4], []), ([], []), (139, [(-11, 3), (-1, 4)]))
def kC540_3 : aC := (([kvB 0 7, kvB 0 7, kvB 0 7, kvB 0 2, (.negSucc 0, .ofNat 99)], [(102, 29, .inl (4, .ofNat 0)), (102, 30, .inr (.ofNat 2))], 110, [kvR 102, kvI 0, kvI 1, kvI 2, kvN 7, kvN 2, kvN 1, kvI 3], []), ([], []), (2, [(-1, 3)]))
theorem ks540 : aseg kS krf kB [kE43, kE87, kE412, kE476, kE508, kE524, kE532] (ksp [(192, 200, 7, 0, 7, 0)]) kE540 [kC540_0, kC540_1, kC540_2, kC540_3] 30000 (none) = true := by decide +kernel
theorem ks540_0 : aseg kS krf kB [kE43, kE87, kE412, kE476, kE508, kE524, kE532] (ksp [(192, 200, 7, 0, 7, 0)]) kE540 [kC540_0, kC540_1, kC540_2, kC540_3] 30000 (some kC540_0) = true := by decide +kernel
theorem ks540_1 : aseg kS krf kB [kE43, kE87, kE412, kE476, kE508, kE524, kE532] (ksp [(192, 200, 7, 0, 7, 0)]) kE540 [kC540_0, kC540_1, kC540_2, kC540_3] 30000 (some kC540_1) = true := by decide +kernel
theorem ks540_2 : aseg kS krf kB [kE43, kE87, kE412, kE476, kE508, kE524, kE532] (ksp [(192, 200, 7, 0, 7, 0)]) kE540 [kC540_0, kC540_1, kC540_2, kC540_3] 30000 (some kC540_2) = true := by decide +kernel
theorem ks540_3 : aseg kS krf kB [kE43, kE87, kE412, kE476, kE508, kE524, kE532] (ksp [(192, 200, 7, 0, 7, 0)]) kE540 [kC540_0, kC540_1, kC540_2, kC540_3] 30000 (some kC540_3) = true := by decide +kernel
theorem kok540 : aOK kS krf kB kE540 := aOK_of (kal1 kok43 (kal1 kok87 (kal1 kok412 (kal1 kok476 (kal1 kok508 (kal1 kok524 (kal1 kok532 kal0))))))) (kcl1 ks540_0 (kcl1 ks540_1 (kcl1 ks540_2 (kcl1 ks540_3 kcl0)))) ks540
/-- ColdShodModel.triesWay(IIIII)V -/
def kE541 : aE := (192, 52, ([kvB 0 7, kvB 0 7, kvB 0 7], [], 0, [kvR 102, kvI 0, kvI 1, kvI 2, kvN 6, kvN 1, none, none], []), ([], none), ([], [], none, ([], [])), kvW64)
def kC541_0 : aC := (([kvB 0 7, kvB 0 7, kvB 0 7, kvB 0 1, kvB 0 1], [], 16, [kvR 102, kvI 0, kvI 1, kvI 2, kvN 6, kvN 1, kvI 3, kvI 4], []), ([], []), (167, [(-1, 4)]))
def kC541_1 : aC := (([kvB 0 7, kvB 0 7, kvB 0 7, kvB 0 12], [], 141, [kvR 102, kvI 0, kvI 1, kvI 2, kvN 6, kvN 1, kvI 3, none], []), ([], []), (141, [(-11, 3)]))
def kC541_2 : aC := (([kvB 0 7, kvB 0 7, kvB 0 7, kvB 0 11, (.negSucc 0, .ofNat 7), kvB 1 12], [(102, 8, .inl (5, .ofNat 0))], 195, [kvR 102, kvI 0, kvI 1, kvI 2, kvN 6, kvN 1, kvI 3, kvI 4], []), ([], []), (139, [(-11, 3), (-1, 4)]))
def kC541_3 : aC := (([kvB 0 7, kvB 0 7, kvB 0 7, kvB 0 1, (.negSucc 0, .ofNat 99)], [(102, 29, .inl (4, .ofNat 0)), (102, 30, .inr (.ofNat 1))], 110, [kvR 102, kvI 0, kvI 1, kvI 2, kvN 6, kvN 1, kvN 1, kvI 3], []), ([], []), (1, [(-1, 3)]))
theorem ks541 : aseg kS krf kB [kE43, kE87, kE413, kE477, kE509, kE525, kE533, kE540] (ksp [(192, 200, 7, 0, 7, 0)]) kE541 [kC541_0, kC541_1, kC541_2, kC541_3] 30000 (none) = true := by decide +kernel
theorem ks541_0 : aseg kS krf kB [kE43, kE87, kE413, kE477, kE509, kE525, kE533, kE540] (ksp [(192, 200, 7, 0, 7, 0)]) kE541 [kC541_0, kC541_1, kC541_2, kC541_3] 30000 (some kC541_0) = true := by decide +kernel
theorem ks541_1 : aseg kS krf kB [kE43, kE87, kE413, kE477, kE509, kE525, kE533, kE540] (ksp [(192, 200, 7, 0, 7, 0)]) kE541 [kC541_0, kC541_1, kC541_2, kC541_3] 30000 (some kC541_1) = true := by decide +kernel
theorem ks541_2 : aseg kS krf kB [kE43, kE87, kE413, kE477, kE509, kE525, kE533, kE540] (ksp [(192, 200, 7, 0, 7, 0)]) kE541 [kC541_0, kC541_1, kC541_2, kC541_3] 30000 (some kC541_2) = true := by decide +kernel
theorem ks541_3 : aseg kS krf kB [kE43, kE87, kE413, kE477, kE509, kE525, kE533, kE540] (ksp [(192, 200, 7, 0, 7, 0)]) kE541 [kC541_0, kC541_1, kC541_2, kC541_3] 30000 (some kC541_3) = true := by decide +kernel
theorem kok541 : aOK kS krf kB kE541 := aOK_of (kal1 kok43 (kal1 kok87 (kal1 kok413 (kal1 kok477 (kal1 kok509 (kal1 kok525 (kal1 kok533 (kal1 kok540 kal0)))))))) (kcl1 ks541_0 (kcl1 ks541_1 (kcl1 ks541_2 (kcl1 ks541_3 kcl0)))) ks541
/-- ColdShodModel.triesWay(IIIII)V -/
def kE542 : aE := (192, 52, ([kvB 0 7, kvB 0 7, kvB 0 7], [], 0, [kvR 102, kvI 0, kvI 1, kvI 2, kvN 5, kvN 1, none, none], []), ([], none), ([], [], none, ([], [])), kvW64)
def kC542_0 : aC := (([kvB 0 7, kvB 0 7, kvB 0 7, kvB 0 1, kvB 0 1], [], 16, [kvR 102, kvI 0, kvI 1, kvI 2, kvN 5, kvN 1, kvI 3, kvI 4], []), ([], []), (167, [(-1, 4)]))
def kC542_1 : aC := (([kvB 0 7, kvB 0 7, kvB 0 7, kvB 0 12], [], 141, [kvR 102, kvI 0, kvI 1, kvI 2, kvN 5, kvN 1, kvI 3, none], []), ([], []), (141, [(-11, 3)]))
def kC542_2 : aC := (([kvB 0 7, kvB 0 7, kvB 0 7, kvB 0 11, (.negSucc 0, .ofNat 7), kvB 1 12], [(102, 8, .inl (5, .ofNat 0))], 195, [kvR 102, kvI 0, kvI 1, kvI 2, kvN 5, kvN 1, kvI 3, kvI 4], []), ([], []), (139, [(-11, 3), (-1, 4)]))
def kC542_3 : aC := (([kvB 0 7, kvB 0 7, kvB 0 7, kvB 0 1, (.negSucc 0, .ofNat 99)], [(102, 29, .inl (4, .ofNat 0)), (102, 30, .inr (.ofNat 1))], 110, [kvR 102, kvI 0, kvI 1, kvI 2, kvN 5, kvN 1, kvN 1, kvI 3], []), ([], []), (1, [(-1, 3)]))
theorem ks542 : aseg kS krf kB [kE43, kE87, kE414, kE478, kE510, kE526, kE534, kE540] (ksp [(192, 200, 7, 0, 7, 0)]) kE542 [kC542_0, kC542_1, kC542_2, kC542_3] 30000 (none) = true := by decide +kernel
theorem ks542_0 : aseg kS krf kB [kE43, kE87, kE414, kE478, kE510, kE526, kE534, kE540] (ksp [(192, 200, 7, 0, 7, 0)]) kE542 [kC542_0, kC542_1, kC542_2, kC542_3] 30000 (some kC542_0) = true := by decide +kernel
theorem ks542_1 : aseg kS krf kB [kE43, kE87, kE414, kE478, kE510, kE526, kE534, kE540] (ksp [(192, 200, 7, 0, 7, 0)]) kE542 [kC542_0, kC542_1, kC542_2, kC542_3] 30000 (some kC542_1) = true := by decide +kernel
theorem ks542_2 : aseg kS krf kB [kE43, kE87, kE414, kE478, kE510, kE526, kE534, kE540] (ksp [(192, 200, 7, 0, 7, 0)]) kE542 [kC542_0, kC542_1, kC542_2, kC542_3] 30000 (some kC542_2) = true := by decide +kernel
theorem ks542_3 : aseg kS krf kB [kE43, kE87, kE414, kE478, kE510, kE526, kE534, kE540] (ksp [(192, 200, 7, 0, 7, 0)]) kE542 [kC542_0, kC542_1, kC542_2, kC542_3] 30000 (some kC542_3) = true := by decide +kernel
theorem kok542 : aOK kS krf kB kE542 := aOK_of (kal1 kok43 (kal1 kok87 (kal1 kok414 (kal1 kok478 (kal1 kok510 (kal1 kok526 (kal1 kok534 (kal1 kok540 kal0)))))))) (kcl1 ks542_0 (kcl1 ks542_1 (kcl1 ks542_2 (kcl1 ks542_3 kcl0)))) ks542
/-- ColdShodModel.triesWay(IIIII)V -/
def kE543 : aE := (192, 53, ([kvB 0 7, kvB 0 7, kvB 0 7], [], 0, [kvR 102, kvI 0, kvI 1, kvI 2, kvN 4, kvN 0, none, none], []), ([], none), ([], [], none, ([], [])), kvW65)
def kC543_0 : aC := (([kvB 0 7, kvB 0 7, kvB 0 7], [], 16, [kvR 102, kvI 0, kvI 1, kvI 2, kvN 4, kvN 0, kvN 1, kvN 0], []), ([], []), (166, []))
def kC543_1 : aC := (([kvB 0 7, kvB 0 7, kvB 0 7, kvB 0 12], [], 141, [kvR 102, kvI 0, kvI 1, kvI 2, kvN 4, kvN 0, kvI 3, none], []), ([], []), (141, [(-11, 3)]))
def kC543_2 : aC := (([kvB 0 7, kvB 0 7, kvB 0 7, (.negSucc 0, .ofNat 99)], [(102, 29, .inl (3, .ofNat 0)), (102, 30, .inr (.ofNat 0))], 110, [kvR 102, kvI 0, kvI 1, kvI 2, kvN 4, kvN 0, kvN 1, kvN 0], []), ([], []), (0, []))
def kC543_3 : aC := (([kvB 0 7, kvB 0 7, kvB 0 7, kvB 0 11, (.negSucc 0, .ofNat 7), kvB 1 12], [(102, 8, .inl (5, .ofNat 0))], 195, [kvR 102, kvI 0, kvI 1, kvI 2, kvN 4, kvN 0, kvI 3, kvI 4], []), ([], []), (139, [(-11, 3), (-1, 4)]))
theorem ks543 : aseg kS krf kB [kE43, kE415, kE479, kE511, kE527, kE535, kE541, kE542] (ksp [(192, 200, 7, 0, 7, 0)]) kE543 [kC543_0, kC543_1, kC543_2, kC543_3] 30000 (none) = true := by decide +kernel
theorem ks543_0 : aseg kS krf kB [kE43, kE415, kE479, kE511, kE527, kE535, kE541, kE542] (ksp [(192, 200, 7, 0, 7, 0)]) kE543 [kC543_0, kC543_1, kC543_2, kC543_3] 30000 (some kC543_0) = true := by decide +kernel
theorem ks543_1 : aseg kS krf kB [kE43, kE415, kE479, kE511, kE527, kE535, kE541, kE542] (ksp [(192, 200, 7, 0, 7, 0)]) kE543 [kC543_0, kC543_1, kC543_2, kC543_3] 30000 (some kC543_1) = true := by decide +kernel
theorem ks543_2 : aseg kS krf kB [kE43, kE415, kE479, kE511, kE527, kE535, kE541, kE542] (ksp [(192, 200, 7, 0, 7, 0)]) kE543 [kC543_0, kC543_1, kC543_2, kC543_3] 30000 (some kC543_2) = true := by decide +kernel
theorem ks543_3 : aseg kS krf kB [kE43, kE415, kE479, kE511, kE527, kE535, kE541, kE542] (ksp [(192, 200, 7, 0, 7, 0)]) kE543 [kC543_0, kC543_1, kC543_2, kC543_3] 30000 (some kC543_3) = true := by decide +kernel
theorem kok543 : aOK kS krf kB kE543 := aOK_of (kal1 kok43 (kal1 kok415 (kal1 kok479 (kal1 kok511 (kal1 kok527 (kal1 kok535 (kal1 kok541 (kal1 kok542 kal0)))))))) (kcl1 ks543_0 (kcl1 ks543_1 (kcl1 ks543_2 (kcl1 ks543_3 kcl0)))) ks543
/-- ColdShodModel.triesWay(IIIII)V -/
def kE544 : aE := (192, 52, ([kvB 0 7, kvB 0 7, kvB 0 7], [], 0, [kvR 102, kvI 0, kvI 1, kvI 2, kvN 3, kvN 1, none, none], []), ([], none), ([], [], none, ([], [])), kvW64)
def kC544_0 : aC := (([kvB 0 7, kvB 0 7, kvB 0 7, kvB 0 1, kvB 0 1], [], 16, [kvR 102, kvI 0, kvI 1, kvI 2, kvN 3, kvN 1, kvI 3, kvI 4], []), ([], []), (167, [(-1, 4)]))
def kC544_1 : aC := (([kvB 0 7, kvB 0 7, kvB 0 7, kvB 0 12], [], 141, [kvR 102, kvI 0, kvI 1, kvI 2, kvN 3, kvN 1, kvI 3, none], []), ([], []), (141, [(-11, 3)]))
def kC544_2 : aC := (([kvB 0 7, kvB 0 7, kvB 0 7, kvB 0 11, (.negSucc 0, .ofNat 7), kvB 1 12], [(102, 8, .inl (5, .ofNat 0))], 195, [kvR 102, kvI 0, kvI 1, kvI 2, kvN 3, kvN 1, kvI 3, kvI 4], []), ([], []), (139, [(-11, 3), (-1, 4)]))
def kC544_3 : aC := (([kvB 0 7, kvB 0 7, kvB 0 7, kvB 0 1, (.negSucc 0, .ofNat 99)], [(102, 29, .inl (4, .ofNat 0)), (102, 30, .inr (.ofNat 1))], 110, [kvR 102, kvI 0, kvI 1, kvI 2, kvN 3, kvN 1, kvN 1, kvI 3], []), ([], []), (1, [(-1, 3)]))
theorem ks544 : aseg kS krf kB [kE43, kE87, kE416, kE480, kE512, kE528, kE536, kE540] (ksp [(192, 200, 7, 0, 7, 0)]) kE544 [kC544_0, kC544_1, kC544_2, kC544_3] 30000 (none) = true := by decide +kernel
theorem ks544_0 : aseg kS krf kB [kE43, kE87, kE416, kE480, kE512, kE528, kE536, kE540] (ksp [(192, 200, 7, 0, 7, 0)]) kE544 [kC544_0, kC544_1, kC544_2, kC544_3] 30000 (some kC544_0) = true := by decide +kernel
theorem ks544_1 : aseg kS krf kB [kE43, kE87, kE416, kE480, kE512, kE528, kE536, kE540] (ksp [(192, 200, 7, 0, 7, 0)]) kE544 [kC544_0, kC544_1, kC544_2, kC544_3] 30000 (some kC544_1) = true := by decide +kernel
theorem ks544_2 : aseg kS krf kB [kE43, kE87, kE416, kE480, kE512, kE528, kE536, kE540] (ksp [(192, 200, 7, 0, 7, 0)]) kE544 [kC544_0, kC544_1, kC544_2, kC544_3] 30000 (some kC544_2) = true := by decide +kernel
theorem ks544_3 : aseg kS krf kB [kE43, kE87, kE416, kE480, kE512, kE528, kE536, kE540] (ksp [(192, 200, 7, 0, 7, 0)]) kE544 [kC544_0, kC544_1, kC544_2, kC544_3] 30000 (some kC544_3) = true := by decide +kernel
theorem kok544 : aOK kS krf kB kE544 := aOK_of (kal1 kok43 (kal1 kok87 (kal1 kok416 (kal1 kok480 (kal1 kok512 (kal1 kok528 (kal1 kok536 (kal1 kok540 kal0)))))))) (kcl1 ks544_0 (kcl1 ks544_1 (kcl1 ks544_2 (kcl1 ks544_3 kcl0)))) ks544
/-- ColdShodModel.triesWay(IIIII)V -/
def kE545 : aE := (192, 53, ([kvB 0 7, kvB 0 7, kvB 0 7], [], 0, [kvR 102, kvI 0, kvI 1, kvI 2, kvN 2, kvN 0, none, none], []), ([], none), ([], [], none, ([], [])), kvW65)
def kC545_0 : aC := (([kvB 0 7, kvB 0 7, kvB 0 7], [], 16, [kvR 102, kvI 0, kvI 1, kvI 2, kvN 2, kvN 0, kvN 1, kvN 0], []), ([], []), (166, []))
def kC545_1 : aC := (([kvB 0 7, kvB 0 7, kvB 0 7, kvB 0 12], [], 141, [kvR 102, kvI 0, kvI 1, kvI 2, kvN 2, kvN 0, kvI 3, none], []), ([], []), (141, [(-11, 3)]))
def kC545_2 : aC := (([kvB 0 7, kvB 0 7, kvB 0 7, (.negSucc 0, .ofNat 99)], [(102, 29, .inl (3, .ofNat 0)), (102, 30, .inr (.ofNat 0))], 110, [kvR 102, kvI 0, kvI 1, kvI 2, kvN 2, kvN 0, kvN 1, kvN 0], []), ([], []), (0, []))
def kC545_3 : aC := (([kvB 0 7, kvB 0 7, kvB 0 7, kvB 0 11, (.negSucc 0, .ofNat 7), kvB 1 12], [(102, 8, .inl (5, .ofNat 0))], 195, [kvR 102, kvI 0, kvI 1, kvI 2, kvN 2, kvN 0, kvI 3, kvI 4], []), ([], []), (139, [(-11, 3), (-1, 4)]))
theorem ks545 : aseg kS krf kB [kE43, kE417, kE481, kE513, kE529, kE537, kE541, kE544] (ksp [(192, 200, 7, 0, 7, 0)]) kE545 [kC545_0, kC545_1, kC545_2, kC545_3] 30000 (none) = true := by decide +kernel
theorem ks545_0 : aseg kS krf kB [kE43, kE417, kE481, kE513, kE529, kE537, kE541, kE544] (ksp [(192, 200, 7, 0, 7, 0)]) kE545 [kC545_0, kC545_1, kC545_2, kC545_3] 30000 (some kC545_0) = true := by decide +kernel
theorem ks545_1 : aseg kS krf kB [kE43, kE417, kE481, kE513, kE529, kE537, kE541, kE544] (ksp [(192, 200, 7, 0, 7, 0)]) kE545 [kC545_0, kC545_1, kC545_2, kC545_3] 30000 (some kC545_1) = true := by decide +kernel
theorem ks545_2 : aseg kS krf kB [kE43, kE417, kE481, kE513, kE529, kE537, kE541, kE544] (ksp [(192, 200, 7, 0, 7, 0)]) kE545 [kC545_0, kC545_1, kC545_2, kC545_3] 30000 (some kC545_2) = true := by decide +kernel
theorem ks545_3 : aseg kS krf kB [kE43, kE417, kE481, kE513, kE529, kE537, kE541, kE544] (ksp [(192, 200, 7, 0, 7, 0)]) kE545 [kC545_0, kC545_1, kC545_2, kC545_3] 30000 (some kC545_3) = true := by decide +kernel
theorem kok545 : aOK kS krf kB kE545 := aOK_of (kal1 kok43 (kal1 kok417 (kal1 kok481 (kal1 kok513 (kal1 kok529 (kal1 kok537 (kal1 kok541 (kal1 kok544 kal0)))))))) (kcl1 ks545_0 (kcl1 ks545_1 (kcl1 ks545_2 (kcl1 ks545_3 kcl0)))) ks545
/-- ColdShodModel.triesWay(IIIII)V -/
def kE546 : aE := (192, 53, ([kvB 0 7, kvB 0 7, kvB 0 7], [], 0, [kvR 102, kvI 0, kvI 1, kvI 2, kvN 1, kvN 0, none, none], []), ([], none), ([], [], none, ([], [])), kvW65)
def kC546_0 : aC := (([kvB 0 7, kvB 0 7, kvB 0 7], [], 16, [kvR 102, kvI 0, kvI 1, kvI 2, kvN 1, kvN 0, kvN 1, kvN 0], []), ([], []), (166, []))
def kC546_1 : aC := (([kvB 0 7, kvB 0 7, kvB 0 7, kvB 0 12], [], 141, [kvR 102, kvI 0, kvI 1, kvI 2, kvN 1, kvN 0, kvI 3, none], []), ([], []), (141, [(-11, 3)]))
def kC546_2 : aC := (([kvB 0 7, kvB 0 7, kvB 0 7, (.negSucc 0, .ofNat 99)], [(102, 29, .inl (3, .ofNat 0)), (102, 30, .inr (.ofNat 0))], 110, [kvR 102, kvI 0, kvI 1, kvI 2, kvN 1, kvN 0, kvN 1, kvN 0], []), ([], []), (0, []))
def kC546_3 : aC := (([kvB 0 7, kvB 0 7, kvB 0 7, kvB 0 11, (.negSucc 0, .ofNat 7), kvB 1 12], [(102, 8, .inl (5, .ofNat 0))], 195, [kvR 102, kvI 0, kvI 1, kvI 2, kvN 1, kvN 0, kvI 3, kvI 4], []), ([], []), (139, [(-11, 3), (-1, 4)]))
theorem ks546 : aseg kS krf kB [kE43, kE418, kE482, kE514, kE530, kE538, kE542, kE544] (ksp [(192, 200, 7, 0, 7, 0)]) kE546 [kC546_0, kC546_1, kC546_2, kC546_3] 30000 (none) = true := by decide +kernel
theorem ks546_0 : aseg kS krf kB [kE43, kE418, kE482, kE514, kE530, kE538, kE542, kE544] (ksp [(192, 200, 7, 0, 7, 0)]) kE546 [kC546_0, kC546_1, kC546_2, kC546_3] 30000 (some kC546_0) = true := by decide +kernel
theorem ks546_1 : aseg kS krf kB [kE43, kE418, kE482, kE514, kE530, kE538, kE542, kE544] (ksp [(192, 200, 7, 0, 7, 0)]) kE546 [kC546_0, kC546_1, kC546_2, kC546_3] 30000 (some kC546_1) = true := by decide +kernel
theorem ks546_2 : aseg kS krf kB [kE43, kE418, kE482, kE514, kE530, kE538, kE542, kE544] (ksp [(192, 200, 7, 0, 7, 0)]) kE546 [kC546_0, kC546_1, kC546_2, kC546_3] 30000 (some kC546_2) = true := by decide +kernel
theorem ks546_3 : aseg kS krf kB [kE43, kE418, kE482, kE514, kE530, kE538, kE542, kE544] (ksp [(192, 200, 7, 0, 7, 0)]) kE546 [kC546_0, kC546_1, kC546_2, kC546_3] 30000 (some kC546_3) = true := by decide +kernel
theorem kok546 : aOK kS krf kB kE546 := aOK_of (kal1 kok43 (kal1 kok418 (kal1 kok482 (kal1 kok514 (kal1 kok530 (kal1 kok538 (kal1 kok542 (kal1 kok544 kal0)))))))) (kcl1 ks546_0 (kcl1 ks546_1 (kcl1 ks546_2 (kcl1 ks546_3 kcl0)))) ks546
/-- ColdShodModel.way(III)I -/
def kE547 : aE := (193, 54, ([(.negSucc 2147483647, .ofNat 2147483647), (.negSucc 2147483647, .ofNat 2147483647), (.negSucc 2147483647, .ofNat 2147483647)], [], 0, [some (.inr [102]), some (.inl (.inl (.inl (0, .ofNat 0)))), some (.inl (.inl (.inl (1, .ofNat 0)))), some (.inl (.inl (.inl (2, .ofNat 0))))], []), ([], none), ([(.negSucc 2147483647, .ofNat 2147483647)], [], some (.inl (.inl (.inl (3, .ofNat 0)))), ([], [])), ([(102, 15), (102, 16), (102, 17), (102, 18), (102, 19), (102, 22), (102, 23), (102, 29), (102, 30), (111, 0), (111, 1), (111, 2), (111, 3), (111, 4), (111, 5), (114, 0), (114, 1), (114, 2), (114, 3), (114, 4), (114, 5), (114, 6)], [112, 115]))
theorem ks547 : aseg kS krf kB [kE419, kE483, kE515, kE531, kE539, kE543, kE545, kE546] (ksp [(193, 0, 2, 0, 79, 9), (193, 99, 3, -2, 8, 0)]) kE547 [] 30000 (none) = true := by decide +kernel
theorem kok547 : aOK kS krf kB kE547 := aOK_of (kal1 kok419 (kal1 kok483 (kal1 kok515 (kal1 kok531 (kal1 kok539 (kal1 kok543 (kal1 kok545 (kal1 kok546 kal0)))))))) kcl0 ks547
