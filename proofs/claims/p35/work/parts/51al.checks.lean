/-! ENTRIES and their checks: printed by a program (wip/ai). -/
/-- ColdShodModel.triesWay(IIIII)V -/
def kE406 : aE := (192, 50, ([kvB 0 7, kvB 0 7, kvB 0 7], [], 0, [kvR 102, kvI 0, kvI 1, kvI 2, kvN 141, kvN 3, none, none], []), ([], none), ([], [], none, ([], [])), kvW62)
def kC406_0 : aC := (([kvB 0 7, kvB 0 7, kvB 0 7, kvB 0 1, kvB 0 3], [], 16, [kvR 102, kvI 0, kvI 1, kvI 2, kvN 141, kvN 3, kvI 3, kvI 4], []), ([], []), (169, [(-1, 4)]))
def kC406_1 : aC := (([kvB 0 7, kvB 0 7, kvB 0 7, kvB 0 12], [], 141, [kvR 102, kvI 0, kvI 1, kvI 2, kvN 141, kvN 3, kvI 3, none], []), ([], []), (141, [(-11, 3)]))
def kC406_2 : aC := (([kvB 0 7, kvB 0 7, kvB 0 7, kvB 0 11, (.negSucc 0, .ofNat 7), kvB 1 12], [(102, 8, .inl (5, .ofNat 0))], 195, [kvR 102, kvI 0, kvI 1, kvI 2, kvN 141, kvN 3, kvI 3, kvI 4], []), ([], []), (139, [(-11, 3), (-1, 4)]))
def kC406_3 : aC := (([kvB 0 7, kvB 0 7, kvB 0 7, kvB 0 3, (.negSucc 0, .ofNat 99)], [(102, 29, .inl (4, .ofNat 0)), (102, 30, .inr (.ofNat 3))], 110, [kvR 102, kvI 0, kvI 1, kvI 2, kvN 141, kvN 3, kvN 1, kvI 3], []), ([], []), (3, [(-1, 3)]))
theorem ks406 : aseg kS krf kB [kE43, kE87, kE342, kE374, kE390, kE404] (ksp [(192, 200, 7, 0, 7, 0)]) kE406 [kC406_0, kC406_1, kC406_2, kC406_3] 30000 (none) = true := by decide +kernel
theorem ks406_0 : aseg kS krf kB [kE43, kE87, kE342, kE374, kE390, kE404] (ksp [(192, 200, 7, 0, 7, 0)]) kE406 [kC406_0, kC406_1, kC406_2, kC406_3] 30000 (some kC406_0) = true := by decide +kernel
theorem ks406_1 : aseg kS krf kB [kE43, kE87, kE342, kE374, kE390, kE404] (ksp [(192, 200, 7, 0, 7, 0)]) kE406 [kC406_0, kC406_1, kC406_2, kC406_3] 30000 (some kC406_1) = true := by decide +kernel
theorem ks406_2 : aseg kS krf kB [kE43, kE87, kE342, kE374, kE390, kE404] (ksp [(192, 200, 7, 0, 7, 0)]) kE406 [kC406_0, kC406_1, kC406_2, kC406_3] 30000 (some kC406_2) = true := by decide +kernel
theorem ks406_3 : aseg kS krf kB [kE43, kE87, kE342, kE374, kE390, kE404] (ksp [(192, 200, 7, 0, 7, 0)]) kE406 [kC406_0, kC406_1, kC406_2, kC406_3] 30000 (some kC406_3) = true := by decide +kernel
theorem kok406 : aOK kS krf kB kE406 := aOK_of (kal1 kok43 (kal1 kok87 (kal1 kok342 (kal1 kok374 (kal1 kok390 (kal1 kok404 kal0)))))) (kcl1 ks406_0 (kcl1 ks406_1 (kcl1 ks406_2 (kcl1 ks406_3 kcl0)))) ks406
/-- ColdShodModel.triesWay(IIIII)V -/
def kE407 : aE := (192, 51, ([kvB 0 7, kvB 0 7, kvB 0 7], [], 0, [kvR 102, kvI 0, kvI 1, kvI 2, kvN 140, kvN 2, none, none], []), ([], none), ([], [], none, ([], [])), kvW63)
def kC407_0 : aC := (([kvB 0 7, kvB 0 7, kvB 0 7, kvB 0 1, kvB 0 2], [], 16, [kvR 102, kvI 0, kvI 1, kvI 2, kvN 140, kvN 2, kvI 3, kvI 4], []), ([], []), (168, [(-1, 4)]))
def kC407_1 : aC := (([kvB 0 7, kvB 0 7, kvB 0 7, kvB 0 12], [], 141, [kvR 102, kvI 0, kvI 1, kvI 2, kvN 140, kvN 2, kvI 3, none], []), ([], []), (141, [(-11, 3)]))
def kC407_2 : aC := (([kvB 0 7, kvB 0 7, kvB 0 7, kvB 0 11, (.negSucc 0, .ofNat 7), kvB 1 12], [(102, 8, .inl (5, .ofNat 0))], 195, [kvR 102, kvI 0, kvI 1, kvI 2, kvN 140, kvN 2, kvI 3, kvI 4], []), ([], []), (139, [(-11, 3), (-1, 4)]))
def kC407_3 : aC := (([kvB 0 7, kvB 0 7, kvB 0 7, kvB 0 2, (.negSucc 0, .ofNat 99)], [(102, 29, .inl (4, .ofNat 0)), (102, 30, .inr (.ofNat 2))], 110, [kvR 102, kvI 0, kvI 1, kvI 2, kvN 140, kvN 2, kvN 1, kvI 3], []), ([], []), (2, [(-1, 3)]))
theorem ks407 : aseg kS krf kB [kE43, kE87, kE343, kE375, kE391, kE405, kE406] (ksp [(192, 200, 7, 0, 7, 0)]) kE407 [kC407_0, kC407_1, kC407_2, kC407_3] 30000 (none) = true := by decide +kernel
theorem ks407_0 : aseg kS krf kB [kE43, kE87, kE343, kE375, kE391, kE405, kE406] (ksp [(192, 200, 7, 0, 7, 0)]) kE407 [kC407_0, kC407_1, kC407_2, kC407_3] 30000 (some kC407_0) = true := by decide +kernel
theorem ks407_1 : aseg kS krf kB [kE43, kE87, kE343, kE375, kE391, kE405, kE406] (ksp [(192, 200, 7, 0, 7, 0)]) kE407 [kC407_0, kC407_1, kC407_2, kC407_3] 30000 (some kC407_1) = true := by decide +kernel
theorem ks407_2 : aseg kS krf kB [kE43, kE87, kE343, kE375, kE391, kE405, kE406] (ksp [(192, 200, 7, 0, 7, 0)]) kE407 [kC407_0, kC407_1, kC407_2, kC407_3] 30000 (some kC407_2) = true := by decide +kernel
theorem ks407_3 : aseg kS krf kB [kE43, kE87, kE343, kE375, kE391, kE405, kE406] (ksp [(192, 200, 7, 0, 7, 0)]) kE407 [kC407_0, kC407_1, kC407_2, kC407_3] 30000 (some kC407_3) = true := by decide +kernel
theorem kok407 : aOK kS krf kB kE407 := aOK_of (kal1 kok43 (kal1 kok87 (kal1 kok343 (kal1 kok375 (kal1 kok391 (kal1 kok405 (kal1 kok406 kal0))))))) (kcl1 ks407_0 (kcl1 ks407_1 (kcl1 ks407_2 (kcl1 ks407_3 kcl0)))) ks407
/-- ColdShodModel.triesWay(IIIII)V -/
def kE408 : aE := (192, 50, ([kvB 0 7, kvB 0 7, kvB 0 7], [], 0, [kvR 102, kvI 0, kvI 1, kvI 2, kvN 139, kvN 3, none, none], []), ([], none), ([], [], none, ([], [])), kvW62)
def kC408_0 : aC := (([kvB 0 7, kvB 0 7, kvB 0 7, kvB 0 1, kvB 0 3], [], 16, [kvR 102, kvI 0, kvI 1, kvI 2, kvN 139, kvN 3, kvI 3, kvI 4], []), ([], []), (169, [(-1, 4)]))
def kC408_1 : aC := (([kvB 0 7, kvB 0 7, kvB 0 7, kvB 0 12], [], 141, [kvR 102, kvI 0, kvI 1, kvI 2, kvN 139, kvN 3, kvI 3, none], []), ([], []), (141, [(-11, 3)]))
def kC408_2 : aC := (([kvB 0 7, kvB 0 7, kvB 0 7, kvB 0 11, (.negSucc 0, .ofNat 7), kvB 1 12], [(102, 8, .inl (5, .ofNat 0))], 195, [kvR 102, kvI 0, kvI 1, kvI 2, kvN 139, kvN 3, kvI 3, kvI 4], []), ([], []), (139, [(-11, 3), (-1, 4)]))
def kC408_3 : aC := (([kvB 0 7, kvB 0 7, kvB 0 7, kvB 0 3, (.negSucc 0, .ofNat 99)], [(102, 29, .inl (4, .ofNat 0)), (102, 30, .inr (.ofNat 3))], 110, [kvR 102, kvI 0, kvI 1, kvI 2, kvN 139, kvN 3, kvN 1, kvI 3], []), ([], []), (3, [(-1, 3)]))
theorem ks408 : aseg kS krf kB [kE43, kE87, kE344, kE376, kE392, kE404] (ksp [(192, 200, 7, 0, 7, 0)]) kE408 [kC408_0, kC408_1, kC408_2, kC408_3] 30000 (none) = true := by decide +kernel
theorem ks408_0 : aseg kS krf kB [kE43, kE87, kE344, kE376, kE392, kE404] (ksp [(192, 200, 7, 0, 7, 0)]) kE408 [kC408_0, kC408_1, kC408_2, kC408_3] 30000 (some kC408_0) = true := by decide +kernel
theorem ks408_1 : aseg kS krf kB [kE43, kE87, kE344, kE376, kE392, kE404] (ksp [(192, 200, 7, 0, 7, 0)]) kE408 [kC408_0, kC408_1, kC408_2, kC408_3] 30000 (some kC408_1) = true := by decide +kernel
theorem ks408_2 : aseg kS krf kB [kE43, kE87, kE344, kE376, kE392, kE404] (ksp [(192, 200, 7, 0, 7, 0)]) kE408 [kC408_0, kC408_1, kC408_2, kC408_3] 30000 (some kC408_2) = true := by decide +kernel
theorem ks408_3 : aseg kS krf kB [kE43, kE87, kE344, kE376, kE392, kE404] (ksp [(192, 200, 7, 0, 7, 0)]) kE408 [kC408_0, kC408_1, kC408_2, kC408_3] 30000 (some kC408_3) = true := by decide +kernel
theorem kok408 : aOK kS krf kB kE408 := aOK_of (kal1 kok43 (kal1 kok87 (kal1 kok344 (kal1 kok376 (kal1 kok392 (kal1 kok404 kal0)))))) (kcl1 ks408_0 (kcl1 ks408_1 (kcl1 ks408_2 (kcl1 ks408_3 kcl0)))) ks408
/-- ColdShodModel.triesWay(IIIII)V -/
def kE409 : aE := (192, 51, ([kvB 0 7, kvB 0 7, kvB 0 7], [], 0, [kvR 102, kvI 0, kvI 1, kvI 2, kvN 138, kvN 2, none, none], []), ([], none), ([], [], none, ([], [])), kvW63)
def kC409_0 : aC := (([kvB 0 7, kvB 0 7, kvB 0 7, kvB 0 1, kvB 0 2], [], 16, [kvR 102, kvI 0, kvI 1, kvI 2, kvN 138, kvN 2, kvI 3, kvI 4], []), ([], []), (168, [(-1, 4)]))
def kC409_1 : aC := (([kvB 0 7, kvB 0 7, kvB 0 7, kvB 0 12], [], 141, [kvR 102, kvI 0, kvI 1, kvI 2, kvN 138, kvN 2, kvI 3, none], []), ([], []), (141, [(-11, 3)]))
def kC409_2 : aC := (([kvB 0 7, kvB 0 7, kvB 0 7, kvB 0 11, (.negSucc 0, .ofNat 7), kvB 1 12], [(102, 8, .inl (5, .ofNat 0))], 195, [kvR 102, kvI 0, kvI 1, kvI 2, kvN 138, kvN 2, kvI 3, kvI 4], []), ([], []), (139, [(-11, 3), (-1, 4)]))
def kC409_3 : aC := (([kvB 0 7, kvB 0 7, kvB 0 7, kvB 0 2, (.negSucc 0, .ofNat 99)], [(102, 29, .inl (4, .ofNat 0)), (102, 30, .inr (.ofNat 2))], 110, [kvR 102, kvI 0, kvI 1, kvI 2, kvN 138, kvN 2, kvN 1, kvI 3], []), ([], []), (2, [(-1, 3)]))
theorem ks409 : aseg kS krf kB [kE43, kE87, kE345, kE377, kE393, kE405, kE408] (ksp [(192, 200, 7, 0, 7, 0)]) kE409 [kC409_0, kC409_1, kC409_2, kC409_3] 30000 (none) = true := by decide +kernel
theorem ks409_0 : aseg kS krf kB [kE43, kE87, kE345, kE377, kE393, kE405, kE408] (ksp [(192, 200, 7, 0, 7, 0)]) kE409 [kC409_0, kC409_1, kC409_2, kC409_3] 30000 (some kC409_0) = true := by decide +kernel
theorem ks409_1 : aseg kS krf kB [kE43, kE87, kE345, kE377, kE393, kE405, kE408] (ksp [(192, 200, 7, 0, 7, 0)]) kE409 [kC409_0, kC409_1, kC409_2, kC409_3] 30000 (some kC409_1) = true := by decide +kernel
theorem ks409_2 : aseg kS krf kB [kE43, kE87, kE345, kE377, kE393, kE405, kE408] (ksp [(192, 200, 7, 0, 7, 0)]) kE409 [kC409_0, kC409_1, kC409_2, kC409_3] 30000 (some kC409_2) = true := by decide +kernel
theorem ks409_3 : aseg kS krf kB [kE43, kE87, kE345, kE377, kE393, kE405, kE408] (ksp [(192, 200, 7, 0, 7, 0)]) kE409 [kC409_0, kC409_1, kC409_2, kC409_3] 30000 (some kC409_3) = true := by decide +kernel
theorem kok409 : aOK kS krf kB kE409 := aOK_of (kal1 kok43 (kal1 kok87 (kal1 kok345 (kal1 kok377 (kal1 kok393 (kal1 kok405 (kal1 kok408 kal0))))))) (kcl1 ks409_0 (kcl1 ks409_1 (kcl1 ks409_2 (kcl1 ks409_3 kcl0)))) ks409
/-- ColdShodModel.triesWay(IIIII)V -/
def kE410 : aE := (192, 51, ([kvB 0 7, kvB 0 7, kvB 0 7], [], 0, [kvR 102, kvI 0, kvI 1, kvI 2, kvN 137, kvN 2, none, none], []), ([], none), ([], [], none, ([], [])), kvW63)
def kC410_0 : aC := (([kvB 0 7, kvB 0 7, kvB 0 7, kvB 0 1, kvB 0 2], [], 16, [kvR 102, kvI 0, kvI 1, kvI 2, kvN 137, kvN 2, kvI 3, kvI 4], []), ([], []), (168, [(-1, 4)]))
def kC410_1 : aC := (([kvB 0 7, kvB 0 7, kvB 0 7, kvB 0 12], [], 141, [kvR 102, kvI 0, kvI 1, kvI 2, kvN 137, kvN 2, kvI 3, none], []), ([], []), (141, [(-11, 3)]))
def kC410_2 : aC := (([kvB 0 7, kvB 0 7, kvB 0 7, kvB 0 11, (.negSucc 0, .ofNat 7), kvB 1 12], [(102, 8, .inl (5, .ofNat 0))], 195, [kvR 102, kvI 0, kvI 1, kvI 2, kvN 137, kvN 2, kvI 3, kvI 4], []), ([], []), (139, [(-11, 3), (-1, 4)]))
def kC410_3 : aC := (([kvB 0 7, kvB 0 7, kvB 0 7, kvB 0 2, (.negSucc 0, .ofNat 99)], [(102, 29, .inl (4, .ofNat 0)), (102, 30, .inr (.ofNat 2))], 110, [kvR 102, kvI 0, kvI 1, kvI 2, kvN 137, kvN 2, kvN 1, kvI 3], []), ([], []), (2, [(-1, 3)]))
theorem ks410 : aseg kS krf kB [kE43, kE87, kE346, kE378, kE394, kE406, kE408] (ksp [(192, 200, 7, 0, 7, 0)]) kE410 [kC410_0, kC410_1, kC410_2, kC410_3] 30000 (none) = true := by decide +kernel
theorem ks410_0 : aseg kS krf kB [kE43, kE87, kE346, kE378, kE394, kE406, kE408] (ksp [(192, 200, 7, 0, 7, 0)]) kE410 [kC410_0, kC410_1, kC410_2, kC410_3] 30000 (some kC410_0) = true := by decide +kernel
theorem ks410_1 : aseg kS krf kB [kE43, kE87, kE346, kE378, kE394, kE406, kE408] (ksp [(192, 200, 7, 0, 7, 0)]) kE410 [kC410_0, kC410_1, kC410_2, kC410_3] 30000 (some kC410_1) = true := by decide +kernel
theorem ks410_2 : aseg kS krf kB [kE43, kE87, kE346, kE378, kE394, kE406, kE408] (ksp [(192, 200, 7, 0, 7, 0)]) kE410 [kC410_0, kC410_1, kC410_2, kC410_3] 30000 (some kC410_2) = true := by decide +kernel
theorem ks410_3 : aseg kS krf kB [kE43, kE87, kE346, kE378, kE394, kE406, kE408] (ksp [(192, 200, 7, 0, 7, 0)]) kE410 [kC410_0, kC410_1, kC410_2, kC410_3] 30000 (some kC410_3) = true := by decide +kernel
theorem kok410 : aOK kS krf kB kE410 := aOK_of (kal1 kok43 (kal1 kok87 (kal1 kok346 (kal1 kok378 (kal1 kok394 (kal1 kok406 (kal1 kok408 kal0))))))) (kcl1 ks410_0 (kcl1 ks410_1 (kcl1 ks410_2 (kcl1 ks410_3 kcl0)))) ks410
/-- ColdShodModel.triesWay(IIIII)V -/
def kE411 : aE := (192, 52, ([kvB 0 7, kvB 0 7, kvB 0 7], [], 0, [kvR 102, kvI 0, kvI 1, kvI 2, kvN 136, kvN 1, none, none], []), ([], none), ([], [], none, ([], [])), kvW64)
def kC411_0 : aC := (([kvB 0 7, kvB 0 7, kvB 0 7, kvB 0 1, kvB 0 1], [], 16, [kvR 102, kvI 0, kvI 1, kvI 2, kvN 136, kvN 1, kvI 3, kvI 4], []), ([], []), (167, [(-1, 4)]))
def kC411_1 : aC := (([kvB 0 7, kvB 0 7, kvB 0 7, kvB 0 12], [], 141, [kvR 102, kvI 0, kvI 1, kvI 2, kvN 136, kvN 1, kvI 3, none], []), ([], []), (141, [(-11, 3)]))
def kC411_2 : aC := (([kvB 0 7, kvB 0 7, kvB 0 7, kvB 0 11, (.negSucc 0, .ofNat 7), kvB 1 12], [(102, 8, .inl (5, .ofNat 0))], 195, [kvR 102, kvI 0, kvI 1, kvI 2, kvN 136, kvN 1, kvI 3, kvI 4], []), ([], []), (139, [(-11, 3), (-1, 4)]))
def kC411_3 : aC := (([kvB 0 7, kvB 0 7, kvB 0 7, kvB 0 1, (.negSucc 0, .ofNat 99)], [(102, 29, .inl (4, .ofNat 0)), (102, 30, .inr (.ofNat 1))], 110, [kvR 102, kvI 0, kvI 1, kvI 2, kvN 136, kvN 1, kvN 1, kvI 3], []), ([], []), (1, [(-1, 3)]))
theorem ks411 : aseg kS krf kB [kE43, kE87, kE347, kE379, kE395, kE407, kE409, kE410] (ksp [(192, 200, 7, 0, 7, 0)]) kE411 [kC411_0, kC411_1, kC411_2, kC411_3] 30000 (none) = true := by decide +kernel
theorem ks411_0 : aseg kS krf kB [kE43, kE87, kE347, kE379, kE395, kE407, kE409, kE410] (ksp [(192, 200, 7, 0, 7, 0)]) kE411 [kC411_0, kC411_1, kC411_2, kC411_3] 30000 (some kC411_0) = true := by decide +kernel
theorem ks411_1 : aseg kS krf kB [kE43, kE87, kE347, kE379, kE395, kE407, kE409, kE410] (ksp [(192, 200, 7, 0, 7, 0)]) kE411 [kC411_0, kC411_1, kC411_2, kC411_3] 30000 (some kC411_1) = true := by decide +kernel
theorem ks411_2 : aseg kS krf kB [kE43, kE87, kE347, kE379, kE395, kE407, kE409, kE410] (ksp [(192, 200, 7, 0, 7, 0)]) kE411 [kC411_0, kC411_1, kC411_2, kC411_3] 30000 (some kC411_2) = true := by decide +kernel
theorem ks411_3 : aseg kS krf kB [kE43, kE87, kE347, kE379, kE395, kE407, kE409, kE410] (ksp [(192, 200, 7, 0, 7, 0)]) kE411 [kC411_0, kC411_1, kC411_2, kC411_3] 30000 (some kC411_3) = true := by decide +kernel
theorem kok411 : aOK kS krf kB kE411 := aOK_of (kal1 kok43 (kal1 kok87 (kal1 kok347 (kal1 kok379 (kal1 kok395 (kal1 kok407 (kal1 kok409 (kal1 kok410 kal0)))))))) (kcl1 ks411_0 (kcl1 ks411_1 (kcl1 ks411_2 (kcl1 ks411_3 kcl0)))) ks411
/-- ColdShodModel.triesWay(IIIII)V -/
def kE412 : aE := (192, 50, ([kvB 0 7, kvB 0 7, kvB 0 7], [], 0, [kvR 102, kvI 0, kvI 1, kvI 2, kvN 135, kvN 3, none, none], []), ([], none), ([], [], none, ([], [])), kvW62)
def kC412_0 : aC := (([kvB 0 7, kvB 0 7, kvB 0 7, kvB 0 1, kvB 0 3], [], 16, [kvR 102, kvI 0, kvI 1, kvI 2, kvN 135, kvN 3, kvI 3, kvI 4], []), ([], []), (169, [(-1, 4)]))
def kC412_1 : aC := (([kvB 0 7, kvB 0 7, kvB 0 7, kvB 0 12], [], 141, [kvR 102, kvI 0, kvI 1, kvI 2, kvN 135, kvN 3, kvI 3, none], []), ([], []), (141, [(-11, 3)]))
def kC412_2 : aC := (([kvB 0 7, kvB 0 7, kvB 0 7, kvB 0 11, (.negSucc 0, .ofNat 7), kvB 1 12], [(102, 8, .inl (5, .ofNat 0))], 195, [kvR 102, kvI 0, kvI 1, kvI 2, kvN 135, kvN 3, kvI 3, kvI 4], []), ([], []), (139, [(-11, 3), (-1, 4)]))
def kC412_3 : aC := (([kvB 0 7, kvB 0 7, kvB 0 7, kvB 0 3, (.negSucc 0, .ofNat 99)], [(102, 29, .inl (4, .ofNat 0)), (102, 30, .inr (.ofNat 3))], 110, [kvR 102, kvI 0, kvI 1, kvI 2, kvN 135, kvN 3, kvN 1, kvI 3], []), ([], []), (3, [(-1, 3)]))
theorem ks412 : aseg kS krf kB [kE43, kE87, kE348, kE380, kE396, kE404] (ksp [(192, 200, 7, 0, 7, 0)]) kE412 [kC412_0, kC412_1, kC412_2, kC412_3] 30000 (none) = true := by decide +kernel
theorem ks412_0 : aseg kS krf kB [kE43, kE87, kE348, kE380, kE396, kE404] (ksp [(192, 200, 7, 0, 7, 0)]) kE412 [kC412_0, kC412_1, kC412_2, kC412_3] 30000 (some kC412_0) = true := by decide +kernel
theorem ks412_1 : aseg kS krf kB [kE43, kE87, kE348, kE380, kE396, kE404] (ksp [(192, 200, 7, 0, 7, 0)]) kE412 [kC412_0, kC412_1, kC412_2, kC412_3] 30000 (some kC412_1) = true := by decide +kernel
theorem ks412_2 : aseg kS krf kB [kE43, kE87, kE348, kE380, kE396, kE404] (ksp [(192, 200, 7, 0, 7, 0)]) kE412 [kC412_0, kC412_1, kC412_2, kC412_3] 30000 (some kC412_2) = true := by decide +kernel
theorem ks412_3 : aseg kS krf kB [kE43, kE87, kE348, kE380, kE396, kE404] (ksp [(192, 200, 7, 0, 7, 0)]) kE412 [kC412_0, kC412_1, kC412_2, kC412_3] 30000 (some kC412_3) = true := by decide +kernel
theorem kok412 : aOK kS krf kB kE412 := aOK_of (kal1 kok43 (kal1 kok87 (kal1 kok348 (kal1 kok380 (kal1 kok396 (kal1 kok404 kal0)))))) (kcl1 ks412_0 (kcl1 ks412_1 (kcl1 ks412_2 (kcl1 ks412_3 kcl0)))) ks412
/-- ColdShodModel.triesWay(IIIII)V -/
def kE413 : aE := (192, 51, ([kvB 0 7, kvB 0 7, kvB 0 7], [], 0, [kvR 102, kvI 0, kvI 1, kvI 2, kvN 134, kvN 2, none, none], []), ([], none), ([], [], none, ([], [])), kvW63)
def kC413_0 : aC := (([kvB 0 7, kvB 0 7, kvB 0 7, kvB 0 1, kvB 0 2], [], 16, [kvR 102, kvI 0, kvI 1, kvI 2, kvN 134, kvN 2, kvI 3, kvI 4], []), ([], []), (168, [(-1, 4)]))
def kC413_1 : aC := (([kvB 0 7, kvB 0 7, kvB 0 7, kvB 0 12], [], 141, [kvR 102, kvI 0, kvI 1, kvI 2, kvN 134, kvN 2, kvI 3, none], []), ([], []), (141, [(-11, 3)]))
def kC413_2 : aC := (([kvB 0 7, kvB 0 7, kvB 0 7, kvB 0 11, (.negSucc 0, .ofNat 7), kvB 1 12], [(102, 8, .inl (5, .ofNat 0))], 195, [kvR 102, kvI 0, kvI 1, kvI 2, kvN 134, kvN 2, kvI 3, kvI 4], []), ([], []), (139, [(-11, 3), (-1, 4)]))
def kC413_3 : aC := (([kvB 0 7, kvB 0 7, kvB 0 7, kvB 0 2, (.negSucc 0, .ofNat 99)], [(102, 29, .inl (4, .ofNat 0)), (102, 30, .inr (.ofNat 2))], 110, [kvR 102, kvI 0, kvI 1, kvI 2, kvN 134, kvN 2, kvN 1, kvI 3], []), ([], []), (2, [(-1, 3)]))
theorem ks413 : aseg kS krf kB [kE43, kE87, kE349, kE381, kE397, kE405, kE412] (ksp [(192, 200, 7, 0, 7, 0)]) kE413 [kC413_0, kC413_1, kC413_2, kC413_3] 30000 (none) = true := by decide +kernel
theorem ks413_0 : aseg kS krf kB [kE43, kE87, kE349, kE381, kE397, kE405, kE412] (ksp [(192, 200, 7, 0, 7, 0)]) kE413 [kC413_0, kC413_1, kC413_2, kC413_3] 30000 (some kC413_0) = true := by decide +kernel
theorem ks413_1 : aseg kS krf kB [kE43, kE87, kE349, kE381, kE397, kE405, kE412] (ksp [(192, 200, 7, 0, 7, 0)]) kE413 [kC413_0, kC413_1, kC413_2, kC413_3] 30000 (some kC413_1) = true := by decide +kernel
theorem ks413_2 : aseg kS krf kB [kE43, kE87, kE349, kE381, kE397, kE405, kE412] (ksp [(192, 200, 7, 0, 7, 0)]) kE413 [kC413_0, kC413_1, kC413_2, kC413_3] 30000 (some kC413_2) = true := by decide +kernel
theorem ks413_3 : aseg kS krf kB [kE43, kE87, kE349, kE381, kE397, kE405, kE412] (ksp [(192, 200, 7, 0, 7, 0)]) kE413 [kC413_0, kC413_1, kC413_2, kC413_3] 30000 (some kC413_3) = true := by decide +kernel
theorem kok413 : aOK kS krf kB kE413 := aOK_of (kal1 kok43 (kal1 kok87 (kal1 kok349 (kal1 kok381 (kal1 kok397 (kal1 kok405 (kal1 kok412 kal0))))))) (kcl1 ks413_0 (kcl1 ks413_1 (kcl1 ks413_2 (kcl1 ks413_3 kcl0)))) ks413
/-- ColdShodModel.triesWay(IIIII)V -/
def kE414 : aE := (192, 51, ([kvB 0 7, kvB 0 7, kvB 0 7], [], 0, [kvR 102, kvI 0, kvI 1, kvI 2, kvN 133, kvN 2, none, none], []), ([], none), ([], [], none, ([], [])), kvW63)
def kC414_0 : aC := (([kvB 0 7, kvB 0 7, kvB 0 7, kvB 0 1, kvB 0 2], [], 16, [kvR 102, kvI 0, kvI 1, kvI 2, kvN 133, kvN 2, kvI 3, kvI 4], []), ([], []), (168, [(-1, 4)]))
def kC414_1 : aC := (([kvB 0 7, kvB 0 7, kvB 0 7, kvB 0 12], [], 141, [kvR 102, kvI 0, kvI 1, kvI 2, kvN 133, kvN 2, kvI 3, none], []), ([], []), (141, [(-11, 3)]))
def kC414_2 : aC := (([kvB 0 7, kvB 0 7, kvB 0 7, kvB 0 11, (.negSucc 0, .ofNat 7), kvB 1 12], [(102, 8, .inl (5, .ofNat 0))], 195, [kvR 102, kvI 0, kvI 1, kvI 2, kvN 133, kvN 2, kvI 3, kvI 4], []), ([], []), (139, [(-11, 3), (-1, 4)]))
def kC414_3 : aC := (([kvB 0 7, kvB 0 7, kvB 0 7, kvB 0 2, (.negSucc 0, .ofNat 99)], [(102, 29, .inl (4, .ofNat 0)), (102, 30, .inr (.ofNat 2))], 110, [kvR 102, kvI 0, kvI 1, kvI 2, kvN 133, kvN 2, kvN 1, kvI 3], []), ([], []), (2, [(-1, 3)]))
theorem ks414 : aseg kS krf kB [kE43, kE87, kE350, kE382, kE398, kE406, kE412] (ksp [(192, 200, 7, 0, 7, 0)]) kE414 [kC414_0, kC414_1, kC414_2, kC414_3] 30000 (none) = true := by decide +kernel
theorem ks414_0 : aseg kS krf kB [kE43, kE87, kE350, kE382, kE398, kE406, kE412] (ksp [(192, 200, 7, 0, 7, 0)]) kE414 [kC414_0, kC414_1, kC414_2, kC414_3] 30000 (some kC414_0) = true := by decide +kernel
theorem ks414_1 : aseg kS krf kB [kE43, kE87, kE350, kE382, kE398, kE406, kE412] (ksp [(192, 200, 7, 0, 7, 0)]) kE414 [kC414_0, kC414_1, kC414_2, kC414_3] 30000 (some kC414_1) = true := by decide +kernel
theorem ks414_2 : aseg kS krf kB [kE43, kE87, kE350, kE382, kE398, kE406, kE412] (ksp [(192, 200, 7, 0, 7, 0)]) kE414 [kC414_0, kC414_1, kC414_2, kC414_3] 30000 (some kC414_2) = true := by decide +kernel
theorem ks414_3 : aseg kS krf kB [kE43, kE87, kE350, kE382, kE398, kE406, kE412] (ksp [(192, 200, 7, 0, 7, 0)]) kE414 [kC414_0, kC414_1, kC414_2, kC414_3] 30000 (some kC414_3) = true := by decide +kernel
theorem kok414 : aOK kS krf kB kE414 := aOK_of (kal1 kok43 (kal1 kok87 (kal1 kok350 (kal1 kok382 (kal1 kok398 (kal1 kok406 (kal1 kok412 kal0))))))) (kcl1 ks414_0 (kcl1 ks414_1 (kcl1 ks414_2 (kcl1 ks414_3 kcl0)))) ks414
/-- ColdShodModel.triesWay(IIIII)V -/
def kE415 : aE := (192, 52, ([kvB 0 7, kvB 0 7, kvB 0 7], [], 0, [kvR 102, kvI 0, kvI 1, kvI 2, kvN 132, kvN 1, none, none], []), ([], none), ([], [], none, ([], [])), kvW64)
def kC415_0 : aC := (([kvB 0 7, kvB 0 7, kvB 0 7, kvB 0 1, kvB 0 1], [], 16, [kvR 102, kvI 0, kvI 1, kvI 2, kvN 132, kvN 1, kvI 3, kvI 4], []), ([], []), (167, [(-1, 4)]))
def kC415_1 : aC := (([kvB 0 7, kvB 0 7, kvB 0 7, kvB 0 12], [], 141, [kvR 102, kvI 0, kvI 1, kvI 2, kvN 132, kvN 1, kvI 3, none], []), ([], []), (141, [(-11, 3)]))
def kC415_2 : aC := (([kvB 0 7, kvB 0 7, kvB 0 7, kvB 0 11, (.negSucc 0, .ofNat 7), kvB 1 12], [(102, 8, .inl (5, .ofNat 0))], 195, [kvR 102, kvI 0, kvI 1, kvI 2, kvN 132, kvN 1, kvI 3, kvI 4], []), ([], []), (139, [(-11, 3), (-1, 4)]))
def kC415_3 : aC := (([kvB 0 7, kvB 0 7, kvB 0 7, kvB 0 1, (.negSucc 0, .ofNat 99)], [(102, 29, .inl (4, .ofNat 0)), (102, 30, .inr (.ofNat 1))], 110, [kvR 102, kvI 0, kvI 1, kvI 2, kvN 132, kvN 1, kvN 1, kvI 3], []), ([], []), (1, [(-1, 3)]))
theorem ks415 : aseg kS krf kB [kE43, kE87, kE351, kE383, kE399, kE407, kE413, kE414] (ksp [(192, 200, 7, 0, 7, 0)]) kE415 [kC415_0, kC415_1, kC415_2, kC415_3] 30000 (none) = true := by decide +kernel
theorem ks415_0 : aseg kS krf kB [kE43, kE87, kE351, kE383, kE399, kE407, kE413, kE414] (ksp [(192, 200, 7, 0, 7, 0)]) kE415 [kC415_0, kC415_1, kC415_2, kC415_3] 30000 (some kC415_0) = true := by decide +kernel
theorem ks415_1 : aseg kS krf kB [kE43, kE87, kE351, kE383, kE399, kE407, kE413, kE414] (ksp [(192, 200, 7, 0, 7, 0)]) kE415 [kC415_0, kC415_1, kC415_2, kC415_3] 30000 (some kC415_1) = true := by decide +kernel
theorem ks415_2 : aseg kS krf kB [kE43, kE87, kE351, kE383, kE399, kE407, kE413, kE414] (ksp [(192, 200, 7, 0, 7, 0)]) kE415 [kC415_0, kC415_1, kC415_2, kC415_3] 30000 (some kC415_2) = true := by decide +kernel
theorem ks415_3 : aseg kS krf kB [kE43, kE87, kE351, kE383, kE399, kE407, kE413, kE414] (ksp [(192, 200, 7, 0, 7, 0)]) kE415 [kC415_0, kC415_1, kC415_2, kC415_3] 30000 (some kC415_3) = true := by decide +kernel
theorem kok415 : aOK kS krf kB kE415 := aOK_of (kal1 kok43 (kal1 kok87 (kal1 kok351 (kal1 kok383 (kal1 kok399 (kal1 kok407 (kal1 kok413 (kal1 kok414 kal0)))))))) (kcl1 ks415_0 (kcl1 ks415_1 (kcl1 ks415_2 (kcl1 ks415_3 kcl0)))) ks415
/-- ColdShodModel.triesWay(IIIII)V -/
def kE416 : aE := (192, 51, ([kvB 0 7, kvB 0 7, kvB 0 7], [], 0, [kvR 102, kvI 0, kvI 1, kvI 2, kvN 131, kvN 2, none, none], []), ([], none), ([], [], none, ([], [])), kvW63)
def kC416_0 : aC := (([kvB 0 7, kvB 0 7, kvB 0 7, kvB 0 1, kvB 0 2], [], 16, [kvR 102, kvI 0, kvI 1, kvI 2, kvN 131, kvN 2, kvI 3, kvI 4], []), ([], []), (168, [(-1, 4)]))
def kC416_1 : aC := (([kvB 0 7, kvB 0 7, kvB 0 7, kvB 0 12], [], 141, [kvR 102, kvI 0, kvI 1, kvI 2, kvN 131, kvN 2, kvI 3, none], []), ([], []), (141, [(-11, 3)]))
def kC416_2 : aC := (([kvB 0 7, kvB 0 7, kvB 0 7, kvB 0 11, (.negSucc 0, .ofNat 7), kvB 1 12], [(102, 8, .inl (5, .ofNat 0))], 195, [kvR 102, kvI 0, kvI 1, kvI 2, kvN 131, kvN 2, kvI 3, kvI 4], []), ([], []), (139, [(-11, 3), (-1, 4)]))
def kC416_3 : aC := (([kvB 0 7, kvB 0 7, kvB 0 7, kvB 0 2, (.negSucc 0, .ofNat 99)], [(102, 29, .inl (4, .ofNat 0)), (102, 30, .inr (.ofNat 2))], 110, [kvR 102, kvI 0, kvI 1, kvI 2, kvN 131, kvN 2, kvN 1, kvI 3], []), ([], []), (2, [(-1, 3)]))
theorem ks416 : aseg kS krf kB [kE43, kE87, kE352, kE384, kE400, kE408, kE412] (ksp [(192, 200, 7, 0, 7, 0)]) kE416 [kC416_0, kC416_1, kC416_2, kC416_3] 30000 (none) = true := by decide +kernel
theorem ks416_0 : aseg kS krf kB [kE43, kE87, kE352, kE384, kE400, kE408, kE412] (ksp [(192, 200, 7, 0, 7, 0)]) kE416 [kC416_0, kC416_1, kC416_2, kC416_3] 30000 (some kC416_0) = true := by decide +kernel
theorem ks416_1 : aseg kS krf kB [kE43, kE87, kE352, kE384, kE400, kE408, kE412] (ksp [(192, 200, 7, 0, 7, 0)]) kE416 [kC416_0, kC416_1, kC416_2, kC416_3] 30000 (some kC416_1) = true := by decide +kernel
theorem ks416_2 : aseg kS krf kB [kE43, kE87, kE352, kE384, kE400, kE408, kE412] (ksp [(192, 200, 7, 0, 7, 0)]) kE416 [kC416_0, kC416_1, kC416_2, kC416_3] 30000 (some kC416_2) = true := by decide +kernel
theorem ks416_3 : aseg kS krf kB [kE43, kE87, kE352, kE384, kE400, kE408, kE412] (ksp [(192, 200, 7, 0, 7, 0)]) kE416 [kC416_0, kC416_1, kC416_2, kC416_3] 30000 (some kC416_3) = true := by decide +kernel
theorem kok416 : aOK kS krf kB kE416 := aOK_of (kal1 kok43 (kal1 kok87 (kal1 kok352 (kal1 kok384 (kal1 kok400 (kal1 kok408 (kal1 kok412 kal0))))))) (kcl1 ks416_0 (kcl1 ks416_1 (kcl1 ks416_2 (kcl1 ks416_3 kcl0)))) ks416
/-- ColdShodModel.triesWay(IIIII)V -/
def kE417 : aE := (192, 52, ([kvB 0 7, kvB 0 7, kvB 0 7], [], 0, [kvR 102, kvI 0, kvI 1, kvI 2, kvN 130, kvN 1, none, none], []), ([], none), ([], [], none, ([], [])), kvW64)
def kC417_0 : aC := (([kvB 0 7, kvB 0 7, kvB 0 7, kvB 0 1, kvB 0 1], [], 16, [kvR 102, kvI 0, kvI 1, kvI 2, kvN 130, kvN 1, kvI 3, kvI 4], []), ([], []), (167, [(-1, 4)]))
def kC417_1 : aC := (([kvB 0 7, kvB 0 7, kvB 0 7, kvB 0 12], [], 141, [kvR 102, kvI 0, kvI 1, kvI 2, kvN 130, kvN 1, kvI 3, none], []), ([], []), (141, [(-11, 3)]))
def kC417_2 : aC := (([kvB 0 7, kvB 0 7, kvB 0 7, kvB 0 11, (.negSucc 0, .ofNat 7), kvB 1 12], [(102, 8, .inl (5, .ofNat 0))], 195, [kvR 102, kvI 0, kvI 1, kvI 2, kvN 130, kvN 1, kvI 3, kvI 4], []), ([], []), (139, [(-11, 3), (-1, 4)]))
def kC417_3 : aC := (([kvB 0 7, kvB 0 7, kvB 0 7, kvB 0 1, (.negSucc 0, .ofNat 99)], [(102, 29, .inl (4, .ofNat 0)), (102, 30, .inr (.ofNat 1))], 110, [kvR 102, kvI 0, kvI 1, kvI 2, kvN 130, kvN 1, kvN 1, kvI 3], []), ([], []), (1, [(-1, 3)]))
theorem ks417 : aseg kS krf kB [kE43, kE87, kE353, kE385, kE401, kE409, kE413, kE416] (ksp [(192, 200, 7, 0, 7, 0)]) kE417 [kC417_0, kC417_1, kC417_2, kC417_3] 30000 (none) = true := by decide +kernel
theorem ks417_0 : aseg kS krf kB [kE43, kE87, kE353, kE385, kE401, kE409, kE413, kE416] (ksp [(192, 200, 7, 0, 7, 0)]) kE417 [kC417_0, kC417_1, kC417_2, kC417_3] 30000 (some kC417_0) = true := by decide +kernel
theorem ks417_1 : aseg kS krf kB [kE43, kE87, kE353, kE385, kE401, kE409, kE413, kE416] (ksp [(192, 200, 7, 0, 7, 0)]) kE417 [kC417_0, kC417_1, kC417_2, kC417_3] 30000 (some kC417_1) = true := by decide +kernel
theorem ks417_2 : aseg kS krf kB [kE43, kE87, kE353, kE385, kE401, kE409, kE413, kE416] (ksp [(192, 200, 7, 0, 7, 0)]) kE417 [kC417_0, kC417_1, kC417_2, kC417_3] 30000 (some kC417_2) = true := by decide +kernel
theorem ks417_3 : aseg kS krf kB [kE43, kE87, kE353, kE385, kE401, kE409, kE413, kE416] (ksp [(192, 200, 7, 0, 7, 0)]) kE417 [kC417_0, kC417_1, kC417_2, kC417_3] 30000 (some kC417_3) = true := by decide +kernel
theorem kok417 : aOK kS krf kB kE417 := aOK_of (kal1 kok43 (kal1 kok87 (kal1 kok353 (kal1 kok385 (kal1 kok401 (kal1 kok409 (kal1 kok413 (kal1 kok416 kal0)))))))) (kcl1 ks417_0 (kcl1 ks417_1 (kcl1 ks417_2 (kcl1 ks417_3 kcl0)))) ks417
/-- ColdShodModel.triesWay(IIIII)V -/
def kE418 : aE := (192, 52, ([kvB 0 7, kvB 0 7, kvB 0 7], [], 0, [kvR 102, kvI 0, kvI 1, kvI 2, kvN 129, kvN 1, none, none], []), ([], none), ([], [], none, ([], [])), kvW64)
def kC418_0 : aC := (([kvB 0 7, kvB 0 7, kvB 0 7, kvB 0 1, kvB 0 1], [], 16, [kvR 102, kvI 0, kvI 1, kvI 2, kvN 129, kvN 1, kvI 3, kvI 4], []), ([], []), (167, [(-1, 4)]))
def kC418_1 : aC := (([kvB 0 7, kvB 0 7, kvB 0 7, kvB 0 12], [], 141, [kvR 102, kvI 0, kvI 1, kvI 2, kvN 129, kvN 1, kvI 3, none], []), ([], []), (141, [(-11, 3)]))
def kC418_2 : aC := (([kvB 0 7, kvB 0 7, kvB 0 7, kvB 0 11, (.negSucc 0, .ofNat 7), kvB 1 12], [(102, 8, .inl (5, .ofNat 0))], 195, [kvR 102, kvI 0, kvI 1, kvI 2, kvN 129, kvN 1, kvI 3, kvI 4], []), ([], []), (139, [(-11, 3), (-1, 4)]))
def kC418_3 : aC := (([kvB 0 7, kvB 0 7, kvB 0 7, kvB 0 1, (.negSucc 0, .ofNat 99)], [(102, 29, .inl (4, .ofNat 0)), (102, 30, .inr (.ofNat 1))], 110, [kvR 102, kvI 0, kvI 1, kvI 2, kvN 129, kvN 1, kvN 1, kvI 3], []), ([], []), (1, [(-1, 3)]))
theorem ks418 : aseg kS krf kB [kE43, kE87, kE354, kE386, kE402, kE410, kE414, kE416] (ksp [(192, 200, 7, 0, 7, 0)]) kE418 [kC418_0, kC418_1, kC418_2, kC418_3] 30000 (none) = true := by decide +kernel
theorem ks418_0 : aseg kS krf kB [kE43, kE87, kE354, kE386, kE402, kE410, kE414, kE416] (ksp [(192, 200, 7, 0, 7, 0)]) kE418 [kC418_0, kC418_1, kC418_2, kC418_3] 30000 (some kC418_0) = true := by decide +kernel
theorem ks418_1 : aseg kS krf kB [kE43, kE87, kE354, kE386, kE402, kE410, kE414, kE416] (ksp [(192, 200, 7, 0, 7, 0)]) kE418 [kC418_0, kC418_1, kC418_2, kC418_3] 30000 (some kC418_1) = true := by decide +kernel
theorem ks418_2 : aseg kS krf kB [kE43, kE87, kE354, kE386, kE402, kE410, kE414, kE416] (ksp [(192, 200, 7, 0, 7, 0)]) kE418 [kC418_0, kC418_1, kC418_2, kC418_3] 30000 (some kC418_2) = true := by decide +kernel
theorem ks418_3 : aseg kS krf kB [kE43, kE87, kE354, kE386, kE402, kE410, kE414, kE416] (ksp [(192, 200, 7, 0, 7, 0)]) kE418 [kC418_0, kC418_1, kC418_2, kC418_3] 30000 (some kC418_3) = true := by decide +kernel
theorem kok418 : aOK kS krf kB kE418 := aOK_of (kal1 kok43 (kal1 kok87 (kal1 kok354 (kal1 kok386 (kal1 kok402 (kal1 kok410 (kal1 kok414 (kal1 kok416 kal0)))))))) (kcl1 ks418_0 (kcl1 ks418_1 (kcl1 ks418_2 (kcl1 ks418_3 kcl0)))) ks418
/-- ColdShodModel.triesWay(IIIII)V -/
def kE419 : aE := (192, 53, ([kvB 0 7, kvB 0 7, kvB 0 7], [], 0, [kvR 102, kvI 0, kvI 1, kvI 2, kvN 128, kvN 0, none, none], []), ([], none), ([], [], none, ([], [])), kvW65)
def kC419_0 : aC := (([kvB 0 7, kvB 0 7, kvB 0 7], [], 16, [kvR 102, kvI 0, kvI 1, kvI 2, kvN 128, kvN 0, kvN 1, kvN 0], []), ([], []), (166, []))
def kC419_1 : aC := (([kvB 0 7, kvB 0 7, kvB 0 7, kvB 0 12], [], 141, [kvR 102, kvI 0, kvI 1, kvI 2, kvN 128, kvN 0, kvI 3, none], []), ([], []), (141, [(-11, 3)]))
def kC419_2 : aC := (([kvB 0 7, kvB 0 7, kvB 0 7, (.negSucc 0, .ofNat 99)], [(102, 29, .inl (3, .ofNat 0)), (102, 30, .inr (.ofNat 0))], 110, [kvR 102, kvI 0, kvI 1, kvI 2, kvN 128, kvN 0, kvN 1, kvN 0], []), ([], []), (0, []))
def kC419_3 : aC := (([kvB 0 7, kvB 0 7, kvB 0 7, kvB 0 11, (.negSucc 0, .ofNat 7), kvB 1 12], [(102, 8, .inl (5, .ofNat 0))], 195, [kvR 102, kvI 0, kvI 1, kvI 2, kvN 128, kvN 0, kvI 3, kvI 4], []), ([], []), (139, [(-11, 3), (-1, 4)]))
theorem ks419 : aseg kS krf kB [kE43, kE355, kE387, kE403, kE411, kE415, kE417, kE418] (ksp [(192, 200, 7, 0, 7, 0)]) kE419 [kC419_0, kC419_1, kC419_2, kC419_3] 30000 (none) = true := by decide +kernel
theorem ks419_0 : aseg kS krf kB [kE43, kE355, kE387, kE403, kE411, kE415, kE417, kE418] (ksp [(192, 200, 7, 0, 7, 0)]) kE419 [kC419_0, kC419_1, kC419_2, kC419_3] 30000 (some kC419_0) = true := by decide +kernel
theorem ks419_1 : aseg kS krf kB [kE43, kE355, kE387, kE403, kE411, kE415, kE417, kE418] (ksp [(192, 200, 7, 0, 7, 0)]) kE419 [kC419_0, kC419_1, kC419_2, kC419_3] 30000 (some kC419_1) = true := by decide +kernel
theorem ks419_2 : aseg kS krf kB [kE43, kE355, kE387, kE403, kE411, kE415, kE417, kE418] (ksp [(192, 200, 7, 0, 7, 0)]) kE419 [kC419_0, kC419_1, kC419_2, kC419_3] 30000 (some kC419_2) = true := by decide +kernel
theorem ks419_3 : aseg kS krf kB [kE43, kE355, kE387, kE403, kE411, kE415, kE417, kE418] (ksp [(192, 200, 7, 0, 7, 0)]) kE419 [kC419_0, kC419_1, kC419_2, kC419_3] 30000 (some kC419_3) = true := by decide +kernel
theorem kok419 : aOK kS krf kB kE419 := aOK_of (kal1 kok43 (kal1 kok355 (kal1 kok387 (kal1 kok403 (kal1 kok411 (kal1 kok415 (kal1 kok417 (kal1 kok418 kal0)))))))) (kcl1 ks419_0 (kcl1 ks419_1 (kcl1 ks419_2 (kcl1 ks419_3 kcl0)))) ks419
/-- ColdShodModel.triesWay(IIIII)V -/
def kE420 : aE := (192, 47, ([kvB 0 7, kvB 0 7, kvB 0 7], [], 0, [kvR 102, kvI 0, kvI 1, kvI 2, kvN 127, kvN 6, none, none], []), ([], none), ([], [], none, ([], [])), kvW59)
def kC420_0 : aC := (([kvB 0 7, kvB 0 7, kvB 0 7, kvB 0 1, kvB 0 6], [], 16, [kvR 102, kvI 0, kvI 1, kvI 2, kvN 127, kvN 6, kvI 3, kvI 4], []), ([], []), (172, [(-1, 4)]))
def kC420_1 : aC := (([kvB 0 7, kvB 0 7, kvB 0 7, kvB 0 12], [], 141, [kvR 102, kvI 0, kvI 1, kvI 2, kvN 127, kvN 6, kvI 3, none], []), ([], []), (141, [(-11, 3)]))
def kC420_2 : aC := (([kvB 0 7, kvB 0 7, kvB 0 7, kvB 0 11, (.negSucc 0, .ofNat 7), kvB 1 12], [(102, 8, .inl (5, .ofNat 0))], 195, [kvR 102, kvI 0, kvI 1, kvI 2, kvN 127, kvN 6, kvI 3, kvI 4], []), ([], []), (139, [(-11, 3), (-1, 4)]))
def kC420_3 : aC := (([kvB 0 7, kvB 0 7, kvB 0 7, kvB 0 6, (.negSucc 0, .ofNat 99)], [(102, 29, .inl (4, .ofNat 0)), (102, 30, .inr (.ofNat 6))], 110, [kvR 102, kvI 0, kvI 1, kvI 2, kvN 127, kvN 6, kvN 1, kvI 3], []), ([], []), (6, [(-1, 3)]))
theorem ks420 : aseg kS krf kB [kE43, kE87, kE292] (ksp [(192, 200, 7, 0, 7, 0)]) kE420 [kC420_0, kC420_1, kC420_2, kC420_3] 30000 (none) = true := by decide +kernel
theorem ks420_0 : aseg kS krf kB [kE43, kE87, kE292] (ksp [(192, 200, 7, 0, 7, 0)]) kE420 [kC420_0, kC420_1, kC420_2, kC420_3] 30000 (some kC420_0) = true := by decide +kernel
theorem ks420_1 : aseg kS krf kB [kE43, kE87, kE292] (ksp [(192, 200, 7, 0, 7, 0)]) kE420 [kC420_0, kC420_1, kC420_2, kC420_3] 30000 (some kC420_1) = true := by decide +kernel
theorem ks420_2 : aseg kS krf kB [kE43, kE87, kE292] (ksp [(192, 200, 7, 0, 7, 0)]) kE420 [kC420_0, kC420_1, kC420_2, kC420_3] 30000 (some kC420_2) = true := by decide +kernel
theorem ks420_3 : aseg kS krf kB [kE43, kE87, kE292] (ksp [(192, 200, 7, 0, 7, 0)]) kE420 [kC420_0, kC420_1, kC420_2, kC420_3] 30000 (some kC420_3) = true := by decide +kernel
theorem kok420 : aOK kS krf kB kE420 := aOK_of (kal1 kok43 (kal1 kok87 (kal1 kok292 kal0))) (kcl1 ks420_0 (kcl1 ks420_1 (kcl1 ks420_2 (kcl1 ks420_3 kcl0)))) ks420
/-- ColdShodModel.triesWay(IIIII)V -/
def kE421 : aE := (192, 48, ([kvB 0 7, kvB 0 7, kvB 0 7], [], 0, [kvR 102, kvI 0, kvI 1, kvI 2, kvN 126, kvN 5, none, none], []), ([], none), ([], [], none, ([], [])), kvW60)
def kC421_0 : aC := (([kvB 0 7, kvB 0 7, kvB 0 7, kvB 0 1, kvB 0 5], [], 16, [kvR 102, kvI 0, kvI 1, kvI 2, kvN 126, kvN 5, kvI 3, kvI 4], []), ([], []), (171, [(-1, 4)]))
def kC421_1 : aC := (([kvB 0 7, kvB 0 7, kvB 0 7, kvB 0 12], [], 141, [kvR 102, kvI 0, kvI 1, kvI 2, kvN 126, kvN 5, kvI 3, none], []), ([], []), (141, [(-11, 3)]))
def kC421_2 : aC := (([kvB 0 7, kvB 0 7, kvB 0 7, kvB 0 11, (.negSucc 0, .ofNat 7), kvB 1 12], [(102, 8, .inl (5, .ofNat 0))], 195, [kvR 102, kvI 0, kvI 1, kvI 2, kvN 126, kvN 5, kvI 3, kvI 4], []), ([], []), (139, [(-11, 3), (-1, 4)]))
def kC421_3 : aC := (([kvB 0 7, kvB 0 7, kvB 0 7, kvB 0 5, (.negSucc 0, .ofNat 99)], [(102, 29, .inl (4, .ofNat 0)), (102, 30, .inr (.ofNat 5))], 110, [kvR 102, kvI 0, kvI 1, kvI 2, kvN 126, kvN 5, kvN 1, kvI 3], []), ([], []), (5, [(-1, 3)]))
theorem ks421 : aseg kS krf kB [kE43, kE87, kE293, kE420] (ksp [(192, 200, 7, 0, 7, 0)]) kE421 [kC421_0, kC421_1, kC421_2, kC421_3] 30000 (none) = true := by decide +kernel
theorem ks421_0 : aseg kS krf kB [kE43, kE87, kE293, kE420] (ksp [(192, 200, 7, 0, 7, 0)]) kE421 [kC421_0, kC421_1, kC421_2, kC421_3] 30000 (some kC421_0) = true := by decide +kernel
theorem ks421_1 : aseg kS krf kB [kE43, kE87, kE293, kE420] (ksp [(192, 200, 7, 0, 7, 0)]) kE421 [kC421_0, kC421_1, kC421_2, kC421_3] 30000 (some kC421_1) = true := by decide +kernel
theorem ks421_2 : aseg kS krf kB [kE43, kE87, kE293, kE420] (ksp [(192, 200, 7, 0, 7, 0)]) kE421 [kC421_0, kC421_1, kC421_2, kC421_3] 30000 (some kC421_2) = true := by decide +kernel
theorem ks421_3 : aseg kS krf kB [kE43, kE87, kE293, kE420] (ksp [(192, 200, 7, 0, 7, 0)]) kE421 [kC421_0, kC421_1, kC421_2, kC421_3] 30000 (some kC421_3) = true := by decide +kernel
theorem kok421 : aOK kS krf kB kE421 := aOK_of (kal1 kok43 (kal1 kok87 (kal1 kok293 (kal1 kok420 kal0)))) (kcl1 ks421_0 (kcl1 ks421_1 (kcl1 ks421_2 (kcl1 ks421_3 kcl0)))) ks421
/-- ColdShodModel.triesWay(IIIII)V -/
def kE422 : aE := (192, 48, ([kvB 0 7, kvB 0 7, kvB 0 7], [], 0, [kvR 102, kvI 0, kvI 1, kvI 2, kvN 125, kvN 5, none, none], []), ([], none), ([], [], none, ([], [])), kvW60)
def kC422_0 : aC := (([kvB 0 7, kvB 0 7, kvB 0 7, kvB 0 1, kvB 0 5], [], 16, [kvR 102, kvI 0, kvI 1, kvI 2, kvN 125, kvN 5, kvI 3, kvI 4], []), ([], []), (171, [(-1, 4)]))
def kC422_1 : aC := (([kvB 0 7, kvB 0 7, kvB 0 7, kvB 0 12], [], 141, [kvR 102, kvI 0, kvI 1, kvI 2, kvN 125, kvN 5, kvI 3, none], []), ([], []), (141, [(-11, 3)]))
def kC422_2 : aC := (([kvB 0 7, kvB 0 7, kvB 0 7, kvB 0 11, (.negSucc 0, .ofNat 7), kvB 1 12], [(102, 8, .inl (5, .ofNat 0))], 195, [kvR 102, kvI 0, kvI 1, kvI 2, kvN 125, kvN 5, kvI 3, kvI 4], []), ([], []), (139, [(-11, 3), (-1, 4)]))
def kC422_3 : aC := (([kvB 0 7, kvB 0 7, kvB 0 7, kvB 0 5, (.negSucc 0, .ofNat 99)], [(102, 29, .inl (4, .ofNat 0)), (102, 30, .inr (.ofNat 5))], 110, [kvR 102, kvI 0, kvI 1, kvI 2, kvN 125, kvN 5, kvN 1, kvI 3], []), ([], []), (5, [(-1, 3)]))
theorem ks422 : aseg kS krf kB [kE43, kE87, kE294, kE420] (ksp [(192, 200, 7, 0, 7, 0)]) kE422 [kC422_0, kC422_1, kC422_2, kC422_3] 30000 (none) = true := by decide +kernel
theorem ks422_0 : aseg kS krf kB [kE43, kE87, kE294, kE420] (ksp [(192, 200, 7, 0, 7, 0)]) kE422 [kC422_0, kC422_1, kC422_2, kC422_3] 30000 (some kC422_0) = true := by decide +kernel
theorem ks422_1 : aseg kS krf kB [kE43, kE87, kE294, kE420] (ksp [(192, 200, 7, 0, 7, 0)]) kE422 [kC422_0, kC422_1, kC422_2, kC422_3] 30000 (some kC422_1) = true := by decide +kernel
theorem ks422_2 : aseg kS krf kB [kE43, kE87, kE294, kE420] (ksp [(192, 200, 7, 0, 7, 0)]) kE422 [kC422_0, kC422_1, kC422_2, kC422_3] 30000 (some kC422_2) = true := by decide +kernel
theorem ks422_3 : aseg kS krf kB [kE43, kE87, kE294, kE420] (ksp [(192, 200, 7, 0, 7, 0)]) kE422 [kC422_0, kC422_1, kC422_2, kC422_3] 30000 (some kC422_3) = true := by decide +kernel
theorem kok422 : aOK kS krf kB kE422 := aOK_of (kal1 kok43 (kal1 kok87 (kal1 kok294 (kal1 kok420 kal0)))) (kcl1 ks422_0 (kcl1 ks422_1 (kcl1 ks422_2 (kcl1 ks422_3 kcl0)))) ks422
/-- ColdShodModel.triesWay(IIIII)V -/
def kE423 : aE := (192, 49, ([kvB 0 7, kvB 0 7, kvB 0 7], [], 0, [kvR 102, kvI 0, kvI 1, kvI 2, kvN 124, kvN 4, none, none], []), ([], none), ([], [], none, ([], [])), kvW61)
def kC423_0 : aC := (([kvB 0 7, kvB 0 7, kvB 0 7, kvB 0 1, kvB 0 4], [], 16, [kvR 102, kvI 0, kvI 1, kvI 2, kvN 124, kvN 4, kvI 3, kvI 4], []), ([], []), (170, [(-1, 4)]))
def kC423_1 : aC := (([kvB 0 7, kvB 0 7, kvB 0 7, kvB 0 12], [], 141, [kvR 102, kvI 0, kvI 1, kvI 2, kvN 124, kvN 4, kvI 3, none], []), ([], []), (141, [(-11, 3)]))
def kC423_2 : aC := (([kvB 0 7, kvB 0 7, kvB 0 7, kvB 0 11, (.negSucc 0, .ofNat 7), kvB 1 12], [(102, 8, .inl (5, .ofNat 0))], 195, [kvR 102, kvI 0, kvI 1, kvI 2, kvN 124, kvN 4, kvI 3, kvI 4], []), ([], []), (139, [(-11, 3), (-1, 4)]))
def kC423_3 : aC := (([kvB 0 7, kvB 0 7, kvB 0 7, kvB 0 4, (.negSucc 0, .ofNat 99)], [(102, 29, .inl (4, .ofNat 0)), (102, 30, .inr (.ofNat 4))], 110, [kvR 102, kvI 0, kvI 1, kvI 2, kvN 124, kvN 4, kvN 1, kvI 3], []), ([], []), (4, [(-1, 3)]))
theorem ks423 : aseg kS krf kB [kE43, kE87, kE295, kE421, kE422] (ksp [(192, 200, 7, 0, 7, 0)]) kE423 [kC423_0, kC423_1, kC423_2, kC423_3] 30000 (none) = true := by decide +kernel
theorem ks423_0 : aseg kS krf kB [kE43, kE87, kE295, kE421, kE422] (ksp [(192, 200, 7, 0, 7, 0)]) kE423 [kC423_0, kC423_1, kC423_2, kC423_3] 30000 (some kC423_0) = true := by decide +kernel
theorem ks423_1 : aseg kS krf kB [kE43, kE87, kE295, kE421, kE422] (ksp [(192, 200, 7, 0, 7, 0)]) kE423 [kC423_0, kC423_1, kC423_2, kC423_3] 30000 (some kC423_1) = true := by decide +kernel
theorem ks423_2 : aseg kS krf kB [kE43, kE87, kE295, kE421, kE422] (ksp [(192, 200, 7, 0, 7, 0)]) kE423 [kC423_0, kC423_1, kC423_2, kC423_3] 30000 (some kC423_2) = true := by decide +kernel
theorem ks423_3 : aseg kS krf kB [kE43, kE87, kE295, kE421, kE422] (ksp [(192, 200, 7, 0, 7, 0)]) kE423 [kC423_0, kC423_1, kC423_2, kC423_3] 30000 (some kC423_3) = true := by decide +kernel
theorem kok423 : aOK kS krf kB kE423 := aOK_of (kal1 kok43 (kal1 kok87 (kal1 kok295 (kal1 kok421 (kal1 kok422 kal0))))) (kcl1 ks423_0 (kcl1 ks423_1 (kcl1 ks423_2 (kcl1 ks423_3 kcl0)))) ks423
/-- ColdShodModel.triesWay(IIIII)V -/
def kE424 : aE := (192, 48, ([kvB 0 7, kvB 0 7, kvB 0 7], [], 0, [kvR 102, kvI 0, kvI 1, kvI 2, kvN 123, kvN 5, none, none], []), ([], none), ([], [], none, ([], [])), kvW60)
def kC424_0 : aC := (([kvB 0 7, kvB 0 7, kvB 0 7, kvB 0 1, kvB 0 5], [], 16, [kvR 102, kvI 0, kvI 1, kvI 2, kvN 123, kvN 5, kvI 3, kvI 4], []), ([], []), (171, [(-1, 4)]))
def kC424_1 : aC := (([kvB 0 7, kvB 0 7, kvB 0 7, kvB 0 12], [], 141, [kvR 102, kvI 0, kvI 1, kvI 2, kvN 123, kvN 5, kvI 3, none], []), ([], []), (141, [(-11, 3)]))
def kC424_2 : aC := (([kvB 0 7, kvB 0 7, kvB 0 7, kvB 0 11, (.negSucc 0, .ofNat 7), kvB 1 12], [(102, 8, .inl (5, .ofNat 0))], 195, [kvR 102, kvI 0, kvI 1, kvI 2, kvN 123, kvN 5, kvI 3, kvI 4], []), ([], []), (139, [(-11, 3), (-1, 4)]))
def kC424_3 : aC := (([kvB 0 7, kvB 0 7, kvB 0 7, kvB 0 5, (.negSucc 0, .ofNat 99)], [(102, 29, .inl (4, .ofNat 0)), (102, 30, .inr (.ofNat 5))], 110, [kvR 102, kvI 0, kvI 1, kvI 2, kvN 123, kvN 5, kvN 1, kvI 3], []), ([], []), (5, [(-1, 3)]))
theorem ks424 : aseg kS krf kB [kE43, kE87, kE296, kE420] (ksp [(192, 200, 7, 0, 7, 0)]) kE424 [kC424_0, kC424_1, kC424_2, kC424_3] 30000 (none) = true := by decide +kernel
theorem ks424_0 : aseg kS krf kB [kE43, kE87, kE296, kE420] (ksp [(192, 200, 7, 0, 7, 0)]) kE424 [kC424_0, kC424_1, kC424_2, kC424_3] 30000 (some kC424_0) = true := by decide +kernel
theorem ks424_1 : aseg kS krf kB [kE43, kE87, kE296, kE420] (ksp [(192, 200, 7, 0, 7, 0)]) kE424 [kC424_0, kC424_1, kC424_2, kC424_3] 30000 (some kC424_1) = true := by decide +kernel
theorem ks424_2 : aseg kS krf kB [kE43, kE87, kE296, kE420] (ksp [(192, 200, 7, 0, 7, 0)]) kE424 [kC424_0, kC424_1, kC424_2, kC424_3] 30000 (some kC424_2) = true := by decide +kernel
theorem ks424_3 : aseg kS krf kB [kE43, kE87, kE296, kE420] (ksp [(192, 200, 7, 0, 7, 0)]) kE424 [kC424_0, kC424_1, kC424_2, kC424_3] 30000 (some kC424_3) = true := by decide +kernel
theorem kok424 : aOK kS krf kB kE424 := aOK_of (kal1 kok43 (kal1 kok87 (kal1 kok296 (kal1 kok420 kal0)))) (kcl1 ks424_0 (kcl1 ks424_1 (kcl1 ks424_2 (kcl1 ks424_3 kcl0)))) ks424
/-- ColdShodModel.triesWay(IIIII)V -/
def kE425 : aE := (192, 49, ([kvB 0 7, kvB 0 7, kvB 0 7], [], 0, [kvR 102, kvI 0, kvI 1, kvI 2, kvN 122, kvN 4, none, none], []), ([], none), ([], [], none, ([], [])), kvW61)
def kC425_0 : aC := (([kvB 0 7, kvB 0 7, kvB 0 7, kvB 0 1, kvB 0 4], [], 16, [kvR 102, kvI 0, kvI 1, kvI 2, kvN 122, kvN 4, kvI 3, kvI 4], []), ([], []), (170, [(-1, 4)]))
def kC425_1 : aC := (([kvB 0 7, kvB 0 7, kvB 0 7, kvB 0 12], [], 141, [kvR 102, kvI 0, kvI 1, kvI 2, kvN 122, kvN 4, kvI 3, none], []), ([], []), (141, [(-11, 3)]))
def kC425_2 : aC := (([kvB 0 7, kvB 0 7, kvB 0 7, kvB 0 11, (.negSucc 0, .ofNat 7), kvB 1 12], [(102, 8, .inl (5, .ofNat 0))], 195, [kvR 102, kvI 0, kvI 1, kvI 2, kvN 122, kvN 4, kvI 3, kvI 4], []), ([], []), (139, [(-11, 3), (-1, 4)]))
def kC425_3 : aC := (([kvB 0 7, kvB 0 7, kvB 0 7, kvB 0 4, (.negSucc 0, .ofNat 99)], [(102, 29, .inl (4, .ofNat 0)), (102, 30, .inr (.ofNat 4))], 110, [kvR 102, kvI 0, kvI 1, kvI 2, kvN 122, kvN 4, kvN 1, kvI 3], []), ([], []), (4, [(-1, 3)]))
theorem ks425 : aseg kS krf kB [kE43, kE87, kE297, kE421, kE424] (ksp [(192, 200, 7, 0, 7, 0)]) kE425 [kC425_0, kC425_1, kC425_2, kC425_3] 30000 (none) = true := by decide +kernel
theorem ks425_0 : aseg kS krf kB [kE43, kE87, kE297, kE421, kE424] (ksp [(192, 200, 7, 0, 7, 0)]) kE425 [kC425_0, kC425_1, kC425_2, kC425_3] 30000 (some kC425_0) = true := by decide +kernel
theorem ks425_1 : aseg kS krf kB [kE43, kE87, kE297, kE421, kE424] (ksp [(192, 200, 7, 0, 7, 0)]) kE425 [kC425_0, kC425_1, kC425_2, kC425_3] 30000 (some kC425_1) = true := by decide +kernel
theorem ks425_2 : aseg kS krf kB [kE43, kE87, kE297, kE421, kE424] (ksp [(192, 200, 7, 0, 7, 0)]) kE425 [kC425_0, kC425_1, kC425_2, kC425_3] 30000 (some kC425_2) = true := by decide +kernel
theorem ks425_3 : aseg kS krf kB [kE43, kE87, kE297, kE421, kE424] (ksp [(192, 200, 7, 0, 7, 0)]) kE425 [kC425_0, kC425_1, kC425_2, kC425_3] 30000 (some kC425_3) = true := by decide +kernel
theorem kok425 : aOK kS krf kB kE425 := aOK_of (kal1 kok43 (kal1 kok87 (kal1 kok297 (kal1 kok421 (kal1 kok424 kal0))))) (kcl1 ks425_0 (kcl1 ks425_1 (kcl1 ks425_2 (kcl1 ks425_3 kcl0)))) ks425
/-- ColdShodModel.triesWay(IIIII)V -/
def kE426 : aE := (192, 49, ([kvB 0 7, kvB 0 7, kvB 0 7], [], 0, [kvR 102, kvI 0, kvI 1, kvI 2, kvN 121, kvN 4, none, none], []), ([], none), ([], [], none, ([], [])), kvW61)
def kC426_0 : aC := (([kvB 0 7, kvB 0 7, kvB 0 7, kvB 0 1, kvB 0 4], [], 16, [kvR 102, kvI 0, kvI 1, kvI 2, kvN 121, kvN 4, kvI 3, kvI 4], []), ([], []), (170, [(-1, 4)]))
def kC426_1 : aC := (([kvB 0 7, kvB 0 7, kvB 0 7, kvB 0 12], [], 141, [kvR 102, kvI 0, kvI 1, kvI 2, kvN 121, kvN 4, kvI 3, none], []), ([], []), (141, [(-11, 3)]))
def kC426_2 : aC := (([kvB 0 7, kvB 0 7, kvB 0 7, kvB 0 11, (.negSucc 0, .ofNat 7), kvB 1 12], [(102, 8, .inl (5, .ofNat 0))], 195, [kvR 102, kvI 0, kvI 1, kvI 2, kvN 121, kvN 4, kvI 3, kvI 4], []), ([], []), (139, [(-11, 3), (-1, 4)]))
def kC426_3 : aC := (([kvB 0 7, kvB 0 7, kvB 0 7, kvB 0 4, (.negSucc 0, .ofNat 99)], [(102, 29, .inl (4, .ofNat 0)), (102, 30, .inr (.ofNat 4))], 110, [kvR 102, kvI 0, kvI 1, kvI 2, kvN 121, kvN 4, kvN 1, kvI 3], []), ([], []), (4, [(-1, 3)]))
theorem ks426 : aseg kS krf kB [kE43, kE87, kE298, kE422, kE424] (ksp [(192, 200, 7, 0, 7, 0)]) kE426 [kC426_0, kC426_1, kC426_2, kC426_3] 30000 (none) = true := by decide +kernel
theorem ks426_0 : aseg kS krf kB [kE43, kE87, kE298, kE422, kE424] (ksp [(192, 200, 7, 0, 7, 0)]) kE426 [kC426_0, kC426_1, kC426_2, kC426_3] 30000 (some kC426_0) = true := by decide +kernel
theorem ks426_1 : aseg kS krf kB [kE43, kE87, kE298, kE422, kE424] (ksp [(192, 200, 7, 0, 7, 0)]) kE426 [kC426_0, kC426_1, kC426_2, kC426_3] 30000 (some kC426_1) = true := by decide +kernel
theorem ks426_2 : aseg kS krf kB [kE43, kE87, kE298, kE422, kE424] (ksp [(192, 200, 7, 0, 7, 0)]) kE426 [kC426_0, kC426_1, kC426_2, kC426_3] 30000 (some kC426_2) = true := by decide +kernel
theorem ks426_3 : aseg kS krf kB [kE43, kE87, kE298, kE422, kE424] (ksp [(192, 200, 7, 0, 7, 0)]) kE426 [kC426_0, kC426_1, kC426_2, kC426_3] 30000 (some kC426_3) = true := by decide +kernel
theorem kok426 : aOK kS krf kB kE426 := aOK_of (kal1 kok43 (kal1 kok87 (kal1 kok298 (kal1 kok422 (kal1 kok424 kal0))))) (kcl1 ks426_0 (kcl1 ks426_1 (kcl1 ks426_2 (kcl1 ks426_3 kcl0)))) ks426
/-- ColdShodModel.triesWay(IIIII)V -/
def kE427 : aE := (192, 50, ([kvB 0 7, kvB 0 7, kvB 0 7], [], 0, [kvR 102, kvI 0, kvI 1, kvI 2, kvN 120, kvN 3, none, none], []), ([], none), ([], [], none, ([], [])), kvW62)
def kC427_0 : aC := (([kvB 0 7, kvB 0 7, kvB 0 7, kvB 0 1, kvB 0 3], [], 16, [kvR 102, kvI 0, kvI 1, kvI 2, kvN 120, kvN 3, kvI 3, kvI 4], []), ([], []), (169, [(-1, 4)]))
def kC427_1 : aC := (([kvB 0 7, kvB 0 7, kvB 0 7, kvB 0 12], [], 141, [kvR 102, kvI 0, kvI 1, kvI 2, kvN 120, kvN 3, kvI 3, none], []), ([], []), (141, [(-11, 3)]))
def kC427_2 : aC := (([kvB 0 7, kvB 0 7, kvB 0 7, kvB 0 11, (.negSucc 0, .ofNat 7), kvB 1 12], [(102, 8, .inl (5, .ofNat 0))], 195, [kvR 102, kvI 0, kvI 1, kvI 2, kvN 120, kvN 3, kvI 3, kvI 4], []), ([], []), (139, [(-11, 3), (-1, 4)]))
def kC427_3 : aC := (([kvB 0 7, kvB 0 7, kvB 0 7, kvB 0 3, (.negSucc 0, .ofNat 99)], [(102, 29, .inl (4, .ofNat 0)), (102, 30, .inr (.ofNat 3))], 110, [kvR 102, kvI 0, kvI 1, kvI 2, kvN 120, kvN 3, kvN 1, kvI 3], []), ([], []), (3, [(-1, 3)]))
theorem ks427 : aseg kS krf kB [kE43, kE87, kE299, kE423, kE425, kE426] (ksp [(192, 200, 7, 0, 7, 0)]) kE427 [kC427_0, kC427_1, kC427_2, kC427_3] 30000 (none) = true := by decide +kernel
theorem ks427_0 : aseg kS krf kB [kE43, kE87, kE299, kE423, kE425, kE426] (ksp [(192, 200, 7, 0, 7, 0)]) kE427 [kC427_0, kC427_1, kC427_2, kC427_3] 30000 (some kC427_0) = true := by decide +kernel
theorem ks427_1 : aseg kS krf kB [kE43, kE87, kE299, kE423, kE425, kE426] (ksp [(192, 200, 7, 0, 7, 0)]) kE427 [kC427_0, kC427_1, kC427_2, kC427_3] 30000 (some kC427_1) = true := by decide +kernel
theorem ks427_2 : aseg kS krf kB [kE43, kE87, kE299, kE423, kE425, kE426] (ksp [(192, 200, 7, 0, 7, 0)]) kE427 [kC427_0, kC427_1, kC427_2, kC427_3] 30000 (some kC427_2) = true := by decide +kernel
theorem ks427_3 : aseg kS krf kB [kE43, kE87, kE299, kE423, kE425, kE426] (ksp [(192, 200, 7, 0, 7, 0)]) kE427 [kC427_0, kC427_1, kC427_2, kC427_3] 30000 (some kC427_3) = true := by decide +kernel
theorem kok427 : aOK kS krf kB kE427 := aOK_of (kal1 kok43 (kal1 kok87 (kal1 kok299 (kal1 kok423 (kal1 kok425 (kal1 kok426 kal0)))))) (kcl1 ks427_0 (kcl1 ks427_1 (kcl1 ks427_2 (kcl1 ks427_3 kcl0)))) ks427
/-- ColdShodModel.triesWay(IIIII)V -/
def kE428 : aE := (192, 48, ([kvB 0 7, kvB 0 7, kvB 0 7], [], 0, [kvR 102, kvI 0, kvI 1, kvI 2, kvN 119, kvN 5, none, none], []), ([], none), ([], [], none, ([], [])), kvW60)
def kC428_0 : aC := (([kvB 0 7, kvB 0 7, kvB 0 7, kvB 0 1, kvB 0 5], [], 16, [kvR 102, kvI 0, kvI 1, kvI 2, kvN 119, kvN 5, kvI 3, kvI 4], []), ([], []), (171, [(-1, 4)]))
def kC428_1 : aC := (([kvB 0 7, kvB 0 7, kvB 0 7, kvB 0 12], [], 141, [kvR 102, kvI 0, kvI 1, kvI 2, kvN 119, kvN 5, kvI 3, none], []), ([], []), (141, [(-11, 3)]))
def kC428_2 : aC := (([kvB 0 7, kvB 0 7, kvB 0 7, kvB 0 11, (.negSucc 0, .ofNat 7), kvB 1 12], [(102, 8, .inl (5, .ofNat 0))], 195, [kvR 102, kvI 0, kvI 1, kvI 2, kvN 119, kvN 5, kvI 3, kvI 4], []), ([], []), (139, [(-11, 3), (-1, 4)]))
def kC428_3 : aC := (([kvB 0 7, kvB 0 7, kvB 0 7, kvB 0 5, (.negSucc 0, .ofNat 99)], [(102, 29, .inl (4, .ofNat 0)), (102, 30, .inr (.ofNat 5))], 110, [kvR 102, kvI 0, kvI 1, kvI 2, kvN 119, kvN 5, kvN 1, kvI 3], []), ([], []), (5, [(-1, 3)]))
theorem ks428 : aseg kS krf kB [kE43, kE87, kE300, kE420] (ksp [(192, 200, 7, 0, 7, 0)]) kE428 [kC428_0, kC428_1, kC428_2, kC428_3] 30000 (none) = true := by decide +kernel
theorem ks428_0 : aseg kS krf kB [kE43, kE87, kE300, kE420] (ksp [(192, 200, 7, 0, 7, 0)]) kE428 [kC428_0, kC428_1, kC428_2, kC428_3] 30000 (some kC428_0) = true := by decide +kernel
theorem ks428_1 : aseg kS krf kB [kE43, kE87, kE300, kE420] (ksp [(192, 200, 7, 0, 7, 0)]) kE428 [kC428_0, kC428_1, kC428_2, kC428_3] 30000 (some kC428_1) = true := by decide +kernel
theorem ks428_2 : aseg kS krf kB [kE43, kE87, kE300, kE420] (ksp [(192, 200, 7, 0, 7, 0)]) kE428 [kC428_0, kC428_1, kC428_2, kC428_3] 30000 (some kC428_2) = true := by decide +kernel
theorem ks428_3 : aseg kS krf kB [kE43, kE87, kE300, kE420] (ksp [(192, 200, 7, 0, 7, 0)]) kE428 [kC428_0, kC428_1, kC428_2, kC428_3] 30000 (some kC428_3) = true := by decide +kernel
theorem kok428 : aOK kS krf kB kE428 := aOK_of (kal1 kok43 (kal1 kok87 (kal1 kok300 (kal1 kok420 kal0)))) (kcl1 ks428_0 (kcl1 ks428_1 (kcl1 ks428_2 (kcl1 ks428_3 kcl0)))) ks428
/-- ColdShodModel.triesWay(IIIII)V -/
def kE429 : aE := (192, 49, ([kvB 0 7, kvB 0 7, kvB 0 7], [], 0, [kvR 102, kvI 0, kvI 1, kvI 2, kvN 118, kvN 4, none, none], []), ([], none), ([], [], none, ([], [])), kvW61)
def kC429_0 : aC := (([kvB 0 7, kvB 0 7, kvB 0 7, kvB 0 1, kvB 0 4], [], 16, [kvR 102, kvI 0, kvI 1, kvI 2, kvN 118, kvN 4, kvI 3, kvI 4], []), ([], []), (170, [(-1, 4)]))
def kC429_1 : aC := (([kvB 0 7, kvB 0 7, kvB 0 7, kvB 0 12], [], 141, [kvR 102, kvI 0, kvI 1, kvI 2, kvN 118, kvN 4, kvI 3, none], []), ([], []), (141, [(-11, 3)]))
def kC429_2 : aC := (([kvB 0 7, kvB 0 7, kvB 0 7, kvB 0 11, (.negSucc 0, .ofNat 7), kvB 1 12], [(102, 8, .inl (5, .ofNat 0))], 195, [kvR 102, kvI 0, kvI 1, kvI 2, kvN 118, kvN 4, kvI 3, kvI 4], []), ([], []), (139, [(-11, 3), (-1, 4)]))
def kC429_3 : aC := (([kvB 0 7, kvB 0 7, kvB 0 7, kvB 0 4, (.negSucc 0, .ofNat 99)], [(102, 29, .inl (4, .ofNat 0)), (102, 30, .inr (.ofNat 4))], 110, [kvR 102, kvI 0, kvI 1, kvI 2, kvN 118, kvN 4, kvN 1, kvI 3], []), ([], []), (4, [(-1, 3)]))
theorem ks429 : aseg kS krf kB [kE43, kE87, kE301, kE421, kE428] (ksp [(192, 200, 7, 0, 7, 0)]) kE429 [kC429_0, kC429_1, kC429_2, kC429_3] 30000 (none) = true := by decide +kernel
theorem ks429_0 : aseg kS krf kB [kE43, kE87, kE301, kE421, kE428] (ksp [(192, 200, 7, 0, 7, 0)]) kE429 [kC429_0, kC429_1, kC429_2, kC429_3] 30000 (some kC429_0) = true := by decide +kernel
theorem ks429_1 : aseg kS krf kB [kE43, kE87, kE301, kE421, kE428] (ksp [(192, 200, 7, 0, 7, 0)]) kE429 [kC429_0, kC429_1, kC429_2, kC429_3] 30000 (some kC429_1) = true := by decide +kernel
theorem ks429_2 : aseg kS krf kB [kE43, kE87, kE301, kE421, kE428] (ksp [(192, 200, 7, 0, 7, 0)]) kE429 [kC429_0, kC429_1, kC429_2, kC429_3] 30000 (some kC429_2) = true := by decide +kernel
theorem ks429_3 : aseg kS krf kB [kE43, kE87, kE301, kE421, kE428] (ksp [(192, 200, 7, 0, 7, 0)]) kE429 [kC429_0, kC429_1, kC429_2, kC429_3] 30000 (some kC429_3) = true := by decide +kernel
theorem kok429 : aOK kS krf kB kE429 := aOK_of (kal1 kok43 (kal1 kok87 (kal1 kok301 (kal1 kok421 (kal1 kok428 kal0))))) (kcl1 ks429_0 (kcl1 ks429_1 (kcl1 ks429_2 (kcl1 ks429_3 kcl0)))) ks429
/-- ColdShodModel.triesWay(IIIII)V -/
def kE430 : aE := (192, 49, ([kvB 0 7, kvB 0 7, kvB 0 7], [], 0, [kvR 102, kvI 0, kvI 1, kvI 2, kvN 117, kvN 4, none, none], []), ([], none), ([], [], none, ([], [])), kvW61)
def kC430_0 : aC := (([kvB 0 7, kvB 0 7, kvB 0 7, kvB 0 1, kvB 0 4], [], 16, [kvR 102, kvI 0, kvI 1, kvI 2, kvN 117, kvN 4, kvI 3, kvI 4], []), ([], []), (170, [(-1, 4)]))
def kC430_1 : aC := (([kvB 0 7, kvB 0 7, kvB 0 7, kvB 0 12], [], 141, [kvR 102, kvI 0, kvI 1, kvI 2, kvN 117, kvN 4, kvI 3, none], []), ([], []), (141, [(-11, 3)]))
def kC430_2 : aC := (([kvB 0 7, kvB 0 7, kvB 0 7, kvB 0 11, (.negSucc 0, .ofNat 7), kvB 1 12], [(102, 8, .inl (5, .ofNat 0))], 195, [kvR 102, kvI 0, kvI 1, kvI 2, kvN 117, kvN 4, kvI 3, kvI 4], []), ([], []), (139, [(-11, 3), (-1, 4)]))
def kC430_3 : aC := (([kvB 0 7, kvB 0 7, kvB 0 7, kvB 0 4, (.negSucc 0, .ofNat 99)], [(102, 29, .inl (4, .ofNat 0)), (102, 30, .inr (.ofNat 4))], 110, [kvR 102, kvI 0, kvI 1, kvI 2, kvN 117, kvN 4, kvN 1, kvI 3], []), ([], []), (4, [(-1, 3)]))
theorem ks430 : aseg kS krf kB [kE43, kE87, kE302, kE422, kE428] (ksp [(192, 200, 7, 0, 7, 0)]) kE430 [kC430_0, kC430_1, kC430_2, kC430_3] 30000 (none) = true := by decide +kernel
theorem ks430_0 : aseg kS krf kB [kE43, kE87, kE302, kE422, kE428] (ksp [(192, 200, 7, 0, 7, 0)]) kE430 [kC430_0, kC430_1, kC430_2, kC430_3] 30000 (some kC430_0) = true := by decide +kernel
theorem ks430_1 : aseg kS krf kB [kE43, kE87, kE302, kE422, kE428] (ksp [(192, 200, 7, 0, 7, 0)]) kE430 [kC430_0, kC430_1, kC430_2, kC430_3] 30000 (some kC430_1) = true := by decide +kernel
theorem ks430_2 : aseg kS krf kB [kE43, kE87, kE302, kE422, kE428] (ksp [(192, 200, 7, 0, 7, 0)]) kE430 [kC430_0, kC430_1, kC430_2, kC430_3] 30000 (some kC430_2) = true := by decide +kernel
theorem ks430_3 : aseg kS krf kB [kE43, kE87, kE302, kE422, kE428] (ksp [(192, 200, 7, 0, 7, 0)]) kE430 [kC430_0, kC430_1, kC430_2, kC430_3] 30000 (some kC430_3) = true := by decide +kernel
theorem kok430 : aOK kS krf kB kE430 := aOK_of (kal1 kok43 (kal1 kok87 (kal1 kok302 (kal1 kok422 (kal1 kok428 kal0))))) (kcl1 ks430_0 (kcl1 ks430_1 (kcl1 ks430_2 (kcl1 ks430_3 kcl0)))) ks430
/-- ColdShodModel.triesWay(IIIII)V -/
def kE431 : aE := (192, 50, ([kvB 0 7, kvB 0 7, kvB 0 7], [], 0, [kvR 102, kvI 0, kvI 1, kvI 2, kvN 116, kvN 3, none, none], []), ([], none), ([], [], none, ([], [])), kvW62)
def kC431_0 : aC := (([kvB 0 7, kvB 0 7, kvB 0 7, kvB 0 1, kvB 0 3], [], 16, [kvR 102, kvI 0, kvI 1, kvI 2, kvN 116, kvN 3, kvI 3, kvI 4], []), ([], []), (169, [(-1, 4)]))
def kC431_1 : aC := (([kvB 0 7, kvB 0 7, kvB 0 7, kvB 0 12], [], 141, [kvR 102, kvI 0, kvI 1, kvI 2, kvN 116, kvN 3, kvI 3, none], []), ([], []), (141, [(-11, 3)]))
def kC431_2 : aC := (([kvB 0 7, kvB 0 7, kvB 0 7, kvB 0 11, (.negSucc 0, .ofNat 7), kvB 1 12], [(102, 8, .inl (5, .ofNat 0))], 195, [kvR 102, kvI 0, kvI 1, kvI 2, kvN 116, kvN 3, kvI 3, kvI 4], []), ([], []), (139, [(-11, 3), (-1, 4)]))
def kC431_3 : aC := (([kvB 0 7, kvB 0 7, kvB 0 7, kvB 0 3, (.negSucc 0, .ofNat 99)], [(102, 29, .inl (4, .ofNat 0)), (102, 30, .inr (.ofNat 3))], 110, [kvR 102, kvI 0, kvI 1, kvI 2, kvN 116, kvN 3, kvN 1, kvI 3], []), ([], []), (3, [(-1, 3)]))
theorem ks431 : aseg kS krf kB [kE43, kE87, kE303, kE423, kE429, kE430] (ksp [(192, 200, 7, 0, 7, 0)]) kE431 [kC431_0, kC431_1, kC431_2, kC431_3] 30000 (none) = true := by decide +kernel
theorem ks431_0 : aseg kS krf kB [kE43, kE87, kE303, kE423, kE429, kE430] (ksp [(192, 200, 7, 0, 7, 0)]) kE431 [kC431_0, kC431_1, kC431_2, kC431_3] 30000 (some kC431_0) = true := by decide +kernel
theorem ks431_1 : aseg kS krf kB [kE43, kE87, kE303, kE423, kE429, kE430] (ksp [(192, 200, 7, 0, 7, 0)]) kE431 [kC431_0, kC431_1, kC431_2, kC431_3] 30000 (some kC431_1) = true := by decide +kernel
theorem ks431_2 : aseg kS krf kB [kE43, kE87, kE303, kE423, kE429, kE430] (ksp [(192, 200, 7, 0, 7, 0)]) kE431 [kC431_0, kC431_1, kC431_2, kC431_3] 30000 (some kC431_2) = true := by decide +kernel
theorem ks431_3 : aseg kS krf kB [kE43, kE87, kE303, kE423, kE429, kE430] (ksp [(192, 200, 7, 0, 7, 0)]) kE431 [kC431_0, kC431_1, kC431_2, kC431_3] 30000 (some kC431_3) = true := by decide +kernel
theorem kok431 : aOK kS krf kB kE431 := aOK_of (kal1 kok43 (kal1 kok87 (kal1 kok303 (kal1 kok423 (kal1 kok429 (kal1 kok430 kal0)))))) (kcl1 ks431_0 (kcl1 ks431_1 (kcl1 ks431_2 (kcl1 ks431_3 kcl0)))) ks431
/-- ColdShodModel.triesWay(IIIII)V -/
def kE432 : aE := (192, 49, ([kvB 0 7, kvB 0 7, kvB 0 7], [], 0, [kvR 102, kvI 0, kvI 1, kvI 2, kvN 115, kvN 4, none, none], []), ([], none), ([], [], none, ([], [])), kvW61)
def kC432_0 : aC := (([kvB 0 7, kvB 0 7, kvB 0 7, kvB 0 1, kvB 0 4], [], 16, [kvR 102, kvI 0, kvI 1, kvI 2, kvN 115, kvN 4, kvI 3, kvI 4], []), ([], []), (170, [(-1, 4)]))
def kC432_1 : aC := (([kvB 0 7, kvB 0 7, kvB 0 7, kvB 0 12], [], 141, [kvR 102, kvI 0, kvI 1, kvI 2, kvN 115, kvN 4, kvI 3, none], []), ([], []), (141, [(-11, 3)]))
def kC432_2 : aC := (([kvB 0 7, kvB 0 7, kvB 0 7, kvB 0 11, (.negSucc 0, .ofNat 7), kvB 1 12], [(102, 8, .inl (5, .ofNat 0))], 195, [kvR 102, kvI 0, kvI 1, kvI 2, kvN 115, kvN 4, kvI 3, kvI 4], []), ([], []), (139, [(-11, 3), (-1, 4)]))
def kC432_3 : aC := (([kvB 0 7, kvB 0 7, kvB 0 7, kvB 0 4, (.negSucc 0, .ofNat 99)], [(102, 29, .inl (4, .ofNat 0)), (102, 30, .inr (.ofNat 4))], 110, [kvR 102, kvI 0, kvI 1, kvI 2, kvN 115, kvN 4, kvN 1, kvI 3], []), ([], []), (4, [(-1, 3)]))
theorem ks432 : aseg kS krf kB [kE43, kE87, kE304, kE424, kE428] (ksp [(192, 200, 7, 0, 7, 0)]) kE432 [kC432_0, kC432_1, kC432_2, kC432_3] 30000 (none) = true := by decide +kernel
theorem ks432_0 : aseg kS krf kB [kE43, kE87, kE304, kE424, kE428] (ksp [(192, 200, 7, 0, 7, 0)]) kE432 [kC432_0, kC432_1, kC432_2, kC432_3] 30000 (some kC432_0) = true := by decide +kernel
theorem ks432_1 : aseg kS krf kB [kE43, kE87, kE304, kE424, kE428] (ksp [(192, 200, 7, 0, 7, 0)]) kE432 [kC432_0, kC432_1, kC432_2, kC432_3] 30000 (some kC432_1) = true := by decide +kernel
theorem ks432_2 : aseg kS krf kB [kE43, kE87, kE304, kE424, kE428] (ksp [(192, 200, 7, 0, 7, 0)]) kE432 [kC432_0, kC432_1, kC432_2, kC432_3] 30000 (some kC432_2) = true := by decide +kernel
theorem ks432_3 : aseg kS krf kB [kE43, kE87, kE304, kE424, kE428] (ksp [(192, 200, 7, 0, 7, 0)]) kE432 [kC432_0, kC432_1, kC432_2, kC432_3] 30000 (some kC432_3) = true := by decide +kernel
theorem kok432 : aOK kS krf kB kE432 := aOK_of (kal1 kok43 (kal1 kok87 (kal1 kok304 (kal1 kok424 (kal1 kok428 kal0))))) (kcl1 ks432_0 (kcl1 ks432_1 (kcl1 ks432_2 (kcl1 ks432_3 kcl0)))) ks432
/-- ColdShodModel.triesWay(IIIII)V -/
def kE433 : aE := (192, 50, ([kvB 0 7, kvB 0 7, kvB 0 7], [], 0, [kvR 102, kvI 0, kvI 1, kvI 2, kvN 114, kvN 3, none, none], []), ([], none), ([], [], none, ([], [])), kvW62)
def kC433_0 : aC := (([kvB 0 7, kvB 0 7, kvB 0 7, kvB 0 1, kvB 0 3], [], 16, [kvR 102, kvI 0, kvI 1, kvI 2, kvN 114, kvN 3, kvI 3, kvI 4], []), ([], []), (169, [(-1, 4)]))
def kC433_1 : aC := (([kvB 0 7, kvB 0 7, kvB 0 7, kvB 0 12], [], 141, [kvR 102, kvI 0, kvI 1, kvI 2, kvN 114, kvN 3, kvI 3, none], []), ([], []), (141, [(-11, 3)]))
def kC433_2 : aC := (([kvB 0 7, kvB 0 7, kvB 0 7, kvB 0 11, (.negSucc 0, .ofNat 7), kvB 1 12], [(102, 8, .inl (5, .ofNat 0))], 195, [kvR 102, kvI 0, kvI 1, kvI 2, kvN 114, kvN 3, kvI 3, kvI 4], []), ([], []), (139, [(-11, 3), (-1, 4)]))
def kC433_3 : aC := (([kvB 0 7, kvB 0 7, kvB 0 7, kvB 0 3, (.negSucc 0, .ofNat 99)], [(102, 29, .inl (4, .ofNat 0)), (102, 30, .inr (.ofNat 3))], 110, [kvR 102, kvI 0, kvI 1, kvI 2, kvN 114, kvN 3, kvN 1, kvI 3], []), ([], []), (3, [(-1, 3)]))
theorem ks433 : aseg kS krf kB [kE43, kE87, kE305, kE425, kE429, kE432] (ksp [(192, 200, 7, 0, 7, 0)]) kE433 [kC433_0, kC433_1, kC433_2, kC433_3] 30000 (none) = true := by decide +kernel
theorem ks433_0 : aseg kS krf kB [kE43, kE87, kE305, kE425, kE429, kE432] (ksp [(192, 200, 7, 0, 7, 0)]) kE433 [kC433_0, kC433_1, kC433_2, kC433_3] 30000 (some kC433_0) = true := by decide +kernel
theorem ks433_1 : aseg kS krf kB [kE43, kE87, kE305, kE425, kE429, kE432] (ksp [(192, 200, 7, 0, 7, 0)]) kE433 [kC433_0, kC433_1, kC433_2, kC433_3] 30000 (some kC433_1) = true := by decide +kernel
theorem ks433_2 : aseg kS krf kB [kE43, kE87, kE305, kE425, kE429, kE432] (ksp [(192, 200, 7, 0, 7, 0)]) kE433 [kC433_0, kC433_1, kC433_2, kC433_3] 30000 (some kC433_2) = true := by decide +kernel
theorem ks433_3 : aseg kS krf kB [kE43, kE87, kE305, kE425, kE429, kE432] (ksp [(192, 200, 7, 0, 7, 0)]) kE433 [kC433_0, kC433_1, kC433_2, kC433_3] 30000 (some kC433_3) = true := by decide +kernel
theorem kok433 : aOK kS krf kB kE433 := aOK_of (kal1 kok43 (kal1 kok87 (kal1 kok305 (kal1 kok425 (kal1 kok429 (kal1 kok432 kal0)))))) (kcl1 ks433_0 (kcl1 ks433_1 (kcl1 ks433_2 (kcl1 ks433_3 kcl0)))) ks433
/-- ColdShodModel.triesWay(IIIII)V -/
def kE434 : aE := (192, 50, ([kvB 0 7, kvB 0 7, kvB 0 7], [], 0, [kvR 102, kvI 0, kvI 1, kvI 2, kvN 113, kvN 3, none, none], []), ([], none), ([], [], none, ([], [])), kvW62)
def kC434_0 : aC := (([kvB 0 7, kvB 0 7, kvB 0 7, kvB 0 1, kvB 0 3], [], 16, [kvR 102, kvI 0, kvI 1, kvI 2, kvN 113, kvN 3, kvI 3, kvI 4], []), ([], []), (169, [(-1, 4)]))
def kC434_1 : aC := (([kvB 0 7, kvB 0 7, kvB 0 7, kvB 0 12], [], 141, [kvR 102, kvI 0, kvI 1, kvI 2, kvN 113, kvN 3, kvI 3, none], []), ([], []), (141, [(-11, 3)]))
def kC434_2 : aC := (([kvB 0 7, kvB 0 7, kvB 0 7, kvB 0 11, (.negSucc 0, .ofNat 7), kvB 1 12], [(102, 8, .inl (5, .ofNat 0))], 195, [kvR 102, kvI 0, kvI 1, kvI 2, kvN 113, kvN 3, kvI 3, kvI 4], []), ([], []), (139, [(-11, 3), (-1, 4)]))
def kC434_3 : aC := (([kvB 0 7, kvB 0 7, kvB 0 7, kvB 0 3, (.negSucc 0, .ofNat 99)], [(102, 29, .inl (4, .ofNat 0)), (102, 30, .inr (.ofNat 3))], 110, [kvR 102, kvI 0, kvI 1, kvI 2, kvN 113, kvN 3, kvN 1, kvI 3], []), ([], []), (3, [(-1, 3)]))
theorem ks434 : aseg kS krf kB [kE43, kE87, kE306, kE426, kE430, kE432] (ksp [(192, 200, 7, 0, 7, 0)]) kE434 [kC434_0, kC434_1, kC434_2, kC434_3] 30000 (none) = true := by decide +kernel
theorem ks434_0 : aseg kS krf kB [kE43, kE87, kE306, kE426, kE430, kE432] (ksp [(192, 200, 7, 0, 7, 0)]) kE434 [kC434_0, kC434_1, kC434_2, kC434_3] 30000 (some kC434_0) = true := by decide +kernel
theorem ks434_1 : aseg kS krf kB [kE43, kE87, kE306, kE426, kE430, kE432] (ksp [(192, 200, 7, 0, 7, 0)]) kE434 [kC434_0, kC434_1, kC434_2, kC434_3] 30000 (some kC434_1) = true := by decide +kernel
theorem ks434_2 : aseg kS krf kB [kE43, kE87, kE306, kE426, kE430, kE432] (ksp [(192, 200, 7, 0, 7, 0)]) kE434 [kC434_0, kC434_1, kC434_2, kC434_3] 30000 (some kC434_2) = true := by decide +kernel
theorem ks434_3 : aseg kS krf kB [kE43, kE87, kE306, kE426, kE430, kE432] (ksp [(192, 200, 7, 0, 7, 0)]) kE434 [kC434_0, kC434_1, kC434_2, kC434_3] 30000 (some kC434_3) = true := by decide +kernel
theorem kok434 : aOK kS krf kB kE434 := aOK_of (kal1 kok43 (kal1 kok87 (kal1 kok306 (kal1 kok426 (kal1 kok430 (kal1 kok432 kal0)))))) (kcl1 ks434_0 (kcl1 ks434_1 (kcl1 ks434_2 (kcl1 ks434_3 kcl0)))) ks434
/-- ColdShodModel.triesWay(IIIII)V -/
def kE435 : aE := (192, 51, ([kvB 0 7, kvB 0 7, kvB 0 7], [], 0, [kvR 102, kvI 0, kvI 1, kvI 2, kvN 112, kvN 2, none, none], []), ([], none), ([], [], none, ([], [])), kvW63)
def kC435_0 : aC := (([kvB 0 7, kvB 0 7, kvB 0 7, kvB 0 1, kvB 0 2], [], 16, [kvR 102, kvI 0, kvI 1, kvI 2, kvN 112, kvN 2, kvI 3, kvI 4], []), ([], []), (168, [(-1, 4)]))
def kC435_1 : aC := (([kvB 0 7, kvB 0 7, kvB 0 7, kvB 0 12], [], 141, [kvR 102, kvI 0, kvI 1, kvI 2, kvN 112, kvN 2, kvI 3, none], []), ([], []), (141, [(-11, 3)]))
def kC435_2 : aC := (([kvB 0 7, kvB 0 7, kvB 0 7, kvB 0 11, (.negSucc 0, .ofNat 7), kvB 1 12], [(102, 8, .inl (5, .ofNat 0))], 195, [kvR 102, kvI 0, kvI 1, kvI 2, kvN 112, kvN 2, kvI 3, kvI 4], []), ([], []), (139, [(-11, 3), (-1, 4)]))
def kC435_3 : aC := (([kvB 0 7, kvB 0 7, kvB 0 7, kvB 0 2, (.negSucc 0, .ofNat 99)], [(102, 29, .inl (4, .ofNat 0)), (102, 30, .inr (.ofNat 2))], 110, [kvR 102, kvI 0, kvI 1, kvI 2, kvN 112, kvN 2, kvN 1, kvI 3], []), ([], []), (2, [(-1, 3)]))
theorem ks435 : aseg kS krf kB [kE43, kE87, kE307, kE427, kE431, kE433, kE434] (ksp [(192, 200, 7, 0, 7, 0)]) kE435 [kC435_0, kC435_1, kC435_2, kC435_3] 30000 (none) = true := by decide +kernel
theorem ks435_0 : aseg kS krf kB [kE43, kE87, kE307, kE427, kE431, kE433, kE434] (ksp [(192, 200, 7, 0, 7, 0)]) kE435 [kC435_0, kC435_1, kC435_2, kC435_3] 30000 (some kC435_0) = true := by decide +kernel
theorem ks435_1 : aseg kS krf kB [kE43, kE87, kE307, kE427, kE431, kE433, kE434] (ksp [(192, 200, 7, 0, 7, 0)]) kE435 [kC435_0, kC435_1, kC435_2, kC435_3] 30000 (some kC435_1) = true := by decide +kernel
theorem ks435_2 : aseg kS krf kB [kE43, kE87, kE307, kE427, kE431, kE433, kE434] (ksp [(192, 200, 7, 0, 7, 0)]) kE435 [kC435_0, kC435_1, kC435_2, kC435_3] 30000 (some kC435_2) = true := by decide +kernel
theorem ks435_3 : aseg kS krf kB [kE43, kE87, kE307, kE427, kE431, kE433, kE434] (ksp [(192, 200, 7, 0, 7, 0)]) kE435 [kC435_0, kC435_1, kC435_2, kC435_3] 30000 (some kC435_3) = true := by decide +kernel
theorem kok435 : aOK kS krf kB kE435 := aOK_of (kal1 kok43 (kal1 kok87 (kal1 kok307 (kal1 kok427 (kal1 kok431 (kal1 kok433 (kal1 kok434 kal0))))))) (kcl1 ks435_0 (kcl1 ks435_1 (kcl1 ks435_2 (kcl1 ks435_3 kcl0)))) ks435
/-- ColdShodModel.triesWay(IIIII)V -/
def kE436 : aE := (192, 48, ([kvB 0 7, kvB 0 7, kvB 0 7], [], 0, [kvR 102, kvI 0, kvI 1, kvI 2, kvN 111, kvN 5, none, none], []), ([], none), ([], [], none, ([], [])), kvW60)
def kC436_0 : aC := (([kvB 0 7, kvB 0 7, kvB 0 7, kvB 0 1, kvB 0 5], [], 16, [kvR 102, kvI 0, kvI 1, kvI 2, kvN 111, kvN 5, kvI 3, kvI 4], []), ([], []), (171, [(-1, 4)]))
def kC436_1 : aC := (([kvB 0 7, kvB 0 7, kvB 0 7, kvB 0 12], [], 141, [kvR 102, kvI 0, kvI 1, kvI 2, kvN 111, kvN 5, kvI 3, none], []), ([], []), (141, [(-11, 3)]))
def kC436_2 : aC := (([kvB 0 7, kvB 0 7, kvB 0 7, kvB 0 11, (.negSucc 0, .ofNat 7), kvB 1 12], [(102, 8, .inl (5, .ofNat 0))], 195, [kvR 102, kvI 0, kvI 1, kvI 2, kvN 111, kvN 5, kvI 3, kvI 4], []), ([], []), (139, [(-11, 3), (-1, 4)]))
def kC436_3 : aC := (([kvB 0 7, kvB 0 7, kvB 0 7, kvB 0 5, (.negSucc 0, .ofNat 99)], [(102, 29, .inl (4, .ofNat 0)), (102, 30, .inr (.ofNat 5))], 110, [kvR 102, kvI 0, kvI 1, kvI 2, kvN 111, kvN 5, kvN 1, kvI 3], []), ([], []), (5, [(-1, 3)]))
theorem ks436 : aseg kS krf kB [kE43, kE87, kE308, kE420] (ksp [(192, 200, 7, 0, 7, 0)]) kE436 [kC436_0, kC436_1, kC436_2, kC436_3] 30000 (none) = true := by decide +kernel
theorem ks436_0 : aseg kS krf kB [kE43, kE87, kE308, kE420] (ksp [(192, 200, 7, 0, 7, 0)]) kE436 [kC436_0, kC436_1, kC436_2, kC436_3] 30000 (some kC436_0) = true := by decide +kernel
theorem ks436_1 : aseg kS krf kB [kE43, kE87, kE308, kE420] (ksp [(192, 200, 7, 0, 7, 0)]) kE436 [kC436_0, kC436_1, kC436_2, kC436_3] 30000 (some kC436_1) = true := by decide +kernel
theorem ks436_2 : aseg kS krf kB [kE43, kE87, kE308, kE420] (ksp [(192, 200, 7, 0, 7, 0)]) kE436 [kC436_0, kC436_1, kC436_2, kC436_3] 30000 (some kC436_2) = true := by decide +kernel
theorem ks436_3 : aseg kS krf kB [kE43, kE87, kE308, kE420] (ksp [(192, 200, 7, 0, 7, 0)]) kE436 [kC436_0, kC436_1, kC436_2, kC436_3] 30000 (some kC436_3) = true := by decide +kernel
theorem kok436 : aOK kS krf kB kE436 := aOK_of (kal1 kok43 (kal1 kok87 (kal1 kok308 (kal1 kok420 kal0)))) (kcl1 ks436_0 (kcl1 ks436_1 (kcl1 ks436_2 (kcl1 ks436_3 kcl0)))) ks436
/-- ColdShodModel.triesWay(IIIII)V -/
def kE437 : aE := (192, 49, ([kvB 0 7, kvB 0 7, kvB 0 7], [], 0, [kvR 102, kvI 0, kvI 1, kvI 2, kvN 110, kvN 4, none, none], []), ([], none), ([], [], none, ([], [])), kvW61)
def kC437_0 : aC := (([kvB 0 7, kvB 0 7, kvB 0 7, kvB 0 1, kvB 0 4], [], 16, [kvR 102, kvI 0, kvI 1, kvI 2, kvN 110, kvN 4, kvI 3, kvI 4], []), ([], []), (170, [(-1, 4)]))
def kC437_1 : aC := (([kvB 0 7, kvB 0 7, kvB 0 7, kvB 0 12], [], 141, [kvR 102, kvI 0, kvI 1, kvI 2, kvN 110, kvN 4, kvI 3, none], []), ([], []), (141, [(-11, 3)]))
def kC437_2 : aC := (([kvB 0 7, kvB 0 7, kvB 0 7, kvB 0 11, (.negSucc 0, .ofNat 7), kvB 1 12], [(102, 8, .inl (5, .ofNat 0))], 195, [kvR 102, kvI 0, kvI 1, kvI 2, kvN 110, kvN 4, kvI 3, kvI 4], []), ([], []), (139, [(-11, 3), (-1, 4)]))
def kC437_3 : aC := (([kvB 0 7, kvB 0 7, kvB 0 7, kvB 0 4, (.negSucc 0, .ofNat 99)], [(102, 29, .inl (4, .ofNat 0)), (102, 30, .inr (.ofNat 4))], 110, [kvR 102, kvI 0, kvI 1, kvI 2, kvN 110, kvN 4, kvN 1, kvI 3], []), ([], []), (4, [(-1, 3)]))
theorem ks437 : aseg kS krf kB [kE43, kE87, kE309, kE421, kE436] (ksp [(192, 200, 7, 0, 7, 0)]) kE437 [kC437_0, kC437_1, kC437_2, kC437_3] 30000 (none) = true := by decide +kernel
theorem ks437_0 : aseg kS krf kB [kE43, kE87, kE309, kE421, kE436] (ksp [(192, 200, 7, 0, 7, 0)]) kE437 [kC437_0, kC437_1, kC437_2, kC437_3] 30000 (some kC437_0) = true := by decide +kernel
theorem ks437_1 : aseg kS krf kB [kE43, kE87, kE309, kE421, kE436] (ksp [(192, 200, 7, 0, 7, 0)]) kE437 [kC437_0, kC437_1, kC437_2, kC437_3] 30000 (some kC437_1) = true := by decide +kernel
theorem ks437_2 : aseg kS krf kB [kE43, kE87, kE309, kE421, kE436] (ksp [(192, 200, 7, 0, 7, 0)]) kE437 [kC437_0, kC437_1, kC437_2, kC437_3] 30000 (some kC437_2) = true := by decide +kernel
theorem ks437_3 : aseg kS krf kB [kE43, kE87, kE309, kE421, kE436] (ksp [(192, 200, 7, 0, 7, 0)]) kE437 [kC437_0, kC437_1, kC437_2, kC437_3] 30000 (some kC437_3) = true := by decide +kernel
theorem kok437 : aOK kS krf kB kE437 := aOK_of (kal1 kok43 (kal1 kok87 (kal1 kok309 (kal1 kok421 (kal1 kok436 kal0))))) (kcl1 ks437_0 (kcl1 ks437_1 (kcl1 ks437_2 (kcl1 ks437_3 kcl0)))) ks437
/-- ColdShodModel.triesWay(IIIII)V -/
def kE438 : aE := (192, 49, ([kvB 0 7, kvB 0 7, kvB 0 7], [], 0, [kvR 102, kvI 0, kvI 1, kvI 2, kvN 109, kvN 4, none, none], []), ([], none), ([], [], none, ([], [])), kvW61)
def kC438_0 : aC := (([kvB 0 7, kvB 0 7, kvB 0 7, kvB 0 1, kvB 0 4], [], 16, [kvR 102, kvI 0, kvI 1, kvI 2, kvN 109, kvN 4, kvI 3, kvI 4], []), ([], []), (170, [(-1, 4)]))
def kC438_1 : aC := (([kvB 0 7, kvB 0 7, kvB 0 7, kvB 0 12], [], 141, [kvR 102, kvI 0, kvI 1, kvI 2, kvN 109, kvN 4, kvI 3, none], []), ([], []), (141, [(-11, 3)]))
def kC438_2 : aC := (([kvB 0 7, kvB 0 7, kvB 0 7, kvB 0 11, (.negSucc 0, .ofNat 7), kvB 1 12], [(102, 8, .inl (5, .ofNat 0))], 195, [kvR 102, kvI 0, kvI 1, kvI 2, kvN 109, kvN 4, kvI 3, kvI 4], []), ([], []), (139, [(-11, 3), (-1, 4)]))
def kC438_3 : aC := (([kvB 0 7, kvB 0 7, kvB 0 7, kvB 0 4, (.negSucc 0, .ofNat 99)], [(102, 29, .inl (4, .ofNat 0)), (102, 30, .inr (.ofNat 4))], 110, [kvR 102, kvI 0, kvI 1, kvI 2, kvN 109, kvN 4, kvN 1, kvI 3], []), ([], []), (4, [(-1, 3)]))
theorem ks438 : aseg kS krf kB [kE43, kE87, kE310, kE422, kE436] (ksp [(192, 200, 7, 0, 7, 0)]) kE438 [kC438_0, kC438_1, kC438_2, kC438_3] 30000 (none) = true := by decide +kernel
theorem ks438_0 : aseg kS krf kB [kE43, kE87, kE310, kE422, kE436] (ksp [(192, 200, 7, 0, 7, 0)]) kE438 [kC438_0, kC438_1, kC438_2, kC438_3] 30000 (some kC438_0) = true := by decide +kernel
theorem ks438_1 : aseg kS krf kB [kE43, kE87, kE310, kE422, kE436] (ksp [(192, 200, 7, 0, 7, 0)]) kE438 [kC438_0, kC438_1, kC438_2, kC438_3] 30000 (some kC438_1) = true := by decide +kernel
theorem ks438_2 : aseg kS krf kB [kE43, kE87, kE310, kE422, kE436] (ksp [(192, 200, 7, 0, 7, 0)]) kE438 [kC438_0, kC438_1, kC438_2, kC438_3] 30000 (some kC438_2) = true := by decide +kernel
theorem ks438_3 : aseg kS krf kB [kE43, kE87, kE310, kE422, kE436] (ksp [(192, 200, 7, 0, 7, 0)]) kE438 [kC438_0, kC438_1, kC438_2, kC438_3] 30000 (some kC438_3) = true := by decide +kernel
theorem kok438 : aOK kS krf kB kE438 := aOK_of (kal1 kok43 (kal1 kok87 (kal1 kok310 (kal1 kok422 (kal1 kok436 kal0))))) (kcl1 ks438_0 (kcl1 ks438_1 (kcl1 ks438_2 (kcl1 ks438_3 kcl0)))) ks438
/-- ColdShodModel.triesWay(IIIII)V -/
def kE439 : aE := (192, 50, ([kvB 0 7, kvB 0 7, kvB 0 7], [], 0, [kvR 102, kvI 0, kvI 1, kvI 2, kvN 108, kvN 3, none, none], []), ([], none), ([], [], none, ([], [])), kvW62)
def kC439_0 : aC := (([kvB 0 7, kvB 0 7, kvB 0 7, kvB 0 1, kvB 0 3], [], 16, [kvR 102, kvI 0, kvI 1, kvI 2, kvN 108, kvN 3, kvI 3, kvI 4], []), ([], []), (169, [(-1, 4)]))
def kC439_1 : aC := (([kvB 0 7, kvB 0 7, kvB 0 7, kvB 0 12], [], 141, [kvR 102, kvI 0, kvI 1, kvI 2, kvN 108, kvN 3, kvI 3, none], []), ([], []), (141, [(-11, 3)]))
def kC439_2 : aC := (([kvB 0 7, kvB 0 7, kvB 0 7, kvB 0 11, (.negSucc 0, .ofNat 7), kvB 1 12], [(102, 8, .inl (5, .ofNat 0))], 195, [kvR 102, kvI 0, kvI 1, kvI 2, kvN 108, kvN 3, kvI 3, kvI 4], []), ([], []), (139, [(-11, 3), (-1, 4)]))
def kC439_3 : aC := (([kvB 0 7, kvB 0 7, kvB 0 7, kvB 0 3, (.negSucc 0, .ofNat 99)], [(102, 29, .inl (4, .ofNat 0)), (102, 30, .inr (.ofNat 3))], 110, [kvR 102, kvI 0, kvI 1, kvI 2, kvN 108, kvN 3, kvN 1, kvI 3], []), ([], []), (3, [(-1, 3)]))
theorem ks439 : aseg kS krf kB [kE43, kE87, kE311, kE423, kE437, kE438] (ksp [(192, 200, 7, 0, 7, 0)]) kE439 [kC439_0, kC439_1, kC439_2, kC439_3] 30000 (none) = true := by decide +kernel
theorem ks439_0 : aseg kS krf kB [kE43, kE87, kE311, kE423, kE437, kE438] (ksp [(192, 200, 7, 0, 7, 0)]) kE439 [kC439_0, kC439_1, kC439_2, kC439_3] 30000 (some kC439_0) = true := by decide +kernel
theorem ks439_1 : aseg kS krf kB [kE43, kE87, kE311, kE423, kE437, kE438] (ksp [(192, 200, 7, 0, 7, 0)]) kE439 [kC439_0, kC439_1, kC439_2, kC439_3] 30000 (some kC439_1) = true := by decide +kernel
theorem ks439_2 : aseg kS krf kB [kE43, kE87, kE311, kE423, kE437, kE438] (ksp [(192, 200, 7, 0, 7, 0)]) kE439 [kC439_0, kC439_1, kC439_2, kC439_3] 30000 (some kC439_2) = true := by decide +kernel
theorem ks439_3 : aseg kS krf kB [kE43, kE87, kE311, kE423, kE437, kE438] (ksp [(192, 200, 7, 0, 7, 0)]) kE439 [kC439_0, kC439_1, kC439_2, kC439_3] 30000 (some kC439_3) = true := by decide +kernel
theorem kok439 : aOK kS krf kB kE439 := aOK_of (kal1 kok43 (kal1 kok87 (kal1 kok311 (kal1 kok423 (kal1 kok437 (kal1 kok438 kal0)))))) (kcl1 ks439_0 (kcl1 ks439_1 (kcl1 ks439_2 (kcl1 ks439_3 kcl0)))) ks439
/-- ColdShodModel.triesWay(IIIII)V -/
def kE440 : aE := (192, 49, ([kvB 0 7, kvB 0 7, kvB 0 7], [], 0, [kvR 102, kvI 0, kvI 1, kvI 2, kvN 107, kvN 4, none, none], []), ([], none), ([], [], none, ([], [])), kvW61)
def kC440_0 : aC := (([kvB 0 7, kvB 0 7, kvB 0 7, kvB 0 1, kvB 0 4], [], 16, [kvR 102, kvI 0, kvI 1, kvI 2, kvN 107, kvN 4, kvI 3, kvI 4], []), ([], []), (170, [(-1, 4)]))
def kC440_1 : aC := (([kvB 0 7, kvB 0 7, kvB 0 7, kvB 0 12], [], 141, [kvR 102, kvI 0, kvI 1, kvI 2, kvN 107, kvN 4, kvI 3, none], []), ([], []), (141, [(-11, 3)]))
def kC440_2 : aC := (([kvB 0 7, kvB 0 7, kvB 0 7, kvB 0 11, (.negSucc 0, .ofNat 7), kvB 1 12], [(102, 8, .inl (5, .ofNat 0))], 195, [kvR 102, kvI 0, kvI 1, kvI 2, kvN 107, kvN 4, kvI 3, kvI 4], []), ([], []), (139, [(-11, 3), (-1, 4)]))
def kC440_3 : aC := (([kvB 0 7, kvB 0 7, kvB 0 7, kvB 0 4, (.negSucc 0, .ofNat 99)], [(102, 29, .inl (4, .ofNat 0)), (102, 30, .inr (.ofNat 4))], 110, [kvR 102, kvI 0, kvI 1, kvI 2, kvN 107, kvN 4, kvN 1, kvI 3], []), ([], []), (4, [(-1, 3)]))
theorem ks440 : aseg kS krf kB [kE43, kE87, kE312, kE424, kE436] (ksp [(192, 200, 7, 0, 7, 0)]) kE440 [kC440_0, kC440_1, kC440_2, kC440_3] 30000 (none) = true := by decide +kernel
theorem ks440_0 : aseg kS krf kB [kE43, kE87, kE312, kE424, kE436] (ksp [(192, 200, 7, 0, 7, 0)]) kE440 [kC440_0, kC440_1, kC440_2, kC440_3] 30000 (some kC440_0) = true := by decide +kernel
theorem ks440_1 : aseg kS krf kB [kE43, kE87, kE312, kE424, kE436] (ksp [(192, 200, 7, 0, 7, 0)]) kE440 [kC440_0, kC440_1, kC440_2, kC440_3] 30000 (some kC440_1) = true := by decide +kernel
theorem ks440_2 : aseg kS krf kB [kE43, kE87, kE312, kE424, kE436] (ksp [(192, 200, 7, 0, 7, 0)]) kE440 [kC440_0, kC440_1, kC440_2, kC440_3] 30000 (some kC440_2) = true := by decide +kernel
theorem ks440_3 : aseg kS krf kB [kE43, kE87, kE312, kE424, kE436] (ksp [(192, 200, 7, 0, 7, 0)]) kE440 [kC440_0, kC440_1, kC440_2, kC440_3] 30000 (some kC440_3) = true := by decide +kernel
theorem kok440 : aOK kS krf kB kE440 := aOK_of (kal1 kok43 (kal1 kok87 (kal1 kok312 (kal1 kok424 (kal1 kok436 kal0))))) (kcl1 ks440_0 (kcl1 ks440_1 (kcl1 ks440_2 (kcl1 ks440_3 kcl0)))) ks440
/-- ColdShodModel.triesWay(IIIII)V -/
def kE441 : aE := (192, 50, ([kvB 0 7, kvB 0 7, kvB 0 7], [], 0, [kvR 102, kvI 0, kvI 1, kvI 2, kvN 106, kvN 3, none, none], []), ([], none), ([], [], none, ([], [])), kvW62)
def kC441_0 : aC := (([kvB 0 7, kvB 0 7, kvB 0 7, kvB 0 1, kvB 0 3], [], 16, [kvR 102, kvI 0, kvI 1, kvI 2, kvN 106, kvN 3, kvI 3, kvI 4], []), ([], []), (169, [(-1, 4)]))
def kC441_1 : aC := (([kvB 0 7, kvB 0 7, kvB 0 7, kvB 0 12], [], 141, [kvR 102, kvI 0, kvI 1, kvI 2, kvN 106, kvN 3, kvI 3, none], []), ([], []), (141, [(-11, 3)]))
def kC441_2 : aC := (([kvB 0 7, kvB 0 7, kvB 0 7, kvB 0 11, (.negSucc 0, .ofNat 7), kvB 1 12], [(102, 8, .inl (5, .ofNat 0))], 195, [kvR 102, kvI 0, kvI 1, kvI 2, kvN 106, kvN 3, kvI 3, kvI 4], []), ([], []), (139, [(-11, 3), (-1, 4)]))
def kC441_3 : aC := (([kvB 0 7, kvB 0 7, kvB 0 7, kvB 0 3, (.negSucc 0, .ofNat 99)], [(102, 29, .inl (4, .ofNat 0)), (102, 30, .inr (.ofNat 3))], 110, [kvR 102, kvI 0, kvI 1, kvI 2, kvN 106, kvN 3, kvN 1, kvI 3], []), ([], []), (3, [(-1, 3)]))
theorem ks441 : aseg kS krf kB [kE43, kE87, kE313, kE425, kE437, kE440] (ksp [(192, 200, 7, 0, 7, 0)]) kE441 [kC441_0, kC441_1, kC441_2, kC441_3] 30000 (none) = true := by decide +kernel
theorem ks441_0 : aseg kS krf kB [kE43, kE87, kE313, kE425, kE437, kE440] (ksp [(192, 200, 7, 0, 7, 0)]) kE441 [kC441_0, kC441_1, kC441_2, kC441_3] 30000 (some kC441_0) = true := by decide +kernel
theorem ks441_1 : aseg kS krf kB [kE43, kE87, kE313, kE425, kE437, kE440] (ksp [(192, 200, 7, 0, 7, 0)]) kE441 [kC441_0, kC441_1, kC441_2, kC441_3] 30000 (some kC441_1) = true := by decide +kernel
theorem ks441_2 : aseg kS krf kB [kE43, kE87, kE313, kE425, kE437, kE440] (ksp [(192, 200, 7, 0, 7, 0)]) kE441 [kC441_0, kC441_1, kC441_2, kC441_3] 30000 (some kC441_2) = true := by decide +kernel
theorem ks441_3 : aseg kS krf kB [kE43, kE87, kE313, kE425, kE437, kE440] (ksp [(192, 200, 7, 0, 7, 0)]) kE441 [kC441_0, kC441_1, kC441_2, kC441_3] 30000 (some kC441_3) = true := by decide +kernel
theorem kok441 : aOK kS krf kB kE441 := aOK_of (kal1 kok43 (kal1 kok87 (kal1 kok313 (kal1 kok425 (kal1 kok437 (kal1 kok440 kal0)))))) (kcl1 ks441_0 (kcl1 ks441_1 (kcl1 ks441_2 (kcl1 ks441_3 kcl0)))) ks441
/-- ColdShodModel.triesWay(IIIII)V -/
def kE442 : aE := (192, 50, ([kvB 0 7, kvB 0 7, kvB 0 7], [], 0, [kvR 102, kvI 0, kvI 1, kvI 2, kvN 105, kvN 3, none, none], []), ([], none), ([], [], none, ([], [])), kvW62)
def kC442_0 : aC := (([kvB 0 7, kvB 0 7, kvB 0 7, kvB 0 1, kvB 0 3], [], 16, [kvR 102, kvI 0, kvI 1, kvI 2, kvN 105, kvN 3, kvI 3, kvI 4], []), ([], []), (169, [(-1, 4)]))
def kC442_1 : aC := (([kvB 0 7, kvB 0 7, kvB 0 7, kvB 0 12], [], 141, [kvR 102, kvI 0, kvI 1, kvI 2, kvN 105, kvN 3, kvI 3, none], []), ([], []), (141, [(-11, 3)]))
def kC442_2 : aC := (([kvB 0 7, kvB 0 7, kvB 0 7, kvB 0 11, (.negSucc 0, .ofNat 7), kvB 1 12], [(102, 8, .inl (5, .ofNat 0))], 195, [kvR 102, kvI 0, kvI 1, kvI 2, kvN 105, kvN 3, kvI 3, kvI 4], []), ([], []), (139, [(-11, 3), (-1, 4)]))
def kC442_3 : aC := (([kvB 0 7, kvB 0 7, kvB 0 7, kvB 0 3, (.negSucc 0, .ofNat 99)], [(102, 29, .inl (4, .ofNat 0)), (102, 30, .inr (.ofNat 3))], 110, [kvR 102, kvI 0, kvI 1, kvI 2, kvN 105, kvN 3, kvN 1, kvI 3], []), ([], []), (3, [(-1, 3)]))
theorem ks442 : aseg kS krf kB [kE43, kE87, kE314, kE426, kE438, kE440] (ksp [(192, 200, 7, 0, 7, 0)]) kE442 [kC442_0, kC442_1, kC442_2, kC442_3] 30000 (none) = true := by decide +kernel
theorem ks442_0 : aseg kS krf kB [kE43, kE87, kE314, kE426, kE438, kE440] (ksp [(192, 200, 7, 0, 7, 0)]) kE442 [kC442_0, kC442_1, kC442_2, kC442_3] 30000 (some kC442_0) = true := by decide +kernel
theorem ks442_1 : aseg kS krf kB [kE43, kE87, kE314, kE426, kE438, kE440] (ksp [(192, 200, 7, 0, 7, 0)]) kE442 [kC442_0, kC442_1, kC442_2, kC442_3] 30000 (some kC442_1) = true := by decide +kernel
theorem ks442_2 : aseg kS krf kB [kE43, kE87, kE314, kE426, kE438, kE440] (ksp [(192, 200, 7, 0, 7, 0)]) kE442 [kC442_0, kC442_1, kC442_2, kC442_3] 30000 (some kC442_2) = true := by decide +kernel
theorem ks442_3 : aseg kS krf kB [kE43, kE87, kE314, kE426, kE438, kE440] (ksp [(192, 200, 7, 0, 7, 0)]) kE442 [kC442_0, kC442_1, kC442_2, kC442_3] 30000 (some kC442_3) = true := by decide +kernel
theorem kok442 : aOK kS krf kB kE442 := aOK_of (kal1 kok43 (kal1 kok87 (kal1 kok314 (kal1 kok426 (kal1 kok438 (kal1 kok440 kal0)))))) (kcl1 ks442_0 (kcl1 ks442_1 (kcl1 ks442_2 (kcl1 ks442_3 kcl0)))) ks442
