/-! ENTRIES and their checks: printed by a program (wip/ai). -/
/-- ColdShod.way(III)I -/
def kE291 : aE := (105, 12, ([(.negSucc 2147483647, .ofNat 2147483647), (.negSucc 2147483647, .ofNat 2147483647), (.negSucc 2147483647, .ofNat 2147483647)], [], 0, [some (.inr [6]), some (.inl (.inl (.inl (0, .ofNat 0)))), some (.inl (.inl (.inl (1, .ofNat 0)))), some (.inl (.inl (.inl (2, .ofNat 0))))], []), ([], none), ([(.negSucc 2147483647, .ofNat 2147483647)], [], some (.inl (.inl (.inl (3, .ofNat 0)))), ([], [])), ([(13, 0), (13, 1), (13, 2), (13, 3), (13, 4), (13, 5), (59, 1), (59, 2), (61, 0), (61, 1), (61, 2), (61, 3), (61, 4), (61, 5), (61, 6), (63, 0), (63, 1), (63, 2), (63, 3), (63, 4), (63, 5), (63, 6), (64, 0), (64, 1), (64, 2), (64, 3), (64, 4), (64, 5), (64, 6), (65, 0), (65, 1), (65, 2), (65, 3), (65, 4), (65, 5), (65, 6), (66, 0), (66, 1), (66, 2), (66, 3), (66, 4), (66, 5), (66, 6), (67, 0), (67, 1), (67, 2), (67, 3), (67, 4), (67, 5), (67, 6), (68, 0), (68, 1), (68, 2), (68, 3), (68, 4), (68, 5), (68, 6), (69, 0), (69, 1), (69, 2), (69, 3), (69, 4), (69, 5), (69, 6), (70, 0), (70, 1), (70, 2), (70, 3), (70, 4), (70, 5), (70, 6)], [16, 19, 60, 1000]))
theorem ks291 : aseg kS krf kB [kE290] (ksp [(105, 74, 3, -2, 8, 0)]) kE291 [] 30000 (none) = true := by decide +kernel
theorem kok291 : aOK kS krf kB kE291 := aOK_of (kal1 kok290 kal0) kcl0 ks291
/-- ColdShodModel.triesWay(IIIII)V -/
def kE292 : aE := (192, 46, ([kvB 0 7, kvB 0 7, kvB 0 7], [], 0, [kvR 102, kvI 0, kvI 1, kvI 2, kvN 255, kvN 7, none, none], []), ([], none), ([], [], none, ([], [])), kvW58)
def kC292_0 : aC := (([kvB 0 7, kvB 0 7, kvB 0 7, kvB 0 1, kvB 0 7], [], 16, [kvR 102, kvI 0, kvI 1, kvI 2, kvN 255, kvN 7, kvI 3, kvI 4], []), ([], []), (173, [(-1, 4)]))
def kC292_1 : aC := (([kvB 0 7, kvB 0 7, kvB 0 7, kvB 0 12], [], 141, [kvR 102, kvI 0, kvI 1, kvI 2, kvN 255, kvN 7, kvI 3, none], []), ([], []), (141, [(-11, 3)]))
def kC292_2 : aC := (([kvB 0 7, kvB 0 7, kvB 0 7, kvB 0 11, (.negSucc 0, .ofNat 7), kvB 1 12], [(102, 8, .inl (5, .ofNat 0))], 195, [kvR 102, kvI 0, kvI 1, kvI 2, kvN 255, kvN 7, kvI 3, kvI 4], []), ([], []), (139, [(-11, 3), (-1, 4)]))
def kC292_3 : aC := (([kvB 0 7, kvB 0 7, kvB 0 7, kvB 0 7, (.negSucc 0, .ofNat 99)], [(102, 29, .inl (4, .ofNat 0)), (102, 30, .inr (.ofNat 7))], 110, [kvR 102, kvI 0, kvI 1, kvI 2, kvN 255, kvN 7, kvN 1, kvI 3], []), ([], []), (7, [(-1, 3)]))
theorem ks292 : aseg kS krf kB [kE43, kE87] (ksp [(192, 200, 7, 0, 7, 0)]) kE292 [kC292_0, kC292_1, kC292_2, kC292_3] 30000 (none) = true := by decide +kernel
theorem ks292_0 : aseg kS krf kB [kE43, kE87] (ksp [(192, 200, 7, 0, 7, 0)]) kE292 [kC292_0, kC292_1, kC292_2, kC292_3] 30000 (some kC292_0) = true := by decide +kernel
theorem ks292_1 : aseg kS krf kB [kE43, kE87] (ksp [(192, 200, 7, 0, 7, 0)]) kE292 [kC292_0, kC292_1, kC292_2, kC292_3] 30000 (some kC292_1) = true := by decide +kernel
theorem ks292_2 : aseg kS krf kB [kE43, kE87] (ksp [(192, 200, 7, 0, 7, 0)]) kE292 [kC292_0, kC292_1, kC292_2, kC292_3] 30000 (some kC292_2) = true := by decide +kernel
theorem ks292_3 : aseg kS krf kB [kE43, kE87] (ksp [(192, 200, 7, 0, 7, 0)]) kE292 [kC292_0, kC292_1, kC292_2, kC292_3] 30000 (some kC292_3) = true := by decide +kernel
theorem kok292 : aOK kS krf kB kE292 := aOK_of (kal1 kok43 (kal1 kok87 kal0)) (kcl1 ks292_0 (kcl1 ks292_1 (kcl1 ks292_2 (kcl1 ks292_3 kcl0)))) ks292
/-- ColdShodModel.triesWay(IIIII)V -/
def kE293 : aE := (192, 47, ([kvB 0 7, kvB 0 7, kvB 0 7], [], 0, [kvR 102, kvI 0, kvI 1, kvI 2, kvN 254, kvN 6, none, none], []), ([], none), ([], [], none, ([], [])), kvW59)
def kC293_0 : aC := (([kvB 0 7, kvB 0 7, kvB 0 7, kvB 0 1, kvB 0 6], [], 16, [kvR 102, kvI 0, kvI 1, kvI 2, kvN 254, kvN 6, kvI 3, kvI 4], []), ([], []), (172, [(-1, 4)]))
def kC293_1 : aC := (([kvB 0 7, kvB 0 7, kvB 0 7, kvB 0 12], [], 141, [kvR 102, kvI 0, kvI 1, kvI 2, kvN 254, kvN 6, kvI 3, none], []), ([], []), (141, [(-11, 3)]))
def kC293_2 : aC := (([kvB 0 7, kvB 0 7, kvB 0 7, kvB 0 11, (.negSucc 0, .ofNat 7), kvB 1 12], [(102, 8, .inl (5, .ofNat 0))], 195, [kvR 102, kvI 0, kvI 1, kvI 2, kvN 254, kvN 6, kvI 3, kvI 4], []), ([], []), (139, [(-11, 3), (-1, 4)]))
def kC293_3 : aC := (([kvB 0 7, kvB 0 7, kvB 0 7, kvB 0 6, (.negSucc 0, .ofNat 99)], [(102, 29, .inl (4, .ofNat 0)), (102, 30, .inr (.ofNat 6))], 110, [kvR 102, kvI 0, kvI 1, kvI 2, kvN 254, kvN 6, kvN 1, kvI 3], []), ([], []), (6, [(-1, 3)]))
theorem ks293 : aseg kS krf kB [kE43, kE87, kE292] (ksp [(192, 200, 7, 0, 7, 0)]) kE293 [kC293_0, kC293_1, kC293_2, kC293_3] 30000 (none) = true := by decide +kernel
theorem ks293_0 : aseg kS krf kB [kE43, kE87, kE292] (ksp [(192, 200, 7, 0, 7, 0)]) kE293 [kC293_0, kC293_1, kC293_2, kC293_3] 30000 (some kC293_0) = true := by decide +kernel
theorem ks293_1 : aseg kS krf kB [kE43, kE87, kE292] (ksp [(192, 200, 7, 0, 7, 0)]) kE293 [kC293_0, kC293_1, kC293_2, kC293_3] 30000 (some kC293_1) = true := by decide +kernel
theorem ks293_2 : aseg kS krf kB [kE43, kE87, kE292] (ksp [(192, 200, 7, 0, 7, 0)]) kE293 [kC293_0, kC293_1, kC293_2, kC293_3] 30000 (some kC293_2) = true := by decide +kernel
theorem ks293_3 : aseg kS krf kB [kE43, kE87, kE292] (ksp [(192, 200, 7, 0, 7, 0)]) kE293 [kC293_0, kC293_1, kC293_2, kC293_3] 30000 (some kC293_3) = true := by decide +kernel
theorem kok293 : aOK kS krf kB kE293 := aOK_of (kal1 kok43 (kal1 kok87 (kal1 kok292 kal0))) (kcl1 ks293_0 (kcl1 ks293_1 (kcl1 ks293_2 (kcl1 ks293_3 kcl0)))) ks293
/-- ColdShodModel.triesWay(IIIII)V -/
def kE294 : aE := (192, 47, ([kvB 0 7, kvB 0 7, kvB 0 7], [], 0, [kvR 102, kvI 0, kvI 1, kvI 2, kvN 253, kvN 6, none, none], []), ([], none), ([], [], none, ([], [])), kvW59)
def kC294_0 : aC := (([kvB 0 7, kvB 0 7, kvB 0 7, kvB 0 1, kvB 0 6], [], 16, [kvR 102, kvI 0, kvI 1, kvI 2, kvN 253, kvN 6, kvI 3, kvI 4], []), ([], []), (172, [(-1, 4)]))
def kC294_1 : aC := (([kvB 0 7, kvB 0 7, kvB 0 7, kvB 0 12], [], 141, [kvR 102, kvI 0, kvI 1, kvI 2, kvN 253, kvN 6, kvI 3, none], []), ([], []), (141, [(-11, 3)]))
def kC294_2 : aC := (([kvB 0 7, kvB 0 7, kvB 0 7, kvB 0 11, (.negSucc 0, .ofNat 7), kvB 1 12], [(102, 8, .inl (5, .ofNat 0))], 195, [kvR 102, kvI 0, kvI 1, kvI 2, kvN 253, kvN 6, kvI 3, kvI 4], []), ([], []), (139, [(-11, 3), (-1, 4)]))
def kC294_3 : aC := (([kvB 0 7, kvB 0 7, kvB 0 7, kvB 0 6, (.negSucc 0, .ofNat 99)], [(102, 29, .inl (4, .ofNat 0)), (102, 30, .inr (.ofNat 6))], 110, [kvR 102, kvI 0, kvI 1, kvI 2, kvN 253, kvN 6, kvN 1, kvI 3], []), ([], []), (6, [(-1, 3)]))
theorem ks294 : aseg kS krf kB [kE43, kE87, kE292] (ksp [(192, 200, 7, 0, 7, 0)]) kE294 [kC294_0, kC294_1, kC294_2, kC294_3] 30000 (none) = true := by decide +kernel
theorem ks294_0 : aseg kS krf kB [kE43, kE87, kE292] (ksp [(192, 200, 7, 0, 7, 0)]) kE294 [kC294_0, kC294_1, kC294_2, kC294_3] 30000 (some kC294_0) = true := by decide +kernel
theorem ks294_1 : aseg kS krf kB [kE43, kE87, kE292] (ksp [(192, 200, 7, 0, 7, 0)]) kE294 [kC294_0, kC294_1, kC294_2, kC294_3] 30000 (some kC294_1) = true := by decide +kernel
theorem ks294_2 : aseg kS krf kB [kE43, kE87, kE292] (ksp [(192, 200, 7, 0, 7, 0)]) kE294 [kC294_0, kC294_1, kC294_2, kC294_3] 30000 (some kC294_2) = true := by decide +kernel
theorem ks294_3 : aseg kS krf kB [kE43, kE87, kE292] (ksp [(192, 200, 7, 0, 7, 0)]) kE294 [kC294_0, kC294_1, kC294_2, kC294_3] 30000 (some kC294_3) = true := by decide +kernel
theorem kok294 : aOK kS krf kB kE294 := aOK_of (kal1 kok43 (kal1 kok87 (kal1 kok292 kal0))) (kcl1 ks294_0 (kcl1 ks294_1 (kcl1 ks294_2 (kcl1 ks294_3 kcl0)))) ks294
/-- ColdShodModel.triesWay(IIIII)V -/
def kE295 : aE := (192, 48, ([kvB 0 7, kvB 0 7, kvB 0 7], [], 0, [kvR 102, kvI 0, kvI 1, kvI 2, kvN 252, kvN 5, none, none], []), ([], none), ([], [], none, ([], [])), kvW60)
def kC295_0 : aC := (([kvB 0 7, kvB 0 7, kvB 0 7, kvB 0 1, kvB 0 5], [], 16, [kvR 102, kvI 0, kvI 1, kvI 2, kvN 252, kvN 5, kvI 3, kvI 4], []), ([], []), (171, [(-1, 4)]))
def kC295_1 : aC := (([kvB 0 7, kvB 0 7, kvB 0 7, kvB 0 12], [], 141, [kvR 102, kvI 0, kvI 1, kvI 2, kvN 252, kvN 5, kvI 3, none], []), ([], []), (141, [(-11, 3)]))
def kC295_2 : aC := (([kvB 0 7, kvB 0 7, kvB 0 7, kvB 0 11, (.negSucc 0, .ofNat 7), kvB 1 12], [(102, 8, .inl (5, .ofNat 0))], 195, [kvR 102, kvI 0, kvI 1, kvI 2, kvN 252, kvN 5, kvI 3, kvI 4], []), ([], []), (139, [(-11, 3), (-1, 4)]))
def kC295_3 : aC := (([kvB 0 7, kvB 0 7, kvB 0 7, kvB 0 5, (.negSucc 0, .ofNat 99)], [(102, 29, .inl (4, .ofNat 0)), (102, 30, .inr (.ofNat 5))], 110, [kvR 102, kvI 0, kvI 1, kvI 2, kvN 252, kvN 5, kvN 1, kvI 3], []), ([], []), (5, [(-1, 3)]))
theorem ks295 : aseg kS krf kB [kE43, kE87, kE293, kE294] (ksp [(192, 200, 7, 0, 7, 0)]) kE295 [kC295_0, kC295_1, kC295_2, kC295_3] 30000 (none) = true := by decide +kernel
theorem ks295_0 : aseg kS krf kB [kE43, kE87, kE293, kE294] (ksp [(192, 200, 7, 0, 7, 0)]) kE295 [kC295_0, kC295_1, kC295_2, kC295_3] 30000 (some kC295_0) = true := by decide +kernel
theorem ks295_1 : aseg kS krf kB [kE43, kE87, kE293, kE294] (ksp [(192, 200, 7, 0, 7, 0)]) kE295 [kC295_0, kC295_1, kC295_2, kC295_3] 30000 (some kC295_1) = true := by decide +kernel
theorem ks295_2 : aseg kS krf kB [kE43, kE87, kE293, kE294] (ksp [(192, 200, 7, 0, 7, 0)]) kE295 [kC295_0, kC295_1, kC295_2, kC295_3] 30000 (some kC295_2) = true := by decide +kernel
theorem ks295_3 : aseg kS krf kB [kE43, kE87, kE293, kE294] (ksp [(192, 200, 7, 0, 7, 0)]) kE295 [kC295_0, kC295_1, kC295_2, kC295_3] 30000 (some kC295_3) = true := by decide +kernel
theorem kok295 : aOK kS krf kB kE295 := aOK_of (kal1 kok43 (kal1 kok87 (kal1 kok293 (kal1 kok294 kal0)))) (kcl1 ks295_0 (kcl1 ks295_1 (kcl1 ks295_2 (kcl1 ks295_3 kcl0)))) ks295
/-- ColdShodModel.triesWay(IIIII)V -/
def kE296 : aE := (192, 47, ([kvB 0 7, kvB 0 7, kvB 0 7], [], 0, [kvR 102, kvI 0, kvI 1, kvI 2, kvN 251, kvN 6, none, none], []), ([], none), ([], [], none, ([], [])), kvW59)
def kC296_0 : aC := (([kvB 0 7, kvB 0 7, kvB 0 7, kvB 0 1, kvB 0 6], [], 16, [kvR 102, kvI 0, kvI 1, kvI 2, kvN 251, kvN 6, kvI 3, kvI 4], []), ([], []), (172, [(-1, 4)]))
def kC296_1 : aC := (([kvB 0 7, kvB 0 7, kvB 0 7, kvB 0 12], [], 141, [kvR 102, kvI 0, kvI 1, kvI 2, kvN 251, kvN 6, kvI 3, none], []), ([], []), (141, [(-11, 3)]))
def kC296_2 : aC := (([kvB 0 7, kvB 0 7, kvB 0 7, kvB 0 11, (.negSucc 0, .ofNat 7), kvB 1 12], [(102, 8, .inl (5, .ofNat 0))], 195, [kvR 102, kvI 0, kvI 1, kvI 2, kvN 251, kvN 6, kvI 3, kvI 4], []), ([], []), (139, [(-11, 3), (-1, 4)]))
def kC296_3 : aC := (([kvB 0 7, kvB 0 7, kvB 0 7, kvB 0 6, (.negSucc 0, .ofNat 99)], [(102, 29, .inl (4, .ofNat 0)), (102, 30, .inr (.ofNat 6))], 110, [kvR 102, kvI 0, kvI 1, kvI 2, kvN 251, kvN 6, kvN 1, kvI 3], []), ([], []), (6, [(-1, 3)]))
theorem ks296 : aseg kS krf kB [kE43, kE87, kE292] (ksp [(192, 200, 7, 0, 7, 0)]) kE296 [kC296_0, kC296_1, kC296_2, kC296_3] 30000 (none) = true := by decide +kernel
theorem ks296_0 : aseg kS krf kB [kE43, kE87, kE292] (ksp [(192, 200, 7, 0, 7, 0)]) kE296 [kC296_0, kC296_1, kC296_2, kC296_3] 30000 (some kC296_0) = true := by decide +kernel
theorem ks296_1 : aseg kS krf kB [kE43, kE87, kE292] (ksp [(192, 200, 7, 0, 7, 0)]) kE296 [kC296_0, kC296_1, kC296_2, kC296_3] 30000 (some kC296_1) = true := by decide +kernel
theorem ks296_2 : aseg kS krf kB [kE43, kE87, kE292] (ksp [(192, 200, 7, 0, 7, 0)]) kE296 [kC296_0, kC296_1, kC296_2, kC296_3] 30000 (some kC296_2) = true := by decide +kernel
theorem ks296_3 : aseg kS krf kB [kE43, kE87, kE292] (ksp [(192, 200, 7, 0, 7, 0)]) kE296 [kC296_0, kC296_1, kC296_2, kC296_3] 30000 (some kC296_3) = true := by decide +kernel
theorem kok296 : aOK kS krf kB kE296 := aOK_of (kal1 kok43 (kal1 kok87 (kal1 kok292 kal0))) (kcl1 ks296_0 (kcl1 ks296_1 (kcl1 ks296_2 (kcl1 ks296_3 kcl0)))) ks296
/-- ColdShodModel.triesWay(IIIII)V -/
def kE297 : aE := (192, 48, ([kvB 0 7, kvB 0 7, kvB 0 7], [], 0, [kvR 102, kvI 0, kvI 1, kvI 2, kvN 250, kvN 5, none, none], []), ([], none), ([], [], none, ([], [])), kvW60)
def kC297_0 : aC := (([kvB 0 7, kvB 0 7, kvB 0 7, kvB 0 1, kvB 0 5], [], 16, [kvR 102, kvI 0, kvI 1, kvI 2, kvN 250, kvN 5, kvI 3, kvI 4], []), ([], []), (171, [(-1, 4)]))
def kC297_1 : aC := (([kvB 0 7, kvB 0 7, kvB 0 7, kvB 0 12], [], 141, [kvR 102, kvI 0, kvI 1, kvI 2, kvN 250, kvN 5, kvI 3, none], []), ([], []), (141, [(-11, 3)]))
def kC297_2 : aC := (([kvB 0 7, kvB 0 7, kvB 0 7, kvB 0 11, (.negSucc 0, .ofNat 7), kvB 1 12], [(102, 8, .inl (5, .ofNat 0))], 195, [kvR 102, kvI 0, kvI 1, kvI 2, kvN 250, kvN 5, kvI 3, kvI 4], []), ([], []), (139, [(-11, 3), (-1, 4)]))
def kC297_3 : aC := (([kvB 0 7, kvB 0 7, kvB 0 7, kvB 0 5, (.negSucc 0, .ofNat 99)], [(102, 29, .inl (4, .ofNat 0)), (102, 30, .inr (.ofNat 5))], 110, [kvR 102, kvI 0, kvI 1, kvI 2, kvN 250, kvN 5, kvN 1, kvI 3], []), ([], []), (5, [(-1, 3)]))
theorem ks297 : aseg kS krf kB [kE43, kE87, kE293, kE296] (ksp [(192, 200, 7, 0, 7, 0)]) kE297 [kC297_0, kC297_1, kC297_2, kC297_3] 30000 (none) = true := by decide +kernel
theorem ks297_0 : aseg kS krf kB [kE43, kE87, kE293, kE296] (ksp [(192, 200, 7, 0, 7, 0)]) kE297 [kC297_0, kC297_1, kC297_2, kC297_3] 30000 (some kC297_0) = true := by decide +kernel
theorem ks297_1 : aseg kS krf kB [kE43, kE87, kE293, kE296] (ksp [(192, 200, 7, 0, 7, 0)]) kE297 [kC297_0, kC297_1, kC297_2, kC297_3] 30000 (some kC297_1) = true := by decide +kernel
theorem ks297_2 : aseg kS krf kB [kE43, kE87, kE293, kE296] (ksp [(192, 200, 7, 0, 7, 0)]) kE297 [kC297_0, kC297_1, kC297_2, kC297_3] 30000 (some kC297_2) = true := by decide +kernel
theorem ks297_3 : aseg kS krf kB [kE43, kE87, kE293, kE296] (ksp [(192, 200, 7, 0, 7, 0)]) kE297 [kC297_0, kC297_1, kC297_2, kC297_3] 30000 (some kC297_3) = true := by decide +kernel
theorem kok297 : aOK kS krf kB kE297 := aOK_of (kal1 kok43 (kal1 kok87 (kal1 kok293 (kal1 kok296 kal0)))) (kcl1 ks297_0 (kcl1 ks297_1 (kcl1 ks297_2 (kcl1 ks297_3 kcl0)))) ks297
/-- ColdShodModel.triesWay(IIIII)V -/
def kE298 : aE := (192, 48, ([kvB 0 7, kvB 0 7, kvB 0 7], [], 0, [kvR 102, kvI 0, kvI 1, kvI 2, kvN 249, kvN 5, none, none], []), ([], none), ([], [], none, ([], [])), kvW60)
def kC298_0 : aC := (([kvB 0 7, kvB 0 7, kvB 0 7, kvB 0 1, kvB 0 5], [], 16, [kvR 102, kvI 0, kvI 1, kvI 2, kvN 249, kvN 5, kvI 3, kvI 4], []), ([], []), (171, [(-1, 4)]))
def kC298_1 : aC := (([kvB 0 7, kvB 0 7, kvB 0 7, kvB 0 12], [], 141, [kvR 102, kvI 0, kvI 1, kvI 2, kvN 249, kvN 5, kvI 3, none], []), ([], []), (141, [(-11, 3)]))
def kC298_2 : aC := (([kvB 0 7, kvB 0 7, kvB 0 7, kvB 0 11, (.negSucc 0, .ofNat 7), kvB 1 12], [(102, 8, .inl (5, .ofNat 0))], 195, [kvR 102, kvI 0, kvI 1, kvI 2, kvN 249, kvN 5, kvI 3, kvI 4], []), ([], []), (139, [(-11, 3), (-1, 4)]))
def kC298_3 : aC := (([kvB 0 7, kvB 0 7, kvB 0 7, kvB 0 5, (.negSucc 0, .ofNat 99)], [(102, 29, .inl (4, .ofNat 0)), (102, 30, .inr (.ofNat 5))], 110, [kvR 102, kvI 0, kvI 1, kvI 2, kvN 249, kvN 5, kvN 1, kvI 3], []), ([], []), (5, [(-1, 3)]))
theorem ks298 : aseg kS krf kB [kE43, kE87, kE294, kE296] (ksp [(192, 200, 7, 0, 7, 0)]) kE298 [kC298_0, kC298_1, kC298_2, kC298_3] 30000 (none) = true := by decide +kernel
theorem ks298_0 : aseg kS krf kB [kE43, kE87, kE294, kE296] (ksp [(192, 200, 7, 0, 7, 0)]) kE298 [kC298_0, kC298_1, kC298_2, kC298_3] 30000 (some kC298_0) = true := by decide +kernel
theorem ks298_1 : aseg kS krf kB [kE43, kE87, kE294, kE296] (ksp [(192, 200, 7, 0, 7, 0)]) kE298 [kC298_0, kC298_1, kC298_2, kC298_3] 30000 (some kC298_1) = true := by decide +kernel
theorem ks298_2 : aseg kS krf kB [kE43, kE87, kE294, kE296] (ksp [(192, 200, 7, 0, 7, 0)]) kE298 [kC298_0, kC298_1, kC298_2, kC298_3] 30000 (some kC298_2) = true := by decide +kernel
theorem ks298_3 : aseg kS krf kB [kE43, kE87, kE294, kE296] (ksp [(192, 200, 7, 0, 7, 0)]) kE298 [kC298_0, kC298_1, kC298_2, kC298_3] 30000 (some kC298_3) = true := by decide +kernel
theorem kok298 : aOK kS krf kB kE298 := aOK_of (kal1 kok43 (kal1 kok87 (kal1 kok294 (kal1 kok296 kal0)))) (kcl1 ks298_0 (kcl1 ks298_1 (kcl1 ks298_2 (kcl1 ks298_3 kcl0)))) ks298
/-- ColdShodModel.triesWay(IIIII)V -/
def kE299 : aE := (192, 49, ([kvB 0 7, kvB 0 7, kvB 0 7], [], 0, [kvR 102, kvI 0, kvI 1, kvI 2, kvN 248, kvN 4, none, none], []), ([], none), ([], [], none, ([], [])), kvW61)
def kC299_0 : aC := (([kvB 0 7, kvB 0 7, kvB 0 7, kvB 0 1, kvB 0 4], [], 16, [kvR 102, kvI 0, kvI 1, kvI 2, kvN 248, kvN 4, kvI 3, kvI 4], []), ([], []), (170, [(-1, 4)]))
def kC299_1 : aC := (([kvB 0 7, kvB 0 7, kvB 0 7, kvB 0 12], [], 141, [kvR 102, kvI 0, kvI 1, kvI 2, kvN 248, kvN 4, kvI 3, none], []), ([], []), (141, [(-11, 3)]))
def kC299_2 : aC := (([kvB 0 7, kvB 0 7, kvB 0 7, kvB 0 11, (.negSucc 0, .ofNat 7), kvB 1 12], [(102, 8, .inl (5, .ofNat 0))], 195, [kvR 102, kvI 0, kvI 1, kvI 2, kvN 248, kvN 4, kvI 3, kvI 4], []), ([], []), (139, [(-11, 3), (-1, 4)]))
def kC299_3 : aC := (([kvB 0 7, kvB 0 7, kvB 0 7, kvB 0 4, (.negSucc 0, .ofNat 99)], [(102, 29, .inl (4, .ofNat 0)), (102, 30, .inr (.ofNat 4))], 110, [kvR 102, kvI 0, kvI 1, kvI 2, kvN 248, kvN 4, kvN 1, kvI 3], []), ([], []), (4, [(-1, 3)]))
theorem ks299 : aseg kS krf kB [kE43, kE87, kE295, kE297, kE298] (ksp [(192, 200, 7, 0, 7, 0)]) kE299 [kC299_0, kC299_1, kC299_2, kC299_3] 30000 (none) = true := by decide +kernel
theorem ks299_0 : aseg kS krf kB [kE43, kE87, kE295, kE297, kE298] (ksp [(192, 200, 7, 0, 7, 0)]) kE299 [kC299_0, kC299_1, kC299_2, kC299_3] 30000 (some kC299_0) = true := by decide +kernel
theorem ks299_1 : aseg kS krf kB [kE43, kE87, kE295, kE297, kE298] (ksp [(192, 200, 7, 0, 7, 0)]) kE299 [kC299_0, kC299_1, kC299_2, kC299_3] 30000 (some kC299_1) = true := by decide +kernel
theorem ks299_2 : aseg kS krf kB [kE43, kE87, kE295, kE297, kE298] (ksp [(192, 200, 7, 0, 7, 0)]) kE299 [kC299_0, kC299_1, kC299_2, kC299_3] 30000 (some kC299_2) = true := by decide +kernel
theorem ks299_3 : aseg kS krf kB [kE43, kE87, kE295, kE297, kE298] (ksp [(192, 200, 7, 0, 7, 0)]) kE299 [kC299_0, kC299_1, kC299_2, kC299_3] 30000 (some kC299_3) = true := by decide +kernel
theorem kok299 : aOK kS krf kB kE299 := aOK_of (kal1 kok43 (kal1 kok87 (kal1 kok295 (kal1 kok297 (kal1 kok298 kal0))))) (kcl1 ks299_0 (kcl1 ks299_1 (kcl1 ks299_2 (kcl1 ks299_3 kcl0)))) ks299
/-- ColdShodModel.triesWay(IIIII)V -/
def kE300 : aE := (192, 47, ([kvB 0 7, kvB 0 7, kvB 0 7], [], 0, [kvR 102, kvI 0, kvI 1, kvI 2, kvN 247, kvN 6, none, none], []), ([], none), ([], [], none, ([], [])), kvW59)
def kC300_0 : aC := (([kvB 0 7, kvB 0 7, kvB 0 7, kvB 0 1, kvB 0 6], [], 16, [kvR 102, kvI 0, kvI 1, kvI 2, kvN 247, kvN 6, kvI 3, kvI 4], []), ([], []), (172, [(-1, 4)]))
def kC300_1 : aC := (([kvB 0 7, kvB 0 7, kvB 0 7, kvB 0 12], [], 141, [kvR 102, kvI 0, kvI 1, kvI 2, kvN 247, kvN 6, kvI 3, none], []), ([], []), (141, [(-11, 3)]))
def kC300_2 : aC := (([kvB 0 7, kvB 0 7, kvB 0 7, kvB 0 11, (.negSucc 0, .ofNat 7), kvB 1 12], [(102, 8, .inl (5, .ofNat 0))], 195, [kvR 102, kvI 0, kvI 1, kvI 2, kvN 247, kvN 6, kvI 3, kvI 4], []), ([], []), (139, [(-11, 3), (-1, 4)]))
def kC300_3 : aC := (([kvB 0 7, kvB 0 7, kvB 0 7, kvB 0 6, (.negSucc 0, .ofNat 99)], [(102, 29, .inl (4, .ofNat 0)), (102, 30, .inr (.ofNat 6))], 110, [kvR 102, kvI 0, kvI 1, kvI 2, kvN 247, kvN 6, kvN 1, kvI 3], []), ([], []), (6, [(-1, 3)]))
theorem ks300 : aseg kS krf kB [kE43, kE87, kE292] (ksp [(192, 200, 7, 0, 7, 0)]) kE300 [kC300_0, kC300_1, kC300_2, kC300_3] 30000 (none) = true := by decide +kernel
theorem ks300_0 : aseg kS krf kB [kE43, kE87, kE292] (ksp [(192, 200, 7, 0, 7, 0)]) kE300 [kC300_0, kC300_1, kC300_2, kC300_3] 30000 (some kC300_0) = true := by decide +kernel
theorem ks300_1 : aseg kS krf kB [kE43, kE87, kE292] (ksp [(192, 200, 7, 0, 7, 0)]) kE300 [kC300_0, kC300_1, kC300_2, kC300_3] 30000 (some kC300_1) = true := by decide +kernel
theorem ks300_2 : aseg kS krf kB [kE43, kE87, kE292] (ksp [(192, 200, 7, 0, 7, 0)]) kE300 [kC300_0, kC300_1, kC300_2, kC300_3] 30000 (some kC300_2) = true := by decide +kernel
theorem ks300_3 : aseg kS krf kB [kE43, kE87, kE292] (ksp [(192, 200, 7, 0, 7, 0)]) kE300 [kC300_0, kC300_1, kC300_2, kC300_3] 30000 (some kC300_3) = true := by decide +kernel
theorem kok300 : aOK kS krf kB kE300 := aOK_of (kal1 kok43 (kal1 kok87 (kal1 kok292 kal0))) (kcl1 ks300_0 (kcl1 ks300_1 (kcl1 ks300_2 (kcl1 ks300_3 kcl0)))) ks300
/-- ColdShodModel.triesWay(IIIII)V -/
def kE301 : aE := (192, 48, ([kvB 0 7, kvB 0 7, kvB 0 7], [], 0, [kvR 102, kvI 0, kvI 1, kvI 2, kvN 246, kvN 5, none, none], []), ([], none), ([], [], none, ([], [])), kvW60)
def kC301_0 : aC := (([kvB 0 7, kvB 0 7, kvB 0 7, kvB 0 1, kvB 0 5], [], 16, [kvR 102, kvI 0, kvI 1, kvI 2, kvN 246, kvN 5, kvI 3, kvI 4], []), ([], []), (171, [(-1, 4)]))
def kC301_1 : aC := (([kvB 0 7, kvB 0 7, kvB 0 7, kvB 0 12], [], 141, [kvR 102, kvI 0, kvI 1, kvI 2, kvN 246, kvN 5, kvI 3, none], []), ([], []), (141, [(-11, 3)]))
def kC301_2 : aC := (([kvB 0 7, kvB 0 7, kvB 0 7, kvB 0 11, (.negSucc 0, .ofNat 7), kvB 1 12], [(102, 8, .inl (5, .ofNat 0))], 195, [kvR 102, kvI 0, kvI 1, kvI 2, kvN 246, kvN 5, kvI 3, kvI 4], []), ([], []), (139, [(-11, 3), (-1, 4)]))
def kC301_3 : aC := (([kvB 0 7, kvB 0 7, kvB 0 7, kvB 0 5, (.negSucc 0, .ofNat 99)], [(102, 29, .inl (4, .ofNat 0)), (102, 30, .inr (.ofNat 5))], 110, [kvR 102, kvI 0, kvI 1, kvI 2, kvN 246, kvN 5, kvN 1, kvI 3], []), ([], []), (5, [(-1, 3)]))
theorem ks301 : aseg kS krf kB [kE43, kE87, kE293, kE300] (ksp [(192, 200, 7, 0, 7, 0)]) kE301 [kC301_0, kC301_1, kC301_2, kC301_3] 30000 (none) = true := by decide +kernel
theorem ks301_0 : aseg kS krf kB [kE43, kE87, kE293, kE300] (ksp [(192, 200, 7, 0, 7, 0)]) kE301 [kC301_0, kC301_1, kC301_2, kC301_3] 30000 (some kC301_0) = true := by decide +kernel
theorem ks301_1 : aseg kS krf kB [kE43, kE87, kE293, kE300] (ksp [(192, 200, 7, 0, 7, 0)]) kE301 [kC301_0, kC301_1, kC301_2, kC301_3] 30000 (some kC301_1) = true := by decide +kernel
theorem ks301_2 : aseg kS krf kB [kE43, kE87, kE293, kE300] (ksp [(192, 200, 7, 0, 7, 0)]) kE301 [kC301_0, kC301_1, kC301_2, kC301_3] 30000 (some kC301_2) = true := by decide +kernel
theorem ks301_3 : aseg kS krf kB [kE43, kE87, kE293, kE300] (ksp [(192, 200, 7, 0, 7, 0)]) kE301 [kC301_0, kC301_1, kC301_2, kC301_3] 30000 (some kC301_3) = true := by decide +kernel
theorem kok301 : aOK kS krf kB kE301 := aOK_of (kal1 kok43 (kal1 kok87 (kal1 kok293 (kal1 kok300 kal0)))) (kcl1 ks301_0 (kcl1 ks301_1 (kcl1 ks301_2 (kcl1 ks301_3 kcl0)))) ks301
/-- ColdShodModel.triesWay(IIIII)V -/
def kE302 : aE := (192, 48, ([kvB 0 7, kvB 0 7, kvB 0 7], [], 0, [kvR 102, kvI 0, kvI 1, kvI 2, kvN 245, kvN 5, none, none], []), ([], none), ([], [], none, ([], [])), kvW60)
def kC302_0 : aC := (([kvB 0 7, kvB 0 7, kvB 0 7, kvB 0 1, kvB 0 5], [], 16, [kvR 102, kvI 0, kvI 1, kvI 2, kvN 245, kvN 5, kvI 3, kvI 4], []), ([], []), (171, [(-1, 4)]))
def kC302_1 : aC := (([kvB 0 7, kvB 0 7, kvB 0 7, kvB 0 12], [], 141, [kvR 102, kvI 0, kvI 1, kvI 2, kvN 245, kvN 5, kvI 3, none], []), ([], []), (141, [(-11, 3)]))
def kC302_2 : aC := (([kvB 0 7, kvB 0 7, kvB 0 7, kvB 0 11, (.negSucc 0, .ofNat 7), kvB 1 12], [(102, 8, .inl (5, .ofNat 0))], 195, [kvR 102, kvI 0, kvI 1, kvI 2, kvN 245, kvN 5, kvI 3, kvI 4], []), ([], []), (139, [(-11, 3), (-1, 4)]))
def kC302_3 : aC := (([kvB 0 7, kvB 0 7, kvB 0 7, kvB 0 5, (.negSucc 0, .ofNat 99)], [(102, 29, .inl (4, .ofNat 0)), (102, 30, .inr (.ofNat 5))], 110, [kvR 102, kvI 0, kvI 1, kvI 2, kvN 245, kvN 5, kvN 1, kvI 3], []), ([], []), (5, [(-1, 3)]))
theorem ks302 : aseg kS krf kB [kE43, kE87, kE294, kE300] (ksp [(192, 200, 7, 0, 7, 0)]) kE302 [kC302_0, kC302_1, kC302_2, kC302_3] 30000 (none) = true := by decide +kernel
theorem ks302_0 : aseg kS krf kB [kE43, kE87, kE294, kE300] (ksp [(192, 200, 7, 0, 7, 0)]) kE302 [kC302_0, kC302_1, kC302_2, kC302_3] 30000 (some kC302_0) = true := by decide +kernel
theorem ks302_1 : aseg kS krf kB [kE43, kE87, kE294, kE300] (ksp [(192, 200, 7, 0, 7, 0)]) kE302 [kC302_0, kC302_1, kC302_2, kC302_3] 30000 (some kC302_1) = true := by decide +kernel
theorem ks302_2 : aseg kS krf kB [kE43, kE87, kE294, kE300] (ksp [(192, 200, 7, 0, 7, 0)]) kE302 [kC302_0, kC302_1, kC302_2, kC302_3] 30000 (some kC302_2) = true := by decide +kernel
theorem ks302_3 : aseg kS krf kB [kE43, kE87, kE294, kE300] (ksp [(192, 200, 7, 0, 7, 0)]) kE302 [kC302_0, kC302_1, kC302_2, kC302_3] 30000 (some kC302_3) = true := by decide +kernel
theorem kok302 : aOK kS krf kB kE302 := aOK_of (kal1 kok43 (kal1 kok87 (kal1 kok294 (kal1 kok300 kal0)))) (kcl1 ks302_0 (kcl1 ks302_1 (kcl1 ks302_2 (kcl1 ks302_3 kcl0)))) ks302
/-- ColdShodModel.triesWay(IIIII)V -/
def kE303 : aE := (192, 49, ([kvB 0 7, kvB 0 7, kvB 0 7], [], 0, [kvR 102, kvI 0, kvI 1, kvI 2, kvN 244, kvN 4, none, none], []), ([], none), ([], [], none, ([], [])), kvW61)
def kC303_0 : aC := (([kvB 0 7, kvB 0 7, kvB 0 7, kvB 0 1, kvB 0 4], [], 16, [kvR 102, kvI 0, kvI 1, kvI 2, kvN 244, kvN 4, kvI 3, kvI 4], []), ([], []), (170, [(-1, 4)]))
def kC303_1 : aC := (([kvB 0 7, kvB 0 7, kvB 0 7, kvB 0 12], [], 141, [kvR 102, kvI 0, kvI 1, kvI 2, kvN 244, kvN 4, kvI 3, none], []), ([], []), (141, [(-11, 3)]))
def kC303_2 : aC := (([kvB 0 7, kvB 0 7, kvB 0 7, kvB 0 11, (.negSucc 0, .ofNat 7), kvB 1 12], [(102, 8, .inl (5, .ofNat 0))], 195, [kvR 102, kvI 0, kvI 1, kvI 2, kvN 244, kvN 4, kvI 3, kvI 4], []), ([], []), (139, [(-11, 3), (-1, 4)]))
def kC303_3 : aC := (([kvB 0 7, kvB 0 7, kvB 0 7, kvB 0 4, (.negSucc 0, .ofNat 99)], [(102, 29, .inl (4, .ofNat 0)), (102, 30, .inr (.ofNat 4))], 110, [kvR 102, kvI 0, kvI 1, kvI 2, kvN 244, kvN 4, kvN 1, kvI 3], []), ([], []), (4, [(-1, 3)]))
theorem ks303 : aseg kS krf kB [kE43, kE87, kE295, kE301, kE302] (ksp [(192, 200, 7, 0, 7, 0)]) kE303 [kC303_0, kC303_1, kC303_2, kC303_3] 30000 (none) = true := by decide +kernel
theorem ks303_0 : aseg kS krf kB [kE43, kE87, kE295, kE301, kE302] (ksp [(192, 200, 7, 0, 7, 0)]) kE303 [kC303_0, kC303_1, kC303_2, kC303_3] 30000 (some kC303_0) = true := by decide +kernel
theorem ks303_1 : aseg kS krf kB [kE43, kE87, kE295, kE301, kE302] (ksp [(192, 200, 7, 0, 7, 0)]) kE303 [kC303_0, kC303_1, kC303_2, kC303_3] 30000 (some kC303_1) = true := by decide +kernel
theorem ks303_2 : aseg kS krf kB [kE43, kE87, kE295, kE301, kE302] (ksp [(192, 200, 7, 0, 7, 0)]) kE303 [kC303_0, kC303_1, kC303_2, kC303_3] 30000 (some kC303_2) = true := by decide +kernel
theorem ks303_3 : aseg kS krf kB [kE43, kE87, kE295, kE301, kE302] (ksp [(192, 200, 7, 0, 7, 0)]) kE303 [kC303_0, kC303_1, kC303_2, kC303_3] 30000 (some kC303_3) = true := by decide +kernel
theorem kok303 : aOK kS krf kB kE303 := aOK_of (kal1 kok43 (kal1 kok87 (kal1 kok295 (kal1 kok301 (kal1 kok302 kal0))))) (kcl1 ks303_0 (kcl1 ks303_1 (kcl1 ks303_2 (kcl1 ks303_3 kcl0)))) ks303
/-- ColdShodModel.triesWay(IIIII)V -/
def kE304 : aE := (192, 48, ([kvB 0 7, kvB 0 7, kvB 0 7], [], 0, [kvR 102, kvI 0, kvI 1, kvI 2, kvN 243, kvN 5, none, none], []), ([], none), ([], [], none, ([], [])), kvW60)
def kC304_0 : aC := (([kvB 0 7, kvB 0 7, kvB 0 7, kvB 0 1, kvB 0 5], [], 16, [kvR 102, kvI 0, kvI 1, kvI 2, kvN 243, kvN 5, kvI 3, kvI 4], []), ([], []), (171, [(-1, 4)]))
def kC304_1 : aC := (([kvB 0 7, kvB 0 7, kvB 0 7, kvB 0 12], [], 141, [kvR 102, kvI 0, kvI 1, kvI 2, kvN 243, kvN 5, kvI 3, none], []), ([], []), (141, [(-11, 3)]))
def kC304_2 : aC := (([kvB 0 7, kvB 0 7, kvB 0 7, kvB 0 11, (.negSucc 0, .ofNat 7), kvB 1 12], [(102, 8, .inl (5, .ofNat 0))], 195, [kvR 102, kvI 0, kvI 1, kvI 2, kvN 243, kvN 5, kvI 3, kvI 4], []), ([], []), (139, [(-11, 3), (-1, 4)]))
def kC304_3 : aC := (([kvB 0 7, kvB 0 7, kvB 0 7, kvB 0 5, (.negSucc 0, .ofNat 99)], [(102, 29, .inl (4, .ofNat 0)), (102, 30, .inr (.ofNat 5))], 110, [kvR 102, kvI 0, kvI 1, kvI 2, kvN 243, kvN 5, kvN 1, kvI 3], []), ([], []), (5, [(-1, 3)]))
theorem ks304 : aseg kS krf kB [kE43, kE87, kE296, kE300] (ksp [(192, 200, 7, 0, 7, 0)]) kE304 [kC304_0, kC304_1, kC304_2, kC304_3] 30000 (none) = true := by decide +kernel
theorem ks304_0 : aseg kS krf kB [kE43, kE87, kE296, kE300] (ksp [(192, 200, 7, 0, 7, 0)]) kE304 [kC304_0, kC304_1, kC304_2, kC304_3] 30000 (some kC304_0) = true := by decide +kernel
theorem ks304_1 : aseg kS krf kB [kE43, kE87, kE296, kE300] (ksp [(192, 200, 7, 0, 7, 0)]) kE304 [kC304_0, kC304_1, kC304_2, kC304_3] 30000 (some kC304_1) = true := by decide +kernel
theorem ks304_2 : aseg kS krf kB [kE43, kE87, kE296, kE300] (ksp [(192, 200, 7, 0, 7, 0)]) kE304 [kC304_0, kC304_1, kC304_2, kC304_3] 30000 (some kC304_2) = true := by decide +kernel
theorem ks304_3 : aseg kS krf kB [kE43, kE87, kE296, kE300] (ksp [(192, 200, 7, 0, 7, 0)]) kE304 [kC304_0, kC304_1, kC304_2, kC304_3] 30000 (some kC304_3) = true := by decide +kernel
theorem kok304 : aOK kS krf kB kE304 := aOK_of (kal1 kok43 (kal1 kok87 (kal1 kok296 (kal1 kok300 kal0)))) (kcl1 ks304_0 (kcl1 ks304_1 (kcl1 ks304_2 (kcl1 ks304_3 kcl0)))) ks304
/-- ColdShodModel.triesWay(IIIII)V -/
def kE305 : aE := (192, 49, ([kvB 0 7, kvB 0 7, kvB 0 7], [], 0, [kvR 102, kvI 0, kvI 1, kvI 2, kvN 242, kvN 4, none, none], []), ([], none), ([], [], none, ([], [])), kvW61)
def kC305_0 : aC := (([kvB 0 7, kvB 0 7, kvB 0 7, kvB 0 1, kvB 0 4], [], 16, [kvR 102, kvI 0, kvI 1, kvI 2, kvN 242, kvN 4, kvI 3, kvI 4], []), ([], []), (170, [(-1, 4)]))
def kC305_1 : aC := (([kvB 0 7, kvB 0 7, kvB 0 7, kvB 0 12], [], 141, [kvR 102, kvI 0, kvI 1, kvI 2, kvN 242, kvN 4, kvI 3, none], []), ([], []), (141, [(-11, 3)]))
def kC305_2 : aC := (([kvB 0 7, kvB 0 7, kvB 0 7, kvB 0 11, (.negSucc 0, .ofNat 7), kvB 1 12], [(102, 8, .inl (5, .ofNat 0))], 195, [kvR 102, kvI 0, kvI 1, kvI 2, kvN 242, kvN 4, kvI 3, kvI 4], []), ([], []), (139, [(-11, 3), (-1, 4)]))
def kC305_3 : aC := (([kvB 0 7, kvB 0 7, kvB 0 7, kvB 0 4, (.negSucc 0, .ofNat 99)], [(102, 29, .inl (4, .ofNat 0)), (102, 30, .inr (.ofNat 4))], 110, [kvR 102, kvI 0, kvI 1, kvI 2, kvN 242, kvN 4, kvN 1, kvI 3], []), ([], []), (4, [(-1, 3)]))
theorem ks305 : aseg kS krf kB [kE43, kE87, kE297, kE301, kE304] (ksp [(192, 200, 7, 0, 7, 0)]) kE305 [kC305_0, kC305_1, kC305_2, kC305_3] 30000 (none) = true := by decide +kernel
theorem ks305_0 : aseg kS krf kB [kE43, kE87, kE297, kE301, kE304] (ksp [(192, 200, 7, 0, 7, 0)]) kE305 [kC305_0, kC305_1, kC305_2, kC305_3] 30000 (some kC305_0) = true := by decide +kernel
theorem ks305_1 : aseg kS krf kB [kE43, kE87, kE297, kE301, kE304] (ksp [(192, 200, 7, 0, 7, 0)]) kE305 [kC305_0, kC305_1, kC305_2, kC305_3] 30000 (some kC305_1) = true := by decide +kernel
theorem ks305_2 : aseg kS krf kB [kE43, kE87, kE297, kE301, kE304] (ksp [(192, 200, 7, 0, 7, 0)]) kE305 [kC305_0, kC305_1, kC305_2, kC305_3] 30000 (some kC305_2) = true := by decide +kernel
theorem ks305_3 : aseg kS krf kB [kE43, kE87, kE297, kE301, kE304] (ksp [(192, 200, 7, 0, 7, 0)]) kE305 [kC305_0, kC305_1, kC305_2, kC305_3] 30000 (some kC305_3) = true := by decide +kernel
theorem kok305 : aOK kS krf kB kE305 := aOK_of (kal1 kok43 (kal1 kok87 (kal1 kok297 (kal1 kok301 (kal1 kok304 kal0))))) (kcl1 ks305_0 (kcl1 ks305_1 (kcl1 ks305_2 (kcl1 ks305_3 kcl0)))) ks305
/-- ColdShodModel.triesWay(IIIII)V -/
def kE306 : aE := (192, 49, ([kvB 0 7, kvB 0 7, kvB 0 7], [], 0, [kvR 102, kvI 0, kvI 1, kvI 2, kvN 241, kvN 4, none, none], []), ([], none), ([], [], none, ([], [])), kvW61)
def kC306_0 : aC := (([kvB 0 7, kvB 0 7, kvB 0 7, kvB 0 1, kvB 0 4], [], 16, [kvR 102, kvI 0, kvI 1, kvI 2, kvN 241, kvN 4, kvI 3, kvI 4], []), ([], []), (170, [(-1, 4)]))
def kC306_1 : aC := (([kvB 0 7, kvB 0 7, kvB 0 7, kvB 0 12], [], 141, [kvR 102, kvI 0, kvI 1, kvI 2, kvN 241, kvN 4, kvI 3, none], []), ([], []), (141, [(-11, 3)]))
def kC306_2 : aC := (([kvB 0 7, kvB 0 7, kvB 0 7, kvB 0 11, (.negSucc 0, .ofNat 7), kvB 1 12], [(102, 8, .inl (5, .ofNat 0))], 195, [kvR 102, kvI 0, kvI 1, kvI 2, kvN 241, kvN 4, kvI 3, kvI 4], []), ([], []), (139, [(-11, 3), (-1, 4)]))
def kC306_3 : aC := (([kvB 0 7, kvB 0 7, kvB 0 7, kvB 0 4, (.negSucc 0, .ofNat 99)], [(102, 29, .inl (4, .ofNat 0)), (102, 30, .inr (.ofNat 4))], 110, [kvR 102, kvI 0, kvI 1, kvI 2, kvN 241, kvN 4, kvN 1, kvI 3], []), ([], []), (4, [(-1, 3)]))
theorem ks306 : aseg kS krf kB [kE43, kE87, kE298, kE302, kE304] (ksp [(192, 200, 7, 0, 7, 0)]) kE306 [kC306_0, kC306_1, kC306_2, kC306_3] 30000 (none) = true := by decide +kernel
theorem ks306_0 : aseg kS krf kB [kE43, kE87, kE298, kE302, kE304] (ksp [(192, 200, 7, 0, 7, 0)]) kE306 [kC306_0, kC306_1, kC306_2, kC306_3] 30000 (some kC306_0) = true := by decide +kernel
theorem ks306_1 : aseg kS krf kB [kE43, kE87, kE298, kE302, kE304] (ksp [(192, 200, 7, 0, 7, 0)]) kE306 [kC306_0, kC306_1, kC306_2, kC306_3] 30000 (some kC306_1) = true := by decide +kernel
theorem ks306_2 : aseg kS krf kB [kE43, kE87, kE298, kE302, kE304] (ksp [(192, 200, 7, 0, 7, 0)]) kE306 [kC306_0, kC306_1, kC306_2, kC306_3] 30000 (some kC306_2) = true := by decide +kernel
theorem ks306_3 : aseg kS krf kB [kE43, kE87, kE298, kE302, kE304] (ksp [(192, 200, 7, 0, 7, 0)]) kE306 [kC306_0, kC306_1, kC306_2, kC306_3] 30000 (some kC306_3) = true := by decide +kernel
theorem kok306 : aOK kS krf kB kE306 := aOK_of (kal1 kok43 (kal1 kok87 (kal1 kok298 (kal1 kok302 (kal1 kok304 kal0))))) (kcl1 ks306_0 (kcl1 ks306_1 (kcl1 ks306_2 (kcl1 ks306_3 kcl0)))) ks306
/-- ColdShodModel.triesWay(IIIII)V -/
def kE307 : aE := (192, 50, ([kvB 0 7, kvB 0 7, kvB 0 7], [], 0, [kvR 102, kvI 0, kvI 1, kvI 2, kvN 240, kvN 3, none, none], []), ([], none), ([], [], none, ([], [])), kvW62)
def kC307_0 : aC := (([kvB 0 7, kvB 0 7, kvB 0 7, kvB 0 1, kvB 0 3], [], 16, [kvR 102, kvI 0, kvI 1, kvI 2, kvN 240, kvN 3, kvI 3, kvI 4], []), ([], []), (169, [(-1, 4)]))
def kC307_1 : aC := (([kvB 0 7, kvB 0 7, kvB 0 7, kvB 0 12], [], 141, [kvR 102, kvI 0, kvI 1, kvI 2, kvN 240, kvN 3, kvI 3, none], []), ([], []), (141, [(-11, 3)]))
def kC307_2 : aC := (([kvB 0 7, kvB 0 7, kvB 0 7, kvB 0 11, (.negSucc 0, .ofNat 7), kvB 1 12], [(102, 8, .inl (5, .ofNat 0))], 195, [kvR 102, kvI 0, kvI 1, kvI 2, kvN 240, kvN 3, kvI 3, kvI 4], []), ([], []), (139, [(-11, 3), (-1, 4)]))
def kC307_3 : aC := (([kvB 0 7, kvB 0 7, kvB 0 7, kvB 0 3, (.negSucc 0, .ofNat 99)], [(102, 29, .inl (4, .ofNat 0)), (102, 30, .inr (.ofNat 3))], 110, [kvR 102, kvI 0, kvI 1, kvI 2, kvN 240, kvN 3, kvN 1, kvI 3], []), ([], []), (3, [(-1, 3)]))
theorem ks307 : aseg kS krf kB [kE43, kE87, kE299, kE303, kE305, kE306] (ksp [(192, 200, 7, 0, 7, 0)]) kE307 [kC307_0, kC307_1, kC307_2, kC307_3] 30000 (none) = true := by decide +kernel
theorem ks307_0 : aseg kS krf kB [kE43, kE87, kE299, kE303, kE305, kE306] (ksp [(192, 200, 7, 0, 7, 0)]) kE307 [kC307_0, kC307_1, kC307_2, kC307_3] 30000 (some kC307_0) = true := by decide +kernel
theorem ks307_1 : aseg kS krf kB [kE43, kE87, kE299, kE303, kE305, kE306] (ksp [(192, 200, 7, 0, 7, 0)]) kE307 [kC307_0, kC307_1, kC307_2, kC307_3] 30000 (some kC307_1) = true := by decide +kernel
theorem ks307_2 : aseg kS krf kB [kE43, kE87, kE299, kE303, kE305, kE306] (ksp [(192, 200, 7, 0, 7, 0)]) kE307 [kC307_0, kC307_1, kC307_2, kC307_3] 30000 (some kC307_2) = true := by decide +kernel
theorem ks307_3 : aseg kS krf kB [kE43, kE87, kE299, kE303, kE305, kE306] (ksp [(192, 200, 7, 0, 7, 0)]) kE307 [kC307_0, kC307_1, kC307_2, kC307_3] 30000 (some kC307_3) = true := by decide +kernel
theorem kok307 : aOK kS krf kB kE307 := aOK_of (kal1 kok43 (kal1 kok87 (kal1 kok299 (kal1 kok303 (kal1 kok305 (kal1 kok306 kal0)))))) (kcl1 ks307_0 (kcl1 ks307_1 (kcl1 ks307_2 (kcl1 ks307_3 kcl0)))) ks307
/-- ColdShodModel.triesWay(IIIII)V -/
def kE308 : aE := (192, 47, ([kvB 0 7, kvB 0 7, kvB 0 7], [], 0, [kvR 102, kvI 0, kvI 1, kvI 2, kvN 239, kvN 6, none, none], []), ([], none), ([], [], none, ([], [])), kvW59)
def kC308_0 : aC := (([kvB 0 7, kvB 0 7, kvB 0 7, kvB 0 1, kvB 0 6], [], 16, [kvR 102, kvI 0, kvI 1, kvI 2, kvN 239, kvN 6, kvI 3, kvI 4], []), ([], []), (172, [(-1, 4)]))
def kC308_1 : aC := (([kvB 0 7, kvB 0 7, kvB 0 7, kvB 0 12], [], 141, [kvR 102, kvI 0, kvI 1, kvI 2, kvN 239, kvN 6, kvI 3, none], []), ([], []), (141, [(-11, 3)]))
def kC308_2 : aC := (([kvB 0 7, kvB 0 7, kvB 0 7, kvB 0 11, (.negSucc 0, .ofNat 7), kvB 1 12], [(102, 8, .inl (5, .ofNat 0))], 195, [kvR 102, kvI 0, kvI 1, kvI 2, kvN 239, kvN 6, kvI 3, kvI 4], []), ([], []), (139, [(-11, 3), (-1, 4)]))
def kC308_3 : aC := (([kvB 0 7, kvB 0 7, kvB 0 7, kvB 0 6, (.negSucc 0, .ofNat 99)], [(102, 29, .inl (4, .ofNat 0)), (102, 30, .inr (.ofNat 6))], 110, [kvR 102, kvI 0, kvI 1, kvI 2, kvN 239, kvN 6, kvN 1, kvI 3], []), ([], []), (6, [(-1, 3)]))
theorem ks308 : aseg kS krf kB [kE43, kE87, kE292] (ksp [(192, 200, 7, 0, 7, 0)]) kE308 [kC308_0, kC308_1, kC308_2, kC308_3] 30000 (none) = true := by decide +kernel
theorem ks308_0 : aseg kS krf kB [kE43, kE87, kE292] (ksp [(192, 200, 7, 0, 7, 0)]) kE308 [kC308_0, kC308_1, kC308_2, kC308_3] 30000 (some kC308_0) = true := by decide +kernel
theorem ks308_1 : aseg kS krf kB [kE43, kE87, kE292] (ksp [(192, 200, 7, 0, 7, 0)]) kE308 [kC308_0, kC308_1, kC308_2, kC308_3] 30000 (some kC308_1) = true := by decide +kernel
theorem ks308_2 : aseg kS krf kB [kE43, kE87, kE292] (ksp [(192, 200, 7, 0, 7, 0)]) kE308 [kC308_0, kC308_1, kC308_2, kC308_3] 30000 (some kC308_2) = true := by decide +kernel
theorem ks308_3 : aseg kS krf kB [kE43, kE87, kE292] (ksp [(192, 200, 7, 0, 7, 0)]) kE308 [kC308_0, kC308_1, kC308_2, kC308_3] 30000 (some kC308_3) = true := by decide +kernel
theorem kok308 : aOK kS krf kB kE308 := aOK_of (kal1 kok43 (kal1 kok87 (kal1 kok292 kal0))) (kcl1 ks308_0 (kcl1 ks308_1 (kcl1 ks308_2 (kcl1 ks308_3 kcl0)))) ks308
/-- ColdShodModel.triesWay(IIIII)V -/
def kE309 : aE := (192, 48, ([kvB 0 7, kvB 0 7, kvB 0 7], [], 0, [kvR 102, kvI 0, kvI 1, kvI 2, kvN 238, kvN 5, none, none], []), ([], none), ([], [], none, ([], [])), kvW60)
def kC309_0 : aC := (([kvB 0 7, kvB 0 7, kvB 0 7, kvB 0 1, kvB 0 5], [], 16, [kvR 102, kvI 0, kvI 1, kvI 2, kvN 238, kvN 5, kvI 3, kvI 4], []), ([], []), (171, [(-1, 4)]))
def kC309_1 : aC := (([kvB 0 7, kvB 0 7, kvB 0 7, kvB 0 12], [], 141, [kvR 102, kvI 0, kvI 1, kvI 2, kvN 238, kvN 5, kvI 3, none], []), ([], []), (141, [(-11, 3)]))
def kC309_2 : aC := (([kvB 0 7, kvB 0 7, kvB 0 7, kvB 0 11, (.negSucc 0, .ofNat 7), kvB 1 12], [(102, 8, .inl (5, .ofNat 0))], 195, [kvR 102, kvI 0, kvI 1, kvI 2, kvN 238, kvN 5, kvI 3, kvI 4], []), ([], []), (139, [(-11, 3), (-1, 4)]))
def kC309_3 : aC := (([kvB 0 7, kvB 0 7, kvB 0 7, kvB 0 5, (.negSucc 0, .ofNat 99)], [(102, 29, .inl (4, .ofNat 0)), (102, 30, .inr (.ofNat 5))], 110, [kvR 102, kvI 0, kvI 1, kvI 2, kvN 238, kvN 5, kvN 1, kvI 3], []), ([], []), (5, [(-1, 3)]))
theorem ks309 : aseg kS krf kB [kE43, kE87, kE293, kE308] (ksp [(192, 200, 7, 0, 7, 0)]) kE309 [kC309_0, kC309_1, kC309_2, kC309_3] 30000 (none) = true := by decide +kernel
theorem ks309_0 : aseg kS krf kB [kE43, kE87, kE293, kE308] (ksp [(192, 200, 7, 0, 7, 0)]) kE309 [kC309_0, kC309_1, kC309_2, kC309_3] 30000 (some kC309_0) = true := by decide +kernel
theorem ks309_1 : aseg kS krf kB [kE43, kE87, kE293, kE308] (ksp [(192, 200, 7, 0, 7, 0)]) kE309 [kC309_0, kC309_1, kC309_2, kC309_3] 30000 (some kC309_1) = true := by decide +kernel
theorem ks309_2 : aseg kS krf kB [kE43, kE87, kE293, kE308] (ksp [(192, 200, 7, 0, 7, 0)]) kE309 [kC309_0, kC309_1, kC309_2, kC309_3] 30000 (some kC309_2) = true := by decide +kernel
theorem ks309_3 : aseg kS krf kB [kE43, kE87, kE293, kE308] (ksp [(192, 200, 7, 0, 7, 0)]) kE309 [kC309_0, kC309_1, kC309_2, kC309_3] 30000 (some kC309_3) = true := by decide +kernel
theorem kok309 : aOK kS krf kB kE309 := aOK_of (kal1 kok43 (kal1 kok87 (kal1 kok293 (kal1 kok308 kal0)))) (kcl1 ks309_0 (kcl1 ks309_1 (kcl1 ks309_2 (kcl1 ks309_3 kcl0)))) ks309
/-- ColdShodModel.triesWay(IIIII)V -/
def kE310 : aE := (192, 48, ([kvB 0 7, kvB 0 7, kvB 0 7], [], 0, [kvR 102, kvI 0, kvI 1, kvI 2, kvN 237, kvN 5, none, none], []), ([], none), ([], [], none, ([], [])), kvW60)
def kC310_0 : aC := (([kvB 0 7, kvB 0 7, kvB 0 7, kvB 0 1, kvB 0 5], [], 16, [kvR 102, kvI 0, kvI 1, kvI 2, kvN 237, kvN 5, kvI 3, kvI 4], []), ([], []), (171, [(-1, 4)]))
def kC310_1 : aC := (([kvB 0 7, kvB 0 7, kvB 0 7, kvB 0 12], [], 141, [kvR 102, kvI 0, kvI 1, kvI 2, kvN 237, kvN 5, kvI 3, none], []), ([], []), (141, [(-11, 3)]))
def kC310_2 : aC := (([kvB 0 7, kvB 0 7, kvB 0 7, kvB 0 11, (.negSucc 0, .ofNat 7), kvB 1 12], [(102, 8, .inl (5, .ofNat 0))], 195, [kvR 102, kvI 0, kvI 1, kvI 2, kvN 237, kvN 5, kvI 3, kvI 4], []), ([], []), (139, [(-11, 3), (-1, 4)]))
def kC310_3 : aC := (([kvB 0 7, kvB 0 7, kvB 0 7, kvB 0 5, (.negSucc 0, .ofNat 99)], [(102, 29, .inl (4, .ofNat 0)), (102, 30, .inr (.ofNat 5))], 110, [kvR 102, kvI 0, kvI 1, kvI 2, kvN 237, kvN 5, kvN 1, kvI 3], []), ([], []), (5, [(-1, 3)]))
theorem ks310 : aseg kS krf kB [kE43, kE87, kE294, kE308] (ksp [(192, 200, 7, 0, 7, 0)]) kE310 [kC310_0, kC310_1, kC310_2, kC310_3] 30000 (none) = true := by decide +kernel
theorem ks310_0 : aseg kS krf kB [kE43, kE87, kE294, kE308] (ksp [(192, 200, 7, 0, 7, 0)]) kE310 [kC310_0, kC310_1, kC310_2, kC310_3] 30000 (some kC310_0) = true := by decide +kernel
theorem ks310_1 : aseg kS krf kB [kE43, kE87, kE294, kE308] (ksp [(192, 200, 7, 0, 7, 0)]) kE310 [kC310_0, kC310_1, kC310_2, kC310_3] 30000 (some kC310_1) = true := by decide +kernel
theorem ks310_2 : aseg kS krf kB [kE43, kE87, kE294, kE308] (ksp [(192, 200, 7, 0, 7, 0)]) kE310 [kC310_0, kC310_1, kC310_2, kC310_3] 30000 (some kC310_2) = true := by decide +kernel
theorem ks310_3 : aseg kS krf kB [kE43, kE87, kE294, kE308] (ksp [(192, 200, 7, 0, 7, 0)]) kE310 [kC310_0, kC310_1, kC310_2, kC310_3] 30000 (some kC310_3) = true := by decide +kernel
theorem kok310 : aOK kS krf kB kE310 := aOK_of (kal1 kok43 (kal1 kok87 (kal1 kok294 (kal1 kok308 kal0)))) (kcl1 ks310_0 (kcl1 ks310_1 (kcl1 ks310_2 (kcl1 ks310_3 kcl0)))) ks310
/-- ColdShodModel.triesWay(IIIII)V -/
def kE311 : aE := (192, 49, ([kvB 0 7, kvB 0 7, kvB 0 7], [], 0, [kvR 102, kvI 0, kvI 1, kvI 2, kvN 236, kvN 4, none, none], []), ([], none), ([], [], none, ([], [])), kvW61)
def kC311_0 : aC := (([kvB 0 7, kvB 0 7, kvB 0 7, kvB 0 1, kvB 0 4], [], 16, [kvR 102, kvI 0, kvI 1, kvI 2, kvN 236, kvN 4, kvI 3, kvI 4], []), ([], []), (170, [(-1, 4)]))
def kC311_1 : aC := (([kvB 0 7, kvB 0 7, kvB 0 7, kvB 0 12], [], 141, [kvR 102, kvI 0, kvI 1, kvI 2, kvN 236, kvN 4, kvI 3, none], []), ([], []), (141, [(-11, 3)]))
def kC311_2 : aC := (([kvB 0 7, kvB 0 7, kvB 0 7, kvB 0 11, (.negSucc 0, .ofNat 7), kvB 1 12], [(102, 8, .inl (5, .ofNat 0))], 195, [kvR 102, kvI 0, kvI 1, kvI 2, kvN 236, kvN 4, kvI 3, kvI 4], []), ([], []), (139, [(-11, 3), (-1, 4)]))
def kC311_3 : aC := (([kvB 0 7, kvB 0 7, kvB 0 7, kvB 0 4, (.negSucc 0, .ofNat 99)], [(102, 29, .inl (4, .ofNat 0)), (102, 30, .inr (.ofNat 4))], 110, [kvR 102, kvI 0, kvI 1, kvI 2, kvN 236, kvN 4, kvN 1, kvI 3], []), ([], []), (4, [(-1, 3)]))
theorem ks311 : aseg kS krf kB [kE43, kE87, kE295, kE309, kE310] (ksp [(192, 200, 7, 0, 7, 0)]) kE311 [kC311_0, kC311_1, kC311_2, kC311_3] 30000 (none) = true := by decide +kernel
theorem ks311_0 : aseg kS krf kB [kE43, kE87, kE295, kE309, kE310] (ksp [(192, 200, 7, 0, 7, 0)]) kE311 [kC311_0, kC311_1, kC311_2, kC311_3] 30000 (some kC311_0) = true := by decide +kernel
theorem ks311_1 : aseg kS krf kB [kE43, kE87, kE295, kE309, kE310] (ksp [(192, 200, 7, 0, 7, 0)]) kE311 [kC311_0, kC311_1, kC311_2, kC311_3] 30000 (some kC311_1) = true := by decide +kernel
theorem ks311_2 : aseg kS krf kB [kE43, kE87, kE295, kE309, kE310] (ksp [(192, 200, 7, 0, 7, 0)]) kE311 [kC311_0, kC311_1, kC311_2, kC311_3] 30000 (some kC311_2) = true := by decide +kernel
theorem ks311_3 : aseg kS krf kB [kE43, kE87, kE295, kE309, kE310] (ksp [(192, 200, 7, 0, 7, 0)]) kE311 [kC311_0, kC311_1, kC311_2, kC311_3] 30000 (some kC311_3) = true := by decide +kernel
theorem kok311 : aOK kS krf kB kE311 := aOK_of (kal1 kok43 (kal1 kok87 (kal1 kok295 (kal1 kok309 (kal1 kok310 kal0))))) (kcl1 ks311_0 (kcl1 ks311_1 (kcl1 ks311_2 (kcl1 ks311_3 kcl0)))) ks311
/-- ColdShodModel.triesWay(IIIII)V -/
def kE312 : aE := (192, 48, ([kvB 0 7, kvB 0 7, kvB 0 7], [], 0, [kvR 102, kvI 0, kvI 1, kvI 2, kvN 235, kvN 5, none, none], []), ([], none), ([], [], none, ([], [])), kvW60)
def kC312_0 : aC := (([kvB 0 7, kvB 0 7, kvB 0 7, kvB 0 1, kvB 0 5], [], 16, [kvR 102, kvI 0, kvI 1, kvI 2, kvN 235, kvN 5, kvI 3, kvI 4], []), ([], []), (171, [(-1, 4)]))
def kC312_1 : aC := (([kvB 0 7, kvB 0 7, kvB 0 7, kvB 0 12], [], 141, [kvR 102, kvI 0, kvI 1, kvI 2, kvN 235, kvN 5, kvI 3, none], []), ([], []), (141, [(-11, 3)]))
def kC312_2 : aC := (([kvB 0 7, kvB 0 7, kvB 0 7, kvB 0 11, (.negSucc 0, .ofNat 7), kvB 1 12], [(102, 8, .inl (5, .ofNat 0))], 195, [kvR 102, kvI 0, kvI 1, kvI 2, kvN 235, kvN 5, kvI 3, kvI 4], []), ([], []), (139, [(-11, 3), (-1, 4)]))
def kC312_3 : aC := (([kvB 0 7, kvB 0 7, kvB 0 7, kvB 0 5, (.negSucc 0, .ofNat 99)], [(102, 29, .inl (4, .ofNat 0)), (102, 30, .inr (.ofNat 5))], 110, [kvR 102, kvI 0, kvI 1, kvI 2, kvN 235, kvN 5, kvN 1, kvI 3], []), ([], []), (5, [(-1, 3)]))
theorem ks312 : aseg kS krf kB [kE43, kE87, kE296, kE308] (ksp [(192, 200, 7, 0, 7, 0)]) kE312 [kC312_0, kC312_1, kC312_2, kC312_3] 30000 (none) = true := by decide +kernel
theorem ks312_0 : aseg kS krf kB [kE43, kE87, kE296, kE308] (ksp [(192, 200, 7, 0, 7, 0)]) kE312 [kC312_0, kC312_1, kC312_2, kC312_3] 30000 (some kC312_0) = true := by decide +kernel
theorem ks312_1 : aseg kS krf kB [kE43, kE87, kE296, kE308] (ksp [(192, 200, 7, 0, 7, 0)]) kE312 [kC312_0, kC312_1, kC312_2, kC312_3] 30000 (some kC312_1) = true := by decide +kernel
theorem ks312_2 : aseg kS krf kB [kE43, kE87, kE296, kE308] (ksp [(192, 200, 7, 0, 7, 0)]) kE312 [kC312_0, kC312_1, kC312_2, kC312_3] 30000 (some kC312_2) = true := by decide +kernel
theorem ks312_3 : aseg kS krf kB [kE43, kE87, kE296, kE308] (ksp [(192, 200, 7, 0, 7, 0)]) kE312 [kC312_0, kC312_1, kC312_2, kC312_3] 30000 (some kC312_3) = true := by decide +kernel
theorem kok312 : aOK kS krf kB kE312 := aOK_of (kal1 kok43 (kal1 kok87 (kal1 kok296 (kal1 kok308 kal0)))) (kcl1 ks312_0 (kcl1 ks312_1 (kcl1 ks312_2 (kcl1 ks312_3 kcl0)))) ks312
/-- ColdShodModel.triesWay(IIIII)V -/
def kE313 : aE := (192, 49, ([kvB 0 7, kvB 0 7, kvB 0 7], [], 0, [kvR 102, kvI 0, kvI 1, kvI 2, kvN 234, kvN 4, none, none], []), ([], none), ([], [], none, ([], [])), kvW61)
def kC313_0 : aC := (([kvB 0 7, kvB 0 7, kvB 0 7, kvB 0 1, kvB 0 4], [], 16, [kvR 102, kvI 0, kvI 1, kvI 2, kvN 234, kvN 4, kvI 3, kvI 4], []), ([], []), (170, [(-1, 4)]))
def kC313_1 : aC := (([kvB 0 7, kvB 0 7, kvB 0 7, kvB 0 12], [], 141, [kvR 102, kvI 0, kvI 1, kvI 2, kvN 234, kvN 4, kvI 3, none], []), ([], []), (141, [(-11, 3)]))
def kC313_2 : aC := (([kvB 0 7, kvB 0 7, kvB 0 7, kvB 0 11, (.negSucc 0, .ofNat 7), kvB 1 12], [(102, 8, .inl (5, .ofNat 0))], 195, [kvR 102, kvI 0, kvI 1, kvI 2, kvN 234, kvN 4, kvI 3, kvI 4], []), ([], []), (139, [(-11, 3), (-1, 4)]))
def kC313_3 : aC := (([kvB 0 7, kvB 0 7, kvB 0 7, kvB 0 4, (.negSucc 0, .ofNat 99)], [(102, 29, .inl (4, .ofNat 0)), (102, 30, .inr (.ofNat 4))], 110, [kvR 102, kvI 0, kvI 1, kvI 2, kvN 234, kvN 4, kvN 1, kvI 3], []), ([], []), (4, [(-1, 3)]))
theorem ks313 : aseg kS krf kB [kE43, kE87, kE297, kE309, kE312] (ksp [(192, 200, 7, 0, 7, 0)]) kE313 [kC313_0, kC313_1, kC313_2, kC313_3] 30000 (none) = true := by decide +kernel
theorem ks313_0 : aseg kS krf kB [kE43, kE87, kE297, kE309, kE312] (ksp [(192, 200, 7, 0, 7, 0)]) kE313 [kC313_0, kC313_1, kC313_2, kC313_3] 30000 (some kC313_0) = true := by decide +kernel
theorem ks313_1 : aseg kS krf kB [kE43, kE87, kE297, kE309, kE312] (ksp [(192, 200, 7, 0, 7, 0)]) kE313 [kC313_0, kC313_1, kC313_2, kC313_3] 30000 (some kC313_1) = true := by decide +kernel
theorem ks313_2 : aseg kS krf kB [kE43, kE87, kE297, kE309, kE312] (ksp [(192, 200, 7, 0, 7, 0)]) kE313 [kC313_0, kC313_1, kC313_2, kC313_3] 30000 (some kC313_2) = true := by decide +kernel
theorem ks313_3 : aseg kS krf kB [kE43, kE87, kE297, kE309, kE312] (ksp [(192, 200, 7, 0, 7, 0)]) kE313 [kC313_0, kC313_1, kC313_2, kC313_3] 30000 (some kC313_3) = true := by decide +kernel
theorem kok313 : aOK kS krf kB kE313 := aOK_of (kal1 kok43 (kal1 kok87 (kal1 kok297 (kal1 kok309 (kal1 kok312 kal0))))) (kcl1 ks313_0 (kcl1 ks313_1 (kcl1 ks313_2 (kcl1 ks313_3 kcl0)))) ks313
/-- ColdShodModel.triesWay(IIIII)V -/
def kE314 : aE := (192, 49, ([kvB 0 7, kvB 0 7, kvB 0 7], [], 0, [kvR 102, kvI 0, kvI 1, kvI 2, kvN 233, kvN 4, none, none], []), ([], none), ([], [], none, ([], [])), kvW61)
def kC314_0 : aC := (([kvB 0 7, kvB 0 7, kvB 0 7, kvB 0 1, kvB 0 4], [], 16, [kvR 102, kvI 0, kvI 1, kvI 2, kvN 233, kvN 4, kvI 3, kvI 4], []), ([], []), (170, [(-1, 4)]))
def kC314_1 : aC := (([kvB 0 7, kvB 0 7, kvB 0 7, kvB 0 12], [], 141, [kvR 102, kvI 0, kvI 1, kvI 2, kvN 233, kvN 4, kvI 3, none], []), ([], []), (141, [(-11, 3)]))
def kC314_2 : aC := (([kvB 0 7, kvB 0 7, kvB 0 7, kvB 0 11, (.negSucc 0, .ofNat 7), kvB 1 12], [(102, 8, .inl (5, .ofNat 0))], 195, [kvR 102, kvI 0, kvI 1, kvI 2, kvN 233, kvN 4, kvI 3, kvI 4], []), ([], []), (139, [(-11, 3), (-1, 4)]))
def kC314_3 : aC := (([kvB 0 7, kvB 0 7, kvB 0 7, kvB 0 4, (.negSucc 0, .ofNat 99)], [(102, 29, .inl (4, .ofNat 0)), (102, 30, .inr (.ofNat 4))], 110, [kvR 102, kvI 0, kvI 1, kvI 2, kvN 233, kvN 4, kvN 1, kvI 3], []), ([], []), (4, [(-1, 3)]))
theorem ks314 : aseg kS krf kB [kE43, kE87, kE298, kE310, kE312] (ksp [(192, 200, 7, 0, 7, 0)]) kE314 [kC314_0, kC314_1, kC314_2, kC314_3] 30000 (none) = true := by decide +kernel
theorem ks314_0 : aseg kS krf kB [kE43, kE87, kE298, kE310, kE312] (ksp [(192, 200, 7, 0, 7, 0)]) kE314 [kC314_0, kC314_1, kC314_2, kC314_3] 30000 (some kC314_0) = true := by decide +kernel
theorem ks314_1 : aseg kS krf kB [kE43, kE87, kE298, kE310, kE312] (ksp [(192, 200, 7, 0, 7, 0)]) kE314 [kC314_0, kC314_1, kC314_2, kC314_3] 30000 (some kC314_1) = true := by decide +kernel
theorem ks314_2 : aseg kS krf kB [kE43, kE87, kE298, kE310, kE312] (ksp [(192, 200, 7, 0, 7, 0)]) kE314 [kC314_0, kC314_1, kC314_2, kC314_3] 30000 (some kC314_2) = true := by decide +kernel
theorem ks314_3 : aseg kS krf kB [kE43, kE87, kE298, kE310, kE312] (ksp [(192, 200, 7, 0, 7, 0)]) kE314 [kC314_0, kC314_1, kC314_2, kC314_3] 30000 (some kC314_3) = true := by decide +kernel
theorem kok314 : aOK kS krf kB kE314 := aOK_of (kal1 kok43 (kal1 kok87 (kal1 kok298 (kal1 kok310 (kal1 kok312 kal0))))) (kcl1 ks314_0 (kcl1 ks314_1 (kcl1 ks314_2 (kcl1 ks314_3 kcl0)))) ks314
/-- ColdShodModel.triesWay(IIIII)V -/
def kE315 : aE := (192, 50, ([kvB 0 7, kvB 0 7, kvB 0 7], [], 0, [kvR 102, kvI 0, kvI 1, kvI 2, kvN 232, kvN 3, none, none], []), ([], none), ([], [], none, ([], [])), kvW62)
def kC315_0 : aC := (([kvB 0 7, kvB 0 7, kvB 0 7, kvB 0 1, kvB 0 3], [], 16, [kvR 102, kvI 0, kvI 1, kvI 2, kvN 232, kvN 3, kvI 3, kvI 4], []), ([], []), (169, [(-1, 4)]))
def kC315_1 : aC := (([kvB 0 7, kvB 0 7, kvB 0 7, kvB 0 12], [], 141, [kvR 102, kvI 0, kvI 1, kvI 2, kvN 232, kvN 3, kvI 3, none], []), ([], []), (141, [(-11, 3)]))
def kC315_2 : aC := (([kvB 0 7, kvB 0 7, kvB 0 7, kvB 0 11, (.negSucc 0, .ofNat 7), kvB 1 12], [(102, 8, .inl (5, .ofNat 0))], 195, [kvR 102, kvI 0, kvI 1, kvI 2, kvN 232, kvN 3, kvI 3, kvI 4], []), ([], []), (139, [(-11, 3), (-1, 4)]))
def kC315_3 : aC := (([kvB 0 7, kvB 0 7, kvB 0 7, kvB 0 3, (.negSucc 0, .ofNat 99)], [(102, 29, .inl (4, .ofNat 0)), (102, 30, .inr (.ofNat 3))], 110, [kvR 102, kvI 0, kvI 1, kvI 2, kvN 232, kvN 3, kvN 1, kvI 3], []), ([], []), (3, [(-1, 3)]))
theorem ks315 : aseg kS krf kB [kE43, kE87, kE299, kE311, kE313, kE314] (ksp [(192, 200, 7, 0, 7, 0)]) kE315 [kC315_0, kC315_1, kC315_2, kC315_3] 30000 (none) = true := by decide +kernel
theorem ks315_0 : aseg kS krf kB [kE43, kE87, kE299, kE311, kE313, kE314] (ksp [(192, 200, 7, 0, 7, 0)]) kE315 [kC315_0, kC315_1, kC315_2, kC315_3] 30000 (some kC315_0) = true := by decide +kernel
theorem ks315_1 : aseg kS krf kB [kE43, kE87, kE299, kE311, kE313, kE314] (ksp [(192, 200, 7, 0, 7, 0)]) kE315 [kC315_0, kC315_1, kC315_2, kC315_3] 30000 (some kC315_1) = true := by decide +kernel
theorem ks315_2 : aseg kS krf kB [kE43, kE87, kE299, kE311, kE313, kE314] (ksp [(192, 200, 7, 0, 7, 0)]) kE315 [kC315_0, kC315_1, kC315_2, kC315_3] 30000 (some kC315_2) = true := by decide +kernel
theorem ks315_3 : aseg kS krf kB [kE43, kE87, kE299, kE311, kE313, kE314] (ksp [(192, 200, 7, 0, 7, 0)]) kE315 [kC315_0, kC315_1, kC315_2, kC315_3] 30000 (some kC315_3) = true := by decide +kernel
theorem kok315 : aOK kS krf kB kE315 := aOK_of (kal1 kok43 (kal1 kok87 (kal1 kok299 (kal1 kok311 (kal1 kok313 (kal1 kok314 kal0)))))) (kcl1 ks315_0 (kcl1 ks315_1 (kcl1 ks315_2 (kcl1 ks315_3 kcl0)))) ks315
/-- ColdShodModel.triesWay(IIIII)V -/
def kE316 : aE := (192, 48, ([kvB 0 7, kvB 0 7, kvB 0 7], [], 0, [kvR 102, kvI 0, kvI 1, kvI 2, kvN 231, kvN 5, none, none], []), ([], none), ([], [], none, ([], [])), kvW60)
def kC316_0 : aC := (([kvB 0 7, kvB 0 7, kvB 0 7, kvB 0 1, kvB 0 5], [], 16, [kvR 102, kvI 0, kvI 1, kvI 2, kvN 231, kvN 5, kvI 3, kvI 4], []), ([], []), (171, [(-1, 4)]))
def kC316_1 : aC := (([kvB 0 7, kvB 0 7, kvB 0 7, kvB 0 12], [], 141, [kvR 102, kvI 0, kvI 1, kvI 2, kvN 231, kvN 5, kvI 3, none], []), ([], []), (141, [(-11, 3)]))
def kC316_2 : aC := (([kvB 0 7, kvB 0 7, kvB 0 7, kvB 0 11, (.negSucc 0, .ofNat 7), kvB 1 12], [(102, 8, .inl (5, .ofNat 0))], 195, [kvR 102, kvI 0, kvI 1, kvI 2, kvN 231, kvN 5, kvI 3, kvI 4], []), ([], []), (139, [(-11, 3), (-1, 4)]))
def kC316_3 : aC := (([kvB 0 7, kvB 0 7, kvB 0 7, kvB 0 5, (.negSucc 0, .ofNat 99)], [(102, 29, .inl (4, .ofNat 0)), (102, 30, .inr (.ofNat 5))], 110, [kvR 102, kvI 0, kvI 1, kvI 2, kvN 231, kvN 5, kvN 1, kvI 3], []), ([], []), (5, [(-1, 3)]))
theorem ks316 : aseg kS krf kB [kE43, kE87, kE300, kE308] (ksp [(192, 200, 7, 0, 7, 0)]) kE316 [kC316_0, kC316_1, kC316_2, kC316_3] 30000 (none) = true := by decide +kernel
theorem ks316_0 : aseg kS krf kB [kE43, kE87, kE300, kE308] (ksp [(192, 200, 7, 0, 7, 0)]) kE316 [kC316_0, kC316_1, kC316_2, kC316_3] 30000 (some kC316_0) = true := by decide +kernel
theorem ks316_1 : aseg kS krf kB [kE43, kE87, kE300, kE308] (ksp [(192, 200, 7, 0, 7, 0)]) kE316 [kC316_0, kC316_1, kC316_2, kC316_3] 30000 (some kC316_1) = true := by decide +kernel
theorem ks316_2 : aseg kS krf kB [kE43, kE87, kE300, kE308] (ksp [(192, 200, 7, 0, 7, 0)]) kE316 [kC316_0, kC316_1, kC316_2, kC316_3] 30000 (some kC316_2) = true := by decide +kernel
theorem ks316_3 : aseg kS krf kB [kE43, kE87, kE300, kE308] (ksp [(192, 200, 7, 0, 7, 0)]) kE316 [kC316_0, kC316_1, kC316_2, kC316_3] 30000 (some kC316_3) = true := by decide +kernel
theorem kok316 : aOK kS krf kB kE316 := aOK_of (kal1 kok43 (kal1 kok87 (kal1 kok300 (kal1 kok308 kal0)))) (kcl1 ks316_0 (kcl1 ks316_1 (kcl1 ks316_2 (kcl1 ks316_3 kcl0)))) ks316
/-- ColdShodModel.triesWay(IIIII)V -/
def kE317 : aE := (192, 49, ([kvB 0 7, kvB 0 7, kvB 0 7], [], 0, [kvR 102, kvI 0, kvI 1, kvI 2, kvN 230, kvN 4, none, none], []), ([], none), ([], [], none, ([], [])), kvW61)
def kC317_0 : aC := (([kvB 0 7, kvB 0 7, kvB 0 7, kvB 0 1, kvB 0 4], [], 16, [kvR 102, kvI 0, kvI 1, kvI 2, kvN 230, kvN 4, kvI 3, kvI 4], []), ([], []), (170, [(-1, 4)]))
def kC317_1 : aC := (([kvB 0 7, kvB 0 7, kvB 0 7, kvB 0 12], [], 141, [kvR 102, kvI 0, kvI 1, kvI 2, kvN 230, kvN 4, kvI 3, none], []), ([], []), (141, [(-11, 3)]))
def kC317_2 : aC := (([kvB 0 7, kvB 0 7, kvB 0 7, kvB 0 11, (.negSucc 0, .ofNat 7), kvB 1 12], [(102, 8, .inl (5, .ofNat 0))], 195, [kvR 102, kvI 0, kvI 1, kvI 2, kvN 230, kvN 4, kvI 3, kvI 4], []), ([], []), (139, [(-11, 3), (-1, 4)]))
def kC317_3 : aC := (([kvB 0 7, kvB 0 7, kvB 0 7, kvB 0 4, (.negSucc 0, .ofNat 99)], [(102, 29, .inl (4, .ofNat 0)), (102, 30, .inr (.ofNat 4))], 110, [kvR 102, kvI 0, kvI 1, kvI 2, kvN 230, kvN 4, kvN 1, kvI 3], []), ([], []), (4, [(-1, 3)]))
theorem ks317 : aseg kS krf kB [kE43, kE87, kE301, kE309, kE316] (ksp [(192, 200, 7, 0, 7, 0)]) kE317 [kC317_0, kC317_1, kC317_2, kC317_3] 30000 (none) = true := by decide +kernel
theorem ks317_0 : aseg kS krf kB [kE43, kE87, kE301, kE309, kE316] (ksp [(192, 200, 7, 0, 7, 0)]) kE317 [kC317_0, kC317_1, kC317_2, kC317_3] 30000 (some kC317_0) = true := by decide +kernel
theorem ks317_1 : aseg kS krf kB [kE43, kE87, kE301, kE309, kE316] (ksp [(192, 200, 7, 0, 7, 0)]) kE317 [kC317_0, kC317_1, kC317_2, kC317_3] 30000 (some kC317_1) = true := by decide +kernel
theorem ks317_2 : aseg kS krf kB [kE43, kE87, kE301, kE309, kE316] (ksp [(192, 200, 7, 0, 7, 0)]) kE317 [kC317_0, kC317_1, kC317_2, kC317_3] 30000 (some kC317_2) = true := by decide +kernel
theorem ks317_3 : aseg kS krf kB [kE43, kE87, kE301, kE309, kE316] (ksp [(192, 200, 7, 0, 7, 0)]) kE317 [kC317_0, kC317_1, kC317_2, kC317_3] 30000 (some kC317_3) = true := by decide +kernel
theorem kok317 : aOK kS krf kB kE317 := aOK_of (kal1 kok43 (kal1 kok87 (kal1 kok301 (kal1 kok309 (kal1 kok316 kal0))))) (kcl1 ks317_0 (kcl1 ks317_1 (kcl1 ks317_2 (kcl1 ks317_3 kcl0)))) ks317
/-- ColdShodModel.triesWay(IIIII)V -/
def kE318 : aE := (192, 49, ([kvB 0 7, kvB 0 7, kvB 0 7], [], 0, [kvR 102, kvI 0, kvI 1, kvI 2, kvN 229, kvN 4, none, none], []), ([], none), ([], [], none, ([], [])), kvW61)
def kC318_0 : aC := (([kvB 0 7, kvB 0 7, kvB 0 7, kvB 0 1, kvB 0 4], [], 16, [kvR 102, kvI 0, kvI 1, kvI 2, kvN 229, kvN 4, kvI 3, kvI 4], []), ([], []), (170, [(-1, 4)]))
def kC318_1 : aC := (([kvB 0 7, kvB 0 7, kvB 0 7, kvB 0 12], [], 141, [kvR 102, kvI 0, kvI 1, kvI 2, kvN 229, kvN 4, kvI 3, none], []), ([], []), (141, [(-11, 3)]))
def kC318_2 : aC := (([kvB 0 7, kvB 0 7, kvB 0 7, kvB 0 11, (.negSucc 0, .ofNat 7), kvB 1 12], [(102, 8, .inl (5, .ofNat 0))], 195, [kvR 102, kvI 0, kvI 1, kvI 2, kvN 229, kvN 4, kvI 3, kvI 4], []), ([], []), (139, [(-11, 3), (-1, 4)]))
def kC318_3 : aC := (([kvB 0 7, kvB 0 7, kvB 0 7, kvB 0 4, (.negSucc 0, .ofNat 99)], [(102, 29, .inl (4, .ofNat 0)), (102, 30, .inr (.ofNat 4))], 110, [kvR 102, kvI 0, kvI 1, kvI 2, kvN 229, kvN 4, kvN 1, kvI 3], []), ([], []), (4, [(-1, 3)]))
theorem ks318 : aseg kS krf kB [kE43, kE87, kE302, kE310, kE316] (ksp [(192, 200, 7, 0, 7, 0)]) kE318 [kC318_0, kC318_1, kC318_2, kC318_3] 30000 (none) = true := by decide +kernel
theorem ks318_0 : aseg kS krf kB [kE43, kE87, kE302, kE310, kE316] (ksp [(192, 200, 7, 0, 7, 0)]) kE318 [kC318_0, kC318_1, kC318_2, kC318_3] 30000 (some kC318_0) = true := by decide +kernel
theorem ks318_1 : aseg kS krf kB [kE43, kE87, kE302, kE310, kE316] (ksp [(192, 200, 7, 0, 7, 0)]) kE318 [kC318_0, kC318_1, kC318_2, kC318_3] 30000 (some kC318_1) = true := by decide +kernel
theorem ks318_2 : aseg kS krf kB [kE43, kE87, kE302, kE310, kE316] (ksp [(192, 200, 7, 0, 7, 0)]) kE318 [kC318_0, kC318_1, kC318_2, kC318_3] 30000 (some kC318_2) = true := by decide +kernel
theorem ks318_3 : aseg kS krf kB [kE43, kE87, kE302, kE310, kE316] (ksp [(192, 200, 7, 0, 7, 0)]) kE318 [kC318_0, kC318_1, kC318_2, kC318_3] 30000 (some kC318_3) = true := by decide +kernel
theorem kok318 : aOK kS krf kB kE318 := aOK_of (kal1 kok43 (kal1 kok87 (kal1 kok302 (kal1 kok310 (kal1 kok316 kal0))))) (kcl1 ks318_0 (kcl1 ks318_1 (kcl1 ks318_2 (kcl1 ks318_3 kcl0)))) ks318
/-- ColdShodModel.triesWay(IIIII)V -/
def kE319 : aE := (192, 50, ([kvB 0 7, kvB 0 7, kvB 0 7], [], 0, [kvR 102, kvI 0, kvI 1, kvI 2, kvN 228, kvN 3, none, none], []), ([], none), ([], [], none, ([], [])), kvW62)
def kC319_0 : aC := (([kvB 0 7, kvB 0 7, kvB 0 7, kvB 0 1, kvB 0 3], [], 16, [kvR 102, kvI 0, kvI 1, kvI 2, kvN 228, kvN 3, kvI 3, kvI 4], []), ([], []), (169, [(-1, 4)]))
def kC319_1 : aC := (([kvB 0 7, kvB 0 7, kvB 0 7, kvB 0 12], [], 141, [kvR 102, kvI 0, kvI 1, kvI 2, kvN 228, kvN 3, kvI 3, none], []), ([], []), (141, [(-11, 3)]))
def kC319_2 : aC := (([kvB 0 7, kvB 0 7, kvB 0 7, kvB 0 11, (.negSucc 0, .ofNat 7), kvB 1 12], [(102, 8, .inl (5, .ofNat 0))], 195, [kvR 102, kvI 0, kvI 1, kvI 2, kvN 228, kvN 3, kvI 3, kvI 4], []), ([], []), (139, [(-11, 3), (-1, 4)]))
def kC319_3 : aC := (([kvB 0 7, kvB 0 7, kvB 0 7, kvB 0 3, (.negSucc 0, .ofNat 99)], [(102, 29, .inl (4, .ofNat 0)), (102, 30, .inr (.ofNat 3))], 110, [kvR 102, kvI 0, kvI 1, kvI 2, kvN 228, kvN 3, kvN 1, kvI 3], []), ([], []), (3, [(-1, 3)]))
theorem ks319 : aseg kS krf kB [kE43, kE87, kE303, kE311, kE317, kE318] (ksp [(192, 200, 7, 0, 7, 0)]) kE319 [kC319_0, kC319_1, kC319_2, kC319_3] 30000 (none) = true := by decide +kernel
theorem ks319_0 : aseg kS krf kB [kE43, kE87, kE303, kE311, kE317, kE318] (ksp [(192, 200, 7, 0, 7, 0)]) kE319 [kC319_0, kC319_1, kC319_2, kC319_3] 30000 (some kC319_0) = true := by decide +kernel
theorem ks319_1 : aseg kS krf kB [kE43, kE87, kE303, kE311, kE317, kE318] (ksp [(192, 200, 7, 0, 7, 0)]) kE319 [kC319_0, kC319_1, kC319_2, kC319_3] 30000 (some kC319_1) = true := by decide +kernel
theorem ks319_2 : aseg kS krf kB [kE43, kE87, kE303, kE311, kE317, kE318] (ksp [(192, 200, 7, 0, 7, 0)]) kE319 [kC319_0, kC319_1, kC319_2, kC319_3] 30000 (some kC319_2) = true := by decide +kernel
theorem ks319_3 : aseg kS krf kB [kE43, kE87, kE303, kE311, kE317, kE318] (ksp [(192, 200, 7, 0, 7, 0)]) kE319 [kC319_0, kC319_1, kC319_2, kC319_3] 30000 (some kC319_3) = true := by decide +kernel
theorem kok319 : aOK kS krf kB kE319 := aOK_of (kal1 kok43 (kal1 kok87 (kal1 kok303 (kal1 kok311 (kal1 kok317 (kal1 kok318 kal0)))))) (kcl1 ks319_0 (kcl1 ks319_1 (kcl1 ks319_2 (kcl1 ks319_3 kcl0)))) ks319
/-- ColdShodModel.triesWay(IIIII)V -/
def kE320 : aE := (192, 49, ([kvB 0 7, kvB 0 7, kvB 0 7], [], 0, [kvR 102, kvI 0, kvI 1, kvI 2, kvN 227, kvN 4, none, none], []), ([], none), ([], [], none, ([], [])), kvW61)
def kC320_0 : aC := (([kvB 0 7, kvB 0 7, kvB 0 7, kvB 0 1, kvB 0 4], [], 16, [kvR 102, kvI 0, kvI 1, kvI 2, kvN 227, kvN 4, kvI 3, kvI 4], []), ([], []), (170, [(-1, 4)]))
def kC320_1 : aC := (([kvB 0 7, kvB 0 7, kvB 0 7, kvB 0 12], [], 141, [kvR 102, kvI 0, kvI 1, kvI 2, kvN 227, kvN 4, kvI 3, none], []), ([], []), (141, [(-11, 3)]))
def kC320_2 : aC := (([kvB 0 7, kvB 0 7, kvB 0 7, kvB 0 11, (.negSucc 0, .ofNat 7), kvB 1 12], [(102, 8, .inl (5, .ofNat 0))], 195, [kvR 102, kvI 0, kvI 1, kvI 2, kvN 227, kvN 4, kvI 3, kvI 4], []), ([], []), (139, [(-11, 3), (-1, 4)]))
def kC320_3 : aC := (([kvB 0 7, kvB 0 7, kvB 0 7, kvB 0 4, (.negSucc 0, .ofNat 99)], [(102, 29, .inl (4, .ofNat 0)), (102, 30, .inr (.ofNat 4))], 110, [kvR 102, kvI 0, kvI 1, kvI 2, kvN 227, kvN 4, kvN 1, kvI 3], []), ([], []), (4, [(-1, 3)]))
theorem ks320 : aseg kS krf kB [kE43, kE87, kE304, kE312, kE316] (ksp [(192, 200, 7, 0, 7, 0)]) kE320 [kC320_0, kC320_1, kC320_2, kC320_3] 30000 (none) = true := by decide +kernel
theorem ks320_0 : aseg kS krf kB [kE43, kE87, kE304, kE312, kE316] (ksp [(192, 200, 7, 0, 7, 0)]) kE320 [kC320_0, kC320_1, kC320_2, kC320_3] 30000 (some kC320_0) = true := by decide +kernel
theorem ks320_1 : aseg kS krf kB [kE43, kE87, kE304, kE312, kE316] (ksp [(192, 200, 7, 0, 7, 0)]) kE320 [kC320_0, kC320_1, kC320_2, kC320_3] 30000 (some kC320_1) = true := by decide +kernel
theorem ks320_2 : aseg kS krf kB [kE43, kE87, kE304, kE312, kE316] (ksp [(192, 200, 7, 0, 7, 0)]) kE320 [kC320_0, kC320_1, kC320_2, kC320_3] 30000 (some kC320_2) = true := by decide +kernel
theorem ks320_3 : aseg kS krf kB [kE43, kE87, kE304, kE312, kE316] (ksp [(192, 200, 7, 0, 7, 0)]) kE320 [kC320_0, kC320_1, kC320_2, kC320_3] 30000 (some kC320_3) = true := by decide +kernel
theorem kok320 : aOK kS krf kB kE320 := aOK_of (kal1 kok43 (kal1 kok87 (kal1 kok304 (kal1 kok312 (kal1 kok316 kal0))))) (kcl1 ks320_0 (kcl1 ks320_1 (kcl1 ks320_2 (kcl1 ks320_3 kcl0)))) ks320
/-- ColdShodModel.triesWay(IIIII)V -/
def kE321 : aE := (192, 50, ([kvB 0 7, kvB 0 7, kvB 0 7], [], 0, [kvR 102, kvI 0, kvI 1, kvI 2, kvN 226, kvN 3, none, none], []), ([], none), ([], [], none, ([], [])), kvW62)
def kC321_0 : aC := (([kvB 0 7, kvB 0 7, kvB 0 7, kvB 0 1, kvB 0 3], [], 16, [kvR 102, kvI 0, kvI 1, kvI 2, kvN 226, kvN 3, kvI 3, kvI 4], []), ([], []), (169, [(-1, 4)]))
def kC321_1 : aC := (([kvB 0 7, kvB 0 7, kvB 0 7, kvB 0 12], [], 141, [kvR 102, kvI 0, kvI 1, kvI 2, kvN 226, kvN 3, kvI 3, none], []), ([], []), (141, [(-11, 3)]))
def kC321_2 : aC := (([kvB 0 7, kvB 0 7, kvB 0 7, kvB 0 11, (.negSucc 0, .ofNat 7), kvB 1 12], [(102, 8, .inl (5, .ofNat 0))], 195, [kvR 102, kvI 0, kvI 1, kvI 2, kvN 226, kvN 3, kvI 3, kvI 4], []), ([], []), (139, [(-11, 3), (-1, 4)]))
def kC321_3 : aC := (([kvB 0 7, kvB 0 7, kvB 0 7, kvB 0 3, (.negSucc 0, .ofNat 99)], [(102, 29, .inl (4, .ofNat 0)), (102, 30, .inr (.ofNat 3))], 110, [kvR 102, kvI 0, kvI 1, kvI 2, kvN 226, kvN 3, kvN 1, kvI 3], []), ([], []), (3, [(-1, 3)]))
theorem ks321 : aseg kS krf kB [kE43, kE87, kE305, kE313, kE317, kE320] (ksp [(192, 200, 7, 0, 7, 0)]) kE321 [kC321_0, kC321_1, kC321_2, kC321_3] 30000 (none) = true := by decide +kernel
theorem ks321_0 : aseg kS krf kB [kE43, kE87, kE305, kE313, kE317, kE320] (ksp [(192, 200, 7, 0, 7, 0)]) kE321 [kC321_0, kC321_1, kC321_2, kC321_3] 30000 (some kC321_0) = true := by decide +kernel
theorem ks321_1 : aseg kS krf kB [kE43, kE87, kE305, kE313, kE317, kE320] (ksp [(192, 200, 7, 0, 7, 0)]) kE321 [kC321_0, kC321_1, kC321_2, kC321_3] 30000 (some kC321_1) = true := by decide +kernel
theorem ks321_2 : aseg kS krf kB [kE43, kE87, kE305, kE313, kE317, kE320] (ksp [(192, 200, 7, 0, 7, 0)]) kE321 [kC321_0, kC321_1, kC321_2, kC321_3] 30000 (some kC321_2) = true := by decide +kernel
theorem ks321_3 : aseg kS krf kB [kE43, kE87, kE305, kE313, kE317, kE320] (ksp [(192, 200, 7, 0, 7, 0)]) kE321 [kC321_0, kC321_1, kC321_2, kC321_3] 30000 (some kC321_3) = true := by decide +kernel
theorem kok321 : aOK kS krf kB kE321 := aOK_of (kal1 kok43 (kal1 kok87 (kal1 kok305 (kal1 kok313 (kal1 kok317 (kal1 kok320 kal0)))))) (kcl1 ks321_0 (kcl1 ks321_1 (kcl1 ks321_2 (kcl1 ks321_3 kcl0)))) ks321
/-- ColdShodModel.triesWay(IIIII)V -/
def kE322 : aE := (192, 50, ([kvB 0 7, kvB 0 7, kvB 0 7], [], 0, [kvR 102, kvI 0, kvI 1, kvI 2, kvN 225, kvN 3, none, none], []), ([], none), ([], [], none, ([], [])), kvW62)
def kC322_0 : aC := (([kvB 0 7, kvB 0 7, kvB 0 7, kvB 0 1, kvB 0 3], [], 16, [kvR 102, kvI 0, kvI 1, kvI 2, kvN 225, kvN 3, kvI 3, kvI 4], []), ([], []), (169, [(-1, 4)]))
def kC322_1 : aC := (([kvB 0 7, kvB 0 7, kvB 0 7, kvB 0 12], [], 141, [kvR 102, kvI 0, kvI 1, kvI 2, kvN 225, kvN 3, kvI 3, none], []), ([], []), (141, [(-11, 3)]))
def kC322_2 : aC := (([kvB 0 7, kvB 0 7, kvB 0 7, kvB 0 11, (.negSucc 0, .ofNat 7), kvB 1 12], [(102, 8, .inl (5, .ofNat 0))], 195, [kvR 102, kvI 0, kvI 1, kvI 2, kvN 225, kvN 3, kvI 3, kvI 4], []), ([], []), (139, [(-11, 3), (-1, 4)]))
def kC322_3 : aC := (([kvB 0 7, kvB 0 7, kvB 0 7, kvB 0 3, (.negSucc 0, .ofNat 99)], [(102, 29, .inl (4, .ofNat 0)), (102, 30, .inr (.ofNat 3))], 110, [kvR 102, kvI 0, kvI 1, kvI 2, kvN 225, kvN 3, kvN 1, kvI 3], []), ([], []), (3, [(-1, 3)]))
theorem ks322 : aseg kS krf kB [kE43, kE87, kE306, kE314, kE318, kE320] (ksp [(192, 200, 7, 0, 7, 0)]) kE322 [kC322_0, kC322_1, kC322_2, kC322_3] 30000 (none) = true := by decide +kernel
theorem ks322_0 : aseg kS krf kB [kE43, kE87, kE306, kE314, kE318, kE320] (ksp [(192, 200, 7, 0, 7, 0)]) kE322 [kC322_0, kC322_1, kC322_2, kC322_3] 30000 (some kC322_0) = true := by decide +kernel
theorem ks322_1 : aseg kS krf kB [kE43, kE87, kE306, kE314, kE318, kE320] (ksp [(192, 200, 7, 0, 7, 0)]) kE322 [kC322_0, kC322_1, kC322_2, kC322_3] 30000 (some kC322_1) = true := by decide +kernel
theorem ks322_2 : aseg kS krf kB [kE43, kE87, kE306, kE314, kE318, kE320] (ksp [(192, 200, 7, 0, 7, 0)]) kE322 [kC322_0, kC322_1, kC322_2, kC322_3] 30000 (some kC322_2) = true := by decide +kernel
theorem ks322_3 : aseg kS krf kB [kE43, kE87, kE306, kE314, kE318, kE320] (ksp [(192, 200, 7, 0, 7, 0)]) kE322 [kC322_0, kC322_1, kC322_2, kC322_3] 30000 (some kC322_3) = true := by decide +kernel
theorem kok322 : aOK kS krf kB kE322 := aOK_of (kal1 kok43 (kal1 kok87 (kal1 kok306 (kal1 kok314 (kal1 kok318 (kal1 kok320 kal0)))))) (kcl1 ks322_0 (kcl1 ks322_1 (kcl1 ks322_2 (kcl1 ks322_3 kcl0)))) ks322
/-- ColdShodModel.triesWay(IIIII)V -/
def kE323 : aE := (192, 51, ([kvB 0 7, kvB 0 7, kvB 0 7], [], 0, [kvR 102, kvI 0, kvI 1, kvI 2, kvN 224, kvN 2, none, none], []), ([], none), ([], [], none, ([], [])), kvW63)
def kC323_0 : aC := (([kvB 0 7, kvB 0 7, kvB 0 7, kvB 0 1, kvB 0 2], [], 16, [kvR 102, kvI 0, kvI 1, kvI 2, kvN 224, kvN 2, kvI 3, kvI 4], []), ([], []), (168, [(-1, 4)]))
def kC323_1 : aC := (([kvB 0 7, kvB 0 7, kvB 0 7, kvB 0 12], [], 141, [kvR 102, kvI 0, kvI 1, kvI 2, kvN 224, kvN 2, kvI 3, none], []), ([], []), (141, [(-11, 3)]))
def kC323_2 : aC := (([kvB 0 7, kvB 0 7, kvB 0 7, kvB 0 11, (.negSucc 0, .ofNat 7), kvB 1 12], [(102, 8, .inl (5, .ofNat 0))], 195, [kvR 102, kvI 0, kvI 1, kvI 2, kvN 224, kvN 2, kvI 3, kvI 4], []), ([], []), (139, [(-11, 3), (-1, 4)]))
def kC323_3 : aC := (([kvB 0 7, kvB 0 7, kvB 0 7, kvB 0 2, (.negSucc 0, .ofNat 99)], [(102, 29, .inl (4, .ofNat 0)), (102, 30, .inr (.ofNat 2))], 110, [kvR 102, kvI 0, kvI 1, kvI 2, kvN 224, kvN 2, kvN 1, kvI 3], []), ([], []), (2, [(-1, 3)]))
theorem ks323 : aseg kS krf kB [kE43, kE87, kE307, kE315, kE319, kE321, kE322] (ksp [(192, 200, 7, 0, 7, 0)]) kE323 [kC323_0, kC323_1, kC323_2, kC323_3] 30000 (none) = true := by decide +kernel
theorem ks323_0 : aseg kS krf kB [kE43, kE87, kE307, kE315, kE319, kE321, kE322] (ksp [(192, 200, 7, 0, 7, 0)]) kE323 [kC323_0, kC323_1, kC323_2, kC323_3] 30000 (some kC323_0) = true := by decide +kernel
theorem ks323_1 : aseg kS krf kB [kE43, kE87, kE307, kE315, kE319, kE321, kE322] (ksp [(192, 200, 7, 0, 7, 0)]) kE323 [kC323_0, kC323_1, kC323_2, kC323_3] 30000 (some kC323_1) = true := by decide +kernel
theorem ks323_2 : aseg kS krf kB [kE43, kE87, kE307, kE315, kE319, kE321, kE322] (ksp [(192, 200, 7, 0, 7, 0)]) kE323 [kC323_0, kC323_1, kC323_2, kC323_3] 30000 (some kC323_2) = true := by decide +kernel
theorem ks323_3 : aseg kS krf kB [kE43, kE87, kE307, kE315, kE319, kE321, kE322] (ksp [(192, 200, 7, 0, 7, 0)]) kE323 [kC323_0, kC323_1, kC323_2, kC323_3] 30000 (some kC323_3) = true := by decide +kernel
theorem kok323 : aOK kS krf kB kE323 := aOK_of (kal1 kok43 (kal1 kok87 (kal1 kok307 (kal1 kok315 (kal1 kok319 (kal1 kok321 (kal1 kok322 kal0))))))) (kcl1 ks323_0 (kcl1 ks323_1 (kcl1 ks323_2 (kcl1 ks323_3 kcl0)))) ks323
/-- ColdShodModel.triesWay(IIIII)V -/
def kE324 : aE := (192, 47, ([kvB 0 7, kvB 0 7, kvB 0 7], [], 0, [kvR 102, kvI 0, kvI 1, kvI 2, kvN 223, kvN 6, none, none], []), ([], none), ([], [], none, ([], [])), kvW59)
def kC324_0 : aC := (([kvB 0 7, kvB 0 7, kvB 0 7, kvB 0 1, kvB 0 6], [], 16, [kvR 102, kvI 0, kvI 1, kvI 2, kvN 223, kvN 6, kvI 3, kvI 4], []), ([], []), (172, [(-1, 4)]))
def kC324_1 : aC := (([kvB 0 7, kvB 0 7, kvB 0 7, kvB 0 12], [], 141, [kvR 102, kvI 0, kvI 1, kvI 2, kvN 223, kvN 6, kvI 3, none], []), ([], []), (141, [(-11, 3)]))
def kC324_2 : aC := (([kvB 0 7, kvB 0 7, kvB 0 7, kvB 0 11, (.negSucc 0, .ofNat 7), kvB 1 12], [(102, 8, .inl (5, .ofNat 0))], 195, [kvR 102, kvI 0, kvI 1, kvI 2, kvN 223, kvN 6, kvI 3, kvI 4], []), ([], []), (139, [(-11, 3), (-1, 4)]))
def kC324_3 : aC := (([kvB 0 7, kvB 0 7, kvB 0 7, kvB 0 6, (.negSucc 0, .ofNat 99)], [(102, 29, .inl (4, .ofNat 0)), (102, 30, .inr (.ofNat 6))], 110, [kvR 102, kvI 0, kvI 1, kvI 2, kvN 223, kvN 6, kvN 1, kvI 3], []), ([], []), (6, [(-1, 3)]))
theorem ks324 : aseg kS krf kB [kE43, kE87, kE292] (ksp [(192, 200, 7, 0, 7, 0)]) kE324 [kC324_0, kC324_1, kC324_2, kC324_3] 30000 (none) = true := by decide +kernel
theorem ks324_0 : aseg kS krf kB [kE43, kE87, kE292] (ksp [(192, 200, 7, 0, 7, 0)]) kE324 [kC324_0, kC324_1, kC324_2, kC324_3] 30000 (some kC324_0) = true := by decide +kernel
theorem ks324_1 : aseg kS krf kB [kE43, kE87, kE292] (ksp [(192, 200, 7, 0, 7, 0)]) kE324 [kC324_0, kC324_1, kC324_2, kC324_3] 30000 (some kC324_1) = true := by decide +kernel
theorem ks324_2 : aseg kS krf kB [kE43, kE87, kE292] (ksp [(192, 200, 7, 0, 7, 0)]) kE324 [kC324_0, kC324_1, kC324_2, kC324_3] 30000 (some kC324_2) = true := by decide +kernel
theorem ks324_3 : aseg kS krf kB [kE43, kE87, kE292] (ksp [(192, 200, 7, 0, 7, 0)]) kE324 [kC324_0, kC324_1, kC324_2, kC324_3] 30000 (some kC324_3) = true := by decide +kernel
theorem kok324 : aOK kS krf kB kE324 := aOK_of (kal1 kok43 (kal1 kok87 (kal1 kok292 kal0))) (kcl1 ks324_0 (kcl1 ks324_1 (kcl1 ks324_2 (kcl1 ks324_3 kcl0)))) ks324
/-- ColdShodModel.triesWay(IIIII)V -/
def kE325 : aE := (192, 48, ([kvB 0 7, kvB 0 7, kvB 0 7], [], 0, [kvR 102, kvI 0, kvI 1, kvI 2, kvN 222, kvN 5, none, none], []), ([], none), ([], [], none, ([], [])), kvW60)
def kC325_0 : aC := (([kvB 0 7, kvB 0 7, kvB 0 7, kvB 0 1, kvB 0 5], [], 16, [kvR 102, kvI 0, kvI 1, kvI 2, kvN 222, kvN 5, kvI 3, kvI 4], []), ([], []), (171, [(-1, 4)]))
def kC325_1 : aC := (([kvB 0 7, kvB 0 7, kvB 0 7, kvB 0 12], [], 141, [kvR 102, kvI 0, kvI 1, kvI 2, kvN 222, kvN 5, kvI 3, none], []), ([], []), (141, [(-11, 3)]))
def kC325_2 : aC := (([kvB 0 7, kvB 0 7, kvB 0 7, kvB 0 11, (.negSucc 0, .ofNat 7), kvB 1 12], [(102, 8, .inl (5, .ofNat 0))], 195, [kvR 102, kvI 0, kvI 1, kvI 2, kvN 222, kvN 5, kvI 3, kvI 4], []), ([], []), (139, [(-11, 3), (-1, 4)]))
def kC325_3 : aC := (([kvB 0 7, kvB 0 7, kvB 0 7, kvB 0 5, (.negSucc 0, .ofNat 99)], [(102, 29, .inl (4, .ofNat 0)), (102, 30, .inr (.ofNat 5))], 110, [kvR 102, kvI 0, kvI 1, kvI 2, kvN 222, kvN 5, kvN 1, kvI 3], []), ([], []), (5, [(-1, 3)]))
theorem ks325 : aseg kS krf kB [kE43, kE87, kE293, kE324] (ksp [(192, 200, 7, 0, 7, 0)]) kE325 [kC325_0, kC325_1, kC325_2, kC325_3] 30000 (none) = true := by decide +kernel
theorem ks325_0 : aseg kS krf kB [kE43, kE87, kE293, kE324] (ksp [(192, 200, 7, 0, 7, 0)]) kE325 [kC325_0, kC325_1, kC325_2, kC325_3] 30000 (some kC325_0) = true := by decide +kernel
theorem ks325_1 : aseg kS krf kB [kE43, kE87, kE293, kE324] (ksp [(192, 200, 7, 0, 7, 0)]) kE325 [kC325_0, kC325_1, kC325_2, kC325_3] 30000 (some kC325_1) = true := by decide +kernel
theorem ks325_2 : aseg kS krf kB [kE43, kE87, kE293, kE324] (ksp [(192, 200, 7, 0, 7, 0)]) kE325 [kC325_0, kC325_1, kC325_2, kC325_3] 30000 (some kC325_2) = true := by decide +kernel
theorem ks325_3 : aseg kS krf kB [kE43, kE87, kE293, kE324] (ksp [(192, 200, 7, 0, 7, 0)]) kE325 [kC325_0, kC325_1, kC325_2, kC325_3] 30000 (some kC325_3) = true := by decide +kernel
theorem kok325 : aOK kS krf kB kE325 := aOK_of (kal1 kok43 (kal1 kok87 (kal1 kok293 (kal1 kok324 kal0)))) (kcl1 ks325_0 (kcl1 ks325_1 (kcl1 ks325_2 (kcl1 ks325_3 kcl0)))) ks325
/-- ColdShodModel.triesWay(IIIII)V -/
def kE326 : aE := (192, 48, ([kvB 0 7, kvB 0 7, kvB 0 7], [], 0, [kvR 102, kvI 0, kvI 1, kvI 2, kvN 221, kvN 5, none, none], []), ([], none), ([], [], none, ([], [])), kvW60)
def kC326_0 : aC := (([kvB 0 7, kvB 0 7, kvB 0 7, kvB 0 1, kvB 0 5], [], 16, [kvR 102, kvI 0, kvI 1, kvI 2, kvN 221, kvN 5, kvI 3, kvI 4], []), ([], []), (171, [(-1, 4)]))
def kC326_1 : aC := (([kvB 0 7, kvB 0 7, kvB 0 7, kvB 0 12], [], 141, [kvR 102, kvI 0, kvI 1, kvI 2, kvN 221, kvN 5, kvI 3, none], []), ([], []), (141, [(-11, 3)]))
def kC326_2 : aC := (([kvB 0 7, kvB 0 7, kvB 0 7, kvB 0 11, (.negSucc 0, .ofNat 7), kvB 1 12], [(102, 8, .inl (5, .ofNat 0))], 195, [kvR 102, kvI 0, kvI 1, kvI 2, kvN 221, kvN 5, kvI 3, kvI 4], []), ([], []), (139, [(-11, 3), (-1, 4)]))
def kC326_3 : aC := (([kvB 0 7, kvB 0 7, kvB 0 7, kvB 0 5, (.negSucc 0, .ofNat 99)], [(102, 29, .inl (4, .ofNat 0)), (102, 30, .inr (.ofNat 5))], 110, [kvR 102, kvI 0, kvI 1, kvI 2, kvN 221, kvN 5, kvN 1, kvI 3], []), ([], []), (5, [(-1, 3)]))
theorem ks326 : aseg kS krf kB [kE43, kE87, kE294, kE324] (ksp [(192, 200, 7, 0, 7, 0)]) kE326 [kC326_0, kC326_1, kC326_2, kC326_3] 30000 (none) = true := by decide +kernel
theorem ks326_0 : aseg kS krf kB [kE43, kE87, kE294, kE324] (ksp [(192, 200, 7, 0, 7, 0)]) kE326 [kC326_0, kC326_1, kC326_2, kC326_3] 30000 (some kC326_0) = true := by decide +kernel
theorem ks326_1 : aseg kS krf kB [kE43, kE87, kE294, kE324] (ksp [(192, 200, 7, 0, 7, 0)]) kE326 [kC326_0, kC326_1, kC326_2, kC326_3] 30000 (some kC326_1) = true := by decide +kernel
theorem ks326_2 : aseg kS krf kB [kE43, kE87, kE294, kE324] (ksp [(192, 200, 7, 0, 7, 0)]) kE326 [kC326_0, kC326_1, kC326_2, kC326_3] 30000 (some kC326_2) = true := by decide +kernel
theorem ks326_3 : aseg kS krf kB [kE43, kE87, kE294, kE324] (ksp [(192, 200, 7, 0, 7, 0)]) kE326 [kC326_0, kC326_1, kC326_2, kC326_3] 30000 (some kC326_3) = true := by decide +kernel
theorem kok326 : aOK kS krf kB kE326 := aOK_of (kal1 kok43 (kal1 kok87 (kal1 kok294 (kal1 kok324 kal0)))) (kcl1 ks326_0 (kcl1 ks326_1 (kcl1 ks326_2 (kcl1 ks326_3 kcl0)))) ks326
/-- ColdShodModel.triesWay(IIIII)V -/
def kE327 : aE := (192, 49, ([kvB 0 7, kvB 0 7, kvB 0 7], [], 0, [kvR 102, kvI 0, kvI 1, kvI 2, kvN 220, kvN 4, none, none], []), ([], none), ([], [], none, ([], [])), kvW61)
def kC327_0 : aC := (([kvB 0 7, kvB 0 7, kvB 0 7, kvB 0 1, kvB 0 4], [], 16, [kvR 102, kvI 0, kvI 1, kvI 2, kvN 220, kvN 4, kvI 3, kvI 4], []), ([], []), (170, [(-1, 4)]))
def kC327_1 : aC := (([kvB 0 7, kvB 0 7, kvB 0 7, kvB 0 12], [], 141, [kvR 102, kvI 0, kvI 1, kvI 2, kvN 220, kvN 4, kvI 3, none], []), ([], []), (141, [(-11, 3)]))
def kC327_2 : aC := (([kvB 0 7, kvB 0 7, kvB 0 7, kvB 0 11, (.negSucc 0, .ofNat 7), kvB 1 12], [(102, 8, .inl (5, .ofNat 0))], 195, [kvR 102, kvI 0, kvI 1, kvI 2, kvN 220, kvN 4, kvI 3, kvI 4], []), ([], []), (139, [(-11, 3), (-1, 4)]))
def kC327_3 : aC := (([kvB 0 7, kvB 0 7, kvB 0 7, kvB 0 4, (.negSucc 0, .ofNat 99)], [(102, 29, .inl (4, .ofNat 0)), (102, 30, .inr (.ofNat 4))], 110, [kvR 102, kvI 0, kvI 1, kvI 2, kvN 220, kvN 4, kvN 1, kvI 3], []), ([], []), (4, [(-1, 3)]))
theorem ks327 : aseg kS krf kB [kE43, kE87, kE295, kE325, kE326] (ksp [(192, 200, 7, 0, 7, 0)]) kE327 [kC327_0, kC327_1, kC327_2, kC327_3] 30000 (none) = true := by decide +kernel
theorem ks327_0 : aseg kS krf kB [kE43, kE87, kE295, kE325, kE326] (ksp [(192, 200, 7, 0, 7, 0)]) kE327 [kC327_0, kC327_1, kC327_2, kC327_3] 30000 (some kC327_0) = true := by decide +kernel
theorem ks327_1 : aseg kS krf kB [kE43, kE87, kE295, kE325, kE326] (ksp [(192, 200, 7, 0, 7, 0)]) kE327 [kC327_0, kC327_1, kC327_2, kC327_3] 30000 (some kC327_1) = true := by decide +kernel
theorem ks327_2 : aseg kS krf kB [kE43, kE87, kE295, kE325, kE326] (ksp [(192, 200, 7, 0, 7, 0)]) kE327 [kC327_0, kC327_1, kC327_2, kC327_3] 30000 (some kC327_2) = true := by decide +kernel
theorem ks327_3 : aseg kS krf kB [kE43, kE87, kE295, kE325, kE326] (ksp [(192, 200, 7, 0, 7, 0)]) kE327 [kC327_0, kC327_1, kC327_2, kC327_3] 30000 (some kC327_3) = true := by decide +kernel
theorem kok327 : aOK kS krf kB kE327 := aOK_of (kal1 kok43 (kal1 kok87 (kal1 kok295 (kal1 kok325 (kal1 kok326 kal0))))) (kcl1 ks327_0 (kcl1 ks327_1 (kcl1 ks327_2 (kcl1 ks327_3 kcl0)))) ks327
/-- ColdShodModel.triesWay(IIIII)V -/
def kE328 : aE := (192, 48, ([kvB 0 7, kvB 0 7, kvB 0 7], [], 0, [kvR 102, kvI 0, kvI 1, kvI 2, kvN 219, kvN 5, none, none], []), ([], none), ([], [], none, ([], [])), kvW60)
def kC328_0 : aC := (([kvB 0 7, kvB 0 7, kvB 0 7, kvB 0 1, kvB 0 5], [], 16, [kvR 102, kvI 0, kvI 1, kvI 2, kvN 219, kvN 5, kvI 3, kvI 4], []), ([], []), (171, [(-1, 4)]))
def kC328_1 : aC := (([kvB 0 7, kvB 0 7, kvB 0 7, kvB 0 12], [], 141, [kvR 102, kvI 0, kvI 1, kvI 2, kvN 219, kvN 5, kvI 3, none], []), ([], []), (141, [(-11, 3)]))
def kC328_2 : aC := (([kvB 0 7, kvB 0 7, kvB 0 7, kvB 0 11, (.negSucc 0, .ofNat 7), kvB 1 12], [(102, 8, .inl (5, .ofNat 0))], 195, [kvR 102, kvI 0, kvI 1, kvI 2, kvN 219, kvN 5, kvI 3, kvI 4], []), ([], []), (139, [(-11, 3), (-1, 4)]))
def kC328_3 : aC := (([kvB 0 7, kvB 0 7, kvB 0 7, kvB 0 5, (.negSucc 0, .ofNat 99)], [(102, 29, .inl (4, .ofNat 0)), (102, 30, .inr (.ofNat 5))], 110, [kvR 102, kvI 0, kvI 1, kvI 2, kvN 219, kvN 5, kvN 1, kvI 3], []), ([], []), (5, [(-1, 3)]))
theorem ks328 : aseg kS krf kB [kE43, kE87, kE296, kE324] (ksp [(192, 200, 7, 0, 7, 0)]) kE328 [kC328_0, kC328_1, kC328_2, kC328_3] 30000 (none) = true := by decide +kernel
theorem ks328_0 : aseg kS krf kB [kE43, kE87, kE296, kE324] (ksp [(192, 200, 7, 0, 7, 0)]) kE328 [kC328_0, kC328_1, kC328_2, kC328_3] 30000 (some kC328_0) = true := by decide +kernel
theorem ks328_1 : aseg kS krf kB [kE43, kE87, kE296, kE324] (ksp [(192, 200, 7, 0, 7, 0)]) kE328 [kC328_0, kC328_1, kC328_2, kC328_3] 30000 (some kC328_1) = true := by decide +kernel
theorem ks328_2 : aseg kS krf kB [kE43, kE87, kE296, kE324] (ksp [(192, 200, 7, 0, 7, 0)]) kE328 [kC328_0, kC328_1, kC328_2, kC328_3] 30000 (some kC328_2) = true := by decide +kernel
theorem ks328_3 : aseg kS krf kB [kE43, kE87, kE296, kE324] (ksp [(192, 200, 7, 0, 7, 0)]) kE328 [kC328_0, kC328_1, kC328_2, kC328_3] 30000 (some kC328_3) = true := by decide +kernel
theorem kok328 : aOK kS krf kB kE328 := aOK_of (kal1 kok43 (kal1 kok87 (kal1 kok296 (kal1 kok324 kal0)))) (kcl1 ks328_0 (kcl1 ks328_1 (kcl1 ks328_2 (kcl1 ks328_3 kcl0)))) ks328
/-- ColdShodModel.triesWay(IIIII)V -/
def kE329 : aE := (192, 49, ([kvB 0 7, kvB 0 7, kvB 0 7], [], 0, [kvR 102, kvI 0, kvI 1, kvI 2, kvN 218, kvN 4, none, none], []), ([], none), ([], [], none, ([], [])), kvW61)
def kC329_0 : aC := (([kvB 0 7, kvB 0 7, kvB 0 7, kvB 0 1, kvB 0 4], [], 16, [kvR 102, kvI 0, kvI 1, kvI 2, kvN 218, kvN 4, kvI 3, kvI 4], []), ([], []), (170, [(-1, 4)]))
def kC329_1 : aC := (([kvB 0 7, kvB 0 7, kvB 0 7, kvB 0 12], [], 141, [kvR 102, kvI 0, kvI 1, kvI 2, kvN 218, kvN 4, kvI 3, none], []), ([], []), (141, [(-11, 3)]))
def kC329_2 : aC := (([kvB 0 7, kvB 0 7, kvB 0 7, kvB 0 11, (.negSucc 0, .ofNat 7), kvB 1 12], [(102, 8, .inl (5, .ofNat 0))], 195, [kvR 102, kvI 0, kvI 1, kvI 2, kvN 218, kvN 4, kvI 3, kvI 4], []), ([], []), (139, [(-11, 3), (-1, 4)]))
def kC329_3 : aC := (([kvB 0 7, kvB 0 7, kvB 0 7, kvB 0 4, (.negSucc 0, .ofNat 99)], [(102, 29, .inl (4, .ofNat 0)), (102, 30, .inr (.ofNat 4))], 110, [kvR 102, kvI 0, kvI 1, kvI 2, kvN 218, kvN 4, kvN 1, kvI 3], []), ([], []), (4, [(-1, 3)]))
theorem ks329 : aseg kS krf kB [kE43, kE87, kE297, kE325, kE328] (ksp [(192, 200, 7, 0, 7, 0)]) kE329 [kC329_0, kC329_1, kC329_2, kC329_3] 30000 (none) = true := by decide +kernel
theorem ks329_0 : aseg kS krf kB [kE43, kE87, kE297, kE325, kE328] (ksp [(192, 200, 7, 0, 7, 0)]) kE329 [kC329_0, kC329_1, kC329_2, kC329_3] 30000 (some kC329_0) = true := by decide +kernel
theorem ks329_1 : aseg kS krf kB [kE43, kE87, kE297, kE325, kE328] (ksp [(192, 200, 7, 0, 7, 0)]) kE329 [kC329_0, kC329_1, kC329_2, kC329_3] 30000 (some kC329_1) = true := by decide +kernel
theorem ks329_2 : aseg kS krf kB [kE43, kE87, kE297, kE325, kE328] (ksp [(192, 200, 7, 0, 7, 0)]) kE329 [kC329_0, kC329_1, kC329_2, kC329_3] 30000 (some kC329_2) = true := by decide +kernel
theorem ks329_3 : aseg kS krf kB [kE43, kE87, kE297, kE325, kE328] (ksp [(192, 200, 7, 0, 7, 0)]) kE329 [kC329_0, kC329_1, kC329_2, kC329_3] 30000 (some kC329_3) = true := by decide +kernel
theorem kok329 : aOK kS krf kB kE329 := aOK_of (kal1 kok43 (kal1 kok87 (kal1 kok297 (kal1 kok325 (kal1 kok328 kal0))))) (kcl1 ks329_0 (kcl1 ks329_1 (kcl1 ks329_2 (kcl1 ks329_3 kcl0)))) ks329
/-- ColdShodModel.triesWay(IIIII)V -/
def kE330 : aE := (192, 49, ([kvB 0 7, kvB 0 7, kvB 0 7], [], 0, [kvR 102, kvI 0, kvI 1, kvI 2, kvN 217, kvN 4, none, none], []), ([], none), ([], [], none, ([], [])), kvW61)
def kC330_0 : aC := (([kvB 0 7, kvB 0 7, kvB 0 7, kvB 0 1, kvB 0 4], [], 16, [kvR 102, kvI 0, kvI 1, kvI 2, kvN 217, kvN 4, kvI 3, kvI 4], []), ([], []), (170, [(-1, 4)]))
def kC330_1 : aC := (([kvB 0 7, kvB 0 7, kvB 0 7, kvB 0 12], [], 141, [kvR 102, kvI 0, kvI 1, kvI 2, kvN 217, kvN 4, kvI 3, none], []), ([], []), (141, [(-11, 3)]))
def kC330_2 : aC := (([kvB 0 7, kvB 0 7, kvB 0 7, kvB 0 11, (.negSucc 0, .ofNat 7), kvB 1 12], [(102, 8, .inl (5, .ofNat 0))], 195, [kvR 102, kvI 0, kvI 1, kvI 2, kvN 217, kvN 4, kvI 3, kvI 4], []), ([], []), (139, [(-11, 3), (-1, 4)]))
def kC330_3 : aC := (([kvB 0 7, kvB 0 7, kvB 0 7, kvB 0 4, (.negSucc 0, .ofNat 99)], [(102, 29, .inl (4, .ofNat 0)), (102, 30, .inr (.ofNat 4))], 110, [kvR 102, kvI 0, kvI 1, kvI 2, kvN 217, kvN 4, kvN 1, kvI 3], []), ([], []), (4, [(-1, 3)]))
theorem ks330 : aseg kS krf kB [kE43, kE87, kE298, kE326, kE328] (ksp [(192, 200, 7, 0, 7, 0)]) kE330 [kC330_0, kC330_1, kC330_2, kC330_3] 30000 (none) = true := by decide +kernel
theorem ks330_0 : aseg kS krf kB [kE43, kE87, kE298, kE326, kE328] (ksp [(192, 200, 7, 0, 7, 0)]) kE330 [kC330_0, kC330_1, kC330_2, kC330_3] 30000 (some kC330_0) = true := by decide +kernel
theorem ks330_1 : aseg kS krf kB [kE43, kE87, kE298, kE326, kE328] (ksp [(192, 200, 7, 0, 7, 0)]) kE330 [kC330_0, kC330_1, kC330_2, kC330_3] 30000 (some kC330_1) = true := by decide +kernel
theorem ks330_2 : aseg kS krf kB [kE43, kE87, kE298, kE326, kE328] (ksp [(192, 200, 7, 0, 7, 0)]) kE330 [kC330_0, kC330_1, kC330_2, kC330_3] 30000 (some kC330_2) = true := by decide +kernel
theorem ks330_3 : aseg kS krf kB [kE43, kE87, kE298, kE326, kE328] (ksp [(192, 200, 7, 0, 7, 0)]) kE330 [kC330_0, kC330_1, kC330_2, kC330_3] 30000 (some kC330_3) = true := by decide +kernel
theorem kok330 : aOK kS krf kB kE330 := aOK_of (kal1 kok43 (kal1 kok87 (kal1 kok298 (kal1 kok326 (kal1 kok328 kal0))))) (kcl1 ks330_0 (kcl1 ks330_1 (kcl1 ks330_2 (kcl1 ks330_3 kcl0)))) ks330
